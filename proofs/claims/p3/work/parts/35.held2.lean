abbrev cX4_isHeld : ByteArray := prog_6_method_25_code
def yX4_isHeld : MethodName := ⟨RX4, "isHeld", "(I)Z"⟩
theorem dX4_isHeld_0 : decode cX4_isHeld 0 = .ok (.aload_n 0, 1) := by decide +kernel
theorem dX4_isHeld_1 : decode cX4_isHeld 1 = .ok (.getfield 43, 3) := by decide +kernel
theorem dX4_isHeld_4 : decode cX4_isHeld 4 = .ok (.invokevirtual 304, 3) := by decide +kernel
theorem dX4_isHeld_7 : decode cX4_isHeld 7 = .ok (.istore_n 2, 1) := by decide +kernel
theorem dX4_isHeld_8 : decode cX4_isHeld 8 = .ok (.iload_n 2, 1) := by decide +kernel
theorem dX4_isHeld_9 : decode cX4_isHeld 9 = .ok (.aload_n 0, 1) := by decide +kernel
theorem dX4_isHeld_10 : decode cX4_isHeld 10 = .ok (.getfield 36, 3) := by decide +kernel
theorem dX4_isHeld_13 : decode cX4_isHeld 13 = .ok (.invokevirtual 305, 3) := by decide +kernel
theorem dX4_isHeld_16 : decode cX4_isHeld 16 = .ok (.if_icmp .le 148, 3) := by decide +kernel
theorem dX4_isHeld_19 : decode cX4_isHeld 19 = .ok (.aload_n 0, 1) := by decide +kernel
theorem dX4_isHeld_20 : decode cX4_isHeld 20 = .ok (.getfield 43, 3) := by decide +kernel
theorem dX4_isHeld_23 : decode cX4_isHeld 23 = .ok (.invokevirtual 308, 3) := by decide +kernel
theorem dX4_isHeld_26 : decode cX4_isHeld 26 = .ok (.istore_n 3, 1) := by decide +kernel
theorem dX4_isHeld_27 : decode cX4_isHeld 27 = .ok (.iload_n 3, 1) := by decide +kernel
theorem dX4_isHeld_28 : decode cX4_isHeld 28 = .ok (.iconst 4, 1) := by decide +kernel
theorem dX4_isHeld_29 : decode cX4_isHeld 29 = .ok (.if_icmp .ne 39, 3) := by decide +kernel
theorem dX4_isHeld_32 : decode cX4_isHeld 32 = .ok (.aload_n 0, 1) := by decide +kernel
theorem dX4_isHeld_33 : decode cX4_isHeld 33 = .ok (.getfield 43, 3) := by decide +kernel
theorem dX4_isHeld_36 : decode cX4_isHeld 36 = .ok (.iconst 2, 1) := by decide +kernel
theorem dX4_isHeld_37 : decode cX4_isHeld 37 = .ok (.iload_n 1, 1) := by decide +kernel
theorem dX4_isHeld_38 : decode cX4_isHeld 38 = .ok (.invokevirtual 249, 3) := by decide +kernel
theorem dX4_isHeld_41 : decode cX4_isHeld 41 = .ok (.aload_n 0, 1) := by decide +kernel
theorem dX4_isHeld_42 : decode cX4_isHeld 42 = .ok (.getfield 14, 3) := by decide +kernel
theorem dX4_isHeld_45 : decode cX4_isHeld 45 = .ok (.aload_n 0, 1) := by decide +kernel
theorem dX4_isHeld_46 : decode cX4_isHeld 46 = .ok (.getfield 36, 3) := by decide +kernel
theorem dX4_isHeld_49 : decode cX4_isHeld 49 = .ok (.invokevirtual 310, 3) := by decide +kernel
theorem dX4_isHeld_52 : decode cX4_isHeld 52 = .ok (.invokevirtual 151, 3) := by decide +kernel
theorem dX4_isHeld_55 : decode cX4_isHeld 55 = .ok (.aload_n 0, 1) := by decide +kernel
theorem dX4_isHeld_56 : decode cX4_isHeld 56 = .ok (.aload_n 0, 1) := by decide +kernel
theorem dX4_isHeld_57 : decode cX4_isHeld 57 = .ok (.getfield 43, 3) := by decide +kernel
theorem dX4_isHeld_60 : decode cX4_isHeld 60 = .ok (.invokevirtual 313, 3) := by decide +kernel
theorem dX4_isHeld_63 : decode cX4_isHeld 63 = .ok (.putfield 55, 3) := by decide +kernel
theorem dX4_isHeld_66 : decode cX4_isHeld 66 = .ok (.iconst 1, 1) := by decide +kernel
theorem dX4_isHeld_67 : decode cX4_isHeld 67 = .ok (.ireturn, 1) := by decide +kernel
theorem dX4_isHeld_68 : decode cX4_isHeld 68 = .ok (.iload_n 3, 1) := by decide +kernel
theorem dX4_isHeld_69 : decode cX4_isHeld 69 = .ok (.iconst 5, 1) := by decide +kernel
theorem dX4_isHeld_70 : decode cX4_isHeld 70 = .ok (.if_icmp .ne 18, 3) := by decide +kernel
theorem dX4_isHeld_73 : decode cX4_isHeld 73 = .ok (.aload_n 0, 1) := by decide +kernel
theorem dX4_isHeld_74 : decode cX4_isHeld 74 = .ok (.getfield 29, 3) := by decide +kernel
theorem dX4_isHeld_77 : decode cX4_isHeld 77 = .ok (.iload_n 1, 1) := by decide +kernel
theorem dX4_isHeld_78 : decode cX4_isHeld 78 = .ok (.aload_n 0, 1) := by decide +kernel
theorem dX4_isHeld_79 : decode cX4_isHeld 79 = .ok (.getfield 43, 3) := by decide +kernel
theorem dX4_isHeld_82 : decode cX4_isHeld 82 = .ok (.invokevirtual 316, 3) := by decide +kernel
theorem dX4_isHeld_85 : decode cX4_isHeld 85 = .ok (.invokevirtual 319, 3) := by decide +kernel
theorem dX4_isHeld_88 : decode cX4_isHeld 88 = .ok (.aload_n 0, 1) := by decide +kernel
theorem dX4_isHeld_89 : decode cX4_isHeld 89 = .ok (.iload_n 3, 1) := by decide +kernel
theorem dX4_isHeld_90 : decode cX4_isHeld 90 = .ok (.aload_n 0, 1) := by decide +kernel
theorem dX4_isHeld_91 : decode cX4_isHeld 91 = .ok (.getfield 29, 3) := by decide +kernel
theorem dX4_isHeld_94 : decode cX4_isHeld 94 = .ok (.iload_n 1, 1) := by decide +kernel
theorem dX4_isHeld_95 : decode cX4_isHeld 95 = .ok (.iconst 1, 1) := by decide +kernel
theorem dX4_isHeld_96 : decode cX4_isHeld 96 = .ok (.invokevirtual 113, 3) := by decide +kernel
theorem dX4_isHeld_99 : decode cX4_isHeld 99 = .ok (.invokevirtual 322, 3) := by decide +kernel
theorem dX4_isHeld_102 : decode cX4_isHeld 102 = .ok (.istore 4, 2) := by decide +kernel
theorem dX4_isHeld_104 : decode cX4_isHeld 104 = .ok (.aload_n 0, 1) := by decide +kernel
theorem dX4_isHeld_105 : decode cX4_isHeld 105 = .ok (.getfield 43, 3) := by decide +kernel
theorem dX4_isHeld_108 : decode cX4_isHeld 108 = .ok (.invokevirtual 246, 3) := by decide +kernel
theorem dX4_isHeld_111 : decode cX4_isHeld 111 = .ok (.iload 4, 2) := by decide +kernel
theorem dX4_isHeld_113 : decode cX4_isHeld 113 = .ok (.ifCond .lt 45, 3) := by decide +kernel
theorem dX4_isHeld_116 : decode cX4_isHeld 116 = .ok (.aload_n 0, 1) := by decide +kernel
theorem dX4_isHeld_117 : decode cX4_isHeld 117 = .ok (.getfield 14, 3) := by decide +kernel
theorem dX4_isHeld_120 : decode cX4_isHeld 120 = .ok (.aload_n 0, 1) := by decide +kernel
theorem dX4_isHeld_121 : decode cX4_isHeld 121 = .ok (.getfield 36, 3) := by decide +kernel
theorem dX4_isHeld_124 : decode cX4_isHeld 124 = .ok (.invokevirtual 310, 3) := by decide +kernel
theorem dX4_isHeld_127 : decode cX4_isHeld 127 = .ok (.invokevirtual 151, 3) := by decide +kernel
theorem dX4_isHeld_130 : decode cX4_isHeld 130 = .ok (.iload_n 3, 1) := by decide +kernel
theorem dX4_isHeld_131 : decode cX4_isHeld 131 = .ok (.iconst 2, 1) := by decide +kernel
theorem dX4_isHeld_132 : decode cX4_isHeld 132 = .ok (.if_icmp .eq 18, 3) := by decide +kernel
theorem dX4_isHeld_135 : decode cX4_isHeld 135 = .ok (.aload_n 0, 1) := by decide +kernel
theorem dX4_isHeld_136 : decode cX4_isHeld 136 = .ok (.getfield 14, 3) := by decide +kernel
theorem dX4_isHeld_139 : decode cX4_isHeld 139 = .ok (.aload_n 0, 1) := by decide +kernel
theorem dX4_isHeld_140 : decode cX4_isHeld 140 = .ok (.getfield 29, 3) := by decide +kernel
theorem dX4_isHeld_143 : decode cX4_isHeld 143 = .ok (.invokevirtual 284, 3) := by decide +kernel
theorem dX4_isHeld_146 : decode cX4_isHeld 146 = .ok (.iload_n 1, 1) := by decide +kernel
theorem dX4_isHeld_147 : decode cX4_isHeld 147 = .ok (.invokevirtual 179, 3) := by decide +kernel
theorem dX4_isHeld_150 : decode cX4_isHeld 150 = .ok (.aload_n 0, 1) := by decide +kernel
theorem dX4_isHeld_151 : decode cX4_isHeld 151 = .ok (.iload 4, 2) := by decide +kernel
theorem dX4_isHeld_153 : decode cX4_isHeld 153 = .ok (.putfield 55, 3) := by decide +kernel
theorem dX4_isHeld_156 : decode cX4_isHeld 156 = .ok (.iconst 1, 1) := by decide +kernel
theorem dX4_isHeld_157 : decode cX4_isHeld 157 = .ok (.ireturn, 1) := by decide +kernel
theorem dX4_isHeld_158 : decode cX4_isHeld 158 = .ok (.iinc 2 (-1), 3) := by decide +kernel
theorem dX4_isHeld_161 : decode cX4_isHeld 161 = .ok (.goto (-153), 3) := by decide +kernel
theorem dX4_isHeld_164 : decode cX4_isHeld 164 = .ok (.iconst 0, 1) := by decide +kernel
theorem dX4_isHeld_165 : decode cX4_isHeld 165 = .ok (.ireturn, 1) := by decide +kernel
set_option maxHeartbeats 4000000 in
set_option maxRecDepth 100000 in
theorem c_X4_isHeld (ω : Om) (l : Launch) (μ : M3) (x1 : Int) (cr1 : Int → Int → Int) (S : Int) (P : Int) (g : Int) (y : Int) (hx1 : ir x1) (hI : IC μ) (hS : S = μ.1 33 3) (hP : P = μ.1 32 10) (hg : g = μ.1 60 6) (hy : y = μ.1 45 4) (hcc : ∀ q, ctc μ P (cr1 q)) (hgo : ∀ j, ofF μ 59 ≤ j → j < μ.1 60 6 → gok μ P cr1 j (μ.1 61 j) (μ.1 62 j)) (hgb : 0 ≤ ofF μ 59 ∧ ofF μ 59 ≤ μ.1 60 6) (hly : μ.1 45 4 + μ.1 60 6 ≤ 10010) (hfl : ofF μ 56 ≤ 239000) : CtI ω l yX4_isHeld cX4_isHeld 5 .boolean 5 172 [.ref (oP ω 32), .int (iv x1)] μ (fun (r : Int) (μ' : M3) => (Fr [45, 46, 51, 60, 66, 67, 68, 69, 33, 34, 35, 36, 32, 61, 64, 65] μ μ') ∧ (IC μ') ∧ ((r = 0 ∧ μ'.1 33 3 = S ∧ μ'.1 60 6 = ofF μ 59 ∧ μ'.1 32 12 = μ.1 32 12) ∨ (r = 1 ∧ μ'.1 33 3 ≤ max (ofF μ 56) 0 + 1 ∧ ofF μ 59 ≤ μ'.1 60 6)) ∧ (r = 1 → gtc (cr1 (μ'.1 60 6)) (μ'.1 32 12)) ∧ (μ'.1 60 6 ≤ g ∧ μ'.1 45 4 + μ'.1 60 6 ≤ y + g) ∧ (∀ j, μ'.1 61 j = μ.1 61 j ∨ (μ'.1 61 j = 5 ∧ μ.1 61 j = 4)) ∧ (r = 0 → ∀ j, ofF μ 59 ≤ j → j < g → μ.1 61 j ≠ 2) ∧ (μ'.1 45 1 = μ.1 45 1) ∧ (μ'.1 32 10 = μ.1 32 10) ∧ (μ'.1 32 11 = μ.1 32 11) ∧ (μ'.1 32 13 = μ.1 32 13) ∧ (μ'.1 32 14 = μ.1 32 14) ∧ (μ'.1 32 15 = μ.1 32 15) ∧ (μ'.1 32 16 = μ.1 32 16)) := by
  refine CtI.go (by decide) (Nat.le_of_ble_eq_true rfl) (fun ρ p e s m below meth c R ls G hR hret hlk hl => ?_)
  have hx := G.1.1
  have hb := G.1.2.1
  have hl : lv_has ls 5 [(0, .ref (oP ω 32)), (1, .int (iv x1))] := hl
  generalize s.drawn = d0 at G ⊢
  have hr_x1 : -2147483648 ≤ x1 ∧ x1 ≤ 2147483647 := hx1
  have hk_1 := hI.row (r := 33) (by unfold isRow; decide)
  unfold rk at hk_1
  simp only [Int.reduceAdd] at hk_1
  have hbr_33 : BR 33 = 240100 := rfl
  have hn_2 : 0 ≤ μ.1 60 6 ∧ μ.1 60 6 ≤ 400 := hI.nm.2.2.2.2.2.1
  have hn_3 : 0 ≤ μ.1 45 4 ∧ 2 * μ.1 45 4 ≤ μ.2.1 51 := hI.nm.2.2.2.2.2.2.2.1
  have hk_4 := hI.row (r := 37) (by unfold isRow; decide)
  unfold rk at hk_4
  simp only [Int.reduceAdd] at hk_4
  have hbr_37 : BR 37 = 20410 := rfl
  have hprP : isPr P := by have h9 := G.sr0.2.2.2.2.1; rw [← hP] at h9; exact h9
  have hprP_d : P = 13 ∨ P = 71 ∨ P = 81 ∨ P = 91 ∨ P = 101 := hprP
  refine lv_aload_n hx hb dX4_isHeld_0 rfl (lv_at hl 0 rfl) ?_
  refine xa_getr G fd_X4 (a := 32) (x := 60) 8 rfl (by decide) rfl (wm 2 152 rfl rfl) ⟨rfl, rfl, rfl⟩ dX4_isHeld_1 rfl (G.sk 41 rfl) (by decide) rfl ?_
  have e_5 : μ.1 60 6 = g := hg.symm
  refine xc_iV G (b := 60) (rest := []) (As := []) (c_X3_count ω l μ  hI) (wm 5 89 rfl rfl) (wm 5 90 rfl rfl) (wm 5 91 rfl rfl) rfl rfl (by decide) rfl (wm 1 17 rfl rfl) (wm 5 92 rfl rfl) (by decide) hR (by decide) (n := 0) rfl rfl (Nat.le_of_ble_eq_true rfl) hl.1 dX4_isHeld_4 (fun r_7 μ6 ρ d0 H locs hr_r_7 hp G => ?_)
  have hr_r_7 : -2147483648 ≤ r_7 ∧ r_7 ≤ 2147483647 := hr_r_7
  obtain ⟨hsm_8, hp_9⟩ := hp
  have hsm_8 := Eq.symm hsm_8
  subst hsm_8
  refine lv_istore_n (lv' := [(2, .int (iv r_7)), (0, .ref (oP ω 32)), (1, .int (iv x1))]) hx hb dX4_isHeld_7 rfl hl (by decide) rfl (fun ls hl => ?_)
  have e_10 : μ.1 60 6 = g := hg.symm
  have e_11 : μ.1 45 4 = y := hy.symm
  have e_12 : μ.1 60 6 = g := hg.symm
  have e_13 : μ.1 45 4 = y := hy.symm
  refine xl (fun n_9 μ' ls => ∃ (i9 : Int), (Fr [45, 46, 51, 60, 66, 67, 68, 69] μ μ') ∧ (-2147483648 ≤ i9 ∧ i9 ≤ 2147483647) ∧ (i9 = μ'.1 60 6) ∧ (ofF μ 59 ≤ i9) ∧ (i9 ≤ g) ∧ (μ'.1 45 4 + μ'.1 60 6 ≤ y + g) ∧ (0 ≤ μ'.1 45 4) ∧ (∀ j, i9 ≤ j → j < g → μ.1 61 j ≠ 2) ∧ (μ'.1 45 1 = μ.1 45 1) ∧ (IC μ') ∧ n_9 = Int.toNat (i9) ∧ lv_has ls 5 [(2, .int (iv i9)), (0, .ref (oP ω 32)), (1, .int (iv x1))]) (fun n_9 ρ μL14 d0 H locs ls hI_l G ih => ?_) _ _ _ _ _ _ _ ⟨r_7, Fr.rf, (by omega), (by omega), (by omega), (by omega), (by omega), (by omega), (fun j h1 h2 => absurd h1 (by omega)), rfl, hI, rfl, lv_sub hl [0, 1, 2] rfl⟩ G
  obtain ⟨i9, FL15, hi_17, hi_18, hi_19, hi_20, hi_21, hi_22, hi_23, hi_24, hi_25, hn16, hl⟩ := hI_l
  refine lv_iload_n hx hb dX4_isHeld_8 rfl (lv_at hl 0 rfl) ?_
  refine lv_aload_n hx hb dX4_isHeld_9 rfl (lv_at hl 1 rfl) ?_
  refine xa_getr G fd_X4 (a := 32) (x := 52) 7 rfl (by decide) rfl (wm 2 151 rfl rfl) ⟨rfl, rfl, rfl⟩ dX4_isHeld_10 rfl (G.sk 40 rfl) (by decide) rfl ?_
  have e_26 : ofF μL14 59 = ofF μ 59 := (ofF_fr FL15 (by decide) (by decide))
  refine xc_iV G (b := 52) (rest := [.int (iv i9)]) (As := []) (c_X2_guardBase ω l μL14  hi_25) (wm 5 115 rfl rfl) (wm 5 116 rfl rfl) (wm 5 117 rfl rfl) rfl rfl (by decide) rfl (wm 1 16 rfl rfl) (wm 5 118 rfl rfl) (by decide) hR (by decide) (n := 0) rfl rfl (Nat.le_of_ble_eq_true rfl) hl.1 dX4_isHeld_13 (fun r_28 μ27 ρ d0 H locs hr_r_28 hp G => ?_)
  have hr_r_28 : -2147483648 ≤ r_28 ∧ r_28 ≤ 2147483647 := hr_r_28
  obtain ⟨hsm_29, hp_30⟩ := hp
  have hsm_29 := Eq.symm hsm_29
  subst hsm_29
  refine xb_icmp_le (tgt := 164) hx hb (by unfold ir; omega) (by unfold ir; omega) dX4_isHeld_16 (by decide) (fun c_16 => ?_) (fun c_16 => ?_)
  · refine lv_iconst (v := iv 0) hx hb dX4_isHeld_164 rfl ?_
    have e_31 : μL14.1 33 3 = S := ((FL15.1 33 (by decide) 3).trans hS.symm)
    have e_32 : μL14.1 32 12 = μ.1 32 12 := (FL15.1 32 (by decide) 12)
    have e_33 : μL14.1 33 3 = S := ((FL15.1 33 (by decide) 3).trans hS.symm)
    have e_34 : μL14.1 45 1 = μ.1 45 1 := hi_24
    have e_35 : μL14.1 32 10 = P := ((FL15.1 32 (by decide) 10).trans hP.symm)
    have e_36 : μL14.1 32 11 = μ.1 32 11 := (FL15.1 32 (by decide) 11)
    have e_37 : μL14.1 32 13 = μ.1 32 13 := (FL15.1 32 (by decide) 13)
    have e_38 : μL14.1 32 14 = μ.1 32 14 := (FL15.1 32 (by decide) 14)
    have e_39 : μL14.1 32 15 = μ.1 32 15 := (FL15.1 32 (by decide) 15)
    have e_40 : μL14.1 32 16 = μ.1 32 16 := (FL15.1 32 (by decide) 16)
    exact xr_i G (x := 0) hret hlk (by unfold ir; omega) (zr (by omega)) dX4_isHeld_165 ⟨(Fr.tr Fr.rf FL15 (by decide)), hi_25, (by omega), (fun h9 => absurd h9 (by omega)), (by omega), (fun j => Or.inl ((FL15.1 61 (by decide) j))), (fun _ j h1 h2 => hi_23 j (by omega) h2), (by omega), (by omega), (by omega), (by omega), (by omega), (by omega), (by omega)⟩
  · refine lv_aload_n hx hb dX4_isHeld_19 rfl (lv_at hl 1 rfl) ?_
    refine xa_getr G fd_X4 (a := 32) (x := 60) 8 rfl (by decide) rfl (wm 2 152 rfl rfl) ⟨rfl, rfl, rfl⟩ dX4_isHeld_20 rfl (G.sk 41 rfl) (by decide) rfl ?_
    refine xc_iV G (b := 60) (rest := []) (As := []) (c_X3_kind ω l μL14  hi_25) (wm 5 123 rfl rfl) (wm 5 124 rfl rfl) (wm 5 125 rfl rfl) rfl rfl (by decide) rfl (wm 1 17 rfl rfl) (wm 5 126 rfl rfl) (by decide) hR (by decide) (n := 0) rfl rfl (Nat.le_of_ble_eq_true rfl) hl.1 dX4_isHeld_23 (fun r_42 μ41 ρ d0 H locs hr_r_42 hp G => ?_)
    have hr_r_42 : -2147483648 ≤ r_42 ∧ r_42 ≤ 2147483647 := hr_r_42
    obtain ⟨hsm_43, hp_44⟩ := hp
    have hsm_43 := Eq.symm hsm_43
    subst hsm_43
    have hkd : r_42 = μ.1 61 (i9 - 1) := by have h8 : ofG μL14 61 = μL14.1 61 (i9 - 1) := ofG_at (k := i9) (by have h9 : μL14.1 60 6 = μL14.1 60 6 := rfl; omega) (by omega); have h7 : μL14.1 61 (i9 - 1) = μ.1 61 (i9 - 1) := (FL15.1 61 (by decide) (i9 - 1)); omega
    refine lv_istore_n (lv' := [(3, .int (iv r_42)), (2, .int (iv i9)), (0, .ref (oP ω 32)), (1, .int (iv x1))]) hx hb dX4_isHeld_26 rfl hl (by decide) rfl (fun ls hl => ?_)
    refine lv_iload_n hx hb dX4_isHeld_27 rfl (lv_at hl 0 rfl) ?_
    refine lv_iconst (v := iv 4) hx hb dX4_isHeld_28 rfl ?_
    refine xb_icmp_ne (tgt := 68) hx hb (by unfold ir; omega) (by unfold ir; omega) dX4_isHeld_29 (by decide) (fun c_29 => ?_) (fun c_29 => ?_)
    · refine lv_iload_n hx hb dX4_isHeld_68 rfl (lv_at hl 0 rfl) ?_
      refine lv_iconst (v := iv 5) hx hb dX4_isHeld_69 rfl ?_
      refine xb_icmp_ne (tgt := 88) hx hb (by unfold ir; omega) (by unfold ir; omega) dX4_isHeld_70 (by decide) (fun c_70 => ?_) (fun c_70 => ?_)
      · refine lv_aload_n hx hb dX4_isHeld_88 rfl (lv_at hl 2 rfl) ?_
        refine lv_iload_n hx hb dX4_isHeld_89 rfl (lv_at hl 0 rfl) ?_
        refine lv_aload_n hx hb dX4_isHeld_90 rfl (lv_at hl 2 rfl) ?_
        refine xa_getr G fd_X4 (a := 32) (x := 45) 6 rfl (by decide) rfl (wm 2 150 rfl rfl) ⟨rfl, rfl, rfl⟩ dX4_isHeld_91 rfl (G.sk 39 rfl) (by decide) rfl ?_
        refine lv_iload_n hx hb dX4_isHeld_94 rfl (lv_at hl 3 rfl) ?_
        refine lv_iconst (v := iv 1) hx hb dX4_isHeld_95 rfl ?_
        have hn_45 : 0 ≤ μ.1 45 1 ∧ 9 * μ.1 45 1 ≤ μ.2.1 46 := hI.nm.2.2.2.2.2.2.1
        have e_46 : μL14.1 45 1 = μ.1 45 1 := hi_24
        have e_47 : μL14.1 45 1 = μ.1 45 1 := hi_24
        have hn_48 : 0 ≤ μL14.1 45 4 ∧ 2 * μL14.1 45 4 ≤ μL14.2.1 51 := hi_25.nm.2.2.2.2.2.2.2.1
        refine xc_iV G (b := 45) (rest := [.int (iv r_42), .ref (oP ω 32)]) (As := [.int (iv x1), .int (iv 1)]) (c_X1_fact ω l μL14 x1 1 (μ.1 45 1) (μL14.1 45 4) (by unfold ir; omega) (by unfold ir; omega) hi_25 (by omega) (by omega)) (wm 5 168 rfl rfl) (wm 5 169 rfl rfl) (wm 5 170 rfl rfl) rfl rfl (by decide) rfl (wm 1 15 rfl rfl) (wm 5 171 rfl rfl) (by decide) hR (by decide) (n := 2) rfl rfl (Nat.le_of_ble_eq_true rfl) hl.1 dX4_isHeld_96 (fun r_50 μ49 ρ d0 H locs hr_r_50 hp G => ?_)
        have hr_r_50 : -2147483648 ≤ r_50 ∧ r_50 ≤ 2147483647 := hr_r_50
        have hsm_51 := hp
        have hsm_51 := Eq.symm hsm_51
        subst hsm_51
        have hcc_52 : ∀ q, ctc μL14 P (cr1 q) := fun q => (hcc q).fr (L := [45, 46, 51, 60, 66, 67, 68, 69]) (Fr.tr Fr.rf FL15 (by decide)) hprP (by decide)
        have hok_53_e : ofG μL14 62 = μ.1 62 (i9 - 1) := (ofG_at (k := i9) (by have h9 : μL14.1 60 6 = μL14.1 60 6 := rfl; omega) (by omega)).trans ((FL15.1 62 (by decide) (i9 - 1)))
        have hok_53 : gok0 μL14 P (cr1 (i9 - 1)) r_42 (ofG μL14 62) := by rw [hok_53_e, show r_42 = μ.1 61 (i9 - 1) by omega]; exact ((hgo (i9 - 1) (by omega) (by omega)).fr (L := [45, 46, 51, 60, 66, 67, 68, 69]) (Fr.tr Fr.rf FL15 (by decide)) hprP (by decide)).1
        have e_54 : μL14.1 32 10 = P := ((FL15.1 32 (by decide) 10).trans hP.symm)
        refine xc_iV G (b := 32) (rest := []) (As := [.int (iv r_42), .int (iv r_50)]) (c_X4_targetFor ω l μL14 r_42 r_50 (cr1 (i9 - 1)) P (by unfold ir; omega) (by unfold ir; omega) hi_25 (by omega) (hcc_52 (i9 - 1)) hok_53) (wm 5 173 rfl rfl) (wm 5 175 rfl rfl) (wm 0 69 rfl rfl) rfl rfl (by decide) rfl (wm 1 14 rfl rfl) (wm 5 176 rfl rfl) (by decide) hR (by decide) (n := 2) rfl rfl (Nat.le_of_ble_eq_true rfl) hl.1 dX4_isHeld_99 (fun r_56 μ55 ρ d0 H locs hr_r_56 hp G => ?_)
        have hr_r_56 : -2147483648 ≤ r_56 ∧ r_56 ≤ 2147483647 := hr_r_56
        obtain ⟨hsm_57, hp_58, hp_59⟩ := hp
        have hsm_57 := Eq.symm hsm_57
        subst hsm_57
        refine lv_istore (lv' := [(4, .int (iv r_56)), (3, .int (iv r_42)), (2, .int (iv i9)), (0, .ref (oP ω 32)), (1, .int (iv x1))]) hx hb dX4_isHeld_102 hl (by decide) rfl (fun ls hl => ?_)
        refine lv_aload_n hx hb dX4_isHeld_104 rfl (lv_at hl 3 rfl) ?_
        refine xa_getr G fd_X4 (a := 32) (x := 60) 8 rfl (by decide) rfl (wm 2 152 rfl rfl) ⟨rfl, rfl, rfl⟩ dX4_isHeld_105 rfl (G.sk 41 rfl) (by decide) rfl ?_
        have hn_60 : 0 ≤ μL14.1 60 6 ∧ μL14.1 60 6 ≤ 400 := hi_25.nm.2.2.2.2.2.1
        refine xc_vV G (b := 60) (rest := []) (As := []) (c_X3_pop ω l μL14 (μL14.1 60 6) hi_25 (by omega)) (wm 5 192 rfl rfl) (wm 5 193 rfl rfl) (wm 5 194 rfl rfl) rfl rfl (by decide) rfl (wm 1 17 rfl rfl) (wm 5 195 rfl rfl) (by decide) hR (by decide) (n := 0) rfl rfl (Nat.le_of_ble_eq_true rfl) hl.1 dX4_isHeld_108 (fun μ61 ρ d0 H locs hp G => ?_)
        obtain ⟨F_62, hI_63, hp_64⟩ := hp
        have hn_65 : 0 ≤ μ61.1 60 6 ∧ μ61.1 60 6 ≤ 400 := hI_63.nm.2.2.2.2.2.1
        refine lv_iload hx hb dX4_isHeld_111 (lv_at hl 0 rfl) ?_
        refine xb_if_lt (tgt := 158) hx hb (by unfold ir; omega) dX4_isHeld_113 (by decide) (fun c_113 => ?_) (fun c_113 => ?_)
        · refine lv_iinc (v := iv (i9 - 1)) (lv' := [(2, .int (iv (i9 - 1))), (4, .int (iv r_56)), (3, .int (iv r_42)), (0, .ref (oP ω 32)), (1, .int (iv x1))]) hx hb dX4_isHeld_158 hl (k := 2) rfl (by rw [show Int32.ofInt (-1) = iv (-1) from rfl, iv_add] <;> (congr 1 <;> omega)) (by decide) rfl (fun ls hl => ?_)
          refine lv_goto (tgt := 8) hx hb dX4_isHeld_161 (by decide) ?_
          have e_66 : μ61.1 45 4 = μL14.1 45 4 := (F_62.1 45 (by decide) 4)
          have e_67 : μ61.1 45 4 = μL14.1 45 4 := (F_62.1 45 (by decide) 4)
          have hk2 : μ.1 61 (i9 - 1) ≠ 2 := by rcases hp_59 with h9 | h9; omega; exact absurd h9.2.1 (by omega)
          exact ih _ _ _ _ _ _ _ (by omega) ⟨i9 - 1, (Fr.tr FL15 F_62 (by decide)), (by omega), (by omega), (by omega), (by omega), (by omega), (by omega), (fun j h1 h2 => (Classical.em (j = i9 - 1)).elim (fun hj => by rw [hj]; exact hk2) (fun hj => hi_23 j (by omega) h2)), ((F_62.1 45 (by decide) 1).trans hi_24), hI_63, rfl, lv_sub hl [0, 3, 4] rfl⟩ G
        · refine lv_aload_n hx hb dX4_isHeld_116 rfl (lv_at hl 3 rfl) ?_
          refine xa_getr G fd_X4 (a := 32) (x := 33) 3 rfl (by decide) rfl (wm 2 147 rfl rfl) ⟨rfl, rfl, rfl⟩ dX4_isHeld_117 rfl (G.sk 36 rfl) (by decide) rfl ?_
          refine lv_aload_n hx hb dX4_isHeld_120 rfl (lv_at hl 3 rfl) ?_
          refine xa_getr G fd_X4 (a := 32) (x := 52) 7 rfl (by decide) rfl (wm 2 151 rfl rfl) ⟨rfl, rfl, rfl⟩ dX4_isHeld_121 rfl (G.sk 40 rfl) (by decide) rfl ?_
          have e_68 : ofF μ61 56 = ofF μ 56 := ((ofF_fr F_62 (by decide) (by decide)).trans (ofF_fr FL15 (by decide) (by decide)))
          refine xc_iV G (b := 52) (rest := [.ref (oP ω 33)]) (As := []) (c_X2_floor ω l μ61  hI_63) (wm 5 135 rfl rfl) (wm 5 136 rfl rfl) (wm 5 137 rfl rfl) rfl rfl (by decide) rfl (wm 1 16 rfl rfl) (wm 5 138 rfl rfl) (by decide) hR (by decide) (n := 0) rfl rfl (Nat.le_of_ble_eq_true rfl) hl.1 dX4_isHeld_124 (fun r_70 μ69 ρ d0 H locs hr_r_70 hp G => ?_)
          have hr_r_70 : -2147483648 ≤ r_70 ∧ r_70 ≤ 2147483647 := hr_r_70
          obtain ⟨hsm_71, hp_72⟩ := hp
          have hsm_71 := Eq.symm hsm_71
          subst hsm_71
          refine xc_vV G (b := 33) (rest := []) (As := [.int (iv r_70)]) (c_X9_resize ω l μ61 33 r_70 (by unfold isRow; decide) (by unfold ir; omega) hI_63 (by omega)) (wm 5 55 rfl rfl) (wm 3 15 rfl rfl) (wm 3 16 rfl rfl) rfl rfl (by decide) rfl (wm 1 10 rfl rfl) (wm 3 17 rfl rfl) (by decide) hR (by decide) (n := 1) rfl rfl (Nat.le_of_ble_eq_true rfl) hl.1 dX4_isHeld_127 (fun μ73 ρ d0 H locs hp G => ?_)
          obtain ⟨F_74, hI_75, hs_76⟩ := hp
          refine lv_iload_n hx hb dX4_isHeld_130 rfl (lv_at hl 1 rfl) ?_
          refine lv_iconst (v := iv 2) hx hb dX4_isHeld_131 rfl ?_
          refine xb_icmp_eq (tgt := 150) hx hb (by unfold ir; omega) (by unfold ir; omega) dX4_isHeld_132 (by decide) (fun c_132 => ?_) (fun c_132 => ?_)
          · refine lv_aload_n hx hb dX4_isHeld_150 rfl (lv_at hl 3 rfl) ?_
            refine lv_iload hx hb dX4_isHeld_151 (lv_at hl 0 rfl) ?_
            refine xa_puti G fd_X4 (a := 32) (x := r_56) 12 (kz := 12) rfl rfl (by decide) rfl (by unfold ir; omega) (wm 2 156 rfl rfl) ⟨rfl, rfl, rfl, rfl⟩ rfl dX4_isHeld_153 rfl (fun H locs G => ?_)
            refine lv_iconst (v := iv 1) hx hb dX4_isHeld_156 rfl ?_
            have h606 : (sv μ73 32 12 r_56).1 60 6 = i9 - 1 := by have h9 : (sv μ73 32 12 r_56).1 60 6 = μ61.1 60 6 := ((sv_n _ (fun h9 => absurd h9.1 (by decide))).trans (F_74.1 60 (by decide) 6)); omega
            have hI_77 : IC (sv μ73 32 12 r_56) := (IC.put hI_75 (by decide +kernel))
            have e_78 : (sv μ73 32 12 r_56).1 33 3 = max r_70 0 := ((sv_n _ (fun h9 => absurd h9.1 (by decide))).trans hs_76)
            have e_79 : (sv μ73 32 12 r_56).1 60 6 = μ61.1 60 6 := ((sv_n _ (fun h9 => absurd h9.1 (by decide))).trans (F_74.1 60 (by decide) 6))
            have e_80 : (sv μ73 32 12 r_56).1 32 12 = r_56 := (sv_s _ _ _ _)
            have e_81 : (sv μ73 32 12 r_56).1 33 3 = max r_70 0 := ((sv_n _ (fun h9 => absurd h9.1 (by decide))).trans hs_76)
            have e_82 : (sv μ73 32 12 r_56).1 60 6 = μ61.1 60 6 := ((sv_n _ (fun h9 => absurd h9.1 (by decide))).trans (F_74.1 60 (by decide) 6))
            have e_83 : (sv μ73 32 12 r_56).1 60 6 = μ61.1 60 6 := ((sv_n _ (fun h9 => absurd h9.1 (by decide))).trans (F_74.1 60 (by decide) 6))
            have e_84 : (sv μ73 32 12 r_56).1 45 4 = μL14.1 45 4 := ((sv_n _ (fun h9 => absurd h9.1 (by decide))).trans ((F_74.1 45 (by decide) 4).trans (F_62.1 45 (by decide) 4)))
            have e_85 : (sv μ73 32 12 r_56).1 60 6 = μ61.1 60 6 := ((sv_n _ (fun h9 => absurd h9.1 (by decide))).trans (F_74.1 60 (by decide) 6))
            have e_86 : (sv μ73 32 12 r_56).1 45 1 = μ.1 45 1 := ((sv_n _ (fun h9 => absurd h9.1 (by decide))).trans ((F_74.1 45 (by decide) 1).trans ((F_62.1 45 (by decide) 1).trans hi_24)))
            have e_87 : (sv μ73 32 12 r_56).1 32 10 = P := ((sv_n _ (by decide)).trans ((F_74.1 32 (by decide) 10).trans ((F_62.1 32 (by decide) 10).trans ((FL15.1 32 (by decide) 10).trans hP.symm))))
            have e_88 : (sv μ73 32 12 r_56).1 32 11 = μ.1 32 11 := ((sv_n _ (by decide)).trans ((F_74.1 32 (by decide) 11).trans ((F_62.1 32 (by decide) 11).trans (FL15.1 32 (by decide) 11))))
            have e_89 : (sv μ73 32 12 r_56).1 32 13 = μ.1 32 13 := ((sv_n _ (by decide)).trans ((F_74.1 32 (by decide) 13).trans ((F_62.1 32 (by decide) 13).trans (FL15.1 32 (by decide) 13))))
            have e_90 : (sv μ73 32 12 r_56).1 32 14 = μ.1 32 14 := ((sv_n _ (by decide)).trans ((F_74.1 32 (by decide) 14).trans ((F_62.1 32 (by decide) 14).trans (FL15.1 32 (by decide) 14))))
            have e_91 : (sv μ73 32 12 r_56).1 32 15 = μ.1 32 15 := ((sv_n _ (by decide)).trans ((F_74.1 32 (by decide) 15).trans ((F_62.1 32 (by decide) 15).trans (FL15.1 32 (by decide) 15))))
            have e_92 : (sv μ73 32 12 r_56).1 32 16 = μ.1 32 16 := ((sv_n _ (by decide)).trans ((F_74.1 32 (by decide) 16).trans ((F_62.1 32 (by decide) 16).trans (FL15.1 32 (by decide) 16))))
            exact xr_i G (x := 1) hret hlk (by unfold ir; omega) (zr (by omega)) dX4_isHeld_157 ⟨(Fr.put (Fr.tr (Fr.tr (Fr.tr Fr.rf FL15 (by decide)) F_62 (by decide)) F_74 (by decide)) (by decide)), hI_77, (by omega), (fun _ => by rw [show (sv μ73 32 12 r_56).1 32 12 = r_56 from (sv_s _ _ _ _), h606]; exact hp_58.resolve_left (by omega)), (by omega), (fun j => Or.inl (((sv_n _ (by omega)).trans ((F_74.1 61 (by decide) j).trans ((F_62.1 61 (by decide) j).trans (FL15.1 61 (by decide) j)))))), (fun h9 => absurd h9 (by omega)), (by omega), (by omega), (by omega), (by omega), (by omega), (by omega), (by omega)⟩
          · refine lv_aload_n hx hb dX4_isHeld_135 rfl (lv_at hl 3 rfl) ?_
            refine xa_getr G fd_X4 (a := 32) (x := 33) 3 rfl (by decide) rfl (wm 2 147 rfl rfl) ⟨rfl, rfl, rfl⟩ dX4_isHeld_136 rfl (G.sk 36 rfl) (by decide) rfl ?_
            refine lv_aload_n hx hb dX4_isHeld_139 rfl (lv_at hl 3 rfl) ?_
            refine xa_getr G fd_X4 (a := 32) (x := 45) 6 rfl (by decide) rfl (wm 2 150 rfl rfl) ⟨rfl, rfl, rfl⟩ dX4_isHeld_140 rfl (G.sk 39 rfl) (by decide) rfl ?_
            refine xc_rV G (b := 45) (rest := [.ref (oP ω 33)]) (As := []) (c_X1_values ω l μ73  hI_75) (wm 5 196 rfl rfl) (wm 5 197 rfl rfl) (wm 5 198 rfl rfl) rfl rfl (by decide) rfl (wm 1 15 rfl rfl) (wm 5 199 rfl rfl) (by decide) hR (by decide) (n := 0) rfl rfl (Nat.le_of_ble_eq_true rfl) hl.1 dX4_isHeld_143 (fun r_94 μ93 ρ d0 H locs hp G => ?_)
            obtain ⟨hsm_95, hp_96⟩ := hp
            have hsm_95 := Eq.symm hsm_95
            subst hsm_95
            subst hp_96
            refine lv_iload_n hx hb dX4_isHeld_146 rfl (lv_at hl 4 rfl) ?_
            have e_97 : μ73.1 33 3 = max r_70 0 := hs_76
            refine xc_vV G (b := 33) (rest := []) (As := [.ref (oP ω 47), .int (iv x1)]) (c_X9_pushCopy ω l μ73 33 47 x1 (max r_70 0) (by unfold isRow; decide) (by unfold isRow; decide) (by unfold ir; omega) hI_75 (by omega) (by omega)) (wm 5 200 rfl rfl) (wm 5 201 rfl rfl) (wm 5 202 rfl rfl) rfl rfl (by decide) rfl (wm 1 10 rfl rfl) (wm 5 203 rfl rfl) (by decide) hR (by decide) (n := 2) rfl rfl (Nat.le_of_ble_eq_true rfl) hl.1 dX4_isHeld_147 (fun μ98 ρ d0 H locs hp G => ?_)
            obtain ⟨F_99, hI_100, hs_101⟩ := hp
            refine lv_aload_n hx hb dX4_isHeld_150 rfl (lv_at hl 3 rfl) ?_
            refine lv_iload hx hb dX4_isHeld_151 (lv_at hl 0 rfl) ?_
            refine xa_puti G fd_X4 (a := 32) (x := r_56) 12 (kz := 12) rfl rfl (by decide) rfl (by unfold ir; omega) (wm 2 156 rfl rfl) ⟨rfl, rfl, rfl, rfl⟩ rfl dX4_isHeld_153 rfl (fun H locs G => ?_)
            refine lv_iconst (v := iv 1) hx hb dX4_isHeld_156 rfl ?_
            have h606 : (sv μ98 32 12 r_56).1 60 6 = i9 - 1 := by have h9 : (sv μ98 32 12 r_56).1 60 6 = μ61.1 60 6 := ((sv_n _ (fun h9 => absurd h9.1 (by decide))).trans ((F_99.1 60 (by decide) 6).trans (F_74.1 60 (by decide) 6))); omega
            have hI_102 : IC (sv μ98 32 12 r_56) := (IC.put hI_100 (by decide +kernel))
            have e_103 : (sv μ98 32 12 r_56).1 33 3 = (max r_70 0) + 1 := ((sv_n _ (fun h9 => absurd h9.1 (by decide))).trans hs_101)
            have e_104 : (sv μ98 32 12 r_56).1 60 6 = μ61.1 60 6 := ((sv_n _ (fun h9 => absurd h9.1 (by decide))).trans ((F_99.1 60 (by decide) 6).trans (F_74.1 60 (by decide) 6)))
            have e_105 : (sv μ98 32 12 r_56).1 32 12 = r_56 := (sv_s _ _ _ _)
            have e_106 : (sv μ98 32 12 r_56).1 33 3 = (max r_70 0) + 1 := ((sv_n _ (fun h9 => absurd h9.1 (by decide))).trans hs_101)
            have e_107 : (sv μ98 32 12 r_56).1 60 6 = μ61.1 60 6 := ((sv_n _ (fun h9 => absurd h9.1 (by decide))).trans ((F_99.1 60 (by decide) 6).trans (F_74.1 60 (by decide) 6)))
            have e_108 : (sv μ98 32 12 r_56).1 60 6 = μ61.1 60 6 := ((sv_n _ (fun h9 => absurd h9.1 (by decide))).trans ((F_99.1 60 (by decide) 6).trans (F_74.1 60 (by decide) 6)))
            have e_109 : (sv μ98 32 12 r_56).1 45 4 = μL14.1 45 4 := ((sv_n _ (fun h9 => absurd h9.1 (by decide))).trans ((F_99.1 45 (by decide) 4).trans ((F_74.1 45 (by decide) 4).trans (F_62.1 45 (by decide) 4))))
            have e_110 : (sv μ98 32 12 r_56).1 60 6 = μ61.1 60 6 := ((sv_n _ (fun h9 => absurd h9.1 (by decide))).trans ((F_99.1 60 (by decide) 6).trans (F_74.1 60 (by decide) 6)))
            have e_111 : (sv μ98 32 12 r_56).1 45 1 = μ.1 45 1 := ((sv_n _ (fun h9 => absurd h9.1 (by decide))).trans ((F_99.1 45 (by decide) 1).trans ((F_74.1 45 (by decide) 1).trans ((F_62.1 45 (by decide) 1).trans hi_24))))
            have e_112 : (sv μ98 32 12 r_56).1 32 10 = P := ((sv_n _ (by decide)).trans ((F_99.1 32 (by decide) 10).trans ((F_74.1 32 (by decide) 10).trans ((F_62.1 32 (by decide) 10).trans ((FL15.1 32 (by decide) 10).trans hP.symm)))))
            have e_113 : (sv μ98 32 12 r_56).1 32 11 = μ.1 32 11 := ((sv_n _ (by decide)).trans ((F_99.1 32 (by decide) 11).trans ((F_74.1 32 (by decide) 11).trans ((F_62.1 32 (by decide) 11).trans (FL15.1 32 (by decide) 11)))))
            have e_114 : (sv μ98 32 12 r_56).1 32 13 = μ.1 32 13 := ((sv_n _ (by decide)).trans ((F_99.1 32 (by decide) 13).trans ((F_74.1 32 (by decide) 13).trans ((F_62.1 32 (by decide) 13).trans (FL15.1 32 (by decide) 13)))))
            have e_115 : (sv μ98 32 12 r_56).1 32 14 = μ.1 32 14 := ((sv_n _ (by decide)).trans ((F_99.1 32 (by decide) 14).trans ((F_74.1 32 (by decide) 14).trans ((F_62.1 32 (by decide) 14).trans (FL15.1 32 (by decide) 14)))))
            have e_116 : (sv μ98 32 12 r_56).1 32 15 = μ.1 32 15 := ((sv_n _ (by decide)).trans ((F_99.1 32 (by decide) 15).trans ((F_74.1 32 (by decide) 15).trans ((F_62.1 32 (by decide) 15).trans (FL15.1 32 (by decide) 15)))))
            have e_117 : (sv μ98 32 12 r_56).1 32 16 = μ.1 32 16 := ((sv_n _ (by decide)).trans ((F_99.1 32 (by decide) 16).trans ((F_74.1 32 (by decide) 16).trans ((F_62.1 32 (by decide) 16).trans (FL15.1 32 (by decide) 16)))))
            exact xr_i G (x := 1) hret hlk (by unfold ir; omega) (zr (by omega)) dX4_isHeld_157 ⟨(Fr.put (Fr.tr (Fr.tr (Fr.tr (Fr.tr Fr.rf FL15 (by decide)) F_62 (by decide)) F_74 (by decide)) F_99 (by decide)) (by decide)), hI_102, (by omega), (fun _ => by rw [show (sv μ98 32 12 r_56).1 32 12 = r_56 from (sv_s _ _ _ _), h606]; exact hp_58.resolve_left (by omega)), (by omega), (fun j => Or.inl (((sv_n _ (by omega)).trans ((F_99.1 61 (by decide) j).trans ((F_74.1 61 (by decide) j).trans ((F_62.1 61 (by decide) j).trans (FL15.1 61 (by decide) j))))))), (fun h9 => absurd h9 (by omega)), (by omega), (by omega), (by omega), (by omega), (by omega), (by omega), (by omega)⟩
      · refine lv_aload_n hx hb dX4_isHeld_73 rfl (lv_at hl 2 rfl) ?_
        refine xa_getr G fd_X4 (a := 32) (x := 45) 6 rfl (by decide) rfl (wm 2 150 rfl rfl) ⟨rfl, rfl, rfl⟩ dX4_isHeld_74 rfl (G.sk 39 rfl) (by decide) rfl ?_
        refine lv_iload_n hx hb dX4_isHeld_77 rfl (lv_at hl 3 rfl) ?_
        refine lv_aload_n hx hb dX4_isHeld_78 rfl (lv_at hl 2 rfl) ?_
        refine xa_getr G fd_X4 (a := 32) (x := 60) 8 rfl (by decide) rfl (wm 2 152 rfl rfl) ⟨rfl, rfl, rfl⟩ dX4_isHeld_79 rfl (G.sk 41 rfl) (by decide) rfl ?_
        refine xc_iV G (b := 60) (rest := [.int (iv x1), .ref (oP ω 45)]) (As := []) (c_X3_failureUnderWay ω l μL14  hi_25) (wm 5 143 rfl rfl) (wm 5 144 rfl rfl) (wm 5 145 rfl rfl) rfl rfl (by decide) rfl (wm 1 17 rfl rfl) (wm 5 146 rfl rfl) (by decide) hR (by decide) (n := 0) rfl rfl (Nat.le_of_ble_eq_true rfl) hl.1 dX4_isHeld_82 (fun r_119 μ118 ρ d0 H locs hr_r_119 hp G => ?_)
        have hr_r_119 : -2147483648 ≤ r_119 ∧ r_119 ≤ 2147483647 := hr_r_119
        have hsm_120 := hp
        have hsm_120 := Eq.symm hsm_120
        subst hsm_120
        have hn_121 : 0 ≤ μ.1 45 1 ∧ 9 * μ.1 45 1 ≤ μ.2.1 46 := hI.nm.2.2.2.2.2.2.1
        have e_122 : μL14.1 45 1 = μ.1 45 1 := hi_24
        have e_123 : μL14.1 45 1 = μ.1 45 1 := hi_24
        have hn_124 : 0 ≤ μL14.1 45 4 ∧ 2 * μL14.1 45 4 ≤ μL14.2.1 51 := hi_25.nm.2.2.2.2.2.2.2.1
        have e_125 : μL14.1 45 1 = μ.1 45 1 := hi_24
        have e_126 : μL14.1 45 1 = μ.1 45 1 := hi_24
        refine xc_vV G (b := 45) (rest := []) (As := [.int (iv x1), .int (iv r_119)]) (c_X1_putUnder ω l μL14 x1 r_119 (μ.1 45 1) (μL14.1 45 4) (by unfold ir; omega) (by unfold ir; omega) hi_25 (by omega) (by omega) (by omega)) (wm 5 163 rfl rfl) (wm 5 164 rfl rfl) (wm 5 165 rfl rfl) rfl rfl (by decide) rfl (wm 1 15 rfl rfl) (wm 5 166 rfl rfl) (by decide) hR (by decide) (n := 2) rfl rfl (Nat.le_of_ble_eq_true rfl) hl.1 dX4_isHeld_85 (fun μ127 ρ d0 H locs hp G => ?_)
        obtain ⟨F_128, hI_129, hp_130, hp_131, hs_132⟩ := hp
        have hn_133 : 0 ≤ μ127.1 45 1 ∧ 9 * μ127.1 45 1 ≤ μ127.2.1 46 := hI_129.nm.2.2.2.2.2.2.1
        have hn_134 : 0 ≤ μ127.1 45 4 ∧ 2 * μ127.1 45 4 ≤ μ127.2.1 51 := hI_129.nm.2.2.2.2.2.2.2.1
        refine lv_aload_n hx hb dX4_isHeld_88 rfl (lv_at hl 2 rfl) ?_
        refine lv_iload_n hx hb dX4_isHeld_89 rfl (lv_at hl 0 rfl) ?_
        refine lv_aload_n hx hb dX4_isHeld_90 rfl (lv_at hl 2 rfl) ?_
        refine xa_getr G fd_X4 (a := 32) (x := 45) 6 rfl (by decide) rfl (wm 2 150 rfl rfl) ⟨rfl, rfl, rfl⟩ dX4_isHeld_91 rfl (G.sk 39 rfl) (by decide) rfl ?_
        refine lv_iload_n hx hb dX4_isHeld_94 rfl (lv_at hl 3 rfl) ?_
        refine lv_iconst (v := iv 1) hx hb dX4_isHeld_95 rfl ?_
        have e_135 : μ127.1 45 1 = μ.1 45 1 := (hs_132.trans hi_24)
        have e_136 : μ127.1 45 1 = μ.1 45 1 := (hs_132.trans hi_24)
        refine xc_iV G (b := 45) (rest := [.int (iv r_42), .ref (oP ω 32)]) (As := [.int (iv x1), .int (iv 1)]) (c_X1_fact ω l μ127 x1 1 (μ.1 45 1) (μ127.1 45 4) (by unfold ir; omega) (by unfold ir; omega) hI_129 (by omega) (by omega)) (wm 5 168 rfl rfl) (wm 5 169 rfl rfl) (wm 5 170 rfl rfl) rfl rfl (by decide) rfl (wm 1 15 rfl rfl) (wm 5 171 rfl rfl) (by decide) hR (by decide) (n := 2) rfl rfl (Nat.le_of_ble_eq_true rfl) hl.1 dX4_isHeld_96 (fun r_138 μ137 ρ d0 H locs hr_r_138 hp G => ?_)
        have hr_r_138 : -2147483648 ≤ r_138 ∧ r_138 ≤ 2147483647 := hr_r_138
        have hsm_139 := hp
        have hsm_139 := Eq.symm hsm_139
        subst hsm_139
        have hcc_140 : ∀ q, ctc μ127 P (cr1 q) := fun q => (hcc q).fr (L := [45, 46, 51, 60, 66, 67, 68, 69]) (Fr.tr (Fr.tr Fr.rf FL15 (by decide)) F_128 (by decide)) hprP (by decide)
        have hok_141_e : ofG μ127 62 = μ.1 62 (i9 - 1) := (ofG_at (k := i9) (by have h9 : μ127.1 60 6 = μL14.1 60 6 := (F_128.1 60 (by decide) 6); omega) (by omega)).trans (((F_128.1 62 (by decide) (i9 - 1)).trans (FL15.1 62 (by decide) (i9 - 1))))
        have hok_141 : gok0 μ127 P (cr1 (i9 - 1)) r_42 (ofG μ127 62) := by rw [hok_141_e, show r_42 = μ.1 61 (i9 - 1) by omega]; exact ((hgo (i9 - 1) (by omega) (by omega)).fr (L := [45, 46, 51, 60, 66, 67, 68, 69]) (Fr.tr (Fr.tr Fr.rf FL15 (by decide)) F_128 (by decide)) hprP (by decide)).1
        have e_142 : μ127.1 32 10 = P := ((F_128.1 32 (by decide) 10).trans ((FL15.1 32 (by decide) 10).trans hP.symm))
        refine xc_iV G (b := 32) (rest := []) (As := [.int (iv r_42), .int (iv r_138)]) (c_X4_targetFor ω l μ127 r_42 r_138 (cr1 (i9 - 1)) P (by unfold ir; omega) (by unfold ir; omega) hI_129 (by omega) (hcc_140 (i9 - 1)) hok_141) (wm 5 173 rfl rfl) (wm 5 175 rfl rfl) (wm 0 69 rfl rfl) rfl rfl (by decide) rfl (wm 1 14 rfl rfl) (wm 5 176 rfl rfl) (by decide) hR (by decide) (n := 2) rfl rfl (Nat.le_of_ble_eq_true rfl) hl.1 dX4_isHeld_99 (fun r_144 μ143 ρ d0 H locs hr_r_144 hp G => ?_)
        have hr_r_144 : -2147483648 ≤ r_144 ∧ r_144 ≤ 2147483647 := hr_r_144
        obtain ⟨hsm_145, hp_146, hp_147⟩ := hp
        have hsm_145 := Eq.symm hsm_145
        subst hsm_145
        refine lv_istore (lv' := [(4, .int (iv r_144)), (3, .int (iv r_42)), (2, .int (iv i9)), (0, .ref (oP ω 32)), (1, .int (iv x1))]) hx hb dX4_isHeld_102 hl (by decide) rfl (fun ls hl => ?_)
        refine lv_aload_n hx hb dX4_isHeld_104 rfl (lv_at hl 3 rfl) ?_
        refine xa_getr G fd_X4 (a := 32) (x := 60) 8 rfl (by decide) rfl (wm 2 152 rfl rfl) ⟨rfl, rfl, rfl⟩ dX4_isHeld_105 rfl (G.sk 41 rfl) (by decide) rfl ?_
        have hn_148 : 0 ≤ μL14.1 60 6 ∧ μL14.1 60 6 ≤ 400 := hi_25.nm.2.2.2.2.2.1
        have e_149 : μ127.1 60 6 = μL14.1 60 6 := (F_128.1 60 (by decide) 6)
        refine xc_vV G (b := 60) (rest := []) (As := []) (c_X3_pop ω l μ127 (μL14.1 60 6) hI_129 (by omega)) (wm 5 192 rfl rfl) (wm 5 193 rfl rfl) (wm 5 194 rfl rfl) rfl rfl (by decide) rfl (wm 1 17 rfl rfl) (wm 5 195 rfl rfl) (by decide) hR (by decide) (n := 0) rfl rfl (Nat.le_of_ble_eq_true rfl) hl.1 dX4_isHeld_108 (fun μ150 ρ d0 H locs hp G => ?_)
        obtain ⟨F_151, hI_152, hp_153⟩ := hp
        have hn_154 : 0 ≤ μ150.1 60 6 ∧ μ150.1 60 6 ≤ 400 := hI_152.nm.2.2.2.2.2.1
        refine lv_iload hx hb dX4_isHeld_111 (lv_at hl 0 rfl) ?_
        refine xb_if_lt (tgt := 158) hx hb (by unfold ir; omega) dX4_isHeld_113 (by decide) (fun c_113 => ?_) (fun c_113 => ?_)
        · refine lv_iinc (v := iv (i9 - 1)) (lv' := [(2, .int (iv (i9 - 1))), (4, .int (iv r_144)), (3, .int (iv r_42)), (0, .ref (oP ω 32)), (1, .int (iv x1))]) hx hb dX4_isHeld_158 hl (k := 2) rfl (by rw [show Int32.ofInt (-1) = iv (-1) from rfl, iv_add] <;> (congr 1 <;> omega)) (by decide) rfl (fun ls hl => ?_)
          refine lv_goto (tgt := 8) hx hb dX4_isHeld_161 (by decide) ?_
          have e_155 : μ150.1 45 4 = μ127.1 45 4 := (F_151.1 45 (by decide) 4)
          have e_156 : μ150.1 45 4 = μ127.1 45 4 := (F_151.1 45 (by decide) 4)
          have hk2 : μ.1 61 (i9 - 1) ≠ 2 := by rcases hp_147 with h9 | h9; omega; exact absurd h9.2.1 (by omega)
          exact ih _ _ _ _ _ _ _ (by omega) ⟨i9 - 1, (Fr.tr (Fr.tr FL15 F_128 (by decide)) F_151 (by decide)), (by omega), (by omega), (by omega), (by omega), (by omega), (by omega), (fun j h1 h2 => (Classical.em (j = i9 - 1)).elim (fun hj => by rw [hj]; exact hk2) (fun hj => hi_23 j (by omega) h2)), ((F_151.1 45 (by decide) 1).trans (hs_132.trans hi_24)), hI_152, rfl, lv_sub hl [0, 3, 4] rfl⟩ G
        · refine lv_aload_n hx hb dX4_isHeld_116 rfl (lv_at hl 3 rfl) ?_
          refine xa_getr G fd_X4 (a := 32) (x := 33) 3 rfl (by decide) rfl (wm 2 147 rfl rfl) ⟨rfl, rfl, rfl⟩ dX4_isHeld_117 rfl (G.sk 36 rfl) (by decide) rfl ?_
          refine lv_aload_n hx hb dX4_isHeld_120 rfl (lv_at hl 3 rfl) ?_
          refine xa_getr G fd_X4 (a := 32) (x := 52) 7 rfl (by decide) rfl (wm 2 151 rfl rfl) ⟨rfl, rfl, rfl⟩ dX4_isHeld_121 rfl (G.sk 40 rfl) (by decide) rfl ?_
          have e_157 : ofF μ150 56 = ofF μ 56 := ((ofF_fr F_151 (by decide) (by decide)).trans ((ofF_fr F_128 (by decide) (by decide)).trans (ofF_fr FL15 (by decide) (by decide))))
          refine xc_iV G (b := 52) (rest := [.ref (oP ω 33)]) (As := []) (c_X2_floor ω l μ150  hI_152) (wm 5 135 rfl rfl) (wm 5 136 rfl rfl) (wm 5 137 rfl rfl) rfl rfl (by decide) rfl (wm 1 16 rfl rfl) (wm 5 138 rfl rfl) (by decide) hR (by decide) (n := 0) rfl rfl (Nat.le_of_ble_eq_true rfl) hl.1 dX4_isHeld_124 (fun r_159 μ158 ρ d0 H locs hr_r_159 hp G => ?_)
          have hr_r_159 : -2147483648 ≤ r_159 ∧ r_159 ≤ 2147483647 := hr_r_159
          obtain ⟨hsm_160, hp_161⟩ := hp
          have hsm_160 := Eq.symm hsm_160
          subst hsm_160
          refine xc_vV G (b := 33) (rest := []) (As := [.int (iv r_159)]) (c_X9_resize ω l μ150 33 r_159 (by unfold isRow; decide) (by unfold ir; omega) hI_152 (by omega)) (wm 5 55 rfl rfl) (wm 3 15 rfl rfl) (wm 3 16 rfl rfl) rfl rfl (by decide) rfl (wm 1 10 rfl rfl) (wm 3 17 rfl rfl) (by decide) hR (by decide) (n := 1) rfl rfl (Nat.le_of_ble_eq_true rfl) hl.1 dX4_isHeld_127 (fun μ162 ρ d0 H locs hp G => ?_)
          obtain ⟨F_163, hI_164, hs_165⟩ := hp
          refine lv_iload_n hx hb dX4_isHeld_130 rfl (lv_at hl 1 rfl) ?_
          refine lv_iconst (v := iv 2) hx hb dX4_isHeld_131 rfl ?_
          refine xb_icmp_eq (tgt := 150) hx hb (by unfold ir; omega) (by unfold ir; omega) dX4_isHeld_132 (by decide) (fun c_132 => ?_) (fun c_132 => ?_)
          · refine lv_aload_n hx hb dX4_isHeld_150 rfl (lv_at hl 3 rfl) ?_
            refine lv_iload hx hb dX4_isHeld_151 (lv_at hl 0 rfl) ?_
            refine xa_puti G fd_X4 (a := 32) (x := r_144) 12 (kz := 12) rfl rfl (by decide) rfl (by unfold ir; omega) (wm 2 156 rfl rfl) ⟨rfl, rfl, rfl, rfl⟩ rfl dX4_isHeld_153 rfl (fun H locs G => ?_)
            refine lv_iconst (v := iv 1) hx hb dX4_isHeld_156 rfl ?_
            have h606 : (sv μ162 32 12 r_144).1 60 6 = i9 - 1 := by have h9 : (sv μ162 32 12 r_144).1 60 6 = μ150.1 60 6 := ((sv_n _ (fun h9 => absurd h9.1 (by decide))).trans (F_163.1 60 (by decide) 6)); omega
            have hI_166 : IC (sv μ162 32 12 r_144) := (IC.put hI_164 (by decide +kernel))
            have e_167 : (sv μ162 32 12 r_144).1 33 3 = max r_159 0 := ((sv_n _ (fun h9 => absurd h9.1 (by decide))).trans hs_165)
            have e_168 : (sv μ162 32 12 r_144).1 60 6 = μ150.1 60 6 := ((sv_n _ (fun h9 => absurd h9.1 (by decide))).trans (F_163.1 60 (by decide) 6))
            have e_169 : (sv μ162 32 12 r_144).1 32 12 = r_144 := (sv_s _ _ _ _)
            have e_170 : (sv μ162 32 12 r_144).1 33 3 = max r_159 0 := ((sv_n _ (fun h9 => absurd h9.1 (by decide))).trans hs_165)
            have e_171 : (sv μ162 32 12 r_144).1 60 6 = μ150.1 60 6 := ((sv_n _ (fun h9 => absurd h9.1 (by decide))).trans (F_163.1 60 (by decide) 6))
            have e_172 : (sv μ162 32 12 r_144).1 60 6 = μ150.1 60 6 := ((sv_n _ (fun h9 => absurd h9.1 (by decide))).trans (F_163.1 60 (by decide) 6))
            have e_173 : (sv μ162 32 12 r_144).1 45 4 = μ127.1 45 4 := ((sv_n _ (fun h9 => absurd h9.1 (by decide))).trans ((F_163.1 45 (by decide) 4).trans (F_151.1 45 (by decide) 4)))
            have e_174 : (sv μ162 32 12 r_144).1 60 6 = μ150.1 60 6 := ((sv_n _ (fun h9 => absurd h9.1 (by decide))).trans (F_163.1 60 (by decide) 6))
            have e_175 : (sv μ162 32 12 r_144).1 45 1 = μ.1 45 1 := ((sv_n _ (fun h9 => absurd h9.1 (by decide))).trans ((F_163.1 45 (by decide) 1).trans ((F_151.1 45 (by decide) 1).trans (hs_132.trans hi_24))))
            have e_176 : (sv μ162 32 12 r_144).1 32 10 = P := ((sv_n _ (by decide)).trans ((F_163.1 32 (by decide) 10).trans ((F_151.1 32 (by decide) 10).trans ((F_128.1 32 (by decide) 10).trans ((FL15.1 32 (by decide) 10).trans hP.symm)))))
            have e_177 : (sv μ162 32 12 r_144).1 32 11 = μ.1 32 11 := ((sv_n _ (by decide)).trans ((F_163.1 32 (by decide) 11).trans ((F_151.1 32 (by decide) 11).trans ((F_128.1 32 (by decide) 11).trans (FL15.1 32 (by decide) 11)))))
            have e_178 : (sv μ162 32 12 r_144).1 32 13 = μ.1 32 13 := ((sv_n _ (by decide)).trans ((F_163.1 32 (by decide) 13).trans ((F_151.1 32 (by decide) 13).trans ((F_128.1 32 (by decide) 13).trans (FL15.1 32 (by decide) 13)))))
            have e_179 : (sv μ162 32 12 r_144).1 32 14 = μ.1 32 14 := ((sv_n _ (by decide)).trans ((F_163.1 32 (by decide) 14).trans ((F_151.1 32 (by decide) 14).trans ((F_128.1 32 (by decide) 14).trans (FL15.1 32 (by decide) 14)))))
            have e_180 : (sv μ162 32 12 r_144).1 32 15 = μ.1 32 15 := ((sv_n _ (by decide)).trans ((F_163.1 32 (by decide) 15).trans ((F_151.1 32 (by decide) 15).trans ((F_128.1 32 (by decide) 15).trans (FL15.1 32 (by decide) 15)))))
            have e_181 : (sv μ162 32 12 r_144).1 32 16 = μ.1 32 16 := ((sv_n _ (by decide)).trans ((F_163.1 32 (by decide) 16).trans ((F_151.1 32 (by decide) 16).trans ((F_128.1 32 (by decide) 16).trans (FL15.1 32 (by decide) 16)))))
            exact xr_i G (x := 1) hret hlk (by unfold ir; omega) (zr (by omega)) dX4_isHeld_157 ⟨(Fr.put (Fr.tr (Fr.tr (Fr.tr (Fr.tr Fr.rf FL15 (by decide)) F_128 (by decide)) F_151 (by decide)) F_163 (by decide)) (by decide)), hI_166, (by omega), (fun _ => by rw [show (sv μ162 32 12 r_144).1 32 12 = r_144 from (sv_s _ _ _ _), h606]; exact hp_146.resolve_left (by omega)), (by omega), (fun j => Or.inl (((sv_n _ (by omega)).trans ((F_163.1 61 (by decide) j).trans ((F_151.1 61 (by decide) j).trans ((F_128.1 61 (by decide) j).trans (FL15.1 61 (by decide) j))))))), (fun h9 => absurd h9 (by omega)), (by omega), (by omega), (by omega), (by omega), (by omega), (by omega), (by omega)⟩
          · refine lv_aload_n hx hb dX4_isHeld_135 rfl (lv_at hl 3 rfl) ?_
            refine xa_getr G fd_X4 (a := 32) (x := 33) 3 rfl (by decide) rfl (wm 2 147 rfl rfl) ⟨rfl, rfl, rfl⟩ dX4_isHeld_136 rfl (G.sk 36 rfl) (by decide) rfl ?_
            refine lv_aload_n hx hb dX4_isHeld_139 rfl (lv_at hl 3 rfl) ?_
            refine xa_getr G fd_X4 (a := 32) (x := 45) 6 rfl (by decide) rfl (wm 2 150 rfl rfl) ⟨rfl, rfl, rfl⟩ dX4_isHeld_140 rfl (G.sk 39 rfl) (by decide) rfl ?_
            refine xc_rV G (b := 45) (rest := [.ref (oP ω 33)]) (As := []) (c_X1_values ω l μ162  hI_164) (wm 5 196 rfl rfl) (wm 5 197 rfl rfl) (wm 5 198 rfl rfl) rfl rfl (by decide) rfl (wm 1 15 rfl rfl) (wm 5 199 rfl rfl) (by decide) hR (by decide) (n := 0) rfl rfl (Nat.le_of_ble_eq_true rfl) hl.1 dX4_isHeld_143 (fun r_183 μ182 ρ d0 H locs hp G => ?_)
            obtain ⟨hsm_184, hp_185⟩ := hp
            have hsm_184 := Eq.symm hsm_184
            subst hsm_184
            subst hp_185
            refine lv_iload_n hx hb dX4_isHeld_146 rfl (lv_at hl 4 rfl) ?_
            have e_186 : μ162.1 33 3 = max r_159 0 := hs_165
            refine xc_vV G (b := 33) (rest := []) (As := [.ref (oP ω 47), .int (iv x1)]) (c_X9_pushCopy ω l μ162 33 47 x1 (max r_159 0) (by unfold isRow; decide) (by unfold isRow; decide) (by unfold ir; omega) hI_164 (by omega) (by omega)) (wm 5 200 rfl rfl) (wm 5 201 rfl rfl) (wm 5 202 rfl rfl) rfl rfl (by decide) rfl (wm 1 10 rfl rfl) (wm 5 203 rfl rfl) (by decide) hR (by decide) (n := 2) rfl rfl (Nat.le_of_ble_eq_true rfl) hl.1 dX4_isHeld_147 (fun μ187 ρ d0 H locs hp G => ?_)
            obtain ⟨F_188, hI_189, hs_190⟩ := hp
            refine lv_aload_n hx hb dX4_isHeld_150 rfl (lv_at hl 3 rfl) ?_
            refine lv_iload hx hb dX4_isHeld_151 (lv_at hl 0 rfl) ?_
            refine xa_puti G fd_X4 (a := 32) (x := r_144) 12 (kz := 12) rfl rfl (by decide) rfl (by unfold ir; omega) (wm 2 156 rfl rfl) ⟨rfl, rfl, rfl, rfl⟩ rfl dX4_isHeld_153 rfl (fun H locs G => ?_)
            refine lv_iconst (v := iv 1) hx hb dX4_isHeld_156 rfl ?_
            have h606 : (sv μ187 32 12 r_144).1 60 6 = i9 - 1 := by have h9 : (sv μ187 32 12 r_144).1 60 6 = μ150.1 60 6 := ((sv_n _ (fun h9 => absurd h9.1 (by decide))).trans ((F_188.1 60 (by decide) 6).trans (F_163.1 60 (by decide) 6))); omega
            have hI_191 : IC (sv μ187 32 12 r_144) := (IC.put hI_189 (by decide +kernel))
            have e_192 : (sv μ187 32 12 r_144).1 33 3 = (max r_159 0) + 1 := ((sv_n _ (fun h9 => absurd h9.1 (by decide))).trans hs_190)
            have e_193 : (sv μ187 32 12 r_144).1 60 6 = μ150.1 60 6 := ((sv_n _ (fun h9 => absurd h9.1 (by decide))).trans ((F_188.1 60 (by decide) 6).trans (F_163.1 60 (by decide) 6)))
            have e_194 : (sv μ187 32 12 r_144).1 32 12 = r_144 := (sv_s _ _ _ _)
            have e_195 : (sv μ187 32 12 r_144).1 33 3 = (max r_159 0) + 1 := ((sv_n _ (fun h9 => absurd h9.1 (by decide))).trans hs_190)
            have e_196 : (sv μ187 32 12 r_144).1 60 6 = μ150.1 60 6 := ((sv_n _ (fun h9 => absurd h9.1 (by decide))).trans ((F_188.1 60 (by decide) 6).trans (F_163.1 60 (by decide) 6)))
            have e_197 : (sv μ187 32 12 r_144).1 60 6 = μ150.1 60 6 := ((sv_n _ (fun h9 => absurd h9.1 (by decide))).trans ((F_188.1 60 (by decide) 6).trans (F_163.1 60 (by decide) 6)))
            have e_198 : (sv μ187 32 12 r_144).1 45 4 = μ127.1 45 4 := ((sv_n _ (fun h9 => absurd h9.1 (by decide))).trans ((F_188.1 45 (by decide) 4).trans ((F_163.1 45 (by decide) 4).trans (F_151.1 45 (by decide) 4))))
            have e_199 : (sv μ187 32 12 r_144).1 60 6 = μ150.1 60 6 := ((sv_n _ (fun h9 => absurd h9.1 (by decide))).trans ((F_188.1 60 (by decide) 6).trans (F_163.1 60 (by decide) 6)))
            have e_200 : (sv μ187 32 12 r_144).1 45 1 = μ.1 45 1 := ((sv_n _ (fun h9 => absurd h9.1 (by decide))).trans ((F_188.1 45 (by decide) 1).trans ((F_163.1 45 (by decide) 1).trans ((F_151.1 45 (by decide) 1).trans (hs_132.trans hi_24)))))
            have e_201 : (sv μ187 32 12 r_144).1 32 10 = P := ((sv_n _ (by decide)).trans ((F_188.1 32 (by decide) 10).trans ((F_163.1 32 (by decide) 10).trans ((F_151.1 32 (by decide) 10).trans ((F_128.1 32 (by decide) 10).trans ((FL15.1 32 (by decide) 10).trans hP.symm))))))
            have e_202 : (sv μ187 32 12 r_144).1 32 11 = μ.1 32 11 := ((sv_n _ (by decide)).trans ((F_188.1 32 (by decide) 11).trans ((F_163.1 32 (by decide) 11).trans ((F_151.1 32 (by decide) 11).trans ((F_128.1 32 (by decide) 11).trans (FL15.1 32 (by decide) 11))))))
            have e_203 : (sv μ187 32 12 r_144).1 32 13 = μ.1 32 13 := ((sv_n _ (by decide)).trans ((F_188.1 32 (by decide) 13).trans ((F_163.1 32 (by decide) 13).trans ((F_151.1 32 (by decide) 13).trans ((F_128.1 32 (by decide) 13).trans (FL15.1 32 (by decide) 13))))))
            have e_204 : (sv μ187 32 12 r_144).1 32 14 = μ.1 32 14 := ((sv_n _ (by decide)).trans ((F_188.1 32 (by decide) 14).trans ((F_163.1 32 (by decide) 14).trans ((F_151.1 32 (by decide) 14).trans ((F_128.1 32 (by decide) 14).trans (FL15.1 32 (by decide) 14))))))
            have e_205 : (sv μ187 32 12 r_144).1 32 15 = μ.1 32 15 := ((sv_n _ (by decide)).trans ((F_188.1 32 (by decide) 15).trans ((F_163.1 32 (by decide) 15).trans ((F_151.1 32 (by decide) 15).trans ((F_128.1 32 (by decide) 15).trans (FL15.1 32 (by decide) 15))))))
            have e_206 : (sv μ187 32 12 r_144).1 32 16 = μ.1 32 16 := ((sv_n _ (by decide)).trans ((F_188.1 32 (by decide) 16).trans ((F_163.1 32 (by decide) 16).trans ((F_151.1 32 (by decide) 16).trans ((F_128.1 32 (by decide) 16).trans (FL15.1 32 (by decide) 16))))))
            exact xr_i G (x := 1) hret hlk (by unfold ir; omega) (zr (by omega)) dX4_isHeld_157 ⟨(Fr.put (Fr.tr (Fr.tr (Fr.tr (Fr.tr (Fr.tr Fr.rf FL15 (by decide)) F_128 (by decide)) F_151 (by decide)) F_163 (by decide)) F_188 (by decide)) (by decide)), hI_191, (by omega), (fun _ => by rw [show (sv μ187 32 12 r_144).1 32 12 = r_144 from (sv_s _ _ _ _), h606]; exact hp_146.resolve_left (by omega)), (by omega), (fun j => Or.inl (((sv_n _ (by omega)).trans ((F_188.1 61 (by decide) j).trans ((F_163.1 61 (by decide) j).trans ((F_151.1 61 (by decide) j).trans ((F_128.1 61 (by decide) j).trans (FL15.1 61 (by decide) j)))))))), (fun h9 => absurd h9 (by omega)), (by omega), (by omega), (by omega), (by omega), (by omega), (by omega), (by omega)⟩
    · refine lv_aload_n hx hb dX4_isHeld_32 rfl (lv_at hl 2 rfl) ?_
      refine xa_getr G fd_X4 (a := 32) (x := 60) 8 rfl (by decide) rfl (wm 2 152 rfl rfl) ⟨rfl, rfl, rfl⟩ dX4_isHeld_33 rfl (G.sk 41 rfl) (by decide) rfl ?_
      refine lv_iconst (v := iv 2) hx hb dX4_isHeld_36 rfl ?_
      refine lv_iload_n hx hb dX4_isHeld_37 rfl (lv_at hl 3 rfl) ?_
      have hn_207 : 0 ≤ μL14.1 60 6 ∧ μL14.1 60 6 ≤ 400 := hi_25.nm.2.2.2.2.2.1
      refine xc_vV G (b := 60) (rest := []) (As := [.int (iv 2), .int (iv x1)]) (c_X3_finish ω l μL14 2 x1 (μL14.1 60 6) (by unfold ir; omega) (by unfold ir; omega) hi_25 (by omega)) (wm 5 131 rfl rfl) (wm 5 132 rfl rfl) (wm 5 133 rfl rfl) rfl rfl (by decide) rfl (wm 1 17 rfl rfl) (wm 5 134 rfl rfl) (by decide) hR (by decide) (n := 2) rfl rfl (Nat.le_of_ble_eq_true rfl) hl.1 dX4_isHeld_38 (fun μ208 ρ d0 H locs hp G => ?_)
      obtain ⟨F_209, hI_210, hp_211, ha_212⟩ := hp
      have hk5 : μ208.1 61 (i9 - 1) = 5 := hp_211.elim (fun h9 => absurd h9 (by omega)) (fun h9 => by rw [show i9 - 1 = (μL14.1 60 6) - 1 by omega]; exact h9)
      refine lv_aload_n hx hb dX4_isHeld_41 rfl (lv_at hl 2 rfl) ?_
      refine xa_getr G fd_X4 (a := 32) (x := 33) 3 rfl (by decide) rfl (wm 2 147 rfl rfl) ⟨rfl, rfl, rfl⟩ dX4_isHeld_42 rfl (G.sk 36 rfl) (by decide) rfl ?_
      refine lv_aload_n hx hb dX4_isHeld_45 rfl (lv_at hl 2 rfl) ?_
      refine xa_getr G fd_X4 (a := 32) (x := 52) 7 rfl (by decide) rfl (wm 2 151 rfl rfl) ⟨rfl, rfl, rfl⟩ dX4_isHeld_46 rfl (G.sk 40 rfl) (by decide) rfl ?_
      have e_213 : ofF μ208 56 = ofF μ 56 := ((ofF_fr F_209 (by decide) (by decide)).trans (ofF_fr FL15 (by decide) (by decide)))
      refine xc_iV G (b := 52) (rest := [.ref (oP ω 33)]) (As := []) (c_X2_floor ω l μ208  hI_210) (wm 5 135 rfl rfl) (wm 5 136 rfl rfl) (wm 5 137 rfl rfl) rfl rfl (by decide) rfl (wm 1 16 rfl rfl) (wm 5 138 rfl rfl) (by decide) hR (by decide) (n := 0) rfl rfl (Nat.le_of_ble_eq_true rfl) hl.1 dX4_isHeld_49 (fun r_215 μ214 ρ d0 H locs hr_r_215 hp G => ?_)
      have hr_r_215 : -2147483648 ≤ r_215 ∧ r_215 ≤ 2147483647 := hr_r_215
      obtain ⟨hsm_216, hp_217⟩ := hp
      have hsm_216 := Eq.symm hsm_216
      subst hsm_216
      refine xc_vV G (b := 33) (rest := []) (As := [.int (iv r_215)]) (c_X9_resize ω l μ208 33 r_215 (by unfold isRow; decide) (by unfold ir; omega) hI_210 (by omega)) (wm 5 55 rfl rfl) (wm 3 15 rfl rfl) (wm 3 16 rfl rfl) rfl rfl (by decide) rfl (wm 1 10 rfl rfl) (wm 3 17 rfl rfl) (by decide) hR (by decide) (n := 1) rfl rfl (Nat.le_of_ble_eq_true rfl) hl.1 dX4_isHeld_52 (fun μ218 ρ d0 H locs hp G => ?_)
      obtain ⟨F_219, hI_220, hs_221⟩ := hp
      refine lv_aload_n hx hb dX4_isHeld_55 rfl (lv_at hl 2 rfl) ?_
      refine lv_aload_n hx hb dX4_isHeld_56 rfl (lv_at hl 2 rfl) ?_
      refine xa_getr G fd_X4 (a := 32) (x := 60) 8 rfl (by decide) rfl (wm 2 152 rfl rfl) ⟨rfl, rfl, rfl⟩ dX4_isHeld_57 rfl (G.sk 41 rfl) (by decide) rfl ?_
      have e_222 : ofG μ218 62 = ofG μL14 62 := ((ofG_fr F_219 (by decide) (by decide)).trans (ofG_fr F_209 (by decide) (by decide)))
      refine xc_iV G (b := 60) (rest := [.ref (oP ω 32)]) (As := []) (c_X3_target ω l μ218  hI_220) (wm 5 139 rfl rfl) (wm 5 140 rfl rfl) (wm 5 141 rfl rfl) rfl rfl (by decide) rfl (wm 1 17 rfl rfl) (wm 5 142 rfl rfl) (by decide) hR (by decide) (n := 0) rfl rfl (Nat.le_of_ble_eq_true rfl) hl.1 dX4_isHeld_60 (fun r_224 μ223 ρ d0 H locs hr_r_224 hp G => ?_)
      have hr_r_224 : -2147483648 ≤ r_224 ∧ r_224 ≤ 2147483647 := hr_r_224
      obtain ⟨hsm_225, hp_226⟩ := hp
      have hsm_225 := Eq.symm hsm_225
      subst hsm_225
      have htg : r_224 = μ.1 62 (i9 - 1) := by have h8 : ofG μ218 62 = μ218.1 62 (i9 - 1) := ofG_at (k := i9) (by have h9 : μ218.1 60 6 = μL14.1 60 6 := ((F_219.1 60 (by decide) 6).trans (F_209.1 60 (by decide) 6)); omega) (by omega); have h7 : μ218.1 62 (i9 - 1) = μ.1 62 (i9 - 1) := ((F_219.1 62 (by decide) (i9 - 1)).trans ((F_209.1 62 (by decide) (i9 - 1)).trans (FL15.1 62 (by decide) (i9 - 1)))); omega
      refine xa_puti G fd_X4 (a := 32) (x := r_224) 12 (kz := 12) rfl rfl (by decide) rfl (by unfold ir; omega) (wm 2 156 rfl rfl) ⟨rfl, rfl, rfl, rfl⟩ rfl dX4_isHeld_63 rfl (fun H locs G => ?_)
      refine lv_iconst (v := iv 1) hx hb dX4_isHeld_66 rfl ?_
      have hpc : (sv μ218 32 12 r_224).1 32 12 = μ.1 62 (i9 - 1) := by have h9 : (sv μ218 32 12 r_224).1 32 12 = r_224 := (sv_s _ _ _ _); omega
      have h606 : (sv μ218 32 12 r_224).1 60 6 = i9 - 1 + 1 := by have h9 : (sv μ218 32 12 r_224).1 60 6 = μL14.1 60 6 := ((sv_n _ (fun h9 => absurd h9.1 (by decide))).trans ((F_219.1 60 (by decide) 6).trans (F_209.1 60 (by decide) 6))); omega
      have hI_227 : IC (sv μ218 32 12 r_224) := (IC.put hI_220 (by decide +kernel))
      have e_228 : (sv μ218 32 12 r_224).1 33 3 = max r_215 0 := ((sv_n _ (fun h9 => absurd h9.1 (by decide))).trans hs_221)
      have e_229 : (sv μ218 32 12 r_224).1 60 6 = μL14.1 60 6 := ((sv_n _ (fun h9 => absurd h9.1 (by decide))).trans ((F_219.1 60 (by decide) 6).trans (F_209.1 60 (by decide) 6)))
      have e_230 : (sv μ218 32 12 r_224).1 32 12 = r_224 := (sv_s _ _ _ _)
      have e_231 : (sv μ218 32 12 r_224).1 33 3 = max r_215 0 := ((sv_n _ (fun h9 => absurd h9.1 (by decide))).trans hs_221)
      have e_232 : (sv μ218 32 12 r_224).1 60 6 = μL14.1 60 6 := ((sv_n _ (fun h9 => absurd h9.1 (by decide))).trans ((F_219.1 60 (by decide) 6).trans (F_209.1 60 (by decide) 6)))
      have e_233 : (sv μ218 32 12 r_224).1 60 6 = μL14.1 60 6 := ((sv_n _ (fun h9 => absurd h9.1 (by decide))).trans ((F_219.1 60 (by decide) 6).trans (F_209.1 60 (by decide) 6)))
      have e_234 : (sv μ218 32 12 r_224).1 45 4 = μL14.1 45 4 := ((sv_n _ (fun h9 => absurd h9.1 (by decide))).trans ((F_219.1 45 (by decide) 4).trans (F_209.1 45 (by decide) 4)))
      have e_235 : (sv μ218 32 12 r_224).1 60 6 = μL14.1 60 6 := ((sv_n _ (fun h9 => absurd h9.1 (by decide))).trans ((F_219.1 60 (by decide) 6).trans (F_209.1 60 (by decide) 6)))
      have e_236 : (sv μ218 32 12 r_224).1 45 1 = μ.1 45 1 := ((sv_n _ (fun h9 => absurd h9.1 (by decide))).trans ((F_219.1 45 (by decide) 1).trans ((F_209.1 45 (by decide) 1).trans hi_24)))
      have e_237 : (sv μ218 32 12 r_224).1 32 10 = P := ((sv_n _ (by decide)).trans ((F_219.1 32 (by decide) 10).trans ((F_209.1 32 (by decide) 10).trans ((FL15.1 32 (by decide) 10).trans hP.symm))))
      have e_238 : (sv μ218 32 12 r_224).1 32 11 = μ.1 32 11 := ((sv_n _ (by decide)).trans ((F_219.1 32 (by decide) 11).trans ((F_209.1 32 (by decide) 11).trans (FL15.1 32 (by decide) 11))))
      have e_239 : (sv μ218 32 12 r_224).1 32 13 = μ.1 32 13 := ((sv_n _ (by decide)).trans ((F_219.1 32 (by decide) 13).trans ((F_209.1 32 (by decide) 13).trans (FL15.1 32 (by decide) 13))))
      have e_240 : (sv μ218 32 12 r_224).1 32 14 = μ.1 32 14 := ((sv_n _ (by decide)).trans ((F_219.1 32 (by decide) 14).trans ((F_209.1 32 (by decide) 14).trans (FL15.1 32 (by decide) 14))))
      have e_241 : (sv μ218 32 12 r_224).1 32 15 = μ.1 32 15 := ((sv_n _ (by decide)).trans ((F_219.1 32 (by decide) 15).trans ((F_209.1 32 (by decide) 15).trans (FL15.1 32 (by decide) 15))))
      have e_242 : (sv μ218 32 12 r_224).1 32 16 = μ.1 32 16 := ((sv_n _ (by decide)).trans ((F_219.1 32 (by decide) 16).trans ((F_209.1 32 (by decide) 16).trans (FL15.1 32 (by decide) 16))))
      exact xr_i G (x := 1) hret hlk (by unfold ir; omega) (zr (by omega)) dX4_isHeld_67 ⟨(Fr.put (Fr.tr (Fr.tr (Fr.tr Fr.rf FL15 (by decide)) F_209 (by decide)) F_219 (by decide)) (by decide)), hI_227, (by omega), (fun _ => by rw [hpc, h606]; exact (hgo (i9 - 1) (by omega) (by omega)).2 (by omega)), (by omega), (fun j => (Classical.em (j = i9 - 1)).elim (fun hj => Or.inr ⟨by rw [hj]; exact ((sv_n _ (fun h9 => absurd h9.1 (by decide))).trans ((F_219.1 61 (by decide) (i9 - 1)).trans hk5)), by rw [hj]; omega⟩) (fun hj => Or.inl ((sv_n _ (by omega)).trans ((F_219.1 61 (by decide) j).trans ((ha_212 j (by omega)).trans (FL15.1 61 (by decide) j)))))), (fun h9 => absurd h9 (by omega)), (by omega), (by omega), (by omega), (by omega), (by omega), (by omega), (by omega)⟩
