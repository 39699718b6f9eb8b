theorem dX12_block_0 : decode cX12_block 0 = .ok (.aload_n 0, 1) := by decide +kernel
theorem dX12_block_1 : decode cX12_block 1 = .ok (.bipush 123, 2) := by decide +kernel
theorem dX12_block_3 : decode cX12_block 3 = .ok (.invokevirtual 378, 3) := by decide +kernel
theorem dX12_block_6 : decode cX12_block 6 = .ok (.aload_n 0, 1) := by decide +kernel
theorem dX12_block_7 : decode cX12_block 7 = .ok (.invokevirtual 215, 3) := by decide +kernel
theorem dX12_block_10 : decode cX12_block 10 = .ok (.ifCond .ne 19, 3) := by decide +kernel
theorem dX12_block_13 : decode cX12_block 13 = .ok (.aload_n 0, 1) := by decide +kernel
theorem dX12_block_14 : decode cX12_block 14 = .ok (.bipush 125, 2) := by decide +kernel
theorem dX12_block_16 : decode cX12_block 16 = .ok (.invokevirtual 292, 3) := by decide +kernel
theorem dX12_block_19 : decode cX12_block 19 = .ok (.ifCond .ne 10, 3) := by decide +kernel
theorem dX12_block_22 : decode cX12_block 22 = .ok (.aload_n 0, 1) := by decide +kernel
theorem dX12_block_23 : decode cX12_block 23 = .ok (.invokevirtual 390, 3) := by decide +kernel
theorem dX12_block_26 : decode cX12_block 26 = .ok (.goto (-20), 3) := by decide +kernel
theorem dX12_block_29 : decode cX12_block 29 = .ok (.aload_n 0, 1) := by decide +kernel
theorem dX12_block_30 : decode cX12_block 30 = .ok (.bipush 125, 2) := by decide +kernel
theorem dX12_block_32 : decode cX12_block 32 = .ok (.invokevirtual 387, 3) := by decide +kernel
theorem dX12_block_35 : decode cX12_block 35 = .ok (.return_, 1) := by decide +kernel
set_option maxHeartbeats 4000000 in
set_option maxRecDepth 100000 in
theorem c_X12_block (ω : Om) (l : Launch) (μ : M3) (F : Nat) (Lo : Nat) (kf : Int) (tt : Int) (htt : tt = μ.1 111 14) (hF : 200 ≤ F) (hLo : 6000 ≤ Lo) (hK : ∀ (μ : M3) (tt : Int) (htt : tt = μ.1 111 14) (hPM : PM μ) (hnn : 0 ≤ nn μ ∧ nn μ ≤ 9 ∧ 9 * wr μ ≤ nn μ) (hn8 : nn μ ≤ 8 + wr μ) (hcd : 0 ≤ μ.1 111 22 ∧ μ.1 111 22 ≤ 2 * μ.1 111 9 + 8 * nn μ + 60) (hW : 0 ≤ μ.1 111 39 ∧ μ.1 111 39 ≤ μ.1 111 22) (hsl : 0 ≤ μ.1 111 31 ∧ μ.1 111 31 ≤ 300) (hvr : 0 ≤ μ.1 111 32 ∧ μ.1 111 32 ≤ μ.1 111 9) (hfu : 0 ≤ (kf - 1) ∧ 8 ≤ nn μ + (kf - 1)) (hS0 : ∀ _ : Unit, bd μ = 0 → mS0 μ), CtV ω l yX12_block cX12_block 1 (F + 0) (Lo + 0) [.ref (oP ω 111)] μ (fun (μ' : M3) => (FrM [111, 113, 115, 116, 117, 123, 124, 126] μ μ') ∧ (∀ j, j ∉ ([6, 8, 9, 10, 11, 12, 13, 15, 16, 17, 18, 22, 29, 31, 32, 34, 35, 36, 37, 39] : List Int) → μ'.1 111 j = μ.1 111 j) ∧ (PM μ') ∧ (μ.1 111 22 ≤ μ'.1 111 22 ∧ μ'.1 111 22 ≤ μ.1 111 22 + 2 * (μ'.1 111 9 - μ.1 111 9) + 8 * (nn μ' - nn μ) + (- 4 - 4 * wr μ' + 8 * wr μ)) ∧ (μ.1 111 9 + 1 ≤ μ'.1 111 9 + wr μ') ∧ (μ.1 111 29 ≤ μ'.1 111 29) ∧ (wr μ ≤ wr μ' ∧ bd μ ≤ bd μ') ∧ (nn μ ≤ nn μ' ∧ nn μ' ≤ nn μ + 9 * wr μ' ∧ nn μ' ≤ 9 ∧ 9 * wr μ' ≤ nn μ') ∧ (μ'.1 111 39 = μ.1 111 39) ∧ (∀ j, j < μ.1 111 39 → μ'.1 126 j = μ.1 126 j) ∧ (μ.1 111 31 ≤ μ'.1 111 31 ∧ μ'.1 111 31 ≤ 300) ∧ (0 ≤ μ'.1 111 32 ∧ μ'.1 111 32 ≤ μ'.1 111 9) ∧ (∀ _ : Unit, bd μ' = 0 → mEX μ μ' tt 0 (2 * (8 - nn μ)) 101) ∧ (mEXT μ μ'))) (hPM : PM μ) (hnn : 0 ≤ nn μ ∧ nn μ ≤ 9 ∧ 9 * wr μ ≤ nn μ) (hn8 : nn μ ≤ 8 + wr μ) (hcd : 0 ≤ μ.1 111 22 ∧ μ.1 111 22 ≤ 2 * μ.1 111 9 + 8 * nn μ + 60) (hW : 0 ≤ μ.1 111 39 ∧ μ.1 111 39 ≤ μ.1 111 22) (hsl : 0 ≤ μ.1 111 31 ∧ μ.1 111 31 ≤ 300) (hvr : 0 ≤ μ.1 111 32 ∧ μ.1 111 32 ≤ μ.1 111 9) (hfu : 0 ≤ kf ∧ 8 ≤ nn μ + kf) (hS0 : ∀ _ : Unit, bd μ = 0 → mS0 μ) : CtV ω l yX12_block cX12_block 1 (F + 4) (Lo + 98) [.ref (oP ω 111)] μ (fun (μ' : M3) => (FrM [111, 113, 115, 116, 117, 123, 124, 126] μ μ') ∧ (∀ j, j ∉ ([6, 8, 9, 10, 11, 12, 13, 15, 16, 17, 18, 22, 29, 31, 32, 34, 35, 36, 37, 39] : List Int) → μ'.1 111 j = μ.1 111 j) ∧ (PM μ') ∧ (μ.1 111 22 ≤ μ'.1 111 22 ∧ μ'.1 111 22 ≤ μ.1 111 22 + 2 * (μ'.1 111 9 - μ.1 111 9) + 8 * (nn μ' - nn μ) + (- 4 - 4 * wr μ' + 8 * wr μ)) ∧ (μ.1 111 9 + 1 ≤ μ'.1 111 9 + wr μ') ∧ (μ.1 111 29 ≤ μ'.1 111 29) ∧ (wr μ ≤ wr μ' ∧ bd μ ≤ bd μ') ∧ (nn μ ≤ nn μ' ∧ nn μ' ≤ nn μ + 9 * wr μ' ∧ nn μ' ≤ 9 ∧ 9 * wr μ' ≤ nn μ') ∧ (μ'.1 111 39 = μ.1 111 39) ∧ (∀ j, j < μ.1 111 39 → μ'.1 126 j = μ.1 126 j) ∧ (μ.1 111 31 ≤ μ'.1 111 31 ∧ μ'.1 111 31 ≤ 300) ∧ (0 ≤ μ'.1 111 32 ∧ μ'.1 111 32 ≤ μ'.1 111 9) ∧ (∀ _ : Unit, bd μ' = 0 → mEX μ μ' tt 0 (2 * (8 - nn μ)) 101) ∧ (mEXT μ μ')) := by
  refine CtV.go (by decide) (Nat.le_of_ble_eq_true rfl) (fun ρ p e s m below meth c R ls G hR hret hlk hl => ?_)
  have hx := G.1.1
  have hb := G.1.2.1
  have hl : lv_has ls 1 [(0, .ref (oP ω 111))] := hl
  generalize s.drawn = d0 at G ⊢
  have hw_0 := wr_r (μ := μ)
  have hpp_ := hPM.1.2.1
  have hpn_ := hPM.2.1
  have hpt_ := hPM.1.2.2.2.1
  have hpw_ := hPM.1.2.2.2.2.1
  have hpa_ := hPM.1.1
  have hht_0 : ∀ _ : Unit, bd μ = 0 → mHt μ 0 := fun _ h0 => (hS0 () h0).ht
  refine lv_aload_n hx hb dX12_block_0 rfl (lv_at hl 0 rfl) ?_
  refine lv_bipush (v := iv 123) hx hb dX12_block_1 rfl ?_
  refine xc_vV G (b := 111) (rest := []) (As := [.int (iv 123)]) (c_X12_opensWith ω l μ 123 (by unfold ir; decide) hPM (by (repeat' apply And.intro) <;> omega) (by (repeat' apply And.intro) <;> omega)) (wm 9 86 rfl rfl) (wm 9 88 rfl rfl) (wm 0 134 rfl rfl) rfl rfl (by decide) rfl (wm 1 18 rfl rfl) (wm 9 89 rfl rfl) (by decide) hR ⟨nfB hF (by decide), nlB hLo (by decide)⟩ (n := 1) rfl rfl (Nat.le_of_ble_eq_true rfl) hl.1 dX12_block_3 (fun μ1 ρ d0 H locs hp G => ?_)
  obtain ⟨F_2, hp_3, hp_4, hp_5, hp_6, hp_7, hp_8⟩ := hp
  have hpl_9 := hp_4.pl
  have hw_10 := wr_r (μ := μ1)
  have vl_11 := hp_5
  replace hp_5 := fun _ : Unit => hp_5
  have vl_12 := hp_6
  replace hp_6 := fun _ : Unit => hp_6
  have vl_13 := hp_7
  replace hp_7 := fun _ : Unit => hp_7
  have vl_14 := hp_8
  replace hp_8 := fun _ : Unit => hp_8
  obtain ⟨hv_17, hv_18, hv_19, hv_20, hv_21, hv_22, hv_23, hv_24, hv_25, hv_26, hv_27, hv_28, hv_29, hv_30, hv_31, hv_32, hv_33, hv_34, hv_35⟩ : μ.1 111 22 ≤ μ.1 111 22 ∧ μ.1 111 22 ≤ μ.1 111 22 + 2 * (μ1.1 111 9 - μ.1 111 9) + 8 * (nn μ1 - nn μ) - 10 + 2 * wr μ1 + 8 * wr μ ∧ μ.1 111 9 + 0 ≤ μ1.1 111 9 ∧ μ.1 111 9 + 1 ≤ μ1.1 111 9 + wr μ1 ∧ nn μ + 1 ≤ nn μ1 + 1 * wr μ ∧ nn μ1 ≤ nn μ + 1 + 9 * wr μ1 ∧ nn μ1 ≤ 8 + wr μ1 ∧ 9 * wr μ1 ≤ nn μ1 ∧ nn μ1 ≤ 9 ∧ wr μ ≤ wr μ1 ∧ wr μ1 ≤ 1 ∧ wr μ1 ≤ bd μ1 ∧ bd μ1 ≤ 1 ∧ μ.1 111 29 ≤ μ.1 111 29 ∧ μ.1 111 31 ≤ μ.1 111 31 ∧ μ.1 111 31 ≤ 300 ∧ 0 ≤ μ.1 111 32 ∧ μ.1 111 32 ≤ μ1.1 111 9 ∧ μ1.1 111 9 ≤ 3000 := by (repeat' apply And.intro) <;> omega
  clear hpl_9 hw_10 vl_11 vl_12 vl_13 vl_14
  have e_36 : μ1.1 111 22 = μ.1 111 22 := (hp_3 22 (by decide))
  have hw_38 := wr_r (μ := μ1)
  have e_39 : μ1.1 111 29 = μ.1 111 29 := (hp_3 29 (by decide))
  have e_40 : μ1.1 111 31 = μ.1 111 31 := (hp_3 31 (by decide))
  have e_42 : μ1.1 111 32 = μ.1 111 32 := (hp_3 32 (by decide))
  have e_44 : μ1.1 111 39 = μ.1 111 39 := (hp_3 39 (by decide))
  have hxt_45 : mEXT μ μ1 := (q0m.fr (K := [111]) (FrM.tr FrM.rf F_2 (by decide)) (by decide) (by decide) (by decide) (hp_3 22 (by decide)) (nS.le (Int.le_of_eq (hp_3 29 (by decide)).symm) (Int.le_of_eq (hp_3 31 (by decide)).symm))).1
  have hq_46 : ∀ _ : Unit, q0m μ μ1 := fun _ => (q0m.fr (K := [111]) (FrM.tr FrM.rf F_2 (by decide)) (by decide) (by decide) (by decide) (hp_3 22 (by decide)) (nS.le (Int.le_of_eq (hp_3 29 (by decide)).symm) (Int.le_of_eq (hp_3 31 (by decide)).symm)))
  have hht_47 : ∀ _ : Unit, bd μ1 = 0 → mHt μ1 0 := fun _ h0 => (hht_0 () (bd_z ((hp_7 ()).2) h0)).qm (hq_46 ())
  refine xl (fun n_9 μ' ls => (FrM [111, 113, 115, 116, 117, 123, 124, 126] μ1 μ') ∧ (∀ j, j ∉ ([6, 8, 9, 10, 11, 12, 13, 15, 16, 17, 18, 22, 29, 31, 32, 34, 35, 36, 37, 39] : List Int) → μ'.1 111 j = μ1.1 111 j) ∧ (PM μ') ∧ (μ.1 111 22 ≤ μ'.1 111 22) ∧ (μ'.1 111 22 ≤ μ.1 111 22 + 2 * (μ'.1 111 9 - μ.1 111 9) + 8 * (nn μ' - nn μ) - 10 + 2 * wr μ' + 8 * wr μ) ∧ (μ.1 111 9 + 0 ≤ μ'.1 111 9) ∧ (μ.1 111 9 + 1 ≤ μ'.1 111 9 + wr μ') ∧ (nn μ + 1 ≤ nn μ' + 1 * wr μ) ∧ (nn μ' ≤ nn μ + 1 + 9 * wr μ') ∧ (nn μ' ≤ 8 + wr μ') ∧ (9 * wr μ' ≤ nn μ') ∧ (nn μ' ≤ 9) ∧ (wr μ ≤ wr μ') ∧ (wr μ' ≤ 1) ∧ (wr μ' ≤ bd μ') ∧ (bd μ' ≤ 1) ∧ (μ.1 111 29 ≤ μ'.1 111 29) ∧ (μ.1 111 31 ≤ μ'.1 111 31) ∧ (μ'.1 111 31 ≤ 300) ∧ (0 ≤ μ'.1 111 32) ∧ (μ'.1 111 32 ≤ μ'.1 111 9) ∧ (μ'.1 111 9 ≤ 3000) ∧ (μ'.1 111 39 = μ.1 111 39) ∧ (∀ j, j < μ.1 111 39 → μ'.1 126 j = μ.1 126 j) ∧ (mEXT μ μ') ∧ (bd μ1 ≤ bd μ') ∧ (μ1.1 111 29 ≤ μ'.1 111 29) ∧ (μ1.1 111 31 ≤ μ'.1 111 31) ∧ (∀ _ : Unit, bd μ' = 0 → mEX μ μ' tt 0 (2 * (8 - nn μ)) 101) ∧ n_9 = Int.toNat (3002 - μ'.1 111 9 - wr μ') ∧ lv_has ls 1 [(0, .ref (oP ω 111))]) (fun n_9 ρ μL48 d0 H locs ls hI_l G ih => ?_) _ _ _ _ _ _ _ ⟨FrM.rf, (fun j hj => rfl), hp_4, (by (repeat' apply And.intro) <;> omega), (by (repeat' apply And.intro) <;> omega), (by (repeat' apply And.intro) <;> omega), (by (repeat' apply And.intro) <;> omega), (by (repeat' apply And.intro) <;> omega), (by (repeat' apply And.intro) <;> omega), (by (repeat' apply And.intro) <;> omega), (by (repeat' apply And.intro) <;> omega), (by (repeat' apply And.intro) <;> omega), (by (repeat' apply And.intro) <;> omega), (by (repeat' apply And.intro) <;> omega), (by (repeat' apply And.intro) <;> omega), (by (repeat' apply And.intro) <;> omega), (by (repeat' apply And.intro) <;> omega), (by (repeat' apply And.intro) <;> omega), (by (repeat' apply And.intro) <;> omega), (by (repeat' apply And.intro) <;> omega), (by (repeat' apply And.intro) <;> omega), (by (repeat' apply And.intro) <;> omega), (by (repeat' apply And.intro) <;> omega), (fun j hj => (F_2.1 126 (by decide) j)), hxt_45, (Int.le_refl _), (Int.le_refl _), (Int.le_refl _), (fun _ h0 => mEX.ql (hq_46 ()) ((mEX.rf ((hht_47 () h0).p (by decide))).mn (by omega) (by omega))), rfl, lv_sub hl [0] rfl⟩ G
  obtain ⟨FL49, hi_51, hi_52, hi_53, hi_54, hi_55, hi_56, hi_57, hi_58, hi_59, hi_60, hi_61, hi_62, hi_63, hi_64, hi_65, hi_66, hi_67, hi_68, hi_69, hi_70, hi_71, hi_72, hi_73, hi_74, hi_75, hi_76, hi_77, hi_78, hn50, hl⟩ := hI_l
  have hw_79 := wr_r (μ := μL48)
  clear hv_17 hv_18 hv_19 hv_20 hv_21 hv_22 hv_23 hv_24 hv_25 hv_26 hv_27 hv_28 hv_29 hv_30 hv_31 hv_32 hv_33 hv_34 hv_35 e_36 hw_38 e_39 e_40 e_42 e_44 hw_79
  have hht_L : ∀ _ : Unit, bd μL48 = 0 → mHt μL48 0 := fun _ h0 => (hht_0 () (bd_z (Int.le_trans ((hp_7 ()).2) hi_75) h0)).ex (hi_78 () h0) rfl
  refine lv_aload_n hx hb dX12_block_6 rfl (lv_at hl 0 rfl) ?_
  have hw_81 := wr_r (μ := μL48)
  refine xc_iV G (b := 111) (rest := []) (As := []) (c_X12_isWrong ω l μL48  ) (wm 9 4 rfl rfl) (wm 9 6 rfl rfl) (wm 0 120 rfl rfl) rfl rfl (by decide) rfl (wm 1 18 rfl rfl) (wm 9 7 rfl rfl) (by decide) hR ⟨nfB hF (by decide), nlB hLo (by decide)⟩ (n := 0) rfl rfl (Nat.le_of_ble_eq_true rfl) hl.1 dX12_block_7 (fun r_83 μ82 ρ d0 H locs hr_r_83 hp G => ?_)
  have hr_r_83 : -2147483648 ≤ r_83 ∧ r_83 ≤ 2147483647 := hr_r_83
  obtain ⟨hsm_84, hp_85⟩ := hp
  have hsm_84 := Eq.symm hsm_84
  subst hsm_84
  refine xb_if_ne (tgt := 29) hx hb (by unfold ir; exact ⟨by omega, by omega⟩) dX12_block_10 (by decide) (fun c_10 => ?_) (fun c_10 => ?_)
  · have hb1_86 : r_83 = 1 := by omega
    replace c_10 := fun _ : Unit => c_10
    refine lv_aload_n hx hb dX12_block_29 rfl (lv_at hl 0 rfl) ?_
    refine lv_bipush (v := iv 125) hx hb dX12_block_30 rfl ?_
    refine xc_vV G (b := 111) (rest := []) (As := [.int (iv 125)]) (c_X12_closesWith ω l μL48 125 (by unfold ir; decide) hi_52 (by (repeat' apply And.intro) <;> omega) (by (repeat' apply And.intro) <;> omega)) (wm 9 110 rfl rfl) (wm 9 112 rfl rfl) (wm 0 140 rfl rfl) rfl rfl (by decide) rfl (wm 1 18 rfl rfl) (wm 9 113 rfl rfl) (by decide) hR ⟨nfB hF (by decide), nlB hLo (by decide)⟩ (n := 1) rfl rfl (Nat.le_of_ble_eq_true rfl) hl.1 dX12_block_32 (fun μ87 ρ d0 H locs hp G => ?_)
    obtain ⟨F_88, hp_89, hp_90, hp_91, hp_92, hp_93, hp_94⟩ := hp
    have hpl_95 := hp_90.pl
    have hw_96 := wr_r (μ := μ87)
    have vl_97 := hp_91
    replace hp_91 := fun _ : Unit => hp_91
    have vl_98 := hp_92
    replace hp_92 := fun _ : Unit => hp_92
    have vl_99 := hp_93
    replace hp_93 := fun _ : Unit => hp_93
    have vl_100 := hp_94
    replace hp_94 := fun _ : Unit => hp_94
    have h39_101 : μL48.1 111 39 = μ.1 111 39 := by omega
    obtain ⟨hv_104, hv_105, hv_106, hv_107, hv_108, hv_109, hv_110, hv_111, hv_112, hv_113, hv_114, hv_115, hv_116, hv_117, hv_118, hv_119, hv_120, hv_121, hv_122, hv_123⟩ : μ.1 111 22 ≤ μL48.1 111 22 ∧ μL48.1 111 22 ≤ μ.1 111 22 + 2 * (μ87.1 111 9 - μ.1 111 9) + 8 * (nn μ87 - nn μ) - 4 + -4 * wr μ87 + 8 * wr μ ∧ μ.1 111 9 + 0 ≤ μ87.1 111 9 ∧ μ.1 111 9 + 1 ≤ μ87.1 111 9 + wr μ87 ∧ nn μ + 0 ≤ nn μ87 + 0 * wr μ ∧ nn μ87 ≤ nn μ + 0 + 9 * wr μ87 ∧ nn μ87 ≤ 8 + wr μ87 ∧ 9 * wr μ87 ≤ nn μ87 ∧ nn μ87 ≤ 9 ∧ wr μ ≤ wr μ87 ∧ wr μ87 ≤ 1 ∧ wr μ87 ≤ bd μ87 ∧ bd μ87 ≤ 1 ∧ μL48.1 111 9 + 0 ≤ μ87.1 111 9 ∧ μ.1 111 29 ≤ μL48.1 111 29 ∧ μ.1 111 31 ≤ μL48.1 111 31 ∧ μL48.1 111 31 ≤ 300 ∧ 0 ≤ μL48.1 111 32 ∧ μL48.1 111 32 ≤ μ87.1 111 9 ∧ μ87.1 111 9 ≤ 3000 := by (repeat' apply And.intro) <;> omega
    clear hi_53 hi_54 hi_55 hi_56 hi_57 hi_58 hi_59 hi_60 hi_61 hi_62 hi_63 hi_64 hi_65 hi_66 hi_67 hi_68 hi_69 hi_70 hi_71 hi_72 hw_81 hpl_95 hw_96 vl_97 vl_98 vl_99 vl_100
    have hq_124 : ∀ _ : Unit, q0m μL48 μ87 := fun _ => (q0m.fr (K := [111]) (FrM.tr FrM.rf F_88 (by decide)) (by decide) (by decide) (by decide) (hp_89 22 (by decide)) (nS.le (Int.le_of_eq (hp_89 29 (by decide)).symm) (Int.le_of_eq (hp_89 31 (by decide)).symm)))
    have hw_125 := wr_r (μ := μ87)
    have hht_126 : ∀ _ : Unit, bd μ87 = 0 → mHt μ87 0 := fun _ h0 => (hht_L () (bd_z ((hp_93 ()).2) h0)).qm (hq_124 ())
    have e_127 : μ87.1 111 22 = μL48.1 111 22 := (hp_89 22 (by decide))
    have e_128 : μ87.1 111 29 = μL48.1 111 29 := (hp_89 29 (by decide))
    have e_129 : μ87.1 111 39 = μL48.1 111 39 := (hp_89 39 (by decide))
    have e_130 : μ87.1 111 31 = μL48.1 111 31 := (hp_89 31 (by decide))
    have e_131 : μ87.1 111 32 = μL48.1 111 32 := (hp_89 32 (by decide))
    have hxt_132 : mEXT μ μ87 := hi_74.tr (q0m.fr (K := [111]) (FrM.tr FrM.rf F_88 (by decide)) (by decide) (by decide) (by decide) (hp_89 22 (by decide)) (nS.le (Int.le_of_eq (hp_89 29 (by decide)).symm) (Int.le_of_eq (hp_89 31 (by decide)).symm))).1
    exact xr_v G hret hlk dX12_block_35 ⟨(FrM.tr (FrM.tr (FrM.tr FrM.rf F_2 (by decide)) FL49 (by decide)) F_88 (by decide)), (fun j hj => ((hp_89 j (fun h9 => hj ((by decide : ∀ x ∈ ([6, 8, 9, 10, 11, 12, 13, 15, 18] : List Int), x ∈ ([6, 8, 9, 10, 11, 12, 13, 15, 16, 17, 18, 22, 29, 31, 32, 34, 35, 36, 37, 39] : List Int)) j h9))).trans ((hi_51 j (fun h9 => hj ((by decide : ∀ x ∈ ([6, 8, 9, 10, 11, 12, 13, 15, 16, 17, 18, 22, 29, 31, 32, 34, 35, 36, 37, 39] : List Int), x ∈ ([6, 8, 9, 10, 11, 12, 13, 15, 16, 17, 18, 22, 29, 31, 32, 34, 35, 36, 37, 39] : List Int)) j h9))).trans (hp_3 j (fun h9 => hj ((by decide : ∀ x ∈ ([6, 8, 9, 10, 11, 12, 13, 15, 18] : List Int), x ∈ ([6, 8, 9, 10, 11, 12, 13, 15, 16, 17, 18, 22, 29, 31, 32, 34, 35, 36, 37, 39] : List Int)) j h9)))))), hp_90, (by (repeat' apply And.intro) <;> omega), (by (repeat' apply And.intro) <;> omega), (by (repeat' apply And.intro) <;> omega), ⟨by omega, (Int.le_trans (Int.le_trans ((hp_7 ()).2) hi_75) ((hp_93 ()).2))⟩, (by (repeat' apply And.intro) <;> omega), (by (repeat' apply And.intro) <;> omega), (fun j hj => ((F_88.1 126 (by decide) j).trans (hi_73 j (by omega)))), (by (repeat' apply And.intro) <;> omega), (by (repeat' apply And.intro) <;> omega), (fun _ h0 => ((hi_78 () (bd_z ((hp_93 ()).2) h0)).qm (hq_124 ()))), hxt_132⟩
  · refine lv_aload_n hx hb dX12_block_13 rfl (lv_at hl 0 rfl) ?_
    refine lv_bipush (v := iv 125) hx hb dX12_block_14 rfl ?_
    refine xc_iV G (b := 111) (rest := []) (As := [.int (iv 125)]) (c_X12_isSign ω l μL48 125 (by unfold ir; decide)) (wm 9 90 rfl rfl) (wm 9 92 rfl rfl) (wm 0 135 rfl rfl) rfl rfl (by decide) rfl (wm 1 18 rfl rfl) (wm 9 93 rfl rfl) (by decide) hR ⟨nfB hF (by decide), nlB hLo (by decide)⟩ (n := 1) rfl rfl (Nat.le_of_ble_eq_true rfl) hl.1 dX12_block_16 (fun r_142 μ141 ρ d0 H locs hr_r_142 hp G => ?_)
    have hr_r_142 : -2147483648 ≤ r_142 ∧ r_142 ≤ 2147483647 := hr_r_142
    obtain ⟨hsm_143, hp_144⟩ := hp
    have hsm_143 := Eq.symm hsm_143
    subst hsm_143
    have hrb_r_142 : 0 ≤ r_142 ∧ r_142 ≤ 1 := sf_r hp_144
    replace hp_144 := fun _ : Unit => hp_144
    refine xb_if_ne (tgt := 29) hx hb (by unfold ir; exact ⟨by omega, by omega⟩) dX12_block_19 (by decide) (fun c_19 => ?_) (fun c_19 => ?_)
    · have hsg_145 := sf_t (hp_144 ()) c_19
      have hb1_146 : r_142 = 1 := by omega
      replace c_19 := fun _ : Unit => c_19
      refine lv_aload_n hx hb dX12_block_29 rfl (lv_at hl 0 rfl) ?_
      refine lv_bipush (v := iv 125) hx hb dX12_block_30 rfl ?_
      refine xc_vV G (b := 111) (rest := []) (As := [.int (iv 125)]) (c_X12_closesWith ω l μL48 125 (by unfold ir; decide) hi_52 (by (repeat' apply And.intro) <;> omega) (by (repeat' apply And.intro) <;> omega)) (wm 9 110 rfl rfl) (wm 9 112 rfl rfl) (wm 0 140 rfl rfl) rfl rfl (by decide) rfl (wm 1 18 rfl rfl) (wm 9 113 rfl rfl) (by decide) hR ⟨nfB hF (by decide), nlB hLo (by decide)⟩ (n := 1) rfl rfl (Nat.le_of_ble_eq_true rfl) hl.1 dX12_block_32 (fun μ147 ρ d0 H locs hp G => ?_)
      obtain ⟨F_148, hp_149, hp_150, hp_151, hp_152, hp_153, hp_154⟩ := hp
      have hpl_155 := hp_150.pl
      have hw_156 := wr_r (μ := μ147)
      have vl_157 := hp_151
      replace hp_151 := fun _ : Unit => hp_151
      have vl_158 := hp_152
      replace hp_152 := fun _ : Unit => hp_152
      have vl_159 := hp_153
      replace hp_153 := fun _ : Unit => hp_153
      have vl_160 := hp_154
      replace hp_154 := fun _ : Unit => hp_154
      have h39_161 : μL48.1 111 39 = μ.1 111 39 := by omega
      obtain ⟨hv_164, hv_165, hv_166, hv_167, hv_168, hv_169, hv_170, hv_171, hv_172, hv_173, hv_174, hv_175, hv_176, hv_177, hv_178, hv_179, hv_180, hv_181, hv_182, hv_183⟩ : μ.1 111 22 ≤ μL48.1 111 22 ∧ μL48.1 111 22 ≤ μ.1 111 22 + 2 * (μ147.1 111 9 - μ.1 111 9) + 8 * (nn μ147 - nn μ) - 4 + -4 * wr μ147 + 8 * wr μ ∧ μ.1 111 9 + 0 ≤ μ147.1 111 9 ∧ μ.1 111 9 + 1 ≤ μ147.1 111 9 + wr μ147 ∧ nn μ + 0 ≤ nn μ147 + 0 * wr μ ∧ nn μ147 ≤ nn μ + 0 + 9 * wr μ147 ∧ nn μ147 ≤ 8 + wr μ147 ∧ 9 * wr μ147 ≤ nn μ147 ∧ nn μ147 ≤ 9 ∧ wr μ ≤ wr μ147 ∧ wr μ147 ≤ 1 ∧ wr μ147 ≤ bd μ147 ∧ bd μ147 ≤ 1 ∧ μL48.1 111 9 + 0 ≤ μ147.1 111 9 ∧ μ.1 111 29 ≤ μL48.1 111 29 ∧ μ.1 111 31 ≤ μL48.1 111 31 ∧ μL48.1 111 31 ≤ 300 ∧ 0 ≤ μL48.1 111 32 ∧ μL48.1 111 32 ≤ μ147.1 111 9 ∧ μ147.1 111 9 ≤ 3000 := by (repeat' apply And.intro) <;> omega
      clear hi_53 hi_54 hi_55 hi_56 hi_57 hi_58 hi_59 hi_60 hi_61 hi_62 hi_63 hi_64 hi_65 hi_66 hi_67 hi_68 hi_69 hi_70 hi_71 hi_72 hw_81 hpl_155 hw_156 vl_157 vl_158 vl_159 vl_160
      have hq_184 : ∀ _ : Unit, q0m μL48 μ147 := fun _ => (q0m.fr (K := [111]) (FrM.tr FrM.rf F_148 (by decide)) (by decide) (by decide) (by decide) (hp_149 22 (by decide)) (nS.le (Int.le_of_eq (hp_149 29 (by decide)).symm) (Int.le_of_eq (hp_149 31 (by decide)).symm)))
      have hw_185 := wr_r (μ := μ147)
      have hht_186 : ∀ _ : Unit, bd μ147 = 0 → mHt μ147 0 := fun _ h0 => (hht_L () (bd_z ((hp_153 ()).2) h0)).qm (hq_184 ())
      have e_187 : μ147.1 111 22 = μL48.1 111 22 := (hp_149 22 (by decide))
      have e_188 : μ147.1 111 29 = μL48.1 111 29 := (hp_149 29 (by decide))
      have e_189 : μ147.1 111 39 = μL48.1 111 39 := (hp_149 39 (by decide))
      have e_190 : μ147.1 111 31 = μL48.1 111 31 := (hp_149 31 (by decide))
      have e_191 : μ147.1 111 32 = μL48.1 111 32 := (hp_149 32 (by decide))
      have hxt_192 : mEXT μ μ147 := hi_74.tr (q0m.fr (K := [111]) (FrM.tr FrM.rf F_148 (by decide)) (by decide) (by decide) (by decide) (hp_149 22 (by decide)) (nS.le (Int.le_of_eq (hp_149 29 (by decide)).symm) (Int.le_of_eq (hp_149 31 (by decide)).symm))).1
      exact xr_v G hret hlk dX12_block_35 ⟨(FrM.tr (FrM.tr (FrM.tr FrM.rf F_2 (by decide)) FL49 (by decide)) F_148 (by decide)), (fun j hj => ((hp_149 j (fun h9 => hj ((by decide : ∀ x ∈ ([6, 8, 9, 10, 11, 12, 13, 15, 18] : List Int), x ∈ ([6, 8, 9, 10, 11, 12, 13, 15, 16, 17, 18, 22, 29, 31, 32, 34, 35, 36, 37, 39] : List Int)) j h9))).trans ((hi_51 j (fun h9 => hj ((by decide : ∀ x ∈ ([6, 8, 9, 10, 11, 12, 13, 15, 16, 17, 18, 22, 29, 31, 32, 34, 35, 36, 37, 39] : List Int), x ∈ ([6, 8, 9, 10, 11, 12, 13, 15, 16, 17, 18, 22, 29, 31, 32, 34, 35, 36, 37, 39] : List Int)) j h9))).trans (hp_3 j (fun h9 => hj ((by decide : ∀ x ∈ ([6, 8, 9, 10, 11, 12, 13, 15, 18] : List Int), x ∈ ([6, 8, 9, 10, 11, 12, 13, 15, 16, 17, 18, 22, 29, 31, 32, 34, 35, 36, 37, 39] : List Int)) j h9)))))), hp_150, (by (repeat' apply And.intro) <;> omega), (by (repeat' apply And.intro) <;> omega), (by (repeat' apply And.intro) <;> omega), ⟨by omega, (Int.le_trans (Int.le_trans ((hp_7 ()).2) hi_75) ((hp_153 ()).2))⟩, (by (repeat' apply And.intro) <;> omega), (by (repeat' apply And.intro) <;> omega), (fun j hj => ((F_148.1 126 (by decide) j).trans (hi_73 j (by omega)))), (by (repeat' apply And.intro) <;> omega), (by (repeat' apply And.intro) <;> omega), (fun _ h0 => ((hi_78 () (bd_z ((hp_153 ()).2) h0)).qm (hq_184 ()))), hxt_192⟩
    · refine lv_aload_n hx hb dX12_block_22 rfl (lv_at hl 0 rfl) ?_
      have e_201 : μL48.1 111 14 = tt := ((hi_51 14 (by decide)).trans ((hp_3 14 (by decide)).trans htt.symm))
      refine xc_vV G (b := 111) (rest := []) (As := []) (c_X12_statement ω l μL48 F Lo kf tt (by (repeat' apply And.intro) <;> omega) hF hLo hK hi_52 (by (repeat' apply And.intro) <;> omega) (by (repeat' apply And.intro) <;> omega) (by (repeat' apply And.intro) <;> omega) (by (repeat' apply And.intro) <;> omega) (by (repeat' apply And.intro) <;> omega) (by (repeat' apply And.intro) <;> omega) (by (repeat' apply And.intro) <;> omega) (by (repeat' apply And.intro) <;> omega) (fun _ h0 => (hht_L () h0).s)) (wm 9 122 rfl rfl) (wm 9 124 rfl rfl) (wm 0 143 rfl rfl) rfl rfl (by decide) rfl (wm 1 18 rfl rfl) (wm 9 125 rfl rfl) (by decide) hR ⟨sfr (F := F) (a := 3) (by decide), slo (L := Lo) (m := 3) (a := 76) (by decide)⟩ (n := 0) rfl rfl (Nat.le_of_ble_eq_true rfl) hl.1 dX12_block_23 (fun μ202 ρ d0 H locs hp G => ?_)
      obtain ⟨F_203, hp_204, hp_205, hp_206, hp_207, hp_208, hp_209, hp_210, hp_211, hp_212, hp_213, hp_214, hp_215, hp_216⟩ := hp
      have hpl_217 := hp_205.pl
      have hw_218 := wr_r (μ := μ202)
      have hxt_219 : mEXT μ μ202 := hi_74.tr hp_216
      have hwk_220 : ∀ j, j < μ.1 111 39 → μ202.1 126 j = μL48.1 126 j := fun j hj => hp_212 j (by omega)
      have hex_221 : ∀ _ : Unit, bd μ202 = 0 → mEX μL48 μ202 tt 0 (2 * (8 - nn μ)) 101 := fun _ h0 => (hp_215 () h0).mn (by omega) (Int.le_refl _)
      have hht_222 : ∀ _ : Unit, bd μ202 = 0 → mHt μ202 0 := fun _ h0 => (hht_L () (bd_z (hp_209.2) h0)).ex (hex_221 () h0) rfl
      have vl_223 := hp_206
      replace hp_206 := fun _ : Unit => hp_206
      have vl_224 := hp_207
      replace hp_207 := fun _ : Unit => hp_207
      have vl_225 := hp_208
      replace hp_208 := fun _ : Unit => hp_208
      have vl_226 := hp_209
      replace hp_209 := fun _ : Unit => hp_209
      have vl_227 := hp_210
      replace hp_210 := fun _ : Unit => hp_210
      have vl_228 := hp_211
      replace hp_211 := fun _ : Unit => hp_211
      have vl_229 := hp_213
      replace hp_213 := fun _ : Unit => hp_213
      have vl_230 := hp_214
      replace hp_214 := fun _ : Unit => hp_214
      have h39_231 : μ202.1 111 39 = μ.1 111 39 := by omega
      obtain ⟨hv_234, hv_235, hv_236, hv_237, hv_238, hv_239, hv_240, hv_241, hv_242, hv_243, hv_244, hv_245, hv_246, hv_247, hv_248, hv_249, hv_250, hv_251, hv_252, hv_253, hv_254⟩ : μ.1 111 22 ≤ μ202.1 111 22 ∧ μ202.1 111 22 ≤ μ.1 111 22 + 2 * (μ202.1 111 9 - μ.1 111 9) + 8 * (nn μ202 - nn μ) - 10 + 2 * wr μ202 + 8 * wr μ ∧ μ.1 111 9 + 0 ≤ μ202.1 111 9 ∧ μ.1 111 9 + 1 ≤ μ202.1 111 9 + wr μ202 ∧ nn μ + 1 ≤ nn μ202 + 1 * wr μ ∧ nn μ202 ≤ nn μ + 1 + 9 * wr μ202 ∧ nn μ202 ≤ 8 + wr μ202 ∧ 9 * wr μ202 ≤ nn μ202 ∧ nn μ202 ≤ 9 ∧ wr μ ≤ wr μ202 ∧ wr μ202 ≤ 1 ∧ wr μ202 ≤ bd μ202 ∧ bd μ202 ≤ 1 ∧ μL48.1 111 9 + 0 ≤ μ202.1 111 9 ∧ μL48.1 111 9 + 1 ≤ μ202.1 111 9 + wr μ202 ∧ μ.1 111 29 ≤ μ202.1 111 29 ∧ μ.1 111 31 ≤ μ202.1 111 31 ∧ μ202.1 111 31 ≤ 300 ∧ 0 ≤ μ202.1 111 32 ∧ μ202.1 111 32 ≤ μ202.1 111 9 ∧ μ202.1 111 9 ≤ 3000 := by (repeat' apply And.intro) <;> omega
      clear hi_53 hi_54 hi_55 hi_56 hi_57 hi_58 hi_59 hi_60 hi_61 hi_62 hi_63 hi_64 hi_65 hi_66 hi_67 hi_68 hi_69 hi_70 hi_71 hi_72 hw_81 e_201 hpl_217 hw_218 vl_223 vl_224 vl_225 vl_226 vl_227 vl_228 vl_229 vl_230
      refine lv_goto (tgt := 6) hx hb dX12_block_26 (by decide) ?_
      have hw_255 := wr_r (μ := μ202)
      exact ih _ _ _ _ _ _ _ (by omega) ⟨(FrM.tr FL49 F_203 (by decide)), (fun j hj => ((hp_204 j (fun h9 => hj ((by decide : ∀ x ∈ ([6, 8, 9, 10, 11, 12, 13, 15, 16, 17, 18, 22, 29, 31, 32, 34, 35, 36, 37, 39] : List Int), x ∈ ([6, 8, 9, 10, 11, 12, 13, 15, 16, 17, 18, 22, 29, 31, 32, 34, 35, 36, 37, 39] : List Int)) j h9))).trans (hi_51 j (fun h9 => hj ((by decide : ∀ x ∈ ([6, 8, 9, 10, 11, 12, 13, 15, 16, 17, 18, 22, 29, 31, 32, 34, 35, 36, 37, 39] : List Int), x ∈ ([6, 8, 9, 10, 11, 12, 13, 15, 16, 17, 18, 22, 29, 31, 32, 34, 35, 36, 37, 39] : List Int)) j h9))))), hp_205, (by (repeat' apply And.intro) <;> omega), (by (repeat' apply And.intro) <;> omega), (by (repeat' apply And.intro) <;> omega), (by (repeat' apply And.intro) <;> omega), (by (repeat' apply And.intro) <;> omega), (by (repeat' apply And.intro) <;> omega), (by (repeat' apply And.intro) <;> omega), (by (repeat' apply And.intro) <;> omega), (by (repeat' apply And.intro) <;> omega), (by (repeat' apply And.intro) <;> omega), (by (repeat' apply And.intro) <;> omega), (by (repeat' apply And.intro) <;> omega), (by (repeat' apply And.intro) <;> omega), (by (repeat' apply And.intro) <;> omega), (by (repeat' apply And.intro) <;> omega), (by (repeat' apply And.intro) <;> omega), (by (repeat' apply And.intro) <;> omega), (by (repeat' apply And.intro) <;> omega), (by (repeat' apply And.intro) <;> omega), (by (repeat' apply And.intro) <;> omega), (fun j hj => ((hwk_220 j (by omega)).trans (hi_73 j (by omega)))), hxt_219, (Int.le_trans hi_75 ((hp_209 ()).2)), (Int.le_trans hi_76 (hp_208 ())), (Int.le_trans hi_77 ((hp_213 ()).1)), (fun _ h0 => (mEX.tr (hi_78 () (bd_z ((hp_209 ()).2) h0)) (hex_221 () h0) (by omega)).e rfl), rfl, lv_sub hl [0] rfl⟩ G
/-! the reference's blocks at every depth -/
def mLvK (ω : Om) (l : Launch) (kf : Int) (F Lo : Nat) : Prop := ∀ (μ : M3) (tt : Int) (htt : tt = μ.1 111 14) (hPM : PM μ) (hnn : 0 ≤ nn μ ∧ nn μ ≤ 9 ∧ 9 * wr μ ≤ nn μ) (hn8 : nn μ ≤ 8 + wr μ) (hcd : 0 ≤ μ.1 111 22 ∧ μ.1 111 22 ≤ 2 * μ.1 111 9 + 8 * nn μ + 60) (hW : 0 ≤ μ.1 111 39 ∧ μ.1 111 39 ≤ μ.1 111 22) (hsl : 0 ≤ μ.1 111 31 ∧ μ.1 111 31 ≤ 300) (hvr : 0 ≤ μ.1 111 32 ∧ μ.1 111 32 ≤ μ.1 111 9) (hfu : 0 ≤ kf ∧ 8 ≤ nn μ + kf) (hS0 : ∀ _ : Unit, bd μ = 0 → mS0 μ), CtV ω l yX12_block cX12_block 1 (F + 0) (Lo + 0) [.ref (oP ω 111)] μ (fun (μ' : M3) => (FrM [111, 113, 115, 116, 117, 123, 124, 126] μ μ') ∧ (∀ j, j ∉ ([6, 8, 9, 10, 11, 12, 13, 15, 16, 17, 18, 22, 29, 31, 32, 34, 35, 36, 37, 39] : List Int) → μ'.1 111 j = μ.1 111 j) ∧ (PM μ') ∧ (μ.1 111 22 ≤ μ'.1 111 22 ∧ μ'.1 111 22 ≤ μ.1 111 22 + 2 * (μ'.1 111 9 - μ.1 111 9) + 8 * (nn μ' - nn μ) + (- 4 - 4 * wr μ' + 8 * wr μ)) ∧ (μ.1 111 9 + 1 ≤ μ'.1 111 9 + wr μ') ∧ (μ.1 111 29 ≤ μ'.1 111 29) ∧ (wr μ ≤ wr μ' ∧ bd μ ≤ bd μ') ∧ (nn μ ≤ nn μ' ∧ nn μ' ≤ nn μ + 9 * wr μ' ∧ nn μ' ≤ 9 ∧ 9 * wr μ' ≤ nn μ') ∧ (μ'.1 111 39 = μ.1 111 39) ∧ (∀ j, j < μ.1 111 39 → μ'.1 126 j = μ.1 126 j) ∧ (μ.1 111 31 ≤ μ'.1 111 31 ∧ μ'.1 111 31 ≤ 300) ∧ (0 ≤ μ'.1 111 32 ∧ μ'.1 111 32 ≤ μ'.1 111 9) ∧ (∀ _ : Unit, bd μ' = 0 → mEX μ μ' tt 0 (2 * (8 - nn μ)) 101) ∧ (mEXT μ μ'))
theorem mlk_step (ω : Om) (l : Launch) {kf : Int} {F Lo : Nat} (hF : 200 ≤ F) (hLo : 6000 ≤ Lo) (hK : mLvK ω l (kf - 1) F Lo) : mLvK ω l kf (F + 4) (Lo + 98) := by
  intro μ tt htt hPM hnn hn8 hcd hW hsl hvr hfu hS0
  exact c_X12_block ω l μ F Lo kf tt htt hF hLo hK hPM hnn hn8 hcd hW hsl hvr hfu hS0
theorem mlk_0 (ω : Om) (l : Launch) (F Lo : Nat) : mLvK ω l (-1) F Lo := by
  intro μ tt htt hPM hnn hn8 hcd hW hsl hvr hfu hS0
  exact absurd hfu.1 (by decide)
theorem mlk_all (ω : Om) (l : Launch) : ∀ n : Nat, mLvK ω l ((n : Int) - 1) (200 + 4 * n) (6000 + 98 * n)
  | 0 => mlk_0 ω l _ _
  | n + 1 => by
    have e0 : ((n + 1 : Nat) : Int) - 1 = n := by omega
    have s := mlk_step ω l (kf := n) (by omega) (by omega) (mlk_all ω l n)
    rw [e0]
    have e1 : 200 + 4 * (n + 1) = 200 + 4 * n + 4 := by omega
    have e2 : 6000 + 98 * (n + 1) = 6000 + 98 * n + 98 := by omega
    rw [e1, e2]
    exact s
theorem c_X12_block_a (ω : Om) (l : Launch) (μ : M3) (tt : Int) (htt : tt = μ.1 111 14) (hPM : PM μ) (hnn : 0 ≤ nn μ ∧ nn μ ≤ 9 ∧ 9 * wr μ ≤ nn μ) (hn8 : nn μ ≤ 8 + wr μ) (hcd : 0 ≤ μ.1 111 22 ∧ μ.1 111 22 ≤ 2 * μ.1 111 9 + 8 * nn μ + 60) (hW : 0 ≤ μ.1 111 39 ∧ μ.1 111 39 ≤ μ.1 111 22) (hsl : 0 ≤ μ.1 111 31 ∧ μ.1 111 31 ≤ 300) (hvr : 0 ≤ μ.1 111 32 ∧ μ.1 111 32 ≤ μ.1 111 9) (hS0 : ∀ _ : Unit, bd μ = 0 → mS0 μ) : CtV ω l yX12_block cX12_block 1 240 6980 [.ref (oP ω 111)] μ (fun (μ' : M3) => (FrM [111, 113, 115, 116, 117, 123, 124, 126] μ μ') ∧ (∀ j, j ∉ ([6, 8, 9, 10, 11, 12, 13, 15, 16, 17, 18, 22, 29, 31, 32, 34, 35, 36, 37, 39] : List Int) → μ'.1 111 j = μ.1 111 j) ∧ (PM μ') ∧ (μ.1 111 22 ≤ μ'.1 111 22 ∧ μ'.1 111 22 ≤ μ.1 111 22 + 2 * (μ'.1 111 9 - μ.1 111 9) + 8 * (nn μ' - nn μ) + (- 4 - 4 * wr μ' + 8 * wr μ)) ∧ (μ.1 111 9 + 1 ≤ μ'.1 111 9 + wr μ') ∧ (μ.1 111 29 ≤ μ'.1 111 29) ∧ (wr μ ≤ wr μ' ∧ bd μ ≤ bd μ') ∧ (nn μ ≤ nn μ' ∧ nn μ' ≤ nn μ + 9 * wr μ' ∧ nn μ' ≤ 9 ∧ 9 * wr μ' ≤ nn μ') ∧ (μ'.1 111 39 = μ.1 111 39) ∧ (∀ j, j < μ.1 111 39 → μ'.1 126 j = μ.1 126 j) ∧ (μ.1 111 31 ≤ μ'.1 111 31 ∧ μ'.1 111 31 ≤ 300) ∧ (0 ≤ μ'.1 111 32 ∧ μ'.1 111 32 ≤ μ'.1 111 9) ∧ (∀ _ : Unit, bd μ' = 0 → mEX μ μ' tt 0 (2 * (8 - nn μ)) 101) ∧ (mEXT μ μ')) := by
  have h := mlk_all ω l 10
  unfold mLvK at h
  exact h μ tt htt hPM hnn hn8 hcd hW hsl hvr (by omega) hS0
