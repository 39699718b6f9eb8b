abbrev cX4_run : ByteArray := prog_6_method_8_code
def yX4_run : MethodName := ⟨RX4, "run", "(IIJ)I"⟩
theorem dX4_run_0 : decode cX4_run 0 = .ok (.aload_n 0, 1) := by decide +kernel
theorem dX4_run_1 : decode cX4_run 1 = .ok (.invokevirtual 119, 3) := by decide +kernel
theorem dX4_run_4 : decode cX4_run 4 = .ok (.aload_n 0, 1) := by decide +kernel
theorem dX4_run_5 : decode cX4_run 5 = .ok (.iload_n 1, 1) := by decide +kernel
theorem dX4_run_6 : decode cX4_run 6 = .ok (.lload_n 3, 1) := by decide +kernel
theorem dX4_run_7 : decode cX4_run 7 = .ok (.invokevirtual 122, 3) := by decide +kernel
theorem dX4_run_10 : decode cX4_run 10 = .ok (.aload_n 0, 1) := by decide +kernel
theorem dX4_run_11 : decode cX4_run 11 = .ok (.iload_n 1, 1) := by decide +kernel
theorem dX4_run_12 : decode cX4_run 12 = .ok (.iload_n 2, 1) := by decide +kernel
theorem dX4_run_13 : decode cX4_run 13 = .ok (.iconst 1, 1) := by decide +kernel
theorem dX4_run_14 : decode cX4_run 14 = .ok (.iconst 0, 1) := by decide +kernel
theorem dX4_run_15 : decode cX4_run 15 = .ok (.invokevirtual 126, 3) := by decide +kernel
theorem dX4_run_18 : decode cX4_run 18 = .ok (.iconst 0, 1) := by decide +kernel
theorem dX4_run_19 : decode cX4_run 19 = .ok (.istore 5, 2) := by decide +kernel
theorem dX4_run_21 : decode cX4_run 21 = .ok (.iload 5, 2) := by decide +kernel
theorem dX4_run_23 : decode cX4_run 23 = .ok (.ldc 130, 2) := by decide +kernel
theorem dX4_run_25 : decode cX4_run 25 = .ok (.if_icmp .ge 125, 3) := by decide +kernel
theorem dX4_run_28 : decode cX4_run 28 = .ok (.aload_n 0, 1) := by decide +kernel
theorem dX4_run_29 : decode cX4_run 29 = .ok (.getfield 58, 3) := by decide +kernel
theorem dX4_run_32 : decode cX4_run 32 = .ok (.iconst 4, 1) := by decide +kernel
theorem dX4_run_33 : decode cX4_run 33 = .ok (.if_icmp .eq 117, 3) := by decide +kernel
theorem dX4_run_36 : decode cX4_run 36 = .ok (.aload_n 0, 1) := by decide +kernel
theorem dX4_run_37 : decode cX4_run 37 = .ok (.getfield 58, 3) := by decide +kernel
theorem dX4_run_40 : decode cX4_run 40 = .ok (.iconst 1, 1) := by decide +kernel
theorem dX4_run_41 : decode cX4_run 41 = .ok (.if_icmp .ne 10, 3) := by decide +kernel
theorem dX4_run_44 : decode cX4_run 44 = .ok (.aload_n 0, 1) := by decide +kernel
theorem dX4_run_45 : decode cX4_run 45 = .ok (.invokevirtual 131, 3) := by decide +kernel
theorem dX4_run_48 : decode cX4_run 48 = .ok (.goto 96, 3) := by decide +kernel
theorem dX4_run_51 : decode cX4_run 51 = .ok (.aload_n 0, 1) := by decide +kernel
theorem dX4_run_52 : decode cX4_run 52 = .ok (.getfield 58, 3) := by decide +kernel
theorem dX4_run_55 : decode cX4_run 55 = .ok (.iconst 2, 1) := by decide +kernel
theorem dX4_run_56 : decode cX4_run 56 = .ok (.if_icmp .ne 10, 3) := by decide +kernel
theorem dX4_run_59 : decode cX4_run 59 = .ok (.aload_n 0, 1) := by decide +kernel
theorem dX4_run_60 : decode cX4_run 60 = .ok (.invokevirtual 134, 3) := by decide +kernel
theorem dX4_run_63 : decode cX4_run 63 = .ok (.goto 81, 3) := by decide +kernel
theorem dX4_run_66 : decode cX4_run 66 = .ok (.aload_n 0, 1) := by decide +kernel
theorem dX4_run_67 : decode cX4_run 67 = .ok (.getfield 58, 3) := by decide +kernel
theorem dX4_run_70 : decode cX4_run 70 = .ok (.iconst 3, 1) := by decide +kernel
theorem dX4_run_71 : decode cX4_run 71 = .ok (.if_icmp .ne 10, 3) := by decide +kernel
theorem dX4_run_74 : decode cX4_run 74 = .ok (.aload_n 0, 1) := by decide +kernel
theorem dX4_run_75 : decode cX4_run 75 = .ok (.invokevirtual 137, 3) := by decide +kernel
theorem dX4_run_78 : decode cX4_run 78 = .ok (.goto 66, 3) := by decide +kernel
theorem dX4_run_81 : decode cX4_run 81 = .ok (.aload_n 0, 1) := by decide +kernel
theorem dX4_run_82 : decode cX4_run 82 = .ok (.getfield 83, 3) := by decide +kernel
theorem dX4_run_85 : decode cX4_run 85 = .ok (.aload_n 0, 1) := by decide +kernel
theorem dX4_run_86 : decode cX4_run 86 = .ok (.getfield 55, 3) := by decide +kernel
theorem dX4_run_89 : decode cX4_run 89 = .ok (.invokevirtual 140, 3) := by decide +kernel
theorem dX4_run_92 : decode cX4_run 92 = .ok (.bipush 19, 2) := by decide +kernel
theorem dX4_run_94 : decode cX4_run 94 = .ok (.if_icmp .ge 28, 3) := by decide +kernel
theorem dX4_run_97 : decode cX4_run 97 = .ok (.aload_n 0, 1) := by decide +kernel
theorem dX4_run_98 : decode cX4_run 98 = .ok (.aload_n 0, 1) := by decide +kernel
theorem dX4_run_99 : decode cX4_run 99 = .ok (.getfield 55, 3) := by decide +kernel
theorem dX4_run_102 : decode cX4_run 102 = .ok (.putfield 51, 3) := by decide +kernel
theorem dX4_run_105 : decode cX4_run 105 = .ok (.aload_n 0, 1) := by decide +kernel
theorem dX4_run_106 : decode cX4_run 106 = .ok (.dup, 1) := by decide +kernel
theorem dX4_run_107 : decode cX4_run 107 = .ok (.getfield 55, 3) := by decide +kernel
theorem dX4_run_110 : decode cX4_run 110 = .ok (.iconst 1, 1) := by decide +kernel
theorem dX4_run_111 : decode cX4_run 111 = .ok (.iadd, 1) := by decide +kernel
theorem dX4_run_112 : decode cX4_run 112 = .ok (.putfield 55, 3) := by decide +kernel
theorem dX4_run_115 : decode cX4_run 115 = .ok (.aload_n 0, 1) := by decide +kernel
theorem dX4_run_116 : decode cX4_run 116 = .ok (.invokevirtual 145, 3) := by decide +kernel
theorem dX4_run_119 : decode cX4_run 119 = .ok (.goto 25, 3) := by decide +kernel
theorem dX4_run_122 : decode cX4_run 122 = .ok (.aload_n 0, 1) := by decide +kernel
theorem dX4_run_123 : decode cX4_run 123 = .ok (.aload_n 0, 1) := by decide +kernel
theorem dX4_run_124 : decode cX4_run 124 = .ok (.getfield 55, 3) := by decide +kernel
theorem dX4_run_127 : decode cX4_run 127 = .ok (.putfield 51, 3) := by decide +kernel
theorem dX4_run_130 : decode cX4_run 130 = .ok (.aload_n 0, 1) := by decide +kernel
theorem dX4_run_131 : decode cX4_run 131 = .ok (.dup, 1) := by decide +kernel
theorem dX4_run_132 : decode cX4_run 132 = .ok (.getfield 55, 3) := by decide +kernel
theorem dX4_run_135 : decode cX4_run 135 = .ok (.iconst 1, 1) := by decide +kernel
theorem dX4_run_136 : decode cX4_run 136 = .ok (.iadd, 1) := by decide +kernel
theorem dX4_run_137 : decode cX4_run 137 = .ok (.putfield 55, 3) := by decide +kernel
theorem dX4_run_140 : decode cX4_run 140 = .ok (.aload_n 0, 1) := by decide +kernel
theorem dX4_run_141 : decode cX4_run 141 = .ok (.invokevirtual 148, 3) := by decide +kernel
theorem dX4_run_144 : decode cX4_run 144 = .ok (.iinc 5 1, 3) := by decide +kernel
theorem dX4_run_147 : decode cX4_run 147 = .ok (.goto (-126), 3) := by decide +kernel
theorem dX4_run_150 : decode cX4_run 150 = .ok (.aload_n 0, 1) := by decide +kernel
theorem dX4_run_151 : decode cX4_run 151 = .ok (.getfield 47, 3) := by decide +kernel
theorem dX4_run_154 : decode cX4_run 154 = .ok (.iconst 0, 1) := by decide +kernel
theorem dX4_run_155 : decode cX4_run 155 = .ok (.iaload, 1) := by decide +kernel
theorem dX4_run_156 : decode cX4_run 156 = .ok (.ireturn, 1) := by decide +kernel
set_option maxHeartbeats 4000000 in
set_option maxRecDepth 100000 in
theorem c_X4_run (ω : Om) (l : Launch) (μ : M3) (x1 : Int) (x2 : Int) (x3 : Int) (hh : Int → Int → Int) (cc : Int → Int → Int) (dd : Int → Int → Int) (hx1 : ir x1) (hx2 : ir x2) (hx3 : jr x3) (hI : IC μ) (hTA : TA μ hh cc dd) (hv9 : vrk μ) (hlf : 0 ≤ μ.1 70 8 ∧ μ.1 70 8 ≤ 80000) (ht9 : 0 ≤ x1 ∧ x1 ≤ 3) : CtI ω l yX4_run cX4_run 6 .int 8 243 [.ref (oP ω 32), .int (iv x1), .int (iv x2), .long (jv x3)] μ (fun (r : Int) (μ' : M3) => (Fr [70, 33, 34, 35, 36, 37, 38, 39, 40, 41, 42, 43, 44, 45, 47, 48, 49, 50, 52, 60, 66, 67, 68, 69, 32, 53, 54, 55, 56, 57, 58, 59, 46, 51, 61, 62, 63, 64, 65] μ μ') ∧ (IC μ') ∧ (0 ≤ μ'.1 70 8 ∧ μ'.1 70 8 ≤ 80000)) := by
  refine CtI.go (by decide) (Nat.le_of_ble_eq_true rfl) (fun ρ p e s m below meth c R ls G hR hret hlk hl => ?_)
  have hx := G.1.1
  have hb := G.1.2.1
  have hl : lv_has ls 6 [(0, .ref (oP ω 32)), (1, .int (iv x1)), (2, .int (iv x2)), (3, .long (jv x3))] := hl
  generalize s.drawn = d0 at G ⊢
  have hr_x1 : -2147483648 ≤ x1 ∧ x1 ≤ 2147483647 := hx1
  have hr_x2 : -2147483648 ≤ x2 ∧ x2 ≤ 2147483647 := hx2
  have hk_1 := hI.row (r := 33) (by unfold isRow; decide)
  unfold rk at hk_1
  simp only [Int.reduceAdd] at hk_1
  have hbr_33 : BR 33 = 240100 := rfl
  have hk_2 := hI.row (r := 37) (by unfold isRow; decide)
  unfold rk at hk_2
  simp only [Int.reduceAdd] at hk_2
  have hbr_37 : BR 37 = 20410 := rfl
  have hn_3 : 0 ≤ μ.1 52 7 ∧ μ.1 52 7 ≤ 24 := hI.nm.2.2.2.2.1
  have hSr0 : Sr μ := G.sr0
  refine lv_aload_n hx hb dX4_run_0 rfl (lv_at hl 0 rfl) ?_
  refine xc_vV G (b := 32) (rest := []) (As := []) (c_X4_clear ω l μ  hI) (wm 5 51 rfl rfl) (wm 5 53 rfl rfl) (wm 0 62 rfl rfl) rfl rfl (by decide) rfl (wm 1 14 rfl rfl) (wm 5 54 rfl rfl) (by decide) hR (by decide) (n := 0) rfl rfl (Nat.le_of_ble_eq_true rfl) hl.1 dX4_run_1 (fun μ4 ρ d0 H locs hp G => ?_)
  obtain ⟨F_5, hI_6, hp_7, hp_8, hs_9, hs_10, hs_11, hs_12⟩ := hp
  have hk_13 := hI_6.row (r := 33) (by unfold isRow; decide)
  unfold rk at hk_13
  simp only [Int.reduceAdd] at hk_13
  have hn_14 : 0 ≤ μ4.1 45 1 ∧ 9 * μ4.1 45 1 ≤ μ4.2.1 46 := hI_6.nm.2.2.2.2.2.2.1
  have hn_15 : 0 ≤ μ4.1 45 4 ∧ 2 * μ4.1 45 4 ≤ μ4.2.1 51 := hI_6.nm.2.2.2.2.2.2.2.1
  have hn_16 : 0 ≤ μ4.1 52 7 ∧ μ4.1 52 7 ≤ 24 := hI_6.nm.2.2.2.2.1
  have hn_17 : 0 ≤ μ4.1 60 6 ∧ μ4.1 60 6 ≤ 400 := hI_6.nm.2.2.2.2.2.1
  refine lv_aload_n hx hb dX4_run_4 rfl (lv_at hl 0 rfl) ?_
  refine lv_iload_n hx hb dX4_run_5 rfl (lv_at hl 1 rfl) ?_
  refine lv_lload_n hx hb dX4_run_6 rfl (lv_at hl 3 rfl) ?_
  refine xc_vV G (b := 32) (rest := []) (As := [.int (iv x1), .long (jv x3)]) (c_X4_pushNumber ω l μ4 x1 x3 (μ4.1 33 3) (by unfold ir; omega) hx3 hI_6 (by omega) (by omega)) (wm 5 70 rfl rfl) (wm 5 72 rfl rfl) (wm 0 63 rfl rfl) rfl rfl (by decide) rfl (wm 1 14 rfl rfl) (wm 5 73 rfl rfl) (by decide) hR (by decide) (n := 2) rfl rfl (Nat.le_of_ble_eq_true rfl) hl.1 dX4_run_7 (fun μ18 ρ d0 H locs hp G => ?_)
  obtain ⟨F_19, hI_20, hs_21⟩ := hp
  refine lv_aload_n hx hb dX4_run_10 rfl (lv_at hl 0 rfl) ?_
  refine lv_iload_n hx hb dX4_run_11 rfl (lv_at hl 1 rfl) ?_
  refine lv_iload_n hx hb dX4_run_12 rfl (lv_at hl 2 rfl) ?_
  refine lv_iconst (v := iv 1) hx hb dX4_run_13 rfl ?_
  refine lv_iconst (v := iv 0) hx hb dX4_run_14 rfl ?_
  have hF_22 : Fr [33, 34, 35, 36, 70, 37, 38, 39, 40, 41, 42, 43, 44, 45, 47, 48, 49, 50, 52, 60, 66, 67, 68, 69, 32] μ μ18 := (Fr.tr (Fr.tr Fr.rf F_5 (by decide)) F_19 (by decide))
  have hsr_hF_22 : Sr μ := hSr0
  have e_23 : μ18.1 33 3 = (μ4.1 33 3) + 1 := hs_21
  have e_24 : μ18.1 52 7 = μ4.1 52 7 := (F_19.1 52 (by decide) 7)
  have e_25 : μ18.1 12 x1 = μ.1 12 x1 := ((F_19.1 12 (by decide) x1).trans (F_5.1 12 (by decide) x1))
  have e_26 : μ18.1 12 x1 = μ.1 12 x1 := ((F_19.1 12 (by decide) x1).trans (F_5.1 12 (by decide) x1))
  have hvr_27 : vrk μ18 := hv9.fr (L := [33, 34, 35, 36, 70, 37, 38, 39, 40, 41, 42, 43, 44, 45, 47, 48, 49, 50, 52, 60, 66, 67, 68, 69, 32]) (Fr.tr (Fr.tr Fr.rf F_5 (by decide)) F_19 (by decide)) (by decide)
  have e_28 : μ18.1 32 11 = μ.1 32 11 := ((F_19.1 32 (by decide) 11).trans hs_10)
  have e_29 : μ18.1 60 6 = μ4.1 60 6 := (F_19.1 60 (by decide) 6)
  have e_30 : μ18.1 12 x1 = μ.1 12 x1 := ((F_19.1 12 (by decide) x1).trans (F_5.1 12 (by decide) x1))
  have e_31 : μ18.1 32 11 = μ.1 32 11 := ((F_19.1 32 (by decide) 11).trans hs_10)
  have e_32 : μ18.1 32 13 = μ4.1 32 13 := (F_19.1 32 (by decide) 13)
  have e_33 : μ18.1 32 14 = μ.1 32 14 := ((F_19.1 32 (by decide) 14).trans hs_12)
  have e_34 : μ18.1 32 15 = μ4.1 32 15 := (F_19.1 32 (by decide) 15)
  have e_35 : μ18.1 32 16 = μ4.1 32 16 := (F_19.1 32 (by decide) 16)
  have e_36 : μ18.1 70 0 = μ4.1 70 0 := (F_19.1 70 (by decide) 0)
  have e_37 : μ18.1 70 1 = μ4.1 70 1 := (F_19.1 70 (by decide) 1)
  have e_38 : μ18.1 70 2 = μ4.1 70 2 := (F_19.1 70 (by decide) 2)
  have e_39 : μ18.1 70 3 = μ4.1 70 3 := (F_19.1 70 (by decide) 3)
  have e_40 : μ18.1 70 4 = μ4.1 70 4 := (F_19.1 70 (by decide) 4)
  have e_41 : μ18.1 70 5 = μ4.1 70 5 := (F_19.1 70 (by decide) 5)
  have e_42 : μ18.1 70 6 = μ4.1 70 6 := (F_19.1 70 (by decide) 6)
  have e_43 : μ18.1 70 8 = μ4.1 70 8 := (F_19.1 70 (by decide) 8)
  have e_44 : μ18.1 70 9 = μ4.1 70 9 := (F_19.1 70 (by decide) 9)
  refine xc_vV G (b := 32) (rest := []) (As := [.int (iv x1), .int (iv x2), .int (iv 1), .int (iv 0)]) (c_X4_enter ω l μ18 x1 x2 1 0 ((μ4.1 33 3) + 1) (μ4.1 52 7) (μ.1 12 x1) (by unfold ir; omega) (by unfold ir; omega) (by unfold ir; omega) (by unfold ir; omega) hI_20 (by omega) (by omega) (by omega) (by omega) (by omega) (by omega) (by omega) hvr_27) (wm 5 75 rfl rfl) (wm 5 77 rfl rfl) (wm 0 64 rfl rfl) rfl rfl (by decide) rfl (wm 1 14 rfl rfl) (wm 5 78 rfl rfl) (by decide) hR (by decide) (n := 4) rfl rfl (Nat.le_of_ble_eq_true rfl) hl.1 dX4_run_15 (fun μ45 ρ d0 H locs hp G => ?_)
  obtain ⟨F_46, hI_47, hs_48, hp_49, hp_50, hp_51, hp_52, hp_53, hp_54, hs_55, hp_56, ha_57, ha_58, ha_59, ha_60, ha_61, ha_62, ha_63, hs_64, hs_65, hs_66, hs_67, hs_68, hs_69, hs_70, hs_71, hs_72, hs_73, hs_74, hs_75, hs_76, hs_77⟩ := hp
  have hk_78 := hI_47.row (r := 33) (by unfold isRow; decide)
  unfold rk at hk_78
  simp only [Int.reduceAdd] at hk_78
  have hst_hF_22 := stt_fr hF_22 (by decide) hsr_hF_22 hp_56
  have hz_ : μ4.1 52 7 = 0 := by omega
  rw [hz_] at hp_49 hp_50 hp_51 hp_52 hp_53 hp_54
  refine lv_iconst (v := iv 0) hx hb dX4_run_18 rfl ?_
  refine lv_istore (lv' := [(5, .int (iv 0)), (0, .ref (oP ω 32)), (1, .int (iv x1)), (2, .int (iv x2)), (3, .long (jv x3))]) hx hb dX4_run_19 hl (by decide) rfl (fun ls hl => ?_)
  have e_79 : μ45.1 70 2 = μ4.1 70 2 := (hs_71.trans (F_19.1 70 (by decide) 2))
  have e_80 : μ45.1 70 8 = μ4.1 70 8 := (hs_76.trans (F_19.1 70 (by decide) 8))
  have e_81 : μ45.1 45 1 = μ4.1 45 1 := ((F_46.1 45 (by decide) 1).trans (F_19.1 45 (by decide) 1))
  have e_82 : μ45.1 45 4 = μ4.1 45 4 := ((F_46.1 45 (by decide) 4).trans (F_19.1 45 (by decide) 4))
  have e_83 : μ45.1 60 6 = μ4.1 60 6 := ((F_46.1 60 (by decide) 6).trans (F_19.1 60 (by decide) 6))
  have e_84 : μ45.1 52 7 = (μ4.1 52 7) + 1 := hs_48
  have e_85 : μ45.1 32 10 = (μ.1 12 x1) := hs_55
  have e_86 : μ45.1 32 13 = μ4.1 32 13 := (hs_65.trans (F_19.1 32 (by decide) 13))
  have hri0 : RI μ45 hh cc dd 0 := RI.init (x1 := x1) (hTA.fr (L := [32, 33, 34, 35, 36, 53, 54, 55, 56, 57, 58, 59, 52, 70, 37, 38, 39, 40, 41, 42, 43, 44, 45, 47, 48, 49, 50, 60, 66, 67, 68, 69]) (Fr.tr (Fr.tr (Fr.tr Fr.rf F_5 (by decide)) F_19 (by decide)) F_46 (by decide)) (by decide)) (hv9.fr (L := [32, 33, 34, 35, 36, 53, 54, 55, 56, 57, 58, 59, 52, 70, 37, 38, 39, 40, 41, 42, 43, 44, 45, 47, 48, 49, 50, 60, 66, 67, 68, 69]) (Fr.tr (Fr.tr (Fr.tr Fr.rf F_5 (by decide)) F_19 (by decide)) F_46 (by decide)) (by decide)) (by omega) (by omega) (by omega) ht9 (by omega) (by omega) (by omega) (by omega) (by omega) (by have h9 : μ45.1 12 x1 = μ.1 12 x1 := ((F_46.1 12 (by decide) x1).trans ((F_19.1 12 (by decide) x1).trans (F_5.1 12 (by decide) x1))); have h8 : μ45.1 32 10 = (μ.1 12 x1) := hs_55; omega) (hTA.st ht9.1 ht9.2 hst_hF_22) (by omega)
  refine xl (fun n_9 μ' ls => ∃ (i9 : Int), (Fr [70, 33, 34, 35, 36, 37, 38, 39, 40, 41, 42, 43, 44, 45, 46, 47, 48, 49, 50, 51, 52, 53, 54, 55, 56, 57, 58, 59, 60, 61, 62, 63, 64, 65, 66, 67, 68, 69, 32] μ45 μ') ∧ (-2147483648 ≤ i9 ∧ i9 ≤ 2147483647) ∧ (0 ≤ i9) ∧ (i9 ≤ 20000000) ∧ (RI μ' hh cc dd i9) ∧ (IC μ') ∧ n_9 = Int.toNat (20000000 - i9) ∧ lv_has ls 6 [(5, .int (iv i9)), (0, .ref (oP ω 32)), (1, .int (iv x1)), (2, .int (iv x2)), (3, .long (jv x3))]) (fun n_9 ρ μL87 d0 H locs ls hI_l G ih => ?_) _ _ _ _ _ _ _ ⟨0, Fr.rf, (by omega), (by omega), (by omega), hri0, hI_47, rfl, lv_sub hl [0, 1, 2, 3, 4] rfl⟩ G
  obtain ⟨i9, FL88, hi_90, hi_91, hi_92, hi_93, hi_94, hn89, hl⟩ := hI_l
  refine lv_iload hx hb dX4_run_21 (lv_at hl 0 rfl) ?_
  refine lv_ldc (s := s.setDrawn d0) hx hb G.1.2.2.2.1 (dr_words G.1.2.2.2.2 d0 _ (wm 5 106 rfl rfl)) dX4_run_23 ?_
  refine xb_lit (x := 20000000) (by decide) ?_
  refine xb_icmp_ge (tgt := 150) hx hb (by unfold ir; omega) (by unfold ir; omega) dX4_run_25 (by decide) (fun c_25 => ?_) (fun c_25 => ?_)
  · refine lv_aload_n hx hb dX4_run_150 rfl (lv_at hl 1 rfl) ?_
    refine xa_getr G fd_X4 (a := 32) (x := 70) 9 rfl (by decide) rfl (wm 2 153 rfl rfl) ⟨rfl, rfl, rfl⟩ dX4_run_151 rfl (G.sk 42 rfl) (by decide) rfl ?_
    refine lv_iconst (v := iv 0) hx hb dX4_run_154 rfl ?_
    refine xa_iald G (a := 70) (i := 0) rfl (by have h9 := G.lc (a := 70) (n := 10) 33 rfl; omega) dX4_run_155 rfl ?_
    have hr_95 : -2147483648 ≤ μL87.1 70 0 ∧ μL87.1 70 0 ≤ 2147483647 := by have h9 := G.hr (a := 70) (k := 0) rfl; exact h9
    have hend := hi_93.1.2.2.2
    exact xr_i G (x := μL87.1 70 0) hret hlk (by unfold ir; omega) rfl dX4_run_156 ⟨(Fr.tr (Fr.tr (Fr.tr (Fr.tr Fr.rf F_5 (by decide)) F_19 (by decide)) F_46 (by decide)) FL88 (by decide)), hi_94, (by omega)⟩
  · refine lv_aload_n hx hb dX4_run_28 rfl (lv_at hl 1 rfl) ?_
    refine xa_geti G fd_X4 (a := 32) (x := μL87.1 32 13) 13 rfl (by decide) rfl (wm 2 157 rfl rfl) ⟨rfl, rfl, rfl⟩ dX4_run_29 rfl rfl ?_
    have hr_96 : -2147483648 ≤ μL87.1 32 13 ∧ μL87.1 32 13 ≤ 2147483647 := by have h9 := G.hr (a := 32) (k := 13) rfl; exact h9
    refine lv_iconst (v := iv 4) hx hb dX4_run_32 rfl ?_
    refine xb_icmp_eq (tgt := 150) hx hb (by unfold ir; omega) (by unfold ir; omega) dX4_run_33 (by decide) (fun c_33 => ?_) (fun c_33 => ?_)
    · refine lv_aload_n hx hb dX4_run_150 rfl (lv_at hl 1 rfl) ?_
      refine xa_getr G fd_X4 (a := 32) (x := 70) 9 rfl (by decide) rfl (wm 2 153 rfl rfl) ⟨rfl, rfl, rfl⟩ dX4_run_151 rfl (G.sk 42 rfl) (by decide) rfl ?_
      refine lv_iconst (v := iv 0) hx hb dX4_run_154 rfl ?_
      refine xa_iald G (a := 70) (i := 0) rfl (by have h9 := G.lc (a := 70) (n := 10) 33 rfl; omega) dX4_run_155 rfl ?_
      have hr_97 : -2147483648 ≤ μL87.1 70 0 ∧ μL87.1 70 0 ≤ 2147483647 := by have h9 := G.hr (a := 70) (k := 0) rfl; exact h9
      have hend := hi_93.1.2.2.2
      exact xr_i G (x := μL87.1 70 0) hret hlk (by unfold ir; omega) rfl dX4_run_156 ⟨(Fr.tr (Fr.tr (Fr.tr (Fr.tr Fr.rf F_5 (by decide)) F_19 (by decide)) F_46 (by decide)) FL88 (by decide)), hi_94, (by omega)⟩
    · have hst9 := (hi_93.2 (by omega)).2.2.2.2
      refine lv_aload_n hx hb dX4_run_36 rfl (lv_at hl 1 rfl) ?_
      refine xa_geti G fd_X4 (a := 32) (x := μL87.1 32 13) 13 rfl (by decide) rfl (wm 2 157 rfl rfl) ⟨rfl, rfl, rfl⟩ dX4_run_37 rfl rfl ?_
      refine lv_iconst (v := iv 1) hx hb dX4_run_40 rfl ?_
      refine xb_icmp_ne (tgt := 51) hx hb (by unfold ir; omega) (by unfold ir; omega) dX4_run_41 (by decide) (fun c_41 => ?_) (fun c_41 => ?_)
      · refine lv_aload_n hx hb dX4_run_51 rfl (lv_at hl 1 rfl) ?_
        refine xa_geti G fd_X4 (a := 32) (x := μL87.1 32 13) 13 rfl (by decide) rfl (wm 2 157 rfl rfl) ⟨rfl, rfl, rfl⟩ dX4_run_52 rfl rfl ?_
        refine lv_iconst (v := iv 2) hx hb dX4_run_55 rfl ?_
        refine xb_icmp_ne (tgt := 66) hx hb (by unfold ir; omega) (by unfold ir; omega) dX4_run_56 (by decide) (fun c_56 => ?_) (fun c_56 => ?_)
        · refine lv_aload_n hx hb dX4_run_66 rfl (lv_at hl 1 rfl) ?_
          refine xa_geti G fd_X4 (a := 32) (x := μL87.1 32 13) 13 rfl (by decide) rfl (wm 2 157 rfl rfl) ⟨rfl, rfl, rfl⟩ dX4_run_67 rfl rfl ?_
          refine lv_iconst (v := iv 3) hx hb dX4_run_70 rfl ?_
          refine xb_icmp_ne (tgt := 81) hx hb (by unfold ir; omega) (by unfold ir; omega) dX4_run_71 (by decide) (fun c_71 => ?_) (fun c_71 => ?_)
          · refine lv_aload_n hx hb dX4_run_81 rfl (lv_at hl 1 rfl) ?_
            obtain ⟨pd98, he_pd98, hd_pd98⟩ : ∃ z : Int, μL87.1 32 10 = z ∧ isPr z := ⟨_, rfl, by have h9 := G.sr0.2.2.2.2.1; exact h9⟩
            have hd_pd98_d : pd98 = 13 ∨ pd98 = 71 ∨ pd98 = 81 ∨ pd98 = 91 ∨ pd98 = 101 := hd_pd98
            refine xa_getr G fd_X4 (a := 32) (x := pd98) 10 rfl (by decide) rfl (wm 2 154 rfl rfl) ⟨rfl, rfl, rfl⟩ dX4_run_82 rfl he_pd98 (by omega) (hd_pd98.hq ω ρ) ?_
            refine lv_aload_n hx hb dX4_run_85 rfl (lv_at hl 1 rfl) ?_
            refine xa_geti G fd_X4 (a := 32) (x := μL87.1 32 12) 12 rfl (by decide) rfl (wm 2 156 rfl rfl) ⟨rfl, rfl, rfl⟩ dX4_run_86 rfl rfl ?_
            have hr_99 : -2147483648 ≤ μL87.1 32 12 ∧ μL87.1 32 12 ≤ 2147483647 := by have h9 := G.hr (a := 32) (k := 12) rfl; exact h9
            refine xc_iV G (b := pd98) (rest := []) (As := [.int (iv (μL87.1 32 12))]) (c_X8_op ω l μL87 pd98 (μL87.1 32 12) hd_pd98 (by unfold ir; omega) hi_94) (wm 6 114 rfl rfl) (wm 6 115 rfl rfl) (wm 6 116 rfl rfl) hd_pd98.ly rfl (by decide) (hd_pd98.hq ω ρ) (wm 1 9 rfl rfl) (wm 6 117 rfl rfl) (by decide) hR (by decide) (n := 1) rfl rfl (Nat.le_of_ble_eq_true rfl) hl.1 dX4_run_89 (fun r_101 μ100 ρ d0 H locs hr_r_101 hp G => ?_)
            have hr_r_101 : -2147483648 ≤ r_101 ∧ r_101 ≤ 2147483647 := hr_r_101
            obtain ⟨hsm_102, hp_103⟩ := hp
            have hsm_102 := Eq.symm hsm_102
            subst hsm_102
            obtain ⟨-, hpc0, hpc1, -⟩ := (hi_93.2 (by omega)).2.1 (by omega)
            refine lv_bipush (v := iv 19) hx hb dX4_run_92 rfl ?_
            refine xb_icmp_ge (tgt := 122) hx hb (by unfold ir; omega) (by unfold ir; omega) dX4_run_94 (by decide) (fun c_94 => ?_) (fun c_94 => ?_)
            · refine lv_aload_n hx hb dX4_run_122 rfl (lv_at hl 1 rfl) ?_
              refine lv_aload_n hx hb dX4_run_123 rfl (lv_at hl 1 rfl) ?_
              refine xa_geti G fd_X4 (a := 32) (x := μL87.1 32 12) 12 rfl (by decide) rfl (wm 2 156 rfl rfl) ⟨rfl, rfl, rfl⟩ dX4_run_124 rfl rfl ?_
              refine xa_puti G fd_X4 (a := 32) (x := μL87.1 32 12) 11 (kz := 11) rfl rfl (by decide) rfl (by unfold ir; omega) (wm 2 155 rfl rfl) ⟨rfl, rfl, rfl, rfl⟩ rfl dX4_run_127 rfl (fun H locs G => ?_)
              refine lv_aload_n hx hb dX4_run_130 rfl (lv_at hl 1 rfl) ?_
              refine lv_dup hx hb dX4_run_131 rfl ?_
              refine xa_geti G fd_X4 (a := 32) (x := μL87.1 32 12) 12 rfl (by decide) rfl (wm 2 156 rfl rfl) ⟨rfl, rfl, rfl⟩ dX4_run_132 rfl (sv_n _ (by decide)) ?_
              refine lv_iconst (v := iv 1) hx hb dX4_run_135 rfl ?_
              refine xb_iadd hx hb dX4_run_136 ?_
              refine xa_puti G fd_X4 (a := 32) (x := (μL87.1 32 12) + 1) 12 (kz := 12) rfl rfl (by decide) rfl (by unfold ir; omega) (wm 2 156 rfl rfl) ⟨rfl, rfl, rfl, rfl⟩ rfl dX4_run_137 rfl (fun H locs G => ?_)
              refine lv_aload_n hx hb dX4_run_140 rfl (lv_at hl 1 rfl) ?_
              have hF32 : Fr [32] μL87 (sv (sv μL87 32 11 (μL87.1 32 12)) 32 12 ((μL87.1 32 12) + 1)) := Fr.put (Fr.put Fr.rf (by decide)) (by decide)
              have hRG : RG (sv (sv μL87 32 11 (μL87.1 32 12)) 32 12 ((μL87.1 32 12) + 1)) hh cc dd i9 := RI.at_ hi_93 (by omega) hF32 ((sv_n _ (by decide)).trans (sv_n _ (by decide))) (by have h9 : (sv (sv μL87 32 11 (μL87.1 32 12)) 32 12 ((μL87.1 32 12) + 1)).1 32 13 = μL87.1 32 13 := ((sv_n _ (by decide)).trans (sv_n _ (by decide))); omega) (by have h9 : (sv (sv μL87 32 11 (μL87.1 32 12)) 32 12 ((μL87.1 32 12) + 1)).1 32 11 = μL87.1 32 12 := ((sv_n _ (by decide)).trans (sv_s _ _ _ _)); omega) (by have h9 : (sv (sv μL87 32 11 (μL87.1 32 12)) 32 12 ((μL87.1 32 12) + 1)).1 32 12 = (μL87.1 32 12) + 1 := (sv_s _ _ _ _); omega)
              obtain ⟨qa, qb, qc, qd, qe⟩ := RG.ask (P := μL87.1 32 10) (A := μL87.1 32 12) hRG (((sv_n _ (by decide)).trans (sv_n _ (by decide)))).symm (((sv_n _ (by decide)).trans (sv_s _ _ _ _))).symm
              replace qd := fun _ : Unit => qd
              replace qe := fun _ : Unit => qe
              rw [show (sv (sv μL87 32 11 (μL87.1 32 12)) 32 12 ((μL87.1 32 12) + 1)).1 33 3 = μL87.1 33 3 from ((sv_n _ (fun h9 => absurd h9.1 (by decide))).trans (sv_n _ (fun h9 => absurd h9.1 (by decide))))] at qa
              have hnp := npL_p (L := [32]) (by decide) hd_pd98
              have ho_ : cdp (sv (sv μL87 32 11 (μL87.1 32 12)) 32 12 ((μL87.1 32 12) + 1)) (μL87.1 32 10) (μL87.1 32 12) 0 = r_101 := by rw [he_pd98, cdp_fr hF32 hnp.1 hnp.2.1]; exact hp_103.symm
              have hI_104 : IC (sv (sv μL87 32 11 (μL87.1 32 12)) 32 12 ((μL87.1 32 12) + 1)) := (IC.put (IC.put hi_94 (by decide +kernel)) (by decide +kernel))
              have hk_105 := hi_94.row (r := 33) (by unfold isRow; decide)
              unfold rk at hk_105
              simp only [Int.reduceAdd] at hk_105
              have e_106 : (sv (sv μL87 32 11 (μL87.1 32 12)) 32 12 ((μL87.1 32 12) + 1)).1 33 3 = μL87.1 33 3 := ((sv_n _ (fun h9 => absurd h9.1 (by decide))).trans (sv_n _ (fun h9 => absurd h9.1 (by decide))))
              have hn_107 : 0 ≤ μL87.1 60 6 ∧ μL87.1 60 6 ≤ 400 := hi_94.nm.2.2.2.2.2.1
              have e_108 : (sv (sv μL87 32 11 (μL87.1 32 12)) 32 12 ((μL87.1 32 12) + 1)).1 60 6 = μL87.1 60 6 := ((sv_n _ (fun h9 => absurd h9.1 (by decide))).trans (sv_n _ (fun h9 => absurd h9.1 (by decide))))
              have e_109 : (sv (sv μL87 32 11 (μL87.1 32 12)) 32 12 ((μL87.1 32 12) + 1)).1 32 13 = μL87.1 32 13 := ((sv_n _ (by decide)).trans (sv_n _ (by decide)))
              have e_110 : (sv (sv μL87 32 11 (μL87.1 32 12)) 32 12 ((μL87.1 32 12) + 1)).1 32 12 = (μL87.1 32 12) + 1 := (sv_s _ _ _ _)
              have e_111 : ofF (sv (sv μL87 32 11 (μL87.1 32 12)) 32 12 ((μL87.1 32 12) + 1)) 53 = ofF μL87 53 := ((ofF_sv (sv μL87 32 11 (μL87.1 32 12)) (by decide) (by decide)).trans (ofF_sv μL87 (by decide) (by decide)))
              have e_112 : (sv (sv μL87 32 11 (μL87.1 32 12)) 32 12 ((μL87.1 32 12) + 1)).1 70 2 = μL87.1 70 2 := ((sv_n _ (fun h9 => absurd h9.1 (by decide))).trans (sv_n _ (fun h9 => absurd h9.1 (by decide))))
              have e_113 : (sv (sv μL87 32 11 (μL87.1 32 12)) 32 12 ((μL87.1 32 12) + 1)).1 32 10 = μL87.1 32 10 := ((sv_n _ (by decide)).trans (sv_n _ (by decide)))
              have e_114 : (sv (sv μL87 32 11 (μL87.1 32 12)) 32 12 ((μL87.1 32 12) + 1)).1 32 11 = μL87.1 32 12 := ((sv_n _ (by decide)).trans (sv_s _ _ _ _))
              have e_115 : (sv (sv μL87 32 11 (μL87.1 32 12)) 32 12 ((μL87.1 32 12) + 1)).1 32 15 = μL87.1 32 15 := ((sv_n _ (by decide)).trans (sv_n _ (by decide)))
              have e_116 : (sv (sv μL87 32 11 (μL87.1 32 12)) 32 12 ((μL87.1 32 12) + 1)).1 32 16 = μL87.1 32 16 := ((sv_n _ (by decide)).trans (sv_n _ (by decide)))
              have e_117 : (sv (sv μL87 32 11 (μL87.1 32 12)) 32 12 ((μL87.1 32 12) + 1)).1 70 1 = μL87.1 70 1 := ((sv_n _ (fun h9 => absurd h9.1 (by decide))).trans (sv_n _ (fun h9 => absurd h9.1 (by decide))))
              have e_118 : (sv (sv μL87 32 11 (μL87.1 32 12)) 32 12 ((μL87.1 32 12) + 1)).1 70 4 = μL87.1 70 4 := ((sv_n _ (fun h9 => absurd h9.1 (by decide))).trans (sv_n _ (fun h9 => absurd h9.1 (by decide))))
              have e_119 : (sv (sv μL87 32 11 (μL87.1 32 12)) 32 12 ((μL87.1 32 12) + 1)).1 70 5 = μL87.1 70 5 := ((sv_n _ (fun h9 => absurd h9.1 (by decide))).trans (sv_n _ (fun h9 => absurd h9.1 (by decide))))
              have e_120 : (sv (sv μL87 32 11 (μL87.1 32 12)) 32 12 ((μL87.1 32 12) + 1)).1 70 6 = μL87.1 70 6 := ((sv_n _ (fun h9 => absurd h9.1 (by decide))).trans (sv_n _ (fun h9 => absurd h9.1 (by decide))))
              have e_121 : (sv (sv μL87 32 11 (μL87.1 32 12)) 32 12 ((μL87.1 32 12) + 1)).1 70 7 = μL87.1 70 7 := ((sv_n _ (fun h9 => absurd h9.1 (by decide))).trans (sv_n _ (fun h9 => absurd h9.1 (by decide))))
              have hn_122 : 0 ≤ μL87.1 45 4 ∧ 2 * μL87.1 45 4 ≤ μL87.2.1 51 := hi_94.nm.2.2.2.2.2.2.2.1
              have e_123 : (sv (sv μL87 32 11 (μL87.1 32 12)) 32 12 ((μL87.1 32 12) + 1)).1 45 4 = μL87.1 45 4 := ((sv_n _ (fun h9 => absurd h9.1 (by decide))).trans (sv_n _ (fun h9 => absurd h9.1 (by decide))))
              refine xc_vV G (b := 32) (rest := []) (As := []) (c_X4_goElsewhere ω l (sv (sv μL87 32 11 (μL87.1 32 12)) 32 12 ((μL87.1 32 12) + 1)) (μL87.1 33 3) (μL87.1 32 10) (μL87.1 32 12) (μL87.1 60 6) hI_104 (by omega) (((sv_n _ (by decide)).trans (sv_n _ (by decide)))).symm (((sv_n _ (by decide)).trans (sv_s _ _ _ _))).symm (by omega) (by omega) qc (by omega) (qe ())) (wm 7 28 rfl rfl) (wm 7 30 rfl rfl) (wm 0 111 rfl rfl) rfl rfl (by decide) rfl (wm 1 14 rfl rfl) (wm 7 31 rfl rfl) (by decide) hR (by decide) (n := 0) rfl rfl (Nat.le_of_ble_eq_true rfl) hl.1 dX4_run_141 (fun μ124 ρ d0 H locs hp G => ?_)
              obtain ⟨F_125, hI_126, hp_127, hp_128, hp_129, ha_130, hp_131, hs_132, hs_133, hs_134, hs_135, hs_136, hs_137, hs_138, hs_139, hs_140, hs_141⟩ := hp
              have hk_142 := hI_126.row (r := 33) (by unfold isRow; decide)
              unfold rk at hk_142
              simp only [Int.reduceAdd] at hk_142
              have hn_143 : 0 ≤ μ124.1 60 6 ∧ μ124.1 60 6 ≤ 400 := hI_126.nm.2.2.2.2.2.1
              have hn_144 : 0 ≤ μ124.1 45 1 ∧ 9 * μ124.1 45 1 ≤ μ124.2.1 46 := hI_126.nm.2.2.2.2.2.2.1
              replace hp_127 := fun _ : Unit => hp_127
              replace hp_128 := fun _ : Unit => hp_128
              replace hp_129 := fun _ : Unit => hp_129
              have hri_145 := RG.go hRG (by omega) (by rw [ho_]; omega) (((sv_n _ (fun h9 => absurd h9.1 (by decide))).trans (sv_n _ (fun h9 => absurd h9.1 (by decide))))).symm (((sv_n _ (by decide)).trans (sv_n _ (by decide)))).symm (((sv_n _ (by decide)).trans (sv_s _ _ _ _))).symm (((sv_n _ (fun h9 => absurd h9.1 (by decide))).trans (sv_n _ (fun h9 => absurd h9.1 (by decide))))).symm F_125 (hp_127 ()) (hp_128 ()) (hp_129 ()) ha_130 hp_131 (((hs_132.trans ((sv_n _ (by decide)).trans (sv_n _ (by decide))))).trans (((sv_n _ (by decide)).trans (sv_n _ (by decide)))).symm) (((hs_141.trans ((sv_n _ (fun h9 => absurd h9.1 (by decide))).trans (sv_n _ (fun h9 => absurd h9.1 (by decide)))))).trans (((sv_n _ (fun h9 => absurd h9.1 (by decide))).trans (sv_n _ (fun h9 => absurd h9.1 (by decide))))).symm)
              refine lv_iinc (v := iv (i9 + 1)) (lv' := [(5, .int (iv (i9 + 1))), (0, .ref (oP ω 32)), (1, .int (iv x1)), (2, .int (iv x2)), (3, .long (jv x3))]) hx hb dX4_run_144 hl (k := 0) rfl (by rw [show Int32.ofInt 1 = iv 1 from rfl, iv_add]) (by decide) rfl (fun ls hl => ?_)
              refine lv_goto (tgt := 21) hx hb dX4_run_147 (by decide) ?_
              exact ih _ _ _ _ _ _ _ (by omega) ⟨i9 + 1, (Fr.tr (Fr.put (Fr.put FL88 (by decide)) (by decide)) F_125 (by decide)), (by omega), (by omega), (by omega), hri_145, hI_126, rfl, lv_sub hl [0, 1, 2, 3, 4] rfl⟩ G
            · refine lv_aload_n hx hb dX4_run_97 rfl (lv_at hl 1 rfl) ?_
              refine lv_aload_n hx hb dX4_run_98 rfl (lv_at hl 1 rfl) ?_
              refine xa_geti G fd_X4 (a := 32) (x := μL87.1 32 12) 12 rfl (by decide) rfl (wm 2 156 rfl rfl) ⟨rfl, rfl, rfl⟩ dX4_run_99 rfl rfl ?_
              refine xa_puti G fd_X4 (a := 32) (x := μL87.1 32 12) 11 (kz := 11) rfl rfl (by decide) rfl (by unfold ir; omega) (wm 2 155 rfl rfl) ⟨rfl, rfl, rfl, rfl⟩ rfl dX4_run_102 rfl (fun H locs G => ?_)
              refine lv_aload_n hx hb dX4_run_105 rfl (lv_at hl 1 rfl) ?_
              refine lv_dup hx hb dX4_run_106 rfl ?_
              refine xa_geti G fd_X4 (a := 32) (x := μL87.1 32 12) 12 rfl (by decide) rfl (wm 2 156 rfl rfl) ⟨rfl, rfl, rfl⟩ dX4_run_107 rfl (sv_n _ (by decide)) ?_
              refine lv_iconst (v := iv 1) hx hb dX4_run_110 rfl ?_
              refine xb_iadd hx hb dX4_run_111 ?_
              refine xa_puti G fd_X4 (a := 32) (x := (μL87.1 32 12) + 1) 12 (kz := 12) rfl rfl (by decide) rfl (by unfold ir; omega) (wm 2 156 rfl rfl) ⟨rfl, rfl, rfl, rfl⟩ rfl dX4_run_112 rfl (fun H locs G => ?_)
              refine lv_aload_n hx hb dX4_run_115 rfl (lv_at hl 1 rfl) ?_
              have hF32 : Fr [32] μL87 (sv (sv μL87 32 11 (μL87.1 32 12)) 32 12 ((μL87.1 32 12) + 1)) := Fr.put (Fr.put Fr.rf (by decide)) (by decide)
              have hRG : RG (sv (sv μL87 32 11 (μL87.1 32 12)) 32 12 ((μL87.1 32 12) + 1)) hh cc dd i9 := RI.at_ hi_93 (by omega) hF32 ((sv_n _ (by decide)).trans (sv_n _ (by decide))) (by have h9 : (sv (sv μL87 32 11 (μL87.1 32 12)) 32 12 ((μL87.1 32 12) + 1)).1 32 13 = μL87.1 32 13 := ((sv_n _ (by decide)).trans (sv_n _ (by decide))); omega) (by have h9 : (sv (sv μL87 32 11 (μL87.1 32 12)) 32 12 ((μL87.1 32 12) + 1)).1 32 11 = μL87.1 32 12 := ((sv_n _ (by decide)).trans (sv_s _ _ _ _)); omega) (by have h9 : (sv (sv μL87 32 11 (μL87.1 32 12)) 32 12 ((μL87.1 32 12) + 1)).1 32 12 = (μL87.1 32 12) + 1 := (sv_s _ _ _ _); omega)
              obtain ⟨qa, qb, qc, qd, qe⟩ := RG.ask (P := μL87.1 32 10) (A := μL87.1 32 12) hRG (((sv_n _ (by decide)).trans (sv_n _ (by decide)))).symm (((sv_n _ (by decide)).trans (sv_s _ _ _ _))).symm
              replace qd := fun _ : Unit => qd
              replace qe := fun _ : Unit => qe
              rw [show (sv (sv μL87 32 11 (μL87.1 32 12)) 32 12 ((μL87.1 32 12) + 1)).1 33 3 = μL87.1 33 3 from ((sv_n _ (fun h9 => absurd h9.1 (by decide))).trans (sv_n _ (fun h9 => absurd h9.1 (by decide))))] at qa
              have hnp := npL_p (L := [32]) (by decide) hd_pd98
              have ho_ : cdp (sv (sv μL87 32 11 (μL87.1 32 12)) 32 12 ((μL87.1 32 12) + 1)) (μL87.1 32 10) (μL87.1 32 12) 0 = r_101 := by rw [he_pd98, cdp_fr hF32 hnp.1 hnp.2.1]; exact hp_103.symm
              have hI_146 : IC (sv (sv μL87 32 11 (μL87.1 32 12)) 32 12 ((μL87.1 32 12) + 1)) := (IC.put (IC.put hi_94 (by decide +kernel)) (by decide +kernel))
              have hk_147 := hi_94.row (r := 33) (by unfold isRow; decide)
              unfold rk at hk_147
              simp only [Int.reduceAdd] at hk_147
              have e_148 : (sv (sv μL87 32 11 (μL87.1 32 12)) 32 12 ((μL87.1 32 12) + 1)).1 33 3 = μL87.1 33 3 := ((sv_n _ (fun h9 => absurd h9.1 (by decide))).trans (sv_n _ (fun h9 => absurd h9.1 (by decide))))
              have hn_149 : 0 ≤ μL87.1 52 7 ∧ μL87.1 52 7 ≤ 24 := hi_94.nm.2.2.2.2.1
              have e_150 : (sv (sv μL87 32 11 (μL87.1 32 12)) 32 12 ((μL87.1 32 12) + 1)).1 52 7 = μL87.1 52 7 := ((sv_n _ (fun h9 => absurd h9.1 (by decide))).trans (sv_n _ (fun h9 => absurd h9.1 (by decide))))
              have e_151 : (sv (sv μL87 32 11 (μL87.1 32 12)) 32 12 ((μL87.1 32 12) + 1)).1 32 13 = μL87.1 32 13 := ((sv_n _ (by decide)).trans (sv_n _ (by decide)))
              have e_152 : (sv (sv μL87 32 11 (μL87.1 32 12)) 32 12 ((μL87.1 32 12) + 1)).1 32 12 = (μL87.1 32 12) + 1 := (sv_s _ _ _ _)
              have hn_153 : 0 ≤ μL87.1 60 6 ∧ μL87.1 60 6 ≤ 400 := hi_94.nm.2.2.2.2.2.1
              have e_154 : (sv (sv μL87 32 11 (μL87.1 32 12)) 32 12 ((μL87.1 32 12) + 1)).1 60 6 = μL87.1 60 6 := ((sv_n _ (fun h9 => absurd h9.1 (by decide))).trans (sv_n _ (fun h9 => absurd h9.1 (by decide))))
              have e_155 : (sv (sv μL87 32 11 (μL87.1 32 12)) 32 12 ((μL87.1 32 12) + 1)).1 70 2 = μL87.1 70 2 := ((sv_n _ (fun h9 => absurd h9.1 (by decide))).trans (sv_n _ (fun h9 => absurd h9.1 (by decide))))
              have e_156 : (sv (sv μL87 32 11 (μL87.1 32 12)) 32 12 ((μL87.1 32 12) + 1)).1 70 1 = μL87.1 70 1 := ((sv_n _ (fun h9 => absurd h9.1 (by decide))).trans (sv_n _ (fun h9 => absurd h9.1 (by decide))))
              have e_157 : (sv (sv μL87 32 11 (μL87.1 32 12)) 32 12 ((μL87.1 32 12) + 1)).1 70 3 = μL87.1 70 3 := ((sv_n _ (fun h9 => absurd h9.1 (by decide))).trans (sv_n _ (fun h9 => absurd h9.1 (by decide))))
              have e_158 : (sv (sv μL87 32 11 (μL87.1 32 12)) 32 12 ((μL87.1 32 12) + 1)).1 70 6 = μL87.1 70 6 := ((sv_n _ (fun h9 => absurd h9.1 (by decide))).trans (sv_n _ (fun h9 => absurd h9.1 (by decide))))
              have e_159 : (sv (sv μL87 32 11 (μL87.1 32 12)) 32 12 ((μL87.1 32 12) + 1)).1 32 11 = μL87.1 32 12 := ((sv_n _ (by decide)).trans (sv_s _ _ _ _))
              have e_160 : (sv (sv μL87 32 11 (μL87.1 32 12)) 32 12 ((μL87.1 32 12) + 1)).1 32 15 = μL87.1 32 15 := ((sv_n _ (by decide)).trans (sv_n _ (by decide)))
              have e_161 : (sv (sv μL87 32 11 (μL87.1 32 12)) 32 12 ((μL87.1 32 12) + 1)).1 32 16 = μL87.1 32 16 := ((sv_n _ (by decide)).trans (sv_n _ (by decide)))
              have hn_162 : 0 ≤ μL87.1 45 4 ∧ 2 * μL87.1 45 4 ≤ μL87.2.1 51 := hi_94.nm.2.2.2.2.2.2.2.1
              have e_163 : (sv (sv μL87 32 11 (μL87.1 32 12)) 32 12 ((μL87.1 32 12) + 1)).1 45 4 = μL87.1 45 4 := ((sv_n _ (fun h9 => absurd h9.1 (by decide))).trans (sv_n _ (fun h9 => absurd h9.1 (by decide))))
              refine xc_vV G (b := 32) (rest := []) (As := []) (c_X4_workOut ω l (sv (sv μL87 32 11 (μL87.1 32 12)) 32 12 ((μL87.1 32 12) + 1)) (μL87.1 33 3) (μL87.1 52 7) (μL87.1 32 10) (μL87.1 32 12) hI_146 (by omega) (by omega) (((sv_n _ (by decide)).trans (sv_n _ (by decide)))).symm (((sv_n _ (by decide)).trans (sv_s _ _ _ _))).symm (by omega) (by omega) qc (by omega) qb (qd ())) (wm 6 118 rfl rfl) (wm 6 120 rfl rfl) (wm 0 85 rfl rfl) rfl rfl (by decide) rfl (wm 1 14 rfl rfl) (wm 6 121 rfl rfl) (by decide) hR (by decide) (n := 0) rfl rfl (Nat.le_of_ble_eq_true rfl) hl.1 dX4_run_116 (fun μ164 ρ d0 H locs hp G => ?_)
              obtain ⟨F_165, hI_166, hp_167, hp_168, hp_169, hp_170, ha_171, ha_172, ha_173, ha_174, ha_175, ha_176, ha_177, hs_178, hs_179, hs_180, hs_181, hs_182, hs_183, hs_184⟩ := hp
              have hn_185 : 0 ≤ μ164.1 52 7 ∧ μ164.1 52 7 ≤ 24 := hI_166.nm.2.2.2.2.1
              have hk_186 := hI_166.row (r := 33) (by unfold isRow; decide)
              unfold rk at hk_186
              simp only [Int.reduceAdd] at hk_186
              have hn_187 : 0 ≤ μ164.1 45 1 ∧ 9 * μ164.1 45 1 ≤ μ164.2.1 46 := hI_166.nm.2.2.2.2.2.2.1
              replace hp_167 := fun _ : Unit => hp_167
              replace hp_168 := fun _ : Unit => hp_168
              replace hp_170 := fun _ : Unit => hp_170
              have hri_188 := RG.work hRG (by omega) (by rw [ho_]; omega) (((sv_n _ (fun h9 => absurd h9.1 (by decide))).trans (sv_n _ (fun h9 => absurd h9.1 (by decide))))).symm (((sv_n _ (fun h9 => absurd h9.1 (by decide))).trans (sv_n _ (fun h9 => absurd h9.1 (by decide))))).symm (((sv_n _ (by decide)).trans (sv_n _ (by decide)))).symm (((sv_n _ (by decide)).trans (sv_s _ _ _ _))).symm F_165 (hp_167 ()) (hp_168 ()) hp_169 (hp_170 ()) ha_171 ha_174 ha_175 ha_176 ha_177 (((hs_184.trans ((sv_n _ (fun h9 => absurd h9.1 (by decide))).trans (sv_n _ (fun h9 => absurd h9.1 (by decide)))))).trans (((sv_n _ (fun h9 => absurd h9.1 (by decide))).trans (sv_n _ (fun h9 => absurd h9.1 (by decide))))).symm)
              refine lv_goto (tgt := 144) hx hb dX4_run_119 (by decide) ?_
              refine lv_iinc (v := iv (i9 + 1)) (lv' := [(5, .int (iv (i9 + 1))), (0, .ref (oP ω 32)), (1, .int (iv x1)), (2, .int (iv x2)), (3, .long (jv x3))]) hx hb dX4_run_144 hl (k := 0) rfl (by rw [show Int32.ofInt 1 = iv 1 from rfl, iv_add]) (by decide) rfl (fun ls hl => ?_)
              refine lv_goto (tgt := 21) hx hb dX4_run_147 (by decide) ?_
              exact ih _ _ _ _ _ _ _ (by omega) ⟨i9 + 1, (Fr.tr (Fr.put (Fr.put FL88 (by decide)) (by decide)) F_165 (by decide)), (by omega), (by omega), (by omega), hri_188, hI_166, rfl, lv_sub hl [0, 1, 2, 3, 4] rfl⟩ G
          · refine lv_aload_n hx hb dX4_run_74 rfl (lv_at hl 1 rfl) ?_
            obtain ⟨qa, qb, qc, qd, qe, qf, qg, qh, qi, qj⟩ := RI.ask (n := μL87.1 52 7) (P := μL87.1 32 10) hi_93 (by omega) (by omega) rfl rfl
            replace qh := fun _ : Unit => qh
            replace qi := fun _ : Unit => qi
            have h13_ : μL87.1 32 13 = 3 := by omega
            have hk_189 := hi_94.row (r := 33) (by unfold isRow; decide)
            unfold rk at hk_189
            simp only [Int.reduceAdd] at hk_189
            have hn_190 : 0 ≤ μL87.1 60 6 ∧ μL87.1 60 6 ≤ 400 := hi_94.nm.2.2.2.2.2.1
            have hn_191 : 0 ≤ μL87.1 45 4 ∧ 2 * μL87.1 45 4 ≤ μL87.2.1 51 := hi_94.nm.2.2.2.2.2.2.2.1
            have hn_192 : 0 ≤ μL87.1 52 7 ∧ μL87.1 52 7 ≤ 24 := hi_94.nm.2.2.2.2.1
            refine xc_vV G (b := 32) (rest := []) (As := []) (c_X4_leaveFunction ω l μL87 (crf μL87 cc dd (μL87.1 52 7 - 1)) (μL87.1 33 3) (μL87.1 32 10) (μL87.1 60 6) (μL87.1 45 4) (μL87.1 52 7) hi_94 (by omega) rfl (by omega) (by omega) (by omega) qa qb qc qd qe qf qg (qh ()) (qi ())) (wm 6 69 rfl rfl) (wm 6 71 rfl rfl) (wm 0 79 rfl rfl) rfl rfl (by decide) rfl (wm 1 14 rfl rfl) (wm 6 72 rfl rfl) (by decide) hR (by decide) (n := 0) rfl rfl (Nat.le_of_ble_eq_true rfl) hl.1 dX4_run_75 (fun μ193 ρ d0 H locs hp G => ?_)
            obtain ⟨F_194, hI_195, hp_196, hp_197, hp_198, hp_199, hp_200, hp_201, hp_202, hs_203, hs_204, hs_205, hs_206⟩ := hp
            have hn_207 : 0 ≤ μ193.1 52 7 ∧ μ193.1 52 7 ≤ 24 := hI_195.nm.2.2.2.2.1
            have hk_208 := hI_195.row (r := 33) (by unfold isRow; decide)
            unfold rk at hk_208
            simp only [Int.reduceAdd] at hk_208
            have hn_209 : 0 ≤ μ193.1 60 6 ∧ μ193.1 60 6 ≤ 400 := hI_195.nm.2.2.2.2.2.1
            have hn_210 : 0 ≤ μ193.1 45 4 ∧ 2 * μ193.1 45 4 ≤ μ193.2.1 51 := hI_195.nm.2.2.2.2.2.2.2.1
            have hn_211 : 0 ≤ μ193.1 45 1 ∧ 9 * μ193.1 45 1 ≤ μ193.2.1 46 := hI_195.nm.2.2.2.2.2.2.1
            replace hp_196 := fun _ : Unit => hp_196
            replace hp_197 := fun _ : Unit => hp_197
            replace hp_198 := fun _ : Unit => hp_198
            replace hp_200 := fun _ : Unit => hp_200
            replace hp_202 := fun _ : Unit => hp_202
            have hri_212 := RI.leave hi_93 (by omega) rfl rfl rfl rfl rfl h13_ F_194 (hp_196 ()) (hp_197 ()) (hp_198 ()) hp_199 (hp_200 ()) hp_201 (hp_202 ())
            refine lv_goto (tgt := 144) hx hb dX4_run_78 (by decide) ?_
            refine lv_iinc (v := iv (i9 + 1)) (lv' := [(5, .int (iv (i9 + 1))), (0, .ref (oP ω 32)), (1, .int (iv x1)), (2, .int (iv x2)), (3, .long (jv x3))]) hx hb dX4_run_144 hl (k := 0) rfl (by rw [show Int32.ofInt 1 = iv 1 from rfl, iv_add]) (by decide) rfl (fun ls hl => ?_)
            refine lv_goto (tgt := 21) hx hb dX4_run_147 (by decide) ?_
            exact ih _ _ _ _ _ _ _ (by omega) ⟨i9 + 1, (Fr.tr FL88 F_194 (by decide)), (by omega), (by omega), (by omega), hri_212, hI_195, rfl, lv_sub hl [0, 1, 2, 3, 4] rfl⟩ G
        · refine lv_aload_n hx hb dX4_run_59 rfl (lv_at hl 1 rfl) ?_
          obtain ⟨qa, qb, qc, qd, qe, qf, qg, qh, qi, qj⟩ := RI.ask (n := μL87.1 52 7) (P := μL87.1 32 10) hi_93 (by omega) (by omega) rfl rfl
          replace qh := fun _ : Unit => qh
          replace qi := fun _ : Unit => qi
          have h13_ : μL87.1 32 13 = 2 := by omega
          have hk_213 := hi_94.row (r := 33) (by unfold isRow; decide)
          unfold rk at hk_213
          simp only [Int.reduceAdd] at hk_213
          have hn_214 : 0 ≤ μL87.1 60 6 ∧ μL87.1 60 6 ≤ 400 := hi_94.nm.2.2.2.2.2.1
          have hn_215 : 0 ≤ μL87.1 45 4 ∧ 2 * μL87.1 45 4 ≤ μL87.2.1 51 := hi_94.nm.2.2.2.2.2.2.2.1
          have hn_216 : 0 ≤ μL87.1 52 7 ∧ μL87.1 52 7 ≤ 24 := hi_94.nm.2.2.2.2.1
          have hn_217 : 0 ≤ μL87.1 45 1 ∧ 9 * μL87.1 45 1 ≤ μL87.2.1 46 := hi_94.nm.2.2.2.2.2.2.1
          refine xc_vV G (b := 32) (rest := []) (As := []) (c_X4_goOnBehindCall ω l μL87 (crf μL87 cc dd (μL87.1 52 7 - 1)) (μL87.1 33 3) (μL87.1 32 10) (μL87.1 60 6) (μL87.1 45 4) (μL87.1 52 7) hi_94 (by omega) rfl (by omega) (by omega) (by omega) qa qb qc qd qe qj) (wm 6 65 rfl rfl) (wm 6 67 rfl rfl) (wm 0 78 rfl rfl) rfl rfl (by decide) rfl (wm 1 14 rfl rfl) (wm 6 68 rfl rfl) (by decide) hR (by decide) (n := 0) rfl rfl (Nat.le_of_ble_eq_true rfl) hl.1 dX4_run_60 (fun μ218 ρ d0 H locs hp G => ?_)
          obtain ⟨F_219, hI_220, hp_221, hp_222, hp_223, hp_224, hs_225, hs_226, hs_227, hs_228, hs_229, hs_230, hs_231, hs_232, hs_233, hs_234, hs_235, hs_236, hs_237, hs_238, hs_239⟩ := hp
          have hk_240 := hI_220.row (r := 33) (by unfold isRow; decide)
          unfold rk at hk_240
          simp only [Int.reduceAdd] at hk_240
          have hn_241 : 0 ≤ μ218.1 60 6 ∧ μ218.1 60 6 ≤ 400 := hI_220.nm.2.2.2.2.2.1
          have hn_242 : 0 ≤ μ218.1 45 4 ∧ 2 * μ218.1 45 4 ≤ μ218.2.1 51 := hI_220.nm.2.2.2.2.2.2.2.1
          replace hp_221 := fun _ : Unit => hp_221
          replace hp_224 := fun _ : Unit => hp_224
          have hri_243 := RI.behind hi_93 (by omega) rfl rfl rfl rfl rfl h13_ F_219 (hp_221 ()) hp_222 hp_223 (hp_224 ()) hs_225 hs_232 hs_238 hs_239
          refine lv_goto (tgt := 144) hx hb dX4_run_63 (by decide) ?_
          refine lv_iinc (v := iv (i9 + 1)) (lv' := [(5, .int (iv (i9 + 1))), (0, .ref (oP ω 32)), (1, .int (iv x1)), (2, .int (iv x2)), (3, .long (jv x3))]) hx hb dX4_run_144 hl (k := 0) rfl (by rw [show Int32.ofInt 1 = iv 1 from rfl, iv_add]) (by decide) rfl (fun ls hl => ?_)
          refine lv_goto (tgt := 21) hx hb dX4_run_147 (by decide) ?_
          exact ih _ _ _ _ _ _ _ (by omega) ⟨i9 + 1, (Fr.tr FL88 F_219 (by decide)), (by omega), (by omega), (by omega), hri_243, hI_220, rfl, lv_sub hl [0, 1, 2, 3, 4] rfl⟩ G
      · refine lv_aload_n hx hb dX4_run_44 rfl (lv_at hl 1 rfl) ?_
        obtain ⟨qa, qb, qc, qd, qe, qf, qg, qh, qi, qj⟩ := RI.ask (n := μL87.1 52 7) (P := μL87.1 32 10) hi_93 (by omega) (by omega) rfl rfl
        replace qh := fun _ : Unit => qh
        replace qi := fun _ : Unit => qi
        have h13_ : μL87.1 32 13 = 1 := by omega
        have hk_244 := hi_94.row (r := 33) (by unfold isRow; decide)
        unfold rk at hk_244
        simp only [Int.reduceAdd] at hk_244
        have hn_245 : 0 ≤ μL87.1 60 6 ∧ μL87.1 60 6 ≤ 400 := hi_94.nm.2.2.2.2.2.1
        have hn_246 : 0 ≤ μL87.1 45 4 ∧ 2 * μL87.1 45 4 ≤ μL87.2.1 51 := hi_94.nm.2.2.2.2.2.2.2.1
        have hn_247 : 0 ≤ μL87.1 52 7 ∧ μL87.1 52 7 ≤ 24 := hi_94.nm.2.2.2.2.1
        refine xc_vV G (b := 32) (rest := []) (As := []) (c_X4_carryOn ω l μL87 (crf μL87 cc dd (μL87.1 52 7 - 1)) (μL87.1 33 3) (μL87.1 32 10) (μL87.1 60 6) (μL87.1 45 4) (μL87.1 52 7) hi_94 (by omega) rfl (by omega) (by omega) (by omega) qa qb qc qd qe qf qg (qh ())) (wm 5 107 rfl rfl) (wm 5 109 rfl rfl) (wm 0 65 rfl rfl) rfl rfl (by decide) rfl (wm 1 14 rfl rfl) (wm 5 110 rfl rfl) (by decide) hR (by decide) (n := 0) rfl rfl (Nat.le_of_ble_eq_true rfl) hl.1 dX4_run_45 (fun μ248 ρ d0 H locs hp G => ?_)
        obtain ⟨F_249, hI_250, hp_251, hp_252, hp_253, hp_254, hp_255, hp_256, hp_257, hs_258, hs_259, hs_260, hs_261, hs_262, hs_263⟩ := hp
        have hn_264 : 0 ≤ μ248.1 52 7 ∧ μ248.1 52 7 ≤ 24 := hI_250.nm.2.2.2.2.1
        have hk_265 := hI_250.row (r := 33) (by unfold isRow; decide)
        unfold rk at hk_265
        simp only [Int.reduceAdd] at hk_265
        have hn_266 : 0 ≤ μ248.1 60 6 ∧ μ248.1 60 6 ≤ 400 := hI_250.nm.2.2.2.2.2.1
        have hn_267 : 0 ≤ μ248.1 45 4 ∧ 2 * μ248.1 45 4 ≤ μ248.2.1 51 := hI_250.nm.2.2.2.2.2.2.2.1
        have hn_268 : 0 ≤ μ248.1 45 1 ∧ 9 * μ248.1 45 1 ≤ μ248.2.1 46 := hI_250.nm.2.2.2.2.2.2.1
        replace hp_251 := fun _ : Unit => hp_251
        replace hp_252 := fun _ : Unit => hp_252
        replace hp_253 := fun _ : Unit => hp_253
        replace hp_255 := fun _ : Unit => hp_255
        replace hp_257 := fun _ : Unit => hp_257
        have hri_269 := RI.carry hi_93 (by omega) rfl rfl rfl rfl rfl h13_ F_249 (hp_251 ()) (hp_252 ()) (hp_253 ()) hp_254 (hp_255 ()) hp_256 (hp_257 ())
        refine lv_goto (tgt := 144) hx hb dX4_run_48 (by decide) ?_
        refine lv_iinc (v := iv (i9 + 1)) (lv' := [(5, .int (iv (i9 + 1))), (0, .ref (oP ω 32)), (1, .int (iv x1)), (2, .int (iv x2)), (3, .long (jv x3))]) hx hb dX4_run_144 hl (k := 0) rfl (by rw [show Int32.ofInt 1 = iv 1 from rfl, iv_add]) (by decide) rfl (fun ls hl => ?_)
        refine lv_goto (tgt := 21) hx hb dX4_run_147 (by decide) ?_
        exact ih _ _ _ _ _ _ _ (by omega) ⟨i9 + 1, (Fr.tr FL88 F_249 (by decide)), (by omega), (by omega), (by omega), hri_269, hI_250, rfl, lv_sub hl [0, 1, 2, 3, 4] rfl⟩ G
