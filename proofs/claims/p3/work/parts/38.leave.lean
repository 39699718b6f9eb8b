abbrev cX4_clear : ByteArray := prog_6_method_9_code
def yX4_clear : MethodName := ⟨RX4, "clear", "()V"⟩
abbrev cX4_leaveFunction : ByteArray := prog_6_method_32_code
def yX4_leaveFunction : MethodName := ⟨RX4, "leaveFunction", "()V"⟩
theorem dX4_clear_0 : decode cX4_clear 0 = .ok (.iconst 0, 1) := by decide +kernel
theorem dX4_clear_1 : decode cX4_clear 1 = .ok (.istore_n 1, 1) := by decide +kernel
theorem dX4_clear_2 : decode cX4_clear 2 = .ok (.iload_n 1, 1) := by decide +kernel
theorem dX4_clear_3 : decode cX4_clear 3 = .ok (.bipush 8, 2) := by decide +kernel
theorem dX4_clear_5 : decode cX4_clear 5 = .ok (.if_icmp .ge 16, 3) := by decide +kernel
theorem dX4_clear_8 : decode cX4_clear 8 = .ok (.aload_n 0, 1) := by decide +kernel
theorem dX4_clear_9 : decode cX4_clear 9 = .ok (.getfield 47, 3) := by decide +kernel
theorem dX4_clear_12 : decode cX4_clear 12 = .ok (.iload_n 1, 1) := by decide +kernel
theorem dX4_clear_13 : decode cX4_clear 13 = .ok (.iconst 0, 1) := by decide +kernel
theorem dX4_clear_14 : decode cX4_clear 14 = .ok (.iastore, 1) := by decide +kernel
theorem dX4_clear_15 : decode cX4_clear 15 = .ok (.iinc 1 1, 3) := by decide +kernel
theorem dX4_clear_18 : decode cX4_clear 18 = .ok (.goto (-16), 3) := by decide +kernel
theorem dX4_clear_21 : decode cX4_clear 21 = .ok (.aload_n 0, 1) := by decide +kernel
theorem dX4_clear_22 : decode cX4_clear 22 = .ok (.getfield 14, 3) := by decide +kernel
theorem dX4_clear_25 : decode cX4_clear 25 = .ok (.iconst 0, 1) := by decide +kernel
theorem dX4_clear_26 : decode cX4_clear 26 = .ok (.invokevirtual 151, 3) := by decide +kernel
theorem dX4_clear_29 : decode cX4_clear 29 = .ok (.aload_n 0, 1) := by decide +kernel
theorem dX4_clear_30 : decode cX4_clear 30 = .ok (.getfield 20, 3) := by decide +kernel
theorem dX4_clear_33 : decode cX4_clear 33 = .ok (.iconst 0, 1) := by decide +kernel
theorem dX4_clear_34 : decode cX4_clear 34 = .ok (.invokevirtual 151, 3) := by decide +kernel
theorem dX4_clear_37 : decode cX4_clear 37 = .ok (.aload_n 0, 1) := by decide +kernel
theorem dX4_clear_38 : decode cX4_clear 38 = .ok (.getfield 23, 3) := by decide +kernel
theorem dX4_clear_41 : decode cX4_clear 41 = .ok (.iconst 0, 1) := by decide +kernel
theorem dX4_clear_42 : decode cX4_clear 42 = .ok (.invokevirtual 151, 3) := by decide +kernel
theorem dX4_clear_45 : decode cX4_clear 45 = .ok (.aload_n 0, 1) := by decide +kernel
theorem dX4_clear_46 : decode cX4_clear 46 = .ok (.getfield 29, 3) := by decide +kernel
theorem dX4_clear_49 : decode cX4_clear 49 = .ok (.invokevirtual 154, 3) := by decide +kernel
theorem dX4_clear_52 : decode cX4_clear 52 = .ok (.aload_n 0, 1) := by decide +kernel
theorem dX4_clear_53 : decode cX4_clear 53 = .ok (.getfield 36, 3) := by decide +kernel
theorem dX4_clear_56 : decode cX4_clear 56 = .ok (.invokevirtual 155, 3) := by decide +kernel
theorem dX4_clear_59 : decode cX4_clear 59 = .ok (.aload_n 0, 1) := by decide +kernel
theorem dX4_clear_60 : decode cX4_clear 60 = .ok (.getfield 43, 3) := by decide +kernel
theorem dX4_clear_63 : decode cX4_clear 63 = .ok (.invokevirtual 156, 3) := by decide +kernel
theorem dX4_clear_66 : decode cX4_clear 66 = .ok (.aload_n 0, 1) := by decide +kernel
theorem dX4_clear_67 : decode cX4_clear 67 = .ok (.iconst 0, 1) := by decide +kernel
theorem dX4_clear_68 : decode cX4_clear 68 = .ok (.putfield 58, 3) := by decide +kernel
theorem dX4_clear_71 : decode cX4_clear 71 = .ok (.aload_n 0, 1) := by decide +kernel
theorem dX4_clear_72 : decode cX4_clear 72 = .ok (.iconst (-1), 1) := by decide +kernel
theorem dX4_clear_73 : decode cX4_clear 73 = .ok (.putfield 64, 3) := by decide +kernel
theorem dX4_clear_76 : decode cX4_clear 76 = .ok (.aload_n 0, 1) := by decide +kernel
theorem dX4_clear_77 : decode cX4_clear 77 = .ok (.lconst 0, 1) := by decide +kernel
theorem dX4_clear_78 : decode cX4_clear 78 = .ok (.putfield 67, 3) := by decide +kernel
theorem dX4_clear_81 : decode cX4_clear 81 = .ok (.return_, 1) := by decide +kernel
theorem dX4_leaveFunction_0 : decode cX4_leaveFunction 0 = .ok (.aload_n 0, 1) := by decide +kernel
theorem dX4_leaveFunction_1 : decode cX4_leaveFunction 1 = .ok (.iconst 0, 1) := by decide +kernel
theorem dX4_leaveFunction_2 : decode cX4_leaveFunction 2 = .ok (.putfield 58, 3) := by decide +kernel
theorem dX4_leaveFunction_5 : decode cX4_leaveFunction 5 = .ok (.aload_n 0, 1) := by decide +kernel
theorem dX4_leaveFunction_6 : decode cX4_leaveFunction 6 = .ok (.getfield 43, 3) := by decide +kernel
theorem dX4_leaveFunction_9 : decode cX4_leaveFunction 9 = .ok (.invokevirtual 304, 3) := by decide +kernel
theorem dX4_leaveFunction_12 : decode cX4_leaveFunction 12 = .ok (.istore_n 1, 1) := by decide +kernel
theorem dX4_leaveFunction_13 : decode cX4_leaveFunction 13 = .ok (.iload_n 1, 1) := by decide +kernel
theorem dX4_leaveFunction_14 : decode cX4_leaveFunction 14 = .ok (.aload_n 0, 1) := by decide +kernel
theorem dX4_leaveFunction_15 : decode cX4_leaveFunction 15 = .ok (.getfield 36, 3) := by decide +kernel
theorem dX4_leaveFunction_18 : decode cX4_leaveFunction 18 = .ok (.invokevirtual 305, 3) := by decide +kernel
theorem dX4_leaveFunction_21 : decode cX4_leaveFunction 21 = .ok (.if_icmp .le 116, 3) := by decide +kernel
theorem dX4_leaveFunction_24 : decode cX4_leaveFunction 24 = .ok (.aload_n 0, 1) := by decide +kernel
theorem dX4_leaveFunction_25 : decode cX4_leaveFunction 25 = .ok (.getfield 43, 3) := by decide +kernel
theorem dX4_leaveFunction_28 : decode cX4_leaveFunction 28 = .ok (.invokevirtual 308, 3) := by decide +kernel
theorem dX4_leaveFunction_31 : decode cX4_leaveFunction 31 = .ok (.iconst 4, 1) := by decide +kernel
theorem dX4_leaveFunction_32 : decode cX4_leaveFunction 32 = .ok (.if_icmp .ne 44, 3) := by decide +kernel
theorem dX4_leaveFunction_35 : decode cX4_leaveFunction 35 = .ok (.aload_n 0, 1) := by decide +kernel
theorem dX4_leaveFunction_36 : decode cX4_leaveFunction 36 = .ok (.getfield 43, 3) := by decide +kernel
theorem dX4_leaveFunction_39 : decode cX4_leaveFunction 39 = .ok (.aload_n 0, 1) := by decide +kernel
theorem dX4_leaveFunction_40 : decode cX4_leaveFunction 40 = .ok (.getfield 14, 3) := by decide +kernel
theorem dX4_leaveFunction_43 : decode cX4_leaveFunction 43 = .ok (.aload_n 0, 1) := by decide +kernel
theorem dX4_leaveFunction_44 : decode cX4_leaveFunction 44 = .ok (.invokevirtual 255, 3) := by decide +kernel
theorem dX4_leaveFunction_47 : decode cX4_leaveFunction 47 = .ok (.invokevirtual 369, 3) := by decide +kernel
theorem dX4_leaveFunction_50 : decode cX4_leaveFunction 50 = .ok (.aload_n 0, 1) := by decide +kernel
theorem dX4_leaveFunction_51 : decode cX4_leaveFunction 51 = .ok (.getfield 14, 3) := by decide +kernel
theorem dX4_leaveFunction_54 : decode cX4_leaveFunction 54 = .ok (.aload_n 0, 1) := by decide +kernel
theorem dX4_leaveFunction_55 : decode cX4_leaveFunction 55 = .ok (.getfield 36, 3) := by decide +kernel
theorem dX4_leaveFunction_58 : decode cX4_leaveFunction 58 = .ok (.invokevirtual 310, 3) := by decide +kernel
theorem dX4_leaveFunction_61 : decode cX4_leaveFunction 61 = .ok (.invokevirtual 151, 3) := by decide +kernel
theorem dX4_leaveFunction_64 : decode cX4_leaveFunction 64 = .ok (.aload_n 0, 1) := by decide +kernel
theorem dX4_leaveFunction_65 : decode cX4_leaveFunction 65 = .ok (.aload_n 0, 1) := by decide +kernel
theorem dX4_leaveFunction_66 : decode cX4_leaveFunction 66 = .ok (.getfield 43, 3) := by decide +kernel
theorem dX4_leaveFunction_69 : decode cX4_leaveFunction 69 = .ok (.invokevirtual 313, 3) := by decide +kernel
theorem dX4_leaveFunction_72 : decode cX4_leaveFunction 72 = .ok (.putfield 55, 3) := by decide +kernel
theorem dX4_leaveFunction_75 : decode cX4_leaveFunction 75 = .ok (.return_, 1) := by decide +kernel
theorem dX4_leaveFunction_76 : decode cX4_leaveFunction 76 = .ok (.aload_n 0, 1) := by decide +kernel
theorem dX4_leaveFunction_77 : decode cX4_leaveFunction 77 = .ok (.getfield 43, 3) := by decide +kernel
theorem dX4_leaveFunction_80 : decode cX4_leaveFunction 80 = .ok (.invokevirtual 308, 3) := by decide +kernel
theorem dX4_leaveFunction_83 : decode cX4_leaveFunction 83 = .ok (.iconst 5, 1) := by decide +kernel
theorem dX4_leaveFunction_84 : decode cX4_leaveFunction 84 = .ok (.if_icmp .ne 40, 3) := by decide +kernel
theorem dX4_leaveFunction_87 : decode cX4_leaveFunction 87 = .ok (.aload_n 0, 1) := by decide +kernel
theorem dX4_leaveFunction_88 : decode cX4_leaveFunction 88 = .ok (.getfield 14, 3) := by decide +kernel
theorem dX4_leaveFunction_91 : decode cX4_leaveFunction 91 = .ok (.invokevirtual 265, 3) := by decide +kernel
theorem dX4_leaveFunction_94 : decode cX4_leaveFunction 94 = .ok (.iconst 4, 1) := by decide +kernel
theorem dX4_leaveFunction_95 : decode cX4_leaveFunction 95 = .ok (.if_icmp .ne 29, 3) := by decide +kernel
theorem dX4_leaveFunction_98 : decode cX4_leaveFunction 98 = .ok (.aload_n 0, 1) := by decide +kernel
theorem dX4_leaveFunction_99 : decode cX4_leaveFunction 99 = .ok (.getfield 29, 3) := by decide +kernel
theorem dX4_leaveFunction_102 : decode cX4_leaveFunction 102 = .ok (.aload_n 0, 1) := by decide +kernel
theorem dX4_leaveFunction_103 : decode cX4_leaveFunction 103 = .ok (.getfield 14, 3) := by decide +kernel
theorem dX4_leaveFunction_106 : decode cX4_leaveFunction 106 = .ok (.aload_n 0, 1) := by decide +kernel
theorem dX4_leaveFunction_107 : decode cX4_leaveFunction 107 = .ok (.invokevirtual 255, 3) := by decide +kernel
theorem dX4_leaveFunction_110 : decode cX4_leaveFunction 110 = .ok (.invokevirtual 101, 3) := by decide +kernel
theorem dX4_leaveFunction_113 : decode cX4_leaveFunction 113 = .ok (.l2i, 1) := by decide +kernel
theorem dX4_leaveFunction_114 : decode cX4_leaveFunction 114 = .ok (.aload_n 0, 1) := by decide +kernel
theorem dX4_leaveFunction_115 : decode cX4_leaveFunction 115 = .ok (.getfield 43, 3) := by decide +kernel
theorem dX4_leaveFunction_118 : decode cX4_leaveFunction 118 = .ok (.invokevirtual 316, 3) := by decide +kernel
theorem dX4_leaveFunction_121 : decode cX4_leaveFunction 121 = .ok (.invokevirtual 319, 3) := by decide +kernel
theorem dX4_leaveFunction_124 : decode cX4_leaveFunction 124 = .ok (.aload_n 0, 1) := by decide +kernel
theorem dX4_leaveFunction_125 : decode cX4_leaveFunction 125 = .ok (.getfield 43, 3) := by decide +kernel
theorem dX4_leaveFunction_128 : decode cX4_leaveFunction 128 = .ok (.invokevirtual 246, 3) := by decide +kernel
theorem dX4_leaveFunction_131 : decode cX4_leaveFunction 131 = .ok (.iinc 1 (-1), 3) := by decide +kernel
theorem dX4_leaveFunction_134 : decode cX4_leaveFunction 134 = .ok (.goto (-121), 3) := by decide +kernel
theorem dX4_leaveFunction_137 : decode cX4_leaveFunction 137 = .ok (.aload_n 0, 1) := by decide +kernel
theorem dX4_leaveFunction_138 : decode cX4_leaveFunction 138 = .ok (.getfield 36, 3) := by decide +kernel
theorem dX4_leaveFunction_141 : decode cX4_leaveFunction 141 = .ok (.invokevirtual 339, 3) := by decide +kernel
theorem dX4_leaveFunction_144 : decode cX4_leaveFunction 144 = .ok (.iconst 1, 1) := by decide +kernel
theorem dX4_leaveFunction_145 : decode cX4_leaveFunction 145 = .ok (.if_icmp .le 10, 3) := by decide +kernel
theorem dX4_leaveFunction_148 : decode cX4_leaveFunction 148 = .ok (.aload_n 0, 1) := by decide +kernel
theorem dX4_leaveFunction_149 : decode cX4_leaveFunction 149 = .ok (.invokevirtual 372, 3) := by decide +kernel
theorem dX4_leaveFunction_152 : decode cX4_leaveFunction 152 = .ok (.goto 7, 3) := by decide +kernel
theorem dX4_leaveFunction_155 : decode cX4_leaveFunction 155 = .ok (.aload_n 0, 1) := by decide +kernel
theorem dX4_leaveFunction_156 : decode cX4_leaveFunction 156 = .ok (.invokevirtual 375, 3) := by decide +kernel
theorem dX4_leaveFunction_159 : decode cX4_leaveFunction 159 = .ok (.return_, 1) := by decide +kernel
set_option maxHeartbeats 4000000 in
set_option maxRecDepth 100000 in
theorem c_X4_leaveFunction (ω : Om) (l : Launch) (μ : M3) (cr1 : Int → Int → Int) (S : Int) (P : Int) (g : Int) (y : Int) (n : Int) (hI : IC μ) (hS : S = μ.1 33 3) (hP : P = μ.1 32 10) (hg : g = μ.1 60 6) (hy : y = μ.1 45 4) (hn : n = μ.1 52 7) (hcc : ∀ q, ctc μ P (cr1 q)) (hgo : ∀ j, ofF μ 59 ≤ j → j < μ.1 60 6 → gok μ P cr1 j (μ.1 61 j) (μ.1 62 j)) (hgb : 0 ≤ ofF μ 59 ∧ ofF μ 59 ≤ μ.1 60 6) (hly : μ.1 45 4 + μ.1 60 6 ≤ 10010) (hfl : ofF μ 56 ≤ 239000) (hst : 0 ≤ μ.1 70 2 ∧ μ.1 70 2 ≤ 5000 ∧ 0 ≤ μ.1 70 8 ∧ μ.1 70 8 ≤ 80000 ∧ μ.1 45 1 ≤ μ.1 70 2) (h1n : 1 ≤ n) (hb2 : n ≤ 1 ∨ (0 ≤ μ.1 53 (n - 2) ∧ μ.1 53 (n - 2) ≤ 3 ∧ 0 ≤ μ.1 58 (n - 1) ∧ μ.1 58 (n - 1) ≤ 100000000 ∧ μ.1 57 (n - 1) ≤ 239000)) (h3x : n ≤ 1 ∨ -1000000 ≤ μ.1 57 (n - 1)) : CtV ω l yX4_leaveFunction cX4_leaveFunction 2 7 222 [.ref (oP ω 32)] μ (fun (μ' : M3) => (Fr [32, 45, 46, 51, 60, 66, 67, 68, 69, 70, 34, 35, 36, 33, 52, 47, 48, 49, 50, 61, 64, 65] μ μ') ∧ (IC μ') ∧ ((μ'.1 52 7 = n ∧ μ'.1 32 13 = 0 ∧ μ'.1 33 3 = max (ofF μ 56) 0 ∧ ofF μ 59 ≤ μ'.1 60 6 ∧ μ'.1 32 10 = P) ∨ (n ≤ 1 ∧ μ'.1 32 13 = 4 ∧ μ'.1 52 7 = n) ∨ (2 ≤ n ∧ μ'.1 60 6 = ofF μ 59 ∧ μ'.1 52 7 = n - 1 ∧ μ'.1 32 12 = μ.1 58 (n - 1) + 1 ∧ ((μ'.1 33 3 ≤ max (μ.1 57 (n - 1) + 1) 1 ∧ (μ'.1 32 13 = 0 ∨ μ'.1 32 13 = 1 ∨ μ'.1 32 13 = 4)) ∨ (μ'.1 33 3 ≤ max (μ.1 57 (n - 1)) 0 ∧ μ'.1 32 13 = 2)))) ∧ (μ'.1 52 7 = n → μ'.1 32 13 = 0 → gtc (cr1 (μ'.1 60 6)) (μ'.1 32 12)) ∧ (μ'.1 52 7 = n - 1 → μ'.1 32 10 = μ.1 12 (μ.1 53 (n - 2))) ∧ (μ'.1 60 6 ≤ g ∧ μ'.1 45 4 + μ'.1 60 6 ≤ y + g) ∧ (∀ j, μ'.1 61 j = μ.1 61 j ∨ (μ'.1 61 j = 5 ∧ μ.1 61 j = 4)) ∧ (μ.1 70 2 ≤ μ'.1 70 2 ∧ μ'.1 70 2 ≤ 5000 ∧ 0 ≤ μ'.1 70 8 ∧ μ'.1 70 8 ≤ 80000 ∧ μ'.1 45 1 ≤ μ'.1 70 2) ∧ (μ'.1 32 13 ≠ 2 ∨ μ.1 53 (n - 2) = 1) ∧ (μ'.1 70 3 = μ.1 70 3) ∧ (μ'.1 70 4 = μ.1 70 4) ∧ (μ'.1 70 5 = μ.1 70 5) ∧ (μ'.1 70 7 = μ.1 70 7)) := by
  refine CtV.go (by decide) (Nat.le_of_ble_eq_true rfl) (fun ρ p e s m below meth c R ls G hR hret hlk hl => ?_)
  have hx := G.1.1
  have hb := G.1.2.1
  have hl : lv_has ls 2 [(0, .ref (oP ω 32))] := hl
  generalize s.drawn = d0 at G ⊢
  have hk_1 := hI.row (r := 33) (by unfold isRow; decide)
  unfold rk at hk_1
  simp only [Int.reduceAdd] at hk_1
  have hbr_33 : BR 33 = 240100 := rfl
  have hn_2 : 0 ≤ μ.1 60 6 ∧ μ.1 60 6 ≤ 400 := hI.nm.2.2.2.2.2.1
  have hn_3 : 0 ≤ μ.1 45 4 ∧ 2 * μ.1 45 4 ≤ μ.2.1 51 := hI.nm.2.2.2.2.2.2.2.1
  have hn_4 : 0 ≤ μ.1 52 7 ∧ μ.1 52 7 ≤ 24 := hI.nm.2.2.2.2.1
  have hk_5 := hI.row (r := 37) (by unfold isRow; decide)
  unfold rk at hk_5
  simp only [Int.reduceAdd] at hk_5
  have hbr_37 : BR 37 = 20410 := rfl
  have hprP : isPr P := by have h9 := G.sr0.2.2.2.2.1; rw [← hP] at h9; exact h9
  have hprP_d : P = 13 ∨ P = 71 ∨ P = 81 ∨ P = 91 ∨ P = 101 := hprP
  have hSr0 : Sr μ := G.sr0
  have hof57 := ofF_at (μ := μ) (b := 57) hn.symm (by omega)
  refine lv_aload_n hx hb dX4_leaveFunction_0 rfl (lv_at hl 0 rfl) ?_
  refine lv_iconst (v := iv 0) hx hb dX4_leaveFunction_1 rfl ?_
  refine xa_puti G fd_X4 (a := 32) (x := 0) 13 (kz := 13) rfl rfl (by decide) rfl (by unfold ir; omega) (wm 2 157 rfl rfl) ⟨rfl, rfl, rfl, rfl⟩ rfl dX4_leaveFunction_2 rfl (fun H locs G => ?_)
  refine lv_aload_n hx hb dX4_leaveFunction_5 rfl (lv_at hl 0 rfl) ?_
  refine xa_getr G fd_X4 (a := 32) (x := 60) 8 rfl (by decide) rfl (wm 2 152 rfl rfl) ⟨rfl, rfl, rfl⟩ dX4_leaveFunction_6 rfl (G.sk 41 rfl) (by decide) rfl ?_
  have hI_6 : IC (sv μ 32 13 0) := (IC.put hI (by decide +kernel))
  have e_7 : (sv μ 32 13 0).1 60 6 = g := ((sv_n _ (fun h9 => absurd h9.1 (by decide))).trans hg.symm)
  refine xc_iV G (b := 60) (rest := []) (As := []) (c_X3_count ω l (sv μ 32 13 0)  hI_6) (wm 5 89 rfl rfl) (wm 5 90 rfl rfl) (wm 5 91 rfl rfl) rfl rfl (by decide) rfl (wm 1 17 rfl rfl) (wm 5 92 rfl rfl) (by decide) hR (by decide) (n := 0) rfl rfl (Nat.le_of_ble_eq_true rfl) hl.1 dX4_leaveFunction_9 (fun r_9 μ8 ρ d0 H locs hr_r_9 hp G => ?_)
  have hr_r_9 : -2147483648 ≤ r_9 ∧ r_9 ≤ 2147483647 := hr_r_9
  obtain ⟨hsm_10, hp_11⟩ := hp
  have hsm_10 := Eq.symm hsm_10
  subst hsm_10
  refine lv_istore_n (lv' := [(1, .int (iv r_9)), (0, .ref (oP ω 32))]) hx hb dX4_leaveFunction_12 rfl hl (by decide) rfl (fun ls hl => ?_)
  have e_12 : (sv μ 32 13 0).1 60 6 = g := ((sv_n _ (fun h9 => absurd h9.1 (by decide))).trans hg.symm)
  have e_13 : (sv μ 32 13 0).1 45 4 = y := ((sv_n _ (fun h9 => absurd h9.1 (by decide))).trans hy.symm)
  have e_14 : (sv μ 32 13 0).1 60 6 = g := ((sv_n _ (fun h9 => absurd h9.1 (by decide))).trans hg.symm)
  have e_15 : (sv μ 32 13 0).1 45 4 = y := ((sv_n _ (fun h9 => absurd h9.1 (by decide))).trans hy.symm)
  refine xl (fun n_9 μ' ls => ∃ (i9 : Int), (Fr [45, 46, 51, 60, 66, 67, 68, 69] (sv μ 32 13 0) μ') ∧ (-2147483648 ≤ i9 ∧ i9 ≤ 2147483647) ∧ (i9 = μ'.1 60 6) ∧ (ofF μ 59 ≤ i9) ∧ (i9 ≤ g) ∧ (μ'.1 45 4 + μ'.1 60 6 ≤ y + g) ∧ (0 ≤ μ'.1 45 4) ∧ (μ'.1 45 1 = μ.1 45 1) ∧ (IC μ') ∧ n_9 = Int.toNat (i9) ∧ lv_has ls 2 [(1, .int (iv i9)), (0, .ref (oP ω 32))]) (fun n_9 ρ μL16 d0 H locs ls hI_l G ih => ?_) _ _ _ _ _ _ _ ⟨r_9, Fr.rf, (by omega), (by omega), (by omega), (by omega), (by omega), (by omega), (sv_n _ (fun h9 => absurd h9.1 (by decide))), hI_6, rfl, lv_sub hl [0, 1] rfl⟩ G
  obtain ⟨i9, FL17, hi_19, hi_20, hi_21, hi_22, hi_23, hi_24, hi_25, hi_26, hn18, hl⟩ := hI_l
  refine lv_iload_n hx hb dX4_leaveFunction_13 rfl (lv_at hl 0 rfl) ?_
  refine lv_aload_n hx hb dX4_leaveFunction_14 rfl (lv_at hl 1 rfl) ?_
  refine xa_getr G fd_X4 (a := 32) (x := 52) 7 rfl (by decide) rfl (wm 2 151 rfl rfl) ⟨rfl, rfl, rfl⟩ dX4_leaveFunction_15 rfl (G.sk 40 rfl) (by decide) rfl ?_
  have e_27 : ofF μL16 59 = ofF μ 59 := ((ofF_fr FL17 (by decide) (by decide)).trans (ofF_sv μ (by decide) (by decide)))
  refine xc_iV G (b := 52) (rest := [.int (iv i9)]) (As := []) (c_X2_guardBase ω l μL16  hi_26) (wm 5 115 rfl rfl) (wm 5 116 rfl rfl) (wm 5 117 rfl rfl) rfl rfl (by decide) rfl (wm 1 16 rfl rfl) (wm 5 118 rfl rfl) (by decide) hR (by decide) (n := 0) rfl rfl (Nat.le_of_ble_eq_true rfl) hl.1 dX4_leaveFunction_18 (fun r_29 μ28 ρ d0 H locs hr_r_29 hp G => ?_)
  have hr_r_29 : -2147483648 ≤ r_29 ∧ r_29 ≤ 2147483647 := hr_r_29
  obtain ⟨hsm_30, hp_31⟩ := hp
  have hsm_30 := Eq.symm hsm_30
  subst hsm_30
  refine xb_icmp_le (tgt := 137) hx hb (by unfold ir; omega) (by unfold ir; omega) dX4_leaveFunction_21 (by decide) (fun c_21 => ?_) (fun c_21 => ?_)
  · refine lv_aload_n hx hb dX4_leaveFunction_137 rfl (lv_at hl 1 rfl) ?_
    refine xa_getr G fd_X4 (a := 32) (x := 52) 7 rfl (by decide) rfl (wm 2 151 rfl rfl) ⟨rfl, rfl, rfl⟩ dX4_leaveFunction_138 rfl (G.sk 40 rfl) (by decide) rfl ?_
    have e_32 : μL16.1 52 7 = n := ((FL17.1 52 (by decide) 7).trans ((sv_n _ (fun h9 => absurd h9.1 (by decide))).trans hn.symm))
    refine xc_iV G (b := 52) (rest := []) (As := []) (c_X2_count ω l μL16  hi_26) (wm 5 101 rfl rfl) (wm 5 102 rfl rfl) (wm 5 103 rfl rfl) rfl rfl (by decide) rfl (wm 1 16 rfl rfl) (wm 5 104 rfl rfl) (by decide) hR (by decide) (n := 0) rfl rfl (Nat.le_of_ble_eq_true rfl) hl.1 dX4_leaveFunction_141 (fun r_34 μ33 ρ d0 H locs hr_r_34 hp G => ?_)
    have hr_r_34 : -2147483648 ≤ r_34 ∧ r_34 ≤ 2147483647 := hr_r_34
    obtain ⟨hsm_35, hp_36⟩ := hp
    have hsm_35 := Eq.symm hsm_35
    subst hsm_35
    refine lv_iconst (v := iv 1) hx hb dX4_leaveFunction_144 rfl ?_
    refine xb_icmp_le (tgt := 155) hx hb (by unfold ir; omega) (by unfold ir; omega) dX4_leaveFunction_145 (by decide) (fun c_145 => ?_) (fun c_145 => ?_)
    · refine lv_aload_n hx hb dX4_leaveFunction_155 rfl (lv_at hl 1 rfl) ?_
      have e_37 : μL16.1 70 2 = μ.1 70 2 := ((FL17.1 70 (by decide) 2).trans (sv_n _ (fun h9 => absurd h9.1 (by decide))))
      have e_38 : μL16.1 70 3 = μ.1 70 3 := ((FL17.1 70 (by decide) 3).trans (sv_n _ (fun h9 => absurd h9.1 (by decide))))
      have e_39 : μL16.1 70 4 = μ.1 70 4 := ((FL17.1 70 (by decide) 4).trans (sv_n _ (fun h9 => absurd h9.1 (by decide))))
      have e_40 : μL16.1 70 5 = μ.1 70 5 := ((FL17.1 70 (by decide) 5).trans (sv_n _ (fun h9 => absurd h9.1 (by decide))))
      have e_41 : μL16.1 70 6 = μ.1 70 6 := ((FL17.1 70 (by decide) 6).trans (sv_n _ (fun h9 => absurd h9.1 (by decide))))
      have e_42 : μL16.1 70 7 = μ.1 70 7 := ((FL17.1 70 (by decide) 7).trans (sv_n _ (fun h9 => absurd h9.1 (by decide))))
      have e_43 : μL16.1 70 8 = μ.1 70 8 := ((FL17.1 70 (by decide) 8).trans (sv_n _ (fun h9 => absurd h9.1 (by decide))))
      have e_44 : μL16.1 70 9 = μ.1 70 9 := ((FL17.1 70 (by decide) 9).trans (sv_n _ (fun h9 => absurd h9.1 (by decide))))
      have e_45 : μL16.1 32 10 = P := ((FL17.1 32 (by decide) 10).trans ((sv_n _ (by decide)).trans hP.symm))
      have e_46 : μL16.1 32 11 = μ.1 32 11 := ((FL17.1 32 (by decide) 11).trans (sv_n _ (by decide)))
      have e_47 : μL16.1 32 12 = μ.1 32 12 := ((FL17.1 32 (by decide) 12).trans (sv_n _ (by decide)))
      have e_48 : μL16.1 32 14 = μ.1 32 14 := ((FL17.1 32 (by decide) 14).trans (sv_n _ (by decide)))
      refine xc_vV G (b := 32) (rest := []) (As := []) (c_X4_endWithAnswer ω l μL16  hi_26) (wm 6 97 rfl rfl) (wm 6 99 rfl rfl) (wm 0 83 rfl rfl) rfl rfl (by decide) rfl (wm 1 14 rfl rfl) (wm 6 100 rfl rfl) (by decide) hR (by decide) (n := 0) rfl rfl (Nat.le_of_ble_eq_true rfl) hl.1 dX4_leaveFunction_156 (fun μ49 ρ d0 H locs hp G => ?_)
      obtain ⟨F_50, hI_51, hp_52, hs_53, hs_54, hs_55, hs_56, hs_57, hs_58, hs_59, hs_60, hs_61, hs_62, hs_63, hs_64⟩ := hp
      have e_65 : μ49.1 33 3 = S := ((F_50.1 33 (by decide) 3).trans ((FL17.1 33 (by decide) 3).trans ((sv_n _ (fun h9 => absurd h9.1 (by decide))).trans hS.symm)))
      have e_66 : μ49.1 52 7 = n := ((F_50.1 52 (by decide) 7).trans ((FL17.1 52 (by decide) 7).trans ((sv_n _ (fun h9 => absurd h9.1 (by decide))).trans hn.symm)))
      have e_67 : μ49.1 32 12 = μ.1 32 12 := (hs_63.trans ((FL17.1 32 (by decide) 12).trans (sv_n _ (by decide))))
      have e_68 : μ49.1 60 6 = μL16.1 60 6 := (F_50.1 60 (by decide) 6)
      have e_69 : μ49.1 32 10 = P := (hs_61.trans ((FL17.1 32 (by decide) 10).trans ((sv_n _ (by decide)).trans hP.symm)))
      have e_70 : μ49.1 45 4 = μL16.1 45 4 := (F_50.1 45 (by decide) 4)
      have e_71 : ofF μ49 53 = ofF μ 53 := ((ofF_fr F_50 (by decide) (by decide)).trans ((ofF_fr FL17 (by decide) (by decide)).trans (ofF_sv μ (by decide) (by decide))))
      have h0_e : (μ49.1 52 7 = n ∧ μ49.1 32 13 = 0 ∧ μ49.1 33 3 = max (ofF μ 56) 0 ∧ ofF μ 59 ≤ μ49.1 60 6 ∧ μ49.1 32 10 = P) ∨ (n ≤ 1 ∧ μ49.1 32 13 = 4 ∧ μ49.1 52 7 = n) ∨ (2 ≤ n ∧ μ49.1 60 6 = ofF μ 59 ∧ μ49.1 52 7 = n - 1 ∧ μ49.1 32 12 = μ.1 58 (n - 1) + 1 ∧ ((μ49.1 33 3 ≤ max (μ.1 57 (n - 1) + 1) 1 ∧ (μ49.1 32 13 = 0 ∨ μ49.1 32 13 = 1 ∨ μ49.1 32 13 = 4)) ∨ (μ49.1 33 3 ≤ max (μ.1 57 (n - 1)) 0 ∧ μ49.1 32 13 = 2))) := by
        exact Or.inr (Or.inl ⟨by omega, by omega, by omega⟩)
      have e_72 : μ49.1 60 6 = μL16.1 60 6 := (F_50.1 60 (by decide) 6)
      have e_73 : μ49.1 45 4 = μL16.1 45 4 := (F_50.1 45 (by decide) 4)
      have e_74 : μ49.1 60 6 = μL16.1 60 6 := (F_50.1 60 (by decide) 6)
      have e_75 : μ49.1 70 2 = μ.1 70 2 := (hs_53.trans ((FL17.1 70 (by decide) 2).trans (sv_n _ (fun h9 => absurd h9.1 (by decide)))))
      have e_76 : μ49.1 70 2 = μ.1 70 2 := (hs_53.trans ((FL17.1 70 (by decide) 2).trans (sv_n _ (fun h9 => absurd h9.1 (by decide)))))
      have e_77 : μ49.1 70 8 = μ.1 70 8 := (hs_59.trans ((FL17.1 70 (by decide) 8).trans (sv_n _ (fun h9 => absurd h9.1 (by decide)))))
      have e_78 : μ49.1 70 8 = μ.1 70 8 := (hs_59.trans ((FL17.1 70 (by decide) 8).trans (sv_n _ (fun h9 => absurd h9.1 (by decide)))))
      have e_79 : μ49.1 45 1 = μ.1 45 1 := ((F_50.1 45 (by decide) 1).trans hi_25)
      have e_80 : μ49.1 70 2 = μ.1 70 2 := (hs_53.trans ((FL17.1 70 (by decide) 2).trans (sv_n _ (fun h9 => absurd h9.1 (by decide)))))
      have e_81 : μ49.1 70 3 = μ.1 70 3 := (hs_54.trans ((FL17.1 70 (by decide) 3).trans (sv_n _ (fun h9 => absurd h9.1 (by decide)))))
      have e_82 : μ49.1 70 4 = μ.1 70 4 := (hs_55.trans ((FL17.1 70 (by decide) 4).trans (sv_n _ (fun h9 => absurd h9.1 (by decide)))))
      have e_83 : μ49.1 70 5 = μ.1 70 5 := (hs_56.trans ((FL17.1 70 (by decide) 5).trans (sv_n _ (fun h9 => absurd h9.1 (by decide)))))
      have e_84 : μ49.1 70 7 = μ.1 70 7 := (hs_58.trans ((FL17.1 70 (by decide) 7).trans (sv_n _ (fun h9 => absurd h9.1 (by decide)))))
      exact xr_v G hret hlk dX4_leaveFunction_159 ⟨(Fr.tr (Fr.tr (Fr.put Fr.rf (by decide)) FL17 (by decide)) F_50 (by decide)), hI_51, h0_e, (fun _ h8 => absurd h8 (by omega)), (fun h9 => absurd h9 (by omega)), (by omega), (fun j => Or.inl ((F_50.1 61 (by decide) j).trans ((FL17.1 61 (by decide) j).trans (sv_n _ (by omega))))), (by omega), (by omega), (by omega), (by omega), (by omega), (by omega)⟩
    · refine lv_aload_n hx hb dX4_leaveFunction_148 rfl (lv_at hl 1 rfl) ?_
      have e_85 : μL16.1 33 3 = S := ((FL17.1 33 (by decide) 3).trans ((sv_n _ (fun h9 => absurd h9.1 (by decide))).trans hS.symm))
      have e_86 : μL16.1 52 7 = n := ((FL17.1 52 (by decide) 7).trans ((sv_n _ (fun h9 => absurd h9.1 (by decide))).trans hn.symm))
      have e_87 : μL16.1 70 2 = μ.1 70 2 := ((FL17.1 70 (by decide) 2).trans (sv_n _ (fun h9 => absurd h9.1 (by decide))))
      have e_88 : μL16.1 70 2 = μ.1 70 2 := ((FL17.1 70 (by decide) 2).trans (sv_n _ (fun h9 => absurd h9.1 (by decide))))
      have e_89 : μL16.1 70 8 = μ.1 70 8 := ((FL17.1 70 (by decide) 8).trans (sv_n _ (fun h9 => absurd h9.1 (by decide))))
      have e_90 : μL16.1 70 8 = μ.1 70 8 := ((FL17.1 70 (by decide) 8).trans (sv_n _ (fun h9 => absurd h9.1 (by decide))))
      have hn_91 : 0 ≤ μ.1 45 1 ∧ 9 * μ.1 45 1 ≤ μ.2.1 46 := hI.nm.2.2.2.2.2.2.1
      have e_92 : μL16.1 45 1 = μ.1 45 1 := hi_25
      have e_93 : μL16.1 70 2 = μ.1 70 2 := ((FL17.1 70 (by decide) 2).trans (sv_n _ (fun h9 => absurd h9.1 (by decide))))
      have e_94 : μL16.1 32 13 = 0 := ((FL17.1 32 (by decide) 13).trans (sv_s _ _ _ _))
      have e_95 : μL16.1 53 (n - 2) = μ.1 53 (n - 2) := ((FL17.1 53 (by decide) (n - 2)).trans (sv_n _ (fun h9 => absurd h9.1 (by decide))))
      have e_96 : μL16.1 53 (n - 2) = μ.1 53 (n - 2) := ((FL17.1 53 (by decide) (n - 2)).trans (sv_n _ (fun h9 => absurd h9.1 (by decide))))
      have e_97 : μL16.1 58 (n - 1) = μ.1 58 (n - 1) := ((FL17.1 58 (by decide) (n - 1)).trans (sv_n _ (fun h9 => absurd h9.1 (by decide))))
      have e_98 : μL16.1 58 (n - 1) = μ.1 58 (n - 1) := ((FL17.1 58 (by decide) (n - 1)).trans (sv_n _ (fun h9 => absurd h9.1 (by decide))))
      have e_99 : μL16.1 57 (n - 1) = μ.1 57 (n - 1) := ((FL17.1 57 (by decide) (n - 1)).trans (sv_n _ (fun h9 => absurd h9.1 (by decide))))
      have e_100 : μL16.1 57 (n - 1) = μ.1 57 (n - 1) := ((FL17.1 57 (by decide) (n - 1)).trans (sv_n _ (fun h9 => absurd h9.1 (by decide))))
      have e_101 : μL16.1 58 (n - 1) = μ.1 58 (n - 1) := ((FL17.1 58 (by decide) (n - 1)).trans (sv_n _ (fun h9 => absurd h9.1 (by decide))))
      have e_102 : μL16.1 57 (n - 1) = μ.1 57 (n - 1) := ((FL17.1 57 (by decide) (n - 1)).trans (sv_n _ (fun h9 => absurd h9.1 (by decide))))
      have e_103 : μL16.1 57 (n - 1) = μ.1 57 (n - 1) := ((FL17.1 57 (by decide) (n - 1)).trans (sv_n _ (fun h9 => absurd h9.1 (by decide))))
      have e_104 : μL16.1 70 2 = μ.1 70 2 := ((FL17.1 70 (by decide) 2).trans (sv_n _ (fun h9 => absurd h9.1 (by decide))))
      have e_105 : μL16.1 53 (n - 2) = μ.1 53 (n - 2) := ((FL17.1 53 (by decide) (n - 2)).trans (sv_n _ (fun h9 => absurd h9.1 (by decide))))
      have e_106 : μL16.1 32 15 = μ.1 32 15 := ((FL17.1 32 (by decide) 15).trans (sv_n _ (by decide)))
      have e_107 : μL16.1 32 16 = μ.1 32 16 := ((FL17.1 32 (by decide) 16).trans (sv_n _ (by decide)))
      have e_108 : μL16.1 70 1 = μ.1 70 1 := ((FL17.1 70 (by decide) 1).trans (sv_n _ (fun h9 => absurd h9.1 (by decide))))
      have e_109 : μL16.1 70 3 = μ.1 70 3 := ((FL17.1 70 (by decide) 3).trans (sv_n _ (fun h9 => absurd h9.1 (by decide))))
      have e_110 : μL16.1 70 4 = μ.1 70 4 := ((FL17.1 70 (by decide) 4).trans (sv_n _ (fun h9 => absurd h9.1 (by decide))))
      have e_111 : μL16.1 70 5 = μ.1 70 5 := ((FL17.1 70 (by decide) 5).trans (sv_n _ (fun h9 => absurd h9.1 (by decide))))
      have e_112 : μL16.1 70 7 = μ.1 70 7 := ((FL17.1 70 (by decide) 7).trans (sv_n _ (fun h9 => absurd h9.1 (by decide))))
      have hn_113 : 0 ≤ μL16.1 45 4 ∧ 2 * μL16.1 45 4 ≤ μL16.2.1 51 := hi_26.nm.2.2.2.2.2.2.2.1
      refine xc_vV G (b := 32) (rest := []) (As := []) (c_X4_giveAnswer ω l μL16 S n hi_26 (by omega) (by omega) (by omega) (by omega) (by omega) (by omega) (by omega) (by omega)) (wm 6 85 rfl rfl) (wm 6 87 rfl rfl) (wm 0 81 rfl rfl) rfl rfl (by decide) rfl (wm 1 14 rfl rfl) (wm 6 88 rfl rfl) (by decide) hR (by decide) (n := 0) rfl rfl (Nat.le_of_ble_eq_true rfl) hl.1 dX4_leaveFunction_149 (fun μ114 ρ d0 H locs hp G => ?_)
      obtain ⟨F_115, hI_116, hp_117, hp_118, hp_119, hp_120, hs_121, hs_122, hs_123, hs_124, hs_125, hs_126, hs_127, hs_128⟩ := hp
      have hn_129 : 0 ≤ μ114.1 52 7 ∧ μ114.1 52 7 ≤ 24 := hI_116.nm.2.2.2.2.1
      have hk_130 := hI_116.row (r := 33) (by unfold isRow; decide)
      unfold rk at hk_130
      simp only [Int.reduceAdd] at hk_130
      have hn_131 : 0 ≤ μ114.1 45 1 ∧ 9 * μ114.1 45 1 ≤ μ114.2.1 46 := hI_116.nm.2.2.2.2.2.2.1
      refine lv_goto (tgt := 159) hx hb dX4_leaveFunction_152 (by decide) ?_
      have e_132 : μ114.1 60 6 = μL16.1 60 6 := (F_115.1 60 (by decide) 6)
      have e_133 : μ114.1 45 4 = μL16.1 45 4 := hs_128
      have h0_e : (μ114.1 52 7 = n ∧ μ114.1 32 13 = 0 ∧ μ114.1 33 3 = max (ofF μ 56) 0 ∧ ofF μ 59 ≤ μ114.1 60 6 ∧ μ114.1 32 10 = P) ∨ (n ≤ 1 ∧ μ114.1 32 13 = 4 ∧ μ114.1 52 7 = n) ∨ (2 ≤ n ∧ μ114.1 60 6 = ofF μ 59 ∧ μ114.1 52 7 = n - 1 ∧ μ114.1 32 12 = μ.1 58 (n - 1) + 1 ∧ ((μ114.1 33 3 ≤ max (μ.1 57 (n - 1) + 1) 1 ∧ (μ114.1 32 13 = 0 ∨ μ114.1 32 13 = 1 ∨ μ114.1 32 13 = 4)) ∨ (μ114.1 33 3 ≤ max (μ.1 57 (n - 1)) 0 ∧ μ114.1 32 13 = 2))) := by
        obtain ⟨a1, a2, a3⟩ := hp_117
        rcases a3 with ⟨a4, a5⟩ | ⟨a4, a5⟩
        · exact Or.inr (Or.inr ⟨by omega, by omega, by omega, by omega, Or.inl ⟨by omega, by omega⟩⟩)
        · exact Or.inr (Or.inr ⟨by omega, by omega, by omega, by omega, Or.inr ⟨by omega, by omega⟩⟩)
      have hB_e : 2 ≤ n → μ114.1 32 10 = μ.1 12 (μ.1 53 (n - 2)) := fun h9 => by rw [hp_118 h9, show μL16.1 53 (n - 2) = μ.1 53 (n - 2) from ((FL17.1 53 (by decide) (n - 2)).trans (sv_n _ (fun h9 => absurd h9.1 (by decide))))]; exact ((FL17.1 12 (by decide) (μ.1 53 (n - 2))).trans (sv_n _ (fun h9 => absurd h9.1 (by decide))))
      have e_134 : μ114.1 60 6 = μL16.1 60 6 := (F_115.1 60 (by decide) 6)
      have e_135 : μ114.1 45 4 = μL16.1 45 4 := hs_128
      have e_136 : μ114.1 60 6 = μL16.1 60 6 := (F_115.1 60 (by decide) 6)
      have e_137 : μ114.1 70 3 = μ.1 70 3 := (hs_124.trans ((FL17.1 70 (by decide) 3).trans (sv_n _ (fun h9 => absurd h9.1 (by decide)))))
      have e_138 : μ114.1 70 4 = μ.1 70 4 := (hs_125.trans ((FL17.1 70 (by decide) 4).trans (sv_n _ (fun h9 => absurd h9.1 (by decide)))))
      have e_139 : μ114.1 70 5 = μ.1 70 5 := (hs_126.trans ((FL17.1 70 (by decide) 5).trans (sv_n _ (fun h9 => absurd h9.1 (by decide)))))
      have e_140 : μ114.1 70 7 = μ.1 70 7 := (hs_127.trans ((FL17.1 70 (by decide) 7).trans (sv_n _ (fun h9 => absurd h9.1 (by decide)))))
      exact xr_v G hret hlk dX4_leaveFunction_159 ⟨(Fr.tr (Fr.tr (Fr.put Fr.rf (by decide)) FL17 (by decide)) F_115 (by decide)), hI_116, h0_e, (fun h7 _ => absurd h7 (by have h9 := (hp_117).1; omega)), (fun h9 => hB_e (by omega)), (by omega), (fun j => Or.inl ((F_115.1 61 (by decide) j).trans ((FL17.1 61 (by decide) j).trans (sv_n _ (by omega))))), (by omega), (by omega), (by omega), (by omega), (by omega), (by omega)⟩
  · refine lv_aload_n hx hb dX4_leaveFunction_24 rfl (lv_at hl 1 rfl) ?_
    refine xa_getr G fd_X4 (a := 32) (x := 60) 8 rfl (by decide) rfl (wm 2 152 rfl rfl) ⟨rfl, rfl, rfl⟩ dX4_leaveFunction_25 rfl (G.sk 41 rfl) (by decide) rfl ?_
    refine xc_iV G (b := 60) (rest := []) (As := []) (c_X3_kind ω l μL16  hi_26) (wm 5 123 rfl rfl) (wm 5 124 rfl rfl) (wm 5 125 rfl rfl) rfl rfl (by decide) rfl (wm 1 17 rfl rfl) (wm 5 126 rfl rfl) (by decide) hR (by decide) (n := 0) rfl rfl (Nat.le_of_ble_eq_true rfl) hl.1 dX4_leaveFunction_28 (fun r_142 μ141 ρ d0 H locs hr_r_142 hp G => ?_)
    have hr_r_142 : -2147483648 ≤ r_142 ∧ r_142 ≤ 2147483647 := hr_r_142
    obtain ⟨hsm_143, hp_144⟩ := hp
    have hsm_143 := Eq.symm hsm_143
    subst hsm_143
    have hkd : r_142 = μ.1 61 (i9 - 1) := by have h8 : ofG μL16 61 = μL16.1 61 (i9 - 1) := ofG_at (k := i9) (by have h9 : μL16.1 60 6 = μL16.1 60 6 := rfl; omega) (by omega); have h7 : μL16.1 61 (i9 - 1) = μ.1 61 (i9 - 1) := ((FL17.1 61 (by decide) (i9 - 1)).trans (sv_n _ (fun h9 => absurd h9.1 (by decide)))); omega
    refine lv_iconst (v := iv 4) hx hb dX4_leaveFunction_31 rfl ?_
    refine xb_icmp_ne (tgt := 76) hx hb (by unfold ir; omega) (by unfold ir; omega) dX4_leaveFunction_32 (by decide) (fun c_32 => ?_) (fun c_32 => ?_)
    · refine lv_aload_n hx hb dX4_leaveFunction_76 rfl (lv_at hl 1 rfl) ?_
      refine xa_getr G fd_X4 (a := 32) (x := 60) 8 rfl (by decide) rfl (wm 2 152 rfl rfl) ⟨rfl, rfl, rfl⟩ dX4_leaveFunction_77 rfl (G.sk 41 rfl) (by decide) rfl ?_
      refine xc_iV G (b := 60) (rest := []) (As := []) (c_X3_kind ω l μL16  hi_26) (wm 5 123 rfl rfl) (wm 5 124 rfl rfl) (wm 5 125 rfl rfl) rfl rfl (by decide) rfl (wm 1 17 rfl rfl) (wm 5 126 rfl rfl) (by decide) hR (by decide) (n := 0) rfl rfl (Nat.le_of_ble_eq_true rfl) hl.1 dX4_leaveFunction_80 (fun r_146 μ145 ρ d0 H locs hr_r_146 hp G => ?_)
      have hr_r_146 : -2147483648 ≤ r_146 ∧ r_146 ≤ 2147483647 := hr_r_146
      obtain ⟨hsm_147, hp_148⟩ := hp
      have hsm_147 := Eq.symm hsm_147
      subst hsm_147
      refine lv_iconst (v := iv 5) hx hb dX4_leaveFunction_83 rfl ?_
      refine xb_icmp_ne (tgt := 124) hx hb (by unfold ir; omega) (by unfold ir; omega) dX4_leaveFunction_84 (by decide) (fun c_84 => ?_) (fun c_84 => ?_)
      · refine lv_aload_n hx hb dX4_leaveFunction_124 rfl (lv_at hl 1 rfl) ?_
        refine xa_getr G fd_X4 (a := 32) (x := 60) 8 rfl (by decide) rfl (wm 2 152 rfl rfl) ⟨rfl, rfl, rfl⟩ dX4_leaveFunction_125 rfl (G.sk 41 rfl) (by decide) rfl ?_
        have hn_149 : 0 ≤ μL16.1 60 6 ∧ μL16.1 60 6 ≤ 400 := hi_26.nm.2.2.2.2.2.1
        refine xc_vV G (b := 60) (rest := []) (As := []) (c_X3_pop ω l μL16 (μL16.1 60 6) hi_26 (by omega)) (wm 5 192 rfl rfl) (wm 5 193 rfl rfl) (wm 5 194 rfl rfl) rfl rfl (by decide) rfl (wm 1 17 rfl rfl) (wm 5 195 rfl rfl) (by decide) hR (by decide) (n := 0) rfl rfl (Nat.le_of_ble_eq_true rfl) hl.1 dX4_leaveFunction_128 (fun μ150 ρ d0 H locs hp G => ?_)
        obtain ⟨F_151, hI_152, hp_153⟩ := hp
        have hn_154 : 0 ≤ μ150.1 60 6 ∧ μ150.1 60 6 ≤ 400 := hI_152.nm.2.2.2.2.2.1
        refine lv_iinc (v := iv (i9 - 1)) (lv' := [(1, .int (iv (i9 - 1))), (0, .ref (oP ω 32))]) hx hb dX4_leaveFunction_131 hl (k := 0) rfl (by rw [show Int32.ofInt (-1) = iv (-1) from rfl, iv_add] <;> (congr 1 <;> omega)) (by decide) rfl (fun ls hl => ?_)
        refine lv_goto (tgt := 13) hx hb dX4_leaveFunction_134 (by decide) ?_
        have e_155 : μ150.1 45 4 = μL16.1 45 4 := (F_151.1 45 (by decide) 4)
        have e_156 : μ150.1 45 4 = μL16.1 45 4 := (F_151.1 45 (by decide) 4)
        exact ih _ _ _ _ _ _ _ (by omega) ⟨i9 - 1, (Fr.tr FL17 F_151 (by decide)), (by omega), (by omega), (by omega), (by omega), (by omega), (by omega), ((F_151.1 45 (by decide) 1).trans hi_25), hI_152, rfl, lv_sub hl [0, 1] rfl⟩ G
      · refine lv_aload_n hx hb dX4_leaveFunction_87 rfl (lv_at hl 1 rfl) ?_
        refine xa_getr G fd_X4 (a := 32) (x := 33) 3 rfl (by decide) rfl (wm 2 147 rfl rfl) ⟨rfl, rfl, rfl⟩ dX4_leaveFunction_88 rfl (G.sk 36 rfl) (by decide) rfl ?_
        refine xc_iV G (b := 33) (rest := []) (As := []) (c_X9_kindOfTop ω l μL16 33 (by unfold isRow; decide) hi_26) (wm 6 83 rfl rfl) (wm 5 152 rfl rfl) (wm 5 153 rfl rfl) rfl rfl (by decide) rfl (wm 1 10 rfl rfl) (wm 5 154 rfl rfl) (by decide) hR (by decide) (n := 0) rfl rfl (Nat.le_of_ble_eq_true rfl) hl.1 dX4_leaveFunction_91 (fun r_158 μ157 ρ d0 H locs hr_r_158 hp G => ?_)
        have hr_r_158 : -2147483648 ≤ r_158 ∧ r_158 ≤ 2147483647 := hr_r_158
        have hsm_159 := hp
        have hsm_159 := Eq.symm hsm_159
        subst hsm_159
        refine lv_iconst (v := iv 4) hx hb dX4_leaveFunction_94 rfl ?_
        refine xb_icmp_ne (tgt := 124) hx hb (by unfold ir; omega) (by unfold ir; omega) dX4_leaveFunction_95 (by decide) (fun c_95 => ?_) (fun c_95 => ?_)
        · refine lv_aload_n hx hb dX4_leaveFunction_124 rfl (lv_at hl 1 rfl) ?_
          refine xa_getr G fd_X4 (a := 32) (x := 60) 8 rfl (by decide) rfl (wm 2 152 rfl rfl) ⟨rfl, rfl, rfl⟩ dX4_leaveFunction_125 rfl (G.sk 41 rfl) (by decide) rfl ?_
          have hn_160 : 0 ≤ μL16.1 60 6 ∧ μL16.1 60 6 ≤ 400 := hi_26.nm.2.2.2.2.2.1
          refine xc_vV G (b := 60) (rest := []) (As := []) (c_X3_pop ω l μL16 (μL16.1 60 6) hi_26 (by omega)) (wm 5 192 rfl rfl) (wm 5 193 rfl rfl) (wm 5 194 rfl rfl) rfl rfl (by decide) rfl (wm 1 17 rfl rfl) (wm 5 195 rfl rfl) (by decide) hR (by decide) (n := 0) rfl rfl (Nat.le_of_ble_eq_true rfl) hl.1 dX4_leaveFunction_128 (fun μ161 ρ d0 H locs hp G => ?_)
          obtain ⟨F_162, hI_163, hp_164⟩ := hp
          have hn_165 : 0 ≤ μ161.1 60 6 ∧ μ161.1 60 6 ≤ 400 := hI_163.nm.2.2.2.2.2.1
          refine lv_iinc (v := iv (i9 - 1)) (lv' := [(1, .int (iv (i9 - 1))), (0, .ref (oP ω 32))]) hx hb dX4_leaveFunction_131 hl (k := 0) rfl (by rw [show Int32.ofInt (-1) = iv (-1) from rfl, iv_add] <;> (congr 1 <;> omega)) (by decide) rfl (fun ls hl => ?_)
          refine lv_goto (tgt := 13) hx hb dX4_leaveFunction_134 (by decide) ?_
          have e_166 : μ161.1 45 4 = μL16.1 45 4 := (F_162.1 45 (by decide) 4)
          have e_167 : μ161.1 45 4 = μL16.1 45 4 := (F_162.1 45 (by decide) 4)
          exact ih _ _ _ _ _ _ _ (by omega) ⟨i9 - 1, (Fr.tr FL17 F_162 (by decide)), (by omega), (by omega), (by omega), (by omega), (by omega), (by omega), ((F_162.1 45 (by decide) 1).trans hi_25), hI_163, rfl, lv_sub hl [0, 1] rfl⟩ G
        · refine lv_aload_n hx hb dX4_leaveFunction_98 rfl (lv_at hl 1 rfl) ?_
          refine xa_getr G fd_X4 (a := 32) (x := 45) 6 rfl (by decide) rfl (wm 2 150 rfl rfl) ⟨rfl, rfl, rfl⟩ dX4_leaveFunction_99 rfl (G.sk 39 rfl) (by decide) rfl ?_
          refine lv_aload_n hx hb dX4_leaveFunction_102 rfl (lv_at hl 1 rfl) ?_
          refine xa_getr G fd_X4 (a := 32) (x := 33) 3 rfl (by decide) rfl (wm 2 147 rfl rfl) ⟨rfl, rfl, rfl⟩ dX4_leaveFunction_103 rfl (G.sk 36 rfl) (by decide) rfl ?_
          refine lv_aload_n hx hb dX4_leaveFunction_106 rfl (lv_at hl 1 rfl) ?_
          have e_168 : μL16.1 33 3 = S := ((FL17.1 33 (by decide) 3).trans ((sv_n _ (fun h9 => absurd h9.1 (by decide))).trans hS.symm))
          refine xc_iV G (b := 32) (rest := [.ref (oP ω 33), .ref (oP ω 45)]) (As := []) (c_X4_top ω l μL16 S hi_26 (by omega)) (wm 6 73 rfl rfl) (wm 6 75 rfl rfl) (wm 0 80 rfl rfl) rfl rfl (by decide) rfl (wm 1 14 rfl rfl) (wm 6 76 rfl rfl) (by decide) hR (by decide) (n := 0) rfl rfl (Nat.le_of_ble_eq_true rfl) hl.1 dX4_leaveFunction_107 (fun r_170 μ169 ρ d0 H locs hr_r_170 hp G => ?_)
          have hr_r_170 : -2147483648 ≤ r_170 ∧ r_170 ≤ 2147483647 := hr_r_170
          obtain ⟨hsm_171, hp_172⟩ := hp
          have hsm_171 := Eq.symm hsm_171
          subst hsm_171
          refine xc_lV G (b := 33) (rest := [.ref (oP ω 45)]) (As := [.int (iv r_170)]) (c_X9_whole ω l μL16 33 r_170 (by unfold isRow; decide) (by unfold ir; omega) hi_26) (wm 6 84 rfl rfl) (wm 5 160 rfl rfl) (wm 5 161 rfl rfl) rfl rfl (by decide) rfl (wm 1 10 rfl rfl) (wm 5 162 rfl rfl) (by decide) hR (by decide) (n := 1) rfl rfl (Nat.le_of_ble_eq_true rfl) hl.1 dX4_leaveFunction_110 (fun r_174 μ173 ρ d0 H locs hr_r_174 hp G => ?_)
          have hsm_175 := hp
          have hsm_175 := Eq.symm hsm_175
          subst hsm_175
          refine xb_l2i hx hb dX4_leaveFunction_113 ?_
          refine xb_topi (fun y_176 hr_y_176 he_y_176 => ?_)
          have hr_y_176 : -2147483648 ≤ y_176 ∧ y_176 ≤ 2147483647 := hr_y_176
          refine lv_aload_n hx hb dX4_leaveFunction_114 rfl (lv_at hl 1 rfl) ?_
          refine xa_getr G fd_X4 (a := 32) (x := 60) 8 rfl (by decide) rfl (wm 2 152 rfl rfl) ⟨rfl, rfl, rfl⟩ dX4_leaveFunction_115 rfl (G.sk 41 rfl) (by decide) rfl ?_
          refine xc_iV G (b := 60) (rest := [.int (iv y_176), .ref (oP ω 45)]) (As := []) (c_X3_failureUnderWay ω l μL16  hi_26) (wm 5 143 rfl rfl) (wm 5 144 rfl rfl) (wm 5 145 rfl rfl) rfl rfl (by decide) rfl (wm 1 17 rfl rfl) (wm 5 146 rfl rfl) (by decide) hR (by decide) (n := 0) rfl rfl (Nat.le_of_ble_eq_true rfl) hl.1 dX4_leaveFunction_118 (fun r_178 μ177 ρ d0 H locs hr_r_178 hp G => ?_)
          have hr_r_178 : -2147483648 ≤ r_178 ∧ r_178 ≤ 2147483647 := hr_r_178
          have hsm_179 := hp
          have hsm_179 := Eq.symm hsm_179
          subst hsm_179
          have hn_180 : 0 ≤ μ.1 45 1 ∧ 9 * μ.1 45 1 ≤ μ.2.1 46 := hI.nm.2.2.2.2.2.2.1
          have e_181 : μL16.1 45 1 = μ.1 45 1 := hi_25
          have e_182 : μL16.1 45 1 = μ.1 45 1 := hi_25
          have hn_183 : 0 ≤ μL16.1 45 4 ∧ 2 * μL16.1 45 4 ≤ μL16.2.1 51 := hi_26.nm.2.2.2.2.2.2.2.1
          have e_184 : μL16.1 45 1 = μ.1 45 1 := hi_25
          have e_185 : μL16.1 45 1 = μ.1 45 1 := hi_25
          refine xc_vV G (b := 45) (rest := []) (As := [.int (iv y_176), .int (iv r_178)]) (c_X1_putUnder ω l μL16 y_176 r_178 (μ.1 45 1) (μL16.1 45 4) (by unfold ir; omega) (by unfold ir; omega) hi_26 (by omega) (by omega) (by omega)) (wm 5 163 rfl rfl) (wm 5 164 rfl rfl) (wm 5 165 rfl rfl) rfl rfl (by decide) rfl (wm 1 15 rfl rfl) (wm 5 166 rfl rfl) (by decide) hR (by decide) (n := 2) rfl rfl (Nat.le_of_ble_eq_true rfl) hl.1 dX4_leaveFunction_121 (fun μ186 ρ d0 H locs hp G => ?_)
          obtain ⟨F_187, hI_188, hp_189, hp_190, hs_191⟩ := hp
          have hn_192 : 0 ≤ μ186.1 45 1 ∧ 9 * μ186.1 45 1 ≤ μ186.2.1 46 := hI_188.nm.2.2.2.2.2.2.1
          have hn_193 : 0 ≤ μ186.1 45 4 ∧ 2 * μ186.1 45 4 ≤ μ186.2.1 51 := hI_188.nm.2.2.2.2.2.2.2.1
          refine lv_aload_n hx hb dX4_leaveFunction_124 rfl (lv_at hl 1 rfl) ?_
          refine xa_getr G fd_X4 (a := 32) (x := 60) 8 rfl (by decide) rfl (wm 2 152 rfl rfl) ⟨rfl, rfl, rfl⟩ dX4_leaveFunction_125 rfl (G.sk 41 rfl) (by decide) rfl ?_
          have hn_194 : 0 ≤ μL16.1 60 6 ∧ μL16.1 60 6 ≤ 400 := hi_26.nm.2.2.2.2.2.1
          have e_195 : μ186.1 60 6 = μL16.1 60 6 := (F_187.1 60 (by decide) 6)
          refine xc_vV G (b := 60) (rest := []) (As := []) (c_X3_pop ω l μ186 (μL16.1 60 6) hI_188 (by omega)) (wm 5 192 rfl rfl) (wm 5 193 rfl rfl) (wm 5 194 rfl rfl) rfl rfl (by decide) rfl (wm 1 17 rfl rfl) (wm 5 195 rfl rfl) (by decide) hR (by decide) (n := 0) rfl rfl (Nat.le_of_ble_eq_true rfl) hl.1 dX4_leaveFunction_128 (fun μ196 ρ d0 H locs hp G => ?_)
          obtain ⟨F_197, hI_198, hp_199⟩ := hp
          have hn_200 : 0 ≤ μ196.1 60 6 ∧ μ196.1 60 6 ≤ 400 := hI_198.nm.2.2.2.2.2.1
          refine lv_iinc (v := iv (i9 - 1)) (lv' := [(1, .int (iv (i9 - 1))), (0, .ref (oP ω 32))]) hx hb dX4_leaveFunction_131 hl (k := 0) rfl (by rw [show Int32.ofInt (-1) = iv (-1) from rfl, iv_add] <;> (congr 1 <;> omega)) (by decide) rfl (fun ls hl => ?_)
          refine lv_goto (tgt := 13) hx hb dX4_leaveFunction_134 (by decide) ?_
          have e_201 : μ196.1 45 4 = μ186.1 45 4 := (F_197.1 45 (by decide) 4)
          have e_202 : μ196.1 45 4 = μ186.1 45 4 := (F_197.1 45 (by decide) 4)
          exact ih _ _ _ _ _ _ _ (by omega) ⟨i9 - 1, (Fr.tr (Fr.tr FL17 F_187 (by decide)) F_197 (by decide)), (by omega), (by omega), (by omega), (by omega), (by omega), (by omega), ((F_197.1 45 (by decide) 1).trans (hs_191.trans hi_25)), hI_198, rfl, lv_sub hl [0, 1] rfl⟩ G
    · refine lv_aload_n hx hb dX4_leaveFunction_35 rfl (lv_at hl 1 rfl) ?_
      refine xa_getr G fd_X4 (a := 32) (x := 60) 8 rfl (by decide) rfl (wm 2 152 rfl rfl) ⟨rfl, rfl, rfl⟩ dX4_leaveFunction_36 rfl (G.sk 41 rfl) (by decide) rfl ?_
      refine lv_aload_n hx hb dX4_leaveFunction_39 rfl (lv_at hl 1 rfl) ?_
      refine xa_getr G fd_X4 (a := 32) (x := 33) 3 rfl (by decide) rfl (wm 2 147 rfl rfl) ⟨rfl, rfl, rfl⟩ dX4_leaveFunction_40 rfl (G.sk 36 rfl) (by decide) rfl ?_
      refine lv_aload_n hx hb dX4_leaveFunction_43 rfl (lv_at hl 1 rfl) ?_
      have e_203 : μL16.1 33 3 = S := ((FL17.1 33 (by decide) 3).trans ((sv_n _ (fun h9 => absurd h9.1 (by decide))).trans hS.symm))
      refine xc_iV G (b := 32) (rest := [.ref (oP ω 33), .ref (oP ω 60)]) (As := []) (c_X4_top ω l μL16 S hi_26 (by omega)) (wm 6 73 rfl rfl) (wm 6 75 rfl rfl) (wm 0 80 rfl rfl) rfl rfl (by decide) rfl (wm 1 14 rfl rfl) (wm 6 76 rfl rfl) (by decide) hR (by decide) (n := 0) rfl rfl (Nat.le_of_ble_eq_true rfl) hl.1 dX4_leaveFunction_44 (fun r_205 μ204 ρ d0 H locs hr_r_205 hp G => ?_)
      have hr_r_205 : -2147483648 ≤ r_205 ∧ r_205 ≤ 2147483647 := hr_r_205
      obtain ⟨hsm_206, hp_207⟩ := hp
      have hsm_206 := Eq.symm hsm_206
      subst hsm_206
      have hn_208 : 0 ≤ μL16.1 60 6 ∧ μL16.1 60 6 ≤ 400 := hi_26.nm.2.2.2.2.2.1
      refine xc_vV G (b := 60) (rest := []) (As := [.ref (oP ω 33), .int (iv r_205)]) (c_X3_finishAnswer ω l μL16 33 r_205 (μL16.1 60 6) (by unfold isRow; decide) (by unfold ir; omega) hi_26 (by omega)) (wm 6 77 rfl rfl) (wm 6 78 rfl rfl) (wm 6 79 rfl rfl) rfl rfl (by decide) rfl (wm 1 17 rfl rfl) (wm 6 80 rfl rfl) (by decide) hR (by decide) (n := 2) rfl rfl (Nat.le_of_ble_eq_true rfl) hl.1 dX4_leaveFunction_47 (fun μ209 ρ d0 H locs hp G => ?_)
      obtain ⟨F_210, hI_211, hp_212, ha_213⟩ := hp
      have hk5 : μ209.1 61 (i9 - 1) = 5 := hp_212.elim (fun h9 => absurd h9 (by omega)) (fun h9 => by rw [show i9 - 1 = (μL16.1 60 6) - 1 by omega]; exact h9)
      refine lv_aload_n hx hb dX4_leaveFunction_50 rfl (lv_at hl 1 rfl) ?_
      refine xa_getr G fd_X4 (a := 32) (x := 33) 3 rfl (by decide) rfl (wm 2 147 rfl rfl) ⟨rfl, rfl, rfl⟩ dX4_leaveFunction_51 rfl (G.sk 36 rfl) (by decide) rfl ?_
      refine lv_aload_n hx hb dX4_leaveFunction_54 rfl (lv_at hl 1 rfl) ?_
      refine xa_getr G fd_X4 (a := 32) (x := 52) 7 rfl (by decide) rfl (wm 2 151 rfl rfl) ⟨rfl, rfl, rfl⟩ dX4_leaveFunction_55 rfl (G.sk 40 rfl) (by decide) rfl ?_
      have e_214 : ofF μ209 56 = ofF μ 56 := ((ofF_fr F_210 (by decide) (by decide)).trans ((ofF_fr FL17 (by decide) (by decide)).trans (ofF_sv μ (by decide) (by decide))))
      refine xc_iV G (b := 52) (rest := [.ref (oP ω 33)]) (As := []) (c_X2_floor ω l μ209  hI_211) (wm 5 135 rfl rfl) (wm 5 136 rfl rfl) (wm 5 137 rfl rfl) rfl rfl (by decide) rfl (wm 1 16 rfl rfl) (wm 5 138 rfl rfl) (by decide) hR (by decide) (n := 0) rfl rfl (Nat.le_of_ble_eq_true rfl) hl.1 dX4_leaveFunction_58 (fun r_216 μ215 ρ d0 H locs hr_r_216 hp G => ?_)
      have hr_r_216 : -2147483648 ≤ r_216 ∧ r_216 ≤ 2147483647 := hr_r_216
      obtain ⟨hsm_217, hp_218⟩ := hp
      have hsm_217 := Eq.symm hsm_217
      subst hsm_217
      refine xc_vV G (b := 33) (rest := []) (As := [.int (iv r_216)]) (c_X9_resize ω l μ209 33 r_216 (by unfold isRow; decide) (by unfold ir; omega) hI_211 (by omega)) (wm 5 55 rfl rfl) (wm 3 15 rfl rfl) (wm 3 16 rfl rfl) rfl rfl (by decide) rfl (wm 1 10 rfl rfl) (wm 3 17 rfl rfl) (by decide) hR (by decide) (n := 1) rfl rfl (Nat.le_of_ble_eq_true rfl) hl.1 dX4_leaveFunction_61 (fun μ219 ρ d0 H locs hp G => ?_)
      obtain ⟨F_220, hI_221, hs_222⟩ := hp
      refine lv_aload_n hx hb dX4_leaveFunction_64 rfl (lv_at hl 1 rfl) ?_
      refine lv_aload_n hx hb dX4_leaveFunction_65 rfl (lv_at hl 1 rfl) ?_
      refine xa_getr G fd_X4 (a := 32) (x := 60) 8 rfl (by decide) rfl (wm 2 152 rfl rfl) ⟨rfl, rfl, rfl⟩ dX4_leaveFunction_66 rfl (G.sk 41 rfl) (by decide) rfl ?_
      have e_223 : ofG μ219 62 = ofG μL16 62 := ((ofG_fr F_220 (by decide) (by decide)).trans (ofG_fr F_210 (by decide) (by decide)))
      refine xc_iV G (b := 60) (rest := [.ref (oP ω 32)]) (As := []) (c_X3_target ω l μ219  hI_221) (wm 5 139 rfl rfl) (wm 5 140 rfl rfl) (wm 5 141 rfl rfl) rfl rfl (by decide) rfl (wm 1 17 rfl rfl) (wm 5 142 rfl rfl) (by decide) hR (by decide) (n := 0) rfl rfl (Nat.le_of_ble_eq_true rfl) hl.1 dX4_leaveFunction_69 (fun r_225 μ224 ρ d0 H locs hr_r_225 hp G => ?_)
      have hr_r_225 : -2147483648 ≤ r_225 ∧ r_225 ≤ 2147483647 := hr_r_225
      obtain ⟨hsm_226, hp_227⟩ := hp
      have hsm_226 := Eq.symm hsm_226
      subst hsm_226
      have htg : r_225 = μ.1 62 (i9 - 1) := by have h8 : ofG μ219 62 = μ219.1 62 (i9 - 1) := ofG_at (k := i9) (by have h9 : μ219.1 60 6 = μL16.1 60 6 := ((F_220.1 60 (by decide) 6).trans (F_210.1 60 (by decide) 6)); omega) (by omega); have h7 : μ219.1 62 (i9 - 1) = μ.1 62 (i9 - 1) := ((F_220.1 62 (by decide) (i9 - 1)).trans ((F_210.1 62 (by decide) (i9 - 1)).trans ((FL17.1 62 (by decide) (i9 - 1)).trans (sv_n _ (fun h9 => absurd h9.1 (by decide)))))); omega
      refine xa_puti G fd_X4 (a := 32) (x := r_225) 12 (kz := 12) rfl rfl (by decide) rfl (by unfold ir; omega) (wm 2 156 rfl rfl) ⟨rfl, rfl, rfl, rfl⟩ rfl dX4_leaveFunction_72 rfl (fun H locs G => ?_)
      have e_228 : (sv μ219 32 12 r_225).1 33 3 = max r_216 0 := ((sv_n _ (fun h9 => absurd h9.1 (by decide))).trans hs_222)
      have e_229 : (sv μ219 32 12 r_225).1 32 13 = 0 := ((sv_n _ (by decide)).trans ((F_220.1 32 (by decide) 13).trans ((F_210.1 32 (by decide) 13).trans ((FL17.1 32 (by decide) 13).trans (sv_s _ _ _ _)))))
      have e_230 : (sv μ219 32 12 r_225).1 52 7 = n := ((sv_n _ (fun h9 => absurd h9.1 (by decide))).trans ((F_220.1 52 (by decide) 7).trans ((F_210.1 52 (by decide) 7).trans ((FL17.1 52 (by decide) 7).trans ((sv_n _ (fun h9 => absurd h9.1 (by decide))).trans hn.symm)))))
      have e_231 : (sv μ219 32 12 r_225).1 32 12 = r_225 := (sv_s _ _ _ _)
      have e_232 : (sv μ219 32 12 r_225).1 60 6 = μL16.1 60 6 := ((sv_n _ (fun h9 => absurd h9.1 (by decide))).trans ((F_220.1 60 (by decide) 6).trans (F_210.1 60 (by decide) 6)))
      have e_233 : (sv μ219 32 12 r_225).1 32 10 = P := ((sv_n _ (by decide)).trans ((F_220.1 32 (by decide) 10).trans ((F_210.1 32 (by decide) 10).trans ((FL17.1 32 (by decide) 10).trans ((sv_n _ (by decide)).trans hP.symm)))))
      have e_234 : (sv μ219 32 12 r_225).1 45 4 = μL16.1 45 4 := ((sv_n _ (fun h9 => absurd h9.1 (by decide))).trans ((F_220.1 45 (by decide) 4).trans (F_210.1 45 (by decide) 4)))
      have e_235 : ofF (sv μ219 32 12 r_225) 53 = ofF μ 53 := ((ofF_sv μ219 (by decide) (by decide)).trans ((ofF_fr F_220 (by decide) (by decide)).trans ((ofF_fr F_210 (by decide) (by decide)).trans ((ofF_fr FL17 (by decide) (by decide)).trans (ofF_sv μ (by decide) (by decide))))))
      have h0_e : ((sv μ219 32 12 r_225).1 52 7 = n ∧ (sv μ219 32 12 r_225).1 32 13 = 0 ∧ (sv μ219 32 12 r_225).1 33 3 = max (ofF μ 56) 0 ∧ ofF μ 59 ≤ (sv μ219 32 12 r_225).1 60 6 ∧ (sv μ219 32 12 r_225).1 32 10 = P) ∨ (n ≤ 1 ∧ (sv μ219 32 12 r_225).1 32 13 = 4 ∧ (sv μ219 32 12 r_225).1 52 7 = n) ∨ (2 ≤ n ∧ (sv μ219 32 12 r_225).1 60 6 = ofF μ 59 ∧ (sv μ219 32 12 r_225).1 52 7 = n - 1 ∧ (sv μ219 32 12 r_225).1 32 12 = μ.1 58 (n - 1) + 1 ∧ (((sv μ219 32 12 r_225).1 33 3 ≤ max (μ.1 57 (n - 1) + 1) 1 ∧ ((sv μ219 32 12 r_225).1 32 13 = 0 ∨ (sv μ219 32 12 r_225).1 32 13 = 1 ∨ (sv μ219 32 12 r_225).1 32 13 = 4)) ∨ ((sv μ219 32 12 r_225).1 33 3 ≤ max (μ.1 57 (n - 1)) 0 ∧ (sv μ219 32 12 r_225).1 32 13 = 2))) := by
        exact Or.inl ⟨by omega, by omega, by omega, by omega, by omega⟩
      have hpc : (sv μ219 32 12 r_225).1 32 12 = μ.1 62 (i9 - 1) := by have h9 : (sv μ219 32 12 r_225).1 32 12 = r_225 := (sv_s _ _ _ _); omega
      have h606 : (sv μ219 32 12 r_225).1 60 6 = i9 - 1 + 1 := by have h9 : (sv μ219 32 12 r_225).1 60 6 = μL16.1 60 6 := ((sv_n _ (fun h9 => absurd h9.1 (by decide))).trans ((F_220.1 60 (by decide) 6).trans (F_210.1 60 (by decide) 6))); omega
      have hI_236 : IC (sv μ219 32 12 r_225) := (IC.put hI_221 (by decide +kernel))
      have e_237 : (sv μ219 32 12 r_225).1 60 6 = μL16.1 60 6 := ((sv_n _ (fun h9 => absurd h9.1 (by decide))).trans ((F_220.1 60 (by decide) 6).trans (F_210.1 60 (by decide) 6)))
      have e_238 : (sv μ219 32 12 r_225).1 45 4 = μL16.1 45 4 := ((sv_n _ (fun h9 => absurd h9.1 (by decide))).trans ((F_220.1 45 (by decide) 4).trans (F_210.1 45 (by decide) 4)))
      have e_239 : (sv μ219 32 12 r_225).1 60 6 = μL16.1 60 6 := ((sv_n _ (fun h9 => absurd h9.1 (by decide))).trans ((F_220.1 60 (by decide) 6).trans (F_210.1 60 (by decide) 6)))
      have e_240 : (sv μ219 32 12 r_225).1 70 2 = μ.1 70 2 := ((sv_n _ (fun h9 => absurd h9.1 (by decide))).trans ((F_220.1 70 (by decide) 2).trans ((F_210.1 70 (by decide) 2).trans ((FL17.1 70 (by decide) 2).trans (sv_n _ (fun h9 => absurd h9.1 (by decide)))))))
      have e_241 : (sv μ219 32 12 r_225).1 70 2 = μ.1 70 2 := ((sv_n _ (fun h9 => absurd h9.1 (by decide))).trans ((F_220.1 70 (by decide) 2).trans ((F_210.1 70 (by decide) 2).trans ((FL17.1 70 (by decide) 2).trans (sv_n _ (fun h9 => absurd h9.1 (by decide)))))))
      have e_242 : (sv μ219 32 12 r_225).1 70 8 = μ.1 70 8 := ((sv_n _ (fun h9 => absurd h9.1 (by decide))).trans ((F_220.1 70 (by decide) 8).trans ((F_210.1 70 (by decide) 8).trans ((FL17.1 70 (by decide) 8).trans (sv_n _ (fun h9 => absurd h9.1 (by decide)))))))
      have e_243 : (sv μ219 32 12 r_225).1 70 8 = μ.1 70 8 := ((sv_n _ (fun h9 => absurd h9.1 (by decide))).trans ((F_220.1 70 (by decide) 8).trans ((F_210.1 70 (by decide) 8).trans ((FL17.1 70 (by decide) 8).trans (sv_n _ (fun h9 => absurd h9.1 (by decide)))))))
      have e_244 : (sv μ219 32 12 r_225).1 45 1 = μ.1 45 1 := ((sv_n _ (fun h9 => absurd h9.1 (by decide))).trans ((F_220.1 45 (by decide) 1).trans ((F_210.1 45 (by decide) 1).trans hi_25)))
      have e_245 : (sv μ219 32 12 r_225).1 70 2 = μ.1 70 2 := ((sv_n _ (fun h9 => absurd h9.1 (by decide))).trans ((F_220.1 70 (by decide) 2).trans ((F_210.1 70 (by decide) 2).trans ((FL17.1 70 (by decide) 2).trans (sv_n _ (fun h9 => absurd h9.1 (by decide)))))))
      have e_246 : (sv μ219 32 12 r_225).1 32 13 = 0 := ((sv_n _ (by decide)).trans ((F_220.1 32 (by decide) 13).trans ((F_210.1 32 (by decide) 13).trans ((FL17.1 32 (by decide) 13).trans (sv_s _ _ _ _)))))
      have e_247 : (sv μ219 32 12 r_225).1 70 3 = μ.1 70 3 := ((sv_n _ (fun h9 => absurd h9.1 (by decide))).trans ((F_220.1 70 (by decide) 3).trans ((F_210.1 70 (by decide) 3).trans ((FL17.1 70 (by decide) 3).trans (sv_n _ (fun h9 => absurd h9.1 (by decide)))))))
      have e_248 : (sv μ219 32 12 r_225).1 70 4 = μ.1 70 4 := ((sv_n _ (fun h9 => absurd h9.1 (by decide))).trans ((F_220.1 70 (by decide) 4).trans ((F_210.1 70 (by decide) 4).trans ((FL17.1 70 (by decide) 4).trans (sv_n _ (fun h9 => absurd h9.1 (by decide)))))))
      have e_249 : (sv μ219 32 12 r_225).1 70 5 = μ.1 70 5 := ((sv_n _ (fun h9 => absurd h9.1 (by decide))).trans ((F_220.1 70 (by decide) 5).trans ((F_210.1 70 (by decide) 5).trans ((FL17.1 70 (by decide) 5).trans (sv_n _ (fun h9 => absurd h9.1 (by decide)))))))
      have e_250 : (sv μ219 32 12 r_225).1 70 7 = μ.1 70 7 := ((sv_n _ (fun h9 => absurd h9.1 (by decide))).trans ((F_220.1 70 (by decide) 7).trans ((F_210.1 70 (by decide) 7).trans ((FL17.1 70 (by decide) 7).trans (sv_n _ (fun h9 => absurd h9.1 (by decide)))))))
      exact xr_v G hret hlk dX4_leaveFunction_75 ⟨(Fr.put (Fr.tr (Fr.tr (Fr.tr (Fr.put Fr.rf (by decide)) FL17 (by decide)) F_210 (by decide)) F_220 (by decide)) (by decide)), hI_236, h0_e, (fun _ _ => by rw [hpc, h606]; exact (hgo (i9 - 1) (by omega) (by omega)).2 (by omega)), (fun h9 => absurd h9 (by omega)), (by omega), (fun j => (Classical.em (j = i9 - 1)).elim (fun hj => Or.inr ⟨by rw [hj]; exact ((sv_n _ (fun h9 => absurd h9.1 (by decide))).trans ((F_220.1 61 (by decide) (i9 - 1)).trans hk5)), by rw [hj]; omega⟩) (fun hj => Or.inl ((sv_n _ (by omega)).trans ((F_220.1 61 (by decide) j).trans ((ha_213 j (by omega)).trans ((FL17.1 61 (by decide) j).trans (sv_n _ (by omega)))))))), (by omega), (by omega), (by omega), (by omega), (by omega), (by omega)⟩

set_option maxHeartbeats 4000000 in
set_option maxRecDepth 100000 in
theorem c_X4_clear (ω : Om) (l : Launch) (μ : M3) (hI : IC μ) : CtV ω l yX4_clear cX4_clear 2 4 145 [.ref (oP ω 32)] μ (fun (μ' : M3) => (Fr [70, 33, 34, 35, 36, 37, 38, 39, 40, 41, 42, 43, 44, 45, 47, 48, 49, 50, 52, 60, 66, 67, 68, 69, 32] μ μ') ∧ (IC μ') ∧ (μ'.1 70 0 = 0 ∧ μ'.1 70 2 = 0 ∧ μ'.1 70 8 = μ.1 70 8) ∧ (μ'.1 33 3 = 0 ∧ μ'.1 45 1 = 0 ∧ μ'.1 45 4 = 0 ∧ μ'.1 52 7 = 0 ∧ μ'.1 60 6 = 0 ∧ μ'.1 32 13 = 0) ∧ (μ'.1 32 10 = μ.1 32 10) ∧ (μ'.1 32 11 = μ.1 32 11) ∧ (μ'.1 32 12 = μ.1 32 12) ∧ (μ'.1 32 14 = μ.1 32 14)) := by
  refine CtV.go (by decide) (Nat.le_of_ble_eq_true rfl) (fun ρ p e s m below meth c R ls G hR hret hlk hl => ?_)
  have hx := G.1.1
  have hb := G.1.2.1
  have hl : lv_has ls 2 [(0, .ref (oP ω 32))] := hl
  generalize s.drawn = d0 at G ⊢
  have hk_1 := hI.row (r := 33) (by unfold isRow; decide)
  unfold rk at hk_1
  simp only [Int.reduceAdd] at hk_1
  have hbr_33 : BR 33 = 240100 := rfl
  have hk_2 := hI.row (r := 37) (by unfold isRow; decide)
  unfold rk at hk_2
  simp only [Int.reduceAdd] at hk_2
  have hbr_37 : BR 37 = 20410 := rfl
  refine lv_iconst (v := iv 0) hx hb dX4_clear_0 rfl ?_
  refine lv_istore_n (lv' := [(1, .int (iv 0)), (0, .ref (oP ω 32))]) hx hb dX4_clear_1 rfl hl (by decide) rfl (fun ls hl => ?_)
  refine xl (fun n_9 μ' ls => ∃ (i9 : Int), (Fr [70] μ μ') ∧ (-2147483648 ≤ i9 ∧ i9 ≤ 2147483647) ∧ (0 ≤ i9) ∧ (i9 ≤ 8) ∧ (∀ j, 0 ≤ j → j < i9 → μ'.1 70 j = 0) ∧ (∀ j, 8 ≤ j → μ'.1 70 j = μ.1 70 j) ∧ (IC μ') ∧ n_9 = Int.toNat (10 - i9) ∧ lv_has ls 2 [(1, .int (iv i9)), (0, .ref (oP ω 32))]) (fun n_9 ρ μL3 d0 H locs ls hI_l G ih => ?_) _ _ _ _ _ _ _ ⟨0, Fr.rf, (by omega), (by omega), (by omega), (fun j h1 h2 => absurd h2 (by omega)), (fun j _ => rfl), hI, rfl, lv_sub hl [0, 1] rfl⟩ G
  obtain ⟨i9, FL4, hi_6, hi_7, hi_8, hi_9, hi_10, hi_11, hn5, hl⟩ := hI_l
  refine lv_iload_n hx hb dX4_clear_2 rfl (lv_at hl 0 rfl) ?_
  refine lv_bipush (v := iv 8) hx hb dX4_clear_3 rfl ?_
  refine xb_icmp_ge (tgt := 21) hx hb (by unfold ir; omega) (by unfold ir; omega) dX4_clear_5 (by decide) (fun c_5 => ?_) (fun c_5 => ?_)
  · refine lv_aload_n hx hb dX4_clear_21 rfl (lv_at hl 1 rfl) ?_
    refine xa_getr G fd_X4 (a := 32) (x := 33) 3 rfl (by decide) rfl (wm 2 147 rfl rfl) ⟨rfl, rfl, rfl⟩ dX4_clear_22 rfl (G.sk 36 rfl) (by decide) rfl ?_
    refine lv_iconst (v := iv 0) hx hb dX4_clear_25 rfl ?_
    refine xc_vV G (b := 33) (rest := []) (As := [.int (iv 0)]) (c_X9_resize ω l μL3 33 0 (by unfold isRow; decide) (by unfold ir; omega) hi_11 (by omega)) (wm 5 55 rfl rfl) (wm 3 15 rfl rfl) (wm 3 16 rfl rfl) rfl rfl (by decide) rfl (wm 1 10 rfl rfl) (wm 3 17 rfl rfl) (by decide) hR (by decide) (n := 1) rfl rfl (Nat.le_of_ble_eq_true rfl) hl.1 dX4_clear_26 (fun μ12 ρ d0 H locs hp G => ?_)
    obtain ⟨F_13, hI_14, hs_15⟩ := hp
    refine lv_aload_n hx hb dX4_clear_29 rfl (lv_at hl 1 rfl) ?_
    refine xa_getr G fd_X4 (a := 32) (x := 37) 4 rfl (by decide) rfl (wm 2 148 rfl rfl) ⟨rfl, rfl, rfl⟩ dX4_clear_30 rfl (G.sk 37 rfl) (by decide) rfl ?_
    refine lv_iconst (v := iv 0) hx hb dX4_clear_33 rfl ?_
    refine xc_vV G (b := 37) (rest := []) (As := [.int (iv 0)]) (c_X9_resize ω l μ12 37 0 (by unfold isRow; decide) (by unfold ir; omega) hI_14 (by omega)) (wm 5 55 rfl rfl) (wm 3 15 rfl rfl) (wm 3 16 rfl rfl) rfl rfl (by decide) rfl (wm 1 10 rfl rfl) (wm 3 17 rfl rfl) (by decide) hR (by decide) (n := 1) rfl rfl (Nat.le_of_ble_eq_true rfl) hl.1 dX4_clear_34 (fun μ16 ρ d0 H locs hp G => ?_)
    obtain ⟨F_17, hI_18, hs_19⟩ := hp
    refine lv_aload_n hx hb dX4_clear_37 rfl (lv_at hl 1 rfl) ?_
    refine xa_getr G fd_X4 (a := 32) (x := 41) 5 rfl (by decide) rfl (wm 2 149 rfl rfl) ⟨rfl, rfl, rfl⟩ dX4_clear_38 rfl (G.sk 38 rfl) (by decide) rfl ?_
    refine lv_iconst (v := iv 0) hx hb dX4_clear_41 rfl ?_
    have hbr_41 : BR 41 = 210 := rfl
    refine xc_vV G (b := 41) (rest := []) (As := [.int (iv 0)]) (c_X9_resize ω l μ16 41 0 (by unfold isRow; decide) (by unfold ir; omega) hI_18 (by omega)) (wm 5 55 rfl rfl) (wm 3 15 rfl rfl) (wm 3 16 rfl rfl) rfl rfl (by decide) rfl (wm 1 10 rfl rfl) (wm 3 17 rfl rfl) (by decide) hR (by decide) (n := 1) rfl rfl (Nat.le_of_ble_eq_true rfl) hl.1 dX4_clear_42 (fun μ20 ρ d0 H locs hp G => ?_)
    obtain ⟨F_21, hI_22, hs_23⟩ := hp
    refine lv_aload_n hx hb dX4_clear_45 rfl (lv_at hl 1 rfl) ?_
    refine xa_getr G fd_X4 (a := 32) (x := 45) 6 rfl (by decide) rfl (wm 2 150 rfl rfl) ⟨rfl, rfl, rfl⟩ dX4_clear_46 rfl (G.sk 39 rfl) (by decide) rfl ?_
    have hn_24 : 0 ≤ μ.1 45 1 ∧ 9 * μ.1 45 1 ≤ μ.2.1 46 := hI.nm.2.2.2.2.2.2.1
    have e_25 : μ20.1 45 1 = μ.1 45 1 := ((F_21.1 45 (by decide) 1).trans ((F_17.1 45 (by decide) 1).trans ((F_13.1 45 (by decide) 1).trans (FL4.1 45 (by decide) 1))))
    have e_26 : μ20.1 45 1 = μ.1 45 1 := ((F_21.1 45 (by decide) 1).trans ((F_17.1 45 (by decide) 1).trans ((F_13.1 45 (by decide) 1).trans (FL4.1 45 (by decide) 1))))
    have hn_27 : 0 ≤ μ.1 45 4 ∧ 2 * μ.1 45 4 ≤ μ.2.1 51 := hI.nm.2.2.2.2.2.2.2.1
    have e_28 : μ20.1 45 4 = μ.1 45 4 := ((F_21.1 45 (by decide) 4).trans ((F_17.1 45 (by decide) 4).trans ((F_13.1 45 (by decide) 4).trans (FL4.1 45 (by decide) 4))))
    have e_29 : μ20.1 45 4 = μ.1 45 4 := ((F_21.1 45 (by decide) 4).trans ((F_17.1 45 (by decide) 4).trans ((F_13.1 45 (by decide) 4).trans (FL4.1 45 (by decide) 4))))
    refine xc_vV G (b := 45) (rest := []) (As := []) (c_X1_clear ω l μ20 (μ.1 45 1) (μ.1 45 4) hI_22 (by omega) (by omega)) (wm 5 56 rfl rfl) (wm 5 57 rfl rfl) (wm 5 58 rfl rfl) rfl rfl (by decide) rfl (wm 1 15 rfl rfl) (wm 5 59 rfl rfl) (by decide) hR (by decide) (n := 0) rfl rfl (Nat.le_of_ble_eq_true rfl) hl.1 dX4_clear_49 (fun μ30 ρ d0 H locs hp G => ?_)
    obtain ⟨F_31, hI_32, hp_33, hp_34⟩ := hp
    have hn_35 : 0 ≤ μ30.1 45 1 ∧ 9 * μ30.1 45 1 ≤ μ30.2.1 46 := hI_32.nm.2.2.2.2.2.2.1
    have hn_36 : 0 ≤ μ30.1 45 4 ∧ 2 * μ30.1 45 4 ≤ μ30.2.1 51 := hI_32.nm.2.2.2.2.2.2.2.1
    refine lv_aload_n hx hb dX4_clear_52 rfl (lv_at hl 1 rfl) ?_
    refine xa_getr G fd_X4 (a := 32) (x := 52) 7 rfl (by decide) rfl (wm 2 151 rfl rfl) ⟨rfl, rfl, rfl⟩ dX4_clear_53 rfl (G.sk 40 rfl) (by decide) rfl ?_
    refine xc_vV G (b := 52) (rest := []) (As := []) (c_X2_clear ω l μ30  hI_32) (wm 5 61 rfl rfl) (wm 5 62 rfl rfl) (wm 5 63 rfl rfl) rfl rfl (by decide) rfl (wm 1 16 rfl rfl) (wm 5 64 rfl rfl) (by decide) hR (by decide) (n := 0) rfl rfl (Nat.le_of_ble_eq_true rfl) hl.1 dX4_clear_56 (fun μ37 ρ d0 H locs hp G => ?_)
    obtain ⟨F_38, hI_39, hp_40⟩ := hp
    have hn_41 : 0 ≤ μ37.1 52 7 ∧ μ37.1 52 7 ≤ 24 := hI_39.nm.2.2.2.2.1
    refine lv_aload_n hx hb dX4_clear_59 rfl (lv_at hl 1 rfl) ?_
    refine xa_getr G fd_X4 (a := 32) (x := 60) 8 rfl (by decide) rfl (wm 2 152 rfl rfl) ⟨rfl, rfl, rfl⟩ dX4_clear_60 rfl (G.sk 41 rfl) (by decide) rfl ?_
    refine xc_vV G (b := 60) (rest := []) (As := []) (c_X3_clear ω l μ37  hI_39) (wm 5 65 rfl rfl) (wm 5 66 rfl rfl) (wm 5 67 rfl rfl) rfl rfl (by decide) rfl (wm 1 17 rfl rfl) (wm 5 68 rfl rfl) (by decide) hR (by decide) (n := 0) rfl rfl (Nat.le_of_ble_eq_true rfl) hl.1 dX4_clear_63 (fun μ42 ρ d0 H locs hp G => ?_)
    obtain ⟨F_43, hI_44, hp_45⟩ := hp
    have hn_46 : 0 ≤ μ42.1 60 6 ∧ μ42.1 60 6 ≤ 400 := hI_44.nm.2.2.2.2.2.1
    refine lv_aload_n hx hb dX4_clear_66 rfl (lv_at hl 1 rfl) ?_
    refine lv_iconst (v := iv 0) hx hb dX4_clear_67 rfl ?_
    refine xa_puti G fd_X4 (a := 32) (x := 0) 13 (kz := 13) rfl rfl (by decide) rfl (by unfold ir; omega) (wm 2 157 rfl rfl) ⟨rfl, rfl, rfl, rfl⟩ rfl dX4_clear_68 rfl (fun H locs G => ?_)
    refine lv_aload_n hx hb dX4_clear_71 rfl (lv_at hl 1 rfl) ?_
    refine lv_iconst (v := iv (-1)) hx hb dX4_clear_72 rfl ?_
    refine xa_puti G fd_X4 (a := 32) (x := (-1)) 15 (kz := 15) rfl rfl (by decide) rfl (by unfold ir; omega) (wm 2 159 rfl rfl) ⟨rfl, rfl, rfl, rfl⟩ rfl dX4_clear_73 rfl (fun H locs G => ?_)
    refine lv_aload_n hx hb dX4_clear_76 rfl (lv_at hl 1 rfl) ?_
    refine lv_lconst (v := jv 0) hx hb dX4_clear_77 rfl ?_
    refine xa_putl G fd_X4 (a := 32) (x := 0) 16 (kz := 16) rfl rfl (by decide) rfl (by unfold jr; omega) (wm 2 160 rfl rfl) ⟨rfl, rfl, rfl, rfl⟩ rfl dX4_clear_78 rfl (fun H locs G => ?_)
    have hI_47 : IC (sv (sv (sv μ42 32 13 0) 32 15 (-1)) 32 16 0) := (IC.put (IC.put (IC.put hI_44 (by decide +kernel)) (by decide +kernel)) (by decide +kernel))
    have e_48 : (sv (sv (sv μ42 32 13 0) 32 15 (-1)) 32 16 0).1 70 0 = 0 := ((sv_n _ (fun h9 => absurd h9.1 (by decide))).trans ((sv_n _ (fun h9 => absurd h9.1 (by decide))).trans ((sv_n _ (fun h9 => absurd h9.1 (by decide))).trans ((F_43.1 70 (by decide) 0).trans ((F_38.1 70 (by decide) 0).trans ((F_31.1 70 (by decide) 0).trans ((F_21.1 70 (by decide) 0).trans ((F_17.1 70 (by decide) 0).trans ((F_13.1 70 (by decide) 0).trans (hi_9 0 (by omega) (by omega)))))))))))
    have e_49 : (sv (sv (sv μ42 32 13 0) 32 15 (-1)) 32 16 0).1 70 2 = 0 := ((sv_n _ (fun h9 => absurd h9.1 (by decide))).trans ((sv_n _ (fun h9 => absurd h9.1 (by decide))).trans ((sv_n _ (fun h9 => absurd h9.1 (by decide))).trans ((F_43.1 70 (by decide) 2).trans ((F_38.1 70 (by decide) 2).trans ((F_31.1 70 (by decide) 2).trans ((F_21.1 70 (by decide) 2).trans ((F_17.1 70 (by decide) 2).trans ((F_13.1 70 (by decide) 2).trans (hi_9 2 (by omega) (by omega)))))))))))
    have e_50 : (sv (sv (sv μ42 32 13 0) 32 15 (-1)) 32 16 0).1 70 8 = μ.1 70 8 := ((sv_n _ (fun h9 => absurd h9.1 (by decide))).trans ((sv_n _ (fun h9 => absurd h9.1 (by decide))).trans ((sv_n _ (fun h9 => absurd h9.1 (by decide))).trans ((F_43.1 70 (by decide) 8).trans ((F_38.1 70 (by decide) 8).trans ((F_31.1 70 (by decide) 8).trans ((F_21.1 70 (by decide) 8).trans ((F_17.1 70 (by decide) 8).trans ((F_13.1 70 (by decide) 8).trans (hi_10 8 (by omega)))))))))))
    have e_51 : (sv (sv (sv μ42 32 13 0) 32 15 (-1)) 32 16 0).1 33 3 = max 0 0 := ((sv_n _ (fun h9 => absurd h9.1 (by decide))).trans ((sv_n _ (fun h9 => absurd h9.1 (by decide))).trans ((sv_n _ (fun h9 => absurd h9.1 (by decide))).trans ((F_43.1 33 (by decide) 3).trans ((F_38.1 33 (by decide) 3).trans ((F_31.1 33 (by decide) 3).trans ((F_21.1 33 (by decide) 3).trans ((F_17.1 33 (by decide) 3).trans hs_15))))))))
    have e_52 : (sv (sv (sv μ42 32 13 0) 32 15 (-1)) 32 16 0).1 45 1 = μ30.1 45 1 := ((sv_n _ (fun h9 => absurd h9.1 (by decide))).trans ((sv_n _ (fun h9 => absurd h9.1 (by decide))).trans ((sv_n _ (fun h9 => absurd h9.1 (by decide))).trans ((F_43.1 45 (by decide) 1).trans (F_38.1 45 (by decide) 1)))))
    have e_53 : (sv (sv (sv μ42 32 13 0) 32 15 (-1)) 32 16 0).1 45 4 = μ30.1 45 4 := ((sv_n _ (fun h9 => absurd h9.1 (by decide))).trans ((sv_n _ (fun h9 => absurd h9.1 (by decide))).trans ((sv_n _ (fun h9 => absurd h9.1 (by decide))).trans ((F_43.1 45 (by decide) 4).trans (F_38.1 45 (by decide) 4)))))
    have e_54 : (sv (sv (sv μ42 32 13 0) 32 15 (-1)) 32 16 0).1 52 7 = μ37.1 52 7 := ((sv_n _ (fun h9 => absurd h9.1 (by decide))).trans ((sv_n _ (fun h9 => absurd h9.1 (by decide))).trans ((sv_n _ (fun h9 => absurd h9.1 (by decide))).trans (F_43.1 52 (by decide) 7))))
    have e_55 : (sv (sv (sv μ42 32 13 0) 32 15 (-1)) 32 16 0).1 60 6 = μ42.1 60 6 := ((sv_n _ (fun h9 => absurd h9.1 (by decide))).trans ((sv_n _ (fun h9 => absurd h9.1 (by decide))).trans (sv_n _ (fun h9 => absurd h9.1 (by decide)))))
    have e_56 : (sv (sv (sv μ42 32 13 0) 32 15 (-1)) 32 16 0).1 32 13 = 0 := ((sv_n _ (by decide)).trans ((sv_n _ (by decide)).trans (sv_s _ _ _ _)))
    have e_57 : (sv (sv (sv μ42 32 13 0) 32 15 (-1)) 32 16 0).1 32 10 = μ.1 32 10 := ((sv_n _ (by decide)).trans ((sv_n _ (by decide)).trans ((sv_n _ (by decide)).trans ((F_43.1 32 (by decide) 10).trans ((F_38.1 32 (by decide) 10).trans ((F_31.1 32 (by decide) 10).trans ((F_21.1 32 (by decide) 10).trans ((F_17.1 32 (by decide) 10).trans ((F_13.1 32 (by decide) 10).trans (FL4.1 32 (by decide) 10))))))))))
    have e_58 : (sv (sv (sv μ42 32 13 0) 32 15 (-1)) 32 16 0).1 32 11 = μ.1 32 11 := ((sv_n _ (by decide)).trans ((sv_n _ (by decide)).trans ((sv_n _ (by decide)).trans ((F_43.1 32 (by decide) 11).trans ((F_38.1 32 (by decide) 11).trans ((F_31.1 32 (by decide) 11).trans ((F_21.1 32 (by decide) 11).trans ((F_17.1 32 (by decide) 11).trans ((F_13.1 32 (by decide) 11).trans (FL4.1 32 (by decide) 11))))))))))
    have e_59 : (sv (sv (sv μ42 32 13 0) 32 15 (-1)) 32 16 0).1 32 12 = μ.1 32 12 := ((sv_n _ (by decide)).trans ((sv_n _ (by decide)).trans ((sv_n _ (by decide)).trans ((F_43.1 32 (by decide) 12).trans ((F_38.1 32 (by decide) 12).trans ((F_31.1 32 (by decide) 12).trans ((F_21.1 32 (by decide) 12).trans ((F_17.1 32 (by decide) 12).trans ((F_13.1 32 (by decide) 12).trans (FL4.1 32 (by decide) 12))))))))))
    have e_60 : (sv (sv (sv μ42 32 13 0) 32 15 (-1)) 32 16 0).1 32 14 = μ.1 32 14 := ((sv_n _ (by decide)).trans ((sv_n _ (by decide)).trans ((sv_n _ (by decide)).trans ((F_43.1 32 (by decide) 14).trans ((F_38.1 32 (by decide) 14).trans ((F_31.1 32 (by decide) 14).trans ((F_21.1 32 (by decide) 14).trans ((F_17.1 32 (by decide) 14).trans ((F_13.1 32 (by decide) 14).trans (FL4.1 32 (by decide) 14))))))))))
    exact xr_v G hret hlk dX4_clear_81 ⟨(Fr.put (Fr.put (Fr.put (Fr.tr (Fr.tr (Fr.tr (Fr.tr (Fr.tr (Fr.tr (Fr.tr Fr.rf FL4 (by decide)) F_13 (by decide)) F_17 (by decide)) F_21 (by decide)) F_31 (by decide)) F_38 (by decide)) F_43 (by decide)) (by decide)) (by decide)) (by decide)), hI_47, (by omega), (by omega), (by omega), (by omega), (by omega), (by omega)⟩
  · refine lv_aload_n hx hb dX4_clear_8 rfl (lv_at hl 1 rfl) ?_
    refine xa_getr G fd_X4 (a := 32) (x := 70) 9 rfl (by decide) rfl (wm 2 153 rfl rfl) ⟨rfl, rfl, rfl⟩ dX4_clear_9 rfl (G.sk 42 rfl) (by decide) rfl ?_
    refine lv_iload_n hx hb dX4_clear_12 rfl (lv_at hl 0 rfl) ?_
    refine lv_iconst (v := iv 0) hx hb dX4_clear_13 rfl ?_
    refine xa_iast G (a := 70) (i := i9) (x := 0) rfl (by have h9 := G.lc (a := 70) (n := 10) 33 rfl; omega) (by unfold ir; omega) dX4_clear_14 rfl (fun H locs G => ?_)
    refine lv_iinc (v := iv (i9 + 1)) (lv' := [(1, .int (iv (i9 + 1))), (0, .ref (oP ω 32))]) hx hb dX4_clear_15 hl (k := 0) rfl (by rw [show Int32.ofInt 1 = iv 1 from rfl, iv_add]) (by decide) rfl (fun ls hl => ?_)
    refine lv_goto (tgt := 2) hx hb dX4_clear_18 (by decide) ?_
    have hI_61 : IC (sv μL3 70 i9 0) := (IC.pua hi_11 (by decide))
    exact ih _ _ _ _ _ _ _ (by omega) ⟨i9 + 1, (Fr.put FL4 (by decide)), (by omega), (by omega), (by omega), (fun j h1 h2 => (Classical.em (j = i9)).elim (fun h => by rw [h]; exact sv_s _ _ _ _) (fun h => (sv_n _ (by omega)).trans (hi_9 j h1 (by omega)))), (fun j h1 => (sv_n _ (by omega)).trans (hi_10 j h1)), hI_61, rfl, lv_sub hl [0, 1] rfl⟩ G
