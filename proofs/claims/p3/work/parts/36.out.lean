abbrev cX4_outOfFunction : ByteArray := prog_6_method_28_code
def yX4_outOfFunction : MethodName := ⟨RX4, "outOfFunction", "(I)V"⟩
abbrev cX4_giveAnswer : ByteArray := prog_6_method_33_code
def yX4_giveAnswer : MethodName := ⟨RX4, "giveAnswer", "()V"⟩
theorem dX4_outOfFunction_0 : decode cX4_outOfFunction 0 = .ok (.aload_n 0, 1) := by decide +kernel
theorem dX4_outOfFunction_1 : decode cX4_outOfFunction 1 = .ok (.getfield 36, 3) := by decide +kernel
theorem dX4_outOfFunction_4 : decode cX4_outOfFunction 4 = .ok (.invokevirtual 339, 3) := by decide +kernel
theorem dX4_outOfFunction_7 : decode cX4_outOfFunction 7 = .ok (.iconst 1, 1) := by decide +kernel
theorem dX4_outOfFunction_8 : decode cX4_outOfFunction 8 = .ok (.if_icmp .gt 14, 3) := by decide +kernel
theorem dX4_outOfFunction_11 : decode cX4_outOfFunction 11 = .ok (.aload_n 0, 1) := by decide +kernel
theorem dX4_outOfFunction_12 : decode cX4_outOfFunction 12 = .ok (.iload_n 1, 1) := by decide +kernel
theorem dX4_outOfFunction_13 : decode cX4_outOfFunction 13 = .ok (.putfield 64, 3) := by decide +kernel
theorem dX4_outOfFunction_16 : decode cX4_outOfFunction 16 = .ok (.aload_n 0, 1) := by decide +kernel
theorem dX4_outOfFunction_17 : decode cX4_outOfFunction 17 = .ok (.iconst 1, 1) := by decide +kernel
theorem dX4_outOfFunction_18 : decode cX4_outOfFunction 18 = .ok (.invokevirtual 158, 3) := by decide +kernel
theorem dX4_outOfFunction_21 : decode cX4_outOfFunction 21 = .ok (.return_, 1) := by decide +kernel
theorem dX4_outOfFunction_22 : decode cX4_outOfFunction 22 = .ok (.aload_n 0, 1) := by decide +kernel
theorem dX4_outOfFunction_23 : decode cX4_outOfFunction 23 = .ok (.getfield 36, 3) := by decide +kernel
theorem dX4_outOfFunction_26 : decode cX4_outOfFunction 26 = .ok (.invokevirtual 268, 3) := by decide +kernel
theorem dX4_outOfFunction_29 : decode cX4_outOfFunction 29 = .ok (.istore_n 2, 1) := by decide +kernel
theorem dX4_outOfFunction_30 : decode cX4_outOfFunction 30 = .ok (.aload_n 0, 1) := by decide +kernel
theorem dX4_outOfFunction_31 : decode cX4_outOfFunction 31 = .ok (.getfield 14, 3) := by decide +kernel
theorem dX4_outOfFunction_34 : decode cX4_outOfFunction 34 = .ok (.aload_n 0, 1) := by decide +kernel
theorem dX4_outOfFunction_35 : decode cX4_outOfFunction 35 = .ok (.getfield 36, 3) := by decide +kernel
theorem dX4_outOfFunction_38 : decode cX4_outOfFunction 38 = .ok (.invokevirtual 340, 3) := by decide +kernel
theorem dX4_outOfFunction_41 : decode cX4_outOfFunction 41 = .ok (.invokevirtual 151, 3) := by decide +kernel
theorem dX4_outOfFunction_44 : decode cX4_outOfFunction 44 = .ok (.aload_n 0, 1) := by decide +kernel
theorem dX4_outOfFunction_45 : decode cX4_outOfFunction 45 = .ok (.invokevirtual 341, 3) := by decide +kernel
theorem dX4_outOfFunction_48 : decode cX4_outOfFunction 48 = .ok (.iload_n 2, 1) := by decide +kernel
theorem dX4_outOfFunction_49 : decode cX4_outOfFunction 49 = .ok (.aload_n 0, 1) := by decide +kernel
theorem dX4_outOfFunction_50 : decode cX4_outOfFunction 50 = .ok (.getfield 36, 3) := by decide +kernel
theorem dX4_outOfFunction_53 : decode cX4_outOfFunction 53 = .ok (.invokevirtual 268, 3) := by decide +kernel
theorem dX4_outOfFunction_56 : decode cX4_outOfFunction 56 = .ok (.if_icmp .eq 11, 3) := by decide +kernel
theorem dX4_outOfFunction_59 : decode cX4_outOfFunction 59 = .ok (.aload_n 0, 1) := by decide +kernel
theorem dX4_outOfFunction_60 : decode cX4_outOfFunction 60 = .ok (.iload_n 1, 1) := by decide +kernel
theorem dX4_outOfFunction_61 : decode cX4_outOfFunction 61 = .ok (.invokevirtual 344, 3) := by decide +kernel
theorem dX4_outOfFunction_64 : decode cX4_outOfFunction 64 = .ok (.goto 22, 3) := by decide +kernel
theorem dX4_outOfFunction_67 : decode cX4_outOfFunction 67 = .ok (.aload_n 0, 1) := by decide +kernel
theorem dX4_outOfFunction_68 : decode cX4_outOfFunction 68 = .ok (.iload_n 1, 1) := by decide +kernel
theorem dX4_outOfFunction_69 : decode cX4_outOfFunction 69 = .ok (.putfield 61, 3) := by decide +kernel
theorem dX4_outOfFunction_72 : decode cX4_outOfFunction 72 = .ok (.aload_n 0, 1) := by decide +kernel
theorem dX4_outOfFunction_73 : decode cX4_outOfFunction 73 = .ok (.iload_n 2, 1) := by decide +kernel
theorem dX4_outOfFunction_74 : decode cX4_outOfFunction 74 = .ok (.iconst 1, 1) := by decide +kernel
theorem dX4_outOfFunction_75 : decode cX4_outOfFunction 75 = .ok (.if_icmp .ne 7, 3) := by decide +kernel
theorem dX4_outOfFunction_78 : decode cX4_outOfFunction 78 = .ok (.iconst 2, 1) := by decide +kernel
theorem dX4_outOfFunction_79 : decode cX4_outOfFunction 79 = .ok (.goto 4, 3) := by decide +kernel
theorem dX4_outOfFunction_82 : decode cX4_outOfFunction 82 = .ok (.iconst 1, 1) := by decide +kernel
theorem dX4_outOfFunction_83 : decode cX4_outOfFunction 83 = .ok (.putfield 58, 3) := by decide +kernel
theorem dX4_outOfFunction_86 : decode cX4_outOfFunction 86 = .ok (.return_, 1) := by decide +kernel
theorem dX4_giveAnswer_0 : decode cX4_giveAnswer 0 = .ok (.aload_n 0, 1) := by decide +kernel
theorem dX4_giveAnswer_1 : decode cX4_giveAnswer 1 = .ok (.getfield 36, 3) := by decide +kernel
theorem dX4_giveAnswer_4 : decode cX4_giveAnswer 4 = .ok (.invokevirtual 268, 3) := by decide +kernel
theorem dX4_giveAnswer_7 : decode cX4_giveAnswer 7 = .ok (.istore_n 1, 1) := by decide +kernel
theorem dX4_giveAnswer_8 : decode cX4_giveAnswer 8 = .ok (.aload_n 0, 1) := by decide +kernel
theorem dX4_giveAnswer_9 : decode cX4_giveAnswer 9 = .ok (.getfield 36, 3) := by decide +kernel
theorem dX4_giveAnswer_12 : decode cX4_giveAnswer 12 = .ok (.invokevirtual 340, 3) := by decide +kernel
theorem dX4_giveAnswer_15 : decode cX4_giveAnswer 15 = .ok (.istore_n 2, 1) := by decide +kernel
theorem dX4_giveAnswer_16 : decode cX4_giveAnswer 16 = .ok (.aload_n 0, 1) := by decide +kernel
theorem dX4_giveAnswer_17 : decode cX4_giveAnswer 17 = .ok (.getfield 14, 3) := by decide +kernel
theorem dX4_giveAnswer_20 : decode cX4_giveAnswer 20 = .ok (.iload_n 2, 1) := by decide +kernel
theorem dX4_giveAnswer_21 : decode cX4_giveAnswer 21 = .ok (.aload_n 0, 1) := by decide +kernel
theorem dX4_giveAnswer_22 : decode cX4_giveAnswer 22 = .ok (.getfield 14, 3) := by decide +kernel
theorem dX4_giveAnswer_25 : decode cX4_giveAnswer 25 = .ok (.aload_n 0, 1) := by decide +kernel
theorem dX4_giveAnswer_26 : decode cX4_giveAnswer 26 = .ok (.invokevirtual 255, 3) := by decide +kernel
theorem dX4_giveAnswer_29 : decode cX4_giveAnswer 29 = .ok (.invokevirtual 258, 3) := by decide +kernel
theorem dX4_giveAnswer_32 : decode cX4_giveAnswer 32 = .ok (.aload_n 0, 1) := by decide +kernel
theorem dX4_giveAnswer_33 : decode cX4_giveAnswer 33 = .ok (.getfield 14, 3) := by decide +kernel
theorem dX4_giveAnswer_36 : decode cX4_giveAnswer 36 = .ok (.iload_n 2, 1) := by decide +kernel
theorem dX4_giveAnswer_37 : decode cX4_giveAnswer 37 = .ok (.iconst 1, 1) := by decide +kernel
theorem dX4_giveAnswer_38 : decode cX4_giveAnswer 38 = .ok (.iadd, 1) := by decide +kernel
theorem dX4_giveAnswer_39 : decode cX4_giveAnswer 39 = .ok (.invokevirtual 151, 3) := by decide +kernel
theorem dX4_giveAnswer_42 : decode cX4_giveAnswer 42 = .ok (.aload_n 0, 1) := by decide +kernel
theorem dX4_giveAnswer_43 : decode cX4_giveAnswer 43 = .ok (.invokevirtual 341, 3) := by decide +kernel
theorem dX4_giveAnswer_46 : decode cX4_giveAnswer 46 = .ok (.iload_n 1, 1) := by decide +kernel
theorem dX4_giveAnswer_47 : decode cX4_giveAnswer 47 = .ok (.aload_n 0, 1) := by decide +kernel
theorem dX4_giveAnswer_48 : decode cX4_giveAnswer 48 = .ok (.getfield 36, 3) := by decide +kernel
theorem dX4_giveAnswer_51 : decode cX4_giveAnswer 51 = .ok (.invokevirtual 268, 3) := by decide +kernel
theorem dX4_giveAnswer_54 : decode cX4_giveAnswer 54 = .ok (.if_icmp .ne 4, 3) := by decide +kernel
theorem dX4_giveAnswer_57 : decode cX4_giveAnswer 57 = .ok (.return_, 1) := by decide +kernel
theorem dX4_giveAnswer_58 : decode cX4_giveAnswer 58 = .ok (.aload_n 0, 1) := by decide +kernel
theorem dX4_giveAnswer_59 : decode cX4_giveAnswer 59 = .ok (.getfield 14, 3) := by decide +kernel
theorem dX4_giveAnswer_62 : decode cX4_giveAnswer 62 = .ok (.invokevirtual 265, 3) := by decide +kernel
theorem dX4_giveAnswer_65 : decode cX4_giveAnswer 65 = .ok (.iconst 4, 1) := by decide +kernel
theorem dX4_giveAnswer_66 : decode cX4_giveAnswer 66 = .ok (.if_icmp .ne 32, 3) := by decide +kernel
theorem dX4_giveAnswer_69 : decode cX4_giveAnswer 69 = .ok (.aload_n 0, 1) := by decide +kernel
theorem dX4_giveAnswer_70 : decode cX4_giveAnswer 70 = .ok (.getfield 14, 3) := by decide +kernel
theorem dX4_giveAnswer_73 : decode cX4_giveAnswer 73 = .ok (.aload_n 0, 1) := by decide +kernel
theorem dX4_giveAnswer_74 : decode cX4_giveAnswer 74 = .ok (.invokevirtual 255, 3) := by decide +kernel
theorem dX4_giveAnswer_77 : decode cX4_giveAnswer 77 = .ok (.invokevirtual 101, 3) := by decide +kernel
theorem dX4_giveAnswer_80 : decode cX4_giveAnswer 80 = .ok (.l2i, 1) := by decide +kernel
theorem dX4_giveAnswer_81 : decode cX4_giveAnswer 81 = .ok (.istore_n 3, 1) := by decide +kernel
theorem dX4_giveAnswer_82 : decode cX4_giveAnswer 82 = .ok (.aload_n 0, 1) := by decide +kernel
theorem dX4_giveAnswer_83 : decode cX4_giveAnswer 83 = .ok (.getfield 14, 3) := by decide +kernel
theorem dX4_giveAnswer_86 : decode cX4_giveAnswer 86 = .ok (.iconst 1, 1) := by decide +kernel
theorem dX4_giveAnswer_87 : decode cX4_giveAnswer 87 = .ok (.invokevirtual 262, 3) := by decide +kernel
theorem dX4_giveAnswer_90 : decode cX4_giveAnswer 90 = .ok (.aload_n 0, 1) := by decide +kernel
theorem dX4_giveAnswer_91 : decode cX4_giveAnswer 91 = .ok (.iload_n 3, 1) := by decide +kernel
theorem dX4_giveAnswer_92 : decode cX4_giveAnswer 92 = .ok (.invokevirtual 344, 3) := by decide +kernel
theorem dX4_giveAnswer_95 : decode cX4_giveAnswer 95 = .ok (.goto 36, 3) := by decide +kernel
theorem dX4_giveAnswer_98 : decode cX4_giveAnswer 98 = .ok (.aload_n 0, 1) := by decide +kernel
theorem dX4_giveAnswer_99 : decode cX4_giveAnswer 99 = .ok (.getfield 79, 3) := by decide +kernel
theorem dX4_giveAnswer_102 : decode cX4_giveAnswer 102 = .ok (.aload_n 0, 1) := by decide +kernel
theorem dX4_giveAnswer_103 : decode cX4_giveAnswer 103 = .ok (.getfield 14, 3) := by decide +kernel
theorem dX4_giveAnswer_106 : decode cX4_giveAnswer 106 = .ok (.aload_n 0, 1) := by decide +kernel
theorem dX4_giveAnswer_107 : decode cX4_giveAnswer 107 = .ok (.invokevirtual 255, 3) := by decide +kernel
theorem dX4_giveAnswer_110 : decode cX4_giveAnswer 110 = .ok (.iload_n 1, 1) := by decide +kernel
theorem dX4_giveAnswer_111 : decode cX4_giveAnswer 111 = .ok (.aload_n 0, 1) := by decide +kernel
theorem dX4_giveAnswer_112 : decode cX4_giveAnswer 112 = .ok (.getfield 36, 3) := by decide +kernel
theorem dX4_giveAnswer_115 : decode cX4_giveAnswer 115 = .ok (.invokevirtual 268, 3) := by decide +kernel
theorem dX4_giveAnswer_118 : decode cX4_giveAnswer 118 = .ok (.invokevirtual 361, 3) := by decide +kernel
theorem dX4_giveAnswer_121 : decode cX4_giveAnswer 121 = .ok (.ifCond .ne 10, 3) := by decide +kernel
theorem dX4_giveAnswer_124 : decode cX4_giveAnswer 124 = .ok (.aload_n 0, 1) := by decide +kernel
theorem dX4_giveAnswer_125 : decode cX4_giveAnswer 125 = .ok (.bipush 9, 2) := by decide +kernel
theorem dX4_giveAnswer_127 : decode cX4_giveAnswer 127 = .ok (.iconst 1, 1) := by decide +kernel
theorem dX4_giveAnswer_128 : decode cX4_giveAnswer 128 = .ok (.invokevirtual 287, 3) := by decide +kernel
theorem dX4_giveAnswer_131 : decode cX4_giveAnswer 131 = .ok (.return_, 1) := by decide +kernel
set_option maxHeartbeats 4000000 in
set_option maxRecDepth 100000 in
theorem c_X4_outOfFunction (ω : Om) (l : Launch) (μ : M3) (x1 : Int) (S : Int) (n : Int) (hx1 : ir x1) (hI : IC μ) (hS : S = μ.1 33 3) (hn : n = μ.1 52 7) (hst : 0 ≤ μ.1 70 2 ∧ μ.1 70 2 ≤ 5000 ∧ 0 ≤ μ.1 70 8 ∧ μ.1 70 8 ≤ 80000 ∧ μ.1 45 1 ≤ μ.1 70 2) (h0s : μ.1 32 13 = 0) (h1n : 1 ≤ n) (hb2 : n ≤ 1 ∨ (0 ≤ μ.1 53 (n - 2) ∧ μ.1 53 (n - 2) ≤ 3 ∧ 0 ≤ μ.1 58 (n - 1) ∧ μ.1 58 (n - 1) ≤ 100000000 ∧ μ.1 57 (n - 1) ≤ 239000)) : CtV ω l yX4_outOfFunction cX4_outOfFunction 3 6 199 [.ref (oP ω 32), .int (iv x1)] μ (fun (μ' : M3) => (Fr [33, 34, 35, 36, 32, 52, 70, 45, 46, 47, 48, 49, 50] μ μ') ∧ (IC μ') ∧ ((n ≤ 1 ∧ μ'.1 32 13 = 4 ∧ μ'.1 52 7 = n) ∨ (2 ≤ n ∧ μ'.1 52 7 = n - 1 ∧ μ'.1 32 12 = μ.1 58 (n - 1) + 1 ∧ ((μ'.1 33 3 = max (μ.1 57 (n - 1)) 0 + 1 ∧ μ'.1 32 13 = 0) ∨ (μ'.1 33 3 = max (μ.1 57 (n - 1)) 0 ∧ (μ'.1 32 13 = 1 ∨ μ'.1 32 13 = 2 ∨ μ'.1 32 13 = 4))))) ∧ (2 ≤ n → μ'.1 32 10 = μ.1 12 (μ.1 53 (n - 2))) ∧ (μ.1 70 2 ≤ μ'.1 70 2 ∧ μ'.1 70 2 ≤ 5000 ∧ 0 ≤ μ'.1 70 8 ∧ μ'.1 70 8 ≤ 80000 ∧ μ'.1 45 1 ≤ μ'.1 70 2) ∧ (μ'.1 32 13 ≠ 2 ∨ μ.1 53 (n - 2) = 1) ∧ (μ'.1 32 16 = μ.1 32 16) ∧ (μ'.1 70 1 = μ.1 70 1) ∧ (μ'.1 70 3 = μ.1 70 3) ∧ (μ'.1 70 4 = μ.1 70 4) ∧ (μ'.1 70 5 = μ.1 70 5) ∧ (μ'.1 70 7 = μ.1 70 7) ∧ (μ'.1 45 4 = μ.1 45 4)) := by
  refine CtV.go (by decide) (Nat.le_of_ble_eq_true rfl) (fun ρ p e s m below meth c R ls G hR hret hlk hl => ?_)
  have hx := G.1.1
  have hb := G.1.2.1
  have hl : lv_has ls 3 [(0, .ref (oP ω 32)), (1, .int (iv x1))] := hl
  generalize s.drawn = d0 at G ⊢
  have hr_x1 : -2147483648 ≤ x1 ∧ x1 ≤ 2147483647 := hx1
  have hk_1 := hI.row (r := 33) (by unfold isRow; decide)
  unfold rk at hk_1
  simp only [Int.reduceAdd] at hk_1
  have hbr_33 : BR 33 = 240100 := rfl
  have hn_2 : 0 ≤ μ.1 52 7 ∧ μ.1 52 7 ≤ 24 := hI.nm.2.2.2.2.1
  have hk_3 := hI.row (r := 37) (by unfold isRow; decide)
  unfold rk at hk_3
  simp only [Int.reduceAdd] at hk_3
  have hbr_37 : BR 37 = 20410 := rfl
  have hSr0 : Sr μ := G.sr0
  have hof57 := ofF_at (μ := μ) (b := 57) hn.symm (by omega)
  refine lv_aload_n hx hb dX4_outOfFunction_0 rfl (lv_at hl 0 rfl) ?_
  refine xa_getr G fd_X4 (a := 32) (x := 52) 7 rfl (by decide) rfl (wm 2 151 rfl rfl) ⟨rfl, rfl, rfl⟩ dX4_outOfFunction_1 rfl (G.sk 40 rfl) (by decide) rfl ?_
  have e_4 : μ.1 52 7 = n := hn.symm
  refine xc_iV G (b := 52) (rest := []) (As := []) (c_X2_count ω l μ  hI) (wm 5 101 rfl rfl) (wm 5 102 rfl rfl) (wm 5 103 rfl rfl) rfl rfl (by decide) rfl (wm 1 16 rfl rfl) (wm 5 104 rfl rfl) (by decide) hR (by decide) (n := 0) rfl rfl (Nat.le_of_ble_eq_true rfl) hl.1 dX4_outOfFunction_4 (fun r_6 μ5 ρ d0 H locs hr_r_6 hp G => ?_)
  have hr_r_6 : -2147483648 ≤ r_6 ∧ r_6 ≤ 2147483647 := hr_r_6
  obtain ⟨hsm_7, hp_8⟩ := hp
  have hsm_7 := Eq.symm hsm_7
  subst hsm_7
  refine lv_iconst (v := iv 1) hx hb dX4_outOfFunction_7 rfl ?_
  refine xb_icmp_gt (tgt := 22) hx hb (by unfold ir; omega) (by unfold ir; omega) dX4_outOfFunction_8 (by decide) (fun c_8 => ?_) (fun c_8 => ?_)
  · refine lv_aload_n hx hb dX4_outOfFunction_22 rfl (lv_at hl 0 rfl) ?_
    refine xa_getr G fd_X4 (a := 32) (x := 52) 7 rfl (by decide) rfl (wm 2 151 rfl rfl) ⟨rfl, rfl, rfl⟩ dX4_outOfFunction_23 rfl (G.sk 40 rfl) (by decide) rfl ?_
    refine xc_iV G (b := 52) (rest := []) (As := []) (c_X2_tongue ω l μ  hI) (wm 5 218 rfl rfl) (wm 5 219 rfl rfl) (wm 5 220 rfl rfl) rfl rfl (by decide) rfl (wm 1 16 rfl rfl) (wm 5 221 rfl rfl) (by decide) hR (by decide) (n := 0) rfl rfl (Nat.le_of_ble_eq_true rfl) hl.1 dX4_outOfFunction_26 (fun r_10 μ9 ρ d0 H locs hr_r_10 hp G => ?_)
    have hr_r_10 : -2147483648 ≤ r_10 ∧ r_10 ≤ 2147483647 := hr_r_10
    obtain ⟨hsm_11, hp_12⟩ := hp
    have hsm_11 := Eq.symm hsm_11
    subst hsm_11
    refine lv_istore_n (lv' := [(2, .int (iv r_10)), (0, .ref (oP ω 32)), (1, .int (iv x1))]) hx hb dX4_outOfFunction_29 rfl hl (by decide) rfl (fun ls hl => ?_)
    refine lv_aload_n hx hb dX4_outOfFunction_30 rfl (lv_at hl 1 rfl) ?_
    refine xa_getr G fd_X4 (a := 32) (x := 33) 3 rfl (by decide) rfl (wm 2 147 rfl rfl) ⟨rfl, rfl, rfl⟩ dX4_outOfFunction_31 rfl (G.sk 36 rfl) (by decide) rfl ?_
    refine lv_aload_n hx hb dX4_outOfFunction_34 rfl (lv_at hl 1 rfl) ?_
    refine xa_getr G fd_X4 (a := 32) (x := 52) 7 rfl (by decide) rfl (wm 2 151 rfl rfl) ⟨rfl, rfl, rfl⟩ dX4_outOfFunction_35 rfl (G.sk 40 rfl) (by decide) rfl ?_
    refine xc_iV G (b := 52) (rest := [.ref (oP ω 33)]) (As := []) (c_X2_top ω l μ  hI) (wm 5 222 rfl rfl) (wm 5 223 rfl rfl) (wm 5 224 rfl rfl) rfl rfl (by decide) rfl (wm 1 16 rfl rfl) (wm 5 225 rfl rfl) (by decide) hR (by decide) (n := 0) rfl rfl (Nat.le_of_ble_eq_true rfl) hl.1 dX4_outOfFunction_38 (fun r_14 μ13 ρ d0 H locs hr_r_14 hp G => ?_)
    have hr_r_14 : -2147483648 ≤ r_14 ∧ r_14 ≤ 2147483647 := hr_r_14
    obtain ⟨hsm_15, hp_16⟩ := hp
    have hsm_15 := Eq.symm hsm_15
    subst hsm_15
    refine xc_vV G (b := 33) (rest := []) (As := [.int (iv r_14)]) (c_X9_resize ω l μ 33 r_14 (by unfold isRow; decide) (by unfold ir; omega) hI (by omega)) (wm 5 55 rfl rfl) (wm 3 15 rfl rfl) (wm 3 16 rfl rfl) rfl rfl (by decide) rfl (wm 1 10 rfl rfl) (wm 3 17 rfl rfl) (by decide) hR (by decide) (n := 1) rfl rfl (Nat.le_of_ble_eq_true rfl) hl.1 dX4_outOfFunction_41 (fun μ17 ρ d0 H locs hp G => ?_)
    obtain ⟨F_18, hI_19, hs_20⟩ := hp
    refine lv_aload_n hx hb dX4_outOfFunction_44 rfl (lv_at hl 1 rfl) ?_
    have e_21 : μ17.1 33 3 = max r_14 0 := hs_20
    have e_22 : μ17.1 52 7 = n := ((F_18.1 52 (by decide) 7).trans hn.symm)
    have e_23 : μ17.1 53 (n - 2) = μ.1 53 (n - 2) := (F_18.1 53 (by decide) (n - 2))
    have e_24 : μ17.1 53 (n - 2) = μ.1 53 (n - 2) := (F_18.1 53 (by decide) (n - 2))
    have e_25 : μ17.1 58 (n - 1) = μ.1 58 (n - 1) := (F_18.1 58 (by decide) (n - 1))
    have e_26 : μ17.1 58 (n - 1) = μ.1 58 (n - 1) := (F_18.1 58 (by decide) (n - 1))
    have e_27 : μ17.1 58 (n - 1) = μ.1 58 (n - 1) := (F_18.1 58 (by decide) (n - 1))
    have e_28 : μ17.1 58 (n - 1) = μ.1 58 (n - 1) := (F_18.1 58 (by decide) (n - 1))
    have e_29 : μ17.1 53 (n - 2) = μ.1 53 (n - 2) := (F_18.1 53 (by decide) (n - 2))
    have e_30 : μ17.1 32 13 = μ.1 32 13 := (F_18.1 32 (by decide) 13)
    have e_31 : μ17.1 32 14 = μ.1 32 14 := (F_18.1 32 (by decide) 14)
    have e_32 : μ17.1 32 15 = μ.1 32 15 := (F_18.1 32 (by decide) 15)
    have e_33 : μ17.1 32 16 = μ.1 32 16 := (F_18.1 32 (by decide) 16)
    refine xc_vV G (b := 32) (rest := []) (As := []) (c_X4_backToCaller ω l μ17 (max r_14 0) n hI_19 (by omega) (by omega) (by omega) (by omega) (by omega)) (wm 5 226 rfl rfl) (wm 5 228 rfl rfl) (wm 0 73 rfl rfl) rfl rfl (by decide) rfl (wm 1 14 rfl rfl) (wm 5 229 rfl rfl) (by decide) hR (by decide) (n := 0) rfl rfl (Nat.le_of_ble_eq_true rfl) hl.1 dX4_outOfFunction_45 (fun μ34 ρ d0 H locs hp G => ?_)
    obtain ⟨F_35, hI_36, hs_37, hp_38, hp_39, hs_40, hs_41, hs_42, hs_43⟩ := hp
    have hB_44 : μ34.1 32 10 = μ.1 12 (μ.1 53 (n - 2)) := by rw [hp_39, show μ17.1 53 (n - 2) = μ.1 53 (n - 2) from (F_18.1 53 (by decide) (n - 2))]; exact (F_18.1 12 (by decide) (μ.1 53 (n - 2)))
    have hB2_45_a := ofF_at (μ := μ34) (b := 53) (k := n - 1) (by have h9 : μ34.1 52 7 = n - 1 := hs_37; omega) (by omega)
    have hB2_45 : ofF μ34 53 = μ.1 53 (n - 2) := by have h9 : μ34.1 53 (n - 2) = μ.1 53 (n - 2) := ((F_35.1 53 (by decide) (n - 2)).trans (F_18.1 53 (by decide) (n - 2))); have h8 : n - 1 - 1 = n - 2 := (by omega); rw [h8] at hB2_45_a; omega
    refine lv_iload_n hx hb dX4_outOfFunction_48 rfl (lv_at hl 0 rfl) ?_
    refine lv_aload_n hx hb dX4_outOfFunction_49 rfl (lv_at hl 1 rfl) ?_
    refine xa_getr G fd_X4 (a := 32) (x := 52) 7 rfl (by decide) rfl (wm 2 151 rfl rfl) ⟨rfl, rfl, rfl⟩ dX4_outOfFunction_50 rfl (G.sk 40 rfl) (by decide) rfl ?_
    refine xc_iV G (b := 52) (rest := [.int (iv r_10)]) (As := []) (c_X2_tongue ω l μ34  hI_36) (wm 5 218 rfl rfl) (wm 5 219 rfl rfl) (wm 5 220 rfl rfl) rfl rfl (by decide) rfl (wm 1 16 rfl rfl) (wm 5 221 rfl rfl) (by decide) hR (by decide) (n := 0) rfl rfl (Nat.le_of_ble_eq_true rfl) hl.1 dX4_outOfFunction_53 (fun r_47 μ46 ρ d0 H locs hr_r_47 hp G => ?_)
    have hr_r_47 : -2147483648 ≤ r_47 ∧ r_47 ≤ 2147483647 := hr_r_47
    obtain ⟨hsm_48, hp_49⟩ := hp
    have hsm_48 := Eq.symm hsm_48
    subst hsm_48
    refine xb_icmp_eq (tgt := 67) hx hb (by unfold ir; omega) (by unfold ir; omega) dX4_outOfFunction_56 (by decide) (fun c_56 => ?_) (fun c_56 => ?_)
    · refine lv_aload_n hx hb dX4_outOfFunction_67 rfl (lv_at hl 1 rfl) ?_
      refine lv_iload_n hx hb dX4_outOfFunction_68 rfl (lv_at hl 2 rfl) ?_
      refine xa_puti G fd_X4 (a := 32) (x := x1) 14 (kz := 14) rfl rfl (by decide) rfl (by unfold ir; omega) (wm 2 158 rfl rfl) ⟨rfl, rfl, rfl, rfl⟩ rfl dX4_outOfFunction_69 rfl (fun H locs G => ?_)
      refine lv_aload_n hx hb dX4_outOfFunction_72 rfl (lv_at hl 1 rfl) ?_
      refine lv_iload_n hx hb dX4_outOfFunction_73 rfl (lv_at hl 0 rfl) ?_
      refine lv_iconst (v := iv 1) hx hb dX4_outOfFunction_74 rfl ?_
      refine xb_icmp_ne (tgt := 82) hx hb (by unfold ir; omega) (by unfold ir; omega) dX4_outOfFunction_75 (by decide) (fun c_75 => ?_) (fun c_75 => ?_)
      · refine lv_iconst (v := iv 1) hx hb dX4_outOfFunction_82 rfl ?_
        refine xa_puti G fd_X4 (a := 32) (x := 1) 13 (kz := 13) rfl rfl (by decide) rfl (by unfold ir; omega) (wm 2 157 rfl rfl) ⟨rfl, rfl, rfl, rfl⟩ rfl dX4_outOfFunction_83 rfl (fun H locs G => ?_)
        have e_50 : (sv (sv μ34 32 14 x1) 32 13 1).1 33 3 = max r_14 0 := ((sv_n _ (fun h9 => absurd h9.1 (by decide))).trans ((sv_n _ (fun h9 => absurd h9.1 (by decide))).trans ((F_35.1 33 (by decide) 3).trans hs_20)))
        have e_51 : (sv (sv μ34 32 14 x1) 32 13 1).1 32 13 = 1 := (sv_s _ _ _ _)
        have e_52 : (sv (sv μ34 32 14 x1) 32 13 1).1 52 7 = n - 1 := ((sv_n _ (fun h9 => absurd h9.1 (by decide))).trans ((sv_n _ (fun h9 => absurd h9.1 (by decide))).trans hs_37))
        have e_53 : (sv (sv μ34 32 14 x1) 32 13 1).1 32 12 = μ34.1 32 12 := ((sv_n _ (by decide)).trans (sv_n _ (by decide)))
        have e_54 : ofF (sv (sv μ34 32 14 x1) 32 13 1) 53 = ofF μ34 53 := ((ofF_sv (sv μ34 32 14 x1) (by decide) (by decide)).trans (ofF_sv μ34 (by decide) (by decide)))
        have h0_e : (n ≤ 1 ∧ (sv (sv μ34 32 14 x1) 32 13 1).1 32 13 = 4 ∧ (sv (sv μ34 32 14 x1) 32 13 1).1 52 7 = n) ∨ (2 ≤ n ∧ (sv (sv μ34 32 14 x1) 32 13 1).1 52 7 = n - 1 ∧ (sv (sv μ34 32 14 x1) 32 13 1).1 32 12 = μ.1 58 (n - 1) + 1 ∧ (((sv (sv μ34 32 14 x1) 32 13 1).1 33 3 = max (μ.1 57 (n - 1)) 0 + 1 ∧ (sv (sv μ34 32 14 x1) 32 13 1).1 32 13 = 0) ∨ ((sv (sv μ34 32 14 x1) 32 13 1).1 33 3 = max (μ.1 57 (n - 1)) 0 ∧ ((sv (sv μ34 32 14 x1) 32 13 1).1 32 13 = 1 ∨ (sv (sv μ34 32 14 x1) 32 13 1).1 32 13 = 2 ∨ (sv (sv μ34 32 14 x1) 32 13 1).1 32 13 = 4)))) := by
          exact Or.inr ⟨by omega, by omega, by omega, Or.inr ⟨by omega, by omega⟩⟩
        have hI_55 : IC (sv (sv μ34 32 14 x1) 32 13 1) := (IC.put (IC.put hI_36 (by decide +kernel)) (by decide +kernel))
        have e_56 : (sv (sv μ34 32 14 x1) 32 13 1).1 70 2 = μ.1 70 2 := ((sv_n _ (fun h9 => absurd h9.1 (by decide))).trans ((sv_n _ (fun h9 => absurd h9.1 (by decide))).trans ((F_35.1 70 (by decide) 2).trans (F_18.1 70 (by decide) 2))))
        have e_57 : (sv (sv μ34 32 14 x1) 32 13 1).1 70 2 = μ.1 70 2 := ((sv_n _ (fun h9 => absurd h9.1 (by decide))).trans ((sv_n _ (fun h9 => absurd h9.1 (by decide))).trans ((F_35.1 70 (by decide) 2).trans (F_18.1 70 (by decide) 2))))
        have e_58 : (sv (sv μ34 32 14 x1) 32 13 1).1 70 8 = μ.1 70 8 := ((sv_n _ (fun h9 => absurd h9.1 (by decide))).trans ((sv_n _ (fun h9 => absurd h9.1 (by decide))).trans ((F_35.1 70 (by decide) 8).trans (F_18.1 70 (by decide) 8))))
        have e_59 : (sv (sv μ34 32 14 x1) 32 13 1).1 70 8 = μ.1 70 8 := ((sv_n _ (fun h9 => absurd h9.1 (by decide))).trans ((sv_n _ (fun h9 => absurd h9.1 (by decide))).trans ((F_35.1 70 (by decide) 8).trans (F_18.1 70 (by decide) 8))))
        have e_60 : (sv (sv μ34 32 14 x1) 32 13 1).1 45 1 = μ.1 45 1 := ((sv_n _ (fun h9 => absurd h9.1 (by decide))).trans ((sv_n _ (fun h9 => absurd h9.1 (by decide))).trans ((F_35.1 45 (by decide) 1).trans (F_18.1 45 (by decide) 1))))
        have e_61 : (sv (sv μ34 32 14 x1) 32 13 1).1 70 2 = μ.1 70 2 := ((sv_n _ (fun h9 => absurd h9.1 (by decide))).trans ((sv_n _ (fun h9 => absurd h9.1 (by decide))).trans ((F_35.1 70 (by decide) 2).trans (F_18.1 70 (by decide) 2))))
        have e_62 : (sv (sv μ34 32 14 x1) 32 13 1).1 32 13 = 1 := (sv_s _ _ _ _)
        have e_63 : (sv (sv μ34 32 14 x1) 32 13 1).1 32 16 = μ.1 32 16 := ((sv_n _ (by decide)).trans ((sv_n _ (by decide)).trans (hs_43.trans (F_18.1 32 (by decide) 16))))
        have e_64 : (sv (sv μ34 32 14 x1) 32 13 1).1 70 1 = μ.1 70 1 := ((sv_n _ (fun h9 => absurd h9.1 (by decide))).trans ((sv_n _ (fun h9 => absurd h9.1 (by decide))).trans ((F_35.1 70 (by decide) 1).trans (F_18.1 70 (by decide) 1))))
        have e_65 : (sv (sv μ34 32 14 x1) 32 13 1).1 70 3 = μ.1 70 3 := ((sv_n _ (fun h9 => absurd h9.1 (by decide))).trans ((sv_n _ (fun h9 => absurd h9.1 (by decide))).trans ((F_35.1 70 (by decide) 3).trans (F_18.1 70 (by decide) 3))))
        have e_66 : (sv (sv μ34 32 14 x1) 32 13 1).1 70 4 = μ.1 70 4 := ((sv_n _ (fun h9 => absurd h9.1 (by decide))).trans ((sv_n _ (fun h9 => absurd h9.1 (by decide))).trans ((F_35.1 70 (by decide) 4).trans (F_18.1 70 (by decide) 4))))
        have e_67 : (sv (sv μ34 32 14 x1) 32 13 1).1 70 5 = μ.1 70 5 := ((sv_n _ (fun h9 => absurd h9.1 (by decide))).trans ((sv_n _ (fun h9 => absurd h9.1 (by decide))).trans ((F_35.1 70 (by decide) 5).trans (F_18.1 70 (by decide) 5))))
        have e_68 : (sv (sv μ34 32 14 x1) 32 13 1).1 70 7 = μ.1 70 7 := ((sv_n _ (fun h9 => absurd h9.1 (by decide))).trans ((sv_n _ (fun h9 => absurd h9.1 (by decide))).trans ((F_35.1 70 (by decide) 7).trans (F_18.1 70 (by decide) 7))))
        have e_69 : (sv (sv μ34 32 14 x1) 32 13 1).1 45 4 = μ.1 45 4 := ((sv_n _ (fun h9 => absurd h9.1 (by decide))).trans ((sv_n _ (fun h9 => absurd h9.1 (by decide))).trans ((F_35.1 45 (by decide) 4).trans (F_18.1 45 (by decide) 4))))
        exact xr_v G hret hlk dX4_outOfFunction_86 ⟨(Fr.put (Fr.put (Fr.tr (Fr.tr Fr.rf F_18 (by decide)) F_35 (by decide)) (by decide)) (by decide)), hI_55, h0_e, (fun _ => by rw [show (sv (sv μ34 32 14 x1) 32 13 1).1 32 10 = μ34.1 32 10 from ((sv_n _ (by decide)).trans (sv_n _ (by decide)))]; exact hB_44), (by omega), (by omega), (by omega), (by omega), (by omega), (by omega), (by omega), (by omega), (by omega)⟩
      · refine lv_iconst (v := iv 2) hx hb dX4_outOfFunction_78 rfl ?_
        refine lv_goto (tgt := 83) hx hb dX4_outOfFunction_79 (by decide) ?_
        refine xa_puti G fd_X4 (a := 32) (x := 2) 13 (kz := 13) rfl rfl (by decide) rfl (by unfold ir; omega) (wm 2 157 rfl rfl) ⟨rfl, rfl, rfl, rfl⟩ rfl dX4_outOfFunction_83 rfl (fun H locs G => ?_)
        have e_70 : (sv (sv μ34 32 14 x1) 32 13 2).1 33 3 = max r_14 0 := ((sv_n _ (fun h9 => absurd h9.1 (by decide))).trans ((sv_n _ (fun h9 => absurd h9.1 (by decide))).trans ((F_35.1 33 (by decide) 3).trans hs_20)))
        have e_71 : (sv (sv μ34 32 14 x1) 32 13 2).1 32 13 = 2 := (sv_s _ _ _ _)
        have e_72 : (sv (sv μ34 32 14 x1) 32 13 2).1 52 7 = n - 1 := ((sv_n _ (fun h9 => absurd h9.1 (by decide))).trans ((sv_n _ (fun h9 => absurd h9.1 (by decide))).trans hs_37))
        have e_73 : (sv (sv μ34 32 14 x1) 32 13 2).1 32 12 = μ34.1 32 12 := ((sv_n _ (by decide)).trans (sv_n _ (by decide)))
        have e_74 : ofF (sv (sv μ34 32 14 x1) 32 13 2) 53 = ofF μ34 53 := ((ofF_sv (sv μ34 32 14 x1) (by decide) (by decide)).trans (ofF_sv μ34 (by decide) (by decide)))
        have h0_e : (n ≤ 1 ∧ (sv (sv μ34 32 14 x1) 32 13 2).1 32 13 = 4 ∧ (sv (sv μ34 32 14 x1) 32 13 2).1 52 7 = n) ∨ (2 ≤ n ∧ (sv (sv μ34 32 14 x1) 32 13 2).1 52 7 = n - 1 ∧ (sv (sv μ34 32 14 x1) 32 13 2).1 32 12 = μ.1 58 (n - 1) + 1 ∧ (((sv (sv μ34 32 14 x1) 32 13 2).1 33 3 = max (μ.1 57 (n - 1)) 0 + 1 ∧ (sv (sv μ34 32 14 x1) 32 13 2).1 32 13 = 0) ∨ ((sv (sv μ34 32 14 x1) 32 13 2).1 33 3 = max (μ.1 57 (n - 1)) 0 ∧ ((sv (sv μ34 32 14 x1) 32 13 2).1 32 13 = 1 ∨ (sv (sv μ34 32 14 x1) 32 13 2).1 32 13 = 2 ∨ (sv (sv μ34 32 14 x1) 32 13 2).1 32 13 = 4)))) := by
          exact Or.inr ⟨by omega, by omega, by omega, Or.inr ⟨by omega, by omega⟩⟩
        have hI_75 : IC (sv (sv μ34 32 14 x1) 32 13 2) := (IC.put (IC.put hI_36 (by decide +kernel)) (by decide +kernel))
        have e_76 : (sv (sv μ34 32 14 x1) 32 13 2).1 70 2 = μ.1 70 2 := ((sv_n _ (fun h9 => absurd h9.1 (by decide))).trans ((sv_n _ (fun h9 => absurd h9.1 (by decide))).trans ((F_35.1 70 (by decide) 2).trans (F_18.1 70 (by decide) 2))))
        have e_77 : (sv (sv μ34 32 14 x1) 32 13 2).1 70 2 = μ.1 70 2 := ((sv_n _ (fun h9 => absurd h9.1 (by decide))).trans ((sv_n _ (fun h9 => absurd h9.1 (by decide))).trans ((F_35.1 70 (by decide) 2).trans (F_18.1 70 (by decide) 2))))
        have e_78 : (sv (sv μ34 32 14 x1) 32 13 2).1 70 8 = μ.1 70 8 := ((sv_n _ (fun h9 => absurd h9.1 (by decide))).trans ((sv_n _ (fun h9 => absurd h9.1 (by decide))).trans ((F_35.1 70 (by decide) 8).trans (F_18.1 70 (by decide) 8))))
        have e_79 : (sv (sv μ34 32 14 x1) 32 13 2).1 70 8 = μ.1 70 8 := ((sv_n _ (fun h9 => absurd h9.1 (by decide))).trans ((sv_n _ (fun h9 => absurd h9.1 (by decide))).trans ((F_35.1 70 (by decide) 8).trans (F_18.1 70 (by decide) 8))))
        have e_80 : (sv (sv μ34 32 14 x1) 32 13 2).1 45 1 = μ.1 45 1 := ((sv_n _ (fun h9 => absurd h9.1 (by decide))).trans ((sv_n _ (fun h9 => absurd h9.1 (by decide))).trans ((F_35.1 45 (by decide) 1).trans (F_18.1 45 (by decide) 1))))
        have e_81 : (sv (sv μ34 32 14 x1) 32 13 2).1 70 2 = μ.1 70 2 := ((sv_n _ (fun h9 => absurd h9.1 (by decide))).trans ((sv_n _ (fun h9 => absurd h9.1 (by decide))).trans ((F_35.1 70 (by decide) 2).trans (F_18.1 70 (by decide) 2))))
        have e_82 : (sv (sv μ34 32 14 x1) 32 13 2).1 32 13 = 2 := (sv_s _ _ _ _)
        have e_83 : (sv (sv μ34 32 14 x1) 32 13 2).1 32 16 = μ.1 32 16 := ((sv_n _ (by decide)).trans ((sv_n _ (by decide)).trans (hs_43.trans (F_18.1 32 (by decide) 16))))
        have e_84 : (sv (sv μ34 32 14 x1) 32 13 2).1 70 1 = μ.1 70 1 := ((sv_n _ (fun h9 => absurd h9.1 (by decide))).trans ((sv_n _ (fun h9 => absurd h9.1 (by decide))).trans ((F_35.1 70 (by decide) 1).trans (F_18.1 70 (by decide) 1))))
        have e_85 : (sv (sv μ34 32 14 x1) 32 13 2).1 70 3 = μ.1 70 3 := ((sv_n _ (fun h9 => absurd h9.1 (by decide))).trans ((sv_n _ (fun h9 => absurd h9.1 (by decide))).trans ((F_35.1 70 (by decide) 3).trans (F_18.1 70 (by decide) 3))))
        have e_86 : (sv (sv μ34 32 14 x1) 32 13 2).1 70 4 = μ.1 70 4 := ((sv_n _ (fun h9 => absurd h9.1 (by decide))).trans ((sv_n _ (fun h9 => absurd h9.1 (by decide))).trans ((F_35.1 70 (by decide) 4).trans (F_18.1 70 (by decide) 4))))
        have e_87 : (sv (sv μ34 32 14 x1) 32 13 2).1 70 5 = μ.1 70 5 := ((sv_n _ (fun h9 => absurd h9.1 (by decide))).trans ((sv_n _ (fun h9 => absurd h9.1 (by decide))).trans ((F_35.1 70 (by decide) 5).trans (F_18.1 70 (by decide) 5))))
        have e_88 : (sv (sv μ34 32 14 x1) 32 13 2).1 70 7 = μ.1 70 7 := ((sv_n _ (fun h9 => absurd h9.1 (by decide))).trans ((sv_n _ (fun h9 => absurd h9.1 (by decide))).trans ((F_35.1 70 (by decide) 7).trans (F_18.1 70 (by decide) 7))))
        have e_89 : (sv (sv μ34 32 14 x1) 32 13 2).1 45 4 = μ.1 45 4 := ((sv_n _ (fun h9 => absurd h9.1 (by decide))).trans ((sv_n _ (fun h9 => absurd h9.1 (by decide))).trans ((F_35.1 45 (by decide) 4).trans (F_18.1 45 (by decide) 4))))
        exact xr_v G hret hlk dX4_outOfFunction_86 ⟨(Fr.put (Fr.put (Fr.tr (Fr.tr Fr.rf F_18 (by decide)) F_35 (by decide)) (by decide)) (by decide)), hI_75, h0_e, (fun _ => by rw [show (sv (sv μ34 32 14 x1) 32 13 2).1 32 10 = μ34.1 32 10 from ((sv_n _ (by decide)).trans (sv_n _ (by decide)))]; exact hB_44), (by omega), (by omega), (by omega), (by omega), (by omega), (by omega), (by omega), (by omega), (by omega)⟩
    · refine lv_aload_n hx hb dX4_outOfFunction_59 rfl (lv_at hl 1 rfl) ?_
      refine lv_iload_n hx hb dX4_outOfFunction_60 rfl (lv_at hl 2 rfl) ?_
      have e_90 : μ34.1 33 3 = max r_14 0 := ((F_35.1 33 (by decide) 3).trans hs_20)
      have e_91 : μ34.1 70 2 = μ.1 70 2 := ((F_35.1 70 (by decide) 2).trans (F_18.1 70 (by decide) 2))
      have e_92 : μ34.1 70 2 = μ.1 70 2 := ((F_35.1 70 (by decide) 2).trans (F_18.1 70 (by decide) 2))
      have e_93 : μ34.1 70 8 = μ.1 70 8 := ((F_35.1 70 (by decide) 8).trans (F_18.1 70 (by decide) 8))
      have e_94 : μ34.1 70 8 = μ.1 70 8 := ((F_35.1 70 (by decide) 8).trans (F_18.1 70 (by decide) 8))
      have hn_95 : 0 ≤ μ.1 45 1 ∧ 9 * μ.1 45 1 ≤ μ.2.1 46 := hI.nm.2.2.2.2.2.2.1
      have e_96 : μ34.1 45 1 = μ.1 45 1 := ((F_35.1 45 (by decide) 1).trans (F_18.1 45 (by decide) 1))
      have e_97 : μ34.1 70 2 = μ.1 70 2 := ((F_35.1 70 (by decide) 2).trans (F_18.1 70 (by decide) 2))
      have e_98 : μ34.1 32 13 = μ.1 32 13 := (hs_40.trans (F_18.1 32 (by decide) 13))
      have e_99 : μ34.1 70 2 = μ.1 70 2 := ((F_35.1 70 (by decide) 2).trans (F_18.1 70 (by decide) 2))
      have e_100 : μ34.1 70 1 = μ.1 70 1 := ((F_35.1 70 (by decide) 1).trans (F_18.1 70 (by decide) 1))
      have e_101 : μ34.1 70 3 = μ.1 70 3 := ((F_35.1 70 (by decide) 3).trans (F_18.1 70 (by decide) 3))
      have e_102 : μ34.1 70 4 = μ.1 70 4 := ((F_35.1 70 (by decide) 4).trans (F_18.1 70 (by decide) 4))
      have e_103 : μ34.1 70 5 = μ.1 70 5 := ((F_35.1 70 (by decide) 5).trans (F_18.1 70 (by decide) 5))
      have e_104 : μ34.1 70 7 = μ.1 70 7 := ((F_35.1 70 (by decide) 7).trans (F_18.1 70 (by decide) 7))
      have e_105 : μ34.1 32 15 = μ.1 32 15 := (hs_42.trans (F_18.1 32 (by decide) 15))
      have e_106 : μ34.1 32 16 = μ.1 32 16 := (hs_43.trans (F_18.1 32 (by decide) 16))
      have hn_107 : 0 ≤ μ.1 45 4 ∧ 2 * μ.1 45 4 ≤ μ.2.1 51 := hI.nm.2.2.2.2.2.2.2.1
      have e_108 : μ34.1 45 4 = μ.1 45 4 := ((F_35.1 45 (by decide) 4).trans (F_18.1 45 (by decide) 4))
      refine xc_vV G (b := 32) (rest := []) (As := [.int (iv x1)]) (c_X4_turnFailure ω l μ34 x1 (max r_14 0) (by unfold ir; omega) hI_36 (by omega) (by omega) (by omega) (by omega)) (wm 5 238 rfl rfl) (wm 6 0 rfl rfl) (wm 0 74 rfl rfl) rfl rfl (by decide) rfl (wm 1 14 rfl rfl) (wm 6 1 rfl rfl) (by decide) hR (by decide) (n := 1) rfl rfl (Nat.le_of_ble_eq_true rfl) hl.1 dX4_outOfFunction_61 (fun μ109 ρ d0 H locs hp G => ?_)
      obtain ⟨F_110, hI_111, hp_112, hp_113, hp_114, hs_115, hs_116, hs_117, hs_118, hs_119, hs_120, hs_121, hs_122, hs_123, hs_124, hs_125⟩ := hp
      have hk_126 := hI_111.row (r := 33) (by unfold isRow; decide)
      unfold rk at hk_126
      simp only [Int.reduceAdd] at hk_126
      have hn_127 : 0 ≤ μ109.1 45 1 ∧ 9 * μ109.1 45 1 ≤ μ109.2.1 46 := hI_111.nm.2.2.2.2.2.2.1
      refine lv_goto (tgt := 86) hx hb dX4_outOfFunction_64 (by decide) ?_
      have e_128 : μ109.1 52 7 = n - 1 := ((F_110.1 52 (by decide) 7).trans hs_37)
      have e_129 : μ109.1 32 12 = μ34.1 32 12 := hs_122
      have e_130 : ofF μ109 53 = ofF μ34 53 := (ofF_fr F_110 (by decide) (by decide))
      have h0_e : (n ≤ 1 ∧ μ109.1 32 13 = 4 ∧ μ109.1 52 7 = n) ∨ (2 ≤ n ∧ μ109.1 52 7 = n - 1 ∧ μ109.1 32 12 = μ.1 58 (n - 1) + 1 ∧ ((μ109.1 33 3 = max (μ.1 57 (n - 1)) 0 + 1 ∧ μ109.1 32 13 = 0) ∨ (μ109.1 33 3 = max (μ.1 57 (n - 1)) 0 ∧ (μ109.1 32 13 = 1 ∨ μ109.1 32 13 = 2 ∨ μ109.1 32 13 = 4)))) := by
        rcases hp_112 with ⟨q1, q2⟩ | ⟨q1, q2⟩
        · exact Or.inr ⟨by omega, by omega, by omega, Or.inl ⟨by omega, by omega⟩⟩
        · exact Or.inr ⟨by omega, by omega, by omega, Or.inr ⟨by omega, by omega⟩⟩
      have e_131 : μ109.1 32 16 = μ.1 32 16 := (hs_124.trans (hs_43.trans (F_18.1 32 (by decide) 16)))
      have e_132 : μ109.1 70 1 = μ.1 70 1 := (hs_115.trans ((F_35.1 70 (by decide) 1).trans (F_18.1 70 (by decide) 1)))
      have e_133 : μ109.1 70 3 = μ.1 70 3 := (hs_116.trans ((F_35.1 70 (by decide) 3).trans (F_18.1 70 (by decide) 3)))
      have e_134 : μ109.1 70 4 = μ.1 70 4 := (hs_117.trans ((F_35.1 70 (by decide) 4).trans (F_18.1 70 (by decide) 4)))
      have e_135 : μ109.1 70 5 = μ.1 70 5 := (hs_118.trans ((F_35.1 70 (by decide) 5).trans (F_18.1 70 (by decide) 5)))
      have e_136 : μ109.1 70 7 = μ.1 70 7 := (hs_119.trans ((F_35.1 70 (by decide) 7).trans (F_18.1 70 (by decide) 7)))
      have e_137 : μ109.1 45 4 = μ.1 45 4 := (hs_125.trans ((F_35.1 45 (by decide) 4).trans (F_18.1 45 (by decide) 4)))
      exact xr_v G hret hlk dX4_outOfFunction_86 ⟨(Fr.tr (Fr.tr (Fr.tr Fr.rf F_18 (by decide)) F_35 (by decide)) F_110 (by decide)), hI_111, h0_e, (fun _ => by rw [show μ109.1 32 10 = μ34.1 32 10 from hs_120]; exact hB_44), (by omega), (by omega), (by omega), (by omega), (by omega), (by omega), (by omega), (by omega), (by omega)⟩
  · refine lv_aload_n hx hb dX4_outOfFunction_11 rfl (lv_at hl 0 rfl) ?_
    refine lv_iload_n hx hb dX4_outOfFunction_12 rfl (lv_at hl 1 rfl) ?_
    refine xa_puti G fd_X4 (a := 32) (x := x1) 15 (kz := 15) rfl rfl (by decide) rfl (by unfold ir; omega) (wm 2 159 rfl rfl) ⟨rfl, rfl, rfl, rfl⟩ rfl dX4_outOfFunction_13 rfl (fun H locs G => ?_)
    refine lv_aload_n hx hb dX4_outOfFunction_16 rfl (lv_at hl 0 rfl) ?_
    refine lv_iconst (v := iv 1) hx hb dX4_outOfFunction_17 rfl ?_
    have hI_138 : IC (sv μ 32 15 x1) := (IC.put hI (by decide +kernel))
    have e_139 : (sv μ 32 15 x1).1 70 1 = μ.1 70 1 := (sv_n _ (fun h9 => absurd h9.1 (by decide)))
    have e_140 : (sv μ 32 15 x1).1 70 2 = μ.1 70 2 := (sv_n _ (fun h9 => absurd h9.1 (by decide)))
    have e_141 : (sv μ 32 15 x1).1 70 3 = μ.1 70 3 := (sv_n _ (fun h9 => absurd h9.1 (by decide)))
    have e_142 : (sv μ 32 15 x1).1 70 4 = μ.1 70 4 := (sv_n _ (fun h9 => absurd h9.1 (by decide)))
    have e_143 : (sv μ 32 15 x1).1 70 5 = μ.1 70 5 := (sv_n _ (fun h9 => absurd h9.1 (by decide)))
    have e_144 : (sv μ 32 15 x1).1 70 6 = μ.1 70 6 := (sv_n _ (fun h9 => absurd h9.1 (by decide)))
    have e_145 : (sv μ 32 15 x1).1 70 7 = μ.1 70 7 := (sv_n _ (fun h9 => absurd h9.1 (by decide)))
    have e_146 : (sv μ 32 15 x1).1 70 8 = μ.1 70 8 := (sv_n _ (fun h9 => absurd h9.1 (by decide)))
    have e_147 : (sv μ 32 15 x1).1 70 9 = μ.1 70 9 := (sv_n _ (fun h9 => absurd h9.1 (by decide)))
    have e_148 : (sv μ 32 15 x1).1 32 10 = μ.1 32 10 := (sv_n _ (by decide))
    have e_149 : (sv μ 32 15 x1).1 32 11 = μ.1 32 11 := (sv_n _ (by decide))
    have e_150 : (sv μ 32 15 x1).1 32 12 = μ.1 32 12 := (sv_n _ (by decide))
    have e_151 : (sv μ 32 15 x1).1 32 14 = μ.1 32 14 := (sv_n _ (by decide))
    have e_152 : (sv μ 32 15 x1).1 32 15 = x1 := (sv_s _ _ _ _)
    have e_153 : (sv μ 32 15 x1).1 32 16 = μ.1 32 16 := (sv_n _ (by decide))
    refine xc_vV G (b := 32) (rest := []) (As := [.int (iv 1)]) (c_X4_end ω l (sv μ 32 15 x1) 1 (by unfold ir; omega) hI_138) (wm 5 214 rfl rfl) (wm 5 216 rfl rfl) (wm 0 72 rfl rfl) rfl rfl (by decide) rfl (wm 1 14 rfl rfl) (wm 5 217 rfl rfl) (by decide) hR (by decide) (n := 1) rfl rfl (Nat.le_of_ble_eq_true rfl) hl.1 dX4_outOfFunction_18 (fun μ154 ρ d0 H locs hp G => ?_)
    obtain ⟨F_155, hI_156, hp_157, hs_158, hs_159, hs_160, hs_161, hs_162, hs_163, hs_164, hs_165, hs_166, hs_167, hs_168, hs_169, hs_170, hs_171, hs_172⟩ := hp
    have e_173 : μ154.1 33 3 = S := ((F_155.1 33 (by decide) 3).trans ((sv_n _ (fun h9 => absurd h9.1 (by decide))).trans hS.symm))
    have e_174 : μ154.1 52 7 = n := ((F_155.1 52 (by decide) 7).trans ((sv_n _ (fun h9 => absurd h9.1 (by decide))).trans hn.symm))
    have e_175 : μ154.1 32 12 = μ.1 32 12 := (hs_169.trans (sv_n _ (by decide)))
    have e_176 : ofF μ154 53 = ofF μ 53 := ((ofF_fr F_155 (by decide) (by decide)).trans (ofF_sv μ (by decide) (by decide)))
    have e_177 : μ154.1 70 2 = μ.1 70 2 := (hs_159.trans (sv_n _ (fun h9 => absurd h9.1 (by decide))))
    have e_178 : μ154.1 70 2 = μ.1 70 2 := (hs_159.trans (sv_n _ (fun h9 => absurd h9.1 (by decide))))
    have e_179 : μ154.1 70 8 = μ.1 70 8 := (hs_165.trans (sv_n _ (fun h9 => absurd h9.1 (by decide))))
    have e_180 : μ154.1 70 8 = μ.1 70 8 := (hs_165.trans (sv_n _ (fun h9 => absurd h9.1 (by decide))))
    have e_181 : μ154.1 45 1 = μ.1 45 1 := ((F_155.1 45 (by decide) 1).trans (sv_n _ (fun h9 => absurd h9.1 (by decide))))
    have e_182 : μ154.1 70 2 = μ.1 70 2 := (hs_159.trans (sv_n _ (fun h9 => absurd h9.1 (by decide))))
    have e_183 : μ154.1 32 16 = μ.1 32 16 := (hs_172.trans (sv_n _ (by decide)))
    have e_184 : μ154.1 70 1 = μ.1 70 1 := (hs_158.trans (sv_n _ (fun h9 => absurd h9.1 (by decide))))
    have e_185 : μ154.1 70 3 = μ.1 70 3 := (hs_160.trans (sv_n _ (fun h9 => absurd h9.1 (by decide))))
    have e_186 : μ154.1 70 4 = μ.1 70 4 := (hs_161.trans (sv_n _ (fun h9 => absurd h9.1 (by decide))))
    have e_187 : μ154.1 70 5 = μ.1 70 5 := (hs_162.trans (sv_n _ (fun h9 => absurd h9.1 (by decide))))
    have e_188 : μ154.1 70 7 = μ.1 70 7 := (hs_164.trans (sv_n _ (fun h9 => absurd h9.1 (by decide))))
    have e_189 : μ154.1 45 4 = μ.1 45 4 := ((F_155.1 45 (by decide) 4).trans (sv_n _ (fun h9 => absurd h9.1 (by decide))))
    exact xr_v G hret hlk dX4_outOfFunction_21 ⟨(Fr.tr (Fr.put Fr.rf (by decide)) F_155 (by decide)), hI_156, (Or.inl ⟨by omega, by omega, by omega⟩), (fun h9 => absurd h9 (by omega)), (by omega), (by omega), (by omega), (by omega), (by omega), (by omega), (by omega), (by omega), (by omega)⟩

set_option maxHeartbeats 4000000 in
set_option maxRecDepth 100000 in
theorem c_X4_giveAnswer (ω : Om) (l : Launch) (μ : M3) (S : Int) (n : Int) (hI : IC μ) (hS : S = μ.1 33 3) (hn : n = μ.1 52 7) (hst : 0 ≤ μ.1 70 2 ∧ μ.1 70 2 ≤ 5000 ∧ 0 ≤ μ.1 70 8 ∧ μ.1 70 8 ≤ 80000 ∧ μ.1 45 1 ≤ μ.1 70 2) (h0s : μ.1 32 13 = 0) (h1n : 1 ≤ n) (hb2 : n ≤ 1 ∨ (0 ≤ μ.1 53 (n - 2) ∧ μ.1 53 (n - 2) ≤ 3 ∧ 0 ≤ μ.1 58 (n - 1) ∧ μ.1 58 (n - 1) ≤ 100000000 ∧ μ.1 57 (n - 1) ≤ 239000)) (h2n : 2 ≤ n) (h3n : -1000000 ≤ μ.1 57 (n - 1)) : CtV ω l yX4_giveAnswer cX4_giveAnswer 4 6 199 [.ref (oP ω 32)] μ (fun (μ' : M3) => (Fr [34, 35, 36, 33, 32, 52, 70, 45, 46, 47, 48, 49, 50] μ μ') ∧ (IC μ') ∧ (μ'.1 52 7 = n - 1 ∧ μ'.1 32 12 = μ.1 58 (n - 1) + 1 ∧ ((μ'.1 33 3 ≤ max (μ.1 57 (n - 1) + 1) 1 ∧ (μ'.1 32 13 = 0 ∨ μ'.1 32 13 = 1 ∨ μ'.1 32 13 = 4)) ∨ (μ'.1 33 3 ≤ max (μ.1 57 (n - 1)) 0 ∧ μ'.1 32 13 = 2))) ∧ (2 ≤ n → μ'.1 32 10 = μ.1 12 (μ.1 53 (n - 2))) ∧ (μ.1 70 2 ≤ μ'.1 70 2 ∧ μ'.1 70 2 ≤ 5000 ∧ 0 ≤ μ'.1 70 8 ∧ μ'.1 70 8 ≤ 80000 ∧ μ'.1 45 1 ≤ μ'.1 70 2) ∧ (μ'.1 32 13 ≠ 2 ∨ μ.1 53 (n - 2) = 1) ∧ (μ'.1 32 15 = μ.1 32 15) ∧ (μ'.1 32 16 = μ.1 32 16) ∧ (μ'.1 70 1 = μ.1 70 1) ∧ (μ'.1 70 3 = μ.1 70 3) ∧ (μ'.1 70 4 = μ.1 70 4) ∧ (μ'.1 70 5 = μ.1 70 5) ∧ (μ'.1 70 7 = μ.1 70 7) ∧ (μ'.1 45 4 = μ.1 45 4)) := by
  refine CtV.go (by decide) (Nat.le_of_ble_eq_true rfl) (fun ρ p e s m below meth c R ls G hR hret hlk hl => ?_)
  have hx := G.1.1
  have hb := G.1.2.1
  have hl : lv_has ls 4 [(0, .ref (oP ω 32))] := hl
  generalize s.drawn = d0 at G ⊢
  have hk_1 := hI.row (r := 33) (by unfold isRow; decide)
  unfold rk at hk_1
  simp only [Int.reduceAdd] at hk_1
  have hbr_33 : BR 33 = 240100 := rfl
  have hn_2 : 0 ≤ μ.1 52 7 ∧ μ.1 52 7 ≤ 24 := hI.nm.2.2.2.2.1
  have hk_3 := hI.row (r := 37) (by unfold isRow; decide)
  unfold rk at hk_3
  simp only [Int.reduceAdd] at hk_3
  have hbr_37 : BR 37 = 20410 := rfl
  have hSr0 : Sr μ := G.sr0
  have hof57 := ofF_at (μ := μ) (b := 57) hn.symm (by omega)
  refine lv_aload_n hx hb dX4_giveAnswer_0 rfl (lv_at hl 0 rfl) ?_
  refine xa_getr G fd_X4 (a := 32) (x := 52) 7 rfl (by decide) rfl (wm 2 151 rfl rfl) ⟨rfl, rfl, rfl⟩ dX4_giveAnswer_1 rfl (G.sk 40 rfl) (by decide) rfl ?_
  refine xc_iV G (b := 52) (rest := []) (As := []) (c_X2_tongue ω l μ  hI) (wm 5 218 rfl rfl) (wm 5 219 rfl rfl) (wm 5 220 rfl rfl) rfl rfl (by decide) rfl (wm 1 16 rfl rfl) (wm 5 221 rfl rfl) (by decide) hR (by decide) (n := 0) rfl rfl (Nat.le_of_ble_eq_true rfl) hl.1 dX4_giveAnswer_4 (fun r_5 μ4 ρ d0 H locs hr_r_5 hp G => ?_)
  have hr_r_5 : -2147483648 ≤ r_5 ∧ r_5 ≤ 2147483647 := hr_r_5
  obtain ⟨hsm_6, hp_7⟩ := hp
  have hsm_6 := Eq.symm hsm_6
  subst hsm_6
  refine lv_istore_n (lv' := [(1, .int (iv r_5)), (0, .ref (oP ω 32))]) hx hb dX4_giveAnswer_7 rfl hl (by decide) rfl (fun ls hl => ?_)
  refine lv_aload_n hx hb dX4_giveAnswer_8 rfl (lv_at hl 1 rfl) ?_
  refine xa_getr G fd_X4 (a := 32) (x := 52) 7 rfl (by decide) rfl (wm 2 151 rfl rfl) ⟨rfl, rfl, rfl⟩ dX4_giveAnswer_9 rfl (G.sk 40 rfl) (by decide) rfl ?_
  refine xc_iV G (b := 52) (rest := []) (As := []) (c_X2_top ω l μ  hI) (wm 5 222 rfl rfl) (wm 5 223 rfl rfl) (wm 5 224 rfl rfl) rfl rfl (by decide) rfl (wm 1 16 rfl rfl) (wm 5 225 rfl rfl) (by decide) hR (by decide) (n := 0) rfl rfl (Nat.le_of_ble_eq_true rfl) hl.1 dX4_giveAnswer_12 (fun r_9 μ8 ρ d0 H locs hr_r_9 hp G => ?_)
  have hr_r_9 : -2147483648 ≤ r_9 ∧ r_9 ≤ 2147483647 := hr_r_9
  obtain ⟨hsm_10, hp_11⟩ := hp
  have hsm_10 := Eq.symm hsm_10
  subst hsm_10
  refine lv_istore_n (lv' := [(2, .int (iv r_9)), (1, .int (iv r_5)), (0, .ref (oP ω 32))]) hx hb dX4_giveAnswer_15 rfl hl (by decide) rfl (fun ls hl => ?_)
  refine lv_aload_n hx hb dX4_giveAnswer_16 rfl (lv_at hl 2 rfl) ?_
  refine xa_getr G fd_X4 (a := 32) (x := 33) 3 rfl (by decide) rfl (wm 2 147 rfl rfl) ⟨rfl, rfl, rfl⟩ dX4_giveAnswer_17 rfl (G.sk 36 rfl) (by decide) rfl ?_
  refine lv_iload_n hx hb dX4_giveAnswer_20 rfl (lv_at hl 0 rfl) ?_
  refine lv_aload_n hx hb dX4_giveAnswer_21 rfl (lv_at hl 2 rfl) ?_
  refine xa_getr G fd_X4 (a := 32) (x := 33) 3 rfl (by decide) rfl (wm 2 147 rfl rfl) ⟨rfl, rfl, rfl⟩ dX4_giveAnswer_22 rfl (G.sk 36 rfl) (by decide) rfl ?_
  refine lv_aload_n hx hb dX4_giveAnswer_25 rfl (lv_at hl 2 rfl) ?_
  have e_12 : μ.1 33 3 = S := hS.symm
  refine xc_iV G (b := 32) (rest := [.ref (oP ω 33), .int (iv r_9), .ref (oP ω 33)]) (As := []) (c_X4_top ω l μ S hI (by omega)) (wm 6 73 rfl rfl) (wm 6 75 rfl rfl) (wm 0 80 rfl rfl) rfl rfl (by decide) rfl (wm 1 14 rfl rfl) (wm 6 76 rfl rfl) (by decide) hR (by decide) (n := 0) rfl rfl (Nat.le_of_ble_eq_true rfl) hl.1 dX4_giveAnswer_26 (fun r_14 μ13 ρ d0 H locs hr_r_14 hp G => ?_)
  have hr_r_14 : -2147483648 ≤ r_14 ∧ r_14 ≤ 2147483647 := hr_r_14
  obtain ⟨hsm_15, hp_16⟩ := hp
  have hsm_15 := Eq.symm hsm_15
  subst hsm_15
  refine xc_vV G (b := 33) (rest := []) (As := [.int (iv r_9), .ref (oP ω 33), .int (iv r_14)]) (c_X9_copy ω l μ 33 r_9 33 r_14 (by unfold isRow; decide) (by unfold ir; omega) (by unfold isRow; decide) (by unfold ir; omega) hI) (wm 6 28 rfl rfl) (wm 6 29 rfl rfl) (wm 6 30 rfl rfl) rfl rfl (by decide) rfl (wm 1 10 rfl rfl) (wm 6 31 rfl rfl) (by decide) hR (by decide) (n := 3) rfl rfl (Nat.le_of_ble_eq_true rfl) hl.1 dX4_giveAnswer_29 (fun μ17 ρ d0 H locs hp G => ?_)
  obtain ⟨F_18, hI_19, hp_20⟩ := hp
  refine lv_aload_n hx hb dX4_giveAnswer_32 rfl (lv_at hl 2 rfl) ?_
  refine xa_getr G fd_X4 (a := 32) (x := 33) 3 rfl (by decide) rfl (wm 2 147 rfl rfl) ⟨rfl, rfl, rfl⟩ dX4_giveAnswer_33 rfl (G.sk 36 rfl) (by decide) rfl ?_
  refine lv_iload_n hx hb dX4_giveAnswer_36 rfl (lv_at hl 0 rfl) ?_
  refine lv_iconst (v := iv 1) hx hb dX4_giveAnswer_37 rfl ?_
  refine xb_iadd hx hb dX4_giveAnswer_38 ?_
  refine xc_vV G (b := 33) (rest := []) (As := [.int (iv (r_9 + 1))]) (c_X9_resize ω l μ17 33 (r_9 + 1) (by unfold isRow; decide) (by unfold ir; omega) hI_19 (by omega)) (wm 5 55 rfl rfl) (wm 3 15 rfl rfl) (wm 3 16 rfl rfl) rfl rfl (by decide) rfl (wm 1 10 rfl rfl) (wm 3 17 rfl rfl) (by decide) hR (by decide) (n := 1) rfl rfl (Nat.le_of_ble_eq_true rfl) hl.1 dX4_giveAnswer_39 (fun μ21 ρ d0 H locs hp G => ?_)
  obtain ⟨F_22, hI_23, hs_24⟩ := hp
  refine lv_aload_n hx hb dX4_giveAnswer_42 rfl (lv_at hl 2 rfl) ?_
  have e_25 : μ21.1 33 3 = max (r_9 + 1) 0 := hs_24
  have e_26 : μ21.1 52 7 = n := ((F_22.1 52 (by decide) 7).trans ((F_18.1 52 (by decide) 7).trans hn.symm))
  have e_27 : μ21.1 53 (n - 2) = μ.1 53 (n - 2) := ((F_22.1 53 (by decide) (n - 2)).trans (F_18.1 53 (by decide) (n - 2)))
  have e_28 : μ21.1 53 (n - 2) = μ.1 53 (n - 2) := ((F_22.1 53 (by decide) (n - 2)).trans (F_18.1 53 (by decide) (n - 2)))
  have e_29 : μ21.1 58 (n - 1) = μ.1 58 (n - 1) := ((F_22.1 58 (by decide) (n - 1)).trans (F_18.1 58 (by decide) (n - 1)))
  have e_30 : μ21.1 58 (n - 1) = μ.1 58 (n - 1) := ((F_22.1 58 (by decide) (n - 1)).trans (F_18.1 58 (by decide) (n - 1)))
  have e_31 : μ21.1 58 (n - 1) = μ.1 58 (n - 1) := ((F_22.1 58 (by decide) (n - 1)).trans (F_18.1 58 (by decide) (n - 1)))
  have e_32 : μ21.1 58 (n - 1) = μ.1 58 (n - 1) := ((F_22.1 58 (by decide) (n - 1)).trans (F_18.1 58 (by decide) (n - 1)))
  have e_33 : μ21.1 53 (n - 2) = μ.1 53 (n - 2) := ((F_22.1 53 (by decide) (n - 2)).trans (F_18.1 53 (by decide) (n - 2)))
  have e_34 : μ21.1 32 13 = μ.1 32 13 := ((F_22.1 32 (by decide) 13).trans (F_18.1 32 (by decide) 13))
  have e_35 : μ21.1 32 14 = μ.1 32 14 := ((F_22.1 32 (by decide) 14).trans (F_18.1 32 (by decide) 14))
  have e_36 : μ21.1 32 15 = μ.1 32 15 := ((F_22.1 32 (by decide) 15).trans (F_18.1 32 (by decide) 15))
  have e_37 : μ21.1 32 16 = μ.1 32 16 := ((F_22.1 32 (by decide) 16).trans (F_18.1 32 (by decide) 16))
  refine xc_vV G (b := 32) (rest := []) (As := []) (c_X4_backToCaller ω l μ21 (max (r_9 + 1) 0) n hI_23 (by omega) (by omega) (by omega) (by omega) (by omega)) (wm 5 226 rfl rfl) (wm 5 228 rfl rfl) (wm 0 73 rfl rfl) rfl rfl (by decide) rfl (wm 1 14 rfl rfl) (wm 5 229 rfl rfl) (by decide) hR (by decide) (n := 0) rfl rfl (Nat.le_of_ble_eq_true rfl) hl.1 dX4_giveAnswer_43 (fun μ38 ρ d0 H locs hp G => ?_)
  obtain ⟨F_39, hI_40, hs_41, hp_42, hp_43, hs_44, hs_45, hs_46, hs_47⟩ := hp
  have hB_48 : μ38.1 32 10 = μ.1 12 (μ.1 53 (n - 2)) := by rw [hp_43, show μ21.1 53 (n - 2) = μ.1 53 (n - 2) from ((F_22.1 53 (by decide) (n - 2)).trans (F_18.1 53 (by decide) (n - 2)))]; exact ((F_22.1 12 (by decide) (μ.1 53 (n - 2))).trans (F_18.1 12 (by decide) (μ.1 53 (n - 2))))
  have hB2_49_a := ofF_at (μ := μ38) (b := 53) (k := n - 1) (by have h9 : μ38.1 52 7 = n - 1 := hs_41; omega) (by omega)
  have hB2_49 : ofF μ38 53 = μ.1 53 (n - 2) := by have h9 : μ38.1 53 (n - 2) = μ.1 53 (n - 2) := ((F_39.1 53 (by decide) (n - 2)).trans ((F_22.1 53 (by decide) (n - 2)).trans (F_18.1 53 (by decide) (n - 2)))); have h8 : n - 1 - 1 = n - 2 := (by omega); rw [h8] at hB2_49_a; omega
  refine lv_iload_n hx hb dX4_giveAnswer_46 rfl (lv_at hl 1 rfl) ?_
  refine lv_aload_n hx hb dX4_giveAnswer_47 rfl (lv_at hl 2 rfl) ?_
  refine xa_getr G fd_X4 (a := 32) (x := 52) 7 rfl (by decide) rfl (wm 2 151 rfl rfl) ⟨rfl, rfl, rfl⟩ dX4_giveAnswer_48 rfl (G.sk 40 rfl) (by decide) rfl ?_
  refine xc_iV G (b := 52) (rest := [.int (iv r_5)]) (As := []) (c_X2_tongue ω l μ38  hI_40) (wm 5 218 rfl rfl) (wm 5 219 rfl rfl) (wm 5 220 rfl rfl) rfl rfl (by decide) rfl (wm 1 16 rfl rfl) (wm 5 221 rfl rfl) (by decide) hR (by decide) (n := 0) rfl rfl (Nat.le_of_ble_eq_true rfl) hl.1 dX4_giveAnswer_51 (fun r_51 μ50 ρ d0 H locs hr_r_51 hp G => ?_)
  have hr_r_51 : -2147483648 ≤ r_51 ∧ r_51 ≤ 2147483647 := hr_r_51
  obtain ⟨hsm_52, hp_53⟩ := hp
  have hsm_52 := Eq.symm hsm_52
  subst hsm_52
  refine xb_icmp_ne (tgt := 58) hx hb (by unfold ir; omega) (by unfold ir; omega) dX4_giveAnswer_54 (by decide) (fun c_54 => ?_) (fun c_54 => ?_)
  · refine lv_aload_n hx hb dX4_giveAnswer_58 rfl (lv_at hl 2 rfl) ?_
    refine xa_getr G fd_X4 (a := 32) (x := 33) 3 rfl (by decide) rfl (wm 2 147 rfl rfl) ⟨rfl, rfl, rfl⟩ dX4_giveAnswer_59 rfl (G.sk 36 rfl) (by decide) rfl ?_
    refine xc_iV G (b := 33) (rest := []) (As := []) (c_X9_kindOfTop ω l μ38 33 (by unfold isRow; decide) hI_40) (wm 6 83 rfl rfl) (wm 5 152 rfl rfl) (wm 5 153 rfl rfl) rfl rfl (by decide) rfl (wm 1 10 rfl rfl) (wm 5 154 rfl rfl) (by decide) hR (by decide) (n := 0) rfl rfl (Nat.le_of_ble_eq_true rfl) hl.1 dX4_giveAnswer_62 (fun r_55 μ54 ρ d0 H locs hr_r_55 hp G => ?_)
    have hr_r_55 : -2147483648 ≤ r_55 ∧ r_55 ≤ 2147483647 := hr_r_55
    have hsm_56 := hp
    have hsm_56 := Eq.symm hsm_56
    subst hsm_56
    refine lv_iconst (v := iv 4) hx hb dX4_giveAnswer_65 rfl ?_
    refine xb_icmp_ne (tgt := 98) hx hb (by unfold ir; omega) (by unfold ir; omega) dX4_giveAnswer_66 (by decide) (fun c_66 => ?_) (fun c_66 => ?_)
    · refine lv_aload_n hx hb dX4_giveAnswer_98 rfl (lv_at hl 2 rfl) ?_
      refine xa_getr G fd_X4 (a := 32) (x := 6) 2 rfl (by decide) rfl (wm 2 146 rfl rfl) ⟨rfl, rfl, rfl⟩ dX4_giveAnswer_99 rfl (G.sk 35 rfl) (by decide) rfl ?_
      refine lv_aload_n hx hb dX4_giveAnswer_102 rfl (lv_at hl 2 rfl) ?_
      refine xa_getr G fd_X4 (a := 32) (x := 33) 3 rfl (by decide) rfl (wm 2 147 rfl rfl) ⟨rfl, rfl, rfl⟩ dX4_giveAnswer_103 rfl (G.sk 36 rfl) (by decide) rfl ?_
      refine lv_aload_n hx hb dX4_giveAnswer_106 rfl (lv_at hl 2 rfl) ?_
      have e_57 : μ38.1 33 3 = max (r_9 + 1) 0 := ((F_39.1 33 (by decide) 3).trans hs_24)
      refine xc_iV G (b := 32) (rest := [.ref (oP ω 33), .ref (oP ω 6)]) (As := []) (c_X4_top ω l μ38 (max (r_9 + 1) 0) hI_40 (by omega)) (wm 6 73 rfl rfl) (wm 6 75 rfl rfl) (wm 0 80 rfl rfl) rfl rfl (by decide) rfl (wm 1 14 rfl rfl) (wm 6 76 rfl rfl) (by decide) hR (by decide) (n := 0) rfl rfl (Nat.le_of_ble_eq_true rfl) hl.1 dX4_giveAnswer_107 (fun r_59 μ58 ρ d0 H locs hr_r_59 hp G => ?_)
      have hr_r_59 : -2147483648 ≤ r_59 ∧ r_59 ≤ 2147483647 := hr_r_59
      obtain ⟨hsm_60, hp_61⟩ := hp
      have hsm_60 := Eq.symm hsm_60
      subst hsm_60
      refine lv_iload_n hx hb dX4_giveAnswer_110 rfl (lv_at hl 1 rfl) ?_
      refine lv_aload_n hx hb dX4_giveAnswer_111 rfl (lv_at hl 2 rfl) ?_
      refine xa_getr G fd_X4 (a := 32) (x := 52) 7 rfl (by decide) rfl (wm 2 151 rfl rfl) ⟨rfl, rfl, rfl⟩ dX4_giveAnswer_112 rfl (G.sk 40 rfl) (by decide) rfl ?_
      refine xc_iV G (b := 52) (rest := [.int (iv r_5), .int (iv r_59), .ref (oP ω 33), .ref (oP ω 6)]) (As := []) (c_X2_tongue ω l μ38  hI_40) (wm 5 218 rfl rfl) (wm 5 219 rfl rfl) (wm 5 220 rfl rfl) rfl rfl (by decide) rfl (wm 1 16 rfl rfl) (wm 5 221 rfl rfl) (by decide) hR (by decide) (n := 0) rfl rfl (Nat.le_of_ble_eq_true rfl) hl.1 dX4_giveAnswer_115 (fun r_63 μ62 ρ d0 H locs hr_r_63 hp G => ?_)
      have hr_r_63 : -2147483648 ≤ r_63 ∧ r_63 ≤ 2147483647 := hr_r_63
      obtain ⟨hsm_64, hp_65⟩ := hp
      have hsm_64 := Eq.symm hsm_64
      subst hsm_64
      have e_66 : μ38.1 33 3 = max (r_9 + 1) 0 := ((F_39.1 33 (by decide) 3).trans hs_24)
      refine xc_iV G (b := 6) (rest := []) (As := [.ref (oP ω 33), .int (iv r_59), .int (iv r_5), .int (iv r_63)]) (c_X0_turn ω l μ38 33 r_59 r_5 r_63 (by unfold isRow; decide) (by unfold ir; omega) (by unfold ir; omega) (by unfold ir; omega) hI_40) (wm 6 32 rfl rfl) (wm 6 33 rfl rfl) (wm 6 34 rfl rfl) rfl rfl (by decide) rfl (wm 1 7 rfl rfl) (wm 6 35 rfl rfl) (by decide) hR (by decide) (n := 4) rfl rfl (Nat.le_of_ble_eq_true rfl) hl.1 dX4_giveAnswer_118 (fun r_68 μ67 ρ d0 H locs hr_r_68 hp G => ?_)
      have hr_r_68 : -2147483648 ≤ r_68 ∧ r_68 ≤ 2147483647 := hr_r_68
      obtain ⟨F_69, hI_70, hp_71, hp_72, hs_73⟩ := hp
      refine xb_if_ne (tgt := 131) hx hb (by unfold ir; omega) dX4_giveAnswer_121 (by decide) (fun c_121 => ?_) (fun c_121 => ?_)
      · have e_74 : μ67.1 33 3 = max (r_9 + 1) 0 := (hs_73.trans ((F_39.1 33 (by decide) 3).trans hs_24))
        have e_75 : μ67.1 32 13 = μ.1 32 13 := ((F_69.1 32 (by decide) 13).trans (hs_44.trans ((F_22.1 32 (by decide) 13).trans (F_18.1 32 (by decide) 13))))
        have e_76 : μ67.1 52 7 = n - 1 := ((F_69.1 52 (by decide) 7).trans hs_41)
        have e_77 : μ67.1 32 12 = μ38.1 32 12 := (F_69.1 32 (by decide) 12)
        have e_78 : ofF μ67 53 = ofF μ38 53 := (ofF_fr F_69 (by decide) (by decide))
        have h0_e : μ67.1 52 7 = n - 1 ∧ μ67.1 32 12 = μ.1 58 (n - 1) + 1 ∧ ((μ67.1 33 3 ≤ max (μ.1 57 (n - 1) + 1) 1 ∧ (μ67.1 32 13 = 0 ∨ μ67.1 32 13 = 1 ∨ μ67.1 32 13 = 4)) ∨ (μ67.1 33 3 ≤ max (μ.1 57 (n - 1)) 0 ∧ μ67.1 32 13 = 2)) := by
          exact ⟨by omega, by omega, Or.inl ⟨by omega, by omega⟩⟩
        have e_79 : μ67.1 70 2 = μ.1 70 2 := ((F_69.1 70 (by decide) 2).trans ((F_39.1 70 (by decide) 2).trans ((F_22.1 70 (by decide) 2).trans (F_18.1 70 (by decide) 2))))
        have e_80 : μ67.1 70 2 = μ.1 70 2 := ((F_69.1 70 (by decide) 2).trans ((F_39.1 70 (by decide) 2).trans ((F_22.1 70 (by decide) 2).trans (F_18.1 70 (by decide) 2))))
        have e_81 : μ67.1 70 8 = μ.1 70 8 := ((F_69.1 70 (by decide) 8).trans ((F_39.1 70 (by decide) 8).trans ((F_22.1 70 (by decide) 8).trans (F_18.1 70 (by decide) 8))))
        have e_82 : μ67.1 70 8 = μ.1 70 8 := ((F_69.1 70 (by decide) 8).trans ((F_39.1 70 (by decide) 8).trans ((F_22.1 70 (by decide) 8).trans (F_18.1 70 (by decide) 8))))
        have e_83 : μ67.1 45 1 = μ.1 45 1 := ((F_69.1 45 (by decide) 1).trans ((F_39.1 45 (by decide) 1).trans ((F_22.1 45 (by decide) 1).trans (F_18.1 45 (by decide) 1))))
        have e_84 : μ67.1 70 2 = μ.1 70 2 := ((F_69.1 70 (by decide) 2).trans ((F_39.1 70 (by decide) 2).trans ((F_22.1 70 (by decide) 2).trans (F_18.1 70 (by decide) 2))))
        have e_85 : μ67.1 32 13 = μ.1 32 13 := ((F_69.1 32 (by decide) 13).trans (hs_44.trans ((F_22.1 32 (by decide) 13).trans (F_18.1 32 (by decide) 13))))
        have e_86 : μ67.1 32 15 = μ.1 32 15 := ((F_69.1 32 (by decide) 15).trans (hs_46.trans ((F_22.1 32 (by decide) 15).trans (F_18.1 32 (by decide) 15))))
        have e_87 : μ67.1 32 16 = μ.1 32 16 := ((F_69.1 32 (by decide) 16).trans (hs_47.trans ((F_22.1 32 (by decide) 16).trans (F_18.1 32 (by decide) 16))))
        have e_88 : μ67.1 70 1 = μ.1 70 1 := ((F_69.1 70 (by decide) 1).trans ((F_39.1 70 (by decide) 1).trans ((F_22.1 70 (by decide) 1).trans (F_18.1 70 (by decide) 1))))
        have e_89 : μ67.1 70 3 = μ.1 70 3 := ((F_69.1 70 (by decide) 3).trans ((F_39.1 70 (by decide) 3).trans ((F_22.1 70 (by decide) 3).trans (F_18.1 70 (by decide) 3))))
        have e_90 : μ67.1 70 4 = μ.1 70 4 := ((F_69.1 70 (by decide) 4).trans ((F_39.1 70 (by decide) 4).trans ((F_22.1 70 (by decide) 4).trans (F_18.1 70 (by decide) 4))))
        have e_91 : μ67.1 70 5 = μ.1 70 5 := ((F_69.1 70 (by decide) 5).trans ((F_39.1 70 (by decide) 5).trans ((F_22.1 70 (by decide) 5).trans (F_18.1 70 (by decide) 5))))
        have e_92 : μ67.1 70 7 = μ.1 70 7 := ((F_69.1 70 (by decide) 7).trans ((F_39.1 70 (by decide) 7).trans ((F_22.1 70 (by decide) 7).trans (F_18.1 70 (by decide) 7))))
        have e_93 : μ67.1 45 4 = μ.1 45 4 := ((F_69.1 45 (by decide) 4).trans ((F_39.1 45 (by decide) 4).trans ((F_22.1 45 (by decide) 4).trans (F_18.1 45 (by decide) 4))))
        exact xr_v G hret hlk dX4_giveAnswer_131 ⟨(Fr.tr (Fr.tr (Fr.tr (Fr.tr Fr.rf F_18 (by decide)) F_22 (by decide)) F_39 (by decide)) F_69 (by decide)), hI_70, h0_e, (fun _ => by rw [show μ67.1 32 10 = μ38.1 32 10 from (F_69.1 32 (by decide) 10)]; exact hB_48), (by omega), (by omega), (by omega), (by omega), (by omega), (by omega), (by omega), (by omega), (by omega), (by omega)⟩
      · refine lv_aload_n hx hb dX4_giveAnswer_124 rfl (lv_at hl 2 rfl) ?_
        refine lv_bipush (v := iv 9) hx hb dX4_giveAnswer_125 rfl ?_
        refine lv_iconst (v := iv 1) hx hb dX4_giveAnswer_127 rfl ?_
        have e_94 : μ67.1 33 3 = max (r_9 + 1) 0 := (hs_73.trans ((F_39.1 33 (by decide) 3).trans hs_24))
        have e_95 : μ67.1 70 2 = μ.1 70 2 := ((F_69.1 70 (by decide) 2).trans ((F_39.1 70 (by decide) 2).trans ((F_22.1 70 (by decide) 2).trans (F_18.1 70 (by decide) 2))))
        have e_96 : μ67.1 70 2 = μ.1 70 2 := ((F_69.1 70 (by decide) 2).trans ((F_39.1 70 (by decide) 2).trans ((F_22.1 70 (by decide) 2).trans (F_18.1 70 (by decide) 2))))
        have e_97 : μ67.1 70 8 = μ.1 70 8 := ((F_69.1 70 (by decide) 8).trans ((F_39.1 70 (by decide) 8).trans ((F_22.1 70 (by decide) 8).trans (F_18.1 70 (by decide) 8))))
        have e_98 : μ67.1 70 8 = μ.1 70 8 := ((F_69.1 70 (by decide) 8).trans ((F_39.1 70 (by decide) 8).trans ((F_22.1 70 (by decide) 8).trans (F_18.1 70 (by decide) 8))))
        have hn_99 : 0 ≤ μ.1 45 1 ∧ 9 * μ.1 45 1 ≤ μ.2.1 46 := hI.nm.2.2.2.2.2.2.1
        have e_100 : μ67.1 45 1 = μ.1 45 1 := ((F_69.1 45 (by decide) 1).trans ((F_39.1 45 (by decide) 1).trans ((F_22.1 45 (by decide) 1).trans (F_18.1 45 (by decide) 1))))
        have e_101 : μ67.1 70 2 = μ.1 70 2 := ((F_69.1 70 (by decide) 2).trans ((F_39.1 70 (by decide) 2).trans ((F_22.1 70 (by decide) 2).trans (F_18.1 70 (by decide) 2))))
        have e_102 : μ67.1 32 13 = μ.1 32 13 := ((F_69.1 32 (by decide) 13).trans (hs_44.trans ((F_22.1 32 (by decide) 13).trans (F_18.1 32 (by decide) 13))))
        have e_103 : ofF μ67 53 = ofF μ38 53 := (ofF_fr F_69 (by decide) (by decide))
        have e_104 : μ67.1 70 2 = μ.1 70 2 := ((F_69.1 70 (by decide) 2).trans ((F_39.1 70 (by decide) 2).trans ((F_22.1 70 (by decide) 2).trans (F_18.1 70 (by decide) 2))))
        have e_105 : μ67.1 70 1 = μ.1 70 1 := ((F_69.1 70 (by decide) 1).trans ((F_39.1 70 (by decide) 1).trans ((F_22.1 70 (by decide) 1).trans (F_18.1 70 (by decide) 1))))
        have e_106 : μ67.1 70 3 = μ.1 70 3 := ((F_69.1 70 (by decide) 3).trans ((F_39.1 70 (by decide) 3).trans ((F_22.1 70 (by decide) 3).trans (F_18.1 70 (by decide) 3))))
        have e_107 : μ67.1 70 4 = μ.1 70 4 := ((F_69.1 70 (by decide) 4).trans ((F_39.1 70 (by decide) 4).trans ((F_22.1 70 (by decide) 4).trans (F_18.1 70 (by decide) 4))))
        have e_108 : μ67.1 70 5 = μ.1 70 5 := ((F_69.1 70 (by decide) 5).trans ((F_39.1 70 (by decide) 5).trans ((F_22.1 70 (by decide) 5).trans (F_18.1 70 (by decide) 5))))
        have e_109 : μ67.1 70 6 = μ.1 70 6 := ((F_69.1 70 (by decide) 6).trans ((F_39.1 70 (by decide) 6).trans ((F_22.1 70 (by decide) 6).trans (F_18.1 70 (by decide) 6))))
        have e_110 : μ67.1 70 7 = μ.1 70 7 := ((F_69.1 70 (by decide) 7).trans ((F_39.1 70 (by decide) 7).trans ((F_22.1 70 (by decide) 7).trans (F_18.1 70 (by decide) 7))))
        have e_111 : μ67.1 32 10 = μ38.1 32 10 := (F_69.1 32 (by decide) 10)
        have e_112 : μ67.1 32 11 = μ38.1 32 11 := (F_69.1 32 (by decide) 11)
        have e_113 : μ67.1 32 12 = μ38.1 32 12 := (F_69.1 32 (by decide) 12)
        have e_114 : μ67.1 32 15 = μ.1 32 15 := ((F_69.1 32 (by decide) 15).trans (hs_46.trans ((F_22.1 32 (by decide) 15).trans (F_18.1 32 (by decide) 15))))
        have e_115 : μ67.1 32 16 = μ.1 32 16 := ((F_69.1 32 (by decide) 16).trans (hs_47.trans ((F_22.1 32 (by decide) 16).trans (F_18.1 32 (by decide) 16))))
        have hn_116 : 0 ≤ μ.1 45 4 ∧ 2 * μ.1 45 4 ≤ μ.2.1 51 := hI.nm.2.2.2.2.2.2.2.1
        have e_117 : μ67.1 45 4 = μ.1 45 4 := ((F_69.1 45 (by decide) 4).trans ((F_39.1 45 (by decide) 4).trans ((F_22.1 45 (by decide) 4).trans (F_18.1 45 (by decide) 4))))
        refine xc_vV G (b := 32) (rest := []) (As := [.int (iv 9), .int (iv 1)]) (c_X4_fails ω l μ67 9 1 (max (r_9 + 1) 0) (by unfold ir; omega) (by unfold ir; omega) hI_70 (by omega) (by omega) (by omega) (by omega)) (wm 6 93 rfl rfl) (wm 6 95 rfl rfl) (wm 0 82 rfl rfl) rfl rfl (by decide) rfl (wm 1 14 rfl rfl) (wm 6 96 rfl rfl) (by decide) hR (by decide) (n := 2) rfl rfl (Nat.le_of_ble_eq_true rfl) hl.1 dX4_giveAnswer_128 (fun μ118 ρ d0 H locs hp G => ?_)
        obtain ⟨F_119, hI_120, hp_121, hp_122, hs_123, hs_124, hs_125, hs_126, hs_127, hs_128, hs_129, hs_130, hs_131, hs_132, hs_133, hs_134⟩ := hp
        have hk_135 := hI_120.row (r := 33) (by unfold isRow; decide)
        unfold rk at hk_135
        simp only [Int.reduceAdd] at hk_135
        have hn_136 : 0 ≤ μ118.1 45 1 ∧ 9 * μ118.1 45 1 ≤ μ118.2.1 46 := hI_120.nm.2.2.2.2.2.2.1
        have e_137 : μ118.1 52 7 = n - 1 := ((F_119.1 52 (by decide) 7).trans ((F_69.1 52 (by decide) 7).trans hs_41))
        have e_138 : μ118.1 32 12 = μ38.1 32 12 := (hs_131.trans (F_69.1 32 (by decide) 12))
        have e_139 : ofF μ118 53 = ofF μ38 53 := ((ofF_fr F_119 (by decide) (by decide)).trans (ofF_fr F_69 (by decide) (by decide)))
        have h0_e : μ118.1 52 7 = n - 1 ∧ μ118.1 32 12 = μ.1 58 (n - 1) + 1 ∧ ((μ118.1 33 3 ≤ max (μ.1 57 (n - 1) + 1) 1 ∧ (μ118.1 32 13 = 0 ∨ μ118.1 32 13 = 1 ∨ μ118.1 32 13 = 4)) ∨ (μ118.1 33 3 ≤ max (μ.1 57 (n - 1)) 0 ∧ μ118.1 32 13 = 2)) := by
          rcases hp_121 with ⟨q1, q2, q3⟩ | ⟨q1, q2⟩
          · exact ⟨by omega, by omega, Or.inl ⟨by omega, by omega⟩⟩
          · exact ⟨by omega, by omega, Or.inl ⟨by omega, by omega⟩⟩
        have e_140 : μ118.1 32 15 = μ.1 32 15 := (hs_132.trans ((F_69.1 32 (by decide) 15).trans (hs_46.trans ((F_22.1 32 (by decide) 15).trans (F_18.1 32 (by decide) 15)))))
        have e_141 : μ118.1 32 16 = μ.1 32 16 := (hs_133.trans ((F_69.1 32 (by decide) 16).trans (hs_47.trans ((F_22.1 32 (by decide) 16).trans (F_18.1 32 (by decide) 16)))))
        have e_142 : μ118.1 70 1 = μ.1 70 1 := (hs_123.trans ((F_69.1 70 (by decide) 1).trans ((F_39.1 70 (by decide) 1).trans ((F_22.1 70 (by decide) 1).trans (F_18.1 70 (by decide) 1)))))
        have e_143 : μ118.1 70 3 = μ.1 70 3 := (hs_124.trans ((F_69.1 70 (by decide) 3).trans ((F_39.1 70 (by decide) 3).trans ((F_22.1 70 (by decide) 3).trans (F_18.1 70 (by decide) 3)))))
        have e_144 : μ118.1 70 4 = μ.1 70 4 := (hs_125.trans ((F_69.1 70 (by decide) 4).trans ((F_39.1 70 (by decide) 4).trans ((F_22.1 70 (by decide) 4).trans (F_18.1 70 (by decide) 4)))))
        have e_145 : μ118.1 70 5 = μ.1 70 5 := (hs_126.trans ((F_69.1 70 (by decide) 5).trans ((F_39.1 70 (by decide) 5).trans ((F_22.1 70 (by decide) 5).trans (F_18.1 70 (by decide) 5)))))
        have e_146 : μ118.1 70 7 = μ.1 70 7 := (hs_128.trans ((F_69.1 70 (by decide) 7).trans ((F_39.1 70 (by decide) 7).trans ((F_22.1 70 (by decide) 7).trans (F_18.1 70 (by decide) 7)))))
        have e_147 : μ118.1 45 4 = μ.1 45 4 := (hs_134.trans ((F_69.1 45 (by decide) 4).trans ((F_39.1 45 (by decide) 4).trans ((F_22.1 45 (by decide) 4).trans (F_18.1 45 (by decide) 4)))))
        exact xr_v G hret hlk dX4_giveAnswer_131 ⟨(Fr.tr (Fr.tr (Fr.tr (Fr.tr (Fr.tr Fr.rf F_18 (by decide)) F_22 (by decide)) F_39 (by decide)) F_69 (by decide)) F_119 (by decide)), hI_120, h0_e, (fun _ => by rw [show μ118.1 32 10 = μ38.1 32 10 from (hs_129.trans (F_69.1 32 (by decide) 10))]; exact hB_48), (by omega), (by omega), (by omega), (by omega), (by omega), (by omega), (by omega), (by omega), (by omega), (by omega)⟩
    · refine lv_aload_n hx hb dX4_giveAnswer_69 rfl (lv_at hl 2 rfl) ?_
      refine xa_getr G fd_X4 (a := 32) (x := 33) 3 rfl (by decide) rfl (wm 2 147 rfl rfl) ⟨rfl, rfl, rfl⟩ dX4_giveAnswer_70 rfl (G.sk 36 rfl) (by decide) rfl ?_
      refine lv_aload_n hx hb dX4_giveAnswer_73 rfl (lv_at hl 2 rfl) ?_
      have e_148 : μ38.1 33 3 = max (r_9 + 1) 0 := ((F_39.1 33 (by decide) 3).trans hs_24)
      refine xc_iV G (b := 32) (rest := [.ref (oP ω 33)]) (As := []) (c_X4_top ω l μ38 (max (r_9 + 1) 0) hI_40 (by omega)) (wm 6 73 rfl rfl) (wm 6 75 rfl rfl) (wm 0 80 rfl rfl) rfl rfl (by decide) rfl (wm 1 14 rfl rfl) (wm 6 76 rfl rfl) (by decide) hR (by decide) (n := 0) rfl rfl (Nat.le_of_ble_eq_true rfl) hl.1 dX4_giveAnswer_74 (fun r_150 μ149 ρ d0 H locs hr_r_150 hp G => ?_)
      have hr_r_150 : -2147483648 ≤ r_150 ∧ r_150 ≤ 2147483647 := hr_r_150
      obtain ⟨hsm_151, hp_152⟩ := hp
      have hsm_151 := Eq.symm hsm_151
      subst hsm_151
      refine xc_lV G (b := 33) (rest := []) (As := [.int (iv r_150)]) (c_X9_whole ω l μ38 33 r_150 (by unfold isRow; decide) (by unfold ir; omega) hI_40) (wm 6 84 rfl rfl) (wm 5 160 rfl rfl) (wm 5 161 rfl rfl) rfl rfl (by decide) rfl (wm 1 10 rfl rfl) (wm 5 162 rfl rfl) (by decide) hR (by decide) (n := 1) rfl rfl (Nat.le_of_ble_eq_true rfl) hl.1 dX4_giveAnswer_77 (fun r_154 μ153 ρ d0 H locs hr_r_154 hp G => ?_)
      have hsm_155 := hp
      have hsm_155 := Eq.symm hsm_155
      subst hsm_155
      refine xb_l2i hx hb dX4_giveAnswer_80 ?_
      refine xb_topi (fun y_156 hr_y_156 he_y_156 => ?_)
      have hr_y_156 : -2147483648 ≤ y_156 ∧ y_156 ≤ 2147483647 := hr_y_156
      refine lv_istore_n (lv' := [(3, .int (iv y_156)), (2, .int (iv r_9)), (1, .int (iv r_5)), (0, .ref (oP ω 32))]) hx hb dX4_giveAnswer_81 rfl hl (by decide) rfl (fun ls hl => ?_)
      refine lv_aload_n hx hb dX4_giveAnswer_82 rfl (lv_at hl 3 rfl) ?_
      refine xa_getr G fd_X4 (a := 32) (x := 33) 3 rfl (by decide) rfl (wm 2 147 rfl rfl) ⟨rfl, rfl, rfl⟩ dX4_giveAnswer_83 rfl (G.sk 36 rfl) (by decide) rfl ?_
      refine lv_iconst (v := iv 1) hx hb dX4_giveAnswer_86 rfl ?_
      have e_157 : μ38.1 33 3 = max (r_9 + 1) 0 := ((F_39.1 33 (by decide) 3).trans hs_24)
      refine xc_vV G (b := 33) (rest := []) (As := [.int (iv 1)]) (c_X9_drop ω l μ38 33 1 (max (r_9 + 1) 0) (by unfold isRow; decide) (by unfold ir; omega) hI_40 (by omega) (by omega)) (wm 6 89 rfl rfl) (wm 6 90 rfl rfl) (wm 6 91 rfl rfl) rfl rfl (by decide) rfl (wm 1 10 rfl rfl) (wm 6 92 rfl rfl) (by decide) hR (by decide) (n := 1) rfl rfl (Nat.le_of_ble_eq_true rfl) hl.1 dX4_giveAnswer_87 (fun μ158 ρ d0 H locs hp G => ?_)
      obtain ⟨F_159, hI_160, hs_161⟩ := hp
      refine lv_aload_n hx hb dX4_giveAnswer_90 rfl (lv_at hl 3 rfl) ?_
      refine lv_iload_n hx hb dX4_giveAnswer_91 rfl (lv_at hl 0 rfl) ?_
      have e_162 : μ158.1 33 3 = max ((max (r_9 + 1) 0) - 1) 0 := hs_161
      have e_163 : μ158.1 70 2 = μ.1 70 2 := ((F_159.1 70 (by decide) 2).trans ((F_39.1 70 (by decide) 2).trans ((F_22.1 70 (by decide) 2).trans (F_18.1 70 (by decide) 2))))
      have e_164 : μ158.1 70 2 = μ.1 70 2 := ((F_159.1 70 (by decide) 2).trans ((F_39.1 70 (by decide) 2).trans ((F_22.1 70 (by decide) 2).trans (F_18.1 70 (by decide) 2))))
      have e_165 : μ158.1 70 8 = μ.1 70 8 := ((F_159.1 70 (by decide) 8).trans ((F_39.1 70 (by decide) 8).trans ((F_22.1 70 (by decide) 8).trans (F_18.1 70 (by decide) 8))))
      have e_166 : μ158.1 70 8 = μ.1 70 8 := ((F_159.1 70 (by decide) 8).trans ((F_39.1 70 (by decide) 8).trans ((F_22.1 70 (by decide) 8).trans (F_18.1 70 (by decide) 8))))
      have hn_167 : 0 ≤ μ.1 45 1 ∧ 9 * μ.1 45 1 ≤ μ.2.1 46 := hI.nm.2.2.2.2.2.2.1
      have e_168 : μ158.1 45 1 = μ.1 45 1 := ((F_159.1 45 (by decide) 1).trans ((F_39.1 45 (by decide) 1).trans ((F_22.1 45 (by decide) 1).trans (F_18.1 45 (by decide) 1))))
      have e_169 : μ158.1 70 2 = μ.1 70 2 := ((F_159.1 70 (by decide) 2).trans ((F_39.1 70 (by decide) 2).trans ((F_22.1 70 (by decide) 2).trans (F_18.1 70 (by decide) 2))))
      have e_170 : μ158.1 32 13 = μ.1 32 13 := ((F_159.1 32 (by decide) 13).trans (hs_44.trans ((F_22.1 32 (by decide) 13).trans (F_18.1 32 (by decide) 13))))
      have e_171 : μ158.1 70 2 = μ.1 70 2 := ((F_159.1 70 (by decide) 2).trans ((F_39.1 70 (by decide) 2).trans ((F_22.1 70 (by decide) 2).trans (F_18.1 70 (by decide) 2))))
      have e_172 : ofF μ158 53 = ofF μ38 53 := (ofF_fr F_159 (by decide) (by decide))
      have e_173 : μ158.1 70 1 = μ.1 70 1 := ((F_159.1 70 (by decide) 1).trans ((F_39.1 70 (by decide) 1).trans ((F_22.1 70 (by decide) 1).trans (F_18.1 70 (by decide) 1))))
      have e_174 : μ158.1 70 3 = μ.1 70 3 := ((F_159.1 70 (by decide) 3).trans ((F_39.1 70 (by decide) 3).trans ((F_22.1 70 (by decide) 3).trans (F_18.1 70 (by decide) 3))))
      have e_175 : μ158.1 70 4 = μ.1 70 4 := ((F_159.1 70 (by decide) 4).trans ((F_39.1 70 (by decide) 4).trans ((F_22.1 70 (by decide) 4).trans (F_18.1 70 (by decide) 4))))
      have e_176 : μ158.1 70 5 = μ.1 70 5 := ((F_159.1 70 (by decide) 5).trans ((F_39.1 70 (by decide) 5).trans ((F_22.1 70 (by decide) 5).trans (F_18.1 70 (by decide) 5))))
      have e_177 : μ158.1 70 7 = μ.1 70 7 := ((F_159.1 70 (by decide) 7).trans ((F_39.1 70 (by decide) 7).trans ((F_22.1 70 (by decide) 7).trans (F_18.1 70 (by decide) 7))))
      have e_178 : μ158.1 32 10 = μ38.1 32 10 := (F_159.1 32 (by decide) 10)
      have e_179 : μ158.1 32 11 = μ38.1 32 11 := (F_159.1 32 (by decide) 11)
      have e_180 : μ158.1 32 12 = μ38.1 32 12 := (F_159.1 32 (by decide) 12)
      have e_181 : μ158.1 32 15 = μ.1 32 15 := ((F_159.1 32 (by decide) 15).trans (hs_46.trans ((F_22.1 32 (by decide) 15).trans (F_18.1 32 (by decide) 15))))
      have e_182 : μ158.1 32 16 = μ.1 32 16 := ((F_159.1 32 (by decide) 16).trans (hs_47.trans ((F_22.1 32 (by decide) 16).trans (F_18.1 32 (by decide) 16))))
      have hn_183 : 0 ≤ μ.1 45 4 ∧ 2 * μ.1 45 4 ≤ μ.2.1 51 := hI.nm.2.2.2.2.2.2.2.1
      have e_184 : μ158.1 45 4 = μ.1 45 4 := ((F_159.1 45 (by decide) 4).trans ((F_39.1 45 (by decide) 4).trans ((F_22.1 45 (by decide) 4).trans (F_18.1 45 (by decide) 4))))
      refine xc_vV G (b := 32) (rest := []) (As := [.int (iv y_156)]) (c_X4_turnFailure ω l μ158 y_156 (max ((max (r_9 + 1) 0) - 1) 0) (by unfold ir; omega) hI_160 (by omega) (by omega) (by omega) (by omega)) (wm 5 238 rfl rfl) (wm 6 0 rfl rfl) (wm 0 74 rfl rfl) rfl rfl (by decide) rfl (wm 1 14 rfl rfl) (wm 6 1 rfl rfl) (by decide) hR (by decide) (n := 1) rfl rfl (Nat.le_of_ble_eq_true rfl) hl.1 dX4_giveAnswer_92 (fun μ185 ρ d0 H locs hp G => ?_)
      obtain ⟨F_186, hI_187, hp_188, hp_189, hp_190, hs_191, hs_192, hs_193, hs_194, hs_195, hs_196, hs_197, hs_198, hs_199, hs_200, hs_201⟩ := hp
      have hk_202 := hI_187.row (r := 33) (by unfold isRow; decide)
      unfold rk at hk_202
      simp only [Int.reduceAdd] at hk_202
      have hn_203 : 0 ≤ μ185.1 45 1 ∧ 9 * μ185.1 45 1 ≤ μ185.2.1 46 := hI_187.nm.2.2.2.2.2.2.1
      refine lv_goto (tgt := 131) hx hb dX4_giveAnswer_95 (by decide) ?_
      have e_204 : μ185.1 52 7 = n - 1 := ((F_186.1 52 (by decide) 7).trans ((F_159.1 52 (by decide) 7).trans hs_41))
      have e_205 : μ185.1 32 12 = μ38.1 32 12 := (hs_198.trans (F_159.1 32 (by decide) 12))
      have e_206 : ofF μ185 53 = ofF μ38 53 := ((ofF_fr F_186 (by decide) (by decide)).trans (ofF_fr F_159 (by decide) (by decide)))
      have h0_e : μ185.1 52 7 = n - 1 ∧ μ185.1 32 12 = μ.1 58 (n - 1) + 1 ∧ ((μ185.1 33 3 ≤ max (μ.1 57 (n - 1) + 1) 1 ∧ (μ185.1 32 13 = 0 ∨ μ185.1 32 13 = 1 ∨ μ185.1 32 13 = 4)) ∨ (μ185.1 33 3 ≤ max (μ.1 57 (n - 1)) 0 ∧ μ185.1 32 13 = 2)) := by
        rcases hp_188 with ⟨q1, q2⟩ | ⟨q1, q2⟩
        · exact ⟨by omega, by omega, Or.inl ⟨by omega, by omega⟩⟩
        · rcases q2 with q2 | q2 | q2
          · exact ⟨by omega, by omega, Or.inl ⟨by omega, by omega⟩⟩
          · exact ⟨by omega, by omega, Or.inr ⟨by omega, by omega⟩⟩
          · exact ⟨by omega, by omega, Or.inl ⟨by omega, by omega⟩⟩
      have e_207 : μ185.1 32 15 = μ.1 32 15 := (hs_199.trans ((F_159.1 32 (by decide) 15).trans (hs_46.trans ((F_22.1 32 (by decide) 15).trans (F_18.1 32 (by decide) 15)))))
      have e_208 : μ185.1 32 16 = μ.1 32 16 := (hs_200.trans ((F_159.1 32 (by decide) 16).trans (hs_47.trans ((F_22.1 32 (by decide) 16).trans (F_18.1 32 (by decide) 16)))))
      have e_209 : μ185.1 70 1 = μ.1 70 1 := (hs_191.trans ((F_159.1 70 (by decide) 1).trans ((F_39.1 70 (by decide) 1).trans ((F_22.1 70 (by decide) 1).trans (F_18.1 70 (by decide) 1)))))
      have e_210 : μ185.1 70 3 = μ.1 70 3 := (hs_192.trans ((F_159.1 70 (by decide) 3).trans ((F_39.1 70 (by decide) 3).trans ((F_22.1 70 (by decide) 3).trans (F_18.1 70 (by decide) 3)))))
      have e_211 : μ185.1 70 4 = μ.1 70 4 := (hs_193.trans ((F_159.1 70 (by decide) 4).trans ((F_39.1 70 (by decide) 4).trans ((F_22.1 70 (by decide) 4).trans (F_18.1 70 (by decide) 4)))))
      have e_212 : μ185.1 70 5 = μ.1 70 5 := (hs_194.trans ((F_159.1 70 (by decide) 5).trans ((F_39.1 70 (by decide) 5).trans ((F_22.1 70 (by decide) 5).trans (F_18.1 70 (by decide) 5)))))
      have e_213 : μ185.1 70 7 = μ.1 70 7 := (hs_195.trans ((F_159.1 70 (by decide) 7).trans ((F_39.1 70 (by decide) 7).trans ((F_22.1 70 (by decide) 7).trans (F_18.1 70 (by decide) 7)))))
      have e_214 : μ185.1 45 4 = μ.1 45 4 := (hs_201.trans ((F_159.1 45 (by decide) 4).trans ((F_39.1 45 (by decide) 4).trans ((F_22.1 45 (by decide) 4).trans (F_18.1 45 (by decide) 4)))))
      exact xr_v G hret hlk dX4_giveAnswer_131 ⟨(Fr.tr (Fr.tr (Fr.tr (Fr.tr (Fr.tr Fr.rf F_18 (by decide)) F_22 (by decide)) F_39 (by decide)) F_159 (by decide)) F_186 (by decide)), hI_187, h0_e, (fun _ => by rw [show μ185.1 32 10 = μ38.1 32 10 from (hs_196.trans (F_159.1 32 (by decide) 10))]; exact hB_48), (by omega), (by omega), (by omega), (by omega), (by omega), (by omega), (by omega), (by omega), (by omega), (by omega)⟩
  · have e_215 : μ38.1 33 3 = max (r_9 + 1) 0 := ((F_39.1 33 (by decide) 3).trans hs_24)
    have e_216 : μ38.1 32 13 = μ.1 32 13 := (hs_44.trans ((F_22.1 32 (by decide) 13).trans (F_18.1 32 (by decide) 13)))
    have e_217 : μ38.1 52 7 = n - 1 := hs_41
    have h0_e : μ38.1 52 7 = n - 1 ∧ μ38.1 32 12 = μ.1 58 (n - 1) + 1 ∧ ((μ38.1 33 3 ≤ max (μ.1 57 (n - 1) + 1) 1 ∧ (μ38.1 32 13 = 0 ∨ μ38.1 32 13 = 1 ∨ μ38.1 32 13 = 4)) ∨ (μ38.1 33 3 ≤ max (μ.1 57 (n - 1)) 0 ∧ μ38.1 32 13 = 2)) := by
      exact ⟨by omega, by omega, Or.inl ⟨by omega, by omega⟩⟩
    have e_218 : μ38.1 70 2 = μ.1 70 2 := ((F_39.1 70 (by decide) 2).trans ((F_22.1 70 (by decide) 2).trans (F_18.1 70 (by decide) 2)))
    have e_219 : μ38.1 70 2 = μ.1 70 2 := ((F_39.1 70 (by decide) 2).trans ((F_22.1 70 (by decide) 2).trans (F_18.1 70 (by decide) 2)))
    have e_220 : μ38.1 70 8 = μ.1 70 8 := ((F_39.1 70 (by decide) 8).trans ((F_22.1 70 (by decide) 8).trans (F_18.1 70 (by decide) 8)))
    have e_221 : μ38.1 70 8 = μ.1 70 8 := ((F_39.1 70 (by decide) 8).trans ((F_22.1 70 (by decide) 8).trans (F_18.1 70 (by decide) 8)))
    have e_222 : μ38.1 45 1 = μ.1 45 1 := ((F_39.1 45 (by decide) 1).trans ((F_22.1 45 (by decide) 1).trans (F_18.1 45 (by decide) 1)))
    have e_223 : μ38.1 70 2 = μ.1 70 2 := ((F_39.1 70 (by decide) 2).trans ((F_22.1 70 (by decide) 2).trans (F_18.1 70 (by decide) 2)))
    have e_224 : μ38.1 32 13 = μ.1 32 13 := (hs_44.trans ((F_22.1 32 (by decide) 13).trans (F_18.1 32 (by decide) 13)))
    have e_225 : μ38.1 32 15 = μ.1 32 15 := (hs_46.trans ((F_22.1 32 (by decide) 15).trans (F_18.1 32 (by decide) 15)))
    have e_226 : μ38.1 32 16 = μ.1 32 16 := (hs_47.trans ((F_22.1 32 (by decide) 16).trans (F_18.1 32 (by decide) 16)))
    have e_227 : μ38.1 70 1 = μ.1 70 1 := ((F_39.1 70 (by decide) 1).trans ((F_22.1 70 (by decide) 1).trans (F_18.1 70 (by decide) 1)))
    have e_228 : μ38.1 70 3 = μ.1 70 3 := ((F_39.1 70 (by decide) 3).trans ((F_22.1 70 (by decide) 3).trans (F_18.1 70 (by decide) 3)))
    have e_229 : μ38.1 70 4 = μ.1 70 4 := ((F_39.1 70 (by decide) 4).trans ((F_22.1 70 (by decide) 4).trans (F_18.1 70 (by decide) 4)))
    have e_230 : μ38.1 70 5 = μ.1 70 5 := ((F_39.1 70 (by decide) 5).trans ((F_22.1 70 (by decide) 5).trans (F_18.1 70 (by decide) 5)))
    have e_231 : μ38.1 70 7 = μ.1 70 7 := ((F_39.1 70 (by decide) 7).trans ((F_22.1 70 (by decide) 7).trans (F_18.1 70 (by decide) 7)))
    have e_232 : μ38.1 45 4 = μ.1 45 4 := ((F_39.1 45 (by decide) 4).trans ((F_22.1 45 (by decide) 4).trans (F_18.1 45 (by decide) 4)))
    exact xr_v G hret hlk dX4_giveAnswer_57 ⟨(Fr.tr (Fr.tr (Fr.tr Fr.rf F_18 (by decide)) F_22 (by decide)) F_39 (by decide)), hI_40, h0_e, (fun _ => by rw [show μ38.1 32 10 = μ38.1 32 10 from rfl]; exact hB_48), (by omega), (by omega), (by omega), (by omega), (by omega), (by omega), (by omega), (by omega), (by omega), (by omega)⟩
