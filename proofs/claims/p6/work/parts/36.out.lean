abbrev cX4_outOfFunction : ByteArray := prog_6_method_28_code
def yX4_outOfFunction : MethodName := ⟨RX4, "outOfFunction", "(I)V"⟩
abbrev cX4_giveAnswer : ByteArray := prog_6_method_33_code
def yX4_giveAnswer : MethodName := ⟨RX4, "giveAnswer", "()V"⟩
theorem dX4_outOfFunction_0 : decode cX4_outOfFunction 0 = .ok (.aload_n 0, 1) := by decide +kernel
theorem dX4_outOfFunction_1 : decode cX4_outOfFunction 1 = .ok (.getfield 36, 3) := by decide +kernel
theorem dX4_outOfFunction_4 : decode cX4_outOfFunction 4 = .ok (.invokevirtual 339, 3) := by decide +kernel
theorem dX4_outOfFunction_7 : decode cX4_outOfFunction 7 = .ok (.iconst 1, 1) := by decide +kernel
theorem dX4_outOfFunction_8 : decode cX4_outOfFunction 8 = .ok (.if_icmp .gt 14, 3) := by decide +kernel
theorem dX4_outOfFunction_11 : decode cX4_outOfFunction 11 = .ok (.aload_n 0, 1) := by decide +kernel
theorem dX4_outOfFunction_12 : decode cX4_outOfFunction 12 = .ok (.iload_n 1, 1) := by decide +kernel
theorem dX4_outOfFunction_13 : decode cX4_outOfFunction 13 = .ok (.putfield 64, 3) := by decide +kernel
theorem dX4_outOfFunction_16 : decode cX4_outOfFunction 16 = .ok (.aload_n 0, 1) := by decide +kernel
theorem dX4_outOfFunction_17 : decode cX4_outOfFunction 17 = .ok (.iconst 1, 1) := by decide +kernel
theorem dX4_outOfFunction_18 : decode cX4_outOfFunction 18 = .ok (.invokevirtual 158, 3) := by decide +kernel
theorem dX4_outOfFunction_21 : decode cX4_outOfFunction 21 = .ok (.return_, 1) := by decide +kernel
theorem dX4_outOfFunction_22 : decode cX4_outOfFunction 22 = .ok (.aload_n 0, 1) := by decide +kernel
theorem dX4_outOfFunction_23 : decode cX4_outOfFunction 23 = .ok (.getfield 36, 3) := by decide +kernel
theorem dX4_outOfFunction_26 : decode cX4_outOfFunction 26 = .ok (.invokevirtual 268, 3) := by decide +kernel
theorem dX4_outOfFunction_29 : decode cX4_outOfFunction 29 = .ok (.istore_n 2, 1) := by decide +kernel
theorem dX4_outOfFunction_30 : decode cX4_outOfFunction 30 = .ok (.aload_n 0, 1) := by decide +kernel
theorem dX4_outOfFunction_31 : decode cX4_outOfFunction 31 = .ok (.getfield 14, 3) := by decide +kernel
theorem dX4_outOfFunction_34 : decode cX4_outOfFunction 34 = .ok (.aload_n 0, 1) := by decide +kernel
theorem dX4_outOfFunction_35 : decode cX4_outOfFunction 35 = .ok (.getfield 36, 3) := by decide +kernel
theorem dX4_outOfFunction_38 : decode cX4_outOfFunction 38 = .ok (.invokevirtual 340, 3) := by decide +kernel
theorem dX4_outOfFunction_41 : decode cX4_outOfFunction 41 = .ok (.invokevirtual 151, 3) := by decide +kernel
theorem dX4_outOfFunction_44 : decode cX4_outOfFunction 44 = .ok (.aload_n 0, 1) := by decide +kernel
theorem dX4_outOfFunction_45 : decode cX4_outOfFunction 45 = .ok (.invokevirtual 341, 3) := by decide +kernel
theorem dX4_outOfFunction_48 : decode cX4_outOfFunction 48 = .ok (.iload_n 2, 1) := by decide +kernel
theorem dX4_outOfFunction_49 : decode cX4_outOfFunction 49 = .ok (.aload_n 0, 1) := by decide +kernel
theorem dX4_outOfFunction_50 : decode cX4_outOfFunction 50 = .ok (.getfield 36, 3) := by decide +kernel
theorem dX4_outOfFunction_53 : decode cX4_outOfFunction 53 = .ok (.invokevirtual 268, 3) := by decide +kernel
theorem dX4_outOfFunction_56 : decode cX4_outOfFunction 56 = .ok (.if_icmp .eq 11, 3) := by decide +kernel
theorem dX4_outOfFunction_59 : decode cX4_outOfFunction 59 = .ok (.aload_n 0, 1) := by decide +kernel
theorem dX4_outOfFunction_60 : decode cX4_outOfFunction 60 = .ok (.iload_n 1, 1) := by decide +kernel
theorem dX4_outOfFunction_61 : decode cX4_outOfFunction 61 = .ok (.invokevirtual 344, 3) := by decide +kernel
theorem dX4_outOfFunction_64 : decode cX4_outOfFunction 64 = .ok (.goto 22, 3) := by decide +kernel
theorem dX4_outOfFunction_67 : decode cX4_outOfFunction 67 = .ok (.aload_n 0, 1) := by decide +kernel
theorem dX4_outOfFunction_68 : decode cX4_outOfFunction 68 = .ok (.iload_n 1, 1) := by decide +kernel
theorem dX4_outOfFunction_69 : decode cX4_outOfFunction 69 = .ok (.putfield 61, 3) := by decide +kernel
theorem dX4_outOfFunction_72 : decode cX4_outOfFunction 72 = .ok (.aload_n 0, 1) := by decide +kernel
theorem dX4_outOfFunction_73 : decode cX4_outOfFunction 73 = .ok (.iload_n 2, 1) := by decide +kernel
theorem dX4_outOfFunction_74 : decode cX4_outOfFunction 74 = .ok (.iconst 1, 1) := by decide +kernel
theorem dX4_outOfFunction_75 : decode cX4_outOfFunction 75 = .ok (.if_icmp .ne 7, 3) := by decide +kernel
theorem dX4_outOfFunction_78 : decode cX4_outOfFunction 78 = .ok (.iconst 2, 1) := by decide +kernel
theorem dX4_outOfFunction_79 : decode cX4_outOfFunction 79 = .ok (.goto 4, 3) := by decide +kernel
theorem dX4_outOfFunction_82 : decode cX4_outOfFunction 82 = .ok (.iconst 1, 1) := by decide +kernel
theorem dX4_outOfFunction_83 : decode cX4_outOfFunction 83 = .ok (.putfield 58, 3) := by decide +kernel
theorem dX4_outOfFunction_86 : decode cX4_outOfFunction 86 = .ok (.return_, 1) := by decide +kernel
theorem dX4_giveAnswer_0 : decode cX4_giveAnswer 0 = .ok (.aload_n 0, 1) := by decide +kernel
theorem dX4_giveAnswer_1 : decode cX4_giveAnswer 1 = .ok (.getfield 36, 3) := by decide +kernel
theorem dX4_giveAnswer_4 : decode cX4_giveAnswer 4 = .ok (.invokevirtual 268, 3) := by decide +kernel
theorem dX4_giveAnswer_7 : decode cX4_giveAnswer 7 = .ok (.istore_n 1, 1) := by decide +kernel
theorem dX4_giveAnswer_8 : decode cX4_giveAnswer 8 = .ok (.aload_n 0, 1) := by decide +kernel
theorem dX4_giveAnswer_9 : decode cX4_giveAnswer 9 = .ok (.getfield 36, 3) := by decide +kernel
theorem dX4_giveAnswer_12 : decode cX4_giveAnswer 12 = .ok (.invokevirtual 340, 3) := by decide +kernel
theorem dX4_giveAnswer_15 : decode cX4_giveAnswer 15 = .ok (.istore_n 2, 1) := by decide +kernel
theorem dX4_giveAnswer_16 : decode cX4_giveAnswer 16 = .ok (.aload_n 0, 1) := by decide +kernel
theorem dX4_giveAnswer_17 : decode cX4_giveAnswer 17 = .ok (.getfield 14, 3) := by decide +kernel
theorem dX4_giveAnswer_20 : decode cX4_giveAnswer 20 = .ok (.iload_n 2, 1) := by decide +kernel
theorem dX4_giveAnswer_21 : decode cX4_giveAnswer 21 = .ok (.aload_n 0, 1) := by decide +kernel
theorem dX4_giveAnswer_22 : decode cX4_giveAnswer 22 = .ok (.getfield 14, 3) := by decide +kernel
theorem dX4_giveAnswer_25 : decode cX4_giveAnswer 25 = .ok (.aload_n 0, 1) := by decide +kernel
theorem dX4_giveAnswer_26 : decode cX4_giveAnswer 26 = .ok (.invokevirtual 255, 3) := by decide +kernel
theorem dX4_giveAnswer_29 : decode cX4_giveAnswer 29 = .ok (.invokevirtual 258, 3) := by decide +kernel
theorem dX4_giveAnswer_32 : decode cX4_giveAnswer 32 = .ok (.aload_n 0, 1) := by decide +kernel
theorem dX4_giveAnswer_33 : decode cX4_giveAnswer 33 = .ok (.getfield 14, 3) := by decide +kernel
theorem dX4_giveAnswer_36 : decode cX4_giveAnswer 36 = .ok (.iload_n 2, 1) := by decide +kernel
theorem dX4_giveAnswer_37 : decode cX4_giveAnswer 37 = .ok (.iconst 1, 1) := by decide +kernel
theorem dX4_giveAnswer_38 : decode cX4_giveAnswer 38 = .ok (.iadd, 1) := by decide +kernel
theorem dX4_giveAnswer_39 : decode cX4_giveAnswer 39 = .ok (.invokevirtual 151, 3) := by decide +kernel
theorem dX4_giveAnswer_42 : decode cX4_giveAnswer 42 = .ok (.aload_n 0, 1) := by decide +kernel
theorem dX4_giveAnswer_43 : decode cX4_giveAnswer 43 = .ok (.invokevirtual 341, 3) := by decide +kernel
theorem dX4_giveAnswer_46 : decode cX4_giveAnswer 46 = .ok (.iload_n 1, 1) := by decide +kernel
theorem dX4_giveAnswer_47 : decode cX4_giveAnswer 47 = .ok (.aload_n 0, 1) := by decide +kernel
theorem dX4_giveAnswer_48 : decode cX4_giveAnswer 48 = .ok (.getfield 36, 3) := by decide +kernel
theorem dX4_giveAnswer_51 : decode cX4_giveAnswer 51 = .ok (.invokevirtual 268, 3) := by decide +kernel
theorem dX4_giveAnswer_54 : decode cX4_giveAnswer 54 = .ok (.if_icmp .ne 4, 3) := by decide +kernel
theorem dX4_giveAnswer_57 : decode cX4_giveAnswer 57 = .ok (.return_, 1) := by decide +kernel
theorem dX4_giveAnswer_58 : decode cX4_giveAnswer 58 = .ok (.aload_n 0, 1) := by decide +kernel
theorem dX4_giveAnswer_59 : decode cX4_giveAnswer 59 = .ok (.getfield 14, 3) := by decide +kernel
theorem dX4_giveAnswer_62 : decode cX4_giveAnswer 62 = .ok (.invokevirtual 265, 3) := by decide +kernel
theorem dX4_giveAnswer_65 : decode cX4_giveAnswer 65 = .ok (.iconst 4, 1) := by decide +kernel
theorem dX4_giveAnswer_66 : decode cX4_giveAnswer 66 = .ok (.if_icmp .ne 32, 3) := by decide +kernel
theorem dX4_giveAnswer_69 : decode cX4_giveAnswer 69 = .ok (.aload_n 0, 1) := by decide +kernel
theorem dX4_giveAnswer_70 : decode cX4_giveAnswer 70 = .ok (.getfield 14, 3) := by decide +kernel
theorem dX4_giveAnswer_73 : decode cX4_giveAnswer 73 = .ok (.aload_n 0, 1) := by decide +kernel
theorem dX4_giveAnswer_74 : decode cX4_giveAnswer 74 = .ok (.invokevirtual 255, 3) := by decide +kernel
theorem dX4_giveAnswer_77 : decode cX4_giveAnswer 77 = .ok (.invokevirtual 101, 3) := by decide +kernel
theorem dX4_giveAnswer_80 : decode cX4_giveAnswer 80 = .ok (.l2i, 1) := by decide +kernel
theorem dX4_giveAnswer_81 : decode cX4_giveAnswer 81 = .ok (.istore_n 3, 1) := by decide +kernel
theorem dX4_giveAnswer_82 : decode cX4_giveAnswer 82 = .ok (.aload_n 0, 1) := by decide +kernel
theorem dX4_giveAnswer_83 : decode cX4_giveAnswer 83 = .ok (.getfield 14, 3) := by decide +kernel
theorem dX4_giveAnswer_86 : decode cX4_giveAnswer 86 = .ok (.iconst 1, 1) := by decide +kernel
theorem dX4_giveAnswer_87 : decode cX4_giveAnswer 87 = .ok (.invokevirtual 262, 3) := by decide +kernel
theorem dX4_giveAnswer_90 : decode cX4_giveAnswer 90 = .ok (.aload_n 0, 1) := by decide +kernel
theorem dX4_giveAnswer_91 : decode cX4_giveAnswer 91 = .ok (.iload_n 3, 1) := by decide +kernel
theorem dX4_giveAnswer_92 : decode cX4_giveAnswer 92 = .ok (.invokevirtual 344, 3) := by decide +kernel
theorem dX4_giveAnswer_95 : decode cX4_giveAnswer 95 = .ok (.goto 36, 3) := by decide +kernel
theorem dX4_giveAnswer_98 : decode cX4_giveAnswer 98 = .ok (.aload_n 0, 1) := by decide +kernel
theorem dX4_giveAnswer_99 : decode cX4_giveAnswer 99 = .ok (.getfield 79, 3) := by decide +kernel
theorem dX4_giveAnswer_102 : decode cX4_giveAnswer 102 = .ok (.aload_n 0, 1) := by decide +kernel
theorem dX4_giveAnswer_103 : decode cX4_giveAnswer 103 = .ok (.getfield 14, 3) := by decide +kernel
theorem dX4_giveAnswer_106 : decode cX4_giveAnswer 106 = .ok (.aload_n 0, 1) := by decide +kernel
theorem dX4_giveAnswer_107 : decode cX4_giveAnswer 107 = .ok (.invokevirtual 255, 3) := by decide +kernel
theorem dX4_giveAnswer_110 : decode cX4_giveAnswer 110 = .ok (.iload_n 1, 1) := by decide +kernel
theorem dX4_giveAnswer_111 : decode cX4_giveAnswer 111 = .ok (.aload_n 0, 1) := by decide +kernel
theorem dX4_giveAnswer_112 : decode cX4_giveAnswer 112 = .ok (.getfield 36, 3) := by decide +kernel
theorem dX4_giveAnswer_115 : decode cX4_giveAnswer 115 = .ok (.invokevirtual 268, 3) := by decide +kernel
theorem dX4_giveAnswer_118 : decode cX4_giveAnswer 118 = .ok (.invokevirtual 361, 3) := by decide +kernel
theorem dX4_giveAnswer_121 : decode cX4_giveAnswer 121 = .ok (.ifCond .ne 10, 3) := by decide +kernel
theorem dX4_giveAnswer_124 : decode cX4_giveAnswer 124 = .ok (.aload_n 0, 1) := by decide +kernel
theorem dX4_giveAnswer_125 : decode cX4_giveAnswer 125 = .ok (.bipush 9, 2) := by decide +kernel
theorem dX4_giveAnswer_127 : decode cX4_giveAnswer 127 = .ok (.iconst 1, 1) := by decide +kernel
theorem dX4_giveAnswer_128 : decode cX4_giveAnswer 128 = .ok (.invokevirtual 287, 3) := by decide +kernel
theorem dX4_giveAnswer_131 : decode cX4_giveAnswer 131 = .ok (.return_, 1) := by decide +kernel
set_option maxHeartbeats 4000000 in
set_option maxRecDepth 100000 in
theorem c_X4_outOfFunction (ω : Om) (l : Launch) (μ : M3) (x1 : Int) (S : Int) (n : Int) (hx1 : ir x1) (hI : IC μ) (hS : S = μ.1 33 3) (hn : n = μ.1 52 7) (hst : 0 ≤ μ.1 70 2 ∧ μ.1 70 2 ≤ 5000 ∧ 0 ≤ μ.1 70 8 ∧ μ.1 70 8 ≤ 80000 ∧ μ.1 45 1 ≤ μ.1 70 2) (h0s : μ.1 32 13 = 0) (h1n : 1 ≤ n) (hb2 : n ≤ 1 ∨ (0 ≤ μ.1 53 (n - 2) ∧ μ.1 53 (n - 2) ≤ 3 ∧ 0 ≤ μ.1 58 (n - 1) ∧ μ.1 58 (n - 1) ≤ 100000000 ∧ μ.1 57 (n - 1) ≤ 239000)) : CtV ω l yX4_outOfFunction cX4_outOfFunction 3 6 199 [.ref (oP ω 32), .int (iv x1)] μ (fun (μ' : M3) => (Fr [33, 34, 35, 36, 32, 52, 70, 45, 46, 47, 48, 49, 50] μ μ') ∧ (IC μ') ∧ ((n ≤ 1 ∧ μ'.1 32 13 = 4 ∧ μ'.1 52 7 = n) ∨ (2 ≤ n ∧ μ'.1 52 7 = n - 1 ∧ μ'.1 32 12 = μ.1 58 (n - 1) + 1 ∧ ((μ'.1 33 3 = max (μ.1 57 (n - 1)) 0 + 1 ∧ μ'.1 32 13 = 0) ∨ (μ'.1 33 3 = max (μ.1 57 (n - 1)) 0 ∧ (μ'.1 32 13 = 1 ∨ μ'.1 32 13 = 2 ∨ μ'.1 32 13 = 4))))) ∧ (2 ≤ n → μ'.1 32 10 = μ.1 12 (μ.1 53 (n - 2))) ∧ (μ.1 70 2 ≤ μ'.1 70 2 ∧ μ'.1 70 2 ≤ 5000 ∧ 0 ≤ μ'.1 70 8 ∧ μ'.1 70 8 ≤ 80000 ∧ μ'.1 45 1 ≤ μ'.1 70 2) ∧ (μ'.1 32 16 = μ.1 32 16) ∧ (μ'.1 70 1 = μ.1 70 1) ∧ (μ'.1 70 3 = μ.1 70 3) ∧ (μ'.1 70 4 = μ.1 70 4) ∧ (μ'.1 70 5 = μ.1 70 5) ∧ (μ'.1 70 7 = μ.1 70 7) ∧ (μ'.1 45 4 = μ.1 45 4)) := by
  refine CtV.go (by decide) (Nat.le_of_ble_eq_true rfl) (fun ρ p e s m below meth c R ls G hR hret hlk hl => ?_)
  have hx := G.1.1
  have hb := G.1.2.1
  have hl : lv_has ls 3 [(0, .ref (oP ω 32)), (1, .int (iv x1))] := hl
  generalize s.drawn = d0 at G ⊢
  have hr_x1 : -2147483648 ≤ x1 ∧ x1 ≤ 2147483647 := hx1
  have hk_1 := hI.row (r := 33) (by unfold isRow; decide)
  unfold rk at hk_1
  simp only [Int.reduceAdd] at hk_1
  have hbr_33 : BR 33 = 240100 := rfl
  have hn_2 : 0 ≤ μ.1 52 7 ∧ μ.1 52 7 ≤ 24 := hI.nm.2.2.2.2.1
  have hk_3 := hI.row (r := 37) (by unfold isRow; decide)
  unfold rk at hk_3
  simp only [Int.reduceAdd] at hk_3
  have hbr_37 : BR 37 = 20410 := rfl
  have hSr0 : Sr μ := G.sr0
  have hof57 := ofF_at (μ := μ) (b := 57) hn.symm (by omega)
  refine lv_aload_n hx hb dX4_outOfFunction_0 rfl (lv_at hl 0 rfl) ?_
  refine xa_getr G fd_X4 (a := 32) (x := 52) 7 rfl (by decide) rfl (wm 2 151 rfl rfl) ⟨rfl, rfl, rfl⟩ dX4_outOfFunction_1 rfl (G.sk 40 rfl) (by decide) rfl ?_
  have e_4 : μ.1 52 7 = n := hn.symm
  refine xc_iV G (b := 52) (rest := []) (As := []) (c_X2_count ω l μ  hI) (wm 5 101 rfl rfl) (wm 5 102 rfl rfl) (wm 5 103 rfl rfl) rfl rfl (by decide) rfl (wm 1 16 rfl rfl) (wm 5 104 rfl rfl) (by decide) hR (by decide) (n := 0) rfl rfl (Nat.le_of_ble_eq_true rfl) hl.1 dX4_outOfFunction_4 (fun r_6 μ5 ρ d0 H locs hr_r_6 hp G => ?_)
  have hr_r_6 : -2147483648 ≤ r_6 ∧ r_6 ≤ 2147483647 := hr_r_6
  obtain ⟨hsm_7, hp_8⟩ := hp
  have hsm_7 := Eq.symm hsm_7
  subst hsm_7
  refine lv_iconst (v := iv 1) hx hb dX4_outOfFunction_7 rfl ?_
  refine xb_icmp_gt (tgt := 22) hx hb (by unfold ir; omega) (by unfold ir; omega) dX4_outOfFunction_8 (by decide) (fun c_8 => ?_) (fun c_8 => ?_)
  · refine lv_aload_n hx hb dX4_outOfFunction_22 rfl (lv_at hl 0 rfl) ?_
    refine xa_getr G fd_X4 (a := 32) (x := 52) 7 rfl (by decide) rfl (wm 2 151 rfl rfl) ⟨rfl, rfl, rfl⟩ dX4_outOfFunction_23 rfl (G.sk 40 rfl) (by decide) rfl ?_
    refine xc_iV G (b := 52) (rest := []) (As := []) (c_X2_tongue ω l μ  hI) (wm 5 218 rfl rfl) (wm 5 219 rfl rfl) (wm 5 220 rfl rfl) rfl rfl (by decide) rfl (wm 1 16 rfl rfl) (wm 5 221 rfl rfl) (by decide) hR (by decide) (n := 0) rfl rfl (Nat.le_of_ble_eq_true rfl) hl.1 dX4_outOfFunction_26 (fun r_10 μ9 ρ d0 H locs hr_r_10 hp G => ?_)
    have hr_r_10 : -2147483648 ≤ r_10 ∧ r_10 ≤ 2147483647 := hr_r_10
    obtain ⟨hsm_11, hp_12⟩ := hp
    have hsm_11 := Eq.symm hsm_11
    subst hsm_11
    refine lv_istore_n (lv' := [(2, .int (iv r_10)), (0, .ref (oP ω 32)), (1, .int (iv x1))]) hx hb dX4_outOfFunction_29 rfl hl (by decide) rfl (fun ls hl => ?_)
    refine lv_aload_n hx hb dX4_outOfFunction_30 rfl (lv_at hl 1 rfl) ?_
    refine xa_getr G fd_X4 (a := 32) (x := 33) 3 rfl (by decide) rfl (wm 2 147 rfl rfl) ⟨rfl, rfl, rfl⟩ dX4_outOfFunction_31 rfl (G.sk 36 rfl) (by decide) rfl ?_
    refine lv_aload_n hx hb dX4_outOfFunction_34 rfl (lv_at hl 1 rfl) ?_
    refine xa_getr G fd_X4 (a := 32) (x := 52) 7 rfl (by decide) rfl (wm 2 151 rfl rfl) ⟨rfl, rfl, rfl⟩ dX4_outOfFunction_35 rfl (G.sk 40 rfl) (by decide) rfl ?_
    refine xc_iV G (b := 52) (rest := [.ref (oP ω 33)]) (As := []) (c_X2_top ω l μ  hI) (wm 5 222 rfl rfl) (wm 5 223 rfl rfl) (wm 5 224 rfl rfl) rfl rfl (by decide) rfl (wm 1 16 rfl rfl) (wm 5 225 rfl rfl) (by decide) hR (by decide) (n := 0) rfl rfl (Nat.le_of_ble_eq_true rfl) hl.1 dX4_outOfFunction_38 (fun r_14 μ13 ρ d0 H locs hr_r_14 hp G => ?_)
    have hr_r_14 : -2147483648 ≤ r_14 ∧ r_14 ≤ 2147483647 := hr_r_14
    obtain ⟨hsm_15, hp_16⟩ := hp
    have hsm_15 := Eq.symm hsm_15
    subst hsm_15
    refine xc_vV G (b := 33) (rest := []) (As := [.int (iv r_14)]) (c_X9_resize ω l μ 33 r_14 (by unfold isRow; decide) (by unfold ir; omega) hI (by omega)) (wm 5 55 rfl rfl) (wm 3 15 rfl rfl) (wm 3 16 rfl rfl) rfl rfl (by decide) rfl (wm 1 10 rfl rfl) (wm 3 17 rfl rfl) (by decide) hR (by decide) (n := 1) rfl rfl (Nat.le_of_ble_eq_true rfl) hl.1 dX4_outOfFunction_41 (fun μ17 ρ d0 H locs hp G => ?_)
    obtain ⟨F_18, hI_19, hs_20⟩ := hp
    refine lv_aload_n hx hb dX4_outOfFunction_44 rfl (lv_at hl 1 rfl) ?_
    have e_21 : μ17.1 33 3 = max r_14 0 := hs_20
    have e_22 : μ17.1 52 7 = n := ((F_18.1 52 (by decide) 7).trans hn.symm)
    have e_23 : μ17.1 53 (n - 2) = μ.1 53 (n - 2) := (F_18.1 53 (by decide) (n - 2))
    have e_24 : μ17.1 53 (n - 2) = μ.1 53 (n - 2) := (F_18.1 53 (by decide) (n - 2))
    have e_25 : μ17.1 58 (n - 1) = μ.1 58 (n - 1) := (F_18.1 58 (by decide) (n - 1))
    have e_26 : μ17.1 58 (n - 1) = μ.1 58 (n - 1) := (F_18.1 58 (by decide) (n - 1))
    have e_27 : μ17.1 58 (n - 1) = μ.1 58 (n - 1) := (F_18.1 58 (by decide) (n - 1))
    have e_28 : μ17.1 58 (n - 1) = μ.1 58 (n - 1) := (F_18.1 58 (by decide) (n - 1))
    have e_29 : μ17.1 53 (n - 2) = μ.1 53 (n - 2) := (F_18.1 53 (by decide) (n - 2))
    have e_30 : μ17.1 32 13 = μ.1 32 13 := (F_18.1 32 (by decide) 13)
    have e_31 : μ17.1 32 14 = μ.1 32 14 := (F_18.1 32 (by decide) 14)
    have e_32 : μ17.1 32 15 = μ.1 32 15 := (F_18.1 32 (by decide) 15)
    have e_33 : μ17.1 32 16 = μ.1 32 16 := (F_18.1 32 (by decide) 16)
    refine xc_vV G (b := 32) (rest := []) (As := []) (c_X4_backToCaller ω l μ17 (max r_14 0) n hI_19 (by omega) (by omega) (by omega) (by omega) (by omega)) (wm 5 226 rfl rfl) (wm 5 228 rfl rfl) (wm 0 73 rfl rfl) rfl rfl (by decide) rfl (wm 1 14 rfl rfl) (wm 5 229 rfl rfl) (by decide) hR (by decide) (n := 0) rfl rfl (Nat.le_of_ble_eq_true rfl) hl.1 dX4_outOfFunction_45 (fun μ34 ρ d0 H locs hp G => ?_)
    obtain ⟨F_35, hI_36, hs_37, hp_38, hp_39, hs_40, hs_41, hs_42, hs_43⟩ := hp
    have hB_44 : μ34.1 32 10 = μ.1 12 (μ.1 53 (n - 2)) := by rw [hp_39, show μ17.1 53 (n - 2) = μ.1 53 (n - 2) from (F_18.1 53 (by decide) (n - 2))]; exact (F_18.1 12 (by decide) (μ.1 53 (n - 2)))
    refine lv_iload_n hx hb dX4_outOfFunction_48 rfl (lv_at hl 0 rfl) ?_
    refine lv_aload_n hx hb dX4_outOfFunction_49 rfl (lv_at hl 1 rfl) ?_
    refine xa_getr G fd_X4 (a := 32) (x := 52) 7 rfl (by decide) rfl (wm 2 151 rfl rfl) ⟨rfl, rfl, rfl⟩ dX4_outOfFunction_50 rfl (G.sk 40 rfl) (by decide) rfl ?_
    refine xc_iV G (b := 52) (rest := [.int (iv r_10)]) (As := []) (c_X2_tongue ω l μ34  hI_36) (wm 5 218 rfl rfl) (wm 5 219 rfl rfl) (wm 5 220 rfl rfl) rfl rfl (by decide) rfl (wm 1 16 rfl rfl) (wm 5 221 rfl rfl) (by decide) hR (by decide) (n := 0) rfl rfl (Nat.le_of_ble_eq_true rfl) hl.1 dX4_outOfFunction_53 (fun r_46 μ45 ρ d0 H locs hr_r_46 hp G => ?_)
    have hr_r_46 : -2147483648 ≤ r_46 ∧ r_46 ≤ 2147483647 := hr_r_46
    obtain ⟨hsm_47, hp_48⟩ := hp
    have hsm_47 := Eq.symm hsm_47
    subst hsm_47
    refine xb_icmp_eq (tgt := 67) hx hb (by unfold ir; omega) (by unfold ir; omega) dX4_outOfFunction_56 (by decide) (fun c_56 => ?_) (fun c_56 => ?_)
    · refine lv_aload_n hx hb dX4_outOfFunction_67 rfl (lv_at hl 1 rfl) ?_
      refine lv_iload_n hx hb dX4_outOfFunction_68 rfl (lv_at hl 2 rfl) ?_
      refine xa_puti G fd_X4 (a := 32) (x := x1) 14 (kz := 14) rfl rfl (by decide) rfl (by unfold ir; omega) (wm 2 158 rfl rfl) ⟨rfl, rfl, rfl, rfl⟩ rfl dX4_outOfFunction_69 rfl (fun H locs G => ?_)
      refine lv_aload_n hx hb dX4_outOfFunction_72 rfl (lv_at hl 1 rfl) ?_
      refine lv_iload_n hx hb dX4_outOfFunction_73 rfl (lv_at hl 0 rfl) ?_
      refine lv_iconst (v := iv 1) hx hb dX4_outOfFunction_74 rfl ?_
      refine xb_icmp_ne (tgt := 82) hx hb (by unfold ir; omega) (by unfold ir; omega) dX4_outOfFunction_75 (by decide) (fun c_75 => ?_) (fun c_75 => ?_)
      · refine lv_iconst (v := iv 1) hx hb dX4_outOfFunction_82 rfl ?_
        refine xa_puti G fd_X4 (a := 32) (x := 1) 13 (kz := 13) rfl rfl (by decide) rfl (by unfold ir; omega) (wm 2 157 rfl rfl) ⟨rfl, rfl, rfl, rfl⟩ rfl dX4_outOfFunction_83 rfl (fun H locs G => ?_)
        have e_49 : (sv (sv μ34 32 14 x1) 32 13 1).1 33 3 = max r_14 0 := ((sv_n _ (fun h9 => absurd h9.1 (by decide))).trans ((sv_n _ (fun h9 => absurd h9.1 (by decide))).trans ((F_35.1 33 (by decide) 3).trans hs_20)))
        have e_50 : (sv (sv μ34 32 14 x1) 32 13 1).1 32 13 = 1 := (sv_s _ _ _ _)
        have e_51 : (sv (sv μ34 32 14 x1) 32 13 1).1 52 7 = n - 1 := ((sv_n _ (fun h9 => absurd h9.1 (by decide))).trans ((sv_n _ (fun h9 => absurd h9.1 (by decide))).trans hs_37))
        have e_52 : (sv (sv μ34 32 14 x1) 32 13 1).1 32 12 = μ34.1 32 12 := ((sv_n _ (by decide)).trans (sv_n _ (by decide)))
        have e_53 : ofF (sv (sv μ34 32 14 x1) 32 13 1) 53 = ofF μ34 53 := ((ofF_sv (sv μ34 32 14 x1) (by decide) (by decide)).trans (ofF_sv μ34 (by decide) (by decide)))
        have h0_e : (n ≤ 1 ∧ (sv (sv μ34 32 14 x1) 32 13 1).1 32 13 = 4 ∧ (sv (sv μ34 32 14 x1) 32 13 1).1 52 7 = n) ∨ (2 ≤ n ∧ (sv (sv μ34 32 14 x1) 32 13 1).1 52 7 = n - 1 ∧ (sv (sv μ34 32 14 x1) 32 13 1).1 32 12 = μ.1 58 (n - 1) + 1 ∧ (((sv (sv μ34 32 14 x1) 32 13 1).1 33 3 = max (μ.1 57 (n - 1)) 0 + 1 ∧ (sv (sv μ34 32 14 x1) 32 13 1).1 32 13 = 0) ∨ ((sv (sv μ34 32 14 x1) 32 13 1).1 33 3 = max (μ.1 57 (n - 1)) 0 ∧ ((sv (sv μ34 32 14 x1) 32 13 1).1 32 13 = 1 ∨ (sv (sv μ34 32 14 x1) 32 13 1).1 32 13 = 2 ∨ (sv (sv μ34 32 14 x1) 32 13 1).1 32 13 = 4)))) := by
          exact Or.inr ⟨by omega, by omega, by omega, Or.inr ⟨by omega, by omega⟩⟩
        have hI_54 : IC (sv (sv μ34 32 14 x1) 32 13 1) := (IC.put (IC.put hI_36 (by decide +kernel)) (by decide +kernel))
        have e_55 : (sv (sv μ34 32 14 x1) 32 13 1).1 70 2 = μ.1 70 2 := ((sv_n _ (fun h9 => absurd h9.1 (by decide))).trans ((sv_n _ (fun h9 => absurd h9.1 (by decide))).trans ((F_35.1 70 (by decide) 2).trans (F_18.1 70 (by decide) 2))))
        have e_56 : (sv (sv μ34 32 14 x1) 32 13 1).1 70 2 = μ.1 70 2 := ((sv_n _ (fun h9 => absurd h9.1 (by decide))).trans ((sv_n _ (fun h9 => absurd h9.1 (by decide))).trans ((F_35.1 70 (by decide) 2).trans (F_18.1 70 (by decide) 2))))
        have e_57 : (sv (sv μ34 32 14 x1) 32 13 1).1 70 8 = μ.1 70 8 := ((sv_n _ (fun h9 => absurd h9.1 (by decide))).trans ((sv_n _ (fun h9 => absurd h9.1 (by decide))).trans ((F_35.1 70 (by decide) 8).trans (F_18.1 70 (by decide) 8))))
        have e_58 : (sv (sv μ34 32 14 x1) 32 13 1).1 70 8 = μ.1 70 8 := ((sv_n _ (fun h9 => absurd h9.1 (by decide))).trans ((sv_n _ (fun h9 => absurd h9.1 (by decide))).trans ((F_35.1 70 (by decide) 8).trans (F_18.1 70 (by decide) 8))))
        have e_59 : (sv (sv μ34 32 14 x1) 32 13 1).1 45 1 = μ.1 45 1 := ((sv_n _ (fun h9 => absurd h9.1 (by decide))).trans ((sv_n _ (fun h9 => absurd h9.1 (by decide))).trans ((F_35.1 45 (by decide) 1).trans (F_18.1 45 (by decide) 1))))
        have e_60 : (sv (sv μ34 32 14 x1) 32 13 1).1 70 2 = μ.1 70 2 := ((sv_n _ (fun h9 => absurd h9.1 (by decide))).trans ((sv_n _ (fun h9 => absurd h9.1 (by decide))).trans ((F_35.1 70 (by decide) 2).trans (F_18.1 70 (by decide) 2))))
        have e_61 : (sv (sv μ34 32 14 x1) 32 13 1).1 32 16 = μ.1 32 16 := ((sv_n _ (by decide)).trans ((sv_n _ (by decide)).trans (hs_43.trans (F_18.1 32 (by decide) 16))))
        have e_62 : (sv (sv μ34 32 14 x1) 32 13 1).1 70 1 = μ.1 70 1 := ((sv_n _ (fun h9 => absurd h9.1 (by decide))).trans ((sv_n _ (fun h9 => absurd h9.1 (by decide))).trans ((F_35.1 70 (by decide) 1).trans (F_18.1 70 (by decide) 1))))
        have e_63 : (sv (sv μ34 32 14 x1) 32 13 1).1 70 3 = μ.1 70 3 := ((sv_n _ (fun h9 => absurd h9.1 (by decide))).trans ((sv_n _ (fun h9 => absurd h9.1 (by decide))).trans ((F_35.1 70 (by decide) 3).trans (F_18.1 70 (by decide) 3))))
        have e_64 : (sv (sv μ34 32 14 x1) 32 13 1).1 70 4 = μ.1 70 4 := ((sv_n _ (fun h9 => absurd h9.1 (by decide))).trans ((sv_n _ (fun h9 => absurd h9.1 (by decide))).trans ((F_35.1 70 (by decide) 4).trans (F_18.1 70 (by decide) 4))))
        have e_65 : (sv (sv μ34 32 14 x1) 32 13 1).1 70 5 = μ.1 70 5 := ((sv_n _ (fun h9 => absurd h9.1 (by decide))).trans ((sv_n _ (fun h9 => absurd h9.1 (by decide))).trans ((F_35.1 70 (by decide) 5).trans (F_18.1 70 (by decide) 5))))
        have e_66 : (sv (sv μ34 32 14 x1) 32 13 1).1 70 7 = μ.1 70 7 := ((sv_n _ (fun h9 => absurd h9.1 (by decide))).trans ((sv_n _ (fun h9 => absurd h9.1 (by decide))).trans ((F_35.1 70 (by decide) 7).trans (F_18.1 70 (by decide) 7))))
        have e_67 : (sv (sv μ34 32 14 x1) 32 13 1).1 45 4 = μ.1 45 4 := ((sv_n _ (fun h9 => absurd h9.1 (by decide))).trans ((sv_n _ (fun h9 => absurd h9.1 (by decide))).trans ((F_35.1 45 (by decide) 4).trans (F_18.1 45 (by decide) 4))))
        exact xr_v G hret hlk dX4_outOfFunction_86 ⟨(Fr.put (Fr.put (Fr.tr (Fr.tr Fr.rf F_18 (by decide)) F_35 (by decide)) (by decide)) (by decide)), hI_54, h0_e, (fun _ => by rw [show (sv (sv μ34 32 14 x1) 32 13 1).1 32 10 = μ34.1 32 10 from ((sv_n _ (by decide)).trans (sv_n _ (by decide)))]; exact hB_44), (by omega), (by omega), (by omega), (by omega), (by omega), (by omega), (by omega), (by omega)⟩
      · refine lv_iconst (v := iv 2) hx hb dX4_outOfFunction_78 rfl ?_
        refine lv_goto (tgt := 83) hx hb dX4_outOfFunction_79 (by decide) ?_
        refine xa_puti G fd_X4 (a := 32) (x := 2) 13 (kz := 13) rfl rfl (by decide) rfl (by unfold ir; omega) (wm 2 157 rfl rfl) ⟨rfl, rfl, rfl, rfl⟩ rfl dX4_outOfFunction_83 rfl (fun H locs G => ?_)
        have e_68 : (sv (sv μ34 32 14 x1) 32 13 2).1 33 3 = max r_14 0 := ((sv_n _ (fun h9 => absurd h9.1 (by decide))).trans ((sv_n _ (fun h9 => absurd h9.1 (by decide))).trans ((F_35.1 33 (by decide) 3).trans hs_20)))
        have e_69 : (sv (sv μ34 32 14 x1) 32 13 2).1 32 13 = 2 := (sv_s _ _ _ _)
        have e_70 : (sv (sv μ34 32 14 x1) 32 13 2).1 52 7 = n - 1 := ((sv_n _ (fun h9 => absurd h9.1 (by decide))).trans ((sv_n _ (fun h9 => absurd h9.1 (by decide))).trans hs_37))
        have e_71 : (sv (sv μ34 32 14 x1) 32 13 2).1 32 12 = μ34.1 32 12 := ((sv_n _ (by decide)).trans (sv_n _ (by decide)))
        have e_72 : ofF (sv (sv μ34 32 14 x1) 32 13 2) 53 = ofF μ34 53 := ((ofF_sv (sv μ34 32 14 x1) (by decide) (by decide)).trans (ofF_sv μ34 (by decide) (by decide)))
        have h0_e : (n ≤ 1 ∧ (sv (sv μ34 32 14 x1) 32 13 2).1 32 13 = 4 ∧ (sv (sv μ34 32 14 x1) 32 13 2).1 52 7 = n) ∨ (2 ≤ n ∧ (sv (sv μ34 32 14 x1) 32 13 2).1 52 7 = n - 1 ∧ (sv (sv μ34 32 14 x1) 32 13 2).1 32 12 = μ.1 58 (n - 1) + 1 ∧ (((sv (sv μ34 32 14 x1) 32 13 2).1 33 3 = max (μ.1 57 (n - 1)) 0 + 1 ∧ (sv (sv μ34 32 14 x1) 32 13 2).1 32 13 = 0) ∨ ((sv (sv μ34 32 14 x1) 32 13 2).1 33 3 = max (μ.1 57 (n - 1)) 0 ∧ ((sv (sv μ34 32 14 x1) 32 13 2).1 32 13 = 1 ∨ (sv (sv μ34 32 14 x1) 32 13 2).1 32 13 = 2 ∨ (sv (sv μ34 32 14 x1) 32 13 2).1 32 13 = 4)))) := by
          exact Or.inr ⟨by omega, by omega, by omega, Or.inr ⟨by omega, by omega⟩⟩
        have hI_73 : IC (sv (sv μ34 32 14 x1) 32 13 2) := (IC.put (IC.put hI_36 (by decide +kernel)) (by decide +kernel))
        have e_74 : (sv (sv μ34 32 14 x1) 32 13 2).1 70 2 = μ.1 70 2 := ((sv_n _ (fun h9 => absurd h9.1 (by decide))).trans ((sv_n _ (fun h9 => absurd h9.1 (by decide))).trans ((F_35.1 70 (by decide) 2).trans (F_18.1 70 (by decide) 2))))
        have e_75 : (sv (sv μ34 32 14 x1) 32 13 2).1 70 2 = μ.1 70 2 := ((sv_n _ (fun h9 => absurd h9.1 (by decide))).trans ((sv_n _ (fun h9 => absurd h9.1 (by decide))).trans ((F_35.1 70 (by decide) 2).trans (F_18.1 70 (by decide) 2))))
        have e_76 : (sv (sv μ34 32 14 x1) 32 13 2).1 70 8 = μ.1 70 8 := ((sv_n _ (fun h9 => absurd h9.1 (by decide))).trans ((sv_n _ (fun h9 => absurd h9.1 (by decide))).trans ((F_35.1 70 (by decide) 8).trans (F_18.1 70 (by decide) 8))))
        have e_77 : (sv (sv μ34 32 14 x1) 32 13 2).1 70 8 = μ.1 70 8 := ((sv_n _ (fun h9 => absurd h9.1 (by decide))).trans ((sv_n _ (fun h9 => absurd h9.1 (by decide))).trans ((F_35.1 70 (by decide) 8).trans (F_18.1 70 (by decide) 8))))
        have e_78 : (sv (sv μ34 32 14 x1) 32 13 2).1 45 1 = μ.1 45 1 := ((sv_n _ (fun h9 => absurd h9.1 (by decide))).trans ((sv_n _ (fun h9 => absurd h9.1 (by decide))).trans ((F_35.1 45 (by decide) 1).trans (F_18.1 45 (by decide) 1))))
        have e_79 : (sv (sv μ34 32 14 x1) 32 13 2).1 70 2 = μ.1 70 2 := ((sv_n _ (fun h9 => absurd h9.1 (by decide))).trans ((sv_n _ (fun h9 => absurd h9.1 (by decide))).trans ((F_35.1 70 (by decide) 2).trans (F_18.1 70 (by decide) 2))))
        have e_80 : (sv (sv μ34 32 14 x1) 32 13 2).1 32 16 = μ.1 32 16 := ((sv_n _ (by decide)).trans ((sv_n _ (by decide)).trans (hs_43.trans (F_18.1 32 (by decide) 16))))
        have e_81 : (sv (sv μ34 32 14 x1) 32 13 2).1 70 1 = μ.1 70 1 := ((sv_n _ (fun h9 => absurd h9.1 (by decide))).trans ((sv_n _ (fun h9 => absurd h9.1 (by decide))).trans ((F_35.1 70 (by decide) 1).trans (F_18.1 70 (by decide) 1))))
        have e_82 : (sv (sv μ34 32 14 x1) 32 13 2).1 70 3 = μ.1 70 3 := ((sv_n _ (fun h9 => absurd h9.1 (by decide))).trans ((sv_n _ (fun h9 => absurd h9.1 (by decide))).trans ((F_35.1 70 (by decide) 3).trans (F_18.1 70 (by decide) 3))))
        have e_83 : (sv (sv μ34 32 14 x1) 32 13 2).1 70 4 = μ.1 70 4 := ((sv_n _ (fun h9 => absurd h9.1 (by decide))).trans ((sv_n _ (fun h9 => absurd h9.1 (by decide))).trans ((F_35.1 70 (by decide) 4).trans (F_18.1 70 (by decide) 4))))
        have e_84 : (sv (sv μ34 32 14 x1) 32 13 2).1 70 5 = μ.1 70 5 := ((sv_n _ (fun h9 => absurd h9.1 (by decide))).trans ((sv_n _ (fun h9 => absurd h9.1 (by decide))).trans ((F_35.1 70 (by decide) 5).trans (F_18.1 70 (by decide) 5))))
        have e_85 : (sv (sv μ34 32 14 x1) 32 13 2).1 70 7 = μ.1 70 7 := ((sv_n _ (fun h9 => absurd h9.1 (by decide))).trans ((sv_n _ (fun h9 => absurd h9.1 (by decide))).trans ((F_35.1 70 (by decide) 7).trans (F_18.1 70 (by decide) 7))))
        have e_86 : (sv (sv μ34 32 14 x1) 32 13 2).1 45 4 = μ.1 45 4 := ((sv_n _ (fun h9 => absurd h9.1 (by decide))).trans ((sv_n _ (fun h9 => absurd h9.1 (by decide))).trans ((F_35.1 45 (by decide) 4).trans (F_18.1 45 (by decide) 4))))
        exact xr_v G hret hlk dX4_outOfFunction_86 ⟨(Fr.put (Fr.put (Fr.tr (Fr.tr Fr.rf F_18 (by decide)) F_35 (by decide)) (by decide)) (by decide)), hI_73, h0_e, (fun _ => by rw [show (sv (sv μ34 32 14 x1) 32 13 2).1 32 10 = μ34.1 32 10 from ((sv_n _ (by decide)).trans (sv_n _ (by decide)))]; exact hB_44), (by omega), (by omega), (by omega), (by omega), (by omega), (by omega), (by omega), (by omega)⟩
    · refine lv_aload_n hx hb dX4_outOfFunction_59 rfl (lv_at hl 1 rfl) ?_
      refine lv_iload_n hx hb dX4_outOfFunction_60 rfl (lv_at hl 2 rfl) ?_
      have e_87 : μ34.1 33 3 = max r_14 0 := ((F_35.1 33 (by decide) 3).trans hs_20)
      have e_88 : μ34.1 70 2 = μ.1 70 2 := ((F_35.1 70 (by decide) 2).trans (F_18.1 70 (by decide) 2))
      have e_89 : μ34.1 70 2 = μ.1 70 2 := ((F_35.1 70 (by decide) 2).trans (F_18.1 70 (by decide) 2))
      have e_90 : μ34.1 70 8 = μ.1 70 8 := ((F_35.1 70 (by decide) 8).trans (F_18.1 70 (by decide) 8))
      have e_91 : μ34.1 70 8 = μ.1 70 8 := ((F_35.1 70 (by decide) 8).trans (F_18.1 70 (by decide) 8))
      have hn_92 : 0 ≤ μ.1 45 1 ∧ 9 * μ.1 45 1 ≤ μ.2.1 46 := hI.nm.2.2.2.2.2.2.1
      have e_93 : μ34.1 45 1 = μ.1 45 1 := ((F_35.1 45 (by decide) 1).trans (F_18.1 45 (by decide) 1))
      have e_94 : μ34.1 70 2 = μ.1 70 2 := ((F_35.1 70 (by decide) 2).trans (F_18.1 70 (by decide) 2))
      have e_95 : μ34.1 32 13 = μ.1 32 13 := (hs_40.trans (F_18.1 32 (by decide) 13))
      have e_96 : μ34.1 70 2 = μ.1 70 2 := ((F_35.1 70 (by decide) 2).trans (F_18.1 70 (by decide) 2))
      have e_97 : μ34.1 70 1 = μ.1 70 1 := ((F_35.1 70 (by decide) 1).trans (F_18.1 70 (by decide) 1))
      have e_98 : μ34.1 70 3 = μ.1 70 3 := ((F_35.1 70 (by decide) 3).trans (F_18.1 70 (by decide) 3))
      have e_99 : μ34.1 70 4 = μ.1 70 4 := ((F_35.1 70 (by decide) 4).trans (F_18.1 70 (by decide) 4))
      have e_100 : μ34.1 70 5 = μ.1 70 5 := ((F_35.1 70 (by decide) 5).trans (F_18.1 70 (by decide) 5))
      have e_101 : μ34.1 70 7 = μ.1 70 7 := ((F_35.1 70 (by decide) 7).trans (F_18.1 70 (by decide) 7))
      have e_102 : μ34.1 32 15 = μ.1 32 15 := (hs_42.trans (F_18.1 32 (by decide) 15))
      have e_103 : μ34.1 32 16 = μ.1 32 16 := (hs_43.trans (F_18.1 32 (by decide) 16))
      have hn_104 : 0 ≤ μ.1 45 4 ∧ 2 * μ.1 45 4 ≤ μ.2.1 51 := hI.nm.2.2.2.2.2.2.2.1
      have e_105 : μ34.1 45 4 = μ.1 45 4 := ((F_35.1 45 (by decide) 4).trans (F_18.1 45 (by decide) 4))
      refine xc_vV G (b := 32) (rest := []) (As := [.int (iv x1)]) (c_X4_turnFailure ω l μ34 x1 (max r_14 0) (by unfold ir; omega) hI_36 (by omega) (by omega) (by omega) (by omega)) (wm 5 238 rfl rfl) (wm 6 0 rfl rfl) (wm 0 74 rfl rfl) rfl rfl (by decide) rfl (wm 1 14 rfl rfl) (wm 6 1 rfl rfl) (by decide) hR (by decide) (n := 1) rfl rfl (Nat.le_of_ble_eq_true rfl) hl.1 dX4_outOfFunction_61 (fun μ106 ρ d0 H locs hp G => ?_)
      obtain ⟨F_107, hI_108, hp_109, hp_110, hs_111, hs_112, hs_113, hs_114, hs_115, hs_116, hs_117, hs_118, hs_119, hs_120, hs_121⟩ := hp
      have hk_122 := hI_108.row (r := 33) (by unfold isRow; decide)
      unfold rk at hk_122
      simp only [Int.reduceAdd] at hk_122
      have hn_123 : 0 ≤ μ106.1 45 1 ∧ 9 * μ106.1 45 1 ≤ μ106.2.1 46 := hI_108.nm.2.2.2.2.2.2.1
      refine lv_goto (tgt := 86) hx hb dX4_outOfFunction_64 (by decide) ?_
      have e_124 : μ106.1 52 7 = n - 1 := ((F_107.1 52 (by decide) 7).trans hs_37)
      have e_125 : μ106.1 32 12 = μ34.1 32 12 := hs_118
      have e_126 : ofF μ106 53 = ofF μ34 53 := (ofF_fr F_107 (by decide) (by decide))
      have h0_e : (n ≤ 1 ∧ μ106.1 32 13 = 4 ∧ μ106.1 52 7 = n) ∨ (2 ≤ n ∧ μ106.1 52 7 = n - 1 ∧ μ106.1 32 12 = μ.1 58 (n - 1) + 1 ∧ ((μ106.1 33 3 = max (μ.1 57 (n - 1)) 0 + 1 ∧ μ106.1 32 13 = 0) ∨ (μ106.1 33 3 = max (μ.1 57 (n - 1)) 0 ∧ (μ106.1 32 13 = 1 ∨ μ106.1 32 13 = 2 ∨ μ106.1 32 13 = 4)))) := by
        rcases hp_109 with ⟨q1, q2⟩ | ⟨q1, q2⟩
        · exact Or.inr ⟨by omega, by omega, by omega, Or.inl ⟨by omega, by omega⟩⟩
        · exact Or.inr ⟨by omega, by omega, by omega, Or.inr ⟨by omega, by omega⟩⟩
      have e_127 : μ106.1 32 16 = μ.1 32 16 := (hs_120.trans (hs_43.trans (F_18.1 32 (by decide) 16)))
      have e_128 : μ106.1 70 1 = μ.1 70 1 := (hs_111.trans ((F_35.1 70 (by decide) 1).trans (F_18.1 70 (by decide) 1)))
      have e_129 : μ106.1 70 3 = μ.1 70 3 := (hs_112.trans ((F_35.1 70 (by decide) 3).trans (F_18.1 70 (by decide) 3)))
      have e_130 : μ106.1 70 4 = μ.1 70 4 := (hs_113.trans ((F_35.1 70 (by decide) 4).trans (F_18.1 70 (by decide) 4)))
      have e_131 : μ106.1 70 5 = μ.1 70 5 := (hs_114.trans ((F_35.1 70 (by decide) 5).trans (F_18.1 70 (by decide) 5)))
      have e_132 : μ106.1 70 7 = μ.1 70 7 := (hs_115.trans ((F_35.1 70 (by decide) 7).trans (F_18.1 70 (by decide) 7)))
      have e_133 : μ106.1 45 4 = μ.1 45 4 := (hs_121.trans ((F_35.1 45 (by decide) 4).trans (F_18.1 45 (by decide) 4)))
      exact xr_v G hret hlk dX4_outOfFunction_86 ⟨(Fr.tr (Fr.tr (Fr.tr Fr.rf F_18 (by decide)) F_35 (by decide)) F_107 (by decide)), hI_108, h0_e, (fun _ => by rw [show μ106.1 32 10 = μ34.1 32 10 from hs_116]; exact hB_44), (by omega), (by omega), (by omega), (by omega), (by omega), (by omega), (by omega), (by omega)⟩
  · refine lv_aload_n hx hb dX4_outOfFunction_11 rfl (lv_at hl 0 rfl) ?_
    refine lv_iload_n hx hb dX4_outOfFunction_12 rfl (lv_at hl 1 rfl) ?_
    refine xa_puti G fd_X4 (a := 32) (x := x1) 15 (kz := 15) rfl rfl (by decide) rfl (by unfold ir; omega) (wm 2 159 rfl rfl) ⟨rfl, rfl, rfl, rfl⟩ rfl dX4_outOfFunction_13 rfl (fun H locs G => ?_)
    refine lv_aload_n hx hb dX4_outOfFunction_16 rfl (lv_at hl 0 rfl) ?_
    refine lv_iconst (v := iv 1) hx hb dX4_outOfFunction_17 rfl ?_
    have hI_134 : IC (sv μ 32 15 x1) := (IC.put hI (by decide +kernel))
    have e_135 : (sv μ 32 15 x1).1 70 1 = μ.1 70 1 := (sv_n _ (fun h9 => absurd h9.1 (by decide)))
    have e_136 : (sv μ 32 15 x1).1 70 2 = μ.1 70 2 := (sv_n _ (fun h9 => absurd h9.1 (by decide)))
    have e_137 : (sv μ 32 15 x1).1 70 3 = μ.1 70 3 := (sv_n _ (fun h9 => absurd h9.1 (by decide)))
    have e_138 : (sv μ 32 15 x1).1 70 4 = μ.1 70 4 := (sv_n _ (fun h9 => absurd h9.1 (by decide)))
    have e_139 : (sv μ 32 15 x1).1 70 5 = μ.1 70 5 := (sv_n _ (fun h9 => absurd h9.1 (by decide)))
    have e_140 : (sv μ 32 15 x1).1 70 6 = μ.1 70 6 := (sv_n _ (fun h9 => absurd h9.1 (by decide)))
    have e_141 : (sv μ 32 15 x1).1 70 7 = μ.1 70 7 := (sv_n _ (fun h9 => absurd h9.1 (by decide)))
    have e_142 : (sv μ 32 15 x1).1 70 8 = μ.1 70 8 := (sv_n _ (fun h9 => absurd h9.1 (by decide)))
    have e_143 : (sv μ 32 15 x1).1 70 9 = μ.1 70 9 := (sv_n _ (fun h9 => absurd h9.1 (by decide)))
    have e_144 : (sv μ 32 15 x1).1 32 10 = μ.1 32 10 := (sv_n _ (by decide))
    have e_145 : (sv μ 32 15 x1).1 32 11 = μ.1 32 11 := (sv_n _ (by decide))
    have e_146 : (sv μ 32 15 x1).1 32 12 = μ.1 32 12 := (sv_n _ (by decide))
    have e_147 : (sv μ 32 15 x1).1 32 14 = μ.1 32 14 := (sv_n _ (by decide))
    have e_148 : (sv μ 32 15 x1).1 32 15 = x1 := (sv_s _ _ _ _)
    have e_149 : (sv μ 32 15 x1).1 32 16 = μ.1 32 16 := (sv_n _ (by decide))
    refine xc_vV G (b := 32) (rest := []) (As := [.int (iv 1)]) (c_X4_end ω l (sv μ 32 15 x1) 1 (by unfold ir; omega) hI_134) (wm 5 214 rfl rfl) (wm 5 216 rfl rfl) (wm 0 72 rfl rfl) rfl rfl (by decide) rfl (wm 1 14 rfl rfl) (wm 5 217 rfl rfl) (by decide) hR (by decide) (n := 1) rfl rfl (Nat.le_of_ble_eq_true rfl) hl.1 dX4_outOfFunction_18 (fun μ150 ρ d0 H locs hp G => ?_)
    obtain ⟨F_151, hI_152, hp_153, hs_154, hs_155, hs_156, hs_157, hs_158, hs_159, hs_160, hs_161, hs_162, hs_163, hs_164, hs_165, hs_166, hs_167, hs_168⟩ := hp
    have e_169 : μ150.1 33 3 = S := ((F_151.1 33 (by decide) 3).trans ((sv_n _ (fun h9 => absurd h9.1 (by decide))).trans hS.symm))
    have e_170 : μ150.1 52 7 = n := ((F_151.1 52 (by decide) 7).trans ((sv_n _ (fun h9 => absurd h9.1 (by decide))).trans hn.symm))
    have e_171 : μ150.1 32 12 = μ.1 32 12 := (hs_165.trans (sv_n _ (by decide)))
    have e_172 : ofF μ150 53 = ofF μ 53 := ((ofF_fr F_151 (by decide) (by decide)).trans (ofF_sv μ (by decide) (by decide)))
    have e_173 : μ150.1 70 2 = μ.1 70 2 := (hs_155.trans (sv_n _ (fun h9 => absurd h9.1 (by decide))))
    have e_174 : μ150.1 70 2 = μ.1 70 2 := (hs_155.trans (sv_n _ (fun h9 => absurd h9.1 (by decide))))
    have e_175 : μ150.1 70 8 = μ.1 70 8 := (hs_161.trans (sv_n _ (fun h9 => absurd h9.1 (by decide))))
    have e_176 : μ150.1 70 8 = μ.1 70 8 := (hs_161.trans (sv_n _ (fun h9 => absurd h9.1 (by decide))))
    have e_177 : μ150.1 45 1 = μ.1 45 1 := ((F_151.1 45 (by decide) 1).trans (sv_n _ (fun h9 => absurd h9.1 (by decide))))
    have e_178 : μ150.1 70 2 = μ.1 70 2 := (hs_155.trans (sv_n _ (fun h9 => absurd h9.1 (by decide))))
    have e_179 : μ150.1 32 16 = μ.1 32 16 := (hs_168.trans (sv_n _ (by decide)))
    have e_180 : μ150.1 70 1 = μ.1 70 1 := (hs_154.trans (sv_n _ (fun h9 => absurd h9.1 (by decide))))
    have e_181 : μ150.1 70 3 = μ.1 70 3 := (hs_156.trans (sv_n _ (fun h9 => absurd h9.1 (by decide))))
    have e_182 : μ150.1 70 4 = μ.1 70 4 := (hs_157.trans (sv_n _ (fun h9 => absurd h9.1 (by decide))))
    have e_183 : μ150.1 70 5 = μ.1 70 5 := (hs_158.trans (sv_n _ (fun h9 => absurd h9.1 (by decide))))
    have e_184 : μ150.1 70 7 = μ.1 70 7 := (hs_160.trans (sv_n _ (fun h9 => absurd h9.1 (by decide))))
    have e_185 : μ150.1 45 4 = μ.1 45 4 := ((F_151.1 45 (by decide) 4).trans (sv_n _ (fun h9 => absurd h9.1 (by decide))))
    exact xr_v G hret hlk dX4_outOfFunction_21 ⟨(Fr.tr (Fr.put Fr.rf (by decide)) F_151 (by decide)), hI_152, (Or.inl ⟨by omega, by omega, by omega⟩), (fun h9 => absurd h9 (by omega)), (by omega), (by omega), (by omega), (by omega), (by omega), (by omega), (by omega), (by omega)⟩

set_option maxHeartbeats 4000000 in
set_option maxRecDepth 100000 in
theorem c_X4_giveAnswer (ω : Om) (l : Launch) (μ : M3) (S : Int) (n : Int) (hI : IC μ) (hS : S = μ.1 33 3) (hn : n = μ.1 52 7) (hst : 0 ≤ μ.1 70 2 ∧ μ.1 70 2 ≤ 5000 ∧ 0 ≤ μ.1 70 8 ∧ μ.1 70 8 ≤ 80000 ∧ μ.1 45 1 ≤ μ.1 70 2) (h0s : μ.1 32 13 = 0) (h1n : 1 ≤ n) (hb2 : n ≤ 1 ∨ (0 ≤ μ.1 53 (n - 2) ∧ μ.1 53 (n - 2) ≤ 3 ∧ 0 ≤ μ.1 58 (n - 1) ∧ μ.1 58 (n - 1) ≤ 100000000 ∧ μ.1 57 (n - 1) ≤ 239000)) (h2n : 2 ≤ n) (h3n : -1000000 ≤ μ.1 57 (n - 1)) : CtV ω l yX4_giveAnswer cX4_giveAnswer 4 6 199 [.ref (oP ω 32)] μ (fun (μ' : M3) => (Fr [34, 35, 36, 33, 32, 52, 70, 45, 46, 47, 48, 49, 50] μ μ') ∧ (IC μ') ∧ (μ'.1 52 7 = n - 1 ∧ μ'.1 32 12 = μ.1 58 (n - 1) + 1 ∧ ((μ'.1 33 3 ≤ max (μ.1 57 (n - 1) + 1) 1 ∧ (μ'.1 32 13 = 0 ∨ μ'.1 32 13 = 1 ∨ μ'.1 32 13 = 4)) ∨ (μ'.1 33 3 ≤ max (μ.1 57 (n - 1)) 0 ∧ μ'.1 32 13 = 2))) ∧ (2 ≤ n → μ'.1 32 10 = μ.1 12 (μ.1 53 (n - 2))) ∧ (μ.1 70 2 ≤ μ'.1 70 2 ∧ μ'.1 70 2 ≤ 5000 ∧ 0 ≤ μ'.1 70 8 ∧ μ'.1 70 8 ≤ 80000 ∧ μ'.1 45 1 ≤ μ'.1 70 2) ∧ (μ'.1 32 15 = μ.1 32 15) ∧ (μ'.1 32 16 = μ.1 32 16) ∧ (μ'.1 70 1 = μ.1 70 1) ∧ (μ'.1 70 3 = μ.1 70 3) ∧ (μ'.1 70 4 = μ.1 70 4) ∧ (μ'.1 70 5 = μ.1 70 5) ∧ (μ'.1 70 7 = μ.1 70 7) ∧ (μ'.1 45 4 = μ.1 45 4)) := by
  refine CtV.go (by decide) (Nat.le_of_ble_eq_true rfl) (fun ρ p e s m below meth c R ls G hR hret hlk hl => ?_)
  have hx := G.1.1
  have hb := G.1.2.1
  have hl : lv_has ls 4 [(0, .ref (oP ω 32))] := hl
  generalize s.drawn = d0 at G ⊢
  have hk_1 := hI.row (r := 33) (by unfold isRow; decide)
  unfold rk at hk_1
  simp only [Int.reduceAdd] at hk_1
  have hbr_33 : BR 33 = 240100 := rfl
  have hn_2 : 0 ≤ μ.1 52 7 ∧ μ.1 52 7 ≤ 24 := hI.nm.2.2.2.2.1
  have hk_3 := hI.row (r := 37) (by unfold isRow; decide)
  unfold rk at hk_3
  simp only [Int.reduceAdd] at hk_3
  have hbr_37 : BR 37 = 20410 := rfl
  have hSr0 : Sr μ := G.sr0
  have hof57 := ofF_at (μ := μ) (b := 57) hn.symm (by omega)
  refine lv_aload_n hx hb dX4_giveAnswer_0 rfl (lv_at hl 0 rfl) ?_
  refine xa_getr G fd_X4 (a := 32) (x := 52) 7 rfl (by decide) rfl (wm 2 151 rfl rfl) ⟨rfl, rfl, rfl⟩ dX4_giveAnswer_1 rfl (G.sk 40 rfl) (by decide) rfl ?_
  refine xc_iV G (b := 52) (rest := []) (As := []) (c_X2_tongue ω l μ  hI) (wm 5 218 rfl rfl) (wm 5 219 rfl rfl) (wm 5 220 rfl rfl) rfl rfl (by decide) rfl (wm 1 16 rfl rfl) (wm 5 221 rfl rfl) (by decide) hR (by decide) (n := 0) rfl rfl (Nat.le_of_ble_eq_true rfl) hl.1 dX4_giveAnswer_4 (fun r_5 μ4 ρ d0 H locs hr_r_5 hp G => ?_)
  have hr_r_5 : -2147483648 ≤ r_5 ∧ r_5 ≤ 2147483647 := hr_r_5
  obtain ⟨hsm_6, hp_7⟩ := hp
  have hsm_6 := Eq.symm hsm_6
  subst hsm_6
  refine lv_istore_n (lv' := [(1, .int (iv r_5)), (0, .ref (oP ω 32))]) hx hb dX4_giveAnswer_7 rfl hl (by decide) rfl (fun ls hl => ?_)
  refine lv_aload_n hx hb dX4_giveAnswer_8 rfl (lv_at hl 1 rfl) ?_
  refine xa_getr G fd_X4 (a := 32) (x := 52) 7 rfl (by decide) rfl (wm 2 151 rfl rfl) ⟨rfl, rfl, rfl⟩ dX4_giveAnswer_9 rfl (G.sk 40 rfl) (by decide) rfl ?_
  refine xc_iV G (b := 52) (rest := []) (As := []) (c_X2_top ω l μ  hI) (wm 5 222 rfl rfl) (wm 5 223 rfl rfl) (wm 5 224 rfl rfl) rfl rfl (by decide) rfl (wm 1 16 rfl rfl) (wm 5 225 rfl rfl) (by decide) hR (by decide) (n := 0) rfl rfl (Nat.le_of_ble_eq_true rfl) hl.1 dX4_giveAnswer_12 (fun r_9 μ8 ρ d0 H locs hr_r_9 hp G => ?_)
  have hr_r_9 : -2147483648 ≤ r_9 ∧ r_9 ≤ 2147483647 := hr_r_9
  obtain ⟨hsm_10, hp_11⟩ := hp
  have hsm_10 := Eq.symm hsm_10
  subst hsm_10
  refine lv_istore_n (lv' := [(2, .int (iv r_9)), (1, .int (iv r_5)), (0, .ref (oP ω 32))]) hx hb dX4_giveAnswer_15 rfl hl (by decide) rfl (fun ls hl => ?_)
  refine lv_aload_n hx hb dX4_giveAnswer_16 rfl (lv_at hl 2 rfl) ?_
  refine xa_getr G fd_X4 (a := 32) (x := 33) 3 rfl (by decide) rfl (wm 2 147 rfl rfl) ⟨rfl, rfl, rfl⟩ dX4_giveAnswer_17 rfl (G.sk 36 rfl) (by decide) rfl ?_
  refine lv_iload_n hx hb dX4_giveAnswer_20 rfl (lv_at hl 0 rfl) ?_
  refine lv_aload_n hx hb dX4_giveAnswer_21 rfl (lv_at hl 2 rfl) ?_
  refine xa_getr G fd_X4 (a := 32) (x := 33) 3 rfl (by decide) rfl (wm 2 147 rfl rfl) ⟨rfl, rfl, rfl⟩ dX4_giveAnswer_22 rfl (G.sk 36 rfl) (by decide) rfl ?_
  refine lv_aload_n hx hb dX4_giveAnswer_25 rfl (lv_at hl 2 rfl) ?_
  have e_12 : μ.1 33 3 = S := hS.symm
  refine xc_iV G (b := 32) (rest := [.ref (oP ω 33), .int (iv r_9), .ref (oP ω 33)]) (As := []) (c_X4_top ω l μ S hI (by omega)) (wm 6 73 rfl rfl) (wm 6 75 rfl rfl) (wm 0 80 rfl rfl) rfl rfl (by decide) rfl (wm 1 14 rfl rfl) (wm 6 76 rfl rfl) (by decide) hR (by decide) (n := 0) rfl rfl (Nat.le_of_ble_eq_true rfl) hl.1 dX4_giveAnswer_26 (fun r_14 μ13 ρ d0 H locs hr_r_14 hp G => ?_)
  have hr_r_14 : -2147483648 ≤ r_14 ∧ r_14 ≤ 2147483647 := hr_r_14
  obtain ⟨hsm_15, hp_16⟩ := hp
  have hsm_15 := Eq.symm hsm_15
  subst hsm_15
  refine xc_vV G (b := 33) (rest := []) (As := [.int (iv r_9), .ref (oP ω 33), .int (iv r_14)]) (c_X9_copy ω l μ 33 r_9 33 r_14 (by unfold isRow; decide) (by unfold ir; omega) (by unfold isRow; decide) (by unfold ir; omega) hI) (wm 6 28 rfl rfl) (wm 6 29 rfl rfl) (wm 6 30 rfl rfl) rfl rfl (by decide) rfl (wm 1 10 rfl rfl) (wm 6 31 rfl rfl) (by decide) hR (by decide) (n := 3) rfl rfl (Nat.le_of_ble_eq_true rfl) hl.1 dX4_giveAnswer_29 (fun μ17 ρ d0 H locs hp G => ?_)
  obtain ⟨F_18, hI_19, hp_20⟩ := hp
  refine lv_aload_n hx hb dX4_giveAnswer_32 rfl (lv_at hl 2 rfl) ?_
  refine xa_getr G fd_X4 (a := 32) (x := 33) 3 rfl (by decide) rfl (wm 2 147 rfl rfl) ⟨rfl, rfl, rfl⟩ dX4_giveAnswer_33 rfl (G.sk 36 rfl) (by decide) rfl ?_
  refine lv_iload_n hx hb dX4_giveAnswer_36 rfl (lv_at hl 0 rfl) ?_
  refine lv_iconst (v := iv 1) hx hb dX4_giveAnswer_37 rfl ?_
  refine xb_iadd hx hb dX4_giveAnswer_38 ?_
  refine xc_vV G (b := 33) (rest := []) (As := [.int (iv (r_9 + 1))]) (c_X9_resize ω l μ17 33 (r_9 + 1) (by unfold isRow; decide) (by unfold ir; omega) hI_19 (by omega)) (wm 5 55 rfl rfl) (wm 3 15 rfl rfl) (wm 3 16 rfl rfl) rfl rfl (by decide) rfl (wm 1 10 rfl rfl) (wm 3 17 rfl rfl) (by decide) hR (by decide) (n := 1) rfl rfl (Nat.le_of_ble_eq_true rfl) hl.1 dX4_giveAnswer_39 (fun μ21 ρ d0 H locs hp G => ?_)
  obtain ⟨F_22, hI_23, hs_24⟩ := hp
  refine lv_aload_n hx hb dX4_giveAnswer_42 rfl (lv_at hl 2 rfl) ?_
  have e_25 : μ21.1 33 3 = max (r_9 + 1) 0 := hs_24
  have e_26 : μ21.1 52 7 = n := ((F_22.1 52 (by decide) 7).trans ((F_18.1 52 (by decide) 7).trans hn.symm))
  have e_27 : μ21.1 53 (n - 2) = μ.1 53 (n - 2) := ((F_22.1 53 (by decide) (n - 2)).trans (F_18.1 53 (by decide) (n - 2)))
  have e_28 : μ21.1 53 (n - 2) = μ.1 53 (n - 2) := ((F_22.1 53 (by decide) (n - 2)).trans (F_18.1 53 (by decide) (n - 2)))
  have e_29 : μ21.1 58 (n - 1) = μ.1 58 (n - 1) := ((F_22.1 58 (by decide) (n - 1)).trans (F_18.1 58 (by decide) (n - 1)))
  have e_30 : μ21.1 58 (n - 1) = μ.1 58 (n - 1) := ((F_22.1 58 (by decide) (n - 1)).trans (F_18.1 58 (by decide) (n - 1)))
  have e_31 : μ21.1 58 (n - 1) = μ.1 58 (n - 1) := ((F_22.1 58 (by decide) (n - 1)).trans (F_18.1 58 (by decide) (n - 1)))
  have e_32 : μ21.1 58 (n - 1) = μ.1 58 (n - 1) := ((F_22.1 58 (by decide) (n - 1)).trans (F_18.1 58 (by decide) (n - 1)))
  have e_33 : μ21.1 53 (n - 2) = μ.1 53 (n - 2) := ((F_22.1 53 (by decide) (n - 2)).trans (F_18.1 53 (by decide) (n - 2)))
  have e_34 : μ21.1 32 13 = μ.1 32 13 := ((F_22.1 32 (by decide) 13).trans (F_18.1 32 (by decide) 13))
  have e_35 : μ21.1 32 14 = μ.1 32 14 := ((F_22.1 32 (by decide) 14).trans (F_18.1 32 (by decide) 14))
  have e_36 : μ21.1 32 15 = μ.1 32 15 := ((F_22.1 32 (by decide) 15).trans (F_18.1 32 (by decide) 15))
  have e_37 : μ21.1 32 16 = μ.1 32 16 := ((F_22.1 32 (by decide) 16).trans (F_18.1 32 (by decide) 16))
  refine xc_vV G (b := 32) (rest := []) (As := []) (c_X4_backToCaller ω l μ21 (max (r_9 + 1) 0) n hI_23 (by omega) (by omega) (by omega) (by omega) (by omega)) (wm 5 226 rfl rfl) (wm 5 228 rfl rfl) (wm 0 73 rfl rfl) rfl rfl (by decide) rfl (wm 1 14 rfl rfl) (wm 5 229 rfl rfl) (by decide) hR (by decide) (n := 0) rfl rfl (Nat.le_of_ble_eq_true rfl) hl.1 dX4_giveAnswer_43 (fun μ38 ρ d0 H locs hp G => ?_)
  obtain ⟨F_39, hI_40, hs_41, hp_42, hp_43, hs_44, hs_45, hs_46, hs_47⟩ := hp
  have hB_48 : μ38.1 32 10 = μ.1 12 (μ.1 53 (n - 2)) := by rw [hp_43, show μ21.1 53 (n - 2) = μ.1 53 (n - 2) from ((F_22.1 53 (by decide) (n - 2)).trans (F_18.1 53 (by decide) (n - 2)))]; exact ((F_22.1 12 (by decide) (μ.1 53 (n - 2))).trans (F_18.1 12 (by decide) (μ.1 53 (n - 2))))
  refine lv_iload_n hx hb dX4_giveAnswer_46 rfl (lv_at hl 1 rfl) ?_
  refine lv_aload_n hx hb dX4_giveAnswer_47 rfl (lv_at hl 2 rfl) ?_
  refine xa_getr G fd_X4 (a := 32) (x := 52) 7 rfl (by decide) rfl (wm 2 151 rfl rfl) ⟨rfl, rfl, rfl⟩ dX4_giveAnswer_48 rfl (G.sk 40 rfl) (by decide) rfl ?_
  refine xc_iV G (b := 52) (rest := [.int (iv r_5)]) (As := []) (c_X2_tongue ω l μ38  hI_40) (wm 5 218 rfl rfl) (wm 5 219 rfl rfl) (wm 5 220 rfl rfl) rfl rfl (by decide) rfl (wm 1 16 rfl rfl) (wm 5 221 rfl rfl) (by decide) hR (by decide) (n := 0) rfl rfl (Nat.le_of_ble_eq_true rfl) hl.1 dX4_giveAnswer_51 (fun r_50 μ49 ρ d0 H locs hr_r_50 hp G => ?_)
  have hr_r_50 : -2147483648 ≤ r_50 ∧ r_50 ≤ 2147483647 := hr_r_50
  obtain ⟨hsm_51, hp_52⟩ := hp
  have hsm_51 := Eq.symm hsm_51
  subst hsm_51
  refine xb_icmp_ne (tgt := 58) hx hb (by unfold ir; omega) (by unfold ir; omega) dX4_giveAnswer_54 (by decide) (fun c_54 => ?_) (fun c_54 => ?_)
  · refine lv_aload_n hx hb dX4_giveAnswer_58 rfl (lv_at hl 2 rfl) ?_
    refine xa_getr G fd_X4 (a := 32) (x := 33) 3 rfl (by decide) rfl (wm 2 147 rfl rfl) ⟨rfl, rfl, rfl⟩ dX4_giveAnswer_59 rfl (G.sk 36 rfl) (by decide) rfl ?_
    refine xc_iV G (b := 33) (rest := []) (As := []) (c_X9_kindOfTop ω l μ38 33 (by unfold isRow; decide) hI_40) (wm 6 83 rfl rfl) (wm 5 152 rfl rfl) (wm 5 153 rfl rfl) rfl rfl (by decide) rfl (wm 1 10 rfl rfl) (wm 5 154 rfl rfl) (by decide) hR (by decide) (n := 0) rfl rfl (Nat.le_of_ble_eq_true rfl) hl.1 dX4_giveAnswer_62 (fun r_54 μ53 ρ d0 H locs hr_r_54 hp G => ?_)
    have hr_r_54 : -2147483648 ≤ r_54 ∧ r_54 ≤ 2147483647 := hr_r_54
    have hsm_55 := hp
    have hsm_55 := Eq.symm hsm_55
    subst hsm_55
    refine lv_iconst (v := iv 4) hx hb dX4_giveAnswer_65 rfl ?_
    refine xb_icmp_ne (tgt := 98) hx hb (by unfold ir; omega) (by unfold ir; omega) dX4_giveAnswer_66 (by decide) (fun c_66 => ?_) (fun c_66 => ?_)
    · refine lv_aload_n hx hb dX4_giveAnswer_98 rfl (lv_at hl 2 rfl) ?_
      refine xa_getr G fd_X4 (a := 32) (x := 6) 2 rfl (by decide) rfl (wm 2 146 rfl rfl) ⟨rfl, rfl, rfl⟩ dX4_giveAnswer_99 rfl (G.sk 35 rfl) (by decide) rfl ?_
      refine lv_aload_n hx hb dX4_giveAnswer_102 rfl (lv_at hl 2 rfl) ?_
      refine xa_getr G fd_X4 (a := 32) (x := 33) 3 rfl (by decide) rfl (wm 2 147 rfl rfl) ⟨rfl, rfl, rfl⟩ dX4_giveAnswer_103 rfl (G.sk 36 rfl) (by decide) rfl ?_
      refine lv_aload_n hx hb dX4_giveAnswer_106 rfl (lv_at hl 2 rfl) ?_
      have e_56 : μ38.1 33 3 = max (r_9 + 1) 0 := ((F_39.1 33 (by decide) 3).trans hs_24)
      refine xc_iV G (b := 32) (rest := [.ref (oP ω 33), .ref (oP ω 6)]) (As := []) (c_X4_top ω l μ38 (max (r_9 + 1) 0) hI_40 (by omega)) (wm 6 73 rfl rfl) (wm 6 75 rfl rfl) (wm 0 80 rfl rfl) rfl rfl (by decide) rfl (wm 1 14 rfl rfl) (wm 6 76 rfl rfl) (by decide) hR (by decide) (n := 0) rfl rfl (Nat.le_of_ble_eq_true rfl) hl.1 dX4_giveAnswer_107 (fun r_58 μ57 ρ d0 H locs hr_r_58 hp G => ?_)
      have hr_r_58 : -2147483648 ≤ r_58 ∧ r_58 ≤ 2147483647 := hr_r_58
      obtain ⟨hsm_59, hp_60⟩ := hp
      have hsm_59 := Eq.symm hsm_59
      subst hsm_59
      refine lv_iload_n hx hb dX4_giveAnswer_110 rfl (lv_at hl 1 rfl) ?_
      refine lv_aload_n hx hb dX4_giveAnswer_111 rfl (lv_at hl 2 rfl) ?_
      refine xa_getr G fd_X4 (a := 32) (x := 52) 7 rfl (by decide) rfl (wm 2 151 rfl rfl) ⟨rfl, rfl, rfl⟩ dX4_giveAnswer_112 rfl (G.sk 40 rfl) (by decide) rfl ?_
      refine xc_iV G (b := 52) (rest := [.int (iv r_5), .int (iv r_58), .ref (oP ω 33), .ref (oP ω 6)]) (As := []) (c_X2_tongue ω l μ38  hI_40) (wm 5 218 rfl rfl) (wm 5 219 rfl rfl) (wm 5 220 rfl rfl) rfl rfl (by decide) rfl (wm 1 16 rfl rfl) (wm 5 221 rfl rfl) (by decide) hR (by decide) (n := 0) rfl rfl (Nat.le_of_ble_eq_true rfl) hl.1 dX4_giveAnswer_115 (fun r_62 μ61 ρ d0 H locs hr_r_62 hp G => ?_)
      have hr_r_62 : -2147483648 ≤ r_62 ∧ r_62 ≤ 2147483647 := hr_r_62
      obtain ⟨hsm_63, hp_64⟩ := hp
      have hsm_63 := Eq.symm hsm_63
      subst hsm_63
      have e_65 : μ38.1 33 3 = max (r_9 + 1) 0 := ((F_39.1 33 (by decide) 3).trans hs_24)
      refine xc_iV G (b := 6) (rest := []) (As := [.ref (oP ω 33), .int (iv r_58), .int (iv r_5), .int (iv r_62)]) (c_X0_turn ω l μ38 33 r_58 r_5 r_62 (by unfold isRow; decide) (by unfold ir; omega) (by unfold ir; omega) (by unfold ir; omega) hI_40) (wm 6 32 rfl rfl) (wm 6 33 rfl rfl) (wm 6 34 rfl rfl) rfl rfl (by decide) rfl (wm 1 7 rfl rfl) (wm 6 35 rfl rfl) (by decide) hR (by decide) (n := 4) rfl rfl (Nat.le_of_ble_eq_true rfl) hl.1 dX4_giveAnswer_118 (fun r_67 μ66 ρ d0 H locs hr_r_67 hp G => ?_)
      have hr_r_67 : -2147483648 ≤ r_67 ∧ r_67 ≤ 2147483647 := hr_r_67
      obtain ⟨F_68, hI_69, hp_70, hp_71, hs_72⟩ := hp
      refine xb_if_ne (tgt := 131) hx hb (by unfold ir; omega) dX4_giveAnswer_121 (by decide) (fun c_121 => ?_) (fun c_121 => ?_)
      · have e_73 : μ66.1 33 3 = max (r_9 + 1) 0 := (hs_72.trans ((F_39.1 33 (by decide) 3).trans hs_24))
        have e_74 : μ66.1 32 13 = μ.1 32 13 := ((F_68.1 32 (by decide) 13).trans (hs_44.trans ((F_22.1 32 (by decide) 13).trans (F_18.1 32 (by decide) 13))))
        have e_75 : μ66.1 52 7 = n - 1 := ((F_68.1 52 (by decide) 7).trans hs_41)
        have e_76 : μ66.1 32 12 = μ38.1 32 12 := (F_68.1 32 (by decide) 12)
        have e_77 : ofF μ66 53 = ofF μ38 53 := (ofF_fr F_68 (by decide) (by decide))
        have h0_e : μ66.1 52 7 = n - 1 ∧ μ66.1 32 12 = μ.1 58 (n - 1) + 1 ∧ ((μ66.1 33 3 ≤ max (μ.1 57 (n - 1) + 1) 1 ∧ (μ66.1 32 13 = 0 ∨ μ66.1 32 13 = 1 ∨ μ66.1 32 13 = 4)) ∨ (μ66.1 33 3 ≤ max (μ.1 57 (n - 1)) 0 ∧ μ66.1 32 13 = 2)) := by
          exact ⟨by omega, by omega, Or.inl ⟨by omega, by omega⟩⟩
        have e_78 : μ66.1 70 2 = μ.1 70 2 := ((F_68.1 70 (by decide) 2).trans ((F_39.1 70 (by decide) 2).trans ((F_22.1 70 (by decide) 2).trans (F_18.1 70 (by decide) 2))))
        have e_79 : μ66.1 70 2 = μ.1 70 2 := ((F_68.1 70 (by decide) 2).trans ((F_39.1 70 (by decide) 2).trans ((F_22.1 70 (by decide) 2).trans (F_18.1 70 (by decide) 2))))
        have e_80 : μ66.1 70 8 = μ.1 70 8 := ((F_68.1 70 (by decide) 8).trans ((F_39.1 70 (by decide) 8).trans ((F_22.1 70 (by decide) 8).trans (F_18.1 70 (by decide) 8))))
        have e_81 : μ66.1 70 8 = μ.1 70 8 := ((F_68.1 70 (by decide) 8).trans ((F_39.1 70 (by decide) 8).trans ((F_22.1 70 (by decide) 8).trans (F_18.1 70 (by decide) 8))))
        have e_82 : μ66.1 45 1 = μ.1 45 1 := ((F_68.1 45 (by decide) 1).trans ((F_39.1 45 (by decide) 1).trans ((F_22.1 45 (by decide) 1).trans (F_18.1 45 (by decide) 1))))
        have e_83 : μ66.1 70 2 = μ.1 70 2 := ((F_68.1 70 (by decide) 2).trans ((F_39.1 70 (by decide) 2).trans ((F_22.1 70 (by decide) 2).trans (F_18.1 70 (by decide) 2))))
        have e_84 : μ66.1 32 15 = μ.1 32 15 := ((F_68.1 32 (by decide) 15).trans (hs_46.trans ((F_22.1 32 (by decide) 15).trans (F_18.1 32 (by decide) 15))))
        have e_85 : μ66.1 32 16 = μ.1 32 16 := ((F_68.1 32 (by decide) 16).trans (hs_47.trans ((F_22.1 32 (by decide) 16).trans (F_18.1 32 (by decide) 16))))
        have e_86 : μ66.1 70 1 = μ.1 70 1 := ((F_68.1 70 (by decide) 1).trans ((F_39.1 70 (by decide) 1).trans ((F_22.1 70 (by decide) 1).trans (F_18.1 70 (by decide) 1))))
        have e_87 : μ66.1 70 3 = μ.1 70 3 := ((F_68.1 70 (by decide) 3).trans ((F_39.1 70 (by decide) 3).trans ((F_22.1 70 (by decide) 3).trans (F_18.1 70 (by decide) 3))))
        have e_88 : μ66.1 70 4 = μ.1 70 4 := ((F_68.1 70 (by decide) 4).trans ((F_39.1 70 (by decide) 4).trans ((F_22.1 70 (by decide) 4).trans (F_18.1 70 (by decide) 4))))
        have e_89 : μ66.1 70 5 = μ.1 70 5 := ((F_68.1 70 (by decide) 5).trans ((F_39.1 70 (by decide) 5).trans ((F_22.1 70 (by decide) 5).trans (F_18.1 70 (by decide) 5))))
        have e_90 : μ66.1 70 7 = μ.1 70 7 := ((F_68.1 70 (by decide) 7).trans ((F_39.1 70 (by decide) 7).trans ((F_22.1 70 (by decide) 7).trans (F_18.1 70 (by decide) 7))))
        have e_91 : μ66.1 45 4 = μ.1 45 4 := ((F_68.1 45 (by decide) 4).trans ((F_39.1 45 (by decide) 4).trans ((F_22.1 45 (by decide) 4).trans (F_18.1 45 (by decide) 4))))
        exact xr_v G hret hlk dX4_giveAnswer_131 ⟨(Fr.tr (Fr.tr (Fr.tr (Fr.tr Fr.rf F_18 (by decide)) F_22 (by decide)) F_39 (by decide)) F_68 (by decide)), hI_69, h0_e, (fun _ => by rw [show μ66.1 32 10 = μ38.1 32 10 from (F_68.1 32 (by decide) 10)]; exact hB_48), (by omega), (by omega), (by omega), (by omega), (by omega), (by omega), (by omega), (by omega), (by omega)⟩
      · refine lv_aload_n hx hb dX4_giveAnswer_124 rfl (lv_at hl 2 rfl) ?_
        refine lv_bipush (v := iv 9) hx hb dX4_giveAnswer_125 rfl ?_
        refine lv_iconst (v := iv 1) hx hb dX4_giveAnswer_127 rfl ?_
        have e_92 : μ66.1 33 3 = max (r_9 + 1) 0 := (hs_72.trans ((F_39.1 33 (by decide) 3).trans hs_24))
        have e_93 : μ66.1 70 2 = μ.1 70 2 := ((F_68.1 70 (by decide) 2).trans ((F_39.1 70 (by decide) 2).trans ((F_22.1 70 (by decide) 2).trans (F_18.1 70 (by decide) 2))))
        have e_94 : μ66.1 70 2 = μ.1 70 2 := ((F_68.1 70 (by decide) 2).trans ((F_39.1 70 (by decide) 2).trans ((F_22.1 70 (by decide) 2).trans (F_18.1 70 (by decide) 2))))
        have e_95 : μ66.1 70 8 = μ.1 70 8 := ((F_68.1 70 (by decide) 8).trans ((F_39.1 70 (by decide) 8).trans ((F_22.1 70 (by decide) 8).trans (F_18.1 70 (by decide) 8))))
        have e_96 : μ66.1 70 8 = μ.1 70 8 := ((F_68.1 70 (by decide) 8).trans ((F_39.1 70 (by decide) 8).trans ((F_22.1 70 (by decide) 8).trans (F_18.1 70 (by decide) 8))))
        have hn_97 : 0 ≤ μ.1 45 1 ∧ 9 * μ.1 45 1 ≤ μ.2.1 46 := hI.nm.2.2.2.2.2.2.1
        have e_98 : μ66.1 45 1 = μ.1 45 1 := ((F_68.1 45 (by decide) 1).trans ((F_39.1 45 (by decide) 1).trans ((F_22.1 45 (by decide) 1).trans (F_18.1 45 (by decide) 1))))
        have e_99 : μ66.1 70 2 = μ.1 70 2 := ((F_68.1 70 (by decide) 2).trans ((F_39.1 70 (by decide) 2).trans ((F_22.1 70 (by decide) 2).trans (F_18.1 70 (by decide) 2))))
        have e_100 : μ66.1 32 13 = μ.1 32 13 := ((F_68.1 32 (by decide) 13).trans (hs_44.trans ((F_22.1 32 (by decide) 13).trans (F_18.1 32 (by decide) 13))))
        have e_101 : ofF μ66 53 = ofF μ38 53 := (ofF_fr F_68 (by decide) (by decide))
        have e_102 : μ66.1 70 2 = μ.1 70 2 := ((F_68.1 70 (by decide) 2).trans ((F_39.1 70 (by decide) 2).trans ((F_22.1 70 (by decide) 2).trans (F_18.1 70 (by decide) 2))))
        have e_103 : μ66.1 70 1 = μ.1 70 1 := ((F_68.1 70 (by decide) 1).trans ((F_39.1 70 (by decide) 1).trans ((F_22.1 70 (by decide) 1).trans (F_18.1 70 (by decide) 1))))
        have e_104 : μ66.1 70 3 = μ.1 70 3 := ((F_68.1 70 (by decide) 3).trans ((F_39.1 70 (by decide) 3).trans ((F_22.1 70 (by decide) 3).trans (F_18.1 70 (by decide) 3))))
        have e_105 : μ66.1 70 4 = μ.1 70 4 := ((F_68.1 70 (by decide) 4).trans ((F_39.1 70 (by decide) 4).trans ((F_22.1 70 (by decide) 4).trans (F_18.1 70 (by decide) 4))))
        have e_106 : μ66.1 70 5 = μ.1 70 5 := ((F_68.1 70 (by decide) 5).trans ((F_39.1 70 (by decide) 5).trans ((F_22.1 70 (by decide) 5).trans (F_18.1 70 (by decide) 5))))
        have e_107 : μ66.1 70 6 = μ.1 70 6 := ((F_68.1 70 (by decide) 6).trans ((F_39.1 70 (by decide) 6).trans ((F_22.1 70 (by decide) 6).trans (F_18.1 70 (by decide) 6))))
        have e_108 : μ66.1 70 7 = μ.1 70 7 := ((F_68.1 70 (by decide) 7).trans ((F_39.1 70 (by decide) 7).trans ((F_22.1 70 (by decide) 7).trans (F_18.1 70 (by decide) 7))))
        have e_109 : μ66.1 32 10 = μ38.1 32 10 := (F_68.1 32 (by decide) 10)
        have e_110 : μ66.1 32 11 = μ38.1 32 11 := (F_68.1 32 (by decide) 11)
        have e_111 : μ66.1 32 12 = μ38.1 32 12 := (F_68.1 32 (by decide) 12)
        have e_112 : μ66.1 32 15 = μ.1 32 15 := ((F_68.1 32 (by decide) 15).trans (hs_46.trans ((F_22.1 32 (by decide) 15).trans (F_18.1 32 (by decide) 15))))
        have e_113 : μ66.1 32 16 = μ.1 32 16 := ((F_68.1 32 (by decide) 16).trans (hs_47.trans ((F_22.1 32 (by decide) 16).trans (F_18.1 32 (by decide) 16))))
        have hn_114 : 0 ≤ μ.1 45 4 ∧ 2 * μ.1 45 4 ≤ μ.2.1 51 := hI.nm.2.2.2.2.2.2.2.1
        have e_115 : μ66.1 45 4 = μ.1 45 4 := ((F_68.1 45 (by decide) 4).trans ((F_39.1 45 (by decide) 4).trans ((F_22.1 45 (by decide) 4).trans (F_18.1 45 (by decide) 4))))
        refine xc_vV G (b := 32) (rest := []) (As := [.int (iv 9), .int (iv 1)]) (c_X4_fails ω l μ66 9 1 (max (r_9 + 1) 0) (by unfold ir; omega) (by unfold ir; omega) hI_69 (by omega) (by omega) (by omega) (by omega)) (wm 6 93 rfl rfl) (wm 6 95 rfl rfl) (wm 0 82 rfl rfl) rfl rfl (by decide) rfl (wm 1 14 rfl rfl) (wm 6 96 rfl rfl) (by decide) hR (by decide) (n := 2) rfl rfl (Nat.le_of_ble_eq_true rfl) hl.1 dX4_giveAnswer_128 (fun μ116 ρ d0 H locs hp G => ?_)
        obtain ⟨F_117, hI_118, hp_119, hp_120, hs_121, hs_122, hs_123, hs_124, hs_125, hs_126, hs_127, hs_128, hs_129, hs_130, hs_131, hs_132⟩ := hp
        have hk_133 := hI_118.row (r := 33) (by unfold isRow; decide)
        unfold rk at hk_133
        simp only [Int.reduceAdd] at hk_133
        have hn_134 : 0 ≤ μ116.1 45 1 ∧ 9 * μ116.1 45 1 ≤ μ116.2.1 46 := hI_118.nm.2.2.2.2.2.2.1
        have e_135 : μ116.1 52 7 = n - 1 := ((F_117.1 52 (by decide) 7).trans ((F_68.1 52 (by decide) 7).trans hs_41))
        have e_136 : μ116.1 32 12 = μ38.1 32 12 := (hs_129.trans (F_68.1 32 (by decide) 12))
        have e_137 : ofF μ116 53 = ofF μ38 53 := ((ofF_fr F_117 (by decide) (by decide)).trans (ofF_fr F_68 (by decide) (by decide)))
        have h0_e : μ116.1 52 7 = n - 1 ∧ μ116.1 32 12 = μ.1 58 (n - 1) + 1 ∧ ((μ116.1 33 3 ≤ max (μ.1 57 (n - 1) + 1) 1 ∧ (μ116.1 32 13 = 0 ∨ μ116.1 32 13 = 1 ∨ μ116.1 32 13 = 4)) ∨ (μ116.1 33 3 ≤ max (μ.1 57 (n - 1)) 0 ∧ μ116.1 32 13 = 2)) := by
          rcases hp_119 with ⟨q1, q2, q3⟩ | ⟨q1, q2⟩
          · exact ⟨by omega, by omega, Or.inl ⟨by omega, by omega⟩⟩
          · exact ⟨by omega, by omega, Or.inl ⟨by omega, by omega⟩⟩
        have e_138 : μ116.1 32 15 = μ.1 32 15 := (hs_130.trans ((F_68.1 32 (by decide) 15).trans (hs_46.trans ((F_22.1 32 (by decide) 15).trans (F_18.1 32 (by decide) 15)))))
        have e_139 : μ116.1 32 16 = μ.1 32 16 := (hs_131.trans ((F_68.1 32 (by decide) 16).trans (hs_47.trans ((F_22.1 32 (by decide) 16).trans (F_18.1 32 (by decide) 16)))))
        have e_140 : μ116.1 70 1 = μ.1 70 1 := (hs_121.trans ((F_68.1 70 (by decide) 1).trans ((F_39.1 70 (by decide) 1).trans ((F_22.1 70 (by decide) 1).trans (F_18.1 70 (by decide) 1)))))
        have e_141 : μ116.1 70 3 = μ.1 70 3 := (hs_122.trans ((F_68.1 70 (by decide) 3).trans ((F_39.1 70 (by decide) 3).trans ((F_22.1 70 (by decide) 3).trans (F_18.1 70 (by decide) 3)))))
        have e_142 : μ116.1 70 4 = μ.1 70 4 := (hs_123.trans ((F_68.1 70 (by decide) 4).trans ((F_39.1 70 (by decide) 4).trans ((F_22.1 70 (by decide) 4).trans (F_18.1 70 (by decide) 4)))))
        have e_143 : μ116.1 70 5 = μ.1 70 5 := (hs_124.trans ((F_68.1 70 (by decide) 5).trans ((F_39.1 70 (by decide) 5).trans ((F_22.1 70 (by decide) 5).trans (F_18.1 70 (by decide) 5)))))
        have e_144 : μ116.1 70 7 = μ.1 70 7 := (hs_126.trans ((F_68.1 70 (by decide) 7).trans ((F_39.1 70 (by decide) 7).trans ((F_22.1 70 (by decide) 7).trans (F_18.1 70 (by decide) 7)))))
        have e_145 : μ116.1 45 4 = μ.1 45 4 := (hs_132.trans ((F_68.1 45 (by decide) 4).trans ((F_39.1 45 (by decide) 4).trans ((F_22.1 45 (by decide) 4).trans (F_18.1 45 (by decide) 4)))))
        exact xr_v G hret hlk dX4_giveAnswer_131 ⟨(Fr.tr (Fr.tr (Fr.tr (Fr.tr (Fr.tr Fr.rf F_18 (by decide)) F_22 (by decide)) F_39 (by decide)) F_68 (by decide)) F_117 (by decide)), hI_118, h0_e, (fun _ => by rw [show μ116.1 32 10 = μ38.1 32 10 from (hs_127.trans (F_68.1 32 (by decide) 10))]; exact hB_48), (by omega), (by omega), (by omega), (by omega), (by omega), (by omega), (by omega), (by omega), (by omega)⟩
    · refine lv_aload_n hx hb dX4_giveAnswer_69 rfl (lv_at hl 2 rfl) ?_
      refine xa_getr G fd_X4 (a := 32) (x := 33) 3 rfl (by decide) rfl (wm 2 147 rfl rfl) ⟨rfl, rfl, rfl⟩ dX4_giveAnswer_70 rfl (G.sk 36 rfl) (by decide) rfl ?_
      refine lv_aload_n hx hb dX4_giveAnswer_73 rfl (lv_at hl 2 rfl) ?_
      have e_146 : μ38.1 33 3 = max (r_9 + 1) 0 := ((F_39.1 33 (by decide) 3).trans hs_24)
      refine xc_iV G (b := 32) (rest := [.ref (oP ω 33)]) (As := []) (c_X4_top ω l μ38 (max (r_9 + 1) 0) hI_40 (by omega)) (wm 6 73 rfl rfl) (wm 6 75 rfl rfl) (wm 0 80 rfl rfl) rfl rfl (by decide) rfl (wm 1 14 rfl rfl) (wm 6 76 rfl rfl) (by decide) hR (by decide) (n := 0) rfl rfl (Nat.le_of_ble_eq_true rfl) hl.1 dX4_giveAnswer_74 (fun r_148 μ147 ρ d0 H locs hr_r_148 hp G => ?_)
      have hr_r_148 : -2147483648 ≤ r_148 ∧ r_148 ≤ 2147483647 := hr_r_148
      obtain ⟨hsm_149, hp_150⟩ := hp
      have hsm_149 := Eq.symm hsm_149
      subst hsm_149
      refine xc_lV G (b := 33) (rest := []) (As := [.int (iv r_148)]) (c_X9_whole ω l μ38 33 r_148 (by unfold isRow; decide) (by unfold ir; omega) hI_40) (wm 6 84 rfl rfl) (wm 5 160 rfl rfl) (wm 5 161 rfl rfl) rfl rfl (by decide) rfl (wm 1 10 rfl rfl) (wm 5 162 rfl rfl) (by decide) hR (by decide) (n := 1) rfl rfl (Nat.le_of_ble_eq_true rfl) hl.1 dX4_giveAnswer_77 (fun r_152 μ151 ρ d0 H locs hr_r_152 hp G => ?_)
      have hsm_153 := hp
      have hsm_153 := Eq.symm hsm_153
      subst hsm_153
      refine xb_l2i hx hb dX4_giveAnswer_80 ?_
      refine xb_topi (fun y_154 hr_y_154 he_y_154 => ?_)
      have hr_y_154 : -2147483648 ≤ y_154 ∧ y_154 ≤ 2147483647 := hr_y_154
      refine lv_istore_n (lv' := [(3, .int (iv y_154)), (2, .int (iv r_9)), (1, .int (iv r_5)), (0, .ref (oP ω 32))]) hx hb dX4_giveAnswer_81 rfl hl (by decide) rfl (fun ls hl => ?_)
      refine lv_aload_n hx hb dX4_giveAnswer_82 rfl (lv_at hl 3 rfl) ?_
      refine xa_getr G fd_X4 (a := 32) (x := 33) 3 rfl (by decide) rfl (wm 2 147 rfl rfl) ⟨rfl, rfl, rfl⟩ dX4_giveAnswer_83 rfl (G.sk 36 rfl) (by decide) rfl ?_
      refine lv_iconst (v := iv 1) hx hb dX4_giveAnswer_86 rfl ?_
      have e_155 : μ38.1 33 3 = max (r_9 + 1) 0 := ((F_39.1 33 (by decide) 3).trans hs_24)
      refine xc_vV G (b := 33) (rest := []) (As := [.int (iv 1)]) (c_X9_drop ω l μ38 33 1 (max (r_9 + 1) 0) (by unfold isRow; decide) (by unfold ir; omega) hI_40 (by omega) (by omega)) (wm 6 89 rfl rfl) (wm 6 90 rfl rfl) (wm 6 91 rfl rfl) rfl rfl (by decide) rfl (wm 1 10 rfl rfl) (wm 6 92 rfl rfl) (by decide) hR (by decide) (n := 1) rfl rfl (Nat.le_of_ble_eq_true rfl) hl.1 dX4_giveAnswer_87 (fun μ156 ρ d0 H locs hp G => ?_)
      obtain ⟨F_157, hI_158, hs_159⟩ := hp
      refine lv_aload_n hx hb dX4_giveAnswer_90 rfl (lv_at hl 3 rfl) ?_
      refine lv_iload_n hx hb dX4_giveAnswer_91 rfl (lv_at hl 0 rfl) ?_
      have e_160 : μ156.1 33 3 = max ((max (r_9 + 1) 0) - 1) 0 := hs_159
      have e_161 : μ156.1 70 2 = μ.1 70 2 := ((F_157.1 70 (by decide) 2).trans ((F_39.1 70 (by decide) 2).trans ((F_22.1 70 (by decide) 2).trans (F_18.1 70 (by decide) 2))))
      have e_162 : μ156.1 70 2 = μ.1 70 2 := ((F_157.1 70 (by decide) 2).trans ((F_39.1 70 (by decide) 2).trans ((F_22.1 70 (by decide) 2).trans (F_18.1 70 (by decide) 2))))
      have e_163 : μ156.1 70 8 = μ.1 70 8 := ((F_157.1 70 (by decide) 8).trans ((F_39.1 70 (by decide) 8).trans ((F_22.1 70 (by decide) 8).trans (F_18.1 70 (by decide) 8))))
      have e_164 : μ156.1 70 8 = μ.1 70 8 := ((F_157.1 70 (by decide) 8).trans ((F_39.1 70 (by decide) 8).trans ((F_22.1 70 (by decide) 8).trans (F_18.1 70 (by decide) 8))))
      have hn_165 : 0 ≤ μ.1 45 1 ∧ 9 * μ.1 45 1 ≤ μ.2.1 46 := hI.nm.2.2.2.2.2.2.1
      have e_166 : μ156.1 45 1 = μ.1 45 1 := ((F_157.1 45 (by decide) 1).trans ((F_39.1 45 (by decide) 1).trans ((F_22.1 45 (by decide) 1).trans (F_18.1 45 (by decide) 1))))
      have e_167 : μ156.1 70 2 = μ.1 70 2 := ((F_157.1 70 (by decide) 2).trans ((F_39.1 70 (by decide) 2).trans ((F_22.1 70 (by decide) 2).trans (F_18.1 70 (by decide) 2))))
      have e_168 : μ156.1 32 13 = μ.1 32 13 := ((F_157.1 32 (by decide) 13).trans (hs_44.trans ((F_22.1 32 (by decide) 13).trans (F_18.1 32 (by decide) 13))))
      have e_169 : μ156.1 70 2 = μ.1 70 2 := ((F_157.1 70 (by decide) 2).trans ((F_39.1 70 (by decide) 2).trans ((F_22.1 70 (by decide) 2).trans (F_18.1 70 (by decide) 2))))
      have e_170 : μ156.1 70 1 = μ.1 70 1 := ((F_157.1 70 (by decide) 1).trans ((F_39.1 70 (by decide) 1).trans ((F_22.1 70 (by decide) 1).trans (F_18.1 70 (by decide) 1))))
      have e_171 : μ156.1 70 3 = μ.1 70 3 := ((F_157.1 70 (by decide) 3).trans ((F_39.1 70 (by decide) 3).trans ((F_22.1 70 (by decide) 3).trans (F_18.1 70 (by decide) 3))))
      have e_172 : μ156.1 70 4 = μ.1 70 4 := ((F_157.1 70 (by decide) 4).trans ((F_39.1 70 (by decide) 4).trans ((F_22.1 70 (by decide) 4).trans (F_18.1 70 (by decide) 4))))
      have e_173 : μ156.1 70 5 = μ.1 70 5 := ((F_157.1 70 (by decide) 5).trans ((F_39.1 70 (by decide) 5).trans ((F_22.1 70 (by decide) 5).trans (F_18.1 70 (by decide) 5))))
      have e_174 : μ156.1 70 7 = μ.1 70 7 := ((F_157.1 70 (by decide) 7).trans ((F_39.1 70 (by decide) 7).trans ((F_22.1 70 (by decide) 7).trans (F_18.1 70 (by decide) 7))))
      have e_175 : μ156.1 32 10 = μ38.1 32 10 := (F_157.1 32 (by decide) 10)
      have e_176 : μ156.1 32 11 = μ38.1 32 11 := (F_157.1 32 (by decide) 11)
      have e_177 : μ156.1 32 12 = μ38.1 32 12 := (F_157.1 32 (by decide) 12)
      have e_178 : μ156.1 32 15 = μ.1 32 15 := ((F_157.1 32 (by decide) 15).trans (hs_46.trans ((F_22.1 32 (by decide) 15).trans (F_18.1 32 (by decide) 15))))
      have e_179 : μ156.1 32 16 = μ.1 32 16 := ((F_157.1 32 (by decide) 16).trans (hs_47.trans ((F_22.1 32 (by decide) 16).trans (F_18.1 32 (by decide) 16))))
      have hn_180 : 0 ≤ μ.1 45 4 ∧ 2 * μ.1 45 4 ≤ μ.2.1 51 := hI.nm.2.2.2.2.2.2.2.1
      have e_181 : μ156.1 45 4 = μ.1 45 4 := ((F_157.1 45 (by decide) 4).trans ((F_39.1 45 (by decide) 4).trans ((F_22.1 45 (by decide) 4).trans (F_18.1 45 (by decide) 4))))
      refine xc_vV G (b := 32) (rest := []) (As := [.int (iv y_154)]) (c_X4_turnFailure ω l μ156 y_154 (max ((max (r_9 + 1) 0) - 1) 0) (by unfold ir; omega) hI_158 (by omega) (by omega) (by omega) (by omega)) (wm 5 238 rfl rfl) (wm 6 0 rfl rfl) (wm 0 74 rfl rfl) rfl rfl (by decide) rfl (wm 1 14 rfl rfl) (wm 6 1 rfl rfl) (by decide) hR (by decide) (n := 1) rfl rfl (Nat.le_of_ble_eq_true rfl) hl.1 dX4_giveAnswer_92 (fun μ182 ρ d0 H locs hp G => ?_)
      obtain ⟨F_183, hI_184, hp_185, hp_186, hs_187, hs_188, hs_189, hs_190, hs_191, hs_192, hs_193, hs_194, hs_195, hs_196, hs_197⟩ := hp
      have hk_198 := hI_184.row (r := 33) (by unfold isRow; decide)
      unfold rk at hk_198
      simp only [Int.reduceAdd] at hk_198
      have hn_199 : 0 ≤ μ182.1 45 1 ∧ 9 * μ182.1 45 1 ≤ μ182.2.1 46 := hI_184.nm.2.2.2.2.2.2.1
      refine lv_goto (tgt := 131) hx hb dX4_giveAnswer_95 (by decide) ?_
      have e_200 : μ182.1 52 7 = n - 1 := ((F_183.1 52 (by decide) 7).trans ((F_157.1 52 (by decide) 7).trans hs_41))
      have e_201 : μ182.1 32 12 = μ38.1 32 12 := (hs_194.trans (F_157.1 32 (by decide) 12))
      have e_202 : ofF μ182 53 = ofF μ38 53 := ((ofF_fr F_183 (by decide) (by decide)).trans (ofF_fr F_157 (by decide) (by decide)))
      have h0_e : μ182.1 52 7 = n - 1 ∧ μ182.1 32 12 = μ.1 58 (n - 1) + 1 ∧ ((μ182.1 33 3 ≤ max (μ.1 57 (n - 1) + 1) 1 ∧ (μ182.1 32 13 = 0 ∨ μ182.1 32 13 = 1 ∨ μ182.1 32 13 = 4)) ∨ (μ182.1 33 3 ≤ max (μ.1 57 (n - 1)) 0 ∧ μ182.1 32 13 = 2)) := by
        rcases hp_185 with ⟨q1, q2⟩ | ⟨q1, q2⟩
        · exact ⟨by omega, by omega, Or.inl ⟨by omega, by omega⟩⟩
        · rcases q2 with q2 | q2 | q2
          · exact ⟨by omega, by omega, Or.inl ⟨by omega, by omega⟩⟩
          · exact ⟨by omega, by omega, Or.inr ⟨by omega, by omega⟩⟩
          · exact ⟨by omega, by omega, Or.inl ⟨by omega, by omega⟩⟩
      have e_203 : μ182.1 32 15 = μ.1 32 15 := (hs_195.trans ((F_157.1 32 (by decide) 15).trans (hs_46.trans ((F_22.1 32 (by decide) 15).trans (F_18.1 32 (by decide) 15)))))
      have e_204 : μ182.1 32 16 = μ.1 32 16 := (hs_196.trans ((F_157.1 32 (by decide) 16).trans (hs_47.trans ((F_22.1 32 (by decide) 16).trans (F_18.1 32 (by decide) 16)))))
      have e_205 : μ182.1 70 1 = μ.1 70 1 := (hs_187.trans ((F_157.1 70 (by decide) 1).trans ((F_39.1 70 (by decide) 1).trans ((F_22.1 70 (by decide) 1).trans (F_18.1 70 (by decide) 1)))))
      have e_206 : μ182.1 70 3 = μ.1 70 3 := (hs_188.trans ((F_157.1 70 (by decide) 3).trans ((F_39.1 70 (by decide) 3).trans ((F_22.1 70 (by decide) 3).trans (F_18.1 70 (by decide) 3)))))
      have e_207 : μ182.1 70 4 = μ.1 70 4 := (hs_189.trans ((F_157.1 70 (by decide) 4).trans ((F_39.1 70 (by decide) 4).trans ((F_22.1 70 (by decide) 4).trans (F_18.1 70 (by decide) 4)))))
      have e_208 : μ182.1 70 5 = μ.1 70 5 := (hs_190.trans ((F_157.1 70 (by decide) 5).trans ((F_39.1 70 (by decide) 5).trans ((F_22.1 70 (by decide) 5).trans (F_18.1 70 (by decide) 5)))))
      have e_209 : μ182.1 70 7 = μ.1 70 7 := (hs_191.trans ((F_157.1 70 (by decide) 7).trans ((F_39.1 70 (by decide) 7).trans ((F_22.1 70 (by decide) 7).trans (F_18.1 70 (by decide) 7)))))
      have e_210 : μ182.1 45 4 = μ.1 45 4 := (hs_197.trans ((F_157.1 45 (by decide) 4).trans ((F_39.1 45 (by decide) 4).trans ((F_22.1 45 (by decide) 4).trans (F_18.1 45 (by decide) 4)))))
      exact xr_v G hret hlk dX4_giveAnswer_131 ⟨(Fr.tr (Fr.tr (Fr.tr (Fr.tr (Fr.tr Fr.rf F_18 (by decide)) F_22 (by decide)) F_39 (by decide)) F_157 (by decide)) F_183 (by decide)), hI_184, h0_e, (fun _ => by rw [show μ182.1 32 10 = μ38.1 32 10 from (hs_192.trans (F_157.1 32 (by decide) 10))]; exact hB_48), (by omega), (by omega), (by omega), (by omega), (by omega), (by omega), (by omega), (by omega), (by omega)⟩
  · have e_211 : μ38.1 33 3 = max (r_9 + 1) 0 := ((F_39.1 33 (by decide) 3).trans hs_24)
    have e_212 : μ38.1 32 13 = μ.1 32 13 := (hs_44.trans ((F_22.1 32 (by decide) 13).trans (F_18.1 32 (by decide) 13)))
    have e_213 : μ38.1 52 7 = n - 1 := hs_41
    have h0_e : μ38.1 52 7 = n - 1 ∧ μ38.1 32 12 = μ.1 58 (n - 1) + 1 ∧ ((μ38.1 33 3 ≤ max (μ.1 57 (n - 1) + 1) 1 ∧ (μ38.1 32 13 = 0 ∨ μ38.1 32 13 = 1 ∨ μ38.1 32 13 = 4)) ∨ (μ38.1 33 3 ≤ max (μ.1 57 (n - 1)) 0 ∧ μ38.1 32 13 = 2)) := by
      exact ⟨by omega, by omega, Or.inl ⟨by omega, by omega⟩⟩
    have e_214 : μ38.1 70 2 = μ.1 70 2 := ((F_39.1 70 (by decide) 2).trans ((F_22.1 70 (by decide) 2).trans (F_18.1 70 (by decide) 2)))
    have e_215 : μ38.1 70 2 = μ.1 70 2 := ((F_39.1 70 (by decide) 2).trans ((F_22.1 70 (by decide) 2).trans (F_18.1 70 (by decide) 2)))
    have e_216 : μ38.1 70 8 = μ.1 70 8 := ((F_39.1 70 (by decide) 8).trans ((F_22.1 70 (by decide) 8).trans (F_18.1 70 (by decide) 8)))
    have e_217 : μ38.1 70 8 = μ.1 70 8 := ((F_39.1 70 (by decide) 8).trans ((F_22.1 70 (by decide) 8).trans (F_18.1 70 (by decide) 8)))
    have e_218 : μ38.1 45 1 = μ.1 45 1 := ((F_39.1 45 (by decide) 1).trans ((F_22.1 45 (by decide) 1).trans (F_18.1 45 (by decide) 1)))
    have e_219 : μ38.1 70 2 = μ.1 70 2 := ((F_39.1 70 (by decide) 2).trans ((F_22.1 70 (by decide) 2).trans (F_18.1 70 (by decide) 2)))
    have e_220 : μ38.1 32 15 = μ.1 32 15 := (hs_46.trans ((F_22.1 32 (by decide) 15).trans (F_18.1 32 (by decide) 15)))
    have e_221 : μ38.1 32 16 = μ.1 32 16 := (hs_47.trans ((F_22.1 32 (by decide) 16).trans (F_18.1 32 (by decide) 16)))
    have e_222 : μ38.1 70 1 = μ.1 70 1 := ((F_39.1 70 (by decide) 1).trans ((F_22.1 70 (by decide) 1).trans (F_18.1 70 (by decide) 1)))
    have e_223 : μ38.1 70 3 = μ.1 70 3 := ((F_39.1 70 (by decide) 3).trans ((F_22.1 70 (by decide) 3).trans (F_18.1 70 (by decide) 3)))
    have e_224 : μ38.1 70 4 = μ.1 70 4 := ((F_39.1 70 (by decide) 4).trans ((F_22.1 70 (by decide) 4).trans (F_18.1 70 (by decide) 4)))
    have e_225 : μ38.1 70 5 = μ.1 70 5 := ((F_39.1 70 (by decide) 5).trans ((F_22.1 70 (by decide) 5).trans (F_18.1 70 (by decide) 5)))
    have e_226 : μ38.1 70 7 = μ.1 70 7 := ((F_39.1 70 (by decide) 7).trans ((F_22.1 70 (by decide) 7).trans (F_18.1 70 (by decide) 7)))
    have e_227 : μ38.1 45 4 = μ.1 45 4 := ((F_39.1 45 (by decide) 4).trans ((F_22.1 45 (by decide) 4).trans (F_18.1 45 (by decide) 4)))
    exact xr_v G hret hlk dX4_giveAnswer_57 ⟨(Fr.tr (Fr.tr (Fr.tr Fr.rf F_18 (by decide)) F_22 (by decide)) F_39 (by decide)), hI_40, h0_e, (fun _ => by rw [show μ38.1 32 10 = μ38.1 32 10 from rfl]; exact hB_48), (by omega), (by omega), (by omega), (by omega), (by omega), (by omega), (by omega), (by omega), (by omega)⟩
