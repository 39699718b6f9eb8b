abbrev cX7_tryCatch : ByteArray := prog_9_method_31_code
def yX7_tryCatch : MethodName := ⟨RX7, "tryCatch", "()V"⟩
abbrev cX7_catches : ByteArray := prog_9_method_32_code
def yX7_catches : MethodName := ⟨RX7, "catches", "(I)V"⟩
theorem dX7_tryCatch_0 : decode cX7_tryCatch 0 = .ok (.aload_n 0, 1) := by decide +kernel
theorem dX7_tryCatch_1 : decode cX7_tryCatch 1 = .ok (.iconst 0, 1) := by decide +kernel
theorem dX7_tryCatch_2 : decode cX7_tryCatch 2 = .ok (.iconst 0, 1) := by decide +kernel
theorem dX7_tryCatch_3 : decode cX7_tryCatch 3 = .ok (.iconst 0, 1) := by decide +kernel
theorem dX7_tryCatch_4 : decode cX7_tryCatch 4 = .ok (.invokevirtual 157, 3) := by decide +kernel
theorem dX7_tryCatch_7 : decode cX7_tryCatch 7 = .ok (.istore_n 1, 1) := by decide +kernel
theorem dX7_tryCatch_8 : decode cX7_tryCatch 8 = .ok (.aload_n 0, 1) := by decide +kernel
theorem dX7_tryCatch_9 : decode cX7_tryCatch 9 = .ok (.iconst 0, 1) := by decide +kernel
theorem dX7_tryCatch_10 : decode cX7_tryCatch 10 = .ok (.iconst 0, 1) := by decide +kernel
theorem dX7_tryCatch_11 : decode cX7_tryCatch 11 = .ok (.iconst 0, 1) := by decide +kernel
theorem dX7_tryCatch_12 : decode cX7_tryCatch 12 = .ok (.invokevirtual 157, 3) := by decide +kernel
theorem dX7_tryCatch_15 : decode cX7_tryCatch 15 = .ok (.istore_n 2, 1) := by decide +kernel
theorem dX7_tryCatch_16 : decode cX7_tryCatch 16 = .ok (.aload_n 0, 1) := by decide +kernel
theorem dX7_tryCatch_17 : decode cX7_tryCatch 17 = .ok (.invokevirtual 154, 3) := by decide +kernel
theorem dX7_tryCatch_20 : decode cX7_tryCatch 20 = .ok (.aload_n 0, 1) := by decide +kernel
theorem dX7_tryCatch_21 : decode cX7_tryCatch 21 = .ok (.getfield 43, 3) := by decide +kernel
theorem dX7_tryCatch_24 : decode cX7_tryCatch 24 = .ok (.getfield 80, 3) := by decide +kernel
theorem dX7_tryCatch_27 : decode cX7_tryCatch 27 = .ok (.sipush 211, 3) := by decide +kernel
theorem dX7_tryCatch_30 : decode cX7_tryCatch 30 = .ok (.if_icmp .ne 11, 3) := by decide +kernel
theorem dX7_tryCatch_33 : decode cX7_tryCatch 33 = .ok (.aload_n 0, 1) := by decide +kernel
theorem dX7_tryCatch_34 : decode cX7_tryCatch 34 = .ok (.iload_n 2, 1) := by decide +kernel
theorem dX7_tryCatch_35 : decode cX7_tryCatch 35 = .ok (.invokevirtual 247, 3) := by decide +kernel
theorem dX7_tryCatch_38 : decode cX7_tryCatch 38 = .ok (.goto 23, 3) := by decide +kernel
theorem dX7_tryCatch_41 : decode cX7_tryCatch 41 = .ok (.aload_n 0, 1) := by decide +kernel
theorem dX7_tryCatch_42 : decode cX7_tryCatch 42 = .ok (.getfield 43, 3) := by decide +kernel
theorem dX7_tryCatch_45 : decode cX7_tryCatch 45 = .ok (.getfield 80, 3) := by decide +kernel
theorem dX7_tryCatch_48 : decode cX7_tryCatch 48 = .ok (.sipush 212, 3) := by decide +kernel
theorem dX7_tryCatch_51 : decode cX7_tryCatch 51 = .ok (.if_icmp .eq 10, 3) := by decide +kernel
theorem dX7_tryCatch_54 : decode cX7_tryCatch 54 = .ok (.aload_n 0, 1) := by decide +kernel
theorem dX7_tryCatch_55 : decode cX7_tryCatch 55 = .ok (.getfield 43, 3) := by decide +kernel
theorem dX7_tryCatch_58 : decode cX7_tryCatch 58 = .ok (.invokevirtual 93, 3) := by decide +kernel
theorem dX7_tryCatch_61 : decode cX7_tryCatch 61 = .ok (.aload_n 0, 1) := by decide +kernel
theorem dX7_tryCatch_62 : decode cX7_tryCatch 62 = .ok (.sipush 212, 3) := by decide +kernel
theorem dX7_tryCatch_65 : decode cX7_tryCatch 65 = .ok (.invokevirtual 83, 3) := by decide +kernel
theorem dX7_tryCatch_68 : decode cX7_tryCatch 68 = .ok (.ifCond .eq 18, 3) := by decide +kernel
theorem dX7_tryCatch_71 : decode cX7_tryCatch 71 = .ok (.aload_n 0, 1) := by decide +kernel
theorem dX7_tryCatch_72 : decode cX7_tryCatch 72 = .ok (.getfield 51, 3) := by decide +kernel
theorem dX7_tryCatch_75 : decode cX7_tryCatch 75 = .ok (.iload_n 1, 1) := by decide +kernel
theorem dX7_tryCatch_76 : decode cX7_tryCatch 76 = .ok (.bipush 28, 2) := by decide +kernel
theorem dX7_tryCatch_78 : decode cX7_tryCatch 78 = .ok (.invokevirtual 238, 3) := by decide +kernel
theorem dX7_tryCatch_81 : decode cX7_tryCatch 81 = .ok (.aload_n 0, 1) := by decide +kernel
theorem dX7_tryCatch_82 : decode cX7_tryCatch 82 = .ok (.iload_n 1, 1) := by decide +kernel
theorem dX7_tryCatch_83 : decode cX7_tryCatch 83 = .ok (.invokevirtual 250, 3) := by decide +kernel
theorem dX7_tryCatch_86 : decode cX7_tryCatch 86 = .ok (.return_, 1) := by decide +kernel
theorem dX7_catches_0 : decode cX7_catches 0 = .ok (.aload_n 0, 1) := by decide +kernel
theorem dX7_catches_1 : decode cX7_catches 1 = .ok (.getfield 51, 3) := by decide +kernel
theorem dX7_catches_4 : decode cX7_catches 4 = .ok (.iload_n 1, 1) := by decide +kernel
theorem dX7_catches_5 : decode cX7_catches 5 = .ok (.bipush 28, 2) := by decide +kernel
theorem dX7_catches_7 : decode cX7_catches 7 = .ok (.invokevirtual 238, 3) := by decide +kernel
theorem dX7_catches_10 : decode cX7_catches 10 = .ok (.aload_n 0, 1) := by decide +kernel
theorem dX7_catches_11 : decode cX7_catches 11 = .ok (.getfield 51, 3) := by decide +kernel
theorem dX7_catches_14 : decode cX7_catches 14 = .ok (.iload_n 1, 1) := by decide +kernel
theorem dX7_catches_15 : decode cX7_catches 15 = .ok (.iconst 1, 1) := by decide +kernel
theorem dX7_catches_16 : decode cX7_catches 16 = .ok (.iconst 0, 1) := by decide +kernel
theorem dX7_catches_17 : decode cX7_catches 17 = .ok (.invokestatic 255, 3) := by decide +kernel
theorem dX7_catches_20 : decode cX7_catches 20 = .ok (.invokevirtual 258, 3) := by decide +kernel
theorem dX7_catches_23 : decode cX7_catches 23 = .ok (.aload_n 0, 1) := by decide +kernel
theorem dX7_catches_24 : decode cX7_catches 24 = .ok (.bipush 29, 2) := by decide +kernel
theorem dX7_catches_26 : decode cX7_catches 26 = .ok (.iconst (-1), 1) := by decide +kernel
theorem dX7_catches_27 : decode cX7_catches 27 = .ok (.iconst 0, 1) := by decide +kernel
theorem dX7_catches_28 : decode cX7_catches 28 = .ok (.invokevirtual 157, 3) := by decide +kernel
theorem dX7_catches_31 : decode cX7_catches 31 = .ok (.istore_n 2, 1) := by decide +kernel
theorem dX7_catches_32 : decode cX7_catches 32 = .ok (.iconst (-1), 1) := by decide +kernel
theorem dX7_catches_33 : decode cX7_catches 33 = .ok (.istore_n 3, 1) := by decide +kernel
theorem dX7_catches_34 : decode cX7_catches 34 = .ok (.iconst 0, 1) := by decide +kernel
theorem dX7_catches_35 : decode cX7_catches 35 = .ok (.istore 4, 2) := by decide +kernel
theorem dX7_catches_37 : decode cX7_catches 37 = .ok (.iload 4, 2) := by decide +kernel
theorem dX7_catches_39 : decode cX7_catches 39 = .ok (.sipush 3000, 3) := by decide +kernel
theorem dX7_catches_42 : decode cX7_catches 42 = .ok (.if_icmp .ge 94, 3) := by decide +kernel
theorem dX7_catches_45 : decode cX7_catches 45 = .ok (.aload_n 0, 1) := by decide +kernel
theorem dX7_catches_46 : decode cX7_catches 46 = .ok (.sipush 211, 3) := by decide +kernel
theorem dX7_catches_49 : decode cX7_catches 49 = .ok (.invokevirtual 83, 3) := by decide +kernel
theorem dX7_catches_52 : decode cX7_catches 52 = .ok (.ifCond .eq 84, 3) := by decide +kernel
theorem dX7_catches_55 : decode cX7_catches 55 = .ok (.aload_n 0, 1) := by decide +kernel
theorem dX7_catches_56 : decode cX7_catches 56 = .ok (.invokevirtual 118, 3) := by decide +kernel
theorem dX7_catches_59 : decode cX7_catches 59 = .ok (.istore 5, 2) := by decide +kernel
theorem dX7_catches_61 : decode cX7_catches 61 = .ok (.aload_n 0, 1) := by decide +kernel
theorem dX7_catches_62 : decode cX7_catches 62 = .ok (.invokevirtual 261, 3) := by decide +kernel
theorem dX7_catches_65 : decode cX7_catches 65 = .ok (.istore 6, 2) := by decide +kernel
theorem dX7_catches_67 : decode cX7_catches 67 = .ok (.aload_n 0, 1) := by decide +kernel
theorem dX7_catches_68 : decode cX7_catches 68 = .ok (.bipush 30, 2) := by decide +kernel
theorem dX7_catches_70 : decode cX7_catches 70 = .ok (.iload 5, 2) := by decide +kernel
theorem dX7_catches_72 : decode cX7_catches 72 = .ok (.iconst (-1), 1) := by decide +kernel
theorem dX7_catches_73 : decode cX7_catches 73 = .ok (.invokevirtual 157, 3) := by decide +kernel
theorem dX7_catches_76 : decode cX7_catches 76 = .ok (.istore 7, 2) := by decide +kernel
theorem dX7_catches_78 : decode cX7_catches 78 = .ok (.iload_n 3, 1) := by decide +kernel
theorem dX7_catches_79 : decode cX7_catches 79 = .ok (.ifCond .ge 16, 3) := by decide +kernel
theorem dX7_catches_82 : decode cX7_catches 82 = .ok (.aload_n 0, 1) := by decide +kernel
theorem dX7_catches_83 : decode cX7_catches 83 = .ok (.getfield 51, 3) := by decide +kernel
theorem dX7_catches_86 : decode cX7_catches 86 = .ok (.iload_n 1, 1) := by decide +kernel
theorem dX7_catches_87 : decode cX7_catches 87 = .ok (.iload 7, 2) := by decide +kernel
theorem dX7_catches_89 : decode cX7_catches 89 = .ok (.invokevirtual 115, 3) := by decide +kernel
theorem dX7_catches_92 : decode cX7_catches 92 = .ok (.goto 13, 3) := by decide +kernel
theorem dX7_catches_95 : decode cX7_catches 95 = .ok (.aload_n 0, 1) := by decide +kernel
theorem dX7_catches_96 : decode cX7_catches 96 = .ok (.getfield 51, 3) := by decide +kernel
theorem dX7_catches_99 : decode cX7_catches 99 = .ok (.iload_n 3, 1) := by decide +kernel
theorem dX7_catches_100 : decode cX7_catches 100 = .ok (.iload 7, 2) := by decide +kernel
theorem dX7_catches_102 : decode cX7_catches 102 = .ok (.invokevirtual 258, 3) := by decide +kernel
theorem dX7_catches_105 : decode cX7_catches 105 = .ok (.iload 7, 2) := by decide +kernel
theorem dX7_catches_107 : decode cX7_catches 107 = .ok (.istore_n 3, 1) := by decide +kernel
theorem dX7_catches_108 : decode cX7_catches 108 = .ok (.aload_n 0, 1) := by decide +kernel
theorem dX7_catches_109 : decode cX7_catches 109 = .ok (.iconst 5, 1) := by decide +kernel
theorem dX7_catches_110 : decode cX7_catches 110 = .ok (.iload 6, 2) := by decide +kernel
theorem dX7_catches_112 : decode cX7_catches 112 = .ok (.iconst 0, 1) := by decide +kernel
theorem dX7_catches_113 : decode cX7_catches 113 = .ok (.invokevirtual 157, 3) := by decide +kernel
theorem dX7_catches_116 : decode cX7_catches 116 = .ok (.pop, 1) := by decide +kernel
theorem dX7_catches_117 : decode cX7_catches 117 = .ok (.aload_n 0, 1) := by decide +kernel
theorem dX7_catches_118 : decode cX7_catches 118 = .ok (.invokevirtual 154, 3) := by decide +kernel
theorem dX7_catches_121 : decode cX7_catches 121 = .ok (.aload_n 0, 1) := by decide +kernel
theorem dX7_catches_122 : decode cX7_catches 122 = .ok (.bipush 19, 2) := by decide +kernel
theorem dX7_catches_124 : decode cX7_catches 124 = .ok (.iload_n 2, 1) := by decide +kernel
theorem dX7_catches_125 : decode cX7_catches 125 = .ok (.iconst 0, 1) := by decide +kernel
theorem dX7_catches_126 : decode cX7_catches 126 = .ok (.invokevirtual 157, 3) := by decide +kernel
theorem dX7_catches_129 : decode cX7_catches 129 = .ok (.istore_n 2, 1) := by decide +kernel
theorem dX7_catches_130 : decode cX7_catches 130 = .ok (.iinc 4 1, 3) := by decide +kernel
theorem dX7_catches_133 : decode cX7_catches 133 = .ok (.goto (-96), 3) := by decide +kernel
theorem dX7_catches_136 : decode cX7_catches 136 = .ok (.aload_n 0, 1) := by decide +kernel
theorem dX7_catches_137 : decode cX7_catches 137 = .ok (.iload_n 2, 1) := by decide +kernel
theorem dX7_catches_138 : decode cX7_catches 138 = .ok (.aload_n 0, 1) := by decide +kernel
theorem dX7_catches_139 : decode cX7_catches 139 = .ok (.invokevirtual 244, 3) := by decide +kernel
theorem dX7_catches_142 : decode cX7_catches 142 = .ok (.invokevirtual 264, 3) := by decide +kernel
theorem dX7_catches_145 : decode cX7_catches 145 = .ok (.return_, 1) := by decide +kernel
set_option maxHeartbeats 4000000 in
set_option maxRecDepth 100000 in
theorem c_X7_aimAll_b (ω : Om) (l : Launch) (μ : M3) (x1 : Int) (x2 : Int) (RR : List Int → Prop) (P : Int) (tt : Int) (hx1 : ir x1) (hx2 : ir x2) (hI : IC μ) (hP : P = μ.1 23 2) (htt : tt = μ.1 23 8) (hch : μ.1 26 11 = 0 → ∃ L, RR L ∧ Chn μ P x1 L) (hT : x2 = μ.1 P 1) : CtV ω l yX7_aimAll cX7_aimAll 6 2 43 [.ref (oP ω 23), .int (iv x1), .int (iv x2)] μ (fun (μ' : M3) => (Fr [P + 1] μ μ') ∧ (IC μ') ∧ (μ.1 26 11 = 0 → ∃ L, RR L ∧ AIM μ μ' P L x2) ∧ (μ'.1 P 1 = μ.1 P 1) ∧ (μ'.1 P 7 = μ.1 P 7)) := by
  refine CtV.go (by decide) (Nat.le_of_ble_eq_true rfl) (fun ρ p e s m below meth c R ls G hR hret hlk hl => ?_)
  have hx := G.1.1
  have hb := G.1.2.1
  have hl : lv_has ls 6 [(0, .ref (oP ω 23)), (1, .int (iv x1)), (2, .int (iv x2))] := hl
  generalize s.drawn = d0 at G ⊢
  have hr_x1 : -2147483648 ≤ x1 ∧ x1 ≤ 2147483647 := hx1
  have hr_x2 : -2147483648 ≤ x2 ∧ x2 ≤ 2147483647 := hx2
  have hprP : isPr P := by have h9 := G.sr0.2.2.2.2.2; rw [← hP] at h9; exact h9
  have hprP_d : P = 13 ∨ P = 71 ∨ P = 81 ∨ P = 91 ∨ P = 101 := hprP
  have hk_1 := hI.pr (p := P) hprP
  unfold pk at hk_1
  have hc_2 : 16 ≤ μ.2.1 (P + 1) ∧ μ.2.1 (P + 1) ≤ 73024 := hI.rm.1 _ hprP.cap
  refine lv_iload_n hx hb dX7_aimAll_0 rfl (lv_at hl 1 rfl) ?_
  refine lv_istore_n (lv' := [(3, .int (iv x1)), (0, .ref (oP ω 23)), (1, .int (iv x1)), (2, .int (iv x2))]) hx hb dX7_aimAll_1 rfl hl (by decide) rfl (fun ls hl => ?_)
  refine lv_aload_n hx hb dX7_aimAll_2 rfl (lv_at hl 1 rfl) ?_
  refine xa_getr G fd_X7 (a := 23) (x := P) 2 rfl (by decide) rfl (wm 2 19 rfl rfl) ⟨rfl, rfl, rfl⟩ dX7_aimAll_3 rfl hP.symm (by omega) (hprP.hq ω ρ) ?_
  refine xc_iV G (b := P) (rest := []) (As := []) (c_X8_length ω l μ P hprP hI) (wm 4 35 rfl rfl) (wm 4 36 rfl rfl) (wm 4 37 rfl rfl) hprP.ly rfl (by decide) (hprP.hq ω ρ) (wm 1 9 rfl rfl) (wm 4 38 rfl rfl) (by decide) hR (by decide) (n := 0) rfl rfl (Nat.le_of_ble_eq_true rfl) hl.1 dX7_aimAll_6 (fun r_4 μ3 ρ d0 H locs hr_r_4 hp G => ?_)
  have hr_r_4 : -2147483648 ≤ r_4 ∧ r_4 ≤ 2147483647 := hr_r_4
  obtain ⟨hsm_5, hp_6⟩ := hp
  have hsm_5 := Eq.symm hsm_5
  subst hsm_5
  refine lv_istore (lv' := [(4, .int (iv r_4)), (3, .int (iv x1)), (0, .ref (oP ω 23)), (1, .int (iv x1)), (2, .int (iv x2))]) hx hb dX7_aimAll_9 hl (by decide) rfl (fun ls hl => ?_)
  refine xl (fun n_9 μ' ls => ∃ (t9 : Int), ∃ (n9 : Int), (Fr [P + 1] μ μ') ∧ (-2147483648 ≤ t9 ∧ t9 ≤ 2147483647) ∧ (-2147483648 ≤ n9 ∧ n9 ≤ 2147483647) ∧ (0 ≤ n9) ∧ (μ.1 26 11 = 0 → AR RR μ μ' P x1 x2 t9 n9) ∧ (μ'.1 P 1 = μ.1 P 1) ∧ (μ'.1 P 7 = μ.1 P 7) ∧ (IC μ') ∧ n_9 = Int.toNat (n9) ∧ lv_has ls 6 [(4, .int (iv n9)), (3, .int (iv t9)), (0, .ref (oP ω 23)), (1, .int (iv x1)), (2, .int (iv x2))]) (fun n_9 ρ μL7 d0 H locs ls hI_l G ih => ?_) _ _ _ _ _ _ _ ⟨x1, r_4, Fr.rf, (by omega), (by omega), (by omega), (fun h0 => by rw [hp_6]; exact AR.go (hch h0) (by omega)), rfl, rfl, hI, rfl, lv_sub hl [0, 1, 2, 3, 4] rfl⟩ G
  obtain ⟨t9, n9, FL8, hi_10, hi_11, hi_12, hi_13, hi_14, hi_15, hi_16, hn9, hl⟩ := hI_l
  refine lv_iload hx hb dX7_aimAll_11 (lv_at hl 0 rfl) ?_
  refine xb_if_le (tgt := 48) hx hb (by unfold ir; omega) dX7_aimAll_13 (by decide) (fun c_13 => ?_) (fun c_13 => ?_)
  · have e_17 : μL7.1 P 1 = μ.1 P 1 := hi_14
    have e_18 : μL7.1 P 7 = μ.1 P 7 := hi_15
    exact xr_v G hret hlk dX7_aimAll_48 ⟨(Fr.tr Fr.rf FL8 (by simp)), hi_16, (fun h0 => (hi_13 h0).ed (by omega)), (by omega), (by omega)⟩
  · refine lv_iload_n hx hb dX7_aimAll_16 rfl (lv_at hl 1 rfl) ?_
    refine xb_if_lt (tgt := 48) hx hb (by unfold ir; omega) dX7_aimAll_17 (by decide) (fun c_17 => ?_) (fun c_17 => ?_)
    · have e_19 : μL7.1 P 1 = μ.1 P 1 := hi_14
      have e_20 : μL7.1 P 7 = μ.1 P 7 := hi_15
      exact xr_v G hret hlk dX7_aimAll_48 ⟨(Fr.tr Fr.rf FL8 (by simp)), hi_16, (fun h0 => (hi_13 h0).ed (by omega)), (by omega), (by omega)⟩
    · refine lv_aload_n hx hb dX7_aimAll_20 rfl (lv_at hl 2 rfl) ?_
      refine xa_getr G fd_X7 (a := 23) (x := P) 2 rfl (by decide) rfl (wm 2 19 rfl rfl) ⟨rfl, rfl, rfl⟩ dX7_aimAll_21 rfl ((FL8.1 23 (by simp <;> omega) 2).trans hP.symm) (by omega) (hprP.hq ω ρ) ?_
      refine lv_iload_n hx hb dX7_aimAll_24 rfl (lv_at hl 1 rfl) ?_
      refine xc_iV G (b := P) (rest := []) (As := [.int (iv t9)]) (c_X8_first ω l μL7 P t9 hprP (by unfold ir; omega) hi_16) (wm 4 43 rfl rfl) (wm 4 44 rfl rfl) (wm 4 45 rfl rfl) hprP.ly rfl (by decide) (hprP.hq ω ρ) (wm 1 9 rfl rfl) (wm 4 46 rfl rfl) (by decide) hR (by decide) (n := 1) rfl rfl (Nat.le_of_ble_eq_true rfl) hl.1 dX7_aimAll_25 (fun r_22 μ21 ρ d0 H locs hr_r_22 hp G => ?_)
      have hr_r_22 : -2147483648 ≤ r_22 ∧ r_22 ≤ 2147483647 := hr_r_22
      obtain ⟨hsm_23, hp_24⟩ := hp
      have hsm_23 := Eq.symm hsm_23
      subst hsm_23
      refine lv_istore (lv' := [(5, .int (iv r_22)), (4, .int (iv n9)), (3, .int (iv t9)), (0, .ref (oP ω 23)), (1, .int (iv x1)), (2, .int (iv x2))]) hx hb dX7_aimAll_28 hl (by decide) rfl (fun ls hl => ?_)
      refine lv_aload_n hx hb dX7_aimAll_30 rfl (lv_at hl 3 rfl) ?_
      refine xa_getr G fd_X7 (a := 23) (x := P) 2 rfl (by decide) rfl (wm 2 19 rfl rfl) ⟨rfl, rfl, rfl⟩ dX7_aimAll_31 rfl ((FL8.1 23 (by simp <;> omega) 2).trans hP.symm) (by omega) (hprP.hq ω ρ) ?_
      refine lv_iload_n hx hb dX7_aimAll_34 rfl (lv_at hl 2 rfl) ?_
      refine lv_iload_n hx hb dX7_aimAll_35 rfl (lv_at hl 5 rfl) ?_
      have e_25 : μL7.1 P 1 = μ.1 P 1 := hi_14
      have e_26 : μL7.1 P 1 = μ.1 P 1 := hi_14
      have e_27 : μL7.1 P 1 = μ.1 P 1 := hi_14
      have e_28 : μL7.1 P 1 = μ.1 P 1 := hi_14
      refine xc_vV G (b := P) (rest := []) (As := [.int (iv t9), .int (iv x2)]) (c_X8_setFirst ω l μL7 P t9 x2 (μ.1 P 1) hprP (by unfold ir; omega) (by unfold ir; omega) hi_16 (by omega)) (wm 4 51 rfl rfl) (wm 4 52 rfl rfl) (wm 4 53 rfl rfl) hprP.ly rfl (by decide) (hprP.hq ω ρ) (wm 1 9 rfl rfl) (wm 4 54 rfl rfl) (by decide) hR (by decide) (n := 2) rfl rfl (Nat.le_of_ble_eq_true rfl) hl.1 dX7_aimAll_36 (fun μ29 ρ d0 H locs hp G => ?_)
      obtain ⟨F_30, hI_31, hp_32, hp_33, ha_34⟩ := hp
      refine lv_iload hx hb dX7_aimAll_39 (lv_at hl 0 rfl) ?_
      refine lv_istore_n (lv' := [(3, .int (iv r_22)), (5, .int (iv r_22)), (4, .int (iv n9)), (0, .ref (oP ω 23)), (1, .int (iv x1)), (2, .int (iv x2))]) hx hb dX7_aimAll_41 rfl hl (by decide) rfl (fun ls hl => ?_)
      refine lv_iinc (v := iv (n9 - 1)) (lv' := [(4, .int (iv (n9 - 1))), (3, .int (iv r_22)), (5, .int (iv r_22)), (0, .ref (oP ω 23)), (1, .int (iv x1)), (2, .int (iv x2))]) hx hb dX7_aimAll_42 hl (k := 2) rfl (by rw [show Int32.ofInt (-1) = iv (-1) from rfl, iv_add] <;> (congr 1 <;> omega)) (by decide) rfl (fun ls hl => ?_)
      refine lv_goto (tgt := 11) hx hb dX7_aimAll_45 (by decide) ?_
      have hmf_35 : μ.1 26 11 = 0 → AR RR μ μ29 P x1 x2 (cdp μL7 P t9 1) (n9 - 1) := by
        intro h0
        have h7 := (hi_13 h0).x
        refine (hi_13 h0).st (by omega) ?_
        rcases hp_33 with ⟨q1, q2, q3⟩ | ⟨q1, q2⟩
        · exact MF.of (by have h9 : μ29.1 P 1 = μ.1 P 1 := ((F_30.1 P (by simp <;> omega) 1).trans hi_14); have h8 : μL7.1 P 1 = μ.1 P 1 := hi_14; omega) ⟨q1, by have h8 : μL7.1 P 1 = μ.1 P 1 := hi_14; omega⟩ q3 ha_34
        · exfalso; have h8 : μL7.1 P 1 = μ.1 P 1 := hi_14; omega
      exact ih _ _ _ _ _ _ _ (by omega) ⟨r_22, n9 - 1, (Fr.tr FL8 F_30 (by simp)), (by omega), (by omega), (by omega), (by rw [hp_24]; exact hmf_35), ((F_30.1 P (by simp <;> omega) 1).trans hi_14), ((F_30.1 P (by simp <;> omega) 7).trans hi_15), hI_31, rfl, lv_sub hl [0, 1, 3, 4, 5] rfl⟩ G

set_option maxHeartbeats 4000000 in
set_option maxRecDepth 100000 in
theorem c_X7_catches (ω : Om) (l : Launch) (μ : M3) (x1 : Int) (F : Nat) (Lo : Nat) (kf : Int) (P : Int) (tt : Int) (hx1 : ir x1) (hI : IC μ) (hP : P = μ.1 23 2) (htt : tt = μ.1 23 8) (hF : 200 ≤ F) (hLo : 6000 ≤ Lo) (hK : ∀ (μ : M3) (P : Int) (tt : Int) (hI : IC μ) (hP : P = μ.1 23 2) (htt : tt = μ.1 23 8) (hTK : TK μ) (hB : 2 * μ.1 P 1 ≤ 5 * μ.1 26 10 + 103 + 80 * μ.1 26 11) (hKc : μ.1 (P + 2) 3 ≤ μ.1 P 1) (ht3 : 0 ≤ tt ∧ tt ≤ 3) (hdp : 0 ≤ μ.1 23 9 ∧ μ.1 23 9 ≤ 8) (hfu : 0 ≤ (kf - 1) ∧ 9 ≤ μ.1 23 9 + (kf - 1)) (hs1 : ∀ _ : Unit, μ.1 26 11 = 0 → HC μ P tt 0), CtV ω l yX7_block cX7_block 2 (F + 0) (Lo + 0) [.ref (oP ω 23)] μ (fun (μ' : M3) => (Fr [2, 3, 4, 23, 24, 25, 26, P, P + 1, P + 2, (P + 2) + 1, (P + 2) + 2, (P + 2) + 3] μ μ') ∧ (IC μ') ∧ (TK μ') ∧ (μ.1 26 11 ≤ μ'.1 26 11) ∧ (μ.1 26 10 ≤ μ'.1 26 10) ∧ (μ.1 P 1 ≤ μ'.1 P 1 ∧ 2 * μ'.1 P 1 ≤ 2 * μ.1 P 1 + 5 * (μ'.1 26 10 - μ.1 26 10) + (- 10 + 15 * μ'.1 26 11 - 5 * μ.1 26 11)) ∧ (μ'.1 (P + 2) 3 - μ.1 (P + 2) 3 ≤ μ'.1 P 1 - μ.1 P 1 ∧ μ.1 (P + 2) 3 ≤ μ'.1 (P + 2) 3) ∧ (μ'.1 26 11 = 0 → EX μ μ' P tt 0 (2 * (7 - μ.1 23 9))) ∧ (μ.1 23 9 ≤ 7 + 100 * μ'.1 26 11) ∧ (μ'.1 23 2 = μ.1 23 2) ∧ (μ'.1 23 7 = μ.1 23 7) ∧ (μ'.1 23 8 = μ.1 23 8) ∧ (μ'.1 23 9 = μ.1 23 9) ∧ (μ'.1 26 6 = μ.1 26 6) ∧ (μ'.1 P 7 = μ.1 P 7))) (hTK : TK μ) (hB : 2 * μ.1 P 1 ≤ 5 * μ.1 26 10 + 95 + 80 * μ.1 26 11) (hKc : μ.1 (P + 2) 3 ≤ μ.1 P 1) (ht3 : 0 ≤ tt ∧ tt ≤ 3) (hdp : 0 ≤ μ.1 23 9 ∧ μ.1 23 9 ≤ 8) (hs0 : μ.1 26 11 = 0) (hfu : 10 ≤ μ.1 23 9 + kf) (ht : tt = 0) (hk211 : μ.1 26 12 = 211) (hcg : ∀ _ : Unit, μ.1 26 11 = 0 → CG μ P tt x1 (2 * (7 - μ.1 23 9))) (hs1 : ∀ _ : Unit, μ.1 26 11 = 0 → HC μ P tt 0) : CtV ω l yX7_catches cX7_catches 8 (F + 1) (Lo + 21) [.ref (oP ω 23), .int (iv x1)] μ (fun (μ' : M3) => (Fr [2, 3, 4, 23, 24, 25, 26, P, P + 1, P + 2, (P + 2) + 1, (P + 2) + 2, (P + 2) + 3] μ μ') ∧ (IC μ') ∧ (TK μ') ∧ (μ.1 26 11 ≤ μ'.1 26 11) ∧ (μ.1 26 10 ≤ μ'.1 26 10) ∧ (μ.1 P 1 ≤ μ'.1 P 1 ∧ 2 * μ'.1 P 1 ≤ 2 * μ.1 P 1 + 5 * (μ'.1 26 10 - μ.1 26 10) + (- 17 + 20 * μ'.1 26 11)) ∧ (μ'.1 (P + 2) 3 - μ.1 (P + 2) 3 ≤ μ'.1 P 1 - μ.1 P 1 ∧ μ.1 (P + 2) 3 ≤ μ'.1 (P + 2) 3) ∧ (μ'.1 26 11 = 0 → CA μ μ' P tt x1 ((2 * (7 - μ.1 23 9)) + 1)) ∧ (μ'.1 23 2 = μ.1 23 2) ∧ (μ'.1 23 7 = μ.1 23 7) ∧ (μ'.1 23 8 = μ.1 23 8) ∧ (μ'.1 23 9 = μ.1 23 9) ∧ (μ'.1 26 6 = μ.1 26 6) ∧ (μ'.1 P 7 = μ.1 P 7)) := by
  refine CtV.go (by decide) (Nat.le_of_ble_eq_true rfl) (fun ρ p e s m below meth c R ls G hR hret hlk hl => ?_)
  have hx := G.1.1
  have hb := G.1.2.1
  have hl : lv_has ls 8 [(0, .ref (oP ω 23)), (1, .int (iv x1))] := hl
  generalize s.drawn = d0 at G ⊢
  have hr_x1 : -2147483648 ≤ x1 ∧ x1 ≤ 2147483647 := hx1
  have hTKb := hTK.b
  have hprP : isPr P := by have h9 := G.sr0.2.2.2.2.2; rw [← hP] at h9; exact h9
  have hprP_d : 13 ≤ P ∧ P ≤ 101 := by rcases hprP with h9 | h9 | h9 | h9 | h9 <;> omega
  have hk_1 := hI.pr (p := P) hprP
  unfold pk at hk_1
  have hc_2 : 16 ≤ μ.2.1 (P + 1) ∧ μ.2.1 (P + 1) ≤ 73024 := hI.rm.1 _ hprP.cap
  have hX0_ : ∀ _ : Unit, μ.1 26 11 = 0 → q0 μ P μ := fun _ _ => ⟨EXT.rf, rfl⟩
  have hXH_ : ∀ _ : Unit, μ.1 26 11 = 0 → HC μ P tt 0 := hs1
  have hXw_ : ∀ _ : Unit, μ.1 26 11 = 0 → Wp μ P x1 0 := fun _ h0 => (hcg () h0).1
  refine lv_aload_n hx hb dX7_catches_0 rfl (lv_at hl 0 rfl) ?_
  refine xa_getr G fd_X7 (a := 23) (x := P) 2 rfl (by decide) rfl (wm 2 19 rfl rfl) ⟨rfl, rfl, rfl⟩ dX7_catches_1 rfl hP.symm (by omega) (hprP.hq ω ρ) ?_
  refine lv_iload_n hx hb dX7_catches_4 rfl (lv_at hl 1 rfl) ?_
  refine lv_bipush (v := iv 28) hx hb dX7_catches_5 rfl ?_
  refine xc_vV G (b := P) (rest := []) (As := [.int (iv x1), .int (iv 28)]) (c_X8_setOp ω l μ P x1 28 (μ.1 P 1) hprP (by unfold ir; omega) (by unfold ir; omega) hI (by omega)) (wm 4 140 rfl rfl) (wm 4 141 rfl rfl) (wm 4 142 rfl rfl) hprP.ly rfl (by decide) (hprP.hq ω ρ) (wm 1 9 rfl rfl) (wm 4 143 rfl rfl) (by decide) hR ⟨nfB hF (by decide), nlB hLo (by decide)⟩ (n := 2) rfl rfl (Nat.le_of_ble_eq_true rfl) hl.1 dX7_catches_7 (fun μ3 ρ d0 H locs hp G => ?_)
  obtain ⟨F_4, hI_5, hp_6, hp_7, ha_8⟩ := hp
  have hm_9 : ∀ _ : Unit, μ3.1 26 11 = 0 → MO μ μ3 P x1 28 := by
    intro _ h0
    have hw_ := ((hXw_ ()) (by have h9 : μ.1 26 11 = μ.1 26 11 := rfl; have h8 : μ3.1 26 11 = μ.1 26 11 := (F_4.1 26 (ni hprP (fun P => 26) (fun P => [P + 1]) rfl) 11); omega)).1
    have h8 : μ.1 P 1 = μ.1 P 1 := rfl
    have h9 : μ3.1 P 1 = μ.1 P 1 := (F_4.1 P (ni hprP (fun P => P) (fun P => [P + 1]) rfl) 1)
    rcases hp_7 with ⟨q1, q2, q3⟩ | ⟨q1, q2⟩
    · exact MO.of (μ := μ) (ν := μ3) (P := P) (by rw [h9, h8]) hw_ q3 ha_8
    · exfalso; exact q1 (by rw [← h8]; exact hw_)
  have hXR_10 : ∀ _ : Unit, μ3.1 26 11 = 0 → (Th (q0 μ P) (qO P x1 28)) μ3 := fun _ h0 => ⟨_, (hX0_ ()) (by have h9 : μ.1 26 11 = μ.1 26 11 := rfl; have h8 : μ3.1 26 11 = μ.1 26 11 := (F_4.1 26 (ni hprP (fun P => 26) (fun P => [P + 1]) rfl) 11); omega), (hm_9 ()) h0⟩
  have hXH_11 : ∀ _ : Unit, μ3.1 26 11 = 0 → HC μ3 P tt 0 := fun _ h0 => ((hXH_ ()) (by have h9 : μ.1 26 11 = μ.1 26 11 := rfl; have h8 : μ3.1 26 11 = μ.1 26 11 := (F_4.1 26 (ni hprP (fun P => 26) (fun P => [P + 1]) rfl) 11); omega)).mo ((hm_9 ()) h0) ((hXw_ ()) (by have h9 : μ.1 26 11 = μ.1 26 11 := rfl; have h8 : μ3.1 26 11 = μ.1 26 11 := (F_4.1 26 (ni hprP (fun P => 26) (fun P => [P + 1]) rfl) 11); omega))
  have hXw_12 : ∀ _ : Unit, μ3.1 26 11 = 0 → Wp μ3 P x1 28 := fun _ h0 => Wp.mo2 ((hm_9 ()) h0)
  refine lv_aload_n hx hb dX7_catches_10 rfl (lv_at hl 0 rfl) ?_
  refine xa_getr G fd_X7 (a := 23) (x := P) 2 rfl (by decide) rfl (wm 2 19 rfl rfl) ⟨rfl, rfl, rfl⟩ dX7_catches_11 rfl ((F_4.1 23 (ni hprP (fun P => 23) (fun P => [P + 1]) rfl) 2).trans hP.symm) (by omega) (hprP.hq ω ρ) ?_
  refine lv_iload_n hx hb dX7_catches_14 rfl (lv_at hl 1 rfl) ?_
  refine lv_iconst (v := iv 1) hx hb dX7_catches_15 rfl ?_
  refine lv_iconst (v := iv 0) hx hb dX7_catches_16 rfl ?_
  refine xc_iS G (rest := [.int (iv x1), .ref (oP ω P)]) (As := [.int (iv 1), .int (iv 0)]) (c_X3_detail ω l μ3 1 0 (by unfold ir; omega) (by unfold ir; omega) (by omega)) (wm 4 156 rfl rfl) (wm 4 157 rfl rfl) (wm 1 17 rfl rfl) (wm 4 158 rfl rfl) (by decide) hR ⟨nfB hF (by decide), nlB hLo (by decide)⟩ (n := 2) rfl rfl (Nat.le_of_ble_eq_true rfl) hl.1 dX7_catches_17 (fun r_14 μ13 ρ d0 H locs hr_r_14 hp G => ?_)
  have hr_r_14 : -2147483648 ≤ r_14 ∧ r_14 ≤ 2147483647 := hr_r_14
  obtain ⟨hsm_15, hp_16⟩ := hp
  have hsm_15 := Eq.symm hsm_15
  subst hsm_15
  have e_17 : μ3.1 P 1 = μ.1 P 1 := (F_4.1 P (ni hprP (fun P => P) (fun P => [P + 1]) rfl) 1)
  have e_18 : μ3.1 P 1 = μ.1 P 1 := (F_4.1 P (ni hprP (fun P => P) (fun P => [P + 1]) rfl) 1)
  have e_19 : μ3.1 P 1 = μ.1 P 1 := (F_4.1 P (ni hprP (fun P => P) (fun P => [P + 1]) rfl) 1)
  have e_20 : μ3.1 P 1 = μ.1 P 1 := (F_4.1 P (ni hprP (fun P => P) (fun P => [P + 1]) rfl) 1)
  refine xc_vV G (b := P) (rest := []) (As := [.int (iv x1), .int (iv r_14)]) (c_X8_setSecond ω l μ3 P x1 r_14 (μ.1 P 1) hprP (by unfold ir; omega) (by unfold ir; omega) hI_5 (by omega)) (wm 4 159 rfl rfl) (wm 4 160 rfl rfl) (wm 4 161 rfl rfl) hprP.ly rfl (by decide) (hprP.hq ω ρ) (wm 1 9 rfl rfl) (wm 4 162 rfl rfl) (by decide) hR ⟨nfB hF (by decide), nlB hLo (by decide)⟩ (n := 2) rfl rfl (Nat.le_of_ble_eq_true rfl) hl.1 dX7_catches_20 (fun μ21 ρ d0 H locs hp G => ?_)
  obtain ⟨F_22, hI_23, hp_24, hp_25, ha_26⟩ := hp
  have hm_27 : ∀ _ : Unit, μ21.1 26 11 = 0 → MS μ3 μ21 P x1 r_14 := by
    intro _ h0
    have hw_ := ((hXw_12 ()) (by have h9 : μ3.1 26 11 = μ.1 26 11 := (F_4.1 26 (ni hprP (fun P => 26) (fun P => [P + 1]) rfl) 11); have h8 : μ21.1 26 11 = μ.1 26 11 := ((F_22.1 26 (ni hprP (fun P => 26) (fun P => [P + 1]) rfl) 11).trans (F_4.1 26 (ni hprP (fun P => 26) (fun P => [P + 1]) rfl) 11)); omega)).1
    have h8 : μ3.1 P 1 = μ.1 P 1 := (F_4.1 P (ni hprP (fun P => P) (fun P => [P + 1]) rfl) 1)
    have h9 : μ21.1 P 1 = μ.1 P 1 := ((F_22.1 P (ni hprP (fun P => P) (fun P => [P + 1]) rfl) 1).trans (F_4.1 P (ni hprP (fun P => P) (fun P => [P + 1]) rfl) 1))
    rcases hp_25 with ⟨q1, q2, q3⟩ | ⟨q1, q2⟩
    · exact MS.of (μ := μ3) (ν := μ21) (P := P) (by rw [h9, h8]) hw_ q3 ha_26
    · exfalso; exact q1 (by rw [← h8]; exact hw_)
  have hXR_28 : ∀ _ : Unit, μ21.1 26 11 = 0 → (Th (Th (q0 μ P) (qO P x1 28)) (qS P x1 r_14)) μ21 := fun _ h0 => ⟨_, (hXR_10 ()) (by have h9 : μ3.1 26 11 = μ.1 26 11 := (F_4.1 26 (ni hprP (fun P => 26) (fun P => [P + 1]) rfl) 11); have h8 : μ21.1 26 11 = μ.1 26 11 := ((F_22.1 26 (ni hprP (fun P => 26) (fun P => [P + 1]) rfl) 11).trans (F_4.1 26 (ni hprP (fun P => 26) (fun P => [P + 1]) rfl) 11)); omega), (hm_27 ()) h0⟩
  have hXH_29 : ∀ _ : Unit, μ21.1 26 11 = 0 → HC μ21 P tt 0 := fun _ h0 => ((hXH_11 ()) (by have h9 : μ3.1 26 11 = μ.1 26 11 := (F_4.1 26 (ni hprP (fun P => 26) (fun P => [P + 1]) rfl) 11); have h8 : μ21.1 26 11 = μ.1 26 11 := ((F_22.1 26 (ni hprP (fun P => 26) (fun P => [P + 1]) rfl) 11).trans (F_4.1 26 (ni hprP (fun P => 26) (fun P => [P + 1]) rfl) 11)); omega)).ms ((hm_27 ()) h0)
  have hXw_30 : ∀ _ : Unit, μ21.1 26 11 = 0 → Wp μ21 P x1 28 := fun _ h0 => ((hXw_12 ()) (by have h9 : μ3.1 26 11 = μ.1 26 11 := (F_4.1 26 (ni hprP (fun P => 26) (fun P => [P + 1]) rfl) 11); have h8 : μ21.1 26 11 = μ.1 26 11 := ((F_22.1 26 (ni hprP (fun P => 26) (fun P => [P + 1]) rfl) 11).trans (F_4.1 26 (ni hprP (fun P => 26) (fun P => [P + 1]) rfl) 11)); omega)).ms ((hm_27 ()) h0)
  refine lv_aload_n hx hb dX7_catches_23 rfl (lv_at hl 0 rfl) ?_
  refine lv_bipush (v := iv 29) hx hb dX7_catches_24 rfl ?_
  refine lv_iconst (v := iv (-1)) hx hb dX7_catches_26 rfl ?_
  refine lv_iconst (v := iv 0) hx hb dX7_catches_27 rfl ?_
  have e_31 : μ21.1 23 2 = P := ((F_22.1 23 (ni hprP (fun P => 23) (fun P => [P + 1]) rfl) 2).trans ((F_4.1 23 (ni hprP (fun P => 23) (fun P => [P + 1]) rfl) 2).trans hP.symm))
  have e_32 : μ21.1 P 1 = μ.1 P 1 := ((F_22.1 P (ni hprP (fun P => P) (fun P => [P + 1]) rfl) 1).trans (F_4.1 P (ni hprP (fun P => P) (fun P => [P + 1]) rfl) 1))
  have e_33 : μ21.1 P 1 = μ.1 P 1 := ((F_22.1 P (ni hprP (fun P => P) (fun P => [P + 1]) rfl) 1).trans (F_4.1 P (ni hprP (fun P => P) (fun P => [P + 1]) rfl) 1))
  have e_34 : μ21.1 P 1 = μ.1 P 1 := ((F_22.1 P (ni hprP (fun P => P) (fun P => [P + 1]) rfl) 1).trans (F_4.1 P (ni hprP (fun P => P) (fun P => [P + 1]) rfl) 1))
  refine xc_iV G (b := 23) (rest := []) (As := [.int (iv 29), .int (iv (-1)), .int (iv 0)]) (c_X7_add ω l μ21 29 (-1) 0 P (by unfold ir; omega) (by unfold ir; omega) (by unfold ir; omega) hI_23 (by omega) (by omega)) (wm 3 226 rfl rfl) (wm 3 228 rfl rfl) (wm 0 21 rfl rfl) rfl rfl (by decide) rfl (wm 1 12 rfl rfl) (wm 3 229 rfl rfl) (by decide) hR ⟨nfB hF (by decide), nlB hLo (by decide)⟩ (n := 3) rfl rfl (Nat.le_of_ble_eq_true rfl) hl.1 dX7_catches_28 (fun r_36 μ35 ρ d0 H locs hr_r_36 hp G => ?_)
  have hr_r_36 : -2147483648 ≤ r_36 ∧ r_36 ≤ 2147483647 := hr_r_36
  obtain ⟨F_37, hI_38, hp_39, hp_40, hs_41, hs_42⟩ := hp
  have hXR_43 : ∀ _ : Unit, μ35.1 26 11 = 0 → (Th (Th (Th (q0 μ P) (qO P x1 28)) (qS P x1 r_14)) (qA P 29 (-1) 0 r_36)) μ35 := fun _ h0 => ⟨_, (hXR_28 ()) (by have h9 : μ21.1 26 11 = μ.1 26 11 := ((F_22.1 26 (ni hprP (fun P => 26) (fun P => [P + 1]) rfl) 11).trans (F_4.1 26 (ni hprP (fun P => 26) (fun P => [P + 1]) rfl) 11)); have h8 : μ35.1 26 11 = μ.1 26 11 := ((F_37.1 26 (ni hprP (fun P => 26) (fun P => [P, P + 1]) rfl) 11).trans ((F_22.1 26 (ni hprP (fun P => 26) (fun P => [P + 1]) rfl) 11).trans (F_4.1 26 (ni hprP (fun P => 26) (fun P => [P + 1]) rfl) 11))); omega), hp_40, hp_39⟩
  have hXH_44 : ∀ _ : Unit, μ35.1 26 11 = 0 → HC μ35 P tt 0 := fun _ h0 => (((hXH_29 ()) (by have h9 : μ21.1 26 11 = μ.1 26 11 := ((F_22.1 26 (ni hprP (fun P => 26) (fun P => [P + 1]) rfl) 11).trans (F_4.1 26 (ni hprP (fun P => 26) (fun P => [P + 1]) rfl) 11)); have h8 : μ35.1 26 11 = μ.1 26 11 := ((F_37.1 26 (ni hprP (fun P => 26) (fun P => [P, P + 1]) rfl) 11).trans ((F_22.1 26 (ni hprP (fun P => 26) (fun P => [P + 1]) rfl) 11).trans (F_4.1 26 (ni hprP (fun P => 26) (fun P => [P + 1]) rfl) 11))); omega)).ad hp_40 (Or.inl rfl)).c rfl
  have hXw_45 : ∀ _ : Unit, μ35.1 26 11 = 0 → Wp μ35 P x1 28 := fun _ h0 => ((hXw_30 ()) (by have h9 : μ21.1 26 11 = μ.1 26 11 := ((F_22.1 26 (ni hprP (fun P => 26) (fun P => [P + 1]) rfl) 11).trans (F_4.1 26 (ni hprP (fun P => 26) (fun P => [P + 1]) rfl) 11)); have h8 : μ35.1 26 11 = μ.1 26 11 := ((F_37.1 26 (ni hprP (fun P => 26) (fun P => [P, P + 1]) rfl) 11).trans ((F_22.1 26 (ni hprP (fun P => 26) (fun P => [P + 1]) rfl) 11).trans (F_4.1 26 (ni hprP (fun P => 26) (fun P => [P + 1]) rfl) 11))); omega)).ext hp_40.1
  have hXw_46 : ∀ _ : Unit, μ35.1 26 11 = 0 → Wp μ35 P r_36 29 := fun _ h0 => Wp.of hp_40 ((hXH_29 ()) (by have h9 : μ21.1 26 11 = μ.1 26 11 := ((F_22.1 26 (ni hprP (fun P => 26) (fun P => [P + 1]) rfl) 11).trans (F_4.1 26 (ni hprP (fun P => 26) (fun P => [P + 1]) rfl) 11)); have h8 : μ35.1 26 11 = μ.1 26 11 := ((F_37.1 26 (ni hprP (fun P => 26) (fun P => [P, P + 1]) rfl) 11).trans ((F_22.1 26 (ni hprP (fun P => 26) (fun P => [P + 1]) rfl) 11).trans (F_4.1 26 (ni hprP (fun P => 26) (fun P => [P + 1]) rfl) 11))); omega)).1 hp_39
  refine lv_istore_n (lv' := [(2, .int (iv r_36)), (0, .ref (oP ω 23)), (1, .int (iv x1))]) hx hb dX7_catches_31 rfl hl (by decide) rfl (fun ls hl => ?_)
  refine lv_iconst (v := iv (-1)) hx hb dX7_catches_32 rfl ?_
  refine lv_istore_n (lv' := [(3, .int (iv (-1))), (2, .int (iv r_36)), (0, .ref (oP ω 23)), (1, .int (iv x1))]) hx hb dX7_catches_33 rfl hl (by decide) rfl (fun ls hl => ?_)
  refine lv_iconst (v := iv 0) hx hb dX7_catches_34 rfl ?_
  refine lv_istore (lv' := [(4, .int (iv 0)), (3, .int (iv (-1))), (2, .int (iv r_36)), (0, .ref (oP ω 23)), (1, .int (iv x1))]) hx hb dX7_catches_35 hl (by decide) rfl (fun ls hl => ?_)
  have htk_47 : TK μ35 := hTK.fr (K := [P, P + 1]) (Fr.tr (Fr.tr (Fr.tr Fr.rf F_4 (si hprP (fun P => [P + 1]) (fun P => [P, P + 1]) rfl)) F_22 (si hprP (fun P => [P + 1]) (fun P => [P, P + 1]) rfl)) F_37 (si hprP (fun P => [P, P + 1]) (fun P => [P, P + 1]) rfl)) (ni hprP (fun P => 26) (fun P => [P, P + 1]) rfl) (ni hprP (fun P => 28) (fun P => [P, P + 1]) rfl) (ni hprP (fun P => 29) (fun P => [P, P + 1]) rfl)
  have e_48 : μ35.1 26 11 = μ.1 26 11 := ((F_37.1 26 (ni hprP (fun P => 26) (fun P => [P, P + 1]) rfl) 11).trans ((F_22.1 26 (ni hprP (fun P => 26) (fun P => [P + 1]) rfl) 11).trans (F_4.1 26 (ni hprP (fun P => 26) (fun P => [P + 1]) rfl) 11)))
  have e_49 : μ35.1 26 10 = μ.1 26 10 := ((F_37.1 26 (ni hprP (fun P => 26) (fun P => [P, P + 1]) rfl) 10).trans ((F_22.1 26 (ni hprP (fun P => 26) (fun P => [P + 1]) rfl) 10).trans (F_4.1 26 (ni hprP (fun P => 26) (fun P => [P + 1]) rfl) 10)))
  have hn_50 : -1 ≤ μ.1 26 10 ∧ μ.1 26 10 ≤ 3000 := hI.nm.2.2.2.2.2.2.2.2.2.2.2.2
  have e_51 : μ35.1 P 1 = μ21.1 P 1 + 1 := hs_41
  have e_52 : μ35.1 P 1 = μ21.1 P 1 + 1 := hs_41
  have e_53 : μ35.1 26 10 = μ.1 26 10 := ((F_37.1 26 (ni hprP (fun P => 26) (fun P => [P, P + 1]) rfl) 10).trans ((F_22.1 26 (ni hprP (fun P => 26) (fun P => [P + 1]) rfl) 10).trans (F_4.1 26 (ni hprP (fun P => 26) (fun P => [P + 1]) rfl) 10)))
  have e_54 : μ35.1 26 11 = μ.1 26 11 := ((F_37.1 26 (ni hprP (fun P => 26) (fun P => [P, P + 1]) rfl) 11).trans ((F_22.1 26 (ni hprP (fun P => 26) (fun P => [P + 1]) rfl) 11).trans (F_4.1 26 (ni hprP (fun P => 26) (fun P => [P + 1]) rfl) 11)))
  have e_55 : μ35.1 (P + 2) 3 = μ.1 (P + 2) 3 := ((F_37.1 (P + 2) (ni hprP (fun P => P + 2) (fun P => [P, P + 1]) rfl) 3).trans ((F_22.1 (P + 2) (ni hprP (fun P => P + 2) (fun P => [P + 1]) rfl) 3).trans (F_4.1 (P + 2) (ni hprP (fun P => P + 2) (fun P => [P + 1]) rfl) 3)))
  have e_56 : μ35.1 P 1 = μ21.1 P 1 + 1 := hs_41
  have e_57 : μ35.1 (P + 2) 3 = μ.1 (P + 2) 3 := ((F_37.1 (P + 2) (ni hprP (fun P => P + 2) (fun P => [P, P + 1]) rfl) 3).trans ((F_22.1 (P + 2) (ni hprP (fun P => P + 2) (fun P => [P + 1]) rfl) 3).trans (F_4.1 (P + 2) (ni hprP (fun P => P + 2) (fun P => [P + 1]) rfl) 3)))
  have hk_58 := hI.row (r := P + 2) (hprP.row)
  unfold rk at hk_58
  have e_59 : μ35.1 23 9 = μ.1 23 9 := ((F_37.1 23 (ni hprP (fun P => 23) (fun P => [P, P + 1]) rfl) 9).trans ((F_22.1 23 (ni hprP (fun P => 23) (fun P => [P + 1]) rfl) 9).trans (F_4.1 23 (ni hprP (fun P => 23) (fun P => [P + 1]) rfl) 9)))
  refine xl (fun n_9 μ' ls => ∃ (e9 : Int), ∃ (l9 : Int), ∃ (i9 : Int), (Fr [2, 3, 4, 23, 24, 25, 26, P, P + 1, P + 2, (P + 2) + 1, (P + 2) + 2, (P + 2) + 3] μ35 μ') ∧ (-2147483648 ≤ e9 ∧ e9 ≤ 2147483647) ∧ (-2147483648 ≤ l9 ∧ l9 ≤ 2147483647) ∧ (-2147483648 ≤ i9 ∧ i9 ≤ 2147483647) ∧ (0 ≤ i9) ∧ (i9 ≤ 3000) ∧ (-1 ≤ l9) ∧ (1 ≤ i9 → 0 ≤ l9) ∧ (i9 = 0 → μ'.1 26 12 = 211) ∧ (TK μ') ∧ (μ.1 26 11 ≤ μ'.1 26 11) ∧ (μ.1 26 10 ≤ μ'.1 26 10) ∧ (μ.1 P 1 ≤ μ'.1 P 1 ∧ 2 * μ'.1 P 1 ≤ 2 * μ.1 P 1 + 5 * (μ'.1 26 10 - μ.1 26 10) + (2 - 19 * i9 + 20 * μ'.1 26 11)) ∧ (μ'.1 (P + 2) 3 - μ.1 (P + 2) 3 ≤ μ'.1 P 1 - μ.1 P 1 ∧ μ.1 (P + 2) 3 ≤ μ'.1 (P + 2) 3) ∧ (μ'.1 23 9 = μ.1 23 9) ∧ (μ'.1 26 11 = 0 → CT μ μ' P tt x1 e9 l9 (2 * (7 - μ.1 23 9))) ∧ (μ'.1 26 11 = 0 → HC μ' P tt 0) ∧ (μ'.1 23 2 = P) ∧ (μ'.1 23 7 = μ.1 23 7) ∧ (μ'.1 23 8 = tt) ∧ (μ'.1 26 6 = μ.1 26 6) ∧ (μ'.1 P 7 = μ.1 P 7) ∧ (IC μ') ∧ n_9 = Int.toNat (3000 - i9) ∧ lv_has ls 8 [(4, .int (iv i9)), (3, .int (iv l9)), (2, .int (iv e9)), (0, .ref (oP ω 23)), (1, .int (iv x1))]) (fun n_9 ρ μL60 d0 H locs ls hI_l G ih => ?_) _ _ _ _ _ _ _ ⟨r_36, (-1), 0, Fr.rf, (by omega), (by omega), (by omega), (by omega), (by omega), (by omega), (fun h9 => absurd h9 (by decide)), (fun _ => by have h9 : μ35.1 26 12 = μ.1 26 12 := ((F_37.1 26 (ni hprP (fun P => 26) (fun P => [P, P + 1]) rfl) 12).trans ((F_22.1 26 (ni hprP (fun P => 26) (fun P => [P + 1]) rfl) 12).trans (F_4.1 26 (ni hprP (fun P => 26) (fun P => [P + 1]) rfl) 12))); omega), htk_47, (by omega), (by omega), (by omega), (by omega), (by omega), (fun h0 => CT.go ((hXR_43 ()) h0) (hcg () (by omega)) (td64x (b := 0) (by omega) (by omega) (by omega))), (hXH_44 ()), ((F_37.1 23 (ni hprP (fun P => 23) (fun P => [P, P + 1]) rfl) 2).trans ((F_22.1 23 (ni hprP (fun P => 23) (fun P => [P + 1]) rfl) 2).trans ((F_4.1 23 (ni hprP (fun P => 23) (fun P => [P + 1]) rfl) 2).trans hP.symm))), ((F_37.1 23 (ni hprP (fun P => 23) (fun P => [P, P + 1]) rfl) 7).trans ((F_22.1 23 (ni hprP (fun P => 23) (fun P => [P + 1]) rfl) 7).trans (F_4.1 23 (ni hprP (fun P => 23) (fun P => [P + 1]) rfl) 7))), ((F_37.1 23 (ni hprP (fun P => 23) (fun P => [P, P + 1]) rfl) 8).trans ((F_22.1 23 (ni hprP (fun P => 23) (fun P => [P + 1]) rfl) 8).trans ((F_4.1 23 (ni hprP (fun P => 23) (fun P => [P + 1]) rfl) 8).trans htt.symm))), ((F_37.1 26 (ni hprP (fun P => 26) (fun P => [P, P + 1]) rfl) 6).trans ((F_22.1 26 (ni hprP (fun P => 26) (fun P => [P + 1]) rfl) 6).trans (F_4.1 26 (ni hprP (fun P => 26) (fun P => [P + 1]) rfl) 6))), (hs_42.trans ((F_22.1 P (ni hprP (fun P => P) (fun P => [P + 1]) rfl) 7).trans (F_4.1 P (ni hprP (fun P => P) (fun P => [P + 1]) rfl) 7))), hI_38, rfl, lv_sub hl [0, 1, 2, 3, 4] rfl⟩ G
  obtain ⟨e9, l9, i9, FL61, hi_63, hi_64, hi_65, hi_66, hi_67, hi_68, hi_69, hi_70, hi_71, hi_72, hi_73, hi_74, hi_75, hi_76, hi_77, hi_78, hi_79, hi_80, hi_81, hi_82, hi_83, hi_84, hn62, hl⟩ := hI_l
  have htb_85 := hi_71.b
  replace hi_77 := fun _ : Unit => hi_77
  replace hi_78 := fun _ : Unit => hi_78
  have hXw_86 : ∀ _ : Unit, μL60.1 26 11 = 0 → Wp μL60 P x1 28 := fun _ h0 => (hi_77 () h0).w.1
  refine lv_iload hx hb dX7_catches_37 (lv_at hl 0 rfl) ?_
  refine lv_sipush (v := iv 3000) hx hb dX7_catches_39 rfl ?_
  refine xb_icmp_ge (tgt := 136) hx hb (by unfold ir; omega) (by unfold ir; omega) dX7_catches_42 (by decide) (fun c_42 => ?_) (fun c_42 => ?_)
  · refine lv_aload_n hx hb dX7_catches_136 rfl (lv_at hl 3 rfl) ?_
    refine lv_iload_n hx hb dX7_catches_137 rfl (lv_at hl 2 rfl) ?_
    refine lv_aload_n hx hb dX7_catches_138 rfl (lv_at hl 3 rfl) ?_
    have e_87 : μL60.1 23 2 = P := hi_79
    have hk_88 := hi_84.pr (p := P) hprP
    unfold pk at hk_88
    have hc_89 : 16 ≤ μL60.2.1 (P + 1) ∧ μL60.2.1 (P + 1) ≤ 73024 := hi_84.rm.1 _ hprP.cap
    refine xc_iV G (b := 23) (rest := [.int (iv e9), .ref (oP ω 23)]) (As := []) (c_X7_here ω l μL60 P hi_84 (by omega)) (wm 4 31 rfl rfl) (wm 4 33 rfl rfl) (wm 0 31 rfl rfl) rfl rfl (by decide) rfl (wm 1 12 rfl rfl) (wm 4 34 rfl rfl) (by decide) hR ⟨nfB hF (by decide), nlB hLo (by decide)⟩ (n := 0) rfl rfl (Nat.le_of_ble_eq_true rfl) hl.1 dX7_catches_139 (fun r_91 μ90 ρ d0 H locs hr_r_91 hp G => ?_)
    have hr_r_91 : -2147483648 ≤ r_91 ∧ r_91 ≤ 2147483647 := hr_r_91
    obtain ⟨hsm_92, hp_93⟩ := hp
    have hsm_92 := Eq.symm hsm_92
    subst hsm_92
    have e_94 : μL60.1 23 2 = P := hi_79
    have e_95 : μL60.1 23 8 = tt := hi_81
    refine xc_vV G (b := 23) (rest := []) (As := [.int (iv e9), .int (iv r_91)]) (c_X7_aimAll_b ω l μL60 e9 r_91 (CTL μ μL60 P tt x1 e9 l9 (2 * (7 - μ.1 23 9))) P tt (by unfold ir; omega) (by unfold ir; omega) hi_84 (by omega) (by omega) (fun h0 => ((hi_77 ()) h0).l) (by omega)) (wm 4 39 rfl rfl) (wm 4 41 rfl rfl) (wm 0 32 rfl rfl) rfl rfl (by decide) rfl (wm 1 12 rfl rfl) (wm 4 42 rfl rfl) (by decide) hR ⟨nfB hF (by decide), nlB hLo (by decide)⟩ (n := 2) rfl rfl (Nat.le_of_ble_eq_true rfl) hl.1 dX7_catches_142 (fun μ96 ρ d0 H locs hp G => ?_)
    obtain ⟨F_97, hI_98, hp_99, hs_100, hs_101⟩ := hp
    replace hp_99 := fun _ : Unit => hp_99
    clear hk_1 hc_2 hk_58 hk_88 hc_89
    have e_102 : μ96.1 26 11 = μL60.1 26 11 := (F_97.1 26 (ni hprP (fun P => 26) (fun P => [P + 1]) rfl) 11)
    have hca_103 : μ96.1 26 11 = 0 → CA μ μ96 P tt x1 ((2 * (7 - μ.1 23 9)) + 1) := by
      intro h0
      obtain ⟨L, hl1, hl2⟩ := (hp_99 ()) (by have h9 : μL60.1 26 11 = μL60.1 26 11 := rfl; have h8 : μ96.1 26 11 = μL60.1 26 11 := (F_97.1 26 (ni hprP (fun P => 26) (fun P => [P + 1]) rfl) 11); omega)
      exact hl1.ed (by omega) hl2 (by omega)
    have htk_104 : TK μ96 := hi_71.fr (K := [P + 1]) (Fr.tr Fr.rf F_97 (si hprP (fun P => [P + 1]) (fun P => [P + 1]) rfl)) (ni hprP (fun P => 26) (fun P => [P + 1]) rfl) (ni hprP (fun P => 28) (fun P => [P + 1]) rfl) (ni hprP (fun P => 29) (fun P => [P + 1]) rfl)
    have e_105 : μ96.1 26 11 = μL60.1 26 11 := (F_97.1 26 (ni hprP (fun P => 26) (fun P => [P + 1]) rfl) 11)
    have e_106 : μ96.1 26 10 = μL60.1 26 10 := (F_97.1 26 (ni hprP (fun P => 26) (fun P => [P + 1]) rfl) 10)
    have e_107 : μ96.1 P 1 = μL60.1 P 1 := hs_100
    have e_108 : μ96.1 P 1 = μL60.1 P 1 := hs_100
    have e_109 : μ96.1 26 10 = μL60.1 26 10 := (F_97.1 26 (ni hprP (fun P => 26) (fun P => [P + 1]) rfl) 10)
    have e_110 : μ96.1 26 11 = μL60.1 26 11 := (F_97.1 26 (ni hprP (fun P => 26) (fun P => [P + 1]) rfl) 11)
    have e_111 : μ96.1 (P + 2) 3 = μL60.1 (P + 2) 3 := (F_97.1 (P + 2) (ni hprP (fun P => P + 2) (fun P => [P + 1]) rfl) 3)
    have e_112 : μ96.1 P 1 = μL60.1 P 1 := hs_100
    have e_113 : μ96.1 (P + 2) 3 = μL60.1 (P + 2) 3 := (F_97.1 (P + 2) (ni hprP (fun P => P + 2) (fun P => [P + 1]) rfl) 3)
    have e_114 : μ96.1 23 9 = μL60.1 23 9 := (F_97.1 23 (ni hprP (fun P => 23) (fun P => [P + 1]) rfl) 9)
    exact xr_v G hret hlk dX7_catches_145 ⟨(Fr.tr (Fr.tr (Fr.tr (Fr.tr (Fr.tr Fr.rf F_4 (si hprP (fun P => [P + 1]) (fun P => [2, 3, 4, 23, 24, 25, 26, P, P + 1, P + 2, (P + 2) + 1, (P + 2) + 2, (P + 2) + 3]) rfl)) F_22 (si hprP (fun P => [P + 1]) (fun P => [2, 3, 4, 23, 24, 25, 26, P, P + 1, P + 2, (P + 2) + 1, (P + 2) + 2, (P + 2) + 3]) rfl)) F_37 (si hprP (fun P => [P, P + 1]) (fun P => [2, 3, 4, 23, 24, 25, 26, P, P + 1, P + 2, (P + 2) + 1, (P + 2) + 2, (P + 2) + 3]) rfl)) FL61 (si hprP (fun P => [2, 3, 4, 23, 24, 25, 26, P, P + 1, P + 2, (P + 2) + 1, (P + 2) + 2, (P + 2) + 3]) (fun P => [2, 3, 4, 23, 24, 25, 26, P, P + 1, P + 2, (P + 2) + 1, (P + 2) + 2, (P + 2) + 3]) rfl)) F_97 (si hprP (fun P => [P + 1]) (fun P => [2, 3, 4, 23, 24, 25, 26, P, P + 1, P + 2, (P + 2) + 1, (P + 2) + 2, (P + 2) + 3]) rfl)), hI_98, htk_104, (by omega), (by omega), (by omega), (by omega), hca_103, (((F_97.1 23 (ni hprP (fun P => 23) (fun P => [P + 1]) rfl) 2).trans hi_79)).trans hP, ((F_97.1 23 (ni hprP (fun P => 23) (fun P => [P + 1]) rfl) 7).trans hi_80), (((F_97.1 23 (ni hprP (fun P => 23) (fun P => [P + 1]) rfl) 8).trans hi_81)).trans htt, (by omega), ((F_97.1 26 (ni hprP (fun P => 26) (fun P => [P + 1]) rfl) 6).trans hi_82), (hs_101.trans hi_83)⟩
  · refine lv_aload_n hx hb dX7_catches_45 rfl (lv_at hl 3 rfl) ?_
    refine lv_sipush (v := iv 211) hx hb dX7_catches_46 rfl ?_
    have hn_115 : -1 ≤ μL60.1 26 10 ∧ μL60.1 26 10 ≤ 3000 := hi_84.nm.2.2.2.2.2.2.2.2.2.2.2.2
    refine xc_iV G (b := 23) (rest := []) (As := [.int (iv 211)]) (c_X7_took ω l μL60 211 (by unfold ir; omega) hi_84 hi_71 (by omega)) (wm 3 160 rfl rfl) (wm 3 162 rfl rfl) (wm 0 9 rfl rfl) rfl rfl (by decide) rfl (wm 1 12 rfl rfl) (wm 3 163 rfl rfl) (by decide) hR ⟨nfB hF (by decide), nlB hLo (by decide)⟩ (n := 1) rfl rfl (Nat.le_of_ble_eq_true rfl) hl.1 dX7_catches_49 (fun r_117 μ116 ρ d0 H locs hr_r_117 hp G => ?_)
    have hr_r_117 : -2147483648 ≤ r_117 ∧ r_117 ≤ 2147483647 := hr_r_117
    obtain ⟨F_118, hI_119, hp_120, hp_121, hs_122, hs_123, hs_124, hs_125, hs_126⟩ := hp
    have hn_127 : -1 ≤ μ116.1 26 10 ∧ μ116.1 26 10 ≤ 3000 := hI_119.nm.2.2.2.2.2.2.2.2.2.2.2.2
    have htb_128 := hp_120.b
    refine xb_if_eq (tgt := 136) hx hb (by unfold ir; omega) dX7_catches_52 (by decide) (fun c_52 => ?_) (fun c_52 => ?_)
    · refine lv_aload_n hx hb dX7_catches_136 rfl (lv_at hl 3 rfl) ?_
      refine lv_iload_n hx hb dX7_catches_137 rfl (lv_at hl 2 rfl) ?_
      refine lv_aload_n hx hb dX7_catches_138 rfl (lv_at hl 3 rfl) ?_
      have e_129 : μ116.1 23 2 = P := ((F_118.1 23 (by decide) 2).trans hi_79)
      have hk_130 := hi_84.pr (p := P) hprP
      unfold pk at hk_130
      have hc_131 : 16 ≤ μL60.2.1 (P + 1) ∧ μL60.2.1 (P + 1) ≤ 73024 := hi_84.rm.1 _ hprP.cap
      have e_132 : μ116.1 P 1 = μL60.1 P 1 := (F_118.1 P (ni hprP (fun P => P) (fun P => [26]) rfl) 1)
      refine xc_iV G (b := 23) (rest := [.int (iv e9), .ref (oP ω 23)]) (As := []) (c_X7_here ω l μ116 P hI_119 (by omega)) (wm 4 31 rfl rfl) (wm 4 33 rfl rfl) (wm 0 31 rfl rfl) rfl rfl (by decide) rfl (wm 1 12 rfl rfl) (wm 4 34 rfl rfl) (by decide) hR ⟨nfB hF (by decide), nlB hLo (by decide)⟩ (n := 0) rfl rfl (Nat.le_of_ble_eq_true rfl) hl.1 dX7_catches_139 (fun r_134 μ133 ρ d0 H locs hr_r_134 hp G => ?_)
      have hr_r_134 : -2147483648 ≤ r_134 ∧ r_134 ≤ 2147483647 := hr_r_134
      obtain ⟨hsm_135, hp_136⟩ := hp
      have hsm_135 := Eq.symm hsm_135
      subst hsm_135
      have htR_137 : ∀ _ : Unit, μ116.1 26 11 = 0 → CT μ μ116 P tt x1 e9 l9 (2 * (7 - μ.1 23 9)) := fun _ h0 => CT.fr (K := [26]) (hi_77 () (by have h9 : μL60.1 26 11 = μL60.1 26 11 := rfl; have h8 : μ116.1 26 11 = μL60.1 26 11 := hs_122; omega)) (Fr.tr Fr.rf F_118 (by decide)) (npL_p (L := [26]) (by decide) hprP).1 (npL_p (L := [26]) (by decide) hprP).2.1
      have e_138 : μ116.1 23 2 = P := ((F_118.1 23 (by decide) 2).trans hi_79)
      have e_139 : μ116.1 23 8 = tt := ((F_118.1 23 (by decide) 8).trans hi_81)
      refine xc_vV G (b := 23) (rest := []) (As := [.int (iv e9), .int (iv r_134)]) (c_X7_aimAll_b ω l μ116 e9 r_134 (CTL μ μ116 P tt x1 e9 l9 (2 * (7 - μ.1 23 9))) P tt (by unfold ir; omega) (by unfold ir; omega) hI_119 (by omega) (by omega) (fun h0 => ((htR_137 ()) h0).l) (by omega)) (wm 4 39 rfl rfl) (wm 4 41 rfl rfl) (wm 0 32 rfl rfl) rfl rfl (by decide) rfl (wm 1 12 rfl rfl) (wm 4 42 rfl rfl) (by decide) hR ⟨nfB hF (by decide), nlB hLo (by decide)⟩ (n := 2) rfl rfl (Nat.le_of_ble_eq_true rfl) hl.1 dX7_catches_142 (fun μ140 ρ d0 H locs hp G => ?_)
      obtain ⟨F_141, hI_142, hp_143, hs_144, hs_145⟩ := hp
      replace hp_143 := fun _ : Unit => hp_143
      clear hk_1 hc_2 hk_58 hk_130 hc_131
      have e_146 : μ140.1 26 11 = μL60.1 26 11 := ((F_141.1 26 (ni hprP (fun P => 26) (fun P => [P + 1]) rfl) 11).trans hs_122)
      have hca_147 : μ140.1 26 11 = 0 → CA μ μ140 P tt x1 ((2 * (7 - μ.1 23 9)) + 1) := by
        intro h0
        obtain ⟨L, hl1, hl2⟩ := (hp_143 ()) (by have h9 : μ116.1 26 11 = μL60.1 26 11 := hs_122; have h8 : μ140.1 26 11 = μL60.1 26 11 := ((F_141.1 26 (ni hprP (fun P => 26) (fun P => [P + 1]) rfl) 11).trans hs_122); omega)
        exact hl1.ed (by omega) hl2 (by omega)
      have htk_148 : TK μ140 := hp_120.fr (K := [P + 1]) (Fr.tr Fr.rf F_141 (si hprP (fun P => [P + 1]) (fun P => [P + 1]) rfl)) (ni hprP (fun P => 26) (fun P => [P + 1]) rfl) (ni hprP (fun P => 28) (fun P => [P + 1]) rfl) (ni hprP (fun P => 29) (fun P => [P + 1]) rfl)
      have e_149 : μ140.1 26 11 = μL60.1 26 11 := ((F_141.1 26 (ni hprP (fun P => 26) (fun P => [P + 1]) rfl) 11).trans hs_122)
      have e_150 : μ140.1 26 10 = μ116.1 26 10 := (F_141.1 26 (ni hprP (fun P => 26) (fun P => [P + 1]) rfl) 10)
      have e_151 : μ140.1 P 1 = μL60.1 P 1 := (hs_144.trans (F_118.1 P (ni hprP (fun P => P) (fun P => [26]) rfl) 1))
      have e_152 : μ140.1 P 1 = μL60.1 P 1 := (hs_144.trans (F_118.1 P (ni hprP (fun P => P) (fun P => [26]) rfl) 1))
      have e_153 : μ140.1 26 10 = μ116.1 26 10 := (F_141.1 26 (ni hprP (fun P => 26) (fun P => [P + 1]) rfl) 10)
      have e_154 : μ140.1 26 11 = μL60.1 26 11 := ((F_141.1 26 (ni hprP (fun P => 26) (fun P => [P + 1]) rfl) 11).trans hs_122)
      have e_155 : μ140.1 (P + 2) 3 = μL60.1 (P + 2) 3 := ((F_141.1 (P + 2) (ni hprP (fun P => P + 2) (fun P => [P + 1]) rfl) 3).trans (F_118.1 (P + 2) (ni hprP (fun P => P + 2) (fun P => [26]) rfl) 3))
      have e_156 : μ140.1 P 1 = μL60.1 P 1 := (hs_144.trans (F_118.1 P (ni hprP (fun P => P) (fun P => [26]) rfl) 1))
      have e_157 : μ140.1 (P + 2) 3 = μL60.1 (P + 2) 3 := ((F_141.1 (P + 2) (ni hprP (fun P => P + 2) (fun P => [P + 1]) rfl) 3).trans (F_118.1 (P + 2) (ni hprP (fun P => P + 2) (fun P => [26]) rfl) 3))
      have e_158 : μ140.1 23 9 = μL60.1 23 9 := ((F_141.1 23 (ni hprP (fun P => 23) (fun P => [P + 1]) rfl) 9).trans (F_118.1 23 (by decide) 9))
      exact xr_v G hret hlk dX7_catches_145 ⟨(Fr.tr (Fr.tr (Fr.tr (Fr.tr (Fr.tr (Fr.tr Fr.rf F_4 (si hprP (fun P => [P + 1]) (fun P => [2, 3, 4, 23, 24, 25, 26, P, P + 1, P + 2, (P + 2) + 1, (P + 2) + 2, (P + 2) + 3]) rfl)) F_22 (si hprP (fun P => [P + 1]) (fun P => [2, 3, 4, 23, 24, 25, 26, P, P + 1, P + 2, (P + 2) + 1, (P + 2) + 2, (P + 2) + 3]) rfl)) F_37 (si hprP (fun P => [P, P + 1]) (fun P => [2, 3, 4, 23, 24, 25, 26, P, P + 1, P + 2, (P + 2) + 1, (P + 2) + 2, (P + 2) + 3]) rfl)) FL61 (si hprP (fun P => [2, 3, 4, 23, 24, 25, 26, P, P + 1, P + 2, (P + 2) + 1, (P + 2) + 2, (P + 2) + 3]) (fun P => [2, 3, 4, 23, 24, 25, 26, P, P + 1, P + 2, (P + 2) + 1, (P + 2) + 2, (P + 2) + 3]) rfl)) F_118 (si hprP (fun P => [26]) (fun P => [2, 3, 4, 23, 24, 25, 26, P, P + 1, P + 2, (P + 2) + 1, (P + 2) + 2, (P + 2) + 3]) rfl)) F_141 (si hprP (fun P => [P + 1]) (fun P => [2, 3, 4, 23, 24, 25, 26, P, P + 1, P + 2, (P + 2) + 1, (P + 2) + 2, (P + 2) + 3]) rfl)), hI_142, htk_148, (by omega), (by omega), (by omega), (by omega), hca_147, (((F_141.1 23 (ni hprP (fun P => 23) (fun P => [P + 1]) rfl) 2).trans ((F_118.1 23 (by decide) 2).trans hi_79))).trans hP, ((F_141.1 23 (ni hprP (fun P => 23) (fun P => [P + 1]) rfl) 7).trans ((F_118.1 23 (by decide) 7).trans hi_80)), (((F_141.1 23 (ni hprP (fun P => 23) (fun P => [P + 1]) rfl) 8).trans ((F_118.1 23 (by decide) 8).trans hi_81))).trans htt, (by omega), ((F_141.1 26 (ni hprP (fun P => 26) (fun P => [P + 1]) rfl) 6).trans (hs_123.trans hi_82)), (hs_145.trans ((F_118.1 P (ni hprP (fun P => P) (fun P => [26]) rfl) 7).trans hi_83))⟩
    · refine lv_aload_n hx hb dX7_catches_55 rfl (lv_at hl 3 rfl) ?_
      have e_159 : μ116.1 26 11 = μL60.1 26 11 := hs_122
      refine xc_iV G (b := 23) (rest := []) (As := []) (c_X7_nameOfFailing_b ω l μ116  hI_119 hp_120) (wm 4 112 rfl rfl) (wm 4 114 rfl rfl) (wm 0 44 rfl rfl) rfl rfl (by decide) rfl (wm 1 12 rfl rfl) (wm 4 115 rfl rfl) (by decide) hR ⟨nfB hF (by decide), nlB hLo (by decide)⟩ (n := 0) rfl rfl (Nat.le_of_ble_eq_true rfl) hl.1 dX7_catches_56 (fun r_161 μ160 ρ d0 H locs hr_r_161 hp G => ?_)
      have hr_r_161 : -2147483648 ≤ r_161 ∧ r_161 ≤ 2147483647 := hr_r_161
      obtain ⟨F_162, hI_163, hp_164, hp_165, hp_166, hp_167, hs_168, hs_169, hs_170, hs_171, hs_172⟩ := hp
      have hn_173 : -1 ≤ μ160.1 26 10 ∧ μ160.1 26 10 ≤ 3000 := hI_163.nm.2.2.2.2.2.2.2.2.2.2.2.2
      have htb_174 := hp_164.b
      refine lv_istore (lv' := [(5, .int (iv r_161)), (4, .int (iv i9)), (3, .int (iv l9)), (2, .int (iv e9)), (0, .ref (oP ω 23)), (1, .int (iv x1))]) hx hb dX7_catches_59 hl (by decide) rfl (fun ls hl => ?_)
      refine lv_aload_n hx hb dX7_catches_61 rfl (lv_at hl 4 rfl) ?_
      refine xc_iV G (b := 23) (rest := []) (As := []) (c_X7_secondName ω l μ160  hI_163 hp_164) (wm 4 163 rfl rfl) (wm 4 165 rfl rfl) (wm 0 53 rfl rfl) rfl rfl (by decide) rfl (wm 1 12 rfl rfl) (wm 4 166 rfl rfl) (by decide) hR ⟨nfB hF (by decide), nlB hLo (by decide)⟩ (n := 0) rfl rfl (Nat.le_of_ble_eq_true rfl) hl.1 dX7_catches_62 (fun r_176 μ175 ρ d0 H locs hr_r_176 hp G => ?_)
      have hr_r_176 : -2147483648 ≤ r_176 ∧ r_176 ≤ 2147483647 := hr_r_176
      obtain ⟨F_177, hI_178, hp_179, hp_180, hp_181, hp_182, hs_183, hs_184, hs_185, hs_186, hs_187, hs_188, hs_189, hs_190, hs_191, hs_192⟩ := hp
      have hn_193 : -1 ≤ μ175.1 26 10 ∧ μ175.1 26 10 ≤ 3000 := hI_178.nm.2.2.2.2.2.2.2.2.2.2.2.2
      have htb_194 := hp_179.b
      refine lv_istore (lv' := [(6, .int (iv r_176)), (5, .int (iv r_161)), (4, .int (iv i9)), (3, .int (iv l9)), (2, .int (iv e9)), (0, .ref (oP ω 23)), (1, .int (iv x1))]) hx hb dX7_catches_65 hl (by decide) rfl (fun ls hl => ?_)
      refine lv_aload_n hx hb dX7_catches_67 rfl (lv_at hl 5 rfl) ?_
      refine lv_bipush (v := iv 30) hx hb dX7_catches_68 rfl ?_
      refine lv_iload hx hb dX7_catches_70 (lv_at hl 1 rfl) ?_
      refine lv_iconst (v := iv (-1)) hx hb dX7_catches_72 rfl ?_
      have htR_195 : ∀ _ : Unit, μ175.1 26 11 = 0 → CT μ μ175 P tt x1 e9 l9 (2 * (7 - μ.1 23 9)) := fun _ h0 => CT.fr (K := [26, 25, 23, 2, 3, 4, 24]) (hi_77 () (by have h9 : μL60.1 26 11 = μL60.1 26 11 := rfl; have h8 : μ175.1 26 11 = μ175.1 26 11 := rfl; omega)) (Fr.tr (Fr.tr (Fr.tr Fr.rf F_118 (by decide)) F_162 (by decide)) F_177 (by decide)) (npL_p (L := [26, 25, 23, 2, 3, 4, 24]) (by decide) hprP).1 (npL_p (L := [26, 25, 23, 2, 3, 4, 24]) (by decide) hprP).2.1
      have htH_196 : ∀ _ : Unit, μ175.1 26 11 = 0 → HC μ175 P tt 0 := fun _ h0 => HC.fr (K := [26, 25, 23, 2, 3, 4, 24]) (hi_78 () (by have h9 : μL60.1 26 11 = μL60.1 26 11 := rfl; have h8 : μ175.1 26 11 = μ175.1 26 11 := rfl; omega)) (Fr.tr (Fr.tr (Fr.tr Fr.rf F_118 (by decide)) F_162 (by decide)) F_177 (by decide)) (npL_p (L := [26, 25, 23, 2, 3, 4, 24]) (by decide) hprP).1 (npL_p (L := [26, 25, 23, 2, 3, 4, 24]) (by decide) hprP).2.1
      have htw_197 : ∀ _ : Unit, μ175.1 26 11 = 0 → Wp μ175 P x1 28 := fun _ h0 => Wp.fr (K := [26, 25, 23, 2, 3, 4, 24]) (hXw_86 () (by have h9 : μL60.1 26 11 = μL60.1 26 11 := rfl; have h8 : μ175.1 26 11 = μ175.1 26 11 := rfl; omega)) (Fr.tr (Fr.tr (Fr.tr Fr.rf F_118 (by decide)) F_162 (by decide)) F_177 (by decide)) (npL_p (L := [26, 25, 23, 2, 3, 4, 24]) (by decide) hprP).1 (npL_p (L := [26, 25, 23, 2, 3, 4, 24]) (by decide) hprP).2.1
      have e_198 : μ175.1 23 2 = P := (hs_187.trans ((F_162.1 23 (by decide) 2).trans ((F_118.1 23 (by decide) 2).trans hi_79)))
      have hk_199 := hi_84.pr (p := P) hprP
      unfold pk at hk_199
      have hc_200 : 16 ≤ μL60.2.1 (P + 1) ∧ μL60.2.1 (P + 1) ≤ 73024 := hi_84.rm.1 _ hprP.cap
      have e_201 : μ175.1 P 1 = μL60.1 P 1 := ((F_177.1 P (ni hprP (fun P => P) (fun P => [26, 25, 23]) rfl) 1).trans ((F_162.1 P (ni hprP (fun P => P) (fun P => [26, 2, 3, 4, 24]) rfl) 1).trans (F_118.1 P (ni hprP (fun P => P) (fun P => [26]) rfl) 1)))
      have e_202 : μ175.1 P 1 = μL60.1 P 1 := ((F_177.1 P (ni hprP (fun P => P) (fun P => [26, 25, 23]) rfl) 1).trans ((F_162.1 P (ni hprP (fun P => P) (fun P => [26, 2, 3, 4, 24]) rfl) 1).trans (F_118.1 P (ni hprP (fun P => P) (fun P => [26]) rfl) 1)))
      have e_203 : μ175.1 P 1 = μL60.1 P 1 := ((F_177.1 P (ni hprP (fun P => P) (fun P => [26, 25, 23]) rfl) 1).trans ((F_162.1 P (ni hprP (fun P => P) (fun P => [26, 2, 3, 4, 24]) rfl) 1).trans (F_118.1 P (ni hprP (fun P => P) (fun P => [26]) rfl) 1)))
      refine xc_iV G (b := 23) (rest := []) (As := [.int (iv 30), .int (iv r_161), .int (iv (-1))]) (c_X7_add ω l μ175 30 r_161 (-1) P (by unfold ir; omega) (by unfold ir; omega) (by unfold ir; omega) hI_178 (by omega) (by omega)) (wm 3 226 rfl rfl) (wm 3 228 rfl rfl) (wm 0 21 rfl rfl) rfl rfl (by decide) rfl (wm 1 12 rfl rfl) (wm 3 229 rfl rfl) (by decide) hR ⟨nfB hF (by decide), nlB hLo (by decide)⟩ (n := 3) rfl rfl (Nat.le_of_ble_eq_true rfl) hl.1 dX7_catches_73 (fun r_205 μ204 ρ d0 H locs hr_r_205 hp G => ?_)
      have hr_r_205 : -2147483648 ≤ r_205 ∧ r_205 ≤ 2147483647 := hr_r_205
      obtain ⟨F_206, hI_207, hp_208, hp_209, hs_210, hs_211⟩ := hp
      have hXR_212 : ∀ _ : Unit, μ204.1 26 11 = 0 → (Th (fun ν => CT μ ν P tt x1 e9 l9 (2 * (7 - μ.1 23 9))) (qA P 30 r_161 (-1) r_205)) μ204 := fun _ h0 => ⟨_, (htR_195 ()) (by have h9 : μ175.1 26 11 = μ175.1 26 11 := rfl; have h8 : μ204.1 26 11 = μ175.1 26 11 := (F_206.1 26 (ni hprP (fun P => 26) (fun P => [P, P + 1]) rfl) 11); omega), hp_209, hp_208⟩
      have hXH_213 : ∀ _ : Unit, μ204.1 26 11 = 0 → HC μ204 P tt 0 := fun _ h0 => (((htH_196 ()) (by have h9 : μ175.1 26 11 = μ175.1 26 11 := rfl; have h8 : μ204.1 26 11 = μ175.1 26 11 := (F_206.1 26 (ni hprP (fun P => 26) (fun P => [P, P + 1]) rfl) 11); omega)).ad hp_209 (Or.inl rfl)).c rfl
      have hXw_214 : ∀ _ : Unit, μ204.1 26 11 = 0 → Wp μ204 P x1 28 := fun _ h0 => ((htw_197 ()) (by have h9 : μ175.1 26 11 = μ175.1 26 11 := rfl; have h8 : μ204.1 26 11 = μ175.1 26 11 := (F_206.1 26 (ni hprP (fun P => 26) (fun P => [P, P + 1]) rfl) 11); omega)).ext hp_209.1
      have hXw_215 : ∀ _ : Unit, μ204.1 26 11 = 0 → Wp μ204 P r_205 30 := fun _ h0 => Wp.of hp_209 ((htH_196 ()) (by have h9 : μ175.1 26 11 = μ175.1 26 11 := rfl; have h8 : μ204.1 26 11 = μ175.1 26 11 := (F_206.1 26 (ni hprP (fun P => 26) (fun P => [P, P + 1]) rfl) 11); omega)).1 hp_208
      refine lv_istore (lv' := [(7, .int (iv r_205)), (6, .int (iv r_176)), (5, .int (iv r_161)), (4, .int (iv i9)), (3, .int (iv l9)), (2, .int (iv e9)), (0, .ref (oP ω 23)), (1, .int (iv x1))]) hx hb dX7_catches_76 hl (by decide) rfl (fun ls hl => ?_)
      refine lv_iload_n hx hb dX7_catches_78 rfl (lv_at hl 4 rfl) ?_
      refine xb_if_ge (tgt := 95) hx hb (by unfold ir; omega) dX7_catches_79 (by decide) (fun c_79 => ?_) (fun c_79 => ?_)
      · have hXw_216 : ∀ _ : Unit, μ204.1 26 11 = 0 → Wp μ204 P l9 30 := fun _ h0 => CT.w2 ((hXR_212 ()) h0) (by omega)
        refine lv_aload_n hx hb dX7_catches_95 rfl (lv_at hl 6 rfl) ?_
        refine xa_getr G fd_X7 (a := 23) (x := P) 2 rfl (by decide) rfl (wm 2 19 rfl rfl) ⟨rfl, rfl, rfl⟩ dX7_catches_96 rfl ((F_206.1 23 (ni hprP (fun P => 23) (fun P => [P, P + 1]) rfl) 2).trans (hs_187.trans ((F_162.1 23 (by decide) 2).trans ((F_118.1 23 (by decide) 2).trans hi_79)))) (by omega) (hprP.hq ω ρ) ?_
        refine lv_iload_n hx hb dX7_catches_99 rfl (lv_at hl 4 rfl) ?_
        refine lv_iload hx hb dX7_catches_100 (lv_at hl 0 rfl) ?_
        have e_217 : μ204.1 P 1 = μ175.1 P 1 + 1 := hs_210
        refine xc_vV G (b := P) (rest := []) (As := [.int (iv l9), .int (iv r_205)]) (c_X8_setSecond ω l μ204 P l9 r_205 (μ175.1 P 1 + 1) hprP (by unfold ir; omega) (by unfold ir; omega) hI_207 (by omega)) (wm 4 159 rfl rfl) (wm 4 160 rfl rfl) (wm 4 161 rfl rfl) hprP.ly rfl (by decide) (hprP.hq ω ρ) (wm 1 9 rfl rfl) (wm 4 162 rfl rfl) (by decide) hR ⟨nfB hF (by decide), nlB hLo (by decide)⟩ (n := 2) rfl rfl (Nat.le_of_ble_eq_true rfl) hl.1 dX7_catches_102 (fun μ218 ρ d0 H locs hp G => ?_)
        obtain ⟨F_219, hI_220, hp_221, hp_222, ha_223⟩ := hp
        have hm_224 : ∀ _ : Unit, μ218.1 26 11 = 0 → MS μ204 μ218 P l9 r_205 := by
          intro _ h0
          have hw_ := ((hXw_216 ()) (by have h9 : μ204.1 26 11 = μ175.1 26 11 := (F_206.1 26 (ni hprP (fun P => 26) (fun P => [P, P + 1]) rfl) 11); have h8 : μ218.1 26 11 = μ175.1 26 11 := ((F_219.1 26 (ni hprP (fun P => 26) (fun P => [P + 1]) rfl) 11).trans (F_206.1 26 (ni hprP (fun P => 26) (fun P => [P, P + 1]) rfl) 11)); omega)).1
          have h8 : μ204.1 P 1 = μ175.1 P 1 + 1 := hs_210
          have h9 : μ218.1 P 1 = μ175.1 P 1 + 1 := ((F_219.1 P (ni hprP (fun P => P) (fun P => [P + 1]) rfl) 1).trans hs_210)
          rcases hp_222 with ⟨q1, q2, q3⟩ | ⟨q1, q2⟩
          · exact MS.of (μ := μ204) (ν := μ218) (P := P) (by rw [h9, h8]) hw_ q3 ha_223
          · exfalso; exact q1 (by rw [← h8]; exact hw_)
        have hXR_225 : ∀ _ : Unit, μ218.1 26 11 = 0 → (Th (Th (fun ν => CT μ ν P tt x1 e9 l9 (2 * (7 - μ.1 23 9))) (qA P 30 r_161 (-1) r_205)) (qS P l9 r_205)) μ218 := fun _ h0 => ⟨_, (hXR_212 ()) (by have h9 : μ204.1 26 11 = μ175.1 26 11 := (F_206.1 26 (ni hprP (fun P => 26) (fun P => [P, P + 1]) rfl) 11); have h8 : μ218.1 26 11 = μ175.1 26 11 := ((F_219.1 26 (ni hprP (fun P => 26) (fun P => [P + 1]) rfl) 11).trans (F_206.1 26 (ni hprP (fun P => 26) (fun P => [P, P + 1]) rfl) 11)); omega), (hm_224 ()) h0⟩
        have hXH_226 : ∀ _ : Unit, μ218.1 26 11 = 0 → HC μ218 P tt 0 := fun _ h0 => ((hXH_213 ()) (by have h9 : μ204.1 26 11 = μ175.1 26 11 := (F_206.1 26 (ni hprP (fun P => 26) (fun P => [P, P + 1]) rfl) 11); have h8 : μ218.1 26 11 = μ175.1 26 11 := ((F_219.1 26 (ni hprP (fun P => 26) (fun P => [P + 1]) rfl) 11).trans (F_206.1 26 (ni hprP (fun P => 26) (fun P => [P, P + 1]) rfl) 11)); omega)).ms ((hm_224 ()) h0)
        have hXw_227 : ∀ _ : Unit, μ218.1 26 11 = 0 → Wp μ218 P x1 28 := fun _ h0 => ((hXw_214 ()) (by have h9 : μ204.1 26 11 = μ175.1 26 11 := (F_206.1 26 (ni hprP (fun P => 26) (fun P => [P, P + 1]) rfl) 11); have h8 : μ218.1 26 11 = μ175.1 26 11 := ((F_219.1 26 (ni hprP (fun P => 26) (fun P => [P + 1]) rfl) 11).trans (F_206.1 26 (ni hprP (fun P => 26) (fun P => [P, P + 1]) rfl) 11)); omega)).ms ((hm_224 ()) h0)
        have hXw_228 : ∀ _ : Unit, μ218.1 26 11 = 0 → Wp μ218 P r_205 30 := fun _ h0 => ((hXw_215 ()) (by have h9 : μ204.1 26 11 = μ175.1 26 11 := (F_206.1 26 (ni hprP (fun P => 26) (fun P => [P, P + 1]) rfl) 11); have h8 : μ218.1 26 11 = μ175.1 26 11 := ((F_219.1 26 (ni hprP (fun P => 26) (fun P => [P + 1]) rfl) 11).trans (F_206.1 26 (ni hprP (fun P => 26) (fun P => [P, P + 1]) rfl) 11)); omega)).ms ((hm_224 ()) h0)
        have hXw_229 : ∀ _ : Unit, μ218.1 26 11 = 0 → Wp μ218 P l9 30 := fun _ h0 => ((hXw_216 ()) (by have h9 : μ204.1 26 11 = μ175.1 26 11 := (F_206.1 26 (ni hprP (fun P => 26) (fun P => [P, P + 1]) rfl) 11); have h8 : μ218.1 26 11 = μ175.1 26 11 := ((F_219.1 26 (ni hprP (fun P => 26) (fun P => [P + 1]) rfl) 11).trans (F_206.1 26 (ni hprP (fun P => 26) (fun P => [P, P + 1]) rfl) 11)); omega)).ms ((hm_224 ()) h0)
        refine lv_iload hx hb dX7_catches_105 (lv_at hl 0 rfl) ?_
        refine lv_istore_n (lv' := [(3, .int (iv r_205)), (7, .int (iv r_205)), (6, .int (iv r_176)), (5, .int (iv r_161)), (4, .int (iv i9)), (2, .int (iv e9)), (0, .ref (oP ω 23)), (1, .int (iv x1))]) hx hb dX7_catches_107 rfl hl (by decide) rfl (fun ls hl => ?_)
        refine lv_aload_n hx hb dX7_catches_108 rfl (lv_at hl 6 rfl) ?_
        refine lv_iconst (v := iv 5) hx hb dX7_catches_109 rfl ?_
        refine lv_iload hx hb dX7_catches_110 (lv_at hl 2 rfl) ?_
        refine lv_iconst (v := iv 0) hx hb dX7_catches_112 rfl ?_
        have e_230 : μ218.1 23 2 = P := ((F_219.1 23 (ni hprP (fun P => 23) (fun P => [P + 1]) rfl) 2).trans ((F_206.1 23 (ni hprP (fun P => 23) (fun P => [P, P + 1]) rfl) 2).trans (hs_187.trans ((F_162.1 23 (by decide) 2).trans ((F_118.1 23 (by decide) 2).trans hi_79)))))
        have e_231 : μ218.1 P 1 = μ175.1 P 1 + 1 := ((F_219.1 P (ni hprP (fun P => P) (fun P => [P + 1]) rfl) 1).trans hs_210)
        have e_232 : μ218.1 P 1 = μ175.1 P 1 + 1 := ((F_219.1 P (ni hprP (fun P => P) (fun P => [P + 1]) rfl) 1).trans hs_210)
        have e_233 : μ218.1 P 1 = μ175.1 P 1 + 1 := ((F_219.1 P (ni hprP (fun P => P) (fun P => [P + 1]) rfl) 1).trans hs_210)
        refine xc_iV G (b := 23) (rest := []) (As := [.int (iv 5), .int (iv r_176), .int (iv 0)]) (c_X7_add ω l μ218 5 r_176 0 P (by unfold ir; omega) (by unfold ir; omega) (by unfold ir; omega) hI_220 (by omega) (by omega)) (wm 3 226 rfl rfl) (wm 3 228 rfl rfl) (wm 0 21 rfl rfl) rfl rfl (by decide) rfl (wm 1 12 rfl rfl) (wm 3 229 rfl rfl) (by decide) hR ⟨nfB hF (by decide), nlB hLo (by decide)⟩ (n := 3) rfl rfl (Nat.le_of_ble_eq_true rfl) hl.1 dX7_catches_113 (fun r_235 μ234 ρ d0 H locs hr_r_235 hp G => ?_)
        have hr_r_235 : -2147483648 ≤ r_235 ∧ r_235 ≤ 2147483647 := hr_r_235
        obtain ⟨F_236, hI_237, hp_238, hp_239, hs_240, hs_241⟩ := hp
        have hXR_242 : ∀ _ : Unit, μ234.1 26 11 = 0 → (Th (Th (Th (fun ν => CT μ ν P tt x1 e9 l9 (2 * (7 - μ.1 23 9))) (qA P 30 r_161 (-1) r_205)) (qS P l9 r_205)) (qA P 5 r_176 0 r_235)) μ234 := fun _ h0 => ⟨_, (hXR_225 ()) (by have h9 : μ218.1 26 11 = μ175.1 26 11 := ((F_219.1 26 (ni hprP (fun P => 26) (fun P => [P + 1]) rfl) 11).trans (F_206.1 26 (ni hprP (fun P => 26) (fun P => [P, P + 1]) rfl) 11)); have h8 : μ234.1 26 11 = μ175.1 26 11 := ((F_236.1 26 (ni hprP (fun P => 26) (fun P => [P, P + 1]) rfl) 11).trans ((F_219.1 26 (ni hprP (fun P => 26) (fun P => [P + 1]) rfl) 11).trans (F_206.1 26 (ni hprP (fun P => 26) (fun P => [P, P + 1]) rfl) 11))); omega), hp_239, hp_238⟩
        have hXH_243 : ∀ _ : Unit, μ234.1 26 11 = 0 → HC μ234 P tt 0 := fun _ h0 => (((hXH_226 ()) (by have h9 : μ218.1 26 11 = μ175.1 26 11 := ((F_219.1 26 (ni hprP (fun P => 26) (fun P => [P + 1]) rfl) 11).trans (F_206.1 26 (ni hprP (fun P => 26) (fun P => [P, P + 1]) rfl) 11)); have h8 : μ234.1 26 11 = μ175.1 26 11 := ((F_236.1 26 (ni hprP (fun P => 26) (fun P => [P, P + 1]) rfl) 11).trans ((F_219.1 26 (ni hprP (fun P => 26) (fun P => [P + 1]) rfl) 11).trans (F_206.1 26 (ni hprP (fun P => 26) (fun P => [P, P + 1]) rfl) 11))); omega)).ad hp_239 (Or.inr rfl)).c rfl
        have hXw_244 : ∀ _ : Unit, μ234.1 26 11 = 0 → Wp μ234 P x1 28 := fun _ h0 => ((hXw_227 ()) (by have h9 : μ218.1 26 11 = μ175.1 26 11 := ((F_219.1 26 (ni hprP (fun P => 26) (fun P => [P + 1]) rfl) 11).trans (F_206.1 26 (ni hprP (fun P => 26) (fun P => [P, P + 1]) rfl) 11)); have h8 : μ234.1 26 11 = μ175.1 26 11 := ((F_236.1 26 (ni hprP (fun P => 26) (fun P => [P, P + 1]) rfl) 11).trans ((F_219.1 26 (ni hprP (fun P => 26) (fun P => [P + 1]) rfl) 11).trans (F_206.1 26 (ni hprP (fun P => 26) (fun P => [P, P + 1]) rfl) 11))); omega)).ext hp_239.1
        have hXw_245 : ∀ _ : Unit, μ234.1 26 11 = 0 → Wp μ234 P r_205 30 := fun _ h0 => ((hXw_228 ()) (by have h9 : μ218.1 26 11 = μ175.1 26 11 := ((F_219.1 26 (ni hprP (fun P => 26) (fun P => [P + 1]) rfl) 11).trans (F_206.1 26 (ni hprP (fun P => 26) (fun P => [P, P + 1]) rfl) 11)); have h8 : μ234.1 26 11 = μ175.1 26 11 := ((F_236.1 26 (ni hprP (fun P => 26) (fun P => [P, P + 1]) rfl) 11).trans ((F_219.1 26 (ni hprP (fun P => 26) (fun P => [P + 1]) rfl) 11).trans (F_206.1 26 (ni hprP (fun P => 26) (fun P => [P, P + 1]) rfl) 11))); omega)).ext hp_239.1
        have hXw_246 : ∀ _ : Unit, μ234.1 26 11 = 0 → Wp μ234 P l9 30 := fun _ h0 => ((hXw_229 ()) (by have h9 : μ218.1 26 11 = μ175.1 26 11 := ((F_219.1 26 (ni hprP (fun P => 26) (fun P => [P + 1]) rfl) 11).trans (F_206.1 26 (ni hprP (fun P => 26) (fun P => [P, P + 1]) rfl) 11)); have h8 : μ234.1 26 11 = μ175.1 26 11 := ((F_236.1 26 (ni hprP (fun P => 26) (fun P => [P, P + 1]) rfl) 11).trans ((F_219.1 26 (ni hprP (fun P => 26) (fun P => [P + 1]) rfl) 11).trans (F_206.1 26 (ni hprP (fun P => 26) (fun P => [P, P + 1]) rfl) 11))); omega)).ext hp_239.1
        have hXw_247 : ∀ _ : Unit, μ234.1 26 11 = 0 → Wp μ234 P r_235 5 := fun _ h0 => Wp.of hp_239 ((hXH_226 ()) (by have h9 : μ218.1 26 11 = μ175.1 26 11 := ((F_219.1 26 (ni hprP (fun P => 26) (fun P => [P + 1]) rfl) 11).trans (F_206.1 26 (ni hprP (fun P => 26) (fun P => [P, P + 1]) rfl) 11)); have h8 : μ234.1 26 11 = μ175.1 26 11 := ((F_236.1 26 (ni hprP (fun P => 26) (fun P => [P, P + 1]) rfl) 11).trans ((F_219.1 26 (ni hprP (fun P => 26) (fun P => [P + 1]) rfl) 11).trans (F_206.1 26 (ni hprP (fun P => 26) (fun P => [P, P + 1]) rfl) 11))); omega)).1 hp_238
        refine lv_pop hx hb dX7_catches_116 rfl ?_
        refine lv_aload_n hx hb dX7_catches_117 rfl (lv_at hl 6 rfl) ?_
        have e_248 : μ234.1 23 2 = P := ((F_236.1 23 (ni hprP (fun P => 23) (fun P => [P, P + 1]) rfl) 2).trans ((F_219.1 23 (ni hprP (fun P => 23) (fun P => [P + 1]) rfl) 2).trans ((F_206.1 23 (ni hprP (fun P => 23) (fun P => [P, P + 1]) rfl) 2).trans (hs_187.trans ((F_162.1 23 (by decide) 2).trans ((F_118.1 23 (by decide) 2).trans hi_79))))))
        have e_249 : μ234.1 23 8 = tt := ((F_236.1 23 (ni hprP (fun P => 23) (fun P => [P, P + 1]) rfl) 8).trans ((F_219.1 23 (ni hprP (fun P => 23) (fun P => [P + 1]) rfl) 8).trans ((F_206.1 23 (ni hprP (fun P => 23) (fun P => [P, P + 1]) rfl) 8).trans (hs_190.trans ((F_162.1 23 (by decide) 8).trans ((F_118.1 23 (by decide) 8).trans hi_81))))))
        have htk_250 : TK μ234 := hp_179.fr (K := [P, P + 1]) (Fr.tr (Fr.tr (Fr.tr Fr.rf F_206 (si hprP (fun P => [P, P + 1]) (fun P => [P, P + 1]) rfl)) F_219 (si hprP (fun P => [P + 1]) (fun P => [P, P + 1]) rfl)) F_236 (si hprP (fun P => [P, P + 1]) (fun P => [P, P + 1]) rfl)) (ni hprP (fun P => 26) (fun P => [P, P + 1]) rfl) (ni hprP (fun P => 28) (fun P => [P, P + 1]) rfl) (ni hprP (fun P => 29) (fun P => [P, P + 1]) rfl)
        have e_251 : μ234.1 P 1 = μ218.1 P 1 + 1 := hs_240
        have e_252 : μ234.1 26 10 = μ175.1 26 10 := ((F_236.1 26 (ni hprP (fun P => 26) (fun P => [P, P + 1]) rfl) 10).trans ((F_219.1 26 (ni hprP (fun P => 26) (fun P => [P + 1]) rfl) 10).trans (F_206.1 26 (ni hprP (fun P => 26) (fun P => [P, P + 1]) rfl) 10)))
        have e_253 : μ234.1 26 11 = μ175.1 26 11 := ((F_236.1 26 (ni hprP (fun P => 26) (fun P => [P, P + 1]) rfl) 11).trans ((F_219.1 26 (ni hprP (fun P => 26) (fun P => [P + 1]) rfl) 11).trans (F_206.1 26 (ni hprP (fun P => 26) (fun P => [P, P + 1]) rfl) 11)))
        have hk_254 := hi_84.row (r := P + 2) (hprP.row)
        unfold rk at hk_254
        have e_255 : μ234.1 (P + 2) 3 = μL60.1 (P + 2) 3 := ((F_236.1 (P + 2) (ni hprP (fun P => P + 2) (fun P => [P, P + 1]) rfl) 3).trans ((F_219.1 (P + 2) (ni hprP (fun P => P + 2) (fun P => [P + 1]) rfl) 3).trans ((F_206.1 (P + 2) (ni hprP (fun P => P + 2) (fun P => [P, P + 1]) rfl) 3).trans ((F_177.1 (P + 2) (ni hprP (fun P => P + 2) (fun P => [26, 25, 23]) rfl) 3).trans ((F_162.1 (P + 2) (ni hprP (fun P => P + 2) (fun P => [26, 2, 3, 4, 24]) rfl) 3).trans (F_118.1 (P + 2) (ni hprP (fun P => P + 2) (fun P => [26]) rfl) 3))))))
        have e_256 : μ234.1 P 1 = μ218.1 P 1 + 1 := hs_240
        have e_257 : μ234.1 23 9 = μL60.1 23 9 := ((F_236.1 23 (ni hprP (fun P => 23) (fun P => [P, P + 1]) rfl) 9).trans ((F_219.1 23 (ni hprP (fun P => 23) (fun P => [P + 1]) rfl) 9).trans ((F_206.1 23 (ni hprP (fun P => 23) (fun P => [P, P + 1]) rfl) 9).trans (hs_191.trans ((F_162.1 23 (by decide) 9).trans (F_118.1 23 (by decide) 9))))))
        have e_258 : μ234.1 23 9 = μL60.1 23 9 := ((F_236.1 23 (ni hprP (fun P => 23) (fun P => [P, P + 1]) rfl) 9).trans ((F_219.1 23 (ni hprP (fun P => 23) (fun P => [P + 1]) rfl) 9).trans ((F_206.1 23 (ni hprP (fun P => 23) (fun P => [P, P + 1]) rfl) 9).trans (hs_191.trans ((F_162.1 23 (by decide) 9).trans (F_118.1 23 (by decide) 9))))))
        have e_259 : μ234.1 23 9 = μL60.1 23 9 := ((F_236.1 23 (ni hprP (fun P => 23) (fun P => [P, P + 1]) rfl) 9).trans ((F_219.1 23 (ni hprP (fun P => 23) (fun P => [P + 1]) rfl) 9).trans ((F_206.1 23 (ni hprP (fun P => 23) (fun P => [P, P + 1]) rfl) 9).trans (hs_191.trans ((F_162.1 23 (by decide) 9).trans (F_118.1 23 (by decide) 9))))))
        have e_260 : μ234.1 26 11 = μ175.1 26 11 := ((F_236.1 26 (ni hprP (fun P => 26) (fun P => [P, P + 1]) rfl) 11).trans ((F_219.1 26 (ni hprP (fun P => 26) (fun P => [P + 1]) rfl) 11).trans (F_206.1 26 (ni hprP (fun P => 26) (fun P => [P, P + 1]) rfl) 11)))
        have e_261 : μ234.1 26 10 = μ175.1 26 10 := ((F_236.1 26 (ni hprP (fun P => 26) (fun P => [P, P + 1]) rfl) 10).trans ((F_219.1 26 (ni hprP (fun P => 26) (fun P => [P + 1]) rfl) 10).trans (F_206.1 26 (ni hprP (fun P => 26) (fun P => [P, P + 1]) rfl) 10)))
        have e_262 : μ234.1 P 1 = μ218.1 P 1 + 1 := hs_240
        have e_263 : μ234.1 P 1 = μ218.1 P 1 + 1 := hs_240
        have e_264 : μ234.1 26 10 = μ175.1 26 10 := ((F_236.1 26 (ni hprP (fun P => 26) (fun P => [P, P + 1]) rfl) 10).trans ((F_219.1 26 (ni hprP (fun P => 26) (fun P => [P + 1]) rfl) 10).trans (F_206.1 26 (ni hprP (fun P => 26) (fun P => [P, P + 1]) rfl) 10)))
        have e_265 : μ234.1 26 11 = μ175.1 26 11 := ((F_236.1 26 (ni hprP (fun P => 26) (fun P => [P, P + 1]) rfl) 11).trans ((F_219.1 26 (ni hprP (fun P => 26) (fun P => [P + 1]) rfl) 11).trans (F_206.1 26 (ni hprP (fun P => 26) (fun P => [P, P + 1]) rfl) 11)))
        have e_266 : μ234.1 (P + 2) 3 = μL60.1 (P + 2) 3 := ((F_236.1 (P + 2) (ni hprP (fun P => P + 2) (fun P => [P, P + 1]) rfl) 3).trans ((F_219.1 (P + 2) (ni hprP (fun P => P + 2) (fun P => [P + 1]) rfl) 3).trans ((F_206.1 (P + 2) (ni hprP (fun P => P + 2) (fun P => [P, P + 1]) rfl) 3).trans ((F_177.1 (P + 2) (ni hprP (fun P => P + 2) (fun P => [26, 25, 23]) rfl) 3).trans ((F_162.1 (P + 2) (ni hprP (fun P => P + 2) (fun P => [26, 2, 3, 4, 24]) rfl) 3).trans (F_118.1 (P + 2) (ni hprP (fun P => P + 2) (fun P => [26]) rfl) 3))))))
        have e_267 : μ234.1 P 1 = μ218.1 P 1 + 1 := hs_240
        have e_268 : μ234.1 (P + 2) 3 = μL60.1 (P + 2) 3 := ((F_236.1 (P + 2) (ni hprP (fun P => P + 2) (fun P => [P, P + 1]) rfl) 3).trans ((F_219.1 (P + 2) (ni hprP (fun P => P + 2) (fun P => [P + 1]) rfl) 3).trans ((F_206.1 (P + 2) (ni hprP (fun P => P + 2) (fun P => [P, P + 1]) rfl) 3).trans ((F_177.1 (P + 2) (ni hprP (fun P => P + 2) (fun P => [26, 25, 23]) rfl) 3).trans ((F_162.1 (P + 2) (ni hprP (fun P => P + 2) (fun P => [26, 2, 3, 4, 24]) rfl) 3).trans (F_118.1 (P + 2) (ni hprP (fun P => P + 2) (fun P => [26]) rfl) 3))))))
        have e_269 : μ234.1 23 9 = μL60.1 23 9 := ((F_236.1 23 (ni hprP (fun P => 23) (fun P => [P, P + 1]) rfl) 9).trans ((F_219.1 23 (ni hprP (fun P => 23) (fun P => [P + 1]) rfl) 9).trans ((F_206.1 23 (ni hprP (fun P => 23) (fun P => [P, P + 1]) rfl) 9).trans (hs_191.trans ((F_162.1 23 (by decide) 9).trans (F_118.1 23 (by decide) 9))))))
        refine xc_vV G (b := 23) (rest := []) (As := []) (((fun (_ : Om) (_ : Launch) => hK)) ω l μ234 P tt hI_237 (by omega) (by omega) htk_250 (by omega) (by omega) (by omega) (by omega) (by omega) (fun _ => (hXH_243 ()))) (wm 3 218 rfl rfl) (wm 3 220 rfl rfl) (wm 0 19 rfl rfl) rfl rfl (by decide) rfl (wm 1 12 rfl rfl) (wm 3 221 rfl rfl) (by decide) hR ⟨sfr (F := F) (a := 0) (by decide), slo (L := Lo) (m := 2) (a := 0) (by decide)⟩ (n := 0) rfl rfl (Nat.le_of_ble_eq_true rfl) hl.1 dX7_catches_118 (fun μ270 ρ d0 H locs hp G => ?_)
        obtain ⟨F_271, hI_272, hp_273, hp_274, hp_275, hp_276, hp_277, hp_278, hp_279, hs_280, hs_281, hs_282, hs_283, hs_284, hs_285⟩ := hp
        have hn_286 : -1 ≤ μ270.1 26 10 ∧ μ270.1 26 10 ≤ 3000 := hI_272.nm.2.2.2.2.2.2.2.2.2.2.2.2
        have hk_287 := hI_272.pr (p := P) hprP
        unfold pk at hk_287
        have hc_288 : 16 ≤ μ270.2.1 (P + 1) ∧ μ270.2.1 (P + 1) ≤ 73024 := hI_272.rm.1 _ hprP.cap
        have hk_289 := hI_272.row (r := P + 2) (hprP.row)
        unfold rk at hk_289
        have htb_290 := hp_273.b
        replace hp_278 := fun _ : Unit => hp_278
        have hXR_291 : ∀ _ : Unit, μ270.1 26 11 = 0 → (Th (Th (Th (Th (fun ν => CT μ ν P tt x1 e9 l9 (2 * (7 - μ.1 23 9))) (qA P 30 r_161 (-1) r_205)) (qS P l9 r_205)) (qA P 5 r_176 0 r_235)) (qE P tt 0 (2 * (7 - μ.1 23 9)))) μ270 := fun _ h0 => ⟨_, (hXR_242 ()) (by have h9 : μ234.1 26 11 = μ175.1 26 11 := ((F_236.1 26 (ni hprP (fun P => 26) (fun P => [P, P + 1]) rfl) 11).trans ((F_219.1 26 (ni hprP (fun P => 26) (fun P => [P + 1]) rfl) 11).trans (F_206.1 26 (ni hprP (fun P => 26) (fun P => [P, P + 1]) rfl) 11))); have h8 : μ270.1 26 11 = μ270.1 26 11 := rfl; omega), (((hp_278 ()) h0).mn (by have h9 : μ234.1 23 9 = μL60.1 23 9 := ((F_236.1 23 (ni hprP (fun P => 23) (fun P => [P, P + 1]) rfl) 9).trans ((F_219.1 23 (ni hprP (fun P => 23) (fun P => [P + 1]) rfl) 9).trans ((F_206.1 23 (ni hprP (fun P => 23) (fun P => [P, P + 1]) rfl) 9).trans (hs_191.trans ((F_162.1 23 (by decide) 9).trans (F_118.1 23 (by decide) 9)))))); omega))⟩
        have hXH_292 : ∀ _ : Unit, μ270.1 26 11 = 0 → HC μ270 P tt 0 := fun _ h0 => HC.ex ((hXH_243 ()) (by have h9 : μ234.1 26 11 = μ175.1 26 11 := ((F_236.1 26 (ni hprP (fun P => 26) (fun P => [P, P + 1]) rfl) 11).trans ((F_219.1 26 (ni hprP (fun P => 26) (fun P => [P + 1]) rfl) 11).trans (F_206.1 26 (ni hprP (fun P => 26) (fun P => [P, P + 1]) rfl) 11))); have h8 : μ270.1 26 11 = μ270.1 26 11 := rfl; omega)) ((hp_278 ()) h0)
        have hXw_293 : ∀ _ : Unit, μ270.1 26 11 = 0 → Wp μ270 P x1 28 := fun _ h0 => ((hXw_244 ()) (by have h9 : μ234.1 26 11 = μ175.1 26 11 := ((F_236.1 26 (ni hprP (fun P => 26) (fun P => [P, P + 1]) rfl) 11).trans ((F_219.1 26 (ni hprP (fun P => 26) (fun P => [P + 1]) rfl) 11).trans (F_206.1 26 (ni hprP (fun P => 26) (fun P => [P, P + 1]) rfl) 11))); have h8 : μ270.1 26 11 = μ270.1 26 11 := rfl; omega)).ext ((hp_278 ()) h0).1
        have hXw_294 : ∀ _ : Unit, μ270.1 26 11 = 0 → Wp μ270 P r_205 30 := fun _ h0 => ((hXw_245 ()) (by have h9 : μ234.1 26 11 = μ175.1 26 11 := ((F_236.1 26 (ni hprP (fun P => 26) (fun P => [P, P + 1]) rfl) 11).trans ((F_219.1 26 (ni hprP (fun P => 26) (fun P => [P + 1]) rfl) 11).trans (F_206.1 26 (ni hprP (fun P => 26) (fun P => [P, P + 1]) rfl) 11))); have h8 : μ270.1 26 11 = μ270.1 26 11 := rfl; omega)).ext ((hp_278 ()) h0).1
        have hXw_295 : ∀ _ : Unit, μ270.1 26 11 = 0 → Wp μ270 P l9 30 := fun _ h0 => ((hXw_246 ()) (by have h9 : μ234.1 26 11 = μ175.1 26 11 := ((F_236.1 26 (ni hprP (fun P => 26) (fun P => [P, P + 1]) rfl) 11).trans ((F_219.1 26 (ni hprP (fun P => 26) (fun P => [P + 1]) rfl) 11).trans (F_206.1 26 (ni hprP (fun P => 26) (fun P => [P, P + 1]) rfl) 11))); have h8 : μ270.1 26 11 = μ270.1 26 11 := rfl; omega)).ext ((hp_278 ()) h0).1
        have hXw_296 : ∀ _ : Unit, μ270.1 26 11 = 0 → Wp μ270 P r_235 5 := fun _ h0 => ((hXw_247 ()) (by have h9 : μ234.1 26 11 = μ175.1 26 11 := ((F_236.1 26 (ni hprP (fun P => 26) (fun P => [P, P + 1]) rfl) 11).trans ((F_219.1 26 (ni hprP (fun P => 26) (fun P => [P + 1]) rfl) 11).trans (F_206.1 26 (ni hprP (fun P => 26) (fun P => [P, P + 1]) rfl) 11))); have h8 : μ270.1 26 11 = μ270.1 26 11 := rfl; omega)).ext ((hp_278 ()) h0).1
        refine lv_aload_n hx hb dX7_catches_121 rfl (lv_at hl 6 rfl) ?_
        refine lv_bipush (v := iv 19) hx hb dX7_catches_122 rfl ?_
        refine lv_iload_n hx hb dX7_catches_124 rfl (lv_at hl 5 rfl) ?_
        refine lv_iconst (v := iv 0) hx hb dX7_catches_125 rfl ?_
        have e_297 : μ270.1 23 2 = P := (hs_280.trans ((F_236.1 23 (ni hprP (fun P => 23) (fun P => [P, P + 1]) rfl) 2).trans ((F_219.1 23 (ni hprP (fun P => 23) (fun P => [P + 1]) rfl) 2).trans ((F_206.1 23 (ni hprP (fun P => 23) (fun P => [P, P + 1]) rfl) 2).trans (hs_187.trans ((F_162.1 23 (by decide) 2).trans ((F_118.1 23 (by decide) 2).trans hi_79)))))))
        refine xc_iV G (b := 23) (rest := []) (As := [.int (iv 19), .int (iv e9), .int (iv 0)]) (c_X7_add ω l μ270 19 e9 0 P (by unfold ir; omega) (by unfold ir; omega) (by unfold ir; omega) hI_272 (by omega) (by omega)) (wm 3 226 rfl rfl) (wm 3 228 rfl rfl) (wm 0 21 rfl rfl) rfl rfl (by decide) rfl (wm 1 12 rfl rfl) (wm 3 229 rfl rfl) (by decide) hR ⟨nfB hF (by decide), nlB hLo (by decide)⟩ (n := 3) rfl rfl (Nat.le_of_ble_eq_true rfl) hl.1 dX7_catches_126 (fun r_299 μ298 ρ d0 H locs hr_r_299 hp G => ?_)
        have hr_r_299 : -2147483648 ≤ r_299 ∧ r_299 ≤ 2147483647 := hr_r_299
        obtain ⟨F_300, hI_301, hp_302, hp_303, hs_304, hs_305⟩ := hp
        have hXR_306 : ∀ _ : Unit, μ298.1 26 11 = 0 → (Th (Th (Th (Th (Th (fun ν => CT μ ν P tt x1 e9 l9 (2 * (7 - μ.1 23 9))) (qA P 30 r_161 (-1) r_205)) (qS P l9 r_205)) (qA P 5 r_176 0 r_235)) (qE P tt 0 (2 * (7 - μ.1 23 9)))) (qA P 19 e9 0 r_299)) μ298 := fun _ h0 => ⟨_, (hXR_291 ()) (by have h9 : μ270.1 26 11 = μ270.1 26 11 := rfl; have h8 : μ298.1 26 11 = μ270.1 26 11 := (F_300.1 26 (ni hprP (fun P => 26) (fun P => [P, P + 1]) rfl) 11); omega), hp_303, hp_302⟩
        have hXH_307 : ∀ _ : Unit, μ298.1 26 11 = 0 → HC μ298 P tt 0 := fun _ h0 => (((hXH_292 ()) (by have h9 : μ270.1 26 11 = μ270.1 26 11 := rfl; have h8 : μ298.1 26 11 = μ270.1 26 11 := (F_300.1 26 (ni hprP (fun P => 26) (fun P => [P, P + 1]) rfl) 11); omega)).ad hp_303 (Or.inl rfl)).c rfl
        have hXw_308 : ∀ _ : Unit, μ298.1 26 11 = 0 → Wp μ298 P x1 28 := fun _ h0 => ((hXw_293 ()) (by have h9 : μ270.1 26 11 = μ270.1 26 11 := rfl; have h8 : μ298.1 26 11 = μ270.1 26 11 := (F_300.1 26 (ni hprP (fun P => 26) (fun P => [P, P + 1]) rfl) 11); omega)).ext hp_303.1
        have hXw_309 : ∀ _ : Unit, μ298.1 26 11 = 0 → Wp μ298 P r_205 30 := fun _ h0 => ((hXw_294 ()) (by have h9 : μ270.1 26 11 = μ270.1 26 11 := rfl; have h8 : μ298.1 26 11 = μ270.1 26 11 := (F_300.1 26 (ni hprP (fun P => 26) (fun P => [P, P + 1]) rfl) 11); omega)).ext hp_303.1
        have hXw_310 : ∀ _ : Unit, μ298.1 26 11 = 0 → Wp μ298 P l9 30 := fun _ h0 => ((hXw_295 ()) (by have h9 : μ270.1 26 11 = μ270.1 26 11 := rfl; have h8 : μ298.1 26 11 = μ270.1 26 11 := (F_300.1 26 (ni hprP (fun P => 26) (fun P => [P, P + 1]) rfl) 11); omega)).ext hp_303.1
        have hXw_311 : ∀ _ : Unit, μ298.1 26 11 = 0 → Wp μ298 P r_235 5 := fun _ h0 => ((hXw_296 ()) (by have h9 : μ270.1 26 11 = μ270.1 26 11 := rfl; have h8 : μ298.1 26 11 = μ270.1 26 11 := (F_300.1 26 (ni hprP (fun P => 26) (fun P => [P, P + 1]) rfl) 11); omega)).ext hp_303.1
        have hXw_312 : ∀ _ : Unit, μ298.1 26 11 = 0 → Wp μ298 P r_299 19 := fun _ h0 => Wp.of hp_303 ((hXH_292 ()) (by have h9 : μ270.1 26 11 = μ270.1 26 11 := rfl; have h8 : μ298.1 26 11 = μ270.1 26 11 := (F_300.1 26 (ni hprP (fun P => 26) (fun P => [P, P + 1]) rfl) 11); omega)).1 hp_302
        refine lv_istore_n (lv' := [(2, .int (iv r_299)), (3, .int (iv r_205)), (7, .int (iv r_205)), (6, .int (iv r_176)), (5, .int (iv r_161)), (4, .int (iv i9)), (0, .ref (oP ω 23)), (1, .int (iv x1))]) hx hb dX7_catches_129 rfl hl (by decide) rfl (fun ls hl => ?_)
        refine lv_iinc (v := iv (i9 + 1)) (lv' := [(4, .int (iv (i9 + 1))), (2, .int (iv r_299)), (3, .int (iv r_205)), (7, .int (iv r_205)), (6, .int (iv r_176)), (5, .int (iv r_161)), (0, .ref (oP ω 23)), (1, .int (iv x1))]) hx hb dX7_catches_130 hl (k := 5) rfl (by rw [show Int32.ofInt 1 = iv 1 from rfl, iv_add]) (by decide) rfl (fun ls hl => ?_)
        refine lv_goto (tgt := 37) hx hb dX7_catches_133 (by decide) ?_
        have htk_313 : TK μ298 := hp_273.fr (K := [P, P + 1]) (Fr.tr Fr.rf F_300 (si hprP (fun P => [P, P + 1]) (fun P => [P, P + 1]) rfl)) (ni hprP (fun P => 26) (fun P => [P, P + 1]) rfl) (ni hprP (fun P => 28) (fun P => [P, P + 1]) rfl) (ni hprP (fun P => 29) (fun P => [P, P + 1]) rfl)
        have e_314 : μ298.1 26 11 = μ270.1 26 11 := (F_300.1 26 (ni hprP (fun P => 26) (fun P => [P, P + 1]) rfl) 11)
        have e_315 : μ298.1 26 10 = μ270.1 26 10 := (F_300.1 26 (ni hprP (fun P => 26) (fun P => [P, P + 1]) rfl) 10)
        have e_316 : μ298.1 P 1 = μ270.1 P 1 + 1 := hs_304
        have e_317 : μ298.1 P 1 = μ270.1 P 1 + 1 := hs_304
        have e_318 : μ298.1 26 10 = μ270.1 26 10 := (F_300.1 26 (ni hprP (fun P => 26) (fun P => [P, P + 1]) rfl) 10)
        have e_319 : μ298.1 26 11 = μ270.1 26 11 := (F_300.1 26 (ni hprP (fun P => 26) (fun P => [P, P + 1]) rfl) 11)
        have e_320 : μ298.1 (P + 2) 3 = μ270.1 (P + 2) 3 := (F_300.1 (P + 2) (ni hprP (fun P => P + 2) (fun P => [P, P + 1]) rfl) 3)
        have e_321 : μ298.1 P 1 = μ270.1 P 1 + 1 := hs_304
        have e_322 : μ298.1 (P + 2) 3 = μ270.1 (P + 2) 3 := (F_300.1 (P + 2) (ni hprP (fun P => P + 2) (fun P => [P, P + 1]) rfl) 3)
        have e_323 : μ298.1 23 9 = μL60.1 23 9 := ((F_300.1 23 (ni hprP (fun P => 23) (fun P => [P, P + 1]) rfl) 9).trans (hs_283.trans ((F_236.1 23 (ni hprP (fun P => 23) (fun P => [P, P + 1]) rfl) 9).trans ((F_219.1 23 (ni hprP (fun P => 23) (fun P => [P + 1]) rfl) 9).trans ((F_206.1 23 (ni hprP (fun P => 23) (fun P => [P, P + 1]) rfl) 9).trans (hs_191.trans ((F_162.1 23 (by decide) 9).trans (F_118.1 23 (by decide) 9))))))))
        exact ih _ _ _ _ _ _ _ (by omega) ⟨r_299, r_205, i9 + 1, (Fr.tr (Fr.tr (Fr.tr (Fr.tr (Fr.tr (Fr.tr (Fr.tr (Fr.tr FL61 F_118 (si hprP (fun P => [26]) (fun P => [2, 3, 4, 23, 24, 25, 26, P, P + 1, P + 2, (P + 2) + 1, (P + 2) + 2, (P + 2) + 3]) rfl)) F_162 (si hprP (fun P => [26, 2, 3, 4, 24]) (fun P => [2, 3, 4, 23, 24, 25, 26, P, P + 1, P + 2, (P + 2) + 1, (P + 2) + 2, (P + 2) + 3]) rfl)) F_177 (si hprP (fun P => [26, 25, 23]) (fun P => [2, 3, 4, 23, 24, 25, 26, P, P + 1, P + 2, (P + 2) + 1, (P + 2) + 2, (P + 2) + 3]) rfl)) F_206 (si hprP (fun P => [P, P + 1]) (fun P => [2, 3, 4, 23, 24, 25, 26, P, P + 1, P + 2, (P + 2) + 1, (P + 2) + 2, (P + 2) + 3]) rfl)) F_219 (si hprP (fun P => [P + 1]) (fun P => [2, 3, 4, 23, 24, 25, 26, P, P + 1, P + 2, (P + 2) + 1, (P + 2) + 2, (P + 2) + 3]) rfl)) F_236 (si hprP (fun P => [P, P + 1]) (fun P => [2, 3, 4, 23, 24, 25, 26, P, P + 1, P + 2, (P + 2) + 1, (P + 2) + 2, (P + 2) + 3]) rfl)) F_271 (si hprP (fun P => [2, 3, 4, 23, 24, 25, 26, P, P + 1, P + 2, (P + 2) + 1, (P + 2) + 2, (P + 2) + 3]) (fun P => [2, 3, 4, 23, 24, 25, 26, P, P + 1, P + 2, (P + 2) + 1, (P + 2) + 2, (P + 2) + 3]) rfl)) F_300 (si hprP (fun P => [P, P + 1]) (fun P => [2, 3, 4, 23, 24, 25, 26, P, P + 1, P + 2, (P + 2) + 1, (P + 2) + 2, (P + 2) + 3]) rfl)), (by omega), (by omega), (by omega), (by omega), (by omega), (by omega), (fun _ => by omega), (fun h9 => absurd h9 (by omega)), htk_313, (by omega), (by omega), (by omega), (by omega), (by omega), (fun h0 => CT.st ht (by omega) (fun _ _ q => Or.inr ⟨by omega, q⟩) ((hXR_306 ()) h0)), (hXH_307 ()), ((F_300.1 23 (ni hprP (fun P => 23) (fun P => [P, P + 1]) rfl) 2).trans (hs_280.trans ((F_236.1 23 (ni hprP (fun P => 23) (fun P => [P, P + 1]) rfl) 2).trans ((F_219.1 23 (ni hprP (fun P => 23) (fun P => [P + 1]) rfl) 2).trans ((F_206.1 23 (ni hprP (fun P => 23) (fun P => [P, P + 1]) rfl) 2).trans (hs_187.trans ((F_162.1 23 (by decide) 2).trans ((F_118.1 23 (by decide) 2).trans hi_79)))))))), ((F_300.1 23 (ni hprP (fun P => 23) (fun P => [P, P + 1]) rfl) 7).trans (hs_281.trans ((F_236.1 23 (ni hprP (fun P => 23) (fun P => [P, P + 1]) rfl) 7).trans ((F_219.1 23 (ni hprP (fun P => 23) (fun P => [P + 1]) rfl) 7).trans ((F_206.1 23 (ni hprP (fun P => 23) (fun P => [P, P + 1]) rfl) 7).trans (hs_189.trans ((F_162.1 23 (by decide) 7).trans ((F_118.1 23 (by decide) 7).trans hi_80)))))))), ((F_300.1 23 (ni hprP (fun P => 23) (fun P => [P, P + 1]) rfl) 8).trans (hs_282.trans ((F_236.1 23 (ni hprP (fun P => 23) (fun P => [P, P + 1]) rfl) 8).trans ((F_219.1 23 (ni hprP (fun P => 23) (fun P => [P + 1]) rfl) 8).trans ((F_206.1 23 (ni hprP (fun P => 23) (fun P => [P, P + 1]) rfl) 8).trans (hs_190.trans ((F_162.1 23 (by decide) 8).trans ((F_118.1 23 (by decide) 8).trans hi_81)))))))), ((F_300.1 26 (ni hprP (fun P => 26) (fun P => [P, P + 1]) rfl) 6).trans (hs_284.trans ((F_236.1 26 (ni hprP (fun P => 26) (fun P => [P, P + 1]) rfl) 6).trans ((F_219.1 26 (ni hprP (fun P => 26) (fun P => [P + 1]) rfl) 6).trans ((F_206.1 26 (ni hprP (fun P => 26) (fun P => [P, P + 1]) rfl) 6).trans (hs_183.trans (hs_168.trans (hs_123.trans hi_82)))))))), (hs_305.trans (hs_285.trans (hs_241.trans ((F_219.1 P (ni hprP (fun P => P) (fun P => [P + 1]) rfl) 7).trans (hs_211.trans ((F_177.1 P (ni hprP (fun P => P) (fun P => [26, 25, 23]) rfl) 7).trans ((F_162.1 P (ni hprP (fun P => P) (fun P => [26, 2, 3, 4, 24]) rfl) 7).trans ((F_118.1 P (ni hprP (fun P => P) (fun P => [26]) rfl) 7).trans hi_83)))))))), hI_301, rfl, lv_sub hl [0, 2, 1, 6, 7] rfl⟩ G
      · refine lv_aload_n hx hb dX7_catches_82 rfl (lv_at hl 6 rfl) ?_
        refine xa_getr G fd_X7 (a := 23) (x := P) 2 rfl (by decide) rfl (wm 2 19 rfl rfl) ⟨rfl, rfl, rfl⟩ dX7_catches_83 rfl ((F_206.1 23 (ni hprP (fun P => 23) (fun P => [P, P + 1]) rfl) 2).trans (hs_187.trans ((F_162.1 23 (by decide) 2).trans ((F_118.1 23 (by decide) 2).trans hi_79)))) (by omega) (hprP.hq ω ρ) ?_
        refine lv_iload_n hx hb dX7_catches_86 rfl (lv_at hl 7 rfl) ?_
        refine lv_iload hx hb dX7_catches_87 (lv_at hl 0 rfl) ?_
        have e_324 : μ204.1 P 1 = μ175.1 P 1 + 1 := hs_210
        refine xc_vV G (b := P) (rest := []) (As := [.int (iv x1), .int (iv r_205)]) (c_X8_setFirst ω l μ204 P x1 r_205 (μ175.1 P 1 + 1) hprP (by unfold ir; omega) (by unfold ir; omega) hI_207 (by omega)) (wm 4 51 rfl rfl) (wm 4 52 rfl rfl) (wm 4 53 rfl rfl) hprP.ly rfl (by decide) (hprP.hq ω ρ) (wm 1 9 rfl rfl) (wm 4 54 rfl rfl) (by decide) hR ⟨nfB hF (by decide), nlB hLo (by decide)⟩ (n := 2) rfl rfl (Nat.le_of_ble_eq_true rfl) hl.1 dX7_catches_89 (fun μ325 ρ d0 H locs hp G => ?_)
        obtain ⟨F_326, hI_327, hp_328, hp_329, ha_330⟩ := hp
        have hm_331 : ∀ _ : Unit, μ325.1 26 11 = 0 → MF μ204 μ325 P x1 r_205 := by
          intro _ h0
          have hw_ := ((hXw_214 ()) (by have h9 : μ204.1 26 11 = μ175.1 26 11 := (F_206.1 26 (ni hprP (fun P => 26) (fun P => [P, P + 1]) rfl) 11); have h8 : μ325.1 26 11 = μ175.1 26 11 := ((F_326.1 26 (ni hprP (fun P => 26) (fun P => [P + 1]) rfl) 11).trans (F_206.1 26 (ni hprP (fun P => 26) (fun P => [P, P + 1]) rfl) 11)); omega)).1
          have h8 : μ204.1 P 1 = μ175.1 P 1 + 1 := hs_210
          have h9 : μ325.1 P 1 = μ175.1 P 1 + 1 := ((F_326.1 P (ni hprP (fun P => P) (fun P => [P + 1]) rfl) 1).trans hs_210)
          rcases hp_329 with ⟨q1, q2, q3⟩ | ⟨q1, q2⟩
          · exact MF.of (μ := μ204) (ν := μ325) (P := P) (by rw [h9, h8]) hw_ q3 ha_330
          · exfalso; exact q1 (by rw [← h8]; exact hw_)
        have hXR_332 : ∀ _ : Unit, μ325.1 26 11 = 0 → (Th (Th (fun ν => CT μ ν P tt x1 e9 l9 (2 * (7 - μ.1 23 9))) (qA P 30 r_161 (-1) r_205)) (qG P x1 r_205)) μ325 := fun _ h0 => ⟨_, (hXR_212 ()) (by have h9 : μ204.1 26 11 = μ175.1 26 11 := (F_206.1 26 (ni hprP (fun P => 26) (fun P => [P, P + 1]) rfl) 11); have h8 : μ325.1 26 11 = μ175.1 26 11 := ((F_326.1 26 (ni hprP (fun P => 26) (fun P => [P + 1]) rfl) 11).trans (F_206.1 26 (ni hprP (fun P => 26) (fun P => [P, P + 1]) rfl) 11)); omega), (hm_331 ()) h0⟩
        have hXH_333 : ∀ _ : Unit, μ325.1 26 11 = 0 → HC μ325 P tt 0 := fun _ h0 => ((hXH_213 ()) (by have h9 : μ204.1 26 11 = μ175.1 26 11 := (F_206.1 26 (ni hprP (fun P => 26) (fun P => [P, P + 1]) rfl) 11); have h8 : μ325.1 26 11 = μ175.1 26 11 := ((F_326.1 26 (ni hprP (fun P => 26) (fun P => [P + 1]) rfl) 11).trans (F_206.1 26 (ni hprP (fun P => 26) (fun P => [P, P + 1]) rfl) 11)); omega)).mf ((hm_331 ()) h0) ((hXw_214 ()) (by have h9 : μ204.1 26 11 = μ175.1 26 11 := (F_206.1 26 (ni hprP (fun P => 26) (fun P => [P, P + 1]) rfl) 11); have h8 : μ325.1 26 11 = μ175.1 26 11 := ((F_326.1 26 (ni hprP (fun P => 26) (fun P => [P + 1]) rfl) 11).trans (F_206.1 26 (ni hprP (fun P => 26) (fun P => [P, P + 1]) rfl) 11)); omega)) (by decide)
        have hXw_334 : ∀ _ : Unit, μ325.1 26 11 = 0 → Wp μ325 P x1 28 := fun _ h0 => ((hXw_214 ()) (by have h9 : μ204.1 26 11 = μ175.1 26 11 := (F_206.1 26 (ni hprP (fun P => 26) (fun P => [P, P + 1]) rfl) 11); have h8 : μ325.1 26 11 = μ175.1 26 11 := ((F_326.1 26 (ni hprP (fun P => 26) (fun P => [P + 1]) rfl) 11).trans (F_206.1 26 (ni hprP (fun P => 26) (fun P => [P, P + 1]) rfl) 11)); omega)).mf ((hm_331 ()) h0)
        have hXw_335 : ∀ _ : Unit, μ325.1 26 11 = 0 → Wp μ325 P r_205 30 := fun _ h0 => ((hXw_215 ()) (by have h9 : μ204.1 26 11 = μ175.1 26 11 := (F_206.1 26 (ni hprP (fun P => 26) (fun P => [P, P + 1]) rfl) 11); have h8 : μ325.1 26 11 = μ175.1 26 11 := ((F_326.1 26 (ni hprP (fun P => 26) (fun P => [P + 1]) rfl) 11).trans (F_206.1 26 (ni hprP (fun P => 26) (fun P => [P, P + 1]) rfl) 11)); omega)).mf ((hm_331 ()) h0)
        refine lv_goto (tgt := 105) hx hb dX7_catches_92 (by decide) ?_
        refine lv_iload hx hb dX7_catches_105 (lv_at hl 0 rfl) ?_
        refine lv_istore_n (lv' := [(3, .int (iv r_205)), (7, .int (iv r_205)), (6, .int (iv r_176)), (5, .int (iv r_161)), (4, .int (iv i9)), (2, .int (iv e9)), (0, .ref (oP ω 23)), (1, .int (iv x1))]) hx hb dX7_catches_107 rfl hl (by decide) rfl (fun ls hl => ?_)
        refine lv_aload_n hx hb dX7_catches_108 rfl (lv_at hl 6 rfl) ?_
        refine lv_iconst (v := iv 5) hx hb dX7_catches_109 rfl ?_
        refine lv_iload hx hb dX7_catches_110 (lv_at hl 2 rfl) ?_
        refine lv_iconst (v := iv 0) hx hb dX7_catches_112 rfl ?_
        have e_336 : μ325.1 23 2 = P := ((F_326.1 23 (ni hprP (fun P => 23) (fun P => [P + 1]) rfl) 2).trans ((F_206.1 23 (ni hprP (fun P => 23) (fun P => [P, P + 1]) rfl) 2).trans (hs_187.trans ((F_162.1 23 (by decide) 2).trans ((F_118.1 23 (by decide) 2).trans hi_79)))))
        have e_337 : μ325.1 P 1 = μ175.1 P 1 + 1 := ((F_326.1 P (ni hprP (fun P => P) (fun P => [P + 1]) rfl) 1).trans hs_210)
        have e_338 : μ325.1 P 1 = μ175.1 P 1 + 1 := ((F_326.1 P (ni hprP (fun P => P) (fun P => [P + 1]) rfl) 1).trans hs_210)
        have e_339 : μ325.1 P 1 = μ175.1 P 1 + 1 := ((F_326.1 P (ni hprP (fun P => P) (fun P => [P + 1]) rfl) 1).trans hs_210)
        refine xc_iV G (b := 23) (rest := []) (As := [.int (iv 5), .int (iv r_176), .int (iv 0)]) (c_X7_add ω l μ325 5 r_176 0 P (by unfold ir; omega) (by unfold ir; omega) (by unfold ir; omega) hI_327 (by omega) (by omega)) (wm 3 226 rfl rfl) (wm 3 228 rfl rfl) (wm 0 21 rfl rfl) rfl rfl (by decide) rfl (wm 1 12 rfl rfl) (wm 3 229 rfl rfl) (by decide) hR ⟨nfB hF (by decide), nlB hLo (by decide)⟩ (n := 3) rfl rfl (Nat.le_of_ble_eq_true rfl) hl.1 dX7_catches_113 (fun r_341 μ340 ρ d0 H locs hr_r_341 hp G => ?_)
        have hr_r_341 : -2147483648 ≤ r_341 ∧ r_341 ≤ 2147483647 := hr_r_341
        obtain ⟨F_342, hI_343, hp_344, hp_345, hs_346, hs_347⟩ := hp
        have hXR_348 : ∀ _ : Unit, μ340.1 26 11 = 0 → (Th (Th (Th (fun ν => CT μ ν P tt x1 e9 l9 (2 * (7 - μ.1 23 9))) (qA P 30 r_161 (-1) r_205)) (qG P x1 r_205)) (qA P 5 r_176 0 r_341)) μ340 := fun _ h0 => ⟨_, (hXR_332 ()) (by have h9 : μ325.1 26 11 = μ175.1 26 11 := ((F_326.1 26 (ni hprP (fun P => 26) (fun P => [P + 1]) rfl) 11).trans (F_206.1 26 (ni hprP (fun P => 26) (fun P => [P, P + 1]) rfl) 11)); have h8 : μ340.1 26 11 = μ175.1 26 11 := ((F_342.1 26 (ni hprP (fun P => 26) (fun P => [P, P + 1]) rfl) 11).trans ((F_326.1 26 (ni hprP (fun P => 26) (fun P => [P + 1]) rfl) 11).trans (F_206.1 26 (ni hprP (fun P => 26) (fun P => [P, P + 1]) rfl) 11))); omega), hp_345, hp_344⟩
        have hXH_349 : ∀ _ : Unit, μ340.1 26 11 = 0 → HC μ340 P tt 0 := fun _ h0 => (((hXH_333 ()) (by have h9 : μ325.1 26 11 = μ175.1 26 11 := ((F_326.1 26 (ni hprP (fun P => 26) (fun P => [P + 1]) rfl) 11).trans (F_206.1 26 (ni hprP (fun P => 26) (fun P => [P, P + 1]) rfl) 11)); have h8 : μ340.1 26 11 = μ175.1 26 11 := ((F_342.1 26 (ni hprP (fun P => 26) (fun P => [P, P + 1]) rfl) 11).trans ((F_326.1 26 (ni hprP (fun P => 26) (fun P => [P + 1]) rfl) 11).trans (F_206.1 26 (ni hprP (fun P => 26) (fun P => [P, P + 1]) rfl) 11))); omega)).ad hp_345 (Or.inr rfl)).c rfl
        have hXw_350 : ∀ _ : Unit, μ340.1 26 11 = 0 → Wp μ340 P x1 28 := fun _ h0 => ((hXw_334 ()) (by have h9 : μ325.1 26 11 = μ175.1 26 11 := ((F_326.1 26 (ni hprP (fun P => 26) (fun P => [P + 1]) rfl) 11).trans (F_206.1 26 (ni hprP (fun P => 26) (fun P => [P, P + 1]) rfl) 11)); have h8 : μ340.1 26 11 = μ175.1 26 11 := ((F_342.1 26 (ni hprP (fun P => 26) (fun P => [P, P + 1]) rfl) 11).trans ((F_326.1 26 (ni hprP (fun P => 26) (fun P => [P + 1]) rfl) 11).trans (F_206.1 26 (ni hprP (fun P => 26) (fun P => [P, P + 1]) rfl) 11))); omega)).ext hp_345.1
        have hXw_351 : ∀ _ : Unit, μ340.1 26 11 = 0 → Wp μ340 P r_205 30 := fun _ h0 => ((hXw_335 ()) (by have h9 : μ325.1 26 11 = μ175.1 26 11 := ((F_326.1 26 (ni hprP (fun P => 26) (fun P => [P + 1]) rfl) 11).trans (F_206.1 26 (ni hprP (fun P => 26) (fun P => [P, P + 1]) rfl) 11)); have h8 : μ340.1 26 11 = μ175.1 26 11 := ((F_342.1 26 (ni hprP (fun P => 26) (fun P => [P, P + 1]) rfl) 11).trans ((F_326.1 26 (ni hprP (fun P => 26) (fun P => [P + 1]) rfl) 11).trans (F_206.1 26 (ni hprP (fun P => 26) (fun P => [P, P + 1]) rfl) 11))); omega)).ext hp_345.1
        have hXw_352 : ∀ _ : Unit, μ340.1 26 11 = 0 → Wp μ340 P r_341 5 := fun _ h0 => Wp.of hp_345 ((hXH_333 ()) (by have h9 : μ325.1 26 11 = μ175.1 26 11 := ((F_326.1 26 (ni hprP (fun P => 26) (fun P => [P + 1]) rfl) 11).trans (F_206.1 26 (ni hprP (fun P => 26) (fun P => [P, P + 1]) rfl) 11)); have h8 : μ340.1 26 11 = μ175.1 26 11 := ((F_342.1 26 (ni hprP (fun P => 26) (fun P => [P, P + 1]) rfl) 11).trans ((F_326.1 26 (ni hprP (fun P => 26) (fun P => [P + 1]) rfl) 11).trans (F_206.1 26 (ni hprP (fun P => 26) (fun P => [P, P + 1]) rfl) 11))); omega)).1 hp_344
        refine lv_pop hx hb dX7_catches_116 rfl ?_
        refine lv_aload_n hx hb dX7_catches_117 rfl (lv_at hl 6 rfl) ?_
        have e_353 : μ340.1 23 2 = P := ((F_342.1 23 (ni hprP (fun P => 23) (fun P => [P, P + 1]) rfl) 2).trans ((F_326.1 23 (ni hprP (fun P => 23) (fun P => [P + 1]) rfl) 2).trans ((F_206.1 23 (ni hprP (fun P => 23) (fun P => [P, P + 1]) rfl) 2).trans (hs_187.trans ((F_162.1 23 (by decide) 2).trans ((F_118.1 23 (by decide) 2).trans hi_79))))))
        have e_354 : μ340.1 23 8 = tt := ((F_342.1 23 (ni hprP (fun P => 23) (fun P => [P, P + 1]) rfl) 8).trans ((F_326.1 23 (ni hprP (fun P => 23) (fun P => [P + 1]) rfl) 8).trans ((F_206.1 23 (ni hprP (fun P => 23) (fun P => [P, P + 1]) rfl) 8).trans (hs_190.trans ((F_162.1 23 (by decide) 8).trans ((F_118.1 23 (by decide) 8).trans hi_81))))))
        have htk_355 : TK μ340 := hp_179.fr (K := [P, P + 1]) (Fr.tr (Fr.tr (Fr.tr Fr.rf F_206 (si hprP (fun P => [P, P + 1]) (fun P => [P, P + 1]) rfl)) F_326 (si hprP (fun P => [P + 1]) (fun P => [P, P + 1]) rfl)) F_342 (si hprP (fun P => [P, P + 1]) (fun P => [P, P + 1]) rfl)) (ni hprP (fun P => 26) (fun P => [P, P + 1]) rfl) (ni hprP (fun P => 28) (fun P => [P, P + 1]) rfl) (ni hprP (fun P => 29) (fun P => [P, P + 1]) rfl)
        have e_356 : μ340.1 P 1 = μ325.1 P 1 + 1 := hs_346
        have e_357 : μ340.1 26 10 = μ175.1 26 10 := ((F_342.1 26 (ni hprP (fun P => 26) (fun P => [P, P + 1]) rfl) 10).trans ((F_326.1 26 (ni hprP (fun P => 26) (fun P => [P + 1]) rfl) 10).trans (F_206.1 26 (ni hprP (fun P => 26) (fun P => [P, P + 1]) rfl) 10)))
        have e_358 : μ340.1 26 11 = μ175.1 26 11 := ((F_342.1 26 (ni hprP (fun P => 26) (fun P => [P, P + 1]) rfl) 11).trans ((F_326.1 26 (ni hprP (fun P => 26) (fun P => [P + 1]) rfl) 11).trans (F_206.1 26 (ni hprP (fun P => 26) (fun P => [P, P + 1]) rfl) 11)))
        have hk_359 := hi_84.row (r := P + 2) (hprP.row)
        unfold rk at hk_359
        have e_360 : μ340.1 (P + 2) 3 = μL60.1 (P + 2) 3 := ((F_342.1 (P + 2) (ni hprP (fun P => P + 2) (fun P => [P, P + 1]) rfl) 3).trans ((F_326.1 (P + 2) (ni hprP (fun P => P + 2) (fun P => [P + 1]) rfl) 3).trans ((F_206.1 (P + 2) (ni hprP (fun P => P + 2) (fun P => [P, P + 1]) rfl) 3).trans ((F_177.1 (P + 2) (ni hprP (fun P => P + 2) (fun P => [26, 25, 23]) rfl) 3).trans ((F_162.1 (P + 2) (ni hprP (fun P => P + 2) (fun P => [26, 2, 3, 4, 24]) rfl) 3).trans (F_118.1 (P + 2) (ni hprP (fun P => P + 2) (fun P => [26]) rfl) 3))))))
        have e_361 : μ340.1 P 1 = μ325.1 P 1 + 1 := hs_346
        have e_362 : μ340.1 23 9 = μL60.1 23 9 := ((F_342.1 23 (ni hprP (fun P => 23) (fun P => [P, P + 1]) rfl) 9).trans ((F_326.1 23 (ni hprP (fun P => 23) (fun P => [P + 1]) rfl) 9).trans ((F_206.1 23 (ni hprP (fun P => 23) (fun P => [P, P + 1]) rfl) 9).trans (hs_191.trans ((F_162.1 23 (by decide) 9).trans (F_118.1 23 (by decide) 9))))))
        have e_363 : μ340.1 23 9 = μL60.1 23 9 := ((F_342.1 23 (ni hprP (fun P => 23) (fun P => [P, P + 1]) rfl) 9).trans ((F_326.1 23 (ni hprP (fun P => 23) (fun P => [P + 1]) rfl) 9).trans ((F_206.1 23 (ni hprP (fun P => 23) (fun P => [P, P + 1]) rfl) 9).trans (hs_191.trans ((F_162.1 23 (by decide) 9).trans (F_118.1 23 (by decide) 9))))))
        have e_364 : μ340.1 23 9 = μL60.1 23 9 := ((F_342.1 23 (ni hprP (fun P => 23) (fun P => [P, P + 1]) rfl) 9).trans ((F_326.1 23 (ni hprP (fun P => 23) (fun P => [P + 1]) rfl) 9).trans ((F_206.1 23 (ni hprP (fun P => 23) (fun P => [P, P + 1]) rfl) 9).trans (hs_191.trans ((F_162.1 23 (by decide) 9).trans (F_118.1 23 (by decide) 9))))))
        have e_365 : μ340.1 26 11 = μ175.1 26 11 := ((F_342.1 26 (ni hprP (fun P => 26) (fun P => [P, P + 1]) rfl) 11).trans ((F_326.1 26 (ni hprP (fun P => 26) (fun P => [P + 1]) rfl) 11).trans (F_206.1 26 (ni hprP (fun P => 26) (fun P => [P, P + 1]) rfl) 11)))
        have e_366 : μ340.1 26 10 = μ175.1 26 10 := ((F_342.1 26 (ni hprP (fun P => 26) (fun P => [P, P + 1]) rfl) 10).trans ((F_326.1 26 (ni hprP (fun P => 26) (fun P => [P + 1]) rfl) 10).trans (F_206.1 26 (ni hprP (fun P => 26) (fun P => [P, P + 1]) rfl) 10)))
        have e_367 : μ340.1 P 1 = μ325.1 P 1 + 1 := hs_346
        have e_368 : μ340.1 P 1 = μ325.1 P 1 + 1 := hs_346
        have e_369 : μ340.1 26 10 = μ175.1 26 10 := ((F_342.1 26 (ni hprP (fun P => 26) (fun P => [P, P + 1]) rfl) 10).trans ((F_326.1 26 (ni hprP (fun P => 26) (fun P => [P + 1]) rfl) 10).trans (F_206.1 26 (ni hprP (fun P => 26) (fun P => [P, P + 1]) rfl) 10)))
        have e_370 : μ340.1 26 11 = μ175.1 26 11 := ((F_342.1 26 (ni hprP (fun P => 26) (fun P => [P, P + 1]) rfl) 11).trans ((F_326.1 26 (ni hprP (fun P => 26) (fun P => [P + 1]) rfl) 11).trans (F_206.1 26 (ni hprP (fun P => 26) (fun P => [P, P + 1]) rfl) 11)))
        have e_371 : μ340.1 (P + 2) 3 = μL60.1 (P + 2) 3 := ((F_342.1 (P + 2) (ni hprP (fun P => P + 2) (fun P => [P, P + 1]) rfl) 3).trans ((F_326.1 (P + 2) (ni hprP (fun P => P + 2) (fun P => [P + 1]) rfl) 3).trans ((F_206.1 (P + 2) (ni hprP (fun P => P + 2) (fun P => [P, P + 1]) rfl) 3).trans ((F_177.1 (P + 2) (ni hprP (fun P => P + 2) (fun P => [26, 25, 23]) rfl) 3).trans ((F_162.1 (P + 2) (ni hprP (fun P => P + 2) (fun P => [26, 2, 3, 4, 24]) rfl) 3).trans (F_118.1 (P + 2) (ni hprP (fun P => P + 2) (fun P => [26]) rfl) 3))))))
        have e_372 : μ340.1 P 1 = μ325.1 P 1 + 1 := hs_346
        have e_373 : μ340.1 (P + 2) 3 = μL60.1 (P + 2) 3 := ((F_342.1 (P + 2) (ni hprP (fun P => P + 2) (fun P => [P, P + 1]) rfl) 3).trans ((F_326.1 (P + 2) (ni hprP (fun P => P + 2) (fun P => [P + 1]) rfl) 3).trans ((F_206.1 (P + 2) (ni hprP (fun P => P + 2) (fun P => [P, P + 1]) rfl) 3).trans ((F_177.1 (P + 2) (ni hprP (fun P => P + 2) (fun P => [26, 25, 23]) rfl) 3).trans ((F_162.1 (P + 2) (ni hprP (fun P => P + 2) (fun P => [26, 2, 3, 4, 24]) rfl) 3).trans (F_118.1 (P + 2) (ni hprP (fun P => P + 2) (fun P => [26]) rfl) 3))))))
        have e_374 : μ340.1 23 9 = μL60.1 23 9 := ((F_342.1 23 (ni hprP (fun P => 23) (fun P => [P, P + 1]) rfl) 9).trans ((F_326.1 23 (ni hprP (fun P => 23) (fun P => [P + 1]) rfl) 9).trans ((F_206.1 23 (ni hprP (fun P => 23) (fun P => [P, P + 1]) rfl) 9).trans (hs_191.trans ((F_162.1 23 (by decide) 9).trans (F_118.1 23 (by decide) 9))))))
        refine xc_vV G (b := 23) (rest := []) (As := []) (((fun (_ : Om) (_ : Launch) => hK)) ω l μ340 P tt hI_343 (by omega) (by omega) htk_355 (by omega) (by omega) (by omega) (by omega) (by omega) (fun _ => (hXH_349 ()))) (wm 3 218 rfl rfl) (wm 3 220 rfl rfl) (wm 0 19 rfl rfl) rfl rfl (by decide) rfl (wm 1 12 rfl rfl) (wm 3 221 rfl rfl) (by decide) hR ⟨sfr (F := F) (a := 0) (by decide), slo (L := Lo) (m := 2) (a := 0) (by decide)⟩ (n := 0) rfl rfl (Nat.le_of_ble_eq_true rfl) hl.1 dX7_catches_118 (fun μ375 ρ d0 H locs hp G => ?_)
        obtain ⟨F_376, hI_377, hp_378, hp_379, hp_380, hp_381, hp_382, hp_383, hp_384, hs_385, hs_386, hs_387, hs_388, hs_389, hs_390⟩ := hp
        have hn_391 : -1 ≤ μ375.1 26 10 ∧ μ375.1 26 10 ≤ 3000 := hI_377.nm.2.2.2.2.2.2.2.2.2.2.2.2
        have hk_392 := hI_377.pr (p := P) hprP
        unfold pk at hk_392
        have hc_393 : 16 ≤ μ375.2.1 (P + 1) ∧ μ375.2.1 (P + 1) ≤ 73024 := hI_377.rm.1 _ hprP.cap
        have hk_394 := hI_377.row (r := P + 2) (hprP.row)
        unfold rk at hk_394
        have htb_395 := hp_378.b
        replace hp_383 := fun _ : Unit => hp_383
        have hXR_396 : ∀ _ : Unit, μ375.1 26 11 = 0 → (Th (Th (Th (Th (fun ν => CT μ ν P tt x1 e9 l9 (2 * (7 - μ.1 23 9))) (qA P 30 r_161 (-1) r_205)) (qG P x1 r_205)) (qA P 5 r_176 0 r_341)) (qE P tt 0 (2 * (7 - μ.1 23 9)))) μ375 := fun _ h0 => ⟨_, (hXR_348 ()) (by have h9 : μ340.1 26 11 = μ175.1 26 11 := ((F_342.1 26 (ni hprP (fun P => 26) (fun P => [P, P + 1]) rfl) 11).trans ((F_326.1 26 (ni hprP (fun P => 26) (fun P => [P + 1]) rfl) 11).trans (F_206.1 26 (ni hprP (fun P => 26) (fun P => [P, P + 1]) rfl) 11))); have h8 : μ375.1 26 11 = μ375.1 26 11 := rfl; omega), (((hp_383 ()) h0).mn (by have h9 : μ340.1 23 9 = μL60.1 23 9 := ((F_342.1 23 (ni hprP (fun P => 23) (fun P => [P, P + 1]) rfl) 9).trans ((F_326.1 23 (ni hprP (fun P => 23) (fun P => [P + 1]) rfl) 9).trans ((F_206.1 23 (ni hprP (fun P => 23) (fun P => [P, P + 1]) rfl) 9).trans (hs_191.trans ((F_162.1 23 (by decide) 9).trans (F_118.1 23 (by decide) 9)))))); omega))⟩
        have hXH_397 : ∀ _ : Unit, μ375.1 26 11 = 0 → HC μ375 P tt 0 := fun _ h0 => HC.ex ((hXH_349 ()) (by have h9 : μ340.1 26 11 = μ175.1 26 11 := ((F_342.1 26 (ni hprP (fun P => 26) (fun P => [P, P + 1]) rfl) 11).trans ((F_326.1 26 (ni hprP (fun P => 26) (fun P => [P + 1]) rfl) 11).trans (F_206.1 26 (ni hprP (fun P => 26) (fun P => [P, P + 1]) rfl) 11))); have h8 : μ375.1 26 11 = μ375.1 26 11 := rfl; omega)) ((hp_383 ()) h0)
        have hXw_398 : ∀ _ : Unit, μ375.1 26 11 = 0 → Wp μ375 P x1 28 := fun _ h0 => ((hXw_350 ()) (by have h9 : μ340.1 26 11 = μ175.1 26 11 := ((F_342.1 26 (ni hprP (fun P => 26) (fun P => [P, P + 1]) rfl) 11).trans ((F_326.1 26 (ni hprP (fun P => 26) (fun P => [P + 1]) rfl) 11).trans (F_206.1 26 (ni hprP (fun P => 26) (fun P => [P, P + 1]) rfl) 11))); have h8 : μ375.1 26 11 = μ375.1 26 11 := rfl; omega)).ext ((hp_383 ()) h0).1
        have hXw_399 : ∀ _ : Unit, μ375.1 26 11 = 0 → Wp μ375 P r_205 30 := fun _ h0 => ((hXw_351 ()) (by have h9 : μ340.1 26 11 = μ175.1 26 11 := ((F_342.1 26 (ni hprP (fun P => 26) (fun P => [P, P + 1]) rfl) 11).trans ((F_326.1 26 (ni hprP (fun P => 26) (fun P => [P + 1]) rfl) 11).trans (F_206.1 26 (ni hprP (fun P => 26) (fun P => [P, P + 1]) rfl) 11))); have h8 : μ375.1 26 11 = μ375.1 26 11 := rfl; omega)).ext ((hp_383 ()) h0).1
        have hXw_400 : ∀ _ : Unit, μ375.1 26 11 = 0 → Wp μ375 P r_341 5 := fun _ h0 => ((hXw_352 ()) (by have h9 : μ340.1 26 11 = μ175.1 26 11 := ((F_342.1 26 (ni hprP (fun P => 26) (fun P => [P, P + 1]) rfl) 11).trans ((F_326.1 26 (ni hprP (fun P => 26) (fun P => [P + 1]) rfl) 11).trans (F_206.1 26 (ni hprP (fun P => 26) (fun P => [P, P + 1]) rfl) 11))); have h8 : μ375.1 26 11 = μ375.1 26 11 := rfl; omega)).ext ((hp_383 ()) h0).1
        refine lv_aload_n hx hb dX7_catches_121 rfl (lv_at hl 6 rfl) ?_
        refine lv_bipush (v := iv 19) hx hb dX7_catches_122 rfl ?_
        refine lv_iload_n hx hb dX7_catches_124 rfl (lv_at hl 5 rfl) ?_
        refine lv_iconst (v := iv 0) hx hb dX7_catches_125 rfl ?_
        have e_401 : μ375.1 23 2 = P := (hs_385.trans ((F_342.1 23 (ni hprP (fun P => 23) (fun P => [P, P + 1]) rfl) 2).trans ((F_326.1 23 (ni hprP (fun P => 23) (fun P => [P + 1]) rfl) 2).trans ((F_206.1 23 (ni hprP (fun P => 23) (fun P => [P, P + 1]) rfl) 2).trans (hs_187.trans ((F_162.1 23 (by decide) 2).trans ((F_118.1 23 (by decide) 2).trans hi_79)))))))
        refine xc_iV G (b := 23) (rest := []) (As := [.int (iv 19), .int (iv e9), .int (iv 0)]) (c_X7_add ω l μ375 19 e9 0 P (by unfold ir; omega) (by unfold ir; omega) (by unfold ir; omega) hI_377 (by omega) (by omega)) (wm 3 226 rfl rfl) (wm 3 228 rfl rfl) (wm 0 21 rfl rfl) rfl rfl (by decide) rfl (wm 1 12 rfl rfl) (wm 3 229 rfl rfl) (by decide) hR ⟨nfB hF (by decide), nlB hLo (by decide)⟩ (n := 3) rfl rfl (Nat.le_of_ble_eq_true rfl) hl.1 dX7_catches_126 (fun r_403 μ402 ρ d0 H locs hr_r_403 hp G => ?_)
        have hr_r_403 : -2147483648 ≤ r_403 ∧ r_403 ≤ 2147483647 := hr_r_403
        obtain ⟨F_404, hI_405, hp_406, hp_407, hs_408, hs_409⟩ := hp
        have hXR_410 : ∀ _ : Unit, μ402.1 26 11 = 0 → (Th (Th (Th (Th (Th (fun ν => CT μ ν P tt x1 e9 l9 (2 * (7 - μ.1 23 9))) (qA P 30 r_161 (-1) r_205)) (qG P x1 r_205)) (qA P 5 r_176 0 r_341)) (qE P tt 0 (2 * (7 - μ.1 23 9)))) (qA P 19 e9 0 r_403)) μ402 := fun _ h0 => ⟨_, (hXR_396 ()) (by have h9 : μ375.1 26 11 = μ375.1 26 11 := rfl; have h8 : μ402.1 26 11 = μ375.1 26 11 := (F_404.1 26 (ni hprP (fun P => 26) (fun P => [P, P + 1]) rfl) 11); omega), hp_407, hp_406⟩
        have hXH_411 : ∀ _ : Unit, μ402.1 26 11 = 0 → HC μ402 P tt 0 := fun _ h0 => (((hXH_397 ()) (by have h9 : μ375.1 26 11 = μ375.1 26 11 := rfl; have h8 : μ402.1 26 11 = μ375.1 26 11 := (F_404.1 26 (ni hprP (fun P => 26) (fun P => [P, P + 1]) rfl) 11); omega)).ad hp_407 (Or.inl rfl)).c rfl
        have hXw_412 : ∀ _ : Unit, μ402.1 26 11 = 0 → Wp μ402 P x1 28 := fun _ h0 => ((hXw_398 ()) (by have h9 : μ375.1 26 11 = μ375.1 26 11 := rfl; have h8 : μ402.1 26 11 = μ375.1 26 11 := (F_404.1 26 (ni hprP (fun P => 26) (fun P => [P, P + 1]) rfl) 11); omega)).ext hp_407.1
        have hXw_413 : ∀ _ : Unit, μ402.1 26 11 = 0 → Wp μ402 P r_205 30 := fun _ h0 => ((hXw_399 ()) (by have h9 : μ375.1 26 11 = μ375.1 26 11 := rfl; have h8 : μ402.1 26 11 = μ375.1 26 11 := (F_404.1 26 (ni hprP (fun P => 26) (fun P => [P, P + 1]) rfl) 11); omega)).ext hp_407.1
        have hXw_414 : ∀ _ : Unit, μ402.1 26 11 = 0 → Wp μ402 P r_341 5 := fun _ h0 => ((hXw_400 ()) (by have h9 : μ375.1 26 11 = μ375.1 26 11 := rfl; have h8 : μ402.1 26 11 = μ375.1 26 11 := (F_404.1 26 (ni hprP (fun P => 26) (fun P => [P, P + 1]) rfl) 11); omega)).ext hp_407.1
        have hXw_415 : ∀ _ : Unit, μ402.1 26 11 = 0 → Wp μ402 P r_403 19 := fun _ h0 => Wp.of hp_407 ((hXH_397 ()) (by have h9 : μ375.1 26 11 = μ375.1 26 11 := rfl; have h8 : μ402.1 26 11 = μ375.1 26 11 := (F_404.1 26 (ni hprP (fun P => 26) (fun P => [P, P + 1]) rfl) 11); omega)).1 hp_406
        refine lv_istore_n (lv' := [(2, .int (iv r_403)), (3, .int (iv r_205)), (7, .int (iv r_205)), (6, .int (iv r_176)), (5, .int (iv r_161)), (4, .int (iv i9)), (0, .ref (oP ω 23)), (1, .int (iv x1))]) hx hb dX7_catches_129 rfl hl (by decide) rfl (fun ls hl => ?_)
        refine lv_iinc (v := iv (i9 + 1)) (lv' := [(4, .int (iv (i9 + 1))), (2, .int (iv r_403)), (3, .int (iv r_205)), (7, .int (iv r_205)), (6, .int (iv r_176)), (5, .int (iv r_161)), (0, .ref (oP ω 23)), (1, .int (iv x1))]) hx hb dX7_catches_130 hl (k := 5) rfl (by rw [show Int32.ofInt 1 = iv 1 from rfl, iv_add]) (by decide) rfl (fun ls hl => ?_)
        refine lv_goto (tgt := 37) hx hb dX7_catches_133 (by decide) ?_
        have htk_416 : TK μ402 := hp_378.fr (K := [P, P + 1]) (Fr.tr Fr.rf F_404 (si hprP (fun P => [P, P + 1]) (fun P => [P, P + 1]) rfl)) (ni hprP (fun P => 26) (fun P => [P, P + 1]) rfl) (ni hprP (fun P => 28) (fun P => [P, P + 1]) rfl) (ni hprP (fun P => 29) (fun P => [P, P + 1]) rfl)
        have e_417 : μ402.1 26 11 = μ375.1 26 11 := (F_404.1 26 (ni hprP (fun P => 26) (fun P => [P, P + 1]) rfl) 11)
        have e_418 : μ402.1 26 10 = μ375.1 26 10 := (F_404.1 26 (ni hprP (fun P => 26) (fun P => [P, P + 1]) rfl) 10)
        have e_419 : μ402.1 P 1 = μ375.1 P 1 + 1 := hs_408
        have e_420 : μ402.1 P 1 = μ375.1 P 1 + 1 := hs_408
        have e_421 : μ402.1 26 10 = μ375.1 26 10 := (F_404.1 26 (ni hprP (fun P => 26) (fun P => [P, P + 1]) rfl) 10)
        have e_422 : μ402.1 26 11 = μ375.1 26 11 := (F_404.1 26 (ni hprP (fun P => 26) (fun P => [P, P + 1]) rfl) 11)
        have e_423 : μ402.1 (P + 2) 3 = μ375.1 (P + 2) 3 := (F_404.1 (P + 2) (ni hprP (fun P => P + 2) (fun P => [P, P + 1]) rfl) 3)
        have e_424 : μ402.1 P 1 = μ375.1 P 1 + 1 := hs_408
        have e_425 : μ402.1 (P + 2) 3 = μ375.1 (P + 2) 3 := (F_404.1 (P + 2) (ni hprP (fun P => P + 2) (fun P => [P, P + 1]) rfl) 3)
        have e_426 : μ402.1 23 9 = μL60.1 23 9 := ((F_404.1 23 (ni hprP (fun P => 23) (fun P => [P, P + 1]) rfl) 9).trans (hs_388.trans ((F_342.1 23 (ni hprP (fun P => 23) (fun P => [P, P + 1]) rfl) 9).trans ((F_326.1 23 (ni hprP (fun P => 23) (fun P => [P + 1]) rfl) 9).trans ((F_206.1 23 (ni hprP (fun P => 23) (fun P => [P, P + 1]) rfl) 9).trans (hs_191.trans ((F_162.1 23 (by decide) 9).trans (F_118.1 23 (by decide) 9))))))))
        exact ih _ _ _ _ _ _ _ (by omega) ⟨r_403, r_205, i9 + 1, (Fr.tr (Fr.tr (Fr.tr (Fr.tr (Fr.tr (Fr.tr (Fr.tr (Fr.tr FL61 F_118 (si hprP (fun P => [26]) (fun P => [2, 3, 4, 23, 24, 25, 26, P, P + 1, P + 2, (P + 2) + 1, (P + 2) + 2, (P + 2) + 3]) rfl)) F_162 (si hprP (fun P => [26, 2, 3, 4, 24]) (fun P => [2, 3, 4, 23, 24, 25, 26, P, P + 1, P + 2, (P + 2) + 1, (P + 2) + 2, (P + 2) + 3]) rfl)) F_177 (si hprP (fun P => [26, 25, 23]) (fun P => [2, 3, 4, 23, 24, 25, 26, P, P + 1, P + 2, (P + 2) + 1, (P + 2) + 2, (P + 2) + 3]) rfl)) F_206 (si hprP (fun P => [P, P + 1]) (fun P => [2, 3, 4, 23, 24, 25, 26, P, P + 1, P + 2, (P + 2) + 1, (P + 2) + 2, (P + 2) + 3]) rfl)) F_326 (si hprP (fun P => [P + 1]) (fun P => [2, 3, 4, 23, 24, 25, 26, P, P + 1, P + 2, (P + 2) + 1, (P + 2) + 2, (P + 2) + 3]) rfl)) F_342 (si hprP (fun P => [P, P + 1]) (fun P => [2, 3, 4, 23, 24, 25, 26, P, P + 1, P + 2, (P + 2) + 1, (P + 2) + 2, (P + 2) + 3]) rfl)) F_376 (si hprP (fun P => [2, 3, 4, 23, 24, 25, 26, P, P + 1, P + 2, (P + 2) + 1, (P + 2) + 2, (P + 2) + 3]) (fun P => [2, 3, 4, 23, 24, 25, 26, P, P + 1, P + 2, (P + 2) + 1, (P + 2) + 2, (P + 2) + 3]) rfl)) F_404 (si hprP (fun P => [P, P + 1]) (fun P => [2, 3, 4, 23, 24, 25, 26, P, P + 1, P + 2, (P + 2) + 1, (P + 2) + 2, (P + 2) + 3]) rfl)), (by omega), (by omega), (by omega), (by omega), (by omega), (by omega), (fun _ => by omega), (fun h9 => absurd h9 (by omega)), htk_416, (by omega), (by omega), (by omega), (by omega), (by omega), (fun h0 => CT.st ht (by omega) (fun _ _ q => Or.inl ⟨by omega, q⟩) ((hXR_410 ()) h0)), (hXH_411 ()), ((F_404.1 23 (ni hprP (fun P => 23) (fun P => [P, P + 1]) rfl) 2).trans (hs_385.trans ((F_342.1 23 (ni hprP (fun P => 23) (fun P => [P, P + 1]) rfl) 2).trans ((F_326.1 23 (ni hprP (fun P => 23) (fun P => [P + 1]) rfl) 2).trans ((F_206.1 23 (ni hprP (fun P => 23) (fun P => [P, P + 1]) rfl) 2).trans (hs_187.trans ((F_162.1 23 (by decide) 2).trans ((F_118.1 23 (by decide) 2).trans hi_79)))))))), ((F_404.1 23 (ni hprP (fun P => 23) (fun P => [P, P + 1]) rfl) 7).trans (hs_386.trans ((F_342.1 23 (ni hprP (fun P => 23) (fun P => [P, P + 1]) rfl) 7).trans ((F_326.1 23 (ni hprP (fun P => 23) (fun P => [P + 1]) rfl) 7).trans ((F_206.1 23 (ni hprP (fun P => 23) (fun P => [P, P + 1]) rfl) 7).trans (hs_189.trans ((F_162.1 23 (by decide) 7).trans ((F_118.1 23 (by decide) 7).trans hi_80)))))))), ((F_404.1 23 (ni hprP (fun P => 23) (fun P => [P, P + 1]) rfl) 8).trans (hs_387.trans ((F_342.1 23 (ni hprP (fun P => 23) (fun P => [P, P + 1]) rfl) 8).trans ((F_326.1 23 (ni hprP (fun P => 23) (fun P => [P + 1]) rfl) 8).trans ((F_206.1 23 (ni hprP (fun P => 23) (fun P => [P, P + 1]) rfl) 8).trans (hs_190.trans ((F_162.1 23 (by decide) 8).trans ((F_118.1 23 (by decide) 8).trans hi_81)))))))), ((F_404.1 26 (ni hprP (fun P => 26) (fun P => [P, P + 1]) rfl) 6).trans (hs_389.trans ((F_342.1 26 (ni hprP (fun P => 26) (fun P => [P, P + 1]) rfl) 6).trans ((F_326.1 26 (ni hprP (fun P => 26) (fun P => [P + 1]) rfl) 6).trans ((F_206.1 26 (ni hprP (fun P => 26) (fun P => [P, P + 1]) rfl) 6).trans (hs_183.trans (hs_168.trans (hs_123.trans hi_82)))))))), (hs_409.trans (hs_390.trans (hs_347.trans ((F_326.1 P (ni hprP (fun P => P) (fun P => [P + 1]) rfl) 7).trans (hs_211.trans ((F_177.1 P (ni hprP (fun P => P) (fun P => [26, 25, 23]) rfl) 7).trans ((F_162.1 P (ni hprP (fun P => P) (fun P => [26, 2, 3, 4, 24]) rfl) 7).trans ((F_118.1 P (ni hprP (fun P => P) (fun P => [26]) rfl) 7).trans hi_83)))))))), hI_405, rfl, lv_sub hl [0, 2, 1, 6, 7] rfl⟩ G

set_option maxHeartbeats 4000000 in
set_option maxRecDepth 100000 in
theorem c_X7_tryCatch (ω : Om) (l : Launch) (μ : M3) (F : Nat) (Lo : Nat) (kf : Int) (P : Int) (tt : Int) (hI : IC μ) (hP : P = μ.1 23 2) (htt : tt = μ.1 23 8) (hF : 200 ≤ F) (hLo : 6000 ≤ Lo) (hK : ∀ (μ : M3) (P : Int) (tt : Int) (hI : IC μ) (hP : P = μ.1 23 2) (htt : tt = μ.1 23 8) (hTK : TK μ) (hB : 2 * μ.1 P 1 ≤ 5 * μ.1 26 10 + 103 + 80 * μ.1 26 11) (hKc : μ.1 (P + 2) 3 ≤ μ.1 P 1) (ht3 : 0 ≤ tt ∧ tt ≤ 3) (hdp : 0 ≤ μ.1 23 9 ∧ μ.1 23 9 ≤ 8) (hfu : 0 ≤ (kf - 1) ∧ 9 ≤ μ.1 23 9 + (kf - 1)) (hs1 : ∀ _ : Unit, μ.1 26 11 = 0 → HC μ P tt 0), CtV ω l yX7_block cX7_block 2 (F + 0) (Lo + 0) [.ref (oP ω 23)] μ (fun (μ' : M3) => (Fr [2, 3, 4, 23, 24, 25, 26, P, P + 1, P + 2, (P + 2) + 1, (P + 2) + 2, (P + 2) + 3] μ μ') ∧ (IC μ') ∧ (TK μ') ∧ (μ.1 26 11 ≤ μ'.1 26 11) ∧ (μ.1 26 10 ≤ μ'.1 26 10) ∧ (μ.1 P 1 ≤ μ'.1 P 1 ∧ 2 * μ'.1 P 1 ≤ 2 * μ.1 P 1 + 5 * (μ'.1 26 10 - μ.1 26 10) + (- 10 + 15 * μ'.1 26 11 - 5 * μ.1 26 11)) ∧ (μ'.1 (P + 2) 3 - μ.1 (P + 2) 3 ≤ μ'.1 P 1 - μ.1 P 1 ∧ μ.1 (P + 2) 3 ≤ μ'.1 (P + 2) 3) ∧ (μ'.1 26 11 = 0 → EX μ μ' P tt 0 (2 * (7 - μ.1 23 9))) ∧ (μ.1 23 9 ≤ 7 + 100 * μ'.1 26 11) ∧ (μ'.1 23 2 = μ.1 23 2) ∧ (μ'.1 23 7 = μ.1 23 7) ∧ (μ'.1 23 8 = μ.1 23 8) ∧ (μ'.1 23 9 = μ.1 23 9) ∧ (μ'.1 26 6 = μ.1 26 6) ∧ (μ'.1 P 7 = μ.1 P 7))) (hTK : TK μ) (hB : 2 * μ.1 P 1 ≤ 5 * μ.1 26 10 + 95 + 80 * μ.1 26 11) (hKc : μ.1 (P + 2) 3 ≤ μ.1 P 1) (ht3 : 0 ≤ tt ∧ tt ≤ 3) (hdp : 0 ≤ μ.1 23 9 ∧ μ.1 23 9 ≤ 8) (hs0 : μ.1 26 11 = 0) (hfu : 10 ≤ μ.1 23 9 + kf) (hst : ∀ _ : Unit, STP μ P tt) (ht : tt = 0) : CtV ω l yX7_tryCatch cX7_tryCatch 3 (F + 2) (Lo + 48) [.ref (oP ω 23)] μ (fun (μ' : M3) => (Fr [2, 3, 4, 23, 24, 25, 26, P, P + 1, P + 2, (P + 2) + 1, (P + 2) + 2, (P + 2) + 3] μ μ') ∧ (IC μ') ∧ (TK μ') ∧ (μ.1 26 11 ≤ μ'.1 26 11) ∧ (μ.1 26 10 ≤ μ'.1 26 10) ∧ (μ.1 P 1 ≤ μ'.1 P 1 ∧ 2 * μ'.1 P 1 ≤ 2 * μ.1 P 1 + 5 * (μ'.1 26 10 - μ.1 26 10) + (- 17 + 26 * μ'.1 26 11)) ∧ (μ'.1 (P + 2) 3 - μ.1 (P + 2) 3 ≤ μ'.1 P 1 - μ.1 P 1 ∧ μ.1 (P + 2) 3 ≤ μ'.1 (P + 2) 3) ∧ (μ'.1 26 11 = 0 → ES μ μ' P tt ((2 * (7 - μ.1 23 9)) + 1 + 1)) ∧ (μ'.1 23 2 = μ.1 23 2) ∧ (μ'.1 23 7 = μ.1 23 7) ∧ (μ'.1 23 8 = μ.1 23 8) ∧ (μ'.1 23 9 = μ.1 23 9) ∧ (μ'.1 26 6 = μ.1 26 6) ∧ (μ'.1 P 7 = μ.1 P 7)) := by
  refine CtV.go (by decide) (Nat.le_of_ble_eq_true rfl) (fun ρ p e s m below meth c R ls G hR hret hlk hl => ?_)
  have hx := G.1.1
  have hb := G.1.2.1
  have hl : lv_has ls 3 [(0, .ref (oP ω 23))] := hl
  generalize s.drawn = d0 at G ⊢
  have hTKb := hTK.b
  have hprP : isPr P := by have h9 := G.sr0.2.2.2.2.2; rw [← hP] at h9; exact h9
  have hprP_d : 13 ≤ P ∧ P ≤ 101 := by rcases hprP with h9 | h9 | h9 | h9 | h9 <;> omega
  have hk_1 := hI.pr (p := P) hprP
  unfold pk at hk_1
  have hc_2 : 16 ≤ μ.2.1 (P + 1) ∧ μ.2.1 (P + 1) ≤ 73024 := hI.rm.1 _ hprP.cap
  have hX0_ : ∀ _ : Unit, μ.1 26 11 = 0 → q0 μ P μ := fun _ _ => ⟨EXT.rf, rfl⟩
  have hXH_ : ∀ _ : Unit, μ.1 26 11 = 0 → HC μ P tt 2 := fun _ _ => (HC.of (hst ())).c (by rw [if_pos ht])
  refine lv_aload_n hx hb dX7_tryCatch_0 rfl (lv_at hl 0 rfl) ?_
  refine lv_iconst (v := iv 0) hx hb dX7_tryCatch_1 rfl ?_
  refine lv_iconst (v := iv 0) hx hb dX7_tryCatch_2 rfl ?_
  refine lv_iconst (v := iv 0) hx hb dX7_tryCatch_3 rfl ?_
  have e_3 : μ.1 23 2 = P := hP.symm
  refine xc_iV G (b := 23) (rest := []) (As := [.int (iv 0), .int (iv 0), .int (iv 0)]) (c_X7_add ω l μ 0 0 0 P (by unfold ir; omega) (by unfold ir; omega) (by unfold ir; omega) hI (by omega) (by omega)) (wm 3 226 rfl rfl) (wm 3 228 rfl rfl) (wm 0 21 rfl rfl) rfl rfl (by decide) rfl (wm 1 12 rfl rfl) (wm 3 229 rfl rfl) (by decide) hR ⟨nfB hF (by decide), nlB hLo (by decide)⟩ (n := 3) rfl rfl (Nat.le_of_ble_eq_true rfl) hl.1 dX7_tryCatch_4 (fun r_5 μ4 ρ d0 H locs hr_r_5 hp G => ?_)
  have hr_r_5 : -2147483648 ≤ r_5 ∧ r_5 ≤ 2147483647 := hr_r_5
  obtain ⟨F_6, hI_7, hp_8, hp_9, hs_10, hs_11⟩ := hp
  have hXR_12 : ∀ _ : Unit, μ4.1 26 11 = 0 → (Th (q0 μ P) (qA P 0 0 0 r_5)) μ4 := fun _ h0 => ⟨_, (hX0_ ()) (by have h9 : μ.1 26 11 = μ.1 26 11 := rfl; have h8 : μ4.1 26 11 = μ.1 26 11 := (F_6.1 26 (ni hprP (fun P => 26) (fun P => [P, P + 1]) rfl) 11); omega), hp_9, hp_8⟩
  have hXH_13 : ∀ _ : Unit, μ4.1 26 11 = 0 → HC μ4 P tt 1 := fun _ h0 => (((hXH_ ()) (by have h9 : μ.1 26 11 = μ.1 26 11 := rfl; have h8 : μ4.1 26 11 = μ.1 26 11 := (F_6.1 26 (ni hprP (fun P => 26) (fun P => [P, P + 1]) rfl) 11); omega)).ad hp_9 (Or.inl rfl)).c rfl
  have hXw_14 : ∀ _ : Unit, μ4.1 26 11 = 0 → Wp μ4 P r_5 0 := fun _ h0 => Wp.of hp_9 ((hXH_ ()) (by have h9 : μ.1 26 11 = μ.1 26 11 := rfl; have h8 : μ4.1 26 11 = μ.1 26 11 := (F_6.1 26 (ni hprP (fun P => 26) (fun P => [P, P + 1]) rfl) 11); omega)).1 hp_8
  refine lv_istore_n (lv' := [(1, .int (iv r_5)), (0, .ref (oP ω 23))]) hx hb dX7_tryCatch_7 rfl hl (by decide) rfl (fun ls hl => ?_)
  refine lv_aload_n hx hb dX7_tryCatch_8 rfl (lv_at hl 1 rfl) ?_
  refine lv_iconst (v := iv 0) hx hb dX7_tryCatch_9 rfl ?_
  refine lv_iconst (v := iv 0) hx hb dX7_tryCatch_10 rfl ?_
  refine lv_iconst (v := iv 0) hx hb dX7_tryCatch_11 rfl ?_
  have e_15 : μ4.1 23 2 = P := ((F_6.1 23 (ni hprP (fun P => 23) (fun P => [P, P + 1]) rfl) 2).trans hP.symm)
  have e_16 : μ4.1 P 1 = μ.1 P 1 + 1 := hs_10
  have e_17 : μ4.1 P 1 = μ.1 P 1 + 1 := hs_10
  have e_18 : μ4.1 P 1 = μ.1 P 1 + 1 := hs_10
  refine xc_iV G (b := 23) (rest := []) (As := [.int (iv 0), .int (iv 0), .int (iv 0)]) (c_X7_add ω l μ4 0 0 0 P (by unfold ir; omega) (by unfold ir; omega) (by unfold ir; omega) hI_7 (by omega) (by omega)) (wm 3 226 rfl rfl) (wm 3 228 rfl rfl) (wm 0 21 rfl rfl) rfl rfl (by decide) rfl (wm 1 12 rfl rfl) (wm 3 229 rfl rfl) (by decide) hR ⟨nfB hF (by decide), nlB hLo (by decide)⟩ (n := 3) rfl rfl (Nat.le_of_ble_eq_true rfl) hl.1 dX7_tryCatch_12 (fun r_20 μ19 ρ d0 H locs hr_r_20 hp G => ?_)
  have hr_r_20 : -2147483648 ≤ r_20 ∧ r_20 ≤ 2147483647 := hr_r_20
  obtain ⟨F_21, hI_22, hp_23, hp_24, hs_25, hs_26⟩ := hp
  have hXR_27 : ∀ _ : Unit, μ19.1 26 11 = 0 → (Th (Th (q0 μ P) (qA P 0 0 0 r_5)) (qA P 0 0 0 r_20)) μ19 := fun _ h0 => ⟨_, (hXR_12 ()) (by have h9 : μ4.1 26 11 = μ.1 26 11 := (F_6.1 26 (ni hprP (fun P => 26) (fun P => [P, P + 1]) rfl) 11); have h8 : μ19.1 26 11 = μ.1 26 11 := ((F_21.1 26 (ni hprP (fun P => 26) (fun P => [P, P + 1]) rfl) 11).trans (F_6.1 26 (ni hprP (fun P => 26) (fun P => [P, P + 1]) rfl) 11)); omega), hp_24, hp_23⟩
  have hXH_28 : ∀ _ : Unit, μ19.1 26 11 = 0 → HC μ19 P tt 0 := fun _ h0 => (((hXH_13 ()) (by have h9 : μ4.1 26 11 = μ.1 26 11 := (F_6.1 26 (ni hprP (fun P => 26) (fun P => [P, P + 1]) rfl) 11); have h8 : μ19.1 26 11 = μ.1 26 11 := ((F_21.1 26 (ni hprP (fun P => 26) (fun P => [P, P + 1]) rfl) 11).trans (F_6.1 26 (ni hprP (fun P => 26) (fun P => [P, P + 1]) rfl) 11)); omega)).ad hp_24 (Or.inl rfl)).c rfl
  have hXw_29 : ∀ _ : Unit, μ19.1 26 11 = 0 → Wp μ19 P r_5 0 := fun _ h0 => ((hXw_14 ()) (by have h9 : μ4.1 26 11 = μ.1 26 11 := (F_6.1 26 (ni hprP (fun P => 26) (fun P => [P, P + 1]) rfl) 11); have h8 : μ19.1 26 11 = μ.1 26 11 := ((F_21.1 26 (ni hprP (fun P => 26) (fun P => [P, P + 1]) rfl) 11).trans (F_6.1 26 (ni hprP (fun P => 26) (fun P => [P, P + 1]) rfl) 11)); omega)).ext hp_24.1
  have hXw_30 : ∀ _ : Unit, μ19.1 26 11 = 0 → Wp μ19 P r_20 0 := fun _ h0 => Wp.of hp_24 ((hXH_13 ()) (by have h9 : μ4.1 26 11 = μ.1 26 11 := (F_6.1 26 (ni hprP (fun P => 26) (fun P => [P, P + 1]) rfl) 11); have h8 : μ19.1 26 11 = μ.1 26 11 := ((F_21.1 26 (ni hprP (fun P => 26) (fun P => [P, P + 1]) rfl) 11).trans (F_6.1 26 (ni hprP (fun P => 26) (fun P => [P, P + 1]) rfl) 11)); omega)).1 hp_23
  refine lv_istore_n (lv' := [(2, .int (iv r_20)), (1, .int (iv r_5)), (0, .ref (oP ω 23))]) hx hb dX7_tryCatch_15 rfl hl (by decide) rfl (fun ls hl => ?_)
  refine lv_aload_n hx hb dX7_tryCatch_16 rfl (lv_at hl 2 rfl) ?_
  have e_31 : μ19.1 23 2 = P := ((F_21.1 23 (ni hprP (fun P => 23) (fun P => [P, P + 1]) rfl) 2).trans ((F_6.1 23 (ni hprP (fun P => 23) (fun P => [P, P + 1]) rfl) 2).trans hP.symm))
  have e_32 : μ19.1 23 8 = tt := ((F_21.1 23 (ni hprP (fun P => 23) (fun P => [P, P + 1]) rfl) 8).trans ((F_6.1 23 (ni hprP (fun P => 23) (fun P => [P, P + 1]) rfl) 8).trans htt.symm))
  have htk_33 : TK μ19 := hTK.fr (K := [P, P + 1]) (Fr.tr (Fr.tr Fr.rf F_6 (si hprP (fun P => [P, P + 1]) (fun P => [P, P + 1]) rfl)) F_21 (si hprP (fun P => [P, P + 1]) (fun P => [P, P + 1]) rfl)) (ni hprP (fun P => 26) (fun P => [P, P + 1]) rfl) (ni hprP (fun P => 28) (fun P => [P, P + 1]) rfl) (ni hprP (fun P => 29) (fun P => [P, P + 1]) rfl)
  have e_34 : μ19.1 P 1 = μ4.1 P 1 + 1 := hs_25
  have hn_35 : -1 ≤ μ.1 26 10 ∧ μ.1 26 10 ≤ 3000 := hI.nm.2.2.2.2.2.2.2.2.2.2.2.2
  have e_36 : μ19.1 26 10 = μ.1 26 10 := ((F_21.1 26 (ni hprP (fun P => 26) (fun P => [P, P + 1]) rfl) 10).trans (F_6.1 26 (ni hprP (fun P => 26) (fun P => [P, P + 1]) rfl) 10))
  have e_37 : μ19.1 26 11 = μ.1 26 11 := ((F_21.1 26 (ni hprP (fun P => 26) (fun P => [P, P + 1]) rfl) 11).trans (F_6.1 26 (ni hprP (fun P => 26) (fun P => [P, P + 1]) rfl) 11))
  have hk_38 := hI.row (r := P + 2) (hprP.row)
  unfold rk at hk_38
  have e_39 : μ19.1 (P + 2) 3 = μ.1 (P + 2) 3 := ((F_21.1 (P + 2) (ni hprP (fun P => P + 2) (fun P => [P, P + 1]) rfl) 3).trans (F_6.1 (P + 2) (ni hprP (fun P => P + 2) (fun P => [P, P + 1]) rfl) 3))
  have e_40 : μ19.1 P 1 = μ4.1 P 1 + 1 := hs_25
  have e_41 : μ19.1 23 9 = μ.1 23 9 := ((F_21.1 23 (ni hprP (fun P => 23) (fun P => [P, P + 1]) rfl) 9).trans (F_6.1 23 (ni hprP (fun P => 23) (fun P => [P, P + 1]) rfl) 9))
  have e_42 : μ19.1 23 9 = μ.1 23 9 := ((F_21.1 23 (ni hprP (fun P => 23) (fun P => [P, P + 1]) rfl) 9).trans (F_6.1 23 (ni hprP (fun P => 23) (fun P => [P, P + 1]) rfl) 9))
  have e_43 : μ19.1 23 9 = μ.1 23 9 := ((F_21.1 23 (ni hprP (fun P => 23) (fun P => [P, P + 1]) rfl) 9).trans (F_6.1 23 (ni hprP (fun P => 23) (fun P => [P, P + 1]) rfl) 9))
  have e_44 : μ19.1 26 11 = μ.1 26 11 := ((F_21.1 26 (ni hprP (fun P => 26) (fun P => [P, P + 1]) rfl) 11).trans (F_6.1 26 (ni hprP (fun P => 26) (fun P => [P, P + 1]) rfl) 11))
  have e_45 : μ19.1 26 10 = μ.1 26 10 := ((F_21.1 26 (ni hprP (fun P => 26) (fun P => [P, P + 1]) rfl) 10).trans (F_6.1 26 (ni hprP (fun P => 26) (fun P => [P, P + 1]) rfl) 10))
  have e_46 : μ19.1 P 1 = μ4.1 P 1 + 1 := hs_25
  have e_47 : μ19.1 P 1 = μ4.1 P 1 + 1 := hs_25
  have e_48 : μ19.1 26 10 = μ.1 26 10 := ((F_21.1 26 (ni hprP (fun P => 26) (fun P => [P, P + 1]) rfl) 10).trans (F_6.1 26 (ni hprP (fun P => 26) (fun P => [P, P + 1]) rfl) 10))
  have e_49 : μ19.1 26 11 = μ.1 26 11 := ((F_21.1 26 (ni hprP (fun P => 26) (fun P => [P, P + 1]) rfl) 11).trans (F_6.1 26 (ni hprP (fun P => 26) (fun P => [P, P + 1]) rfl) 11))
  have e_50 : μ19.1 (P + 2) 3 = μ.1 (P + 2) 3 := ((F_21.1 (P + 2) (ni hprP (fun P => P + 2) (fun P => [P, P + 1]) rfl) 3).trans (F_6.1 (P + 2) (ni hprP (fun P => P + 2) (fun P => [P, P + 1]) rfl) 3))
  have e_51 : μ19.1 P 1 = μ4.1 P 1 + 1 := hs_25
  have e_52 : μ19.1 (P + 2) 3 = μ.1 (P + 2) 3 := ((F_21.1 (P + 2) (ni hprP (fun P => P + 2) (fun P => [P, P + 1]) rfl) 3).trans (F_6.1 (P + 2) (ni hprP (fun P => P + 2) (fun P => [P, P + 1]) rfl) 3))
  have e_53 : μ19.1 23 9 = μ.1 23 9 := ((F_21.1 23 (ni hprP (fun P => 23) (fun P => [P, P + 1]) rfl) 9).trans (F_6.1 23 (ni hprP (fun P => 23) (fun P => [P, P + 1]) rfl) 9))
  refine xc_vV G (b := 23) (rest := []) (As := []) (((fun (_ : Om) (_ : Launch) => hK)) ω l μ19 P tt hI_22 (by omega) (by omega) htk_33 (by omega) (by omega) (by omega) (by omega) (by omega) (fun _ => (hXH_28 ()))) (wm 3 218 rfl rfl) (wm 3 220 rfl rfl) (wm 0 19 rfl rfl) rfl rfl (by decide) rfl (wm 1 12 rfl rfl) (wm 3 221 rfl rfl) (by decide) hR ⟨sfr (F := F) (a := 0) (by decide), slo (L := Lo) (m := 2) (a := 0) (by decide)⟩ (n := 0) rfl rfl (Nat.le_of_ble_eq_true rfl) hl.1 dX7_tryCatch_17 (fun μ54 ρ d0 H locs hp G => ?_)
  obtain ⟨F_55, hI_56, hp_57, hp_58, hp_59, hp_60, hp_61, hp_62, hp_63, hs_64, hs_65, hs_66, hs_67, hs_68, hs_69⟩ := hp
  have hn_70 : -1 ≤ μ54.1 26 10 ∧ μ54.1 26 10 ≤ 3000 := hI_56.nm.2.2.2.2.2.2.2.2.2.2.2.2
  have hk_71 := hI_56.pr (p := P) hprP
  unfold pk at hk_71
  have hc_72 : 16 ≤ μ54.2.1 (P + 1) ∧ μ54.2.1 (P + 1) ≤ 73024 := hI_56.rm.1 _ hprP.cap
  have hk_73 := hI_56.row (r := P + 2) (hprP.row)
  unfold rk at hk_73
  have htb_74 := hp_57.b
  replace hp_62 := fun _ : Unit => hp_62
  have hXR_75 : ∀ _ : Unit, μ54.1 26 11 = 0 → (Th (Th (Th (q0 μ P) (qA P 0 0 0 r_5)) (qA P 0 0 0 r_20)) (qE P tt 0 (2 * (7 - μ.1 23 9)))) μ54 := fun _ h0 => ⟨_, (hXR_27 ()) (by have h9 : μ19.1 26 11 = μ.1 26 11 := ((F_21.1 26 (ni hprP (fun P => 26) (fun P => [P, P + 1]) rfl) 11).trans (F_6.1 26 (ni hprP (fun P => 26) (fun P => [P, P + 1]) rfl) 11)); have h8 : μ54.1 26 11 = μ54.1 26 11 := rfl; omega), (((hp_62 ()) h0).mn (by have h9 : μ19.1 23 9 = μ.1 23 9 := ((F_21.1 23 (ni hprP (fun P => 23) (fun P => [P, P + 1]) rfl) 9).trans (F_6.1 23 (ni hprP (fun P => 23) (fun P => [P, P + 1]) rfl) 9)); omega))⟩
  have hXH_76 : ∀ _ : Unit, μ54.1 26 11 = 0 → HC μ54 P tt 0 := fun _ h0 => HC.ex ((hXH_28 ()) (by have h9 : μ19.1 26 11 = μ.1 26 11 := ((F_21.1 26 (ni hprP (fun P => 26) (fun P => [P, P + 1]) rfl) 11).trans (F_6.1 26 (ni hprP (fun P => 26) (fun P => [P, P + 1]) rfl) 11)); have h8 : μ54.1 26 11 = μ54.1 26 11 := rfl; omega)) ((hp_62 ()) h0)
  have hXw_77 : ∀ _ : Unit, μ54.1 26 11 = 0 → Wp μ54 P r_5 0 := fun _ h0 => ((hXw_29 ()) (by have h9 : μ19.1 26 11 = μ.1 26 11 := ((F_21.1 26 (ni hprP (fun P => 26) (fun P => [P, P + 1]) rfl) 11).trans (F_6.1 26 (ni hprP (fun P => 26) (fun P => [P, P + 1]) rfl) 11)); have h8 : μ54.1 26 11 = μ54.1 26 11 := rfl; omega)).ext ((hp_62 ()) h0).1
  have hXw_78 : ∀ _ : Unit, μ54.1 26 11 = 0 → Wp μ54 P r_20 0 := fun _ h0 => ((hXw_30 ()) (by have h9 : μ19.1 26 11 = μ.1 26 11 := ((F_21.1 26 (ni hprP (fun P => 26) (fun P => [P, P + 1]) rfl) 11).trans (F_6.1 26 (ni hprP (fun P => 26) (fun P => [P, P + 1]) rfl) 11)); have h8 : μ54.1 26 11 = μ54.1 26 11 := rfl; omega)).ext ((hp_62 ()) h0).1
  have hXT_79 : ∀ _ : Unit, μ54.1 26 11 = 0 → TR μ μ54 P tt r_5 r_20 (2 * (7 - μ.1 23 9)) := fun _ h0 => as_tr (hst ()) ht ((hXR_75 ()) h0)
  have hXG_80 : ∀ _ : Unit, μ54.1 26 11 = 0 → CG μ54 P tt r_20 (2 * (7 - μ.1 23 9)) := fun _ h0 => (hXT_79 () h0).2.2.2.2
  refine lv_aload_n hx hb dX7_tryCatch_20 rfl (lv_at hl 2 rfl) ?_
  refine xa_getr G fd_X7 (a := 23) (x := 26) 0 rfl (by decide) rfl (wm 2 17 rfl rfl) ⟨rfl, rfl, rfl⟩ dX7_tryCatch_21 rfl (G.sk 23 rfl) (by decide) rfl ?_
  refine xa_getN G fd_X10 (host := "FourTongues") (a := 26) 12 rfl (by decide) (by decide) ⟨rfl, rfl, rfl⟩ dX7_tryCatch_24 rfl (v := .int (iv (μ54.1 26 12))) (by rw [show μ54.1 26 12 = μ54.1 26 12 from rfl]; rfl) ?_
  have hr_81 : -2147483648 ≤ μ54.1 26 12 ∧ μ54.1 26 12 ≤ 2147483647 := by have h9 := G.hr (a := 26) (k := 12) rfl; exact h9
  refine lv_sipush (v := iv 211) hx hb dX7_tryCatch_27 rfl ?_
  refine xb_icmp_ne (tgt := 41) hx hb (by unfold ir; omega) (by unfold ir; omega) dX7_tryCatch_30 (by decide) (fun c_30 => ?_) (fun c_30 => ?_)
  · refine lv_aload_n hx hb dX7_tryCatch_41 rfl (lv_at hl 2 rfl) ?_
    refine xa_getr G fd_X7 (a := 23) (x := 26) 0 rfl (by decide) rfl (wm 2 17 rfl rfl) ⟨rfl, rfl, rfl⟩ dX7_tryCatch_42 rfl (G.sk 23 rfl) (by decide) rfl ?_
    refine xa_getN G fd_X10 (host := "FourTongues") (a := 26) 12 rfl (by decide) (by decide) ⟨rfl, rfl, rfl⟩ dX7_tryCatch_45 rfl (v := .int (iv (μ54.1 26 12))) (by rw [show μ54.1 26 12 = μ54.1 26 12 from rfl]; rfl) ?_
    refine lv_sipush (v := iv 212) hx hb dX7_tryCatch_48 rfl ?_
    refine xb_icmp_eq (tgt := 61) hx hb (by unfold ir; omega) (by unfold ir; omega) dX7_tryCatch_51 (by decide) (fun c_51 => ?_) (fun c_51 => ?_)
    · have hXX_82 : ∀ _ : Unit, μ54.1 26 11 = 0 → TRX μ μ54 P tt r_5 ((2 * (7 - μ.1 23 9)) + 1) := fun _ h0 => ((hXT_79 ()) h0).x (hst ()) ht
      refine lv_aload_n hx hb dX7_tryCatch_61 rfl (lv_at hl 2 rfl) ?_
      refine lv_sipush (v := iv 212) hx hb dX7_tryCatch_62 rfl ?_
      refine xc_iV G (b := 23) (rest := []) (As := [.int (iv 212)]) (c_X7_took ω l μ54 212 (by unfold ir; omega) hI_56 hp_57 (by omega)) (wm 3 160 rfl rfl) (wm 3 162 rfl rfl) (wm 0 9 rfl rfl) rfl rfl (by decide) rfl (wm 1 12 rfl rfl) (wm 3 163 rfl rfl) (by decide) hR ⟨nfB hF (by decide), nlB hLo (by decide)⟩ (n := 1) rfl rfl (Nat.le_of_ble_eq_true rfl) hl.1 dX7_tryCatch_65 (fun r_84 μ83 ρ d0 H locs hr_r_84 hp G => ?_)
      have hr_r_84 : -2147483648 ≤ r_84 ∧ r_84 ≤ 2147483647 := hr_r_84
      obtain ⟨F_85, hI_86, hp_87, hp_88, hs_89, hs_90, hs_91, hs_92, hs_93⟩ := hp
      have hn_94 : -1 ≤ μ83.1 26 10 ∧ μ83.1 26 10 ≤ 3000 := hI_86.nm.2.2.2.2.2.2.2.2.2.2.2.2
      have htb_95 := hp_87.b
      refine xb_if_eq (tgt := 86) hx hb (by unfold ir; omega) dX7_tryCatch_68 (by decide) (fun c_68 => ?_) (fun c_68 => ?_)
      · clear hk_1 hc_2 hk_38 hk_71 hc_72 hk_73
        have e_96 : μ83.1 26 11 = μ54.1 26 11 := hs_89
        have htX_97 : ∀ _ : Unit, μ83.1 26 11 = 0 → TRX μ μ83 P tt r_5 ((2 * (7 - μ.1 23 9)) + 1) := fun _ h0 => TRX.fr (K := [26]) (hXX_82 () (by have h9 : μ54.1 26 11 = μ54.1 26 11 := rfl; have h8 : μ83.1 26 11 = μ54.1 26 11 := hs_89; omega)) (Fr.tr Fr.rf F_85 (by decide)) (npL_p (L := [26]) (by decide) hprP).1 (npL_p (L := [26]) (by decide) hprP).2.1
        have e_98 : μ83.1 26 11 = μ54.1 26 11 := hs_89
        have e_99 : μ83.1 P 1 = μ54.1 P 1 := (F_85.1 P (ni hprP (fun P => P) (fun P => [26]) rfl) 1)
        have e_100 : μ83.1 P 1 = μ54.1 P 1 := (F_85.1 P (ni hprP (fun P => P) (fun P => [26]) rfl) 1)
        have e_101 : μ83.1 26 11 = μ54.1 26 11 := hs_89
        have e_102 : μ83.1 (P + 2) 3 = μ54.1 (P + 2) 3 := (F_85.1 (P + 2) (ni hprP (fun P => P + 2) (fun P => [26]) rfl) 3)
        have e_103 : μ83.1 P 1 = μ54.1 P 1 := (F_85.1 P (ni hprP (fun P => P) (fun P => [26]) rfl) 1)
        have e_104 : μ83.1 (P + 2) 3 = μ54.1 (P + 2) 3 := (F_85.1 (P + 2) (ni hprP (fun P => P + 2) (fun P => [26]) rfl) 3)
        exact xr_v G hret hlk dX7_tryCatch_86 ⟨(Fr.tr (Fr.tr (Fr.tr (Fr.tr Fr.rf F_6 (si hprP (fun P => [P, P + 1]) (fun P => [2, 3, 4, 23, 24, 25, 26, P, P + 1, P + 2, (P + 2) + 1, (P + 2) + 2, (P + 2) + 3]) rfl)) F_21 (si hprP (fun P => [P, P + 1]) (fun P => [2, 3, 4, 23, 24, 25, 26, P, P + 1, P + 2, (P + 2) + 1, (P + 2) + 2, (P + 2) + 3]) rfl)) F_55 (si hprP (fun P => [2, 3, 4, 23, 24, 25, 26, P, P + 1, P + 2, (P + 2) + 1, (P + 2) + 2, (P + 2) + 3]) (fun P => [2, 3, 4, 23, 24, 25, 26, P, P + 1, P + 2, (P + 2) + 1, (P + 2) + 2, (P + 2) + 3]) rfl)) F_85 (si hprP (fun P => [26]) (fun P => [2, 3, 4, 23, 24, 25, 26, P, P + 1, P + 2, (P + 2) + 1, (P + 2) + 2, (P + 2) + 3]) rfl)), hI_86, hp_87, (by omega), (by omega), (by omega), (by omega), (fun h0 => ((htX_97 ()) h0).es (hst ()) |>.mn (by omega)), (((F_85.1 23 (by decide) 2).trans (hs_64.trans ((F_21.1 23 (ni hprP (fun P => 23) (fun P => [P, P + 1]) rfl) 2).trans ((F_6.1 23 (ni hprP (fun P => 23) (fun P => [P, P + 1]) rfl) 2).trans hP.symm))))).trans hP, ((F_85.1 23 (by decide) 7).trans (hs_65.trans ((F_21.1 23 (ni hprP (fun P => 23) (fun P => [P, P + 1]) rfl) 7).trans (F_6.1 23 (ni hprP (fun P => 23) (fun P => [P, P + 1]) rfl) 7)))), (((F_85.1 23 (by decide) 8).trans (hs_66.trans ((F_21.1 23 (ni hprP (fun P => 23) (fun P => [P, P + 1]) rfl) 8).trans ((F_6.1 23 (ni hprP (fun P => 23) (fun P => [P, P + 1]) rfl) 8).trans htt.symm))))).trans htt, ((F_85.1 23 (by decide) 9).trans (hs_67.trans ((F_21.1 23 (ni hprP (fun P => 23) (fun P => [P, P + 1]) rfl) 9).trans (F_6.1 23 (ni hprP (fun P => 23) (fun P => [P, P + 1]) rfl) 9)))), (hs_90.trans (hs_68.trans ((F_21.1 26 (ni hprP (fun P => 26) (fun P => [P, P + 1]) rfl) 6).trans (F_6.1 26 (ni hprP (fun P => 26) (fun P => [P, P + 1]) rfl) 6)))), ((F_85.1 P (ni hprP (fun P => P) (fun P => [26]) rfl) 7).trans (hs_69.trans (hs_26.trans hs_11)))⟩
      · have htX_105 : ∀ _ : Unit, μ83.1 26 11 = 0 → TRX μ μ83 P tt r_5 ((2 * (7 - μ.1 23 9)) + 1) := fun _ h0 => TRX.fr (K := [26]) (hXX_82 () (by have h9 : μ54.1 26 11 = μ54.1 26 11 := rfl; have h8 : μ83.1 26 11 = μ54.1 26 11 := hs_89; omega)) (Fr.tr Fr.rf F_85 (by decide)) (npL_p (L := [26]) (by decide) hprP).1 (npL_p (L := [26]) (by decide) hprP).2.1
        have hXH_106 : ∀ _ : Unit, μ83.1 26 11 = 0 → HC μ83 P tt 0 := fun _ h0 => ((htX_105 ()) h0).hc (hst ())
        have hXw_107 : ∀ _ : Unit, μ83.1 26 11 = 0 → Wp μ83 P r_5 0 := fun _ h0 => ((htX_105 ()) h0).w (hst ())
        refine lv_aload_n hx hb dX7_tryCatch_71 rfl (lv_at hl 2 rfl) ?_
        refine xa_getr G fd_X7 (a := 23) (x := P) 2 rfl (by decide) rfl (wm 2 19 rfl rfl) ⟨rfl, rfl, rfl⟩ dX7_tryCatch_72 rfl ((F_85.1 23 (by decide) 2).trans (hs_64.trans ((F_21.1 23 (ni hprP (fun P => 23) (fun P => [P, P + 1]) rfl) 2).trans ((F_6.1 23 (ni hprP (fun P => 23) (fun P => [P, P + 1]) rfl) 2).trans hP.symm)))) (by omega) (hprP.hq ω ρ) ?_
        refine lv_iload_n hx hb dX7_tryCatch_75 rfl (lv_at hl 1 rfl) ?_
        refine lv_bipush (v := iv 28) hx hb dX7_tryCatch_76 rfl ?_
        have e_108 : μ83.1 P 1 = μ54.1 P 1 := (F_85.1 P (ni hprP (fun P => P) (fun P => [26]) rfl) 1)
        refine xc_vV G (b := P) (rest := []) (As := [.int (iv r_5), .int (iv 28)]) (c_X8_setOp ω l μ83 P r_5 28 (μ54.1 P 1) hprP (by unfold ir; omega) (by unfold ir; omega) hI_86 (by omega)) (wm 4 140 rfl rfl) (wm 4 141 rfl rfl) (wm 4 142 rfl rfl) hprP.ly rfl (by decide) (hprP.hq ω ρ) (wm 1 9 rfl rfl) (wm 4 143 rfl rfl) (by decide) hR ⟨nfB hF (by decide), nlB hLo (by decide)⟩ (n := 2) rfl rfl (Nat.le_of_ble_eq_true rfl) hl.1 dX7_tryCatch_78 (fun μ109 ρ d0 H locs hp G => ?_)
        obtain ⟨F_110, hI_111, hp_112, hp_113, ha_114⟩ := hp
        have hm_115 : ∀ _ : Unit, μ109.1 26 11 = 0 → MO μ83 μ109 P r_5 28 := by
          intro _ h0
          have hw_ := ((hXw_107 ()) (by have h9 : μ83.1 26 11 = μ54.1 26 11 := hs_89; have h8 : μ109.1 26 11 = μ54.1 26 11 := ((F_110.1 26 (ni hprP (fun P => 26) (fun P => [P + 1]) rfl) 11).trans hs_89); omega)).1
          have h8 : μ83.1 P 1 = μ54.1 P 1 := (F_85.1 P (ni hprP (fun P => P) (fun P => [26]) rfl) 1)
          have h9 : μ109.1 P 1 = μ54.1 P 1 := ((F_110.1 P (ni hprP (fun P => P) (fun P => [P + 1]) rfl) 1).trans (F_85.1 P (ni hprP (fun P => P) (fun P => [26]) rfl) 1))
          rcases hp_113 with ⟨q1, q2, q3⟩ | ⟨q1, q2⟩
          · exact MO.of (μ := μ83) (ν := μ109) (P := P) (by rw [h9, h8]) hw_ q3 ha_114
          · exfalso; exact q1 (by rw [← h8]; exact hw_)
        have hXR_116 : ∀ _ : Unit, μ109.1 26 11 = 0 → (Th (fun ν => TRX μ ν P tt r_5 ((2 * (7 - μ.1 23 9)) + 1)) (qO P r_5 28)) μ109 := fun _ h0 => ⟨_, (htX_105 ()) (by have h9 : μ83.1 26 11 = μ54.1 26 11 := hs_89; have h8 : μ109.1 26 11 = μ54.1 26 11 := ((F_110.1 26 (ni hprP (fun P => 26) (fun P => [P + 1]) rfl) 11).trans hs_89); omega), (hm_115 ()) h0⟩
        have hXH_117 : ∀ _ : Unit, μ109.1 26 11 = 0 → HC μ109 P tt 0 := fun _ h0 => ((hXH_106 ()) (by have h9 : μ83.1 26 11 = μ54.1 26 11 := hs_89; have h8 : μ109.1 26 11 = μ54.1 26 11 := ((F_110.1 26 (ni hprP (fun P => 26) (fun P => [P + 1]) rfl) 11).trans hs_89); omega)).mo ((hm_115 ()) h0) ((hXw_107 ()) (by have h9 : μ83.1 26 11 = μ54.1 26 11 := hs_89; have h8 : μ109.1 26 11 = μ54.1 26 11 := ((F_110.1 26 (ni hprP (fun P => 26) (fun P => [P + 1]) rfl) 11).trans hs_89); omega))
        have hXw_118 : ∀ _ : Unit, μ109.1 26 11 = 0 → Wp μ109 P r_5 28 := fun _ h0 => Wp.mo2 ((hm_115 ()) h0)
        refine lv_aload_n hx hb dX7_tryCatch_81 rfl (lv_at hl 2 rfl) ?_
        refine lv_iload_n hx hb dX7_tryCatch_82 rfl (lv_at hl 1 rfl) ?_
        have e_119 : μ109.1 23 2 = P := ((F_110.1 23 (ni hprP (fun P => 23) (fun P => [P + 1]) rfl) 2).trans ((F_85.1 23 (by decide) 2).trans (hs_64.trans ((F_21.1 23 (ni hprP (fun P => 23) (fun P => [P, P + 1]) rfl) 2).trans ((F_6.1 23 (ni hprP (fun P => 23) (fun P => [P, P + 1]) rfl) 2).trans hP.symm)))))
        have e_120 : μ109.1 23 8 = tt := ((F_110.1 23 (ni hprP (fun P => 23) (fun P => [P + 1]) rfl) 8).trans ((F_85.1 23 (by decide) 8).trans (hs_66.trans ((F_21.1 23 (ni hprP (fun P => 23) (fun P => [P, P + 1]) rfl) 8).trans ((F_6.1 23 (ni hprP (fun P => 23) (fun P => [P, P + 1]) rfl) 8).trans htt.symm)))))
        have htk_121 : TK μ109 := hp_87.fr (K := [P + 1]) (Fr.tr Fr.rf F_110 (si hprP (fun P => [P + 1]) (fun P => [P + 1]) rfl)) (ni hprP (fun P => 26) (fun P => [P + 1]) rfl) (ni hprP (fun P => 28) (fun P => [P + 1]) rfl) (ni hprP (fun P => 29) (fun P => [P + 1]) rfl)
        have e_122 : μ109.1 P 1 = μ54.1 P 1 := ((F_110.1 P (ni hprP (fun P => P) (fun P => [P + 1]) rfl) 1).trans (F_85.1 P (ni hprP (fun P => P) (fun P => [26]) rfl) 1))
        have e_123 : μ109.1 26 10 = μ83.1 26 10 := (F_110.1 26 (ni hprP (fun P => 26) (fun P => [P + 1]) rfl) 10)
        have e_124 : μ109.1 26 11 = μ54.1 26 11 := ((F_110.1 26 (ni hprP (fun P => 26) (fun P => [P + 1]) rfl) 11).trans hs_89)
        have e_125 : μ109.1 (P + 2) 3 = μ54.1 (P + 2) 3 := ((F_110.1 (P + 2) (ni hprP (fun P => P + 2) (fun P => [P + 1]) rfl) 3).trans (F_85.1 (P + 2) (ni hprP (fun P => P + 2) (fun P => [26]) rfl) 3))
        have e_126 : μ109.1 P 1 = μ54.1 P 1 := ((F_110.1 P (ni hprP (fun P => P) (fun P => [P + 1]) rfl) 1).trans (F_85.1 P (ni hprP (fun P => P) (fun P => [26]) rfl) 1))
        have e_127 : μ109.1 23 9 = μ.1 23 9 := ((F_110.1 23 (ni hprP (fun P => 23) (fun P => [P + 1]) rfl) 9).trans ((F_85.1 23 (by decide) 9).trans (hs_67.trans ((F_21.1 23 (ni hprP (fun P => 23) (fun P => [P, P + 1]) rfl) 9).trans (F_6.1 23 (ni hprP (fun P => 23) (fun P => [P, P + 1]) rfl) 9)))))
        have e_128 : μ109.1 23 9 = μ.1 23 9 := ((F_110.1 23 (ni hprP (fun P => 23) (fun P => [P + 1]) rfl) 9).trans ((F_85.1 23 (by decide) 9).trans (hs_67.trans ((F_21.1 23 (ni hprP (fun P => 23) (fun P => [P, P + 1]) rfl) 9).trans (F_6.1 23 (ni hprP (fun P => 23) (fun P => [P, P + 1]) rfl) 9)))))
        have e_129 : μ109.1 26 11 = μ54.1 26 11 := ((F_110.1 26 (ni hprP (fun P => 26) (fun P => [P + 1]) rfl) 11).trans hs_89)
        have e_130 : μ109.1 26 10 = μ83.1 26 10 := (F_110.1 26 (ni hprP (fun P => 26) (fun P => [P + 1]) rfl) 10)
        have e_131 : μ109.1 P 1 = μ54.1 P 1 := ((F_110.1 P (ni hprP (fun P => P) (fun P => [P + 1]) rfl) 1).trans (F_85.1 P (ni hprP (fun P => P) (fun P => [26]) rfl) 1))
        have e_132 : μ109.1 P 1 = μ54.1 P 1 := ((F_110.1 P (ni hprP (fun P => P) (fun P => [P + 1]) rfl) 1).trans (F_85.1 P (ni hprP (fun P => P) (fun P => [26]) rfl) 1))
        have e_133 : μ109.1 26 10 = μ83.1 26 10 := (F_110.1 26 (ni hprP (fun P => 26) (fun P => [P + 1]) rfl) 10)
        have e_134 : μ109.1 26 11 = μ54.1 26 11 := ((F_110.1 26 (ni hprP (fun P => 26) (fun P => [P + 1]) rfl) 11).trans hs_89)
        have e_135 : μ109.1 (P + 2) 3 = μ54.1 (P + 2) 3 := ((F_110.1 (P + 2) (ni hprP (fun P => P + 2) (fun P => [P + 1]) rfl) 3).trans (F_85.1 (P + 2) (ni hprP (fun P => P + 2) (fun P => [26]) rfl) 3))
        have e_136 : μ109.1 P 1 = μ54.1 P 1 := ((F_110.1 P (ni hprP (fun P => P) (fun P => [P + 1]) rfl) 1).trans (F_85.1 P (ni hprP (fun P => P) (fun P => [26]) rfl) 1))
        have e_137 : μ109.1 (P + 2) 3 = μ54.1 (P + 2) 3 := ((F_110.1 (P + 2) (ni hprP (fun P => P + 2) (fun P => [P + 1]) rfl) 3).trans (F_85.1 (P + 2) (ni hprP (fun P => P + 2) (fun P => [26]) rfl) 3))
        refine xc_vV G (b := 23) (rest := []) (As := [.int (iv r_5)]) (c_X7_finishing ω l μ109 r_5 F Lo kf P tt (by unfold ir; omega) hI_111 (by omega) (by omega) hF hLo hK htk_121 (by omega) (by omega) (by omega) (by omega) (by omega) (fun _ => (hXw_118 ())) (fun _ => (hXH_117 ()))) (wm 4 167 rfl rfl) (wm 4 169 rfl rfl) (wm 0 54 rfl rfl) rfl rfl (by decide) rfl (wm 1 12 rfl rfl) (wm 4 170 rfl rfl) (by decide) hR ⟨sfr (F := F) (a := 1) (by decide), slo (L := Lo) (m := 2) (a := 21) (by decide)⟩ (n := 1) rfl rfl (Nat.le_of_ble_eq_true rfl) hl.1 dX7_tryCatch_83 (fun μ138 ρ d0 H locs hp G => ?_)
        obtain ⟨F_139, hI_140, hp_141, hp_142, hp_143, hp_144, hp_145, hp_146, hs_147, hs_148, hs_149, hs_150, hs_151, hs_152⟩ := hp
        have hn_153 : -1 ≤ μ138.1 26 10 ∧ μ138.1 26 10 ≤ 3000 := hI_140.nm.2.2.2.2.2.2.2.2.2.2.2.2
        have hk_154 := hI_140.pr (p := P) hprP
        unfold pk at hk_154
        have hc_155 : 16 ≤ μ138.2.1 (P + 1) ∧ μ138.2.1 (P + 1) ≤ 73024 := hI_140.rm.1 _ hprP.cap
        have hk_156 := hI_140.row (r := P + 2) (hprP.row)
        unfold rk at hk_156
        have htb_157 := hp_141.b
        replace hp_146 := fun _ : Unit => hp_146
        have hXR_158 : ∀ _ : Unit, μ138.1 26 11 = 0 → (Th (Th (fun ν => TRX μ ν P tt r_5 ((2 * (7 - μ.1 23 9)) + 1)) (qO P r_5 28)) (qI P tt r_5 (2 * (7 - μ.1 23 9)))) μ138 := fun _ h0 => ⟨_, (hXR_116 ()) (by have h9 : μ109.1 26 11 = μ54.1 26 11 := ((F_110.1 26 (ni hprP (fun P => 26) (fun P => [P + 1]) rfl) 11).trans hs_89); have h8 : μ138.1 26 11 = μ138.1 26 11 := rfl; omega), ((hp_146 ()) h0).mn (by have h9 : μ109.1 23 9 = μ.1 23 9 := ((F_110.1 23 (ni hprP (fun P => 23) (fun P => [P + 1]) rfl) 9).trans ((F_85.1 23 (by decide) 9).trans (hs_67.trans ((F_21.1 23 (ni hprP (fun P => 23) (fun P => [P, P + 1]) rfl) 9).trans (F_6.1 23 (ni hprP (fun P => 23) (fun P => [P, P + 1]) rfl) 9))))); omega)⟩
        clear hk_1 hc_2 hk_38 hk_71 hc_72 hk_73 hk_154 hc_155 hk_156
        exact xr_v G hret hlk dX7_tryCatch_86 ⟨(Fr.tr (Fr.tr (Fr.tr (Fr.tr (Fr.tr (Fr.tr Fr.rf F_6 (si hprP (fun P => [P, P + 1]) (fun P => [2, 3, 4, 23, 24, 25, 26, P, P + 1, P + 2, (P + 2) + 1, (P + 2) + 2, (P + 2) + 3]) rfl)) F_21 (si hprP (fun P => [P, P + 1]) (fun P => [2, 3, 4, 23, 24, 25, 26, P, P + 1, P + 2, (P + 2) + 1, (P + 2) + 2, (P + 2) + 3]) rfl)) F_55 (si hprP (fun P => [2, 3, 4, 23, 24, 25, 26, P, P + 1, P + 2, (P + 2) + 1, (P + 2) + 2, (P + 2) + 3]) (fun P => [2, 3, 4, 23, 24, 25, 26, P, P + 1, P + 2, (P + 2) + 1, (P + 2) + 2, (P + 2) + 3]) rfl)) F_85 (si hprP (fun P => [26]) (fun P => [2, 3, 4, 23, 24, 25, 26, P, P + 1, P + 2, (P + 2) + 1, (P + 2) + 2, (P + 2) + 3]) rfl)) F_110 (si hprP (fun P => [P + 1]) (fun P => [2, 3, 4, 23, 24, 25, 26, P, P + 1, P + 2, (P + 2) + 1, (P + 2) + 2, (P + 2) + 3]) rfl)) F_139 (si hprP (fun P => [2, 3, 4, 23, 24, 25, 26, P, P + 1, P + 2, (P + 2) + 1, (P + 2) + 2, (P + 2) + 3]) (fun P => [2, 3, 4, 23, 24, 25, 26, P, P + 1, P + 2, (P + 2) + 1, (P + 2) + 2, (P + 2) + 3]) rfl)), hI_140, hp_141, (by omega), (by omega), (by omega), (by omega), (fun h0 => as_tf (hst ()) ht ((hXR_158 ()) h0) (by omega)), ((hs_147.trans ((F_110.1 23 (ni hprP (fun P => 23) (fun P => [P + 1]) rfl) 2).trans ((F_85.1 23 (by decide) 2).trans (hs_64.trans ((F_21.1 23 (ni hprP (fun P => 23) (fun P => [P, P + 1]) rfl) 2).trans ((F_6.1 23 (ni hprP (fun P => 23) (fun P => [P, P + 1]) rfl) 2).trans hP.symm))))))).trans hP, (hs_148.trans ((F_110.1 23 (ni hprP (fun P => 23) (fun P => [P + 1]) rfl) 7).trans ((F_85.1 23 (by decide) 7).trans (hs_65.trans ((F_21.1 23 (ni hprP (fun P => 23) (fun P => [P, P + 1]) rfl) 7).trans (F_6.1 23 (ni hprP (fun P => 23) (fun P => [P, P + 1]) rfl) 7)))))), ((hs_149.trans ((F_110.1 23 (ni hprP (fun P => 23) (fun P => [P + 1]) rfl) 8).trans ((F_85.1 23 (by decide) 8).trans (hs_66.trans ((F_21.1 23 (ni hprP (fun P => 23) (fun P => [P, P + 1]) rfl) 8).trans ((F_6.1 23 (ni hprP (fun P => 23) (fun P => [P, P + 1]) rfl) 8).trans htt.symm))))))).trans htt, (hs_150.trans ((F_110.1 23 (ni hprP (fun P => 23) (fun P => [P + 1]) rfl) 9).trans ((F_85.1 23 (by decide) 9).trans (hs_67.trans ((F_21.1 23 (ni hprP (fun P => 23) (fun P => [P, P + 1]) rfl) 9).trans (F_6.1 23 (ni hprP (fun P => 23) (fun P => [P, P + 1]) rfl) 9)))))), (hs_151.trans ((F_110.1 26 (ni hprP (fun P => 26) (fun P => [P + 1]) rfl) 6).trans (hs_90.trans (hs_68.trans ((F_21.1 26 (ni hprP (fun P => 26) (fun P => [P, P + 1]) rfl) 6).trans (F_6.1 26 (ni hprP (fun P => 26) (fun P => [P, P + 1]) rfl) 6)))))), (hs_152.trans ((F_110.1 P (ni hprP (fun P => P) (fun P => [P + 1]) rfl) 7).trans ((F_85.1 P (ni hprP (fun P => P) (fun P => [26]) rfl) 7).trans (hs_69.trans (hs_26.trans hs_11)))))⟩
    · refine lv_aload_n hx hb dX7_tryCatch_54 rfl (lv_at hl 2 rfl) ?_
      refine xa_getr G fd_X7 (a := 23) (x := 26) 0 rfl (by decide) rfl (wm 2 17 rfl rfl) ⟨rfl, rfl, rfl⟩ dX7_tryCatch_55 rfl (G.sk 23 rfl) (by decide) rfl ?_
      refine xc_vV G (b := 26) (rest := []) (As := []) (c_X10_stop ω l μ54  hI_56) (wm 3 173 rfl rfl) (wm 3 174 rfl rfl) (wm 3 175 rfl rfl) rfl rfl (by decide) rfl (wm 1 13 rfl rfl) (wm 3 176 rfl rfl) (by decide) hR ⟨nfB hF (by decide), nlB hLo (by decide)⟩ (n := 0) rfl rfl (Nat.le_of_ble_eq_true rfl) hl.1 dX7_tryCatch_58 (fun μ159 ρ d0 H locs hp G => ?_)
      obtain ⟨F_160, hI_161, hp_162, hp_163, hs_164, hs_165, hs_166, hs_167, hs_168, hs_169, hs_170⟩ := hp
      have htk_171 : TK μ159 := TK.st hp_57 F_160 hp_162 hp_163 (((hs_164.trans (hs_68.trans ((F_21.1 26 (ni hprP (fun P => 26) (fun P => [P, P + 1]) rfl) 6).trans (F_6.1 26 (ni hprP (fun P => 26) (fun P => [P, P + 1]) rfl) 6))))).trans ((hs_68.trans ((F_21.1 26 (ni hprP (fun P => 26) (fun P => [P, P + 1]) rfl) 6).trans (F_6.1 26 (ni hprP (fun P => 26) (fun P => [P, P + 1]) rfl) 6)))).symm) hs_168 hs_169
      have htT_172 : ∀ _ : Unit, μ159.1 26 11 = 0 → TR μ μ159 P tt r_5 r_20 (2 * (7 - μ.1 23 9)) := fun _ h0 => TR.fr (K := [26]) (hXT_79 () (by have h9 : μ54.1 26 11 = μ54.1 26 11 := rfl; have h8 : μ159.1 26 11 = μ159.1 26 11 := rfl; omega)) (Fr.tr Fr.rf F_160 (by decide)) (npL_p (L := [26]) (by decide) hprP).1 (npL_p (L := [26]) (by decide) hprP).2.1
      have hXX_173 : ∀ _ : Unit, μ159.1 26 11 = 0 → TRX μ μ159 P tt r_5 ((2 * (7 - μ.1 23 9)) + 1) := fun _ h0 => ((htT_172 ()) h0).x (hst ()) ht
      refine lv_aload_n hx hb dX7_tryCatch_61 rfl (lv_at hl 2 rfl) ?_
      refine lv_sipush (v := iv 212) hx hb dX7_tryCatch_62 rfl ?_
      have e_174 : μ159.1 26 10 = μ54.1 26 10 := hs_168
      have e_175 : μ159.1 26 10 = μ54.1 26 10 := hs_168
      refine xc_iV G (b := 23) (rest := []) (As := [.int (iv 212)]) (c_X7_took ω l μ159 212 (by unfold ir; omega) hI_161 htk_171 (by omega)) (wm 3 160 rfl rfl) (wm 3 162 rfl rfl) (wm 0 9 rfl rfl) rfl rfl (by decide) rfl (wm 1 12 rfl rfl) (wm 3 163 rfl rfl) (by decide) hR ⟨nfB hF (by decide), nlB hLo (by decide)⟩ (n := 1) rfl rfl (Nat.le_of_ble_eq_true rfl) hl.1 dX7_tryCatch_65 (fun r_177 μ176 ρ d0 H locs hr_r_177 hp G => ?_)
      have hr_r_177 : -2147483648 ≤ r_177 ∧ r_177 ≤ 2147483647 := hr_r_177
      obtain ⟨F_178, hI_179, hp_180, hp_181, hs_182, hs_183, hs_184, hs_185, hs_186⟩ := hp
      have hn_187 : -1 ≤ μ176.1 26 10 ∧ μ176.1 26 10 ≤ 3000 := hI_179.nm.2.2.2.2.2.2.2.2.2.2.2.2
      have htb_188 := hp_180.b
      refine xb_if_eq (tgt := 86) hx hb (by unfold ir; omega) dX7_tryCatch_68 (by decide) (fun c_68 => ?_) (fun c_68 => ?_)
      · clear hk_1 hc_2 hk_38 hk_71 hc_72 hk_73
        have e_189 : μ176.1 26 11 = μ159.1 26 11 := hs_182
        have htX_190 : ∀ _ : Unit, μ176.1 26 11 = 0 → TRX μ μ176 P tt r_5 ((2 * (7 - μ.1 23 9)) + 1) := fun _ h0 => TRX.fr (K := [26]) (hXX_173 () (by have h9 : μ159.1 26 11 = μ159.1 26 11 := rfl; have h8 : μ176.1 26 11 = μ159.1 26 11 := hs_182; omega)) (Fr.tr Fr.rf F_178 (by decide)) (npL_p (L := [26]) (by decide) hprP).1 (npL_p (L := [26]) (by decide) hprP).2.1
        have e_191 : μ176.1 26 11 = μ159.1 26 11 := hs_182
        have e_192 : μ176.1 P 1 = μ54.1 P 1 := ((F_178.1 P (ni hprP (fun P => P) (fun P => [26]) rfl) 1).trans (F_160.1 P (ni hprP (fun P => P) (fun P => [26]) rfl) 1))
        have e_193 : μ176.1 P 1 = μ54.1 P 1 := ((F_178.1 P (ni hprP (fun P => P) (fun P => [26]) rfl) 1).trans (F_160.1 P (ni hprP (fun P => P) (fun P => [26]) rfl) 1))
        have e_194 : μ176.1 26 11 = μ159.1 26 11 := hs_182
        have e_195 : μ176.1 (P + 2) 3 = μ54.1 (P + 2) 3 := ((F_178.1 (P + 2) (ni hprP (fun P => P + 2) (fun P => [26]) rfl) 3).trans (F_160.1 (P + 2) (ni hprP (fun P => P + 2) (fun P => [26]) rfl) 3))
        have e_196 : μ176.1 P 1 = μ54.1 P 1 := ((F_178.1 P (ni hprP (fun P => P) (fun P => [26]) rfl) 1).trans (F_160.1 P (ni hprP (fun P => P) (fun P => [26]) rfl) 1))
        have e_197 : μ176.1 (P + 2) 3 = μ54.1 (P + 2) 3 := ((F_178.1 (P + 2) (ni hprP (fun P => P + 2) (fun P => [26]) rfl) 3).trans (F_160.1 (P + 2) (ni hprP (fun P => P + 2) (fun P => [26]) rfl) 3))
        exact xr_v G hret hlk dX7_tryCatch_86 ⟨(Fr.tr (Fr.tr (Fr.tr (Fr.tr (Fr.tr Fr.rf F_6 (si hprP (fun P => [P, P + 1]) (fun P => [2, 3, 4, 23, 24, 25, 26, P, P + 1, P + 2, (P + 2) + 1, (P + 2) + 2, (P + 2) + 3]) rfl)) F_21 (si hprP (fun P => [P, P + 1]) (fun P => [2, 3, 4, 23, 24, 25, 26, P, P + 1, P + 2, (P + 2) + 1, (P + 2) + 2, (P + 2) + 3]) rfl)) F_55 (si hprP (fun P => [2, 3, 4, 23, 24, 25, 26, P, P + 1, P + 2, (P + 2) + 1, (P + 2) + 2, (P + 2) + 3]) (fun P => [2, 3, 4, 23, 24, 25, 26, P, P + 1, P + 2, (P + 2) + 1, (P + 2) + 2, (P + 2) + 3]) rfl)) F_160 (si hprP (fun P => [26]) (fun P => [2, 3, 4, 23, 24, 25, 26, P, P + 1, P + 2, (P + 2) + 1, (P + 2) + 2, (P + 2) + 3]) rfl)) F_178 (si hprP (fun P => [26]) (fun P => [2, 3, 4, 23, 24, 25, 26, P, P + 1, P + 2, (P + 2) + 1, (P + 2) + 2, (P + 2) + 3]) rfl)), hI_179, hp_180, (by omega), (by omega), (by omega), (by omega), (fun h0 => ((htX_190 ()) h0).es (hst ()) |>.mn (by omega)), (((F_178.1 23 (by decide) 2).trans ((F_160.1 23 (by decide) 2).trans (hs_64.trans ((F_21.1 23 (ni hprP (fun P => 23) (fun P => [P, P + 1]) rfl) 2).trans ((F_6.1 23 (ni hprP (fun P => 23) (fun P => [P, P + 1]) rfl) 2).trans hP.symm)))))).trans hP, ((F_178.1 23 (by decide) 7).trans ((F_160.1 23 (by decide) 7).trans (hs_65.trans ((F_21.1 23 (ni hprP (fun P => 23) (fun P => [P, P + 1]) rfl) 7).trans (F_6.1 23 (ni hprP (fun P => 23) (fun P => [P, P + 1]) rfl) 7))))), (((F_178.1 23 (by decide) 8).trans ((F_160.1 23 (by decide) 8).trans (hs_66.trans ((F_21.1 23 (ni hprP (fun P => 23) (fun P => [P, P + 1]) rfl) 8).trans ((F_6.1 23 (ni hprP (fun P => 23) (fun P => [P, P + 1]) rfl) 8).trans htt.symm)))))).trans htt, ((F_178.1 23 (by decide) 9).trans ((F_160.1 23 (by decide) 9).trans (hs_67.trans ((F_21.1 23 (ni hprP (fun P => 23) (fun P => [P, P + 1]) rfl) 9).trans (F_6.1 23 (ni hprP (fun P => 23) (fun P => [P, P + 1]) rfl) 9))))), (hs_183.trans (hs_164.trans (hs_68.trans ((F_21.1 26 (ni hprP (fun P => 26) (fun P => [P, P + 1]) rfl) 6).trans (F_6.1 26 (ni hprP (fun P => 26) (fun P => [P, P + 1]) rfl) 6))))), ((F_178.1 P (ni hprP (fun P => P) (fun P => [26]) rfl) 7).trans ((F_160.1 P (ni hprP (fun P => P) (fun P => [26]) rfl) 7).trans (hs_69.trans (hs_26.trans hs_11))))⟩
      · have htX_198 : ∀ _ : Unit, μ176.1 26 11 = 0 → TRX μ μ176 P tt r_5 ((2 * (7 - μ.1 23 9)) + 1) := fun _ h0 => TRX.fr (K := [26]) (hXX_173 () (by have h9 : μ159.1 26 11 = μ159.1 26 11 := rfl; have h8 : μ176.1 26 11 = μ159.1 26 11 := hs_182; omega)) (Fr.tr Fr.rf F_178 (by decide)) (npL_p (L := [26]) (by decide) hprP).1 (npL_p (L := [26]) (by decide) hprP).2.1
        have hXH_199 : ∀ _ : Unit, μ176.1 26 11 = 0 → HC μ176 P tt 0 := fun _ h0 => ((htX_198 ()) h0).hc (hst ())
        have hXw_200 : ∀ _ : Unit, μ176.1 26 11 = 0 → Wp μ176 P r_5 0 := fun _ h0 => ((htX_198 ()) h0).w (hst ())
        refine lv_aload_n hx hb dX7_tryCatch_71 rfl (lv_at hl 2 rfl) ?_
        refine xa_getr G fd_X7 (a := 23) (x := P) 2 rfl (by decide) rfl (wm 2 19 rfl rfl) ⟨rfl, rfl, rfl⟩ dX7_tryCatch_72 rfl ((F_178.1 23 (by decide) 2).trans ((F_160.1 23 (by decide) 2).trans (hs_64.trans ((F_21.1 23 (ni hprP (fun P => 23) (fun P => [P, P + 1]) rfl) 2).trans ((F_6.1 23 (ni hprP (fun P => 23) (fun P => [P, P + 1]) rfl) 2).trans hP.symm))))) (by omega) (hprP.hq ω ρ) ?_
        refine lv_iload_n hx hb dX7_tryCatch_75 rfl (lv_at hl 1 rfl) ?_
        refine lv_bipush (v := iv 28) hx hb dX7_tryCatch_76 rfl ?_
        have e_201 : μ176.1 P 1 = μ54.1 P 1 := ((F_178.1 P (ni hprP (fun P => P) (fun P => [26]) rfl) 1).trans (F_160.1 P (ni hprP (fun P => P) (fun P => [26]) rfl) 1))
        refine xc_vV G (b := P) (rest := []) (As := [.int (iv r_5), .int (iv 28)]) (c_X8_setOp ω l μ176 P r_5 28 (μ54.1 P 1) hprP (by unfold ir; omega) (by unfold ir; omega) hI_179 (by omega)) (wm 4 140 rfl rfl) (wm 4 141 rfl rfl) (wm 4 142 rfl rfl) hprP.ly rfl (by decide) (hprP.hq ω ρ) (wm 1 9 rfl rfl) (wm 4 143 rfl rfl) (by decide) hR ⟨nfB hF (by decide), nlB hLo (by decide)⟩ (n := 2) rfl rfl (Nat.le_of_ble_eq_true rfl) hl.1 dX7_tryCatch_78 (fun μ202 ρ d0 H locs hp G => ?_)
        obtain ⟨F_203, hI_204, hp_205, hp_206, ha_207⟩ := hp
        have hm_208 : ∀ _ : Unit, μ202.1 26 11 = 0 → MO μ176 μ202 P r_5 28 := by
          intro _ h0
          have hw_ := ((hXw_200 ()) (by have h9 : μ176.1 26 11 = μ159.1 26 11 := hs_182; have h8 : μ202.1 26 11 = μ159.1 26 11 := ((F_203.1 26 (ni hprP (fun P => 26) (fun P => [P + 1]) rfl) 11).trans hs_182); omega)).1
          have h8 : μ176.1 P 1 = μ54.1 P 1 := ((F_178.1 P (ni hprP (fun P => P) (fun P => [26]) rfl) 1).trans (F_160.1 P (ni hprP (fun P => P) (fun P => [26]) rfl) 1))
          have h9 : μ202.1 P 1 = μ54.1 P 1 := ((F_203.1 P (ni hprP (fun P => P) (fun P => [P + 1]) rfl) 1).trans ((F_178.1 P (ni hprP (fun P => P) (fun P => [26]) rfl) 1).trans (F_160.1 P (ni hprP (fun P => P) (fun P => [26]) rfl) 1)))
          rcases hp_206 with ⟨q1, q2, q3⟩ | ⟨q1, q2⟩
          · exact MO.of (μ := μ176) (ν := μ202) (P := P) (by rw [h9, h8]) hw_ q3 ha_207
          · exfalso; exact q1 (by rw [← h8]; exact hw_)
        have hXR_209 : ∀ _ : Unit, μ202.1 26 11 = 0 → (Th (fun ν => TRX μ ν P tt r_5 ((2 * (7 - μ.1 23 9)) + 1)) (qO P r_5 28)) μ202 := fun _ h0 => ⟨_, (htX_198 ()) (by have h9 : μ176.1 26 11 = μ159.1 26 11 := hs_182; have h8 : μ202.1 26 11 = μ159.1 26 11 := ((F_203.1 26 (ni hprP (fun P => 26) (fun P => [P + 1]) rfl) 11).trans hs_182); omega), (hm_208 ()) h0⟩
        have hXH_210 : ∀ _ : Unit, μ202.1 26 11 = 0 → HC μ202 P tt 0 := fun _ h0 => ((hXH_199 ()) (by have h9 : μ176.1 26 11 = μ159.1 26 11 := hs_182; have h8 : μ202.1 26 11 = μ159.1 26 11 := ((F_203.1 26 (ni hprP (fun P => 26) (fun P => [P + 1]) rfl) 11).trans hs_182); omega)).mo ((hm_208 ()) h0) ((hXw_200 ()) (by have h9 : μ176.1 26 11 = μ159.1 26 11 := hs_182; have h8 : μ202.1 26 11 = μ159.1 26 11 := ((F_203.1 26 (ni hprP (fun P => 26) (fun P => [P + 1]) rfl) 11).trans hs_182); omega))
        have hXw_211 : ∀ _ : Unit, μ202.1 26 11 = 0 → Wp μ202 P r_5 28 := fun _ h0 => Wp.mo2 ((hm_208 ()) h0)
        refine lv_aload_n hx hb dX7_tryCatch_81 rfl (lv_at hl 2 rfl) ?_
        refine lv_iload_n hx hb dX7_tryCatch_82 rfl (lv_at hl 1 rfl) ?_
        have e_212 : μ202.1 23 2 = P := ((F_203.1 23 (ni hprP (fun P => 23) (fun P => [P + 1]) rfl) 2).trans ((F_178.1 23 (by decide) 2).trans ((F_160.1 23 (by decide) 2).trans (hs_64.trans ((F_21.1 23 (ni hprP (fun P => 23) (fun P => [P, P + 1]) rfl) 2).trans ((F_6.1 23 (ni hprP (fun P => 23) (fun P => [P, P + 1]) rfl) 2).trans hP.symm))))))
        have e_213 : μ202.1 23 8 = tt := ((F_203.1 23 (ni hprP (fun P => 23) (fun P => [P + 1]) rfl) 8).trans ((F_178.1 23 (by decide) 8).trans ((F_160.1 23 (by decide) 8).trans (hs_66.trans ((F_21.1 23 (ni hprP (fun P => 23) (fun P => [P, P + 1]) rfl) 8).trans ((F_6.1 23 (ni hprP (fun P => 23) (fun P => [P, P + 1]) rfl) 8).trans htt.symm))))))
        have htk_214 : TK μ202 := hp_180.fr (K := [P + 1]) (Fr.tr Fr.rf F_203 (si hprP (fun P => [P + 1]) (fun P => [P + 1]) rfl)) (ni hprP (fun P => 26) (fun P => [P + 1]) rfl) (ni hprP (fun P => 28) (fun P => [P + 1]) rfl) (ni hprP (fun P => 29) (fun P => [P + 1]) rfl)
        have e_215 : μ202.1 P 1 = μ54.1 P 1 := ((F_203.1 P (ni hprP (fun P => P) (fun P => [P + 1]) rfl) 1).trans ((F_178.1 P (ni hprP (fun P => P) (fun P => [26]) rfl) 1).trans (F_160.1 P (ni hprP (fun P => P) (fun P => [26]) rfl) 1)))
        have e_216 : μ202.1 26 10 = μ176.1 26 10 := (F_203.1 26 (ni hprP (fun P => 26) (fun P => [P + 1]) rfl) 10)
        have e_217 : μ202.1 26 11 = μ159.1 26 11 := ((F_203.1 26 (ni hprP (fun P => 26) (fun P => [P + 1]) rfl) 11).trans hs_182)
        have e_218 : μ202.1 (P + 2) 3 = μ54.1 (P + 2) 3 := ((F_203.1 (P + 2) (ni hprP (fun P => P + 2) (fun P => [P + 1]) rfl) 3).trans ((F_178.1 (P + 2) (ni hprP (fun P => P + 2) (fun P => [26]) rfl) 3).trans (F_160.1 (P + 2) (ni hprP (fun P => P + 2) (fun P => [26]) rfl) 3)))
        have e_219 : μ202.1 P 1 = μ54.1 P 1 := ((F_203.1 P (ni hprP (fun P => P) (fun P => [P + 1]) rfl) 1).trans ((F_178.1 P (ni hprP (fun P => P) (fun P => [26]) rfl) 1).trans (F_160.1 P (ni hprP (fun P => P) (fun P => [26]) rfl) 1)))
        have e_220 : μ202.1 23 9 = μ.1 23 9 := ((F_203.1 23 (ni hprP (fun P => 23) (fun P => [P + 1]) rfl) 9).trans ((F_178.1 23 (by decide) 9).trans ((F_160.1 23 (by decide) 9).trans (hs_67.trans ((F_21.1 23 (ni hprP (fun P => 23) (fun P => [P, P + 1]) rfl) 9).trans (F_6.1 23 (ni hprP (fun P => 23) (fun P => [P, P + 1]) rfl) 9))))))
        have e_221 : μ202.1 23 9 = μ.1 23 9 := ((F_203.1 23 (ni hprP (fun P => 23) (fun P => [P + 1]) rfl) 9).trans ((F_178.1 23 (by decide) 9).trans ((F_160.1 23 (by decide) 9).trans (hs_67.trans ((F_21.1 23 (ni hprP (fun P => 23) (fun P => [P, P + 1]) rfl) 9).trans (F_6.1 23 (ni hprP (fun P => 23) (fun P => [P, P + 1]) rfl) 9))))))
        have e_222 : μ202.1 26 11 = μ159.1 26 11 := ((F_203.1 26 (ni hprP (fun P => 26) (fun P => [P + 1]) rfl) 11).trans hs_182)
        have e_223 : μ202.1 26 10 = μ176.1 26 10 := (F_203.1 26 (ni hprP (fun P => 26) (fun P => [P + 1]) rfl) 10)
        have e_224 : μ202.1 P 1 = μ54.1 P 1 := ((F_203.1 P (ni hprP (fun P => P) (fun P => [P + 1]) rfl) 1).trans ((F_178.1 P (ni hprP (fun P => P) (fun P => [26]) rfl) 1).trans (F_160.1 P (ni hprP (fun P => P) (fun P => [26]) rfl) 1)))
        have e_225 : μ202.1 P 1 = μ54.1 P 1 := ((F_203.1 P (ni hprP (fun P => P) (fun P => [P + 1]) rfl) 1).trans ((F_178.1 P (ni hprP (fun P => P) (fun P => [26]) rfl) 1).trans (F_160.1 P (ni hprP (fun P => P) (fun P => [26]) rfl) 1)))
        have e_226 : μ202.1 26 10 = μ176.1 26 10 := (F_203.1 26 (ni hprP (fun P => 26) (fun P => [P + 1]) rfl) 10)
        have e_227 : μ202.1 26 11 = μ159.1 26 11 := ((F_203.1 26 (ni hprP (fun P => 26) (fun P => [P + 1]) rfl) 11).trans hs_182)
        have e_228 : μ202.1 (P + 2) 3 = μ54.1 (P + 2) 3 := ((F_203.1 (P + 2) (ni hprP (fun P => P + 2) (fun P => [P + 1]) rfl) 3).trans ((F_178.1 (P + 2) (ni hprP (fun P => P + 2) (fun P => [26]) rfl) 3).trans (F_160.1 (P + 2) (ni hprP (fun P => P + 2) (fun P => [26]) rfl) 3)))
        have e_229 : μ202.1 P 1 = μ54.1 P 1 := ((F_203.1 P (ni hprP (fun P => P) (fun P => [P + 1]) rfl) 1).trans ((F_178.1 P (ni hprP (fun P => P) (fun P => [26]) rfl) 1).trans (F_160.1 P (ni hprP (fun P => P) (fun P => [26]) rfl) 1)))
        have e_230 : μ202.1 (P + 2) 3 = μ54.1 (P + 2) 3 := ((F_203.1 (P + 2) (ni hprP (fun P => P + 2) (fun P => [P + 1]) rfl) 3).trans ((F_178.1 (P + 2) (ni hprP (fun P => P + 2) (fun P => [26]) rfl) 3).trans (F_160.1 (P + 2) (ni hprP (fun P => P + 2) (fun P => [26]) rfl) 3)))
        refine xc_vV G (b := 23) (rest := []) (As := [.int (iv r_5)]) (c_X7_finishing ω l μ202 r_5 F Lo kf P tt (by unfold ir; omega) hI_204 (by omega) (by omega) hF hLo hK htk_214 (by omega) (by omega) (by omega) (by omega) (by omega) (fun _ => (hXw_211 ())) (fun _ => (hXH_210 ()))) (wm 4 167 rfl rfl) (wm 4 169 rfl rfl) (wm 0 54 rfl rfl) rfl rfl (by decide) rfl (wm 1 12 rfl rfl) (wm 4 170 rfl rfl) (by decide) hR ⟨sfr (F := F) (a := 1) (by decide), slo (L := Lo) (m := 2) (a := 21) (by decide)⟩ (n := 1) rfl rfl (Nat.le_of_ble_eq_true rfl) hl.1 dX7_tryCatch_83 (fun μ231 ρ d0 H locs hp G => ?_)
        obtain ⟨F_232, hI_233, hp_234, hp_235, hp_236, hp_237, hp_238, hp_239, hs_240, hs_241, hs_242, hs_243, hs_244, hs_245⟩ := hp
        have hn_246 : -1 ≤ μ231.1 26 10 ∧ μ231.1 26 10 ≤ 3000 := hI_233.nm.2.2.2.2.2.2.2.2.2.2.2.2
        have hk_247 := hI_233.pr (p := P) hprP
        unfold pk at hk_247
        have hc_248 : 16 ≤ μ231.2.1 (P + 1) ∧ μ231.2.1 (P + 1) ≤ 73024 := hI_233.rm.1 _ hprP.cap
        have hk_249 := hI_233.row (r := P + 2) (hprP.row)
        unfold rk at hk_249
        have htb_250 := hp_234.b
        replace hp_239 := fun _ : Unit => hp_239
        have hXR_251 : ∀ _ : Unit, μ231.1 26 11 = 0 → (Th (Th (fun ν => TRX μ ν P tt r_5 ((2 * (7 - μ.1 23 9)) + 1)) (qO P r_5 28)) (qI P tt r_5 (2 * (7 - μ.1 23 9)))) μ231 := fun _ h0 => ⟨_, (hXR_209 ()) (by have h9 : μ202.1 26 11 = μ159.1 26 11 := ((F_203.1 26 (ni hprP (fun P => 26) (fun P => [P + 1]) rfl) 11).trans hs_182); have h8 : μ231.1 26 11 = μ231.1 26 11 := rfl; omega), ((hp_239 ()) h0).mn (by have h9 : μ202.1 23 9 = μ.1 23 9 := ((F_203.1 23 (ni hprP (fun P => 23) (fun P => [P + 1]) rfl) 9).trans ((F_178.1 23 (by decide) 9).trans ((F_160.1 23 (by decide) 9).trans (hs_67.trans ((F_21.1 23 (ni hprP (fun P => 23) (fun P => [P, P + 1]) rfl) 9).trans (F_6.1 23 (ni hprP (fun P => 23) (fun P => [P, P + 1]) rfl) 9)))))); omega)⟩
        clear hk_1 hc_2 hk_38 hk_71 hc_72 hk_73 hk_247 hc_248 hk_249
        exact xr_v G hret hlk dX7_tryCatch_86 ⟨(Fr.tr (Fr.tr (Fr.tr (Fr.tr (Fr.tr (Fr.tr (Fr.tr Fr.rf F_6 (si hprP (fun P => [P, P + 1]) (fun P => [2, 3, 4, 23, 24, 25, 26, P, P + 1, P + 2, (P + 2) + 1, (P + 2) + 2, (P + 2) + 3]) rfl)) F_21 (si hprP (fun P => [P, P + 1]) (fun P => [2, 3, 4, 23, 24, 25, 26, P, P + 1, P + 2, (P + 2) + 1, (P + 2) + 2, (P + 2) + 3]) rfl)) F_55 (si hprP (fun P => [2, 3, 4, 23, 24, 25, 26, P, P + 1, P + 2, (P + 2) + 1, (P + 2) + 2, (P + 2) + 3]) (fun P => [2, 3, 4, 23, 24, 25, 26, P, P + 1, P + 2, (P + 2) + 1, (P + 2) + 2, (P + 2) + 3]) rfl)) F_160 (si hprP (fun P => [26]) (fun P => [2, 3, 4, 23, 24, 25, 26, P, P + 1, P + 2, (P + 2) + 1, (P + 2) + 2, (P + 2) + 3]) rfl)) F_178 (si hprP (fun P => [26]) (fun P => [2, 3, 4, 23, 24, 25, 26, P, P + 1, P + 2, (P + 2) + 1, (P + 2) + 2, (P + 2) + 3]) rfl)) F_203 (si hprP (fun P => [P + 1]) (fun P => [2, 3, 4, 23, 24, 25, 26, P, P + 1, P + 2, (P + 2) + 1, (P + 2) + 2, (P + 2) + 3]) rfl)) F_232 (si hprP (fun P => [2, 3, 4, 23, 24, 25, 26, P, P + 1, P + 2, (P + 2) + 1, (P + 2) + 2, (P + 2) + 3]) (fun P => [2, 3, 4, 23, 24, 25, 26, P, P + 1, P + 2, (P + 2) + 1, (P + 2) + 2, (P + 2) + 3]) rfl)), hI_233, hp_234, (by omega), (by omega), (by omega), (by omega), (fun h0 => as_tf (hst ()) ht ((hXR_251 ()) h0) (by omega)), ((hs_240.trans ((F_203.1 23 (ni hprP (fun P => 23) (fun P => [P + 1]) rfl) 2).trans ((F_178.1 23 (by decide) 2).trans ((F_160.1 23 (by decide) 2).trans (hs_64.trans ((F_21.1 23 (ni hprP (fun P => 23) (fun P => [P, P + 1]) rfl) 2).trans ((F_6.1 23 (ni hprP (fun P => 23) (fun P => [P, P + 1]) rfl) 2).trans hP.symm)))))))).trans hP, (hs_241.trans ((F_203.1 23 (ni hprP (fun P => 23) (fun P => [P + 1]) rfl) 7).trans ((F_178.1 23 (by decide) 7).trans ((F_160.1 23 (by decide) 7).trans (hs_65.trans ((F_21.1 23 (ni hprP (fun P => 23) (fun P => [P, P + 1]) rfl) 7).trans (F_6.1 23 (ni hprP (fun P => 23) (fun P => [P, P + 1]) rfl) 7))))))), ((hs_242.trans ((F_203.1 23 (ni hprP (fun P => 23) (fun P => [P + 1]) rfl) 8).trans ((F_178.1 23 (by decide) 8).trans ((F_160.1 23 (by decide) 8).trans (hs_66.trans ((F_21.1 23 (ni hprP (fun P => 23) (fun P => [P, P + 1]) rfl) 8).trans ((F_6.1 23 (ni hprP (fun P => 23) (fun P => [P, P + 1]) rfl) 8).trans htt.symm)))))))).trans htt, (hs_243.trans ((F_203.1 23 (ni hprP (fun P => 23) (fun P => [P + 1]) rfl) 9).trans ((F_178.1 23 (by decide) 9).trans ((F_160.1 23 (by decide) 9).trans (hs_67.trans ((F_21.1 23 (ni hprP (fun P => 23) (fun P => [P, P + 1]) rfl) 9).trans (F_6.1 23 (ni hprP (fun P => 23) (fun P => [P, P + 1]) rfl) 9))))))), (hs_244.trans ((F_203.1 26 (ni hprP (fun P => 26) (fun P => [P + 1]) rfl) 6).trans (hs_183.trans (hs_164.trans (hs_68.trans ((F_21.1 26 (ni hprP (fun P => 26) (fun P => [P, P + 1]) rfl) 6).trans (F_6.1 26 (ni hprP (fun P => 26) (fun P => [P, P + 1]) rfl) 6))))))), (hs_245.trans ((F_203.1 P (ni hprP (fun P => P) (fun P => [P + 1]) rfl) 7).trans ((F_178.1 P (ni hprP (fun P => P) (fun P => [26]) rfl) 7).trans ((F_160.1 P (ni hprP (fun P => P) (fun P => [26]) rfl) 7).trans (hs_69.trans (hs_26.trans hs_11))))))⟩
  · refine lv_aload_n hx hb dX7_tryCatch_33 rfl (lv_at hl 2 rfl) ?_
    refine lv_iload_n hx hb dX7_tryCatch_34 rfl (lv_at hl 0 rfl) ?_
    have hs1_ : μ54.1 26 11 = 0 := (hp_57).k.resolve_right (by omega)
    have e_252 : μ54.1 23 2 = P := (hs_64.trans ((F_21.1 23 (ni hprP (fun P => 23) (fun P => [P, P + 1]) rfl) 2).trans ((F_6.1 23 (ni hprP (fun P => 23) (fun P => [P, P + 1]) rfl) 2).trans hP.symm)))
    have e_253 : μ54.1 23 8 = tt := (hs_66.trans ((F_21.1 23 (ni hprP (fun P => 23) (fun P => [P, P + 1]) rfl) 8).trans ((F_6.1 23 (ni hprP (fun P => 23) (fun P => [P, P + 1]) rfl) 8).trans htt.symm)))
    have e_254 : μ54.1 23 9 = μ.1 23 9 := (hs_67.trans ((F_21.1 23 (ni hprP (fun P => 23) (fun P => [P, P + 1]) rfl) 9).trans (F_6.1 23 (ni hprP (fun P => 23) (fun P => [P, P + 1]) rfl) 9)))
    have e_255 : μ54.1 23 9 = μ.1 23 9 := (hs_67.trans ((F_21.1 23 (ni hprP (fun P => 23) (fun P => [P, P + 1]) rfl) 9).trans (F_6.1 23 (ni hprP (fun P => 23) (fun P => [P, P + 1]) rfl) 9)))
    have e_256 : μ54.1 23 9 = μ.1 23 9 := (hs_67.trans ((F_21.1 23 (ni hprP (fun P => 23) (fun P => [P, P + 1]) rfl) 9).trans (F_6.1 23 (ni hprP (fun P => 23) (fun P => [P, P + 1]) rfl) 9)))
    refine xc_vV G (b := 23) (rest := []) (As := [.int (iv r_20)]) (c_X7_catches ω l μ54 r_20 F Lo kf P tt (by unfold ir; omega) hI_56 (by omega) (by omega) hF hLo hK hp_57 (by omega) (by omega) (by omega) (by omega) ((hp_57).k.resolve_right (by omega)) (by omega) (by omega) (by omega) (fun _ h0 => by have h9 : μ54.1 23 9 = μ.1 23 9 := (hs_67.trans ((F_21.1 23 (ni hprP (fun P => 23) (fun P => [P, P + 1]) rfl) 9).trans (F_6.1 23 (ni hprP (fun P => 23) (fun P => [P, P + 1]) rfl) 9))); rw [h9]; exact (hXG_80 ()) h0) (fun _ => (hXH_76 ()))) (wm 4 152 rfl rfl) (wm 4 154 rfl rfl) (wm 0 52 rfl rfl) rfl rfl (by decide) rfl (wm 1 12 rfl rfl) (wm 4 155 rfl rfl) (by decide) hR ⟨sfr (F := F) (a := 1) (by decide), slo (L := Lo) (m := 8) (a := 21) (by decide)⟩ (n := 1) rfl rfl (Nat.le_of_ble_eq_true rfl) hl.1 dX7_tryCatch_35 (fun μ257 ρ d0 H locs hp G => ?_)
    obtain ⟨F_258, hI_259, hp_260, hp_261, hp_262, hp_263, hp_264, hp_265, hs_266, hs_267, hs_268, hs_269, hs_270, hs_271⟩ := hp
    have hn_272 : -1 ≤ μ257.1 26 10 ∧ μ257.1 26 10 ≤ 3000 := hI_259.nm.2.2.2.2.2.2.2.2.2.2.2.2
    have hk_273 := hI_259.pr (p := P) hprP
    unfold pk at hk_273
    have hc_274 : 16 ≤ μ257.2.1 (P + 1) ∧ μ257.2.1 (P + 1) ≤ 73024 := hI_259.rm.1 _ hprP.cap
    have hk_275 := hI_259.row (r := P + 2) (hprP.row)
    unfold rk at hk_275
    have htb_276 := hp_260.b
    replace hp_265 := fun _ : Unit => hp_265
    have hXX_277 : ∀ _ : Unit, μ257.1 26 11 = 0 → TRX μ μ257 P tt r_5 ((2 * (7 - μ.1 23 9)) + 1) := fun _ h0 => ((hXT_79 ()) (by have h9 : μ54.1 26 11 = μ54.1 26 11 := rfl; have h8 : μ257.1 26 11 = μ257.1 26 11 := rfl; omega)).ca (((hp_265 ()) h0).mn (by have h9 : μ54.1 23 9 = μ.1 23 9 := (hs_67.trans ((F_21.1 23 (ni hprP (fun P => 23) (fun P => [P, P + 1]) rfl) 9).trans (F_6.1 23 (ni hprP (fun P => 23) (fun P => [P, P + 1]) rfl) 9))); omega)) (hst ())
    refine lv_goto (tgt := 61) hx hb dX7_tryCatch_38 (by decide) ?_
    refine lv_aload_n hx hb dX7_tryCatch_61 rfl (lv_at hl 2 rfl) ?_
    refine lv_sipush (v := iv 212) hx hb dX7_tryCatch_62 rfl ?_
    refine xc_iV G (b := 23) (rest := []) (As := [.int (iv 212)]) (c_X7_took ω l μ257 212 (by unfold ir; omega) hI_259 hp_260 (by omega)) (wm 3 160 rfl rfl) (wm 3 162 rfl rfl) (wm 0 9 rfl rfl) rfl rfl (by decide) rfl (wm 1 12 rfl rfl) (wm 3 163 rfl rfl) (by decide) hR ⟨nfB hF (by decide), nlB hLo (by decide)⟩ (n := 1) rfl rfl (Nat.le_of_ble_eq_true rfl) hl.1 dX7_tryCatch_65 (fun r_279 μ278 ρ d0 H locs hr_r_279 hp G => ?_)
    have hr_r_279 : -2147483648 ≤ r_279 ∧ r_279 ≤ 2147483647 := hr_r_279
    obtain ⟨F_280, hI_281, hp_282, hp_283, hs_284, hs_285, hs_286, hs_287, hs_288⟩ := hp
    have hn_289 : -1 ≤ μ278.1 26 10 ∧ μ278.1 26 10 ≤ 3000 := hI_281.nm.2.2.2.2.2.2.2.2.2.2.2.2
    have htb_290 := hp_282.b
    refine xb_if_eq (tgt := 86) hx hb (by unfold ir; omega) dX7_tryCatch_68 (by decide) (fun c_68 => ?_) (fun c_68 => ?_)
    · clear hk_1 hc_2 hk_38 hk_71 hc_72 hk_73 hk_273 hc_274 hk_275
      have e_291 : μ278.1 26 11 = μ257.1 26 11 := hs_284
      have htX_292 : ∀ _ : Unit, μ278.1 26 11 = 0 → TRX μ μ278 P tt r_5 ((2 * (7 - μ.1 23 9)) + 1) := fun _ h0 => TRX.fr (K := [26]) (hXX_277 () (by have h9 : μ257.1 26 11 = μ257.1 26 11 := rfl; have h8 : μ278.1 26 11 = μ257.1 26 11 := hs_284; omega)) (Fr.tr Fr.rf F_280 (by decide)) (npL_p (L := [26]) (by decide) hprP).1 (npL_p (L := [26]) (by decide) hprP).2.1
      have e_293 : μ278.1 26 11 = μ257.1 26 11 := hs_284
      have e_294 : μ278.1 P 1 = μ257.1 P 1 := (F_280.1 P (ni hprP (fun P => P) (fun P => [26]) rfl) 1)
      have e_295 : μ278.1 P 1 = μ257.1 P 1 := (F_280.1 P (ni hprP (fun P => P) (fun P => [26]) rfl) 1)
      have e_296 : μ278.1 26 11 = μ257.1 26 11 := hs_284
      have e_297 : μ278.1 (P + 2) 3 = μ257.1 (P + 2) 3 := (F_280.1 (P + 2) (ni hprP (fun P => P + 2) (fun P => [26]) rfl) 3)
      have e_298 : μ278.1 P 1 = μ257.1 P 1 := (F_280.1 P (ni hprP (fun P => P) (fun P => [26]) rfl) 1)
      have e_299 : μ278.1 (P + 2) 3 = μ257.1 (P + 2) 3 := (F_280.1 (P + 2) (ni hprP (fun P => P + 2) (fun P => [26]) rfl) 3)
      exact xr_v G hret hlk dX7_tryCatch_86 ⟨(Fr.tr (Fr.tr (Fr.tr (Fr.tr (Fr.tr Fr.rf F_6 (si hprP (fun P => [P, P + 1]) (fun P => [2, 3, 4, 23, 24, 25, 26, P, P + 1, P + 2, (P + 2) + 1, (P + 2) + 2, (P + 2) + 3]) rfl)) F_21 (si hprP (fun P => [P, P + 1]) (fun P => [2, 3, 4, 23, 24, 25, 26, P, P + 1, P + 2, (P + 2) + 1, (P + 2) + 2, (P + 2) + 3]) rfl)) F_55 (si hprP (fun P => [2, 3, 4, 23, 24, 25, 26, P, P + 1, P + 2, (P + 2) + 1, (P + 2) + 2, (P + 2) + 3]) (fun P => [2, 3, 4, 23, 24, 25, 26, P, P + 1, P + 2, (P + 2) + 1, (P + 2) + 2, (P + 2) + 3]) rfl)) F_258 (si hprP (fun P => [2, 3, 4, 23, 24, 25, 26, P, P + 1, P + 2, (P + 2) + 1, (P + 2) + 2, (P + 2) + 3]) (fun P => [2, 3, 4, 23, 24, 25, 26, P, P + 1, P + 2, (P + 2) + 1, (P + 2) + 2, (P + 2) + 3]) rfl)) F_280 (si hprP (fun P => [26]) (fun P => [2, 3, 4, 23, 24, 25, 26, P, P + 1, P + 2, (P + 2) + 1, (P + 2) + 2, (P + 2) + 3]) rfl)), hI_281, hp_282, (by omega), (by omega), (by omega), (by omega), (fun h0 => ((htX_292 ()) h0).es (hst ()) |>.mn (by omega)), (((F_280.1 23 (by decide) 2).trans (hs_266.trans (hs_64.trans ((F_21.1 23 (ni hprP (fun P => 23) (fun P => [P, P + 1]) rfl) 2).trans ((F_6.1 23 (ni hprP (fun P => 23) (fun P => [P, P + 1]) rfl) 2).trans hP.symm)))))).trans hP, ((F_280.1 23 (by decide) 7).trans (hs_267.trans (hs_65.trans ((F_21.1 23 (ni hprP (fun P => 23) (fun P => [P, P + 1]) rfl) 7).trans (F_6.1 23 (ni hprP (fun P => 23) (fun P => [P, P + 1]) rfl) 7))))), (((F_280.1 23 (by decide) 8).trans (hs_268.trans (hs_66.trans ((F_21.1 23 (ni hprP (fun P => 23) (fun P => [P, P + 1]) rfl) 8).trans ((F_6.1 23 (ni hprP (fun P => 23) (fun P => [P, P + 1]) rfl) 8).trans htt.symm)))))).trans htt, ((F_280.1 23 (by decide) 9).trans (hs_269.trans (hs_67.trans ((F_21.1 23 (ni hprP (fun P => 23) (fun P => [P, P + 1]) rfl) 9).trans (F_6.1 23 (ni hprP (fun P => 23) (fun P => [P, P + 1]) rfl) 9))))), (hs_285.trans (hs_270.trans (hs_68.trans ((F_21.1 26 (ni hprP (fun P => 26) (fun P => [P, P + 1]) rfl) 6).trans (F_6.1 26 (ni hprP (fun P => 26) (fun P => [P, P + 1]) rfl) 6))))), ((F_280.1 P (ni hprP (fun P => P) (fun P => [26]) rfl) 7).trans (hs_271.trans (hs_69.trans (hs_26.trans hs_11))))⟩
    · have htX_300 : ∀ _ : Unit, μ278.1 26 11 = 0 → TRX μ μ278 P tt r_5 ((2 * (7 - μ.1 23 9)) + 1) := fun _ h0 => TRX.fr (K := [26]) (hXX_277 () (by have h9 : μ257.1 26 11 = μ257.1 26 11 := rfl; have h8 : μ278.1 26 11 = μ257.1 26 11 := hs_284; omega)) (Fr.tr Fr.rf F_280 (by decide)) (npL_p (L := [26]) (by decide) hprP).1 (npL_p (L := [26]) (by decide) hprP).2.1
      have hXH_301 : ∀ _ : Unit, μ278.1 26 11 = 0 → HC μ278 P tt 0 := fun _ h0 => ((htX_300 ()) h0).hc (hst ())
      have hXw_302 : ∀ _ : Unit, μ278.1 26 11 = 0 → Wp μ278 P r_5 0 := fun _ h0 => ((htX_300 ()) h0).w (hst ())
      refine lv_aload_n hx hb dX7_tryCatch_71 rfl (lv_at hl 2 rfl) ?_
      refine xa_getr G fd_X7 (a := 23) (x := P) 2 rfl (by decide) rfl (wm 2 19 rfl rfl) ⟨rfl, rfl, rfl⟩ dX7_tryCatch_72 rfl ((F_280.1 23 (by decide) 2).trans (hs_266.trans (hs_64.trans ((F_21.1 23 (ni hprP (fun P => 23) (fun P => [P, P + 1]) rfl) 2).trans ((F_6.1 23 (ni hprP (fun P => 23) (fun P => [P, P + 1]) rfl) 2).trans hP.symm))))) (by omega) (hprP.hq ω ρ) ?_
      refine lv_iload_n hx hb dX7_tryCatch_75 rfl (lv_at hl 1 rfl) ?_
      refine lv_bipush (v := iv 28) hx hb dX7_tryCatch_76 rfl ?_
      have e_303 : μ278.1 P 1 = μ257.1 P 1 := (F_280.1 P (ni hprP (fun P => P) (fun P => [26]) rfl) 1)
      refine xc_vV G (b := P) (rest := []) (As := [.int (iv r_5), .int (iv 28)]) (c_X8_setOp ω l μ278 P r_5 28 (μ257.1 P 1) hprP (by unfold ir; omega) (by unfold ir; omega) hI_281 (by omega)) (wm 4 140 rfl rfl) (wm 4 141 rfl rfl) (wm 4 142 rfl rfl) hprP.ly rfl (by decide) (hprP.hq ω ρ) (wm 1 9 rfl rfl) (wm 4 143 rfl rfl) (by decide) hR ⟨nfB hF (by decide), nlB hLo (by decide)⟩ (n := 2) rfl rfl (Nat.le_of_ble_eq_true rfl) hl.1 dX7_tryCatch_78 (fun μ304 ρ d0 H locs hp G => ?_)
      obtain ⟨F_305, hI_306, hp_307, hp_308, ha_309⟩ := hp
      have hm_310 : ∀ _ : Unit, μ304.1 26 11 = 0 → MO μ278 μ304 P r_5 28 := by
        intro _ h0
        have hw_ := ((hXw_302 ()) (by have h9 : μ278.1 26 11 = μ257.1 26 11 := hs_284; have h8 : μ304.1 26 11 = μ257.1 26 11 := ((F_305.1 26 (ni hprP (fun P => 26) (fun P => [P + 1]) rfl) 11).trans hs_284); omega)).1
        have h8 : μ278.1 P 1 = μ257.1 P 1 := (F_280.1 P (ni hprP (fun P => P) (fun P => [26]) rfl) 1)
        have h9 : μ304.1 P 1 = μ257.1 P 1 := ((F_305.1 P (ni hprP (fun P => P) (fun P => [P + 1]) rfl) 1).trans (F_280.1 P (ni hprP (fun P => P) (fun P => [26]) rfl) 1))
        rcases hp_308 with ⟨q1, q2, q3⟩ | ⟨q1, q2⟩
        · exact MO.of (μ := μ278) (ν := μ304) (P := P) (by rw [h9, h8]) hw_ q3 ha_309
        · exfalso; exact q1 (by rw [← h8]; exact hw_)
      have hXR_311 : ∀ _ : Unit, μ304.1 26 11 = 0 → (Th (fun ν => TRX μ ν P tt r_5 ((2 * (7 - μ.1 23 9)) + 1)) (qO P r_5 28)) μ304 := fun _ h0 => ⟨_, (htX_300 ()) (by have h9 : μ278.1 26 11 = μ257.1 26 11 := hs_284; have h8 : μ304.1 26 11 = μ257.1 26 11 := ((F_305.1 26 (ni hprP (fun P => 26) (fun P => [P + 1]) rfl) 11).trans hs_284); omega), (hm_310 ()) h0⟩
      have hXH_312 : ∀ _ : Unit, μ304.1 26 11 = 0 → HC μ304 P tt 0 := fun _ h0 => ((hXH_301 ()) (by have h9 : μ278.1 26 11 = μ257.1 26 11 := hs_284; have h8 : μ304.1 26 11 = μ257.1 26 11 := ((F_305.1 26 (ni hprP (fun P => 26) (fun P => [P + 1]) rfl) 11).trans hs_284); omega)).mo ((hm_310 ()) h0) ((hXw_302 ()) (by have h9 : μ278.1 26 11 = μ257.1 26 11 := hs_284; have h8 : μ304.1 26 11 = μ257.1 26 11 := ((F_305.1 26 (ni hprP (fun P => 26) (fun P => [P + 1]) rfl) 11).trans hs_284); omega))
      have hXw_313 : ∀ _ : Unit, μ304.1 26 11 = 0 → Wp μ304 P r_5 28 := fun _ h0 => Wp.mo2 ((hm_310 ()) h0)
      refine lv_aload_n hx hb dX7_tryCatch_81 rfl (lv_at hl 2 rfl) ?_
      refine lv_iload_n hx hb dX7_tryCatch_82 rfl (lv_at hl 1 rfl) ?_
      have e_314 : μ304.1 23 2 = P := ((F_305.1 23 (ni hprP (fun P => 23) (fun P => [P + 1]) rfl) 2).trans ((F_280.1 23 (by decide) 2).trans (hs_266.trans (hs_64.trans ((F_21.1 23 (ni hprP (fun P => 23) (fun P => [P, P + 1]) rfl) 2).trans ((F_6.1 23 (ni hprP (fun P => 23) (fun P => [P, P + 1]) rfl) 2).trans hP.symm))))))
      have e_315 : μ304.1 23 8 = tt := ((F_305.1 23 (ni hprP (fun P => 23) (fun P => [P + 1]) rfl) 8).trans ((F_280.1 23 (by decide) 8).trans (hs_268.trans (hs_66.trans ((F_21.1 23 (ni hprP (fun P => 23) (fun P => [P, P + 1]) rfl) 8).trans ((F_6.1 23 (ni hprP (fun P => 23) (fun P => [P, P + 1]) rfl) 8).trans htt.symm))))))
      have htk_316 : TK μ304 := hp_282.fr (K := [P + 1]) (Fr.tr Fr.rf F_305 (si hprP (fun P => [P + 1]) (fun P => [P + 1]) rfl)) (ni hprP (fun P => 26) (fun P => [P + 1]) rfl) (ni hprP (fun P => 28) (fun P => [P + 1]) rfl) (ni hprP (fun P => 29) (fun P => [P + 1]) rfl)
      have e_317 : μ304.1 P 1 = μ257.1 P 1 := ((F_305.1 P (ni hprP (fun P => P) (fun P => [P + 1]) rfl) 1).trans (F_280.1 P (ni hprP (fun P => P) (fun P => [26]) rfl) 1))
      have e_318 : μ304.1 26 10 = μ278.1 26 10 := (F_305.1 26 (ni hprP (fun P => 26) (fun P => [P + 1]) rfl) 10)
      have e_319 : μ304.1 26 11 = μ257.1 26 11 := ((F_305.1 26 (ni hprP (fun P => 26) (fun P => [P + 1]) rfl) 11).trans hs_284)
      have e_320 : μ304.1 (P + 2) 3 = μ257.1 (P + 2) 3 := ((F_305.1 (P + 2) (ni hprP (fun P => P + 2) (fun P => [P + 1]) rfl) 3).trans (F_280.1 (P + 2) (ni hprP (fun P => P + 2) (fun P => [26]) rfl) 3))
      have e_321 : μ304.1 P 1 = μ257.1 P 1 := ((F_305.1 P (ni hprP (fun P => P) (fun P => [P + 1]) rfl) 1).trans (F_280.1 P (ni hprP (fun P => P) (fun P => [26]) rfl) 1))
      have e_322 : μ304.1 23 9 = μ.1 23 9 := ((F_305.1 23 (ni hprP (fun P => 23) (fun P => [P + 1]) rfl) 9).trans ((F_280.1 23 (by decide) 9).trans (hs_269.trans (hs_67.trans ((F_21.1 23 (ni hprP (fun P => 23) (fun P => [P, P + 1]) rfl) 9).trans (F_6.1 23 (ni hprP (fun P => 23) (fun P => [P, P + 1]) rfl) 9))))))
      have e_323 : μ304.1 23 9 = μ.1 23 9 := ((F_305.1 23 (ni hprP (fun P => 23) (fun P => [P + 1]) rfl) 9).trans ((F_280.1 23 (by decide) 9).trans (hs_269.trans (hs_67.trans ((F_21.1 23 (ni hprP (fun P => 23) (fun P => [P, P + 1]) rfl) 9).trans (F_6.1 23 (ni hprP (fun P => 23) (fun P => [P, P + 1]) rfl) 9))))))
      have e_324 : μ304.1 26 11 = μ257.1 26 11 := ((F_305.1 26 (ni hprP (fun P => 26) (fun P => [P + 1]) rfl) 11).trans hs_284)
      have e_325 : μ304.1 26 10 = μ278.1 26 10 := (F_305.1 26 (ni hprP (fun P => 26) (fun P => [P + 1]) rfl) 10)
      have e_326 : μ304.1 P 1 = μ257.1 P 1 := ((F_305.1 P (ni hprP (fun P => P) (fun P => [P + 1]) rfl) 1).trans (F_280.1 P (ni hprP (fun P => P) (fun P => [26]) rfl) 1))
      have e_327 : μ304.1 P 1 = μ257.1 P 1 := ((F_305.1 P (ni hprP (fun P => P) (fun P => [P + 1]) rfl) 1).trans (F_280.1 P (ni hprP (fun P => P) (fun P => [26]) rfl) 1))
      have e_328 : μ304.1 26 10 = μ278.1 26 10 := (F_305.1 26 (ni hprP (fun P => 26) (fun P => [P + 1]) rfl) 10)
      have e_329 : μ304.1 26 11 = μ257.1 26 11 := ((F_305.1 26 (ni hprP (fun P => 26) (fun P => [P + 1]) rfl) 11).trans hs_284)
      have e_330 : μ304.1 (P + 2) 3 = μ257.1 (P + 2) 3 := ((F_305.1 (P + 2) (ni hprP (fun P => P + 2) (fun P => [P + 1]) rfl) 3).trans (F_280.1 (P + 2) (ni hprP (fun P => P + 2) (fun P => [26]) rfl) 3))
      have e_331 : μ304.1 P 1 = μ257.1 P 1 := ((F_305.1 P (ni hprP (fun P => P) (fun P => [P + 1]) rfl) 1).trans (F_280.1 P (ni hprP (fun P => P) (fun P => [26]) rfl) 1))
      have e_332 : μ304.1 (P + 2) 3 = μ257.1 (P + 2) 3 := ((F_305.1 (P + 2) (ni hprP (fun P => P + 2) (fun P => [P + 1]) rfl) 3).trans (F_280.1 (P + 2) (ni hprP (fun P => P + 2) (fun P => [26]) rfl) 3))
      refine xc_vV G (b := 23) (rest := []) (As := [.int (iv r_5)]) (c_X7_finishing ω l μ304 r_5 F Lo kf P tt (by unfold ir; omega) hI_306 (by omega) (by omega) hF hLo hK htk_316 (by omega) (by omega) (by omega) (by omega) (by omega) (fun _ => (hXw_313 ())) (fun _ => (hXH_312 ()))) (wm 4 167 rfl rfl) (wm 4 169 rfl rfl) (wm 0 54 rfl rfl) rfl rfl (by decide) rfl (wm 1 12 rfl rfl) (wm 4 170 rfl rfl) (by decide) hR ⟨sfr (F := F) (a := 1) (by decide), slo (L := Lo) (m := 2) (a := 21) (by decide)⟩ (n := 1) rfl rfl (Nat.le_of_ble_eq_true rfl) hl.1 dX7_tryCatch_83 (fun μ333 ρ d0 H locs hp G => ?_)
      obtain ⟨F_334, hI_335, hp_336, hp_337, hp_338, hp_339, hp_340, hp_341, hs_342, hs_343, hs_344, hs_345, hs_346, hs_347⟩ := hp
      have hn_348 : -1 ≤ μ333.1 26 10 ∧ μ333.1 26 10 ≤ 3000 := hI_335.nm.2.2.2.2.2.2.2.2.2.2.2.2
      have hk_349 := hI_335.pr (p := P) hprP
      unfold pk at hk_349
      have hc_350 : 16 ≤ μ333.2.1 (P + 1) ∧ μ333.2.1 (P + 1) ≤ 73024 := hI_335.rm.1 _ hprP.cap
      have hk_351 := hI_335.row (r := P + 2) (hprP.row)
      unfold rk at hk_351
      have htb_352 := hp_336.b
      replace hp_341 := fun _ : Unit => hp_341
      have hXR_353 : ∀ _ : Unit, μ333.1 26 11 = 0 → (Th (Th (fun ν => TRX μ ν P tt r_5 ((2 * (7 - μ.1 23 9)) + 1)) (qO P r_5 28)) (qI P tt r_5 (2 * (7 - μ.1 23 9)))) μ333 := fun _ h0 => ⟨_, (hXR_311 ()) (by have h9 : μ304.1 26 11 = μ257.1 26 11 := ((F_305.1 26 (ni hprP (fun P => 26) (fun P => [P + 1]) rfl) 11).trans hs_284); have h8 : μ333.1 26 11 = μ333.1 26 11 := rfl; omega), ((hp_341 ()) h0).mn (by have h9 : μ304.1 23 9 = μ.1 23 9 := ((F_305.1 23 (ni hprP (fun P => 23) (fun P => [P + 1]) rfl) 9).trans ((F_280.1 23 (by decide) 9).trans (hs_269.trans (hs_67.trans ((F_21.1 23 (ni hprP (fun P => 23) (fun P => [P, P + 1]) rfl) 9).trans (F_6.1 23 (ni hprP (fun P => 23) (fun P => [P, P + 1]) rfl) 9)))))); omega)⟩
      clear hk_1 hc_2 hk_38 hk_71 hc_72 hk_73 hk_273 hc_274 hk_275 hk_349 hc_350 hk_351
      exact xr_v G hret hlk dX7_tryCatch_86 ⟨(Fr.tr (Fr.tr (Fr.tr (Fr.tr (Fr.tr (Fr.tr (Fr.tr Fr.rf F_6 (si hprP (fun P => [P, P + 1]) (fun P => [2, 3, 4, 23, 24, 25, 26, P, P + 1, P + 2, (P + 2) + 1, (P + 2) + 2, (P + 2) + 3]) rfl)) F_21 (si hprP (fun P => [P, P + 1]) (fun P => [2, 3, 4, 23, 24, 25, 26, P, P + 1, P + 2, (P + 2) + 1, (P + 2) + 2, (P + 2) + 3]) rfl)) F_55 (si hprP (fun P => [2, 3, 4, 23, 24, 25, 26, P, P + 1, P + 2, (P + 2) + 1, (P + 2) + 2, (P + 2) + 3]) (fun P => [2, 3, 4, 23, 24, 25, 26, P, P + 1, P + 2, (P + 2) + 1, (P + 2) + 2, (P + 2) + 3]) rfl)) F_258 (si hprP (fun P => [2, 3, 4, 23, 24, 25, 26, P, P + 1, P + 2, (P + 2) + 1, (P + 2) + 2, (P + 2) + 3]) (fun P => [2, 3, 4, 23, 24, 25, 26, P, P + 1, P + 2, (P + 2) + 1, (P + 2) + 2, (P + 2) + 3]) rfl)) F_280 (si hprP (fun P => [26]) (fun P => [2, 3, 4, 23, 24, 25, 26, P, P + 1, P + 2, (P + 2) + 1, (P + 2) + 2, (P + 2) + 3]) rfl)) F_305 (si hprP (fun P => [P + 1]) (fun P => [2, 3, 4, 23, 24, 25, 26, P, P + 1, P + 2, (P + 2) + 1, (P + 2) + 2, (P + 2) + 3]) rfl)) F_334 (si hprP (fun P => [2, 3, 4, 23, 24, 25, 26, P, P + 1, P + 2, (P + 2) + 1, (P + 2) + 2, (P + 2) + 3]) (fun P => [2, 3, 4, 23, 24, 25, 26, P, P + 1, P + 2, (P + 2) + 1, (P + 2) + 2, (P + 2) + 3]) rfl)), hI_335, hp_336, (by omega), (by omega), (by omega), (by omega), (fun h0 => as_tf (hst ()) ht ((hXR_353 ()) h0) (by omega)), ((hs_342.trans ((F_305.1 23 (ni hprP (fun P => 23) (fun P => [P + 1]) rfl) 2).trans ((F_280.1 23 (by decide) 2).trans (hs_266.trans (hs_64.trans ((F_21.1 23 (ni hprP (fun P => 23) (fun P => [P, P + 1]) rfl) 2).trans ((F_6.1 23 (ni hprP (fun P => 23) (fun P => [P, P + 1]) rfl) 2).trans hP.symm)))))))).trans hP, (hs_343.trans ((F_305.1 23 (ni hprP (fun P => 23) (fun P => [P + 1]) rfl) 7).trans ((F_280.1 23 (by decide) 7).trans (hs_267.trans (hs_65.trans ((F_21.1 23 (ni hprP (fun P => 23) (fun P => [P, P + 1]) rfl) 7).trans (F_6.1 23 (ni hprP (fun P => 23) (fun P => [P, P + 1]) rfl) 7))))))), ((hs_344.trans ((F_305.1 23 (ni hprP (fun P => 23) (fun P => [P + 1]) rfl) 8).trans ((F_280.1 23 (by decide) 8).trans (hs_268.trans (hs_66.trans ((F_21.1 23 (ni hprP (fun P => 23) (fun P => [P, P + 1]) rfl) 8).trans ((F_6.1 23 (ni hprP (fun P => 23) (fun P => [P, P + 1]) rfl) 8).trans htt.symm)))))))).trans htt, (hs_345.trans ((F_305.1 23 (ni hprP (fun P => 23) (fun P => [P + 1]) rfl) 9).trans ((F_280.1 23 (by decide) 9).trans (hs_269.trans (hs_67.trans ((F_21.1 23 (ni hprP (fun P => 23) (fun P => [P, P + 1]) rfl) 9).trans (F_6.1 23 (ni hprP (fun P => 23) (fun P => [P, P + 1]) rfl) 9))))))), (hs_346.trans ((F_305.1 26 (ni hprP (fun P => 26) (fun P => [P + 1]) rfl) 6).trans (hs_285.trans (hs_270.trans (hs_68.trans ((F_21.1 26 (ni hprP (fun P => 26) (fun P => [P, P + 1]) rfl) 6).trans (F_6.1 26 (ni hprP (fun P => 26) (fun P => [P, P + 1]) rfl) 6))))))), (hs_347.trans ((F_305.1 P (ni hprP (fun P => P) (fun P => [P + 1]) rfl) 7).trans ((F_280.1 P (ni hprP (fun P => P) (fun P => [26]) rfl) 7).trans (hs_271.trans (hs_69.trans (hs_26.trans hs_11))))))⟩
