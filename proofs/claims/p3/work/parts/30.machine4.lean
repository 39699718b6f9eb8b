abbrev cX4_sign : ByteArray := prog_6_method_41_code
def yX4_sign : MethodName := ⟨RX4, "sign", "(I)V"⟩
abbrev cX4_whatFailsGoing : ByteArray := prog_6_method_61_code
def yX4_whatFailsGoing : MethodName := ⟨RX4, "whatFailsGoing", "(II)I"⟩
theorem dX4_sign_0 : decode cX4_sign 0 = .ok (.aload_n 0, 1) := by decide +kernel
theorem dX4_sign_1 : decode cX4_sign 1 = .ok (.invokevirtual 171, 3) := by decide +kernel
theorem dX4_sign_4 : decode cX4_sign 4 = .ok (.ifCond .ne 4, 3) := by decide +kernel
theorem dX4_sign_7 : decode cX4_sign 7 = .ok (.return_, 1) := by decide +kernel
theorem dX4_sign_8 : decode cX4_sign 8 = .ok (.aload_n 0, 1) := by decide +kernel
theorem dX4_sign_9 : decode cX4_sign 9 = .ok (.invokevirtual 255, 3) := by decide +kernel
theorem dX4_sign_12 : decode cX4_sign 12 = .ok (.iconst 1, 1) := by decide +kernel
theorem dX4_sign_13 : decode cX4_sign 13 = .ok (.isub, 1) := by decide +kernel
theorem dX4_sign_14 : decode cX4_sign 14 = .ok (.istore_n 2, 1) := by decide +kernel
theorem dX4_sign_15 : decode cX4_sign 15 = .ok (.iload_n 1, 1) := by decide +kernel
theorem dX4_sign_16 : decode cX4_sign 16 = .ok (.sipush 129, 3) := by decide +kernel
theorem dX4_sign_19 : decode cX4_sign 19 = .ok (.if_icmp .eq 10, 3) := by decide +kernel
theorem dX4_sign_22 : decode cX4_sign 22 = .ok (.iload_n 1, 1) := by decide +kernel
theorem dX4_sign_23 : decode cX4_sign 23 = .ok (.sipush 130, 3) := by decide +kernel
theorem dX4_sign_26 : decode cX4_sign 26 = .ok (.if_icmp .ne 37, 3) := by decide +kernel
theorem dX4_sign_29 : decode cX4_sign 29 = .ok (.aload_n 0, 1) := by decide +kernel
theorem dX4_sign_30 : decode cX4_sign 30 = .ok (.iconst 2, 1) := by decide +kernel
theorem dX4_sign_31 : decode cX4_sign 31 = .ok (.aload_n 0, 1) := by decide +kernel
theorem dX4_sign_32 : decode cX4_sign 32 = .ok (.iload_n 2, 1) := by decide +kernel
theorem dX4_sign_33 : decode cX4_sign 33 = .ok (.iload_n 2, 1) := by decide +kernel
theorem dX4_sign_34 : decode cX4_sign 34 = .ok (.iconst 1, 1) := by decide +kernel
theorem dX4_sign_35 : decode cX4_sign 35 = .ok (.iadd, 1) := by decide +kernel
theorem dX4_sign_36 : decode cX4_sign 36 = .ok (.invokevirtual 398, 3) := by decide +kernel
theorem dX4_sign_39 : decode cX4_sign 39 = .ok (.iload_n 1, 1) := by decide +kernel
theorem dX4_sign_40 : decode cX4_sign 40 = .ok (.sipush 129, 3) := by decide +kernel
theorem dX4_sign_43 : decode cX4_sign 43 = .ok (.if_icmp .ne 7, 3) := by decide +kernel
theorem dX4_sign_46 : decode cX4_sign 46 = .ok (.iconst 1, 1) := by decide +kernel
theorem dX4_sign_47 : decode cX4_sign 47 = .ok (.goto 4, 3) := by decide +kernel
theorem dX4_sign_50 : decode cX4_sign 50 = .ok (.iconst 0, 1) := by decide +kernel
theorem dX4_sign_51 : decode cX4_sign 51 = .ok (.if_icmp .ne 7, 3) := by decide +kernel
theorem dX4_sign_54 : decode cX4_sign 54 = .ok (.iconst 1, 1) := by decide +kernel
theorem dX4_sign_55 : decode cX4_sign 55 = .ok (.goto 4, 3) := by decide +kernel
theorem dX4_sign_58 : decode cX4_sign 58 = .ok (.iconst 0, 1) := by decide +kernel
theorem dX4_sign_59 : decode cX4_sign 59 = .ok (.invokevirtual 401, 3) := by decide +kernel
theorem dX4_sign_62 : decode cX4_sign 62 = .ok (.return_, 1) := by decide +kernel
theorem dX4_sign_63 : decode cX4_sign 63 = .ok (.aload_n 0, 1) := by decide +kernel
theorem dX4_sign_64 : decode cX4_sign 64 = .ok (.getfield 14, 3) := by decide +kernel
theorem dX4_sign_67 : decode cX4_sign 67 = .ok (.iload_n 2, 1) := by decide +kernel
theorem dX4_sign_68 : decode cX4_sign 68 = .ok (.invokevirtual 87, 3) := by decide +kernel
theorem dX4_sign_71 : decode cX4_sign 71 = .ok (.iconst 1, 1) := by decide +kernel
theorem dX4_sign_72 : decode cX4_sign 72 = .ok (.if_icmp .ne 17, 3) := by decide +kernel
theorem dX4_sign_75 : decode cX4_sign 75 = .ok (.aload_n 0, 1) := by decide +kernel
theorem dX4_sign_76 : decode cX4_sign 76 = .ok (.getfield 14, 3) := by decide +kernel
theorem dX4_sign_79 : decode cX4_sign 79 = .ok (.iload_n 2, 1) := by decide +kernel
theorem dX4_sign_80 : decode cX4_sign 80 = .ok (.iconst 1, 1) := by decide +kernel
theorem dX4_sign_81 : decode cX4_sign 81 = .ok (.iadd, 1) := by decide +kernel
theorem dX4_sign_82 : decode cX4_sign 82 = .ok (.invokevirtual 87, 3) := by decide +kernel
theorem dX4_sign_85 : decode cX4_sign 85 = .ok (.iconst 1, 1) := by decide +kernel
theorem dX4_sign_86 : decode cX4_sign 86 = .ok (.if_icmp .eq 10, 3) := by decide +kernel
theorem dX4_sign_89 : decode cX4_sign 89 = .ok (.aload_n 0, 1) := by decide +kernel
theorem dX4_sign_90 : decode cX4_sign 90 = .ok (.iconst 4, 1) := by decide +kernel
theorem dX4_sign_91 : decode cX4_sign 91 = .ok (.iconst 2, 1) := by decide +kernel
theorem dX4_sign_92 : decode cX4_sign 92 = .ok (.invokevirtual 287, 3) := by decide +kernel
theorem dX4_sign_95 : decode cX4_sign 95 = .ok (.return_, 1) := by decide +kernel
theorem dX4_sign_96 : decode cX4_sign 96 = .ok (.iload_n 1, 1) := by decide +kernel
theorem dX4_sign_97 : decode cX4_sign 97 = .ok (.bipush 60, 2) := by decide +kernel
theorem dX4_sign_99 : decode cX4_sign 99 = .ok (.if_icmp .eq 23, 3) := by decide +kernel
theorem dX4_sign_102 : decode cX4_sign 102 = .ok (.iload_n 1, 1) := by decide +kernel
theorem dX4_sign_103 : decode cX4_sign 103 = .ok (.bipush 62, 2) := by decide +kernel
theorem dX4_sign_105 : decode cX4_sign 105 = .ok (.if_icmp .eq 17, 3) := by decide +kernel
theorem dX4_sign_108 : decode cX4_sign 108 = .ok (.iload_n 1, 1) := by decide +kernel
theorem dX4_sign_109 : decode cX4_sign 109 = .ok (.sipush 131, 3) := by decide +kernel
theorem dX4_sign_112 : decode cX4_sign 112 = .ok (.if_icmp .eq 10, 3) := by decide +kernel
theorem dX4_sign_115 : decode cX4_sign 115 = .ok (.iload_n 1, 1) := by decide +kernel
theorem dX4_sign_116 : decode cX4_sign 116 = .ok (.sipush 132, 3) := by decide +kernel
theorem dX4_sign_119 : decode cX4_sign 119 = .ok (.if_icmp .ne 7, 3) := by decide +kernel
theorem dX4_sign_122 : decode cX4_sign 122 = .ok (.iconst 1, 1) := by decide +kernel
theorem dX4_sign_123 : decode cX4_sign 123 = .ok (.goto 4, 3) := by decide +kernel
theorem dX4_sign_126 : decode cX4_sign 126 = .ok (.iconst 0, 1) := by decide +kernel
theorem dX4_sign_127 : decode cX4_sign 127 = .ok (.istore_n 3, 1) := by decide +kernel
theorem dX4_sign_128 : decode cX4_sign 128 = .ok (.iload_n 3, 1) := by decide +kernel
theorem dX4_sign_129 : decode cX4_sign 129 = .ok (.ifCond .eq 23, 3) := by decide +kernel
theorem dX4_sign_132 : decode cX4_sign 132 = .ok (.aload_n 0, 1) := by decide +kernel
theorem dX4_sign_133 : decode cX4_sign 133 = .ok (.iconst 2, 1) := by decide +kernel
theorem dX4_sign_134 : decode cX4_sign 134 = .ok (.aload_n 0, 1) := by decide +kernel
theorem dX4_sign_135 : decode cX4_sign 135 = .ok (.iload_n 1, 1) := by decide +kernel
theorem dX4_sign_136 : decode cX4_sign 136 = .ok (.iload_n 2, 1) := by decide +kernel
theorem dX4_sign_137 : decode cX4_sign 137 = .ok (.invokevirtual 404, 3) := by decide +kernel
theorem dX4_sign_140 : decode cX4_sign 140 = .ok (.ifCond .eq 7, 3) := by decide +kernel
theorem dX4_sign_143 : decode cX4_sign 143 = .ok (.iconst 1, 1) := by decide +kernel
theorem dX4_sign_144 : decode cX4_sign 144 = .ok (.goto 4, 3) := by decide +kernel
theorem dX4_sign_147 : decode cX4_sign 147 = .ok (.iconst 0, 1) := by decide +kernel
theorem dX4_sign_148 : decode cX4_sign 148 = .ok (.invokevirtual 401, 3) := by decide +kernel
theorem dX4_sign_151 : decode cX4_sign 151 = .ok (.return_, 1) := by decide +kernel
theorem dX4_sign_152 : decode cX4_sign 152 = .ok (.aload_n 0, 1) := by decide +kernel
theorem dX4_sign_153 : decode cX4_sign 153 = .ok (.getfield 36, 3) := by decide +kernel
theorem dX4_sign_156 : decode cX4_sign 156 = .ok (.invokevirtual 268, 3) := by decide +kernel
theorem dX4_sign_159 : decode cX4_sign 159 = .ok (.iconst 3, 1) := by decide +kernel
theorem dX4_sign_160 : decode cX4_sign 160 = .ok (.if_icmp .ne 12, 3) := by decide +kernel
theorem dX4_sign_163 : decode cX4_sign 163 = .ok (.aload_n 0, 1) := by decide +kernel
theorem dX4_sign_164 : decode cX4_sign 164 = .ok (.iload_n 1, 1) := by decide +kernel
theorem dX4_sign_165 : decode cX4_sign 165 = .ok (.iload_n 2, 1) := by decide +kernel
theorem dX4_sign_166 : decode cX4_sign 166 = .ok (.invokevirtual 407, 3) := by decide +kernel
theorem dX4_sign_169 : decode cX4_sign 169 = .ok (.goto 9, 3) := by decide +kernel
theorem dX4_sign_172 : decode cX4_sign 172 = .ok (.aload_n 0, 1) := by decide +kernel
theorem dX4_sign_173 : decode cX4_sign 173 = .ok (.iload_n 1, 1) := by decide +kernel
theorem dX4_sign_174 : decode cX4_sign 174 = .ok (.iload_n 2, 1) := by decide +kernel
theorem dX4_sign_175 : decode cX4_sign 175 = .ok (.invokevirtual 410, 3) := by decide +kernel
theorem dX4_sign_178 : decode cX4_sign 178 = .ok (.istore 4, 2) := by decide +kernel
theorem dX4_sign_180 : decode cX4_sign 180 = .ok (.iload 4, 2) := by decide +kernel
theorem dX4_sign_182 : decode cX4_sign 182 = .ok (.ifCond .eq 13, 3) := by decide +kernel
theorem dX4_sign_185 : decode cX4_sign 185 = .ok (.aload_n 0, 1) := by decide +kernel
theorem dX4_sign_186 : decode cX4_sign 186 = .ok (.iload 4, 2) := by decide +kernel
theorem dX4_sign_188 : decode cX4_sign 188 = .ok (.iconst 2, 1) := by decide +kernel
theorem dX4_sign_189 : decode cX4_sign 189 = .ok (.invokevirtual 287, 3) := by decide +kernel
theorem dX4_sign_192 : decode cX4_sign 192 = .ok (.goto 11, 3) := by decide +kernel
theorem dX4_sign_195 : decode cX4_sign 195 = .ok (.aload_n 0, 1) := by decide +kernel
theorem dX4_sign_196 : decode cX4_sign 196 = .ok (.getfield 14, 3) := by decide +kernel
theorem dX4_sign_199 : decode cX4_sign 199 = .ok (.iconst 1, 1) := by decide +kernel
theorem dX4_sign_200 : decode cX4_sign 200 = .ok (.invokevirtual 262, 3) := by decide +kernel
theorem dX4_sign_203 : decode cX4_sign 203 = .ok (.return_, 1) := by decide +kernel
theorem dX4_whatFailsGoing_0 : decode cX4_whatFailsGoing 0 = .ok (.aload_n 0, 1) := by decide +kernel
theorem dX4_whatFailsGoing_1 : decode cX4_whatFailsGoing 1 = .ok (.getfield 36, 3) := by decide +kernel
theorem dX4_whatFailsGoing_4 : decode cX4_whatFailsGoing 4 = .ok (.invokevirtual 268, 3) := by decide +kernel
theorem dX4_whatFailsGoing_7 : decode cX4_whatFailsGoing 7 = .ok (.istore_n 3, 1) := by decide +kernel
theorem dX4_whatFailsGoing_8 : decode cX4_whatFailsGoing 8 = .ok (.aload_n 0, 1) := by decide +kernel
theorem dX4_whatFailsGoing_9 : decode cX4_whatFailsGoing 9 = .ok (.invokevirtual 255, 3) := by decide +kernel
theorem dX4_whatFailsGoing_12 : decode cX4_whatFailsGoing 12 = .ok (.iload_n 2, 1) := by decide +kernel
theorem dX4_whatFailsGoing_13 : decode cX4_whatFailsGoing 13 = .ok (.isub, 1) := by decide +kernel
theorem dX4_whatFailsGoing_14 : decode cX4_whatFailsGoing 14 = .ok (.iconst 1, 1) := by decide +kernel
theorem dX4_whatFailsGoing_15 : decode cX4_whatFailsGoing 15 = .ok (.iadd, 1) := by decide +kernel
theorem dX4_whatFailsGoing_16 : decode cX4_whatFailsGoing 16 = .ok (.istore 4, 2) := by decide +kernel
theorem dX4_whatFailsGoing_18 : decode cX4_whatFailsGoing 18 = .ok (.iload 4, 2) := by decide +kernel
theorem dX4_whatFailsGoing_20 : decode cX4_whatFailsGoing 20 = .ok (.aload_n 0, 1) := by decide +kernel
theorem dX4_whatFailsGoing_21 : decode cX4_whatFailsGoing 21 = .ok (.invokevirtual 255, 3) := by decide +kernel
theorem dX4_whatFailsGoing_24 : decode cX4_whatFailsGoing 24 = .ok (.if_icmp .gt 44, 3) := by decide +kernel
theorem dX4_whatFailsGoing_27 : decode cX4_whatFailsGoing 27 = .ok (.iload_n 3, 1) := by decide +kernel
theorem dX4_whatFailsGoing_28 : decode cX4_whatFailsGoing 28 = .ok (.iload_n 1, 1) := by decide +kernel
theorem dX4_whatFailsGoing_29 : decode cX4_whatFailsGoing 29 = .ok (.if_icmp .eq 39, 3) := by decide +kernel
theorem dX4_whatFailsGoing_32 : decode cX4_whatFailsGoing 32 = .ok (.aload_n 0, 1) := by decide +kernel
theorem dX4_whatFailsGoing_33 : decode cX4_whatFailsGoing 33 = .ok (.invokevirtual 171, 3) := by decide +kernel
theorem dX4_whatFailsGoing_36 : decode cX4_whatFailsGoing 36 = .ok (.ifCond .ne 5, 3) := by decide +kernel
theorem dX4_whatFailsGoing_39 : decode cX4_whatFailsGoing 39 = .ok (.iconst 0, 1) := by decide +kernel
theorem dX4_whatFailsGoing_40 : decode cX4_whatFailsGoing 40 = .ok (.ireturn, 1) := by decide +kernel
theorem dX4_whatFailsGoing_41 : decode cX4_whatFailsGoing 41 = .ok (.aload_n 0, 1) := by decide +kernel
theorem dX4_whatFailsGoing_42 : decode cX4_whatFailsGoing 42 = .ok (.getfield 79, 3) := by decide +kernel
theorem dX4_whatFailsGoing_45 : decode cX4_whatFailsGoing 45 = .ok (.aload_n 0, 1) := by decide +kernel
theorem dX4_whatFailsGoing_46 : decode cX4_whatFailsGoing 46 = .ok (.getfield 14, 3) := by decide +kernel
theorem dX4_whatFailsGoing_49 : decode cX4_whatFailsGoing 49 = .ok (.iload 4, 2) := by decide +kernel
theorem dX4_whatFailsGoing_51 : decode cX4_whatFailsGoing 51 = .ok (.iload_n 3, 1) := by decide +kernel
theorem dX4_whatFailsGoing_52 : decode cX4_whatFailsGoing 52 = .ok (.iload_n 1, 1) := by decide +kernel
theorem dX4_whatFailsGoing_53 : decode cX4_whatFailsGoing 53 = .ok (.invokevirtual 361, 3) := by decide +kernel
theorem dX4_whatFailsGoing_56 : decode cX4_whatFailsGoing 56 = .ok (.ifCond .ne 6, 3) := by decide +kernel
theorem dX4_whatFailsGoing_59 : decode cX4_whatFailsGoing 59 = .ok (.bipush 9, 2) := by decide +kernel
theorem dX4_whatFailsGoing_61 : decode cX4_whatFailsGoing 61 = .ok (.ireturn, 1) := by decide +kernel
theorem dX4_whatFailsGoing_62 : decode cX4_whatFailsGoing 62 = .ok (.iinc 4 1, 3) := by decide +kernel
theorem dX4_whatFailsGoing_65 : decode cX4_whatFailsGoing 65 = .ok (.goto (-47), 3) := by decide +kernel
theorem dX4_whatFailsGoing_68 : decode cX4_whatFailsGoing 68 = .ok (.aload_n 0, 1) := by decide +kernel
theorem dX4_whatFailsGoing_69 : decode cX4_whatFailsGoing 69 = .ok (.getfield 36, 3) := by decide +kernel
theorem dX4_whatFailsGoing_72 : decode cX4_whatFailsGoing 72 = .ok (.invokevirtual 466, 3) := by decide +kernel
theorem dX4_whatFailsGoing_75 : decode cX4_whatFailsGoing 75 = .ok (.ifCond .eq 6, 3) := by decide +kernel
theorem dX4_whatFailsGoing_78 : decode cX4_whatFailsGoing 78 = .ok (.bipush 6, 2) := by decide +kernel
theorem dX4_whatFailsGoing_80 : decode cX4_whatFailsGoing 80 = .ok (.ireturn, 1) := by decide +kernel
theorem dX4_whatFailsGoing_81 : decode cX4_whatFailsGoing 81 = .ok (.iload_n 3, 1) := by decide +kernel
theorem dX4_whatFailsGoing_82 : decode cX4_whatFailsGoing 82 = .ok (.iload_n 1, 1) := by decide +kernel
theorem dX4_whatFailsGoing_83 : decode cX4_whatFailsGoing 83 = .ok (.if_icmp .eq 13, 3) := by decide +kernel
theorem dX4_whatFailsGoing_86 : decode cX4_whatFailsGoing 86 = .ok (.aload_n 0, 1) := by decide +kernel
theorem dX4_whatFailsGoing_87 : decode cX4_whatFailsGoing 87 = .ok (.getfield 47, 3) := by decide +kernel
theorem dX4_whatFailsGoing_90 : decode cX4_whatFailsGoing 90 = .ok (.iconst 5, 1) := by decide +kernel
theorem dX4_whatFailsGoing_91 : decode cX4_whatFailsGoing 91 = .ok (.dup2, 1) := by decide +kernel
theorem dX4_whatFailsGoing_92 : decode cX4_whatFailsGoing 92 = .ok (.iaload, 1) := by decide +kernel
theorem dX4_whatFailsGoing_93 : decode cX4_whatFailsGoing 93 = .ok (.iconst 1, 1) := by decide +kernel
theorem dX4_whatFailsGoing_94 : decode cX4_whatFailsGoing 94 = .ok (.iadd, 1) := by decide +kernel
theorem dX4_whatFailsGoing_95 : decode cX4_whatFailsGoing 95 = .ok (.iastore, 1) := by decide +kernel
theorem dX4_whatFailsGoing_96 : decode cX4_whatFailsGoing 96 = .ok (.iconst 0, 1) := by decide +kernel
theorem dX4_whatFailsGoing_97 : decode cX4_whatFailsGoing 97 = .ok (.ireturn, 1) := by decide +kernel
set_option maxHeartbeats 4000000 in
set_option maxRecDepth 100000 in
theorem c_X4_sign (ω : Om) (l : Launch) (μ : M3) (x1 : Int) (S : Int) (hx1 : ir x1) (hI : IC μ) (hS : S = μ.1 33 3) (hSb : S < 240099) (hst : 0 ≤ μ.1 70 2 ∧ μ.1 70 2 ≤ 5000 ∧ 0 ≤ μ.1 70 8 ∧ μ.1 70 8 ≤ 80000 ∧ μ.1 45 1 ≤ μ.1 70 2) (h0s : μ.1 32 13 = 0) : CtV ω l yX4_sign cX4_sign 5 6 195 [.ref (oP ω 32), .int (iv x1)] μ (fun (μ' : M3) => (Fr [70, 32, 33, 34, 35, 36, 45, 46, 47, 48, 49, 50] μ μ') ∧ (IC μ') ∧ ((μ'.1 33 3 ≤ max (S - 1) 1 ∧ μ'.1 32 13 = 0) ∨ (μ'.1 33 3 ≤ S + 1 ∧ (μ'.1 32 13 = 1 ∨ μ'.1 32 13 = 3 ∨ μ'.1 32 13 = 4))) ∧ (μ.1 70 2 ≤ μ'.1 70 2 ∧ μ'.1 70 2 ≤ 5000 ∧ 0 ≤ μ'.1 70 8 ∧ μ'.1 70 8 ≤ 80000 ∧ μ'.1 45 1 ≤ μ'.1 70 2) ∧ (μ'.1 70 1 = μ.1 70 1) ∧ (μ'.1 70 3 = μ.1 70 3) ∧ (μ'.1 70 4 = μ.1 70 4) ∧ (μ'.1 70 5 = μ.1 70 5) ∧ (μ'.1 70 6 = μ.1 70 6) ∧ (μ'.1 70 7 = μ.1 70 7) ∧ (μ'.1 32 10 = μ.1 32 10) ∧ (μ'.1 32 11 = μ.1 32 11) ∧ (μ'.1 32 12 = μ.1 32 12) ∧ (μ'.1 32 15 = μ.1 32 15) ∧ (μ'.1 32 16 = μ.1 32 16) ∧ (μ'.1 45 4 = μ.1 45 4)) := by
  refine CtV.go (by decide) (Nat.le_of_ble_eq_true rfl) (fun ρ p e s m below meth c R ls G hR hret hlk hl => ?_)
  have hx := G.1.1
  have hb := G.1.2.1
  have hl : lv_has ls 5 [(0, .ref (oP ω 32)), (1, .int (iv x1))] := hl
  generalize s.drawn = d0 at G ⊢
  have hr_x1 : -2147483648 ≤ x1 ∧ x1 ≤ 2147483647 := hx1
  have hk_1 := hI.row (r := 33) (by unfold isRow; decide)
  unfold rk at hk_1
  simp only [Int.reduceAdd] at hk_1
  have hbr_33 : BR 33 = 240100 := rfl
  have hk_2 := hI.row (r := 37) (by unfold isRow; decide)
  unfold rk at hk_2
  simp only [Int.reduceAdd] at hk_2
  have hbr_37 : BR 37 = 20410 := rfl
  refine lv_aload_n hx hb dX4_sign_0 rfl (lv_at hl 0 rfl) ?_
  have hn_3 : 0 ≤ μ.1 45 1 ∧ 9 * μ.1 45 1 ≤ μ.2.1 46 := hI.nm.2.2.2.2.2.2.1
  refine xc_iV G (b := 32) (rest := []) (As := []) (c_X4_step ω l μ  hI (by omega)) (wm 6 2 rfl rfl) (wm 6 4 rfl rfl) (wm 0 75 rfl rfl) rfl rfl (by decide) rfl (wm 1 14 rfl rfl) (wm 6 5 rfl rfl) (by decide) hR (by decide) (n := 0) rfl rfl (Nat.le_of_ble_eq_true rfl) hl.1 dX4_sign_1 (fun r_5 μ4 ρ d0 H locs hr_r_5 hp G => ?_)
  have hr_r_5 : -2147483648 ≤ r_5 ∧ r_5 ≤ 2147483647 := hr_r_5
  obtain ⟨F_6, hI_7, hp_8, hs_9, hs_10, hs_11, hs_12, hs_13, hs_14, hs_15, hs_16, hs_17, hs_18, hs_19, hs_20, hs_21⟩ := hp
  refine xb_if_ne (tgt := 8) hx hb (by unfold ir; omega) dX4_sign_4 (by decide) (fun c_4 => ?_) (fun c_4 => ?_)
  · refine lv_aload_n hx hb dX4_sign_8 rfl (lv_at hl 0 rfl) ?_
    have e_22 : μ4.1 33 3 = S := ((F_6.1 33 (by decide) 3).trans hS.symm)
    refine xc_iV G (b := 32) (rest := []) (As := []) (c_X4_top ω l μ4 S hI_7 (by omega)) (wm 6 73 rfl rfl) (wm 6 75 rfl rfl) (wm 0 80 rfl rfl) rfl rfl (by decide) rfl (wm 1 14 rfl rfl) (wm 6 76 rfl rfl) (by decide) hR (by decide) (n := 0) rfl rfl (Nat.le_of_ble_eq_true rfl) hl.1 dX4_sign_9 (fun r_24 μ23 ρ d0 H locs hr_r_24 hp G => ?_)
    have hr_r_24 : -2147483648 ≤ r_24 ∧ r_24 ≤ 2147483647 := hr_r_24
    obtain ⟨hsm_25, hp_26⟩ := hp
    have hsm_25 := Eq.symm hsm_25
    subst hsm_25
    refine lv_iconst (v := iv 1) hx hb dX4_sign_12 rfl ?_
    refine xb_isub hx hb dX4_sign_13 ?_
    refine lv_istore_n (lv' := [(2, .int (iv (r_24 - 1))), (0, .ref (oP ω 32)), (1, .int (iv x1))]) hx hb dX4_sign_14 rfl hl (by decide) rfl (fun ls hl => ?_)
    refine lv_iload_n hx hb dX4_sign_15 rfl (lv_at hl 2 rfl) ?_
    refine lv_sipush (v := iv 129) hx hb dX4_sign_16 rfl ?_
    refine xb_icmp_eq (tgt := 29) hx hb (by unfold ir; omega) (by unfold ir; omega) dX4_sign_19 (by decide) (fun c_19 => ?_) (fun c_19 => ?_)
    · refine lv_aload_n hx hb dX4_sign_29 rfl (lv_at hl 1 rfl) ?_
      refine lv_iconst (v := iv 2) hx hb dX4_sign_30 rfl ?_
      refine lv_aload_n hx hb dX4_sign_31 rfl (lv_at hl 1 rfl) ?_
      refine lv_iload_n hx hb dX4_sign_32 rfl (lv_at hl 0 rfl) ?_
      refine lv_iload_n hx hb dX4_sign_33 rfl (lv_at hl 0 rfl) ?_
      refine lv_iconst (v := iv 1) hx hb dX4_sign_34 rfl ?_
      refine xb_iadd hx hb dX4_sign_35 ?_
      refine xb_ti (y := r_24) (by omega) ?_
      refine xc_iV G (b := 32) (rest := [.int (iv 2), .ref (oP ω 32)]) (As := [.int (iv (r_24 - 1)), .int (iv r_24)]) (c_X4_areSame ω l μ4 (r_24 - 1) r_24 (by unfold ir; omega) (by unfold ir; omega) hI_7) (wm 6 142 rfl rfl) (wm 6 144 rfl rfl) (wm 0 89 rfl rfl) rfl rfl (by decide) rfl (wm 1 14 rfl rfl) (wm 6 145 rfl rfl) (by decide) hR (by decide) (n := 2) rfl rfl (Nat.le_of_ble_eq_true rfl) hl.1 dX4_sign_36 (fun r_28 μ27 ρ d0 H locs hr_r_28 hp G => ?_)
      have hr_r_28 : -2147483648 ≤ r_28 ∧ r_28 ≤ 2147483647 := hr_r_28
      obtain ⟨hsm_29, hp_30⟩ := hp
      have hsm_29 := Eq.symm hsm_29
      subst hsm_29
      refine lv_iload_n hx hb dX4_sign_39 rfl (lv_at hl 2 rfl) ?_
      refine lv_sipush (v := iv 129) hx hb dX4_sign_40 rfl ?_
      refine xb_icmp_ne (tgt := 50) hx hb (by unfold ir; omega) (by unfold ir; omega) dX4_sign_43 (by decide) (fun c_43 => ?_) (fun c_43 => ?_)
      · refine lv_iconst (v := iv 0) hx hb dX4_sign_50 rfl ?_
        refine xb_icmp_ne (tgt := 58) hx hb (by unfold ir; omega) (by unfold ir; omega) dX4_sign_51 (by decide) (fun c_51 => ?_) (fun c_51 => ?_)
        · refine lv_iconst (v := iv 0) hx hb dX4_sign_58 rfl ?_
          have e_31 : μ4.1 33 3 = S := ((F_6.1 33 (by decide) 3).trans hS.symm)
          refine xc_vV G (b := 32) (rest := []) (As := [.int (iv 2), .int (iv 0)]) (c_X4_replaceParts ω l μ4 2 0 S (by unfold ir; omega) (by unfold ir; omega) hI_7 (by omega) (by omega) (by omega)) (wm 6 147 rfl rfl) (wm 6 149 rfl rfl) (wm 0 90 rfl rfl) rfl rfl (by decide) rfl (wm 1 14 rfl rfl) (wm 6 150 rfl rfl) (by decide) hR (by decide) (n := 2) rfl rfl (Nat.le_of_ble_eq_true rfl) hl.1 dX4_sign_59 (fun μ32 ρ d0 H locs hp G => ?_)
          obtain ⟨F_33, hI_34, hs_35⟩ := hp
          have e_36 : μ32.1 33 3 = max (S - 2) 0 + 1 := hs_35
          have e_37 : μ32.1 32 13 = μ4.1 32 13 := (F_33.1 32 (by decide) 13)
          have e_38 : μ32.1 33 3 = max (S - 2) 0 + 1 := hs_35
          have e_39 : μ32.1 32 13 = μ4.1 32 13 := (F_33.1 32 (by decide) 13)
          have e_40 : μ32.1 32 13 = μ4.1 32 13 := (F_33.1 32 (by decide) 13)
          have e_41 : μ32.1 32 13 = μ4.1 32 13 := (F_33.1 32 (by decide) 13)
          have e_42 : μ32.1 70 2 = μ4.1 70 2 := (F_33.1 70 (by decide) 2)
          have e_43 : μ32.1 70 2 = μ4.1 70 2 := (F_33.1 70 (by decide) 2)
          have e_44 : μ32.1 70 8 = μ4.1 70 8 := (F_33.1 70 (by decide) 8)
          have e_45 : μ32.1 70 8 = μ4.1 70 8 := (F_33.1 70 (by decide) 8)
          have e_46 : μ32.1 45 1 = μ.1 45 1 := ((F_33.1 45 (by decide) 1).trans (F_6.1 45 (by decide) 1))
          have e_47 : μ32.1 70 2 = μ4.1 70 2 := (F_33.1 70 (by decide) 2)
          have e_48 : μ32.1 70 1 = μ.1 70 1 := ((F_33.1 70 (by decide) 1).trans hs_9)
          have e_49 : μ32.1 70 3 = μ.1 70 3 := ((F_33.1 70 (by decide) 3).trans hs_10)
          have e_50 : μ32.1 70 4 = μ.1 70 4 := ((F_33.1 70 (by decide) 4).trans hs_11)
          have e_51 : μ32.1 70 5 = μ.1 70 5 := ((F_33.1 70 (by decide) 5).trans hs_12)
          have e_52 : μ32.1 70 6 = μ.1 70 6 := ((F_33.1 70 (by decide) 6).trans hs_13)
          have e_53 : μ32.1 70 7 = μ.1 70 7 := ((F_33.1 70 (by decide) 7).trans hs_14)
          have e_54 : μ32.1 32 10 = μ.1 32 10 := ((F_33.1 32 (by decide) 10).trans hs_16)
          have e_55 : μ32.1 32 11 = μ.1 32 11 := ((F_33.1 32 (by decide) 11).trans hs_17)
          have e_56 : μ32.1 32 12 = μ.1 32 12 := ((F_33.1 32 (by decide) 12).trans hs_18)
          have e_57 : μ32.1 32 15 = μ.1 32 15 := ((F_33.1 32 (by decide) 15).trans hs_20)
          have e_58 : μ32.1 32 16 = μ.1 32 16 := ((F_33.1 32 (by decide) 16).trans hs_21)
          have e_59 : μ32.1 45 4 = μ.1 45 4 := ((F_33.1 45 (by decide) 4).trans (F_6.1 45 (by decide) 4))
          exact xr_v G hret hlk dX4_sign_62 ⟨(Fr.tr (Fr.tr Fr.rf F_6 (by decide)) F_33 (by decide)), hI_34, (by omega), (by omega), (by omega), (by omega), (by omega), (by omega), (by omega), (by omega), (by omega), (by omega), (by omega), (by omega), (by omega), (by omega)⟩
        · refine lv_iconst (v := iv 1) hx hb dX4_sign_54 rfl ?_
          refine lv_goto (tgt := 59) hx hb dX4_sign_55 (by decide) ?_
          have e_60 : μ4.1 33 3 = S := ((F_6.1 33 (by decide) 3).trans hS.symm)
          refine xc_vV G (b := 32) (rest := []) (As := [.int (iv 2), .int (iv 1)]) (c_X4_replaceParts ω l μ4 2 1 S (by unfold ir; omega) (by unfold ir; omega) hI_7 (by omega) (by omega) (by omega)) (wm 6 147 rfl rfl) (wm 6 149 rfl rfl) (wm 0 90 rfl rfl) rfl rfl (by decide) rfl (wm 1 14 rfl rfl) (wm 6 150 rfl rfl) (by decide) hR (by decide) (n := 2) rfl rfl (Nat.le_of_ble_eq_true rfl) hl.1 dX4_sign_59 (fun μ61 ρ d0 H locs hp G => ?_)
          obtain ⟨F_62, hI_63, hs_64⟩ := hp
          have e_65 : μ61.1 33 3 = max (S - 2) 0 + 1 := hs_64
          have e_66 : μ61.1 32 13 = μ4.1 32 13 := (F_62.1 32 (by decide) 13)
          have e_67 : μ61.1 33 3 = max (S - 2) 0 + 1 := hs_64
          have e_68 : μ61.1 32 13 = μ4.1 32 13 := (F_62.1 32 (by decide) 13)
          have e_69 : μ61.1 32 13 = μ4.1 32 13 := (F_62.1 32 (by decide) 13)
          have e_70 : μ61.1 32 13 = μ4.1 32 13 := (F_62.1 32 (by decide) 13)
          have e_71 : μ61.1 70 2 = μ4.1 70 2 := (F_62.1 70 (by decide) 2)
          have e_72 : μ61.1 70 2 = μ4.1 70 2 := (F_62.1 70 (by decide) 2)
          have e_73 : μ61.1 70 8 = μ4.1 70 8 := (F_62.1 70 (by decide) 8)
          have e_74 : μ61.1 70 8 = μ4.1 70 8 := (F_62.1 70 (by decide) 8)
          have e_75 : μ61.1 45 1 = μ.1 45 1 := ((F_62.1 45 (by decide) 1).trans (F_6.1 45 (by decide) 1))
          have e_76 : μ61.1 70 2 = μ4.1 70 2 := (F_62.1 70 (by decide) 2)
          have e_77 : μ61.1 70 1 = μ.1 70 1 := ((F_62.1 70 (by decide) 1).trans hs_9)
          have e_78 : μ61.1 70 3 = μ.1 70 3 := ((F_62.1 70 (by decide) 3).trans hs_10)
          have e_79 : μ61.1 70 4 = μ.1 70 4 := ((F_62.1 70 (by decide) 4).trans hs_11)
          have e_80 : μ61.1 70 5 = μ.1 70 5 := ((F_62.1 70 (by decide) 5).trans hs_12)
          have e_81 : μ61.1 70 6 = μ.1 70 6 := ((F_62.1 70 (by decide) 6).trans hs_13)
          have e_82 : μ61.1 70 7 = μ.1 70 7 := ((F_62.1 70 (by decide) 7).trans hs_14)
          have e_83 : μ61.1 32 10 = μ.1 32 10 := ((F_62.1 32 (by decide) 10).trans hs_16)
          have e_84 : μ61.1 32 11 = μ.1 32 11 := ((F_62.1 32 (by decide) 11).trans hs_17)
          have e_85 : μ61.1 32 12 = μ.1 32 12 := ((F_62.1 32 (by decide) 12).trans hs_18)
          have e_86 : μ61.1 32 15 = μ.1 32 15 := ((F_62.1 32 (by decide) 15).trans hs_20)
          have e_87 : μ61.1 32 16 = μ.1 32 16 := ((F_62.1 32 (by decide) 16).trans hs_21)
          have e_88 : μ61.1 45 4 = μ.1 45 4 := ((F_62.1 45 (by decide) 4).trans (F_6.1 45 (by decide) 4))
          exact xr_v G hret hlk dX4_sign_62 ⟨(Fr.tr (Fr.tr Fr.rf F_6 (by decide)) F_62 (by decide)), hI_63, (by omega), (by omega), (by omega), (by omega), (by omega), (by omega), (by omega), (by omega), (by omega), (by omega), (by omega), (by omega), (by omega), (by omega)⟩
      · refine lv_iconst (v := iv 1) hx hb dX4_sign_46 rfl ?_
        refine lv_goto (tgt := 51) hx hb dX4_sign_47 (by decide) ?_
        refine xb_icmp_ne (tgt := 58) hx hb (by unfold ir; omega) (by unfold ir; omega) dX4_sign_51 (by decide) (fun c_51 => ?_) (fun c_51 => ?_)
        · refine lv_iconst (v := iv 0) hx hb dX4_sign_58 rfl ?_
          have e_89 : μ4.1 33 3 = S := ((F_6.1 33 (by decide) 3).trans hS.symm)
          refine xc_vV G (b := 32) (rest := []) (As := [.int (iv 2), .int (iv 0)]) (c_X4_replaceParts ω l μ4 2 0 S (by unfold ir; omega) (by unfold ir; omega) hI_7 (by omega) (by omega) (by omega)) (wm 6 147 rfl rfl) (wm 6 149 rfl rfl) (wm 0 90 rfl rfl) rfl rfl (by decide) rfl (wm 1 14 rfl rfl) (wm 6 150 rfl rfl) (by decide) hR (by decide) (n := 2) rfl rfl (Nat.le_of_ble_eq_true rfl) hl.1 dX4_sign_59 (fun μ90 ρ d0 H locs hp G => ?_)
          obtain ⟨F_91, hI_92, hs_93⟩ := hp
          have e_94 : μ90.1 33 3 = max (S - 2) 0 + 1 := hs_93
          have e_95 : μ90.1 32 13 = μ4.1 32 13 := (F_91.1 32 (by decide) 13)
          have e_96 : μ90.1 33 3 = max (S - 2) 0 + 1 := hs_93
          have e_97 : μ90.1 32 13 = μ4.1 32 13 := (F_91.1 32 (by decide) 13)
          have e_98 : μ90.1 32 13 = μ4.1 32 13 := (F_91.1 32 (by decide) 13)
          have e_99 : μ90.1 32 13 = μ4.1 32 13 := (F_91.1 32 (by decide) 13)
          have e_100 : μ90.1 70 2 = μ4.1 70 2 := (F_91.1 70 (by decide) 2)
          have e_101 : μ90.1 70 2 = μ4.1 70 2 := (F_91.1 70 (by decide) 2)
          have e_102 : μ90.1 70 8 = μ4.1 70 8 := (F_91.1 70 (by decide) 8)
          have e_103 : μ90.1 70 8 = μ4.1 70 8 := (F_91.1 70 (by decide) 8)
          have e_104 : μ90.1 45 1 = μ.1 45 1 := ((F_91.1 45 (by decide) 1).trans (F_6.1 45 (by decide) 1))
          have e_105 : μ90.1 70 2 = μ4.1 70 2 := (F_91.1 70 (by decide) 2)
          have e_106 : μ90.1 70 1 = μ.1 70 1 := ((F_91.1 70 (by decide) 1).trans hs_9)
          have e_107 : μ90.1 70 3 = μ.1 70 3 := ((F_91.1 70 (by decide) 3).trans hs_10)
          have e_108 : μ90.1 70 4 = μ.1 70 4 := ((F_91.1 70 (by decide) 4).trans hs_11)
          have e_109 : μ90.1 70 5 = μ.1 70 5 := ((F_91.1 70 (by decide) 5).trans hs_12)
          have e_110 : μ90.1 70 6 = μ.1 70 6 := ((F_91.1 70 (by decide) 6).trans hs_13)
          have e_111 : μ90.1 70 7 = μ.1 70 7 := ((F_91.1 70 (by decide) 7).trans hs_14)
          have e_112 : μ90.1 32 10 = μ.1 32 10 := ((F_91.1 32 (by decide) 10).trans hs_16)
          have e_113 : μ90.1 32 11 = μ.1 32 11 := ((F_91.1 32 (by decide) 11).trans hs_17)
          have e_114 : μ90.1 32 12 = μ.1 32 12 := ((F_91.1 32 (by decide) 12).trans hs_18)
          have e_115 : μ90.1 32 15 = μ.1 32 15 := ((F_91.1 32 (by decide) 15).trans hs_20)
          have e_116 : μ90.1 32 16 = μ.1 32 16 := ((F_91.1 32 (by decide) 16).trans hs_21)
          have e_117 : μ90.1 45 4 = μ.1 45 4 := ((F_91.1 45 (by decide) 4).trans (F_6.1 45 (by decide) 4))
          exact xr_v G hret hlk dX4_sign_62 ⟨(Fr.tr (Fr.tr Fr.rf F_6 (by decide)) F_91 (by decide)), hI_92, (by omega), (by omega), (by omega), (by omega), (by omega), (by omega), (by omega), (by omega), (by omega), (by omega), (by omega), (by omega), (by omega), (by omega)⟩
        · refine lv_iconst (v := iv 1) hx hb dX4_sign_54 rfl ?_
          refine lv_goto (tgt := 59) hx hb dX4_sign_55 (by decide) ?_
          have e_118 : μ4.1 33 3 = S := ((F_6.1 33 (by decide) 3).trans hS.symm)
          refine xc_vV G (b := 32) (rest := []) (As := [.int (iv 2), .int (iv 1)]) (c_X4_replaceParts ω l μ4 2 1 S (by unfold ir; omega) (by unfold ir; omega) hI_7 (by omega) (by omega) (by omega)) (wm 6 147 rfl rfl) (wm 6 149 rfl rfl) (wm 0 90 rfl rfl) rfl rfl (by decide) rfl (wm 1 14 rfl rfl) (wm 6 150 rfl rfl) (by decide) hR (by decide) (n := 2) rfl rfl (Nat.le_of_ble_eq_true rfl) hl.1 dX4_sign_59 (fun μ119 ρ d0 H locs hp G => ?_)
          obtain ⟨F_120, hI_121, hs_122⟩ := hp
          have e_123 : μ119.1 33 3 = max (S - 2) 0 + 1 := hs_122
          have e_124 : μ119.1 32 13 = μ4.1 32 13 := (F_120.1 32 (by decide) 13)
          have e_125 : μ119.1 33 3 = max (S - 2) 0 + 1 := hs_122
          have e_126 : μ119.1 32 13 = μ4.1 32 13 := (F_120.1 32 (by decide) 13)
          have e_127 : μ119.1 32 13 = μ4.1 32 13 := (F_120.1 32 (by decide) 13)
          have e_128 : μ119.1 32 13 = μ4.1 32 13 := (F_120.1 32 (by decide) 13)
          have e_129 : μ119.1 70 2 = μ4.1 70 2 := (F_120.1 70 (by decide) 2)
          have e_130 : μ119.1 70 2 = μ4.1 70 2 := (F_120.1 70 (by decide) 2)
          have e_131 : μ119.1 70 8 = μ4.1 70 8 := (F_120.1 70 (by decide) 8)
          have e_132 : μ119.1 70 8 = μ4.1 70 8 := (F_120.1 70 (by decide) 8)
          have e_133 : μ119.1 45 1 = μ.1 45 1 := ((F_120.1 45 (by decide) 1).trans (F_6.1 45 (by decide) 1))
          have e_134 : μ119.1 70 2 = μ4.1 70 2 := (F_120.1 70 (by decide) 2)
          have e_135 : μ119.1 70 1 = μ.1 70 1 := ((F_120.1 70 (by decide) 1).trans hs_9)
          have e_136 : μ119.1 70 3 = μ.1 70 3 := ((F_120.1 70 (by decide) 3).trans hs_10)
          have e_137 : μ119.1 70 4 = μ.1 70 4 := ((F_120.1 70 (by decide) 4).trans hs_11)
          have e_138 : μ119.1 70 5 = μ.1 70 5 := ((F_120.1 70 (by decide) 5).trans hs_12)
          have e_139 : μ119.1 70 6 = μ.1 70 6 := ((F_120.1 70 (by decide) 6).trans hs_13)
          have e_140 : μ119.1 70 7 = μ.1 70 7 := ((F_120.1 70 (by decide) 7).trans hs_14)
          have e_141 : μ119.1 32 10 = μ.1 32 10 := ((F_120.1 32 (by decide) 10).trans hs_16)
          have e_142 : μ119.1 32 11 = μ.1 32 11 := ((F_120.1 32 (by decide) 11).trans hs_17)
          have e_143 : μ119.1 32 12 = μ.1 32 12 := ((F_120.1 32 (by decide) 12).trans hs_18)
          have e_144 : μ119.1 32 15 = μ.1 32 15 := ((F_120.1 32 (by decide) 15).trans hs_20)
          have e_145 : μ119.1 32 16 = μ.1 32 16 := ((F_120.1 32 (by decide) 16).trans hs_21)
          have e_146 : μ119.1 45 4 = μ.1 45 4 := ((F_120.1 45 (by decide) 4).trans (F_6.1 45 (by decide) 4))
          exact xr_v G hret hlk dX4_sign_62 ⟨(Fr.tr (Fr.tr Fr.rf F_6 (by decide)) F_120 (by decide)), hI_121, (by omega), (by omega), (by omega), (by omega), (by omega), (by omega), (by omega), (by omega), (by omega), (by omega), (by omega), (by omega), (by omega), (by omega)⟩
    · refine lv_iload_n hx hb dX4_sign_22 rfl (lv_at hl 2 rfl) ?_
      refine lv_sipush (v := iv 130) hx hb dX4_sign_23 rfl ?_
      refine xb_icmp_ne (tgt := 63) hx hb (by unfold ir; omega) (by unfold ir; omega) dX4_sign_26 (by decide) (fun c_26 => ?_) (fun c_26 => ?_)
      · refine lv_aload_n hx hb dX4_sign_63 rfl (lv_at hl 1 rfl) ?_
        refine xa_getr G fd_X4 (a := 32) (x := 33) 3 rfl (by decide) rfl (wm 2 147 rfl rfl) ⟨rfl, rfl, rfl⟩ dX4_sign_64 rfl (G.sk 36 rfl) (by decide) rfl ?_
        refine lv_iload_n hx hb dX4_sign_67 rfl (lv_at hl 0 rfl) ?_
        refine xc_iV G (b := 33) (rest := []) (As := [.int (iv (r_24 - 1))]) (c_X9_kind ω l μ4 33 (r_24 - 1) (by unfold isRow; decide) (by unfold ir; omega) hI_7) (wm 6 146 rfl rfl) (wm 5 156 rfl rfl) (wm 5 157 rfl rfl) rfl rfl (by decide) rfl (wm 1 10 rfl rfl) (wm 5 158 rfl rfl) (by decide) hR (by decide) (n := 1) rfl rfl (Nat.le_of_ble_eq_true rfl) hl.1 dX4_sign_68 (fun r_148 μ147 ρ d0 H locs hr_r_148 hp G => ?_)
        have hr_r_148 : -2147483648 ≤ r_148 ∧ r_148 ≤ 2147483647 := hr_r_148
        have hsm_149 := hp
        have hsm_149 := Eq.symm hsm_149
        subst hsm_149
        refine lv_iconst (v := iv 1) hx hb dX4_sign_71 rfl ?_
        refine xb_icmp_ne (tgt := 89) hx hb (by unfold ir; omega) (by unfold ir; omega) dX4_sign_72 (by decide) (fun c_72 => ?_) (fun c_72 => ?_)
        · refine lv_aload_n hx hb dX4_sign_89 rfl (lv_at hl 1 rfl) ?_
          refine lv_iconst (v := iv 4) hx hb dX4_sign_90 rfl ?_
          refine lv_iconst (v := iv 2) hx hb dX4_sign_91 rfl ?_
          have e_150 : μ4.1 33 3 = S := ((F_6.1 33 (by decide) 3).trans hS.symm)
          have e_151 : μ4.1 45 1 = μ.1 45 1 := (F_6.1 45 (by decide) 1)
          have e_152 : ofF μ4 53 = ofF μ 53 := (ofF_fr F_6 (by decide) (by decide))
          have e_153 : μ4.1 70 1 = μ.1 70 1 := hs_9
          have e_154 : μ4.1 70 3 = μ.1 70 3 := hs_10
          have e_155 : μ4.1 70 4 = μ.1 70 4 := hs_11
          have e_156 : μ4.1 70 5 = μ.1 70 5 := hs_12
          have e_157 : μ4.1 70 6 = μ.1 70 6 := hs_13
          have e_158 : μ4.1 70 7 = μ.1 70 7 := hs_14
          have e_159 : μ4.1 32 10 = μ.1 32 10 := hs_16
          have e_160 : μ4.1 32 11 = μ.1 32 11 := hs_17
          have e_161 : μ4.1 32 12 = μ.1 32 12 := hs_18
          have e_162 : μ4.1 32 15 = μ.1 32 15 := hs_20
          have e_163 : μ4.1 32 16 = μ.1 32 16 := hs_21
          have hn_164 : 0 ≤ μ.1 45 4 ∧ 2 * μ.1 45 4 ≤ μ.2.1 51 := hI.nm.2.2.2.2.2.2.2.1
          have e_165 : μ4.1 45 4 = μ.1 45 4 := (F_6.1 45 (by decide) 4)
          refine xc_vV G (b := 32) (rest := []) (As := [.int (iv 4), .int (iv 2)]) (c_X4_fails ω l μ4 4 2 S (by unfold ir; omega) (by unfold ir; omega) hI_7 (by omega) (by omega) (by omega) (by omega)) (wm 6 93 rfl rfl) (wm 6 95 rfl rfl) (wm 0 82 rfl rfl) rfl rfl (by decide) rfl (wm 1 14 rfl rfl) (wm 6 96 rfl rfl) (by decide) hR (by decide) (n := 2) rfl rfl (Nat.le_of_ble_eq_true rfl) hl.1 dX4_sign_92 (fun μ166 ρ d0 H locs hp G => ?_)
          obtain ⟨F_167, hI_168, hp_169, hp_170, hs_171, hs_172, hs_173, hs_174, hs_175, hs_176, hs_177, hs_178, hs_179, hs_180, hs_181, hs_182⟩ := hp
          have hk_183 := hI_168.row (r := 33) (by unfold isRow; decide)
          unfold rk at hk_183
          simp only [Int.reduceAdd] at hk_183
          have hn_184 : 0 ≤ μ166.1 45 1 ∧ 9 * μ166.1 45 1 ≤ μ166.2.1 46 := hI_168.nm.2.2.2.2.2.2.1
          have e_185 : μ166.1 70 1 = μ.1 70 1 := (hs_171.trans hs_9)
          have e_186 : μ166.1 70 3 = μ.1 70 3 := (hs_172.trans hs_10)
          have e_187 : μ166.1 70 4 = μ.1 70 4 := (hs_173.trans hs_11)
          have e_188 : μ166.1 70 5 = μ.1 70 5 := (hs_174.trans hs_12)
          have e_189 : μ166.1 70 6 = μ.1 70 6 := (hs_175.trans hs_13)
          have e_190 : μ166.1 70 7 = μ.1 70 7 := (hs_176.trans hs_14)
          have e_191 : μ166.1 32 10 = μ.1 32 10 := (hs_177.trans hs_16)
          have e_192 : μ166.1 32 11 = μ.1 32 11 := (hs_178.trans hs_17)
          have e_193 : μ166.1 32 12 = μ.1 32 12 := (hs_179.trans hs_18)
          have e_194 : μ166.1 32 15 = μ.1 32 15 := (hs_180.trans hs_20)
          have e_195 : μ166.1 32 16 = μ.1 32 16 := (hs_181.trans hs_21)
          have e_196 : μ166.1 45 4 = μ.1 45 4 := (hs_182.trans (F_6.1 45 (by decide) 4))
          exact xr_v G hret hlk dX4_sign_95 ⟨(Fr.tr (Fr.tr Fr.rf F_6 (by decide)) F_167 (by decide)), hI_168, (by omega), (by omega), (by omega), (by omega), (by omega), (by omega), (by omega), (by omega), (by omega), (by omega), (by omega), (by omega), (by omega), (by omega)⟩
        · refine lv_aload_n hx hb dX4_sign_75 rfl (lv_at hl 1 rfl) ?_
          refine xa_getr G fd_X4 (a := 32) (x := 33) 3 rfl (by decide) rfl (wm 2 147 rfl rfl) ⟨rfl, rfl, rfl⟩ dX4_sign_76 rfl (G.sk 36 rfl) (by decide) rfl ?_
          refine lv_iload_n hx hb dX4_sign_79 rfl (lv_at hl 0 rfl) ?_
          refine lv_iconst (v := iv 1) hx hb dX4_sign_80 rfl ?_
          refine xb_iadd hx hb dX4_sign_81 ?_
          refine xb_ti (y := r_24) (by omega) ?_
          refine xc_iV G (b := 33) (rest := []) (As := [.int (iv r_24)]) (c_X9_kind ω l μ4 33 r_24 (by unfold isRow; decide) (by unfold ir; omega) hI_7) (wm 6 146 rfl rfl) (wm 5 156 rfl rfl) (wm 5 157 rfl rfl) rfl rfl (by decide) rfl (wm 1 10 rfl rfl) (wm 5 158 rfl rfl) (by decide) hR (by decide) (n := 1) rfl rfl (Nat.le_of_ble_eq_true rfl) hl.1 dX4_sign_82 (fun r_198 μ197 ρ d0 H locs hr_r_198 hp G => ?_)
          have hr_r_198 : -2147483648 ≤ r_198 ∧ r_198 ≤ 2147483647 := hr_r_198
          have hsm_199 := hp
          have hsm_199 := Eq.symm hsm_199
          subst hsm_199
          refine lv_iconst (v := iv 1) hx hb dX4_sign_85 rfl ?_
          refine xb_icmp_eq (tgt := 96) hx hb (by unfold ir; omega) (by unfold ir; omega) dX4_sign_86 (by decide) (fun c_86 => ?_) (fun c_86 => ?_)
          · refine lv_iload_n hx hb dX4_sign_96 rfl (lv_at hl 2 rfl) ?_
            refine lv_bipush (v := iv 60) hx hb dX4_sign_97 rfl ?_
            refine xb_icmp_eq (tgt := 122) hx hb (by unfold ir; omega) (by unfold ir; omega) dX4_sign_99 (by decide) (fun c_99 => ?_) (fun c_99 => ?_)
            · refine lv_iconst (v := iv 1) hx hb dX4_sign_122 rfl ?_
              refine lv_goto (tgt := 127) hx hb dX4_sign_123 (by decide) ?_
              refine lv_istore_n (lv' := [(3, .int (iv 1)), (2, .int (iv (r_24 - 1))), (0, .ref (oP ω 32)), (1, .int (iv x1))]) hx hb dX4_sign_127 rfl hl (by decide) rfl (fun ls hl => ?_)
              refine lv_iload_n hx hb dX4_sign_128 rfl (lv_at hl 0 rfl) ?_
              refine xb_if_eq (tgt := 152) hx hb (x := 1) (by unfold ir; omega) dX4_sign_129 (by decide) (fun c_129 => absurd c_129 (by decide)) (fun c_129 => ?_)
              refine lv_aload_n hx hb dX4_sign_132 rfl (lv_at hl 2 rfl) ?_
              refine lv_iconst (v := iv 2) hx hb dX4_sign_133 rfl ?_
              refine lv_aload_n hx hb dX4_sign_134 rfl (lv_at hl 2 rfl) ?_
              refine lv_iload_n hx hb dX4_sign_135 rfl (lv_at hl 3 rfl) ?_
              refine lv_iload_n hx hb dX4_sign_136 rfl (lv_at hl 1 rfl) ?_
              refine xc_iV G (b := 32) (rest := [.int (iv 2), .ref (oP ω 32)]) (As := [.int (iv x1), .int (iv (r_24 - 1))]) (c_X4_isTrue ω l μ4 x1 (r_24 - 1) (by unfold ir; omega) (by unfold ir; omega) hI_7 (by omega)) (wm 6 151 rfl rfl) (wm 6 153 rfl rfl) (wm 0 91 rfl rfl) rfl rfl (by decide) rfl (wm 1 14 rfl rfl) (wm 6 154 rfl rfl) (by decide) hR (by decide) (n := 2) rfl rfl (Nat.le_of_ble_eq_true rfl) hl.1 dX4_sign_137 (fun r_201 μ200 ρ d0 H locs hr_r_201 hp G => ?_)
              have hr_r_201 : -2147483648 ≤ r_201 ∧ r_201 ≤ 2147483647 := hr_r_201
              obtain ⟨hsm_202, hp_203⟩ := hp
              have hsm_202 := Eq.symm hsm_202
              subst hsm_202
              refine xb_if_eq (tgt := 147) hx hb (by unfold ir; omega) dX4_sign_140 (by decide) (fun c_140 => ?_) (fun c_140 => ?_)
              · refine lv_iconst (v := iv 0) hx hb dX4_sign_147 rfl ?_
                have e_204 : μ4.1 33 3 = S := ((F_6.1 33 (by decide) 3).trans hS.symm)
                refine xc_vV G (b := 32) (rest := []) (As := [.int (iv 2), .int (iv 0)]) (c_X4_replaceParts ω l μ4 2 0 S (by unfold ir; omega) (by unfold ir; omega) hI_7 (by omega) (by omega) (by omega)) (wm 6 147 rfl rfl) (wm 6 149 rfl rfl) (wm 0 90 rfl rfl) rfl rfl (by decide) rfl (wm 1 14 rfl rfl) (wm 6 150 rfl rfl) (by decide) hR (by decide) (n := 2) rfl rfl (Nat.le_of_ble_eq_true rfl) hl.1 dX4_sign_148 (fun μ205 ρ d0 H locs hp G => ?_)
                obtain ⟨F_206, hI_207, hs_208⟩ := hp
                have e_209 : μ205.1 33 3 = max (S - 2) 0 + 1 := hs_208
                have e_210 : μ205.1 32 13 = μ4.1 32 13 := (F_206.1 32 (by decide) 13)
                have e_211 : μ205.1 33 3 = max (S - 2) 0 + 1 := hs_208
                have e_212 : μ205.1 32 13 = μ4.1 32 13 := (F_206.1 32 (by decide) 13)
                have e_213 : μ205.1 32 13 = μ4.1 32 13 := (F_206.1 32 (by decide) 13)
                have e_214 : μ205.1 32 13 = μ4.1 32 13 := (F_206.1 32 (by decide) 13)
                have e_215 : μ205.1 70 2 = μ4.1 70 2 := (F_206.1 70 (by decide) 2)
                have e_216 : μ205.1 70 2 = μ4.1 70 2 := (F_206.1 70 (by decide) 2)
                have e_217 : μ205.1 70 8 = μ4.1 70 8 := (F_206.1 70 (by decide) 8)
                have e_218 : μ205.1 70 8 = μ4.1 70 8 := (F_206.1 70 (by decide) 8)
                have e_219 : μ205.1 45 1 = μ.1 45 1 := ((F_206.1 45 (by decide) 1).trans (F_6.1 45 (by decide) 1))
                have e_220 : μ205.1 70 2 = μ4.1 70 2 := (F_206.1 70 (by decide) 2)
                have e_221 : μ205.1 70 1 = μ.1 70 1 := ((F_206.1 70 (by decide) 1).trans hs_9)
                have e_222 : μ205.1 70 3 = μ.1 70 3 := ((F_206.1 70 (by decide) 3).trans hs_10)
                have e_223 : μ205.1 70 4 = μ.1 70 4 := ((F_206.1 70 (by decide) 4).trans hs_11)
                have e_224 : μ205.1 70 5 = μ.1 70 5 := ((F_206.1 70 (by decide) 5).trans hs_12)
                have e_225 : μ205.1 70 6 = μ.1 70 6 := ((F_206.1 70 (by decide) 6).trans hs_13)
                have e_226 : μ205.1 70 7 = μ.1 70 7 := ((F_206.1 70 (by decide) 7).trans hs_14)
                have e_227 : μ205.1 32 10 = μ.1 32 10 := ((F_206.1 32 (by decide) 10).trans hs_16)
                have e_228 : μ205.1 32 11 = μ.1 32 11 := ((F_206.1 32 (by decide) 11).trans hs_17)
                have e_229 : μ205.1 32 12 = μ.1 32 12 := ((F_206.1 32 (by decide) 12).trans hs_18)
                have e_230 : μ205.1 32 15 = μ.1 32 15 := ((F_206.1 32 (by decide) 15).trans hs_20)
                have e_231 : μ205.1 32 16 = μ.1 32 16 := ((F_206.1 32 (by decide) 16).trans hs_21)
                have e_232 : μ205.1 45 4 = μ.1 45 4 := ((F_206.1 45 (by decide) 4).trans (F_6.1 45 (by decide) 4))
                exact xr_v G hret hlk dX4_sign_151 ⟨(Fr.tr (Fr.tr Fr.rf F_6 (by decide)) F_206 (by decide)), hI_207, (by omega), (by omega), (by omega), (by omega), (by omega), (by omega), (by omega), (by omega), (by omega), (by omega), (by omega), (by omega), (by omega), (by omega)⟩
              · refine lv_iconst (v := iv 1) hx hb dX4_sign_143 rfl ?_
                refine lv_goto (tgt := 148) hx hb dX4_sign_144 (by decide) ?_
                have e_233 : μ4.1 33 3 = S := ((F_6.1 33 (by decide) 3).trans hS.symm)
                refine xc_vV G (b := 32) (rest := []) (As := [.int (iv 2), .int (iv 1)]) (c_X4_replaceParts ω l μ4 2 1 S (by unfold ir; omega) (by unfold ir; omega) hI_7 (by omega) (by omega) (by omega)) (wm 6 147 rfl rfl) (wm 6 149 rfl rfl) (wm 0 90 rfl rfl) rfl rfl (by decide) rfl (wm 1 14 rfl rfl) (wm 6 150 rfl rfl) (by decide) hR (by decide) (n := 2) rfl rfl (Nat.le_of_ble_eq_true rfl) hl.1 dX4_sign_148 (fun μ234 ρ d0 H locs hp G => ?_)
                obtain ⟨F_235, hI_236, hs_237⟩ := hp
                have e_238 : μ234.1 33 3 = max (S - 2) 0 + 1 := hs_237
                have e_239 : μ234.1 32 13 = μ4.1 32 13 := (F_235.1 32 (by decide) 13)
                have e_240 : μ234.1 33 3 = max (S - 2) 0 + 1 := hs_237
                have e_241 : μ234.1 32 13 = μ4.1 32 13 := (F_235.1 32 (by decide) 13)
                have e_242 : μ234.1 32 13 = μ4.1 32 13 := (F_235.1 32 (by decide) 13)
                have e_243 : μ234.1 32 13 = μ4.1 32 13 := (F_235.1 32 (by decide) 13)
                have e_244 : μ234.1 70 2 = μ4.1 70 2 := (F_235.1 70 (by decide) 2)
                have e_245 : μ234.1 70 2 = μ4.1 70 2 := (F_235.1 70 (by decide) 2)
                have e_246 : μ234.1 70 8 = μ4.1 70 8 := (F_235.1 70 (by decide) 8)
                have e_247 : μ234.1 70 8 = μ4.1 70 8 := (F_235.1 70 (by decide) 8)
                have e_248 : μ234.1 45 1 = μ.1 45 1 := ((F_235.1 45 (by decide) 1).trans (F_6.1 45 (by decide) 1))
                have e_249 : μ234.1 70 2 = μ4.1 70 2 := (F_235.1 70 (by decide) 2)
                have e_250 : μ234.1 70 1 = μ.1 70 1 := ((F_235.1 70 (by decide) 1).trans hs_9)
                have e_251 : μ234.1 70 3 = μ.1 70 3 := ((F_235.1 70 (by decide) 3).trans hs_10)
                have e_252 : μ234.1 70 4 = μ.1 70 4 := ((F_235.1 70 (by decide) 4).trans hs_11)
                have e_253 : μ234.1 70 5 = μ.1 70 5 := ((F_235.1 70 (by decide) 5).trans hs_12)
                have e_254 : μ234.1 70 6 = μ.1 70 6 := ((F_235.1 70 (by decide) 6).trans hs_13)
                have e_255 : μ234.1 70 7 = μ.1 70 7 := ((F_235.1 70 (by decide) 7).trans hs_14)
                have e_256 : μ234.1 32 10 = μ.1 32 10 := ((F_235.1 32 (by decide) 10).trans hs_16)
                have e_257 : μ234.1 32 11 = μ.1 32 11 := ((F_235.1 32 (by decide) 11).trans hs_17)
                have e_258 : μ234.1 32 12 = μ.1 32 12 := ((F_235.1 32 (by decide) 12).trans hs_18)
                have e_259 : μ234.1 32 15 = μ.1 32 15 := ((F_235.1 32 (by decide) 15).trans hs_20)
                have e_260 : μ234.1 32 16 = μ.1 32 16 := ((F_235.1 32 (by decide) 16).trans hs_21)
                have e_261 : μ234.1 45 4 = μ.1 45 4 := ((F_235.1 45 (by decide) 4).trans (F_6.1 45 (by decide) 4))
                exact xr_v G hret hlk dX4_sign_151 ⟨(Fr.tr (Fr.tr Fr.rf F_6 (by decide)) F_235 (by decide)), hI_236, (by omega), (by omega), (by omega), (by omega), (by omega), (by omega), (by omega), (by omega), (by omega), (by omega), (by omega), (by omega), (by omega), (by omega)⟩
            · refine lv_iload_n hx hb dX4_sign_102 rfl (lv_at hl 2 rfl) ?_
              refine lv_bipush (v := iv 62) hx hb dX4_sign_103 rfl ?_
              refine xb_icmp_eq (tgt := 122) hx hb (by unfold ir; omega) (by unfold ir; omega) dX4_sign_105 (by decide) (fun c_105 => ?_) (fun c_105 => ?_)
              · refine lv_iconst (v := iv 1) hx hb dX4_sign_122 rfl ?_
                refine lv_goto (tgt := 127) hx hb dX4_sign_123 (by decide) ?_
                refine lv_istore_n (lv' := [(3, .int (iv 1)), (2, .int (iv (r_24 - 1))), (0, .ref (oP ω 32)), (1, .int (iv x1))]) hx hb dX4_sign_127 rfl hl (by decide) rfl (fun ls hl => ?_)
                refine lv_iload_n hx hb dX4_sign_128 rfl (lv_at hl 0 rfl) ?_
                refine xb_if_eq (tgt := 152) hx hb (x := 1) (by unfold ir; omega) dX4_sign_129 (by decide) (fun c_129 => absurd c_129 (by decide)) (fun c_129 => ?_)
                refine lv_aload_n hx hb dX4_sign_132 rfl (lv_at hl 2 rfl) ?_
                refine lv_iconst (v := iv 2) hx hb dX4_sign_133 rfl ?_
                refine lv_aload_n hx hb dX4_sign_134 rfl (lv_at hl 2 rfl) ?_
                refine lv_iload_n hx hb dX4_sign_135 rfl (lv_at hl 3 rfl) ?_
                refine lv_iload_n hx hb dX4_sign_136 rfl (lv_at hl 1 rfl) ?_
                refine xc_iV G (b := 32) (rest := [.int (iv 2), .ref (oP ω 32)]) (As := [.int (iv x1), .int (iv (r_24 - 1))]) (c_X4_isTrue ω l μ4 x1 (r_24 - 1) (by unfold ir; omega) (by unfold ir; omega) hI_7 (by omega)) (wm 6 151 rfl rfl) (wm 6 153 rfl rfl) (wm 0 91 rfl rfl) rfl rfl (by decide) rfl (wm 1 14 rfl rfl) (wm 6 154 rfl rfl) (by decide) hR (by decide) (n := 2) rfl rfl (Nat.le_of_ble_eq_true rfl) hl.1 dX4_sign_137 (fun r_263 μ262 ρ d0 H locs hr_r_263 hp G => ?_)
                have hr_r_263 : -2147483648 ≤ r_263 ∧ r_263 ≤ 2147483647 := hr_r_263
                obtain ⟨hsm_264, hp_265⟩ := hp
                have hsm_264 := Eq.symm hsm_264
                subst hsm_264
                refine xb_if_eq (tgt := 147) hx hb (by unfold ir; omega) dX4_sign_140 (by decide) (fun c_140 => ?_) (fun c_140 => ?_)
                · refine lv_iconst (v := iv 0) hx hb dX4_sign_147 rfl ?_
                  have e_266 : μ4.1 33 3 = S := ((F_6.1 33 (by decide) 3).trans hS.symm)
                  refine xc_vV G (b := 32) (rest := []) (As := [.int (iv 2), .int (iv 0)]) (c_X4_replaceParts ω l μ4 2 0 S (by unfold ir; omega) (by unfold ir; omega) hI_7 (by omega) (by omega) (by omega)) (wm 6 147 rfl rfl) (wm 6 149 rfl rfl) (wm 0 90 rfl rfl) rfl rfl (by decide) rfl (wm 1 14 rfl rfl) (wm 6 150 rfl rfl) (by decide) hR (by decide) (n := 2) rfl rfl (Nat.le_of_ble_eq_true rfl) hl.1 dX4_sign_148 (fun μ267 ρ d0 H locs hp G => ?_)
                  obtain ⟨F_268, hI_269, hs_270⟩ := hp
                  have e_271 : μ267.1 33 3 = max (S - 2) 0 + 1 := hs_270
                  have e_272 : μ267.1 32 13 = μ4.1 32 13 := (F_268.1 32 (by decide) 13)
                  have e_273 : μ267.1 33 3 = max (S - 2) 0 + 1 := hs_270
                  have e_274 : μ267.1 32 13 = μ4.1 32 13 := (F_268.1 32 (by decide) 13)
                  have e_275 : μ267.1 32 13 = μ4.1 32 13 := (F_268.1 32 (by decide) 13)
                  have e_276 : μ267.1 32 13 = μ4.1 32 13 := (F_268.1 32 (by decide) 13)
                  have e_277 : μ267.1 70 2 = μ4.1 70 2 := (F_268.1 70 (by decide) 2)
                  have e_278 : μ267.1 70 2 = μ4.1 70 2 := (F_268.1 70 (by decide) 2)
                  have e_279 : μ267.1 70 8 = μ4.1 70 8 := (F_268.1 70 (by decide) 8)
                  have e_280 : μ267.1 70 8 = μ4.1 70 8 := (F_268.1 70 (by decide) 8)
                  have e_281 : μ267.1 45 1 = μ.1 45 1 := ((F_268.1 45 (by decide) 1).trans (F_6.1 45 (by decide) 1))
                  have e_282 : μ267.1 70 2 = μ4.1 70 2 := (F_268.1 70 (by decide) 2)
                  have e_283 : μ267.1 70 1 = μ.1 70 1 := ((F_268.1 70 (by decide) 1).trans hs_9)
                  have e_284 : μ267.1 70 3 = μ.1 70 3 := ((F_268.1 70 (by decide) 3).trans hs_10)
                  have e_285 : μ267.1 70 4 = μ.1 70 4 := ((F_268.1 70 (by decide) 4).trans hs_11)
                  have e_286 : μ267.1 70 5 = μ.1 70 5 := ((F_268.1 70 (by decide) 5).trans hs_12)
                  have e_287 : μ267.1 70 6 = μ.1 70 6 := ((F_268.1 70 (by decide) 6).trans hs_13)
                  have e_288 : μ267.1 70 7 = μ.1 70 7 := ((F_268.1 70 (by decide) 7).trans hs_14)
                  have e_289 : μ267.1 32 10 = μ.1 32 10 := ((F_268.1 32 (by decide) 10).trans hs_16)
                  have e_290 : μ267.1 32 11 = μ.1 32 11 := ((F_268.1 32 (by decide) 11).trans hs_17)
                  have e_291 : μ267.1 32 12 = μ.1 32 12 := ((F_268.1 32 (by decide) 12).trans hs_18)
                  have e_292 : μ267.1 32 15 = μ.1 32 15 := ((F_268.1 32 (by decide) 15).trans hs_20)
                  have e_293 : μ267.1 32 16 = μ.1 32 16 := ((F_268.1 32 (by decide) 16).trans hs_21)
                  have e_294 : μ267.1 45 4 = μ.1 45 4 := ((F_268.1 45 (by decide) 4).trans (F_6.1 45 (by decide) 4))
                  exact xr_v G hret hlk dX4_sign_151 ⟨(Fr.tr (Fr.tr Fr.rf F_6 (by decide)) F_268 (by decide)), hI_269, (by omega), (by omega), (by omega), (by omega), (by omega), (by omega), (by omega), (by omega), (by omega), (by omega), (by omega), (by omega), (by omega), (by omega)⟩
                · refine lv_iconst (v := iv 1) hx hb dX4_sign_143 rfl ?_
                  refine lv_goto (tgt := 148) hx hb dX4_sign_144 (by decide) ?_
                  have e_295 : μ4.1 33 3 = S := ((F_6.1 33 (by decide) 3).trans hS.symm)
                  refine xc_vV G (b := 32) (rest := []) (As := [.int (iv 2), .int (iv 1)]) (c_X4_replaceParts ω l μ4 2 1 S (by unfold ir; omega) (by unfold ir; omega) hI_7 (by omega) (by omega) (by omega)) (wm 6 147 rfl rfl) (wm 6 149 rfl rfl) (wm 0 90 rfl rfl) rfl rfl (by decide) rfl (wm 1 14 rfl rfl) (wm 6 150 rfl rfl) (by decide) hR (by decide) (n := 2) rfl rfl (Nat.le_of_ble_eq_true rfl) hl.1 dX4_sign_148 (fun μ296 ρ d0 H locs hp G => ?_)
                  obtain ⟨F_297, hI_298, hs_299⟩ := hp
                  have e_300 : μ296.1 33 3 = max (S - 2) 0 + 1 := hs_299
                  have e_301 : μ296.1 32 13 = μ4.1 32 13 := (F_297.1 32 (by decide) 13)
                  have e_302 : μ296.1 33 3 = max (S - 2) 0 + 1 := hs_299
                  have e_303 : μ296.1 32 13 = μ4.1 32 13 := (F_297.1 32 (by decide) 13)
                  have e_304 : μ296.1 32 13 = μ4.1 32 13 := (F_297.1 32 (by decide) 13)
                  have e_305 : μ296.1 32 13 = μ4.1 32 13 := (F_297.1 32 (by decide) 13)
                  have e_306 : μ296.1 70 2 = μ4.1 70 2 := (F_297.1 70 (by decide) 2)
                  have e_307 : μ296.1 70 2 = μ4.1 70 2 := (F_297.1 70 (by decide) 2)
                  have e_308 : μ296.1 70 8 = μ4.1 70 8 := (F_297.1 70 (by decide) 8)
                  have e_309 : μ296.1 70 8 = μ4.1 70 8 := (F_297.1 70 (by decide) 8)
                  have e_310 : μ296.1 45 1 = μ.1 45 1 := ((F_297.1 45 (by decide) 1).trans (F_6.1 45 (by decide) 1))
                  have e_311 : μ296.1 70 2 = μ4.1 70 2 := (F_297.1 70 (by decide) 2)
                  have e_312 : μ296.1 70 1 = μ.1 70 1 := ((F_297.1 70 (by decide) 1).trans hs_9)
                  have e_313 : μ296.1 70 3 = μ.1 70 3 := ((F_297.1 70 (by decide) 3).trans hs_10)
                  have e_314 : μ296.1 70 4 = μ.1 70 4 := ((F_297.1 70 (by decide) 4).trans hs_11)
                  have e_315 : μ296.1 70 5 = μ.1 70 5 := ((F_297.1 70 (by decide) 5).trans hs_12)
                  have e_316 : μ296.1 70 6 = μ.1 70 6 := ((F_297.1 70 (by decide) 6).trans hs_13)
                  have e_317 : μ296.1 70 7 = μ.1 70 7 := ((F_297.1 70 (by decide) 7).trans hs_14)
                  have e_318 : μ296.1 32 10 = μ.1 32 10 := ((F_297.1 32 (by decide) 10).trans hs_16)
                  have e_319 : μ296.1 32 11 = μ.1 32 11 := ((F_297.1 32 (by decide) 11).trans hs_17)
                  have e_320 : μ296.1 32 12 = μ.1 32 12 := ((F_297.1 32 (by decide) 12).trans hs_18)
                  have e_321 : μ296.1 32 15 = μ.1 32 15 := ((F_297.1 32 (by decide) 15).trans hs_20)
                  have e_322 : μ296.1 32 16 = μ.1 32 16 := ((F_297.1 32 (by decide) 16).trans hs_21)
                  have e_323 : μ296.1 45 4 = μ.1 45 4 := ((F_297.1 45 (by decide) 4).trans (F_6.1 45 (by decide) 4))
                  exact xr_v G hret hlk dX4_sign_151 ⟨(Fr.tr (Fr.tr Fr.rf F_6 (by decide)) F_297 (by decide)), hI_298, (by omega), (by omega), (by omega), (by omega), (by omega), (by omega), (by omega), (by omega), (by omega), (by omega), (by omega), (by omega), (by omega), (by omega)⟩
              · refine lv_iload_n hx hb dX4_sign_108 rfl (lv_at hl 2 rfl) ?_
                refine lv_sipush (v := iv 131) hx hb dX4_sign_109 rfl ?_
                refine xb_icmp_eq (tgt := 122) hx hb (by unfold ir; omega) (by unfold ir; omega) dX4_sign_112 (by decide) (fun c_112 => ?_) (fun c_112 => ?_)
                · refine lv_iconst (v := iv 1) hx hb dX4_sign_122 rfl ?_
                  refine lv_goto (tgt := 127) hx hb dX4_sign_123 (by decide) ?_
                  refine lv_istore_n (lv' := [(3, .int (iv 1)), (2, .int (iv (r_24 - 1))), (0, .ref (oP ω 32)), (1, .int (iv x1))]) hx hb dX4_sign_127 rfl hl (by decide) rfl (fun ls hl => ?_)
                  refine lv_iload_n hx hb dX4_sign_128 rfl (lv_at hl 0 rfl) ?_
                  refine xb_if_eq (tgt := 152) hx hb (x := 1) (by unfold ir; omega) dX4_sign_129 (by decide) (fun c_129 => absurd c_129 (by decide)) (fun c_129 => ?_)
                  refine lv_aload_n hx hb dX4_sign_132 rfl (lv_at hl 2 rfl) ?_
                  refine lv_iconst (v := iv 2) hx hb dX4_sign_133 rfl ?_
                  refine lv_aload_n hx hb dX4_sign_134 rfl (lv_at hl 2 rfl) ?_
                  refine lv_iload_n hx hb dX4_sign_135 rfl (lv_at hl 3 rfl) ?_
                  refine lv_iload_n hx hb dX4_sign_136 rfl (lv_at hl 1 rfl) ?_
                  refine xc_iV G (b := 32) (rest := [.int (iv 2), .ref (oP ω 32)]) (As := [.int (iv x1), .int (iv (r_24 - 1))]) (c_X4_isTrue ω l μ4 x1 (r_24 - 1) (by unfold ir; omega) (by unfold ir; omega) hI_7 (by omega)) (wm 6 151 rfl rfl) (wm 6 153 rfl rfl) (wm 0 91 rfl rfl) rfl rfl (by decide) rfl (wm 1 14 rfl rfl) (wm 6 154 rfl rfl) (by decide) hR (by decide) (n := 2) rfl rfl (Nat.le_of_ble_eq_true rfl) hl.1 dX4_sign_137 (fun r_325 μ324 ρ d0 H locs hr_r_325 hp G => ?_)
                  have hr_r_325 : -2147483648 ≤ r_325 ∧ r_325 ≤ 2147483647 := hr_r_325
                  obtain ⟨hsm_326, hp_327⟩ := hp
                  have hsm_326 := Eq.symm hsm_326
                  subst hsm_326
                  refine xb_if_eq (tgt := 147) hx hb (by unfold ir; omega) dX4_sign_140 (by decide) (fun c_140 => ?_) (fun c_140 => ?_)
                  · refine lv_iconst (v := iv 0) hx hb dX4_sign_147 rfl ?_
                    have e_328 : μ4.1 33 3 = S := ((F_6.1 33 (by decide) 3).trans hS.symm)
                    refine xc_vV G (b := 32) (rest := []) (As := [.int (iv 2), .int (iv 0)]) (c_X4_replaceParts ω l μ4 2 0 S (by unfold ir; omega) (by unfold ir; omega) hI_7 (by omega) (by omega) (by omega)) (wm 6 147 rfl rfl) (wm 6 149 rfl rfl) (wm 0 90 rfl rfl) rfl rfl (by decide) rfl (wm 1 14 rfl rfl) (wm 6 150 rfl rfl) (by decide) hR (by decide) (n := 2) rfl rfl (Nat.le_of_ble_eq_true rfl) hl.1 dX4_sign_148 (fun μ329 ρ d0 H locs hp G => ?_)
                    obtain ⟨F_330, hI_331, hs_332⟩ := hp
                    have e_333 : μ329.1 33 3 = max (S - 2) 0 + 1 := hs_332
                    have e_334 : μ329.1 32 13 = μ4.1 32 13 := (F_330.1 32 (by decide) 13)
                    have e_335 : μ329.1 33 3 = max (S - 2) 0 + 1 := hs_332
                    have e_336 : μ329.1 32 13 = μ4.1 32 13 := (F_330.1 32 (by decide) 13)
                    have e_337 : μ329.1 32 13 = μ4.1 32 13 := (F_330.1 32 (by decide) 13)
                    have e_338 : μ329.1 32 13 = μ4.1 32 13 := (F_330.1 32 (by decide) 13)
                    have e_339 : μ329.1 70 2 = μ4.1 70 2 := (F_330.1 70 (by decide) 2)
                    have e_340 : μ329.1 70 2 = μ4.1 70 2 := (F_330.1 70 (by decide) 2)
                    have e_341 : μ329.1 70 8 = μ4.1 70 8 := (F_330.1 70 (by decide) 8)
                    have e_342 : μ329.1 70 8 = μ4.1 70 8 := (F_330.1 70 (by decide) 8)
                    have e_343 : μ329.1 45 1 = μ.1 45 1 := ((F_330.1 45 (by decide) 1).trans (F_6.1 45 (by decide) 1))
                    have e_344 : μ329.1 70 2 = μ4.1 70 2 := (F_330.1 70 (by decide) 2)
                    have e_345 : μ329.1 70 1 = μ.1 70 1 := ((F_330.1 70 (by decide) 1).trans hs_9)
                    have e_346 : μ329.1 70 3 = μ.1 70 3 := ((F_330.1 70 (by decide) 3).trans hs_10)
                    have e_347 : μ329.1 70 4 = μ.1 70 4 := ((F_330.1 70 (by decide) 4).trans hs_11)
                    have e_348 : μ329.1 70 5 = μ.1 70 5 := ((F_330.1 70 (by decide) 5).trans hs_12)
                    have e_349 : μ329.1 70 6 = μ.1 70 6 := ((F_330.1 70 (by decide) 6).trans hs_13)
                    have e_350 : μ329.1 70 7 = μ.1 70 7 := ((F_330.1 70 (by decide) 7).trans hs_14)
                    have e_351 : μ329.1 32 10 = μ.1 32 10 := ((F_330.1 32 (by decide) 10).trans hs_16)
                    have e_352 : μ329.1 32 11 = μ.1 32 11 := ((F_330.1 32 (by decide) 11).trans hs_17)
                    have e_353 : μ329.1 32 12 = μ.1 32 12 := ((F_330.1 32 (by decide) 12).trans hs_18)
                    have e_354 : μ329.1 32 15 = μ.1 32 15 := ((F_330.1 32 (by decide) 15).trans hs_20)
                    have e_355 : μ329.1 32 16 = μ.1 32 16 := ((F_330.1 32 (by decide) 16).trans hs_21)
                    have e_356 : μ329.1 45 4 = μ.1 45 4 := ((F_330.1 45 (by decide) 4).trans (F_6.1 45 (by decide) 4))
                    exact xr_v G hret hlk dX4_sign_151 ⟨(Fr.tr (Fr.tr Fr.rf F_6 (by decide)) F_330 (by decide)), hI_331, (by omega), (by omega), (by omega), (by omega), (by omega), (by omega), (by omega), (by omega), (by omega), (by omega), (by omega), (by omega), (by omega), (by omega)⟩
                  · refine lv_iconst (v := iv 1) hx hb dX4_sign_143 rfl ?_
                    refine lv_goto (tgt := 148) hx hb dX4_sign_144 (by decide) ?_
                    have e_357 : μ4.1 33 3 = S := ((F_6.1 33 (by decide) 3).trans hS.symm)
                    refine xc_vV G (b := 32) (rest := []) (As := [.int (iv 2), .int (iv 1)]) (c_X4_replaceParts ω l μ4 2 1 S (by unfold ir; omega) (by unfold ir; omega) hI_7 (by omega) (by omega) (by omega)) (wm 6 147 rfl rfl) (wm 6 149 rfl rfl) (wm 0 90 rfl rfl) rfl rfl (by decide) rfl (wm 1 14 rfl rfl) (wm 6 150 rfl rfl) (by decide) hR (by decide) (n := 2) rfl rfl (Nat.le_of_ble_eq_true rfl) hl.1 dX4_sign_148 (fun μ358 ρ d0 H locs hp G => ?_)
                    obtain ⟨F_359, hI_360, hs_361⟩ := hp
                    have e_362 : μ358.1 33 3 = max (S - 2) 0 + 1 := hs_361
                    have e_363 : μ358.1 32 13 = μ4.1 32 13 := (F_359.1 32 (by decide) 13)
                    have e_364 : μ358.1 33 3 = max (S - 2) 0 + 1 := hs_361
                    have e_365 : μ358.1 32 13 = μ4.1 32 13 := (F_359.1 32 (by decide) 13)
                    have e_366 : μ358.1 32 13 = μ4.1 32 13 := (F_359.1 32 (by decide) 13)
                    have e_367 : μ358.1 32 13 = μ4.1 32 13 := (F_359.1 32 (by decide) 13)
                    have e_368 : μ358.1 70 2 = μ4.1 70 2 := (F_359.1 70 (by decide) 2)
                    have e_369 : μ358.1 70 2 = μ4.1 70 2 := (F_359.1 70 (by decide) 2)
                    have e_370 : μ358.1 70 8 = μ4.1 70 8 := (F_359.1 70 (by decide) 8)
                    have e_371 : μ358.1 70 8 = μ4.1 70 8 := (F_359.1 70 (by decide) 8)
                    have e_372 : μ358.1 45 1 = μ.1 45 1 := ((F_359.1 45 (by decide) 1).trans (F_6.1 45 (by decide) 1))
                    have e_373 : μ358.1 70 2 = μ4.1 70 2 := (F_359.1 70 (by decide) 2)
                    have e_374 : μ358.1 70 1 = μ.1 70 1 := ((F_359.1 70 (by decide) 1).trans hs_9)
                    have e_375 : μ358.1 70 3 = μ.1 70 3 := ((F_359.1 70 (by decide) 3).trans hs_10)
                    have e_376 : μ358.1 70 4 = μ.1 70 4 := ((F_359.1 70 (by decide) 4).trans hs_11)
                    have e_377 : μ358.1 70 5 = μ.1 70 5 := ((F_359.1 70 (by decide) 5).trans hs_12)
                    have e_378 : μ358.1 70 6 = μ.1 70 6 := ((F_359.1 70 (by decide) 6).trans hs_13)
                    have e_379 : μ358.1 70 7 = μ.1 70 7 := ((F_359.1 70 (by decide) 7).trans hs_14)
                    have e_380 : μ358.1 32 10 = μ.1 32 10 := ((F_359.1 32 (by decide) 10).trans hs_16)
                    have e_381 : μ358.1 32 11 = μ.1 32 11 := ((F_359.1 32 (by decide) 11).trans hs_17)
                    have e_382 : μ358.1 32 12 = μ.1 32 12 := ((F_359.1 32 (by decide) 12).trans hs_18)
                    have e_383 : μ358.1 32 15 = μ.1 32 15 := ((F_359.1 32 (by decide) 15).trans hs_20)
                    have e_384 : μ358.1 32 16 = μ.1 32 16 := ((F_359.1 32 (by decide) 16).trans hs_21)
                    have e_385 : μ358.1 45 4 = μ.1 45 4 := ((F_359.1 45 (by decide) 4).trans (F_6.1 45 (by decide) 4))
                    exact xr_v G hret hlk dX4_sign_151 ⟨(Fr.tr (Fr.tr Fr.rf F_6 (by decide)) F_359 (by decide)), hI_360, (by omega), (by omega), (by omega), (by omega), (by omega), (by omega), (by omega), (by omega), (by omega), (by omega), (by omega), (by omega), (by omega), (by omega)⟩
                · refine lv_iload_n hx hb dX4_sign_115 rfl (lv_at hl 2 rfl) ?_
                  refine lv_sipush (v := iv 132) hx hb dX4_sign_116 rfl ?_
                  refine xb_icmp_ne (tgt := 126) hx hb (by unfold ir; omega) (by unfold ir; omega) dX4_sign_119 (by decide) (fun c_119 => ?_) (fun c_119 => ?_)
                  · refine lv_iconst (v := iv 0) hx hb dX4_sign_126 rfl ?_
                    refine lv_istore_n (lv' := [(3, .int (iv 0)), (2, .int (iv (r_24 - 1))), (0, .ref (oP ω 32)), (1, .int (iv x1))]) hx hb dX4_sign_127 rfl hl (by decide) rfl (fun ls hl => ?_)
                    refine lv_iload_n hx hb dX4_sign_128 rfl (lv_at hl 0 rfl) ?_
                    refine xb_if_eq (tgt := 152) hx hb (x := 0) (by unfold ir; omega) dX4_sign_129 (by decide) (fun c_129 => ?_) (fun c_129 => absurd (by decide) c_129)
                    refine lv_aload_n hx hb dX4_sign_152 rfl (lv_at hl 2 rfl) ?_
                    refine xa_getr G fd_X4 (a := 32) (x := 52) 7 rfl (by decide) rfl (wm 2 151 rfl rfl) ⟨rfl, rfl, rfl⟩ dX4_sign_153 rfl (G.sk 40 rfl) (by decide) rfl ?_
                    have e_386 : ofF μ4 53 = ofF μ 53 := (ofF_fr F_6 (by decide) (by decide))
                    refine xc_iV G (b := 52) (rest := []) (As := []) (c_X2_tongue ω l μ4  hI_7) (wm 5 218 rfl rfl) (wm 5 219 rfl rfl) (wm 5 220 rfl rfl) rfl rfl (by decide) rfl (wm 1 16 rfl rfl) (wm 5 221 rfl rfl) (by decide) hR (by decide) (n := 0) rfl rfl (Nat.le_of_ble_eq_true rfl) hl.1 dX4_sign_156 (fun r_388 μ387 ρ d0 H locs hr_r_388 hp G => ?_)
                    have hr_r_388 : -2147483648 ≤ r_388 ∧ r_388 ≤ 2147483647 := hr_r_388
                    obtain ⟨hsm_389, hp_390⟩ := hp
                    have hsm_389 := Eq.symm hsm_389
                    subst hsm_389
                    refine lv_iconst (v := iv 3) hx hb dX4_sign_159 rfl ?_
                    refine xb_icmp_ne (tgt := 172) hx hb (by unfold ir; omega) (by unfold ir; omega) dX4_sign_160 (by decide) (fun c_160 => ?_) (fun c_160 => ?_)
                    · refine lv_aload_n hx hb dX4_sign_172 rfl (lv_at hl 2 rfl) ?_
                      refine lv_iload_n hx hb dX4_sign_173 rfl (lv_at hl 3 rfl) ?_
                      refine lv_iload_n hx hb dX4_sign_174 rfl (lv_at hl 1 rfl) ?_
                      have e_391 : μ4.1 33 3 = S := ((F_6.1 33 (by decide) 3).trans hS.symm)
                      refine xc_iV G (b := 32) (rest := []) (As := [.int (iv x1), .int (iv (r_24 - 1))]) (c_X4_reckonWholes ω l μ4 x1 (r_24 - 1) S (by unfold ir; omega) (by unfold ir; omega) hI_7 (by omega) (by omega)) (wm 6 178 rfl rfl) (wm 6 180 rfl rfl) (wm 0 93 rfl rfl) rfl rfl (by decide) rfl (wm 1 14 rfl rfl) (wm 6 181 rfl rfl) (by decide) hR (by decide) (n := 2) rfl rfl (Nat.le_of_ble_eq_true rfl) hl.1 dX4_sign_175 (fun r_393 μ392 ρ d0 H locs hr_r_393 hp G => ?_)
                      have hr_r_393 : -2147483648 ≤ r_393 ∧ r_393 ≤ 2147483647 := hr_r_393
                      obtain ⟨F_394, hI_395, hs_396⟩ := hp
                      refine lv_istore (lv' := [(4, .int (iv r_393)), (3, .int (iv 0)), (2, .int (iv (r_24 - 1))), (0, .ref (oP ω 32)), (1, .int (iv x1))]) hx hb dX4_sign_178 hl (by decide) rfl (fun ls hl => ?_)
                      refine lv_iload hx hb dX4_sign_180 (lv_at hl 0 rfl) ?_
                      refine xb_if_eq (tgt := 195) hx hb (by unfold ir; omega) dX4_sign_182 (by decide) (fun c_182 => ?_) (fun c_182 => ?_)
                      · refine lv_aload_n hx hb dX4_sign_195 rfl (lv_at hl 3 rfl) ?_
                        refine xa_getr G fd_X4 (a := 32) (x := 33) 3 rfl (by decide) rfl (wm 2 147 rfl rfl) ⟨rfl, rfl, rfl⟩ dX4_sign_196 rfl (G.sk 36 rfl) (by decide) rfl ?_
                        refine lv_iconst (v := iv 1) hx hb dX4_sign_199 rfl ?_
                        have e_397 : μ392.1 33 3 = S := hs_396
                        refine xc_vV G (b := 33) (rest := []) (As := [.int (iv 1)]) (c_X9_drop ω l μ392 33 1 S (by unfold isRow; decide) (by unfold ir; omega) hI_395 (by omega) (by omega)) (wm 6 89 rfl rfl) (wm 6 90 rfl rfl) (wm 6 91 rfl rfl) rfl rfl (by decide) rfl (wm 1 10 rfl rfl) (wm 6 92 rfl rfl) (by decide) hR (by decide) (n := 1) rfl rfl (Nat.le_of_ble_eq_true rfl) hl.1 dX4_sign_200 (fun μ398 ρ d0 H locs hp G => ?_)
                        obtain ⟨F_399, hI_400, hs_401⟩ := hp
                        have e_402 : μ398.1 33 3 = max (S - 1) 0 := hs_401
                        have e_403 : μ398.1 32 13 = μ4.1 32 13 := ((F_399.1 32 (by decide) 13).trans (F_394.1 32 (by decide) 13))
                        have e_404 : μ398.1 33 3 = max (S - 1) 0 := hs_401
                        have e_405 : μ398.1 32 13 = μ4.1 32 13 := ((F_399.1 32 (by decide) 13).trans (F_394.1 32 (by decide) 13))
                        have e_406 : μ398.1 32 13 = μ4.1 32 13 := ((F_399.1 32 (by decide) 13).trans (F_394.1 32 (by decide) 13))
                        have e_407 : μ398.1 32 13 = μ4.1 32 13 := ((F_399.1 32 (by decide) 13).trans (F_394.1 32 (by decide) 13))
                        have e_408 : μ398.1 70 2 = μ4.1 70 2 := ((F_399.1 70 (by decide) 2).trans (F_394.1 70 (by decide) 2))
                        have e_409 : μ398.1 70 2 = μ4.1 70 2 := ((F_399.1 70 (by decide) 2).trans (F_394.1 70 (by decide) 2))
                        have e_410 : μ398.1 70 8 = μ4.1 70 8 := ((F_399.1 70 (by decide) 8).trans (F_394.1 70 (by decide) 8))
                        have e_411 : μ398.1 70 8 = μ4.1 70 8 := ((F_399.1 70 (by decide) 8).trans (F_394.1 70 (by decide) 8))
                        have e_412 : μ398.1 45 1 = μ.1 45 1 := ((F_399.1 45 (by decide) 1).trans ((F_394.1 45 (by decide) 1).trans (F_6.1 45 (by decide) 1)))
                        have e_413 : μ398.1 70 2 = μ4.1 70 2 := ((F_399.1 70 (by decide) 2).trans (F_394.1 70 (by decide) 2))
                        have e_414 : μ398.1 70 1 = μ.1 70 1 := ((F_399.1 70 (by decide) 1).trans ((F_394.1 70 (by decide) 1).trans hs_9))
                        have e_415 : μ398.1 70 3 = μ.1 70 3 := ((F_399.1 70 (by decide) 3).trans ((F_394.1 70 (by decide) 3).trans hs_10))
                        have e_416 : μ398.1 70 4 = μ.1 70 4 := ((F_399.1 70 (by decide) 4).trans ((F_394.1 70 (by decide) 4).trans hs_11))
                        have e_417 : μ398.1 70 5 = μ.1 70 5 := ((F_399.1 70 (by decide) 5).trans ((F_394.1 70 (by decide) 5).trans hs_12))
                        have e_418 : μ398.1 70 6 = μ.1 70 6 := ((F_399.1 70 (by decide) 6).trans ((F_394.1 70 (by decide) 6).trans hs_13))
                        have e_419 : μ398.1 70 7 = μ.1 70 7 := ((F_399.1 70 (by decide) 7).trans ((F_394.1 70 (by decide) 7).trans hs_14))
                        have e_420 : μ398.1 32 10 = μ.1 32 10 := ((F_399.1 32 (by decide) 10).trans ((F_394.1 32 (by decide) 10).trans hs_16))
                        have e_421 : μ398.1 32 11 = μ.1 32 11 := ((F_399.1 32 (by decide) 11).trans ((F_394.1 32 (by decide) 11).trans hs_17))
                        have e_422 : μ398.1 32 12 = μ.1 32 12 := ((F_399.1 32 (by decide) 12).trans ((F_394.1 32 (by decide) 12).trans hs_18))
                        have e_423 : μ398.1 32 15 = μ.1 32 15 := ((F_399.1 32 (by decide) 15).trans ((F_394.1 32 (by decide) 15).trans hs_20))
                        have e_424 : μ398.1 32 16 = μ.1 32 16 := ((F_399.1 32 (by decide) 16).trans ((F_394.1 32 (by decide) 16).trans hs_21))
                        have e_425 : μ398.1 45 4 = μ.1 45 4 := ((F_399.1 45 (by decide) 4).trans ((F_394.1 45 (by decide) 4).trans (F_6.1 45 (by decide) 4)))
                        exact xr_v G hret hlk dX4_sign_203 ⟨(Fr.tr (Fr.tr (Fr.tr Fr.rf F_6 (by decide)) F_394 (by decide)) F_399 (by decide)), hI_400, (by omega), (by omega), (by omega), (by omega), (by omega), (by omega), (by omega), (by omega), (by omega), (by omega), (by omega), (by omega), (by omega), (by omega)⟩
                      · refine lv_aload_n hx hb dX4_sign_185 rfl (lv_at hl 3 rfl) ?_
                        refine lv_iload hx hb dX4_sign_186 (lv_at hl 0 rfl) ?_
                        refine lv_iconst (v := iv 2) hx hb dX4_sign_188 rfl ?_
                        have e_426 : μ392.1 33 3 = S := hs_396
                        have e_427 : μ392.1 70 2 = μ4.1 70 2 := (F_394.1 70 (by decide) 2)
                        have e_428 : μ392.1 70 2 = μ4.1 70 2 := (F_394.1 70 (by decide) 2)
                        have e_429 : μ392.1 70 8 = μ4.1 70 8 := (F_394.1 70 (by decide) 8)
                        have e_430 : μ392.1 70 8 = μ4.1 70 8 := (F_394.1 70 (by decide) 8)
                        have e_431 : μ392.1 45 1 = μ.1 45 1 := ((F_394.1 45 (by decide) 1).trans (F_6.1 45 (by decide) 1))
                        have e_432 : μ392.1 70 2 = μ4.1 70 2 := (F_394.1 70 (by decide) 2)
                        have e_433 : μ392.1 32 13 = μ4.1 32 13 := (F_394.1 32 (by decide) 13)
                        have e_434 : ofF μ392 53 = ofF μ 53 := ((ofF_fr F_394 (by decide) (by decide)).trans (ofF_fr F_6 (by decide) (by decide)))
                        have e_435 : μ392.1 70 2 = μ4.1 70 2 := (F_394.1 70 (by decide) 2)
                        have e_436 : μ392.1 70 1 = μ.1 70 1 := ((F_394.1 70 (by decide) 1).trans hs_9)
                        have e_437 : μ392.1 70 3 = μ.1 70 3 := ((F_394.1 70 (by decide) 3).trans hs_10)
                        have e_438 : μ392.1 70 4 = μ.1 70 4 := ((F_394.1 70 (by decide) 4).trans hs_11)
                        have e_439 : μ392.1 70 5 = μ.1 70 5 := ((F_394.1 70 (by decide) 5).trans hs_12)
                        have e_440 : μ392.1 70 6 = μ.1 70 6 := ((F_394.1 70 (by decide) 6).trans hs_13)
                        have e_441 : μ392.1 70 7 = μ.1 70 7 := ((F_394.1 70 (by decide) 7).trans hs_14)
                        have e_442 : μ392.1 32 10 = μ.1 32 10 := ((F_394.1 32 (by decide) 10).trans hs_16)
                        have e_443 : μ392.1 32 11 = μ.1 32 11 := ((F_394.1 32 (by decide) 11).trans hs_17)
                        have e_444 : μ392.1 32 12 = μ.1 32 12 := ((F_394.1 32 (by decide) 12).trans hs_18)
                        have e_445 : μ392.1 32 15 = μ.1 32 15 := ((F_394.1 32 (by decide) 15).trans hs_20)
                        have e_446 : μ392.1 32 16 = μ.1 32 16 := ((F_394.1 32 (by decide) 16).trans hs_21)
                        have hn_447 : 0 ≤ μ.1 45 4 ∧ 2 * μ.1 45 4 ≤ μ.2.1 51 := hI.nm.2.2.2.2.2.2.2.1
                        have e_448 : μ392.1 45 4 = μ.1 45 4 := ((F_394.1 45 (by decide) 4).trans (F_6.1 45 (by decide) 4))
                        refine xc_vV G (b := 32) (rest := []) (As := [.int (iv r_393), .int (iv 2)]) (c_X4_fails ω l μ392 r_393 2 S (by unfold ir; omega) (by unfold ir; omega) hI_395 (by omega) (by omega) (by omega) (by omega)) (wm 6 93 rfl rfl) (wm 6 95 rfl rfl) (wm 0 82 rfl rfl) rfl rfl (by decide) rfl (wm 1 14 rfl rfl) (wm 6 96 rfl rfl) (by decide) hR (by decide) (n := 2) rfl rfl (Nat.le_of_ble_eq_true rfl) hl.1 dX4_sign_189 (fun μ449 ρ d0 H locs hp G => ?_)
                        obtain ⟨F_450, hI_451, hp_452, hp_453, hs_454, hs_455, hs_456, hs_457, hs_458, hs_459, hs_460, hs_461, hs_462, hs_463, hs_464, hs_465⟩ := hp
                        have hk_466 := hI_451.row (r := 33) (by unfold isRow; decide)
                        unfold rk at hk_466
                        simp only [Int.reduceAdd] at hk_466
                        have hn_467 : 0 ≤ μ449.1 45 1 ∧ 9 * μ449.1 45 1 ≤ μ449.2.1 46 := hI_451.nm.2.2.2.2.2.2.1
                        refine lv_goto (tgt := 203) hx hb dX4_sign_192 (by decide) ?_
                        have e_468 : μ449.1 70 1 = μ.1 70 1 := (hs_454.trans ((F_394.1 70 (by decide) 1).trans hs_9))
                        have e_469 : μ449.1 70 3 = μ.1 70 3 := (hs_455.trans ((F_394.1 70 (by decide) 3).trans hs_10))
                        have e_470 : μ449.1 70 4 = μ.1 70 4 := (hs_456.trans ((F_394.1 70 (by decide) 4).trans hs_11))
                        have e_471 : μ449.1 70 5 = μ.1 70 5 := (hs_457.trans ((F_394.1 70 (by decide) 5).trans hs_12))
                        have e_472 : μ449.1 70 6 = μ.1 70 6 := (hs_458.trans ((F_394.1 70 (by decide) 6).trans hs_13))
                        have e_473 : μ449.1 70 7 = μ.1 70 7 := (hs_459.trans ((F_394.1 70 (by decide) 7).trans hs_14))
                        have e_474 : μ449.1 32 10 = μ.1 32 10 := (hs_460.trans ((F_394.1 32 (by decide) 10).trans hs_16))
                        have e_475 : μ449.1 32 11 = μ.1 32 11 := (hs_461.trans ((F_394.1 32 (by decide) 11).trans hs_17))
                        have e_476 : μ449.1 32 12 = μ.1 32 12 := (hs_462.trans ((F_394.1 32 (by decide) 12).trans hs_18))
                        have e_477 : μ449.1 32 15 = μ.1 32 15 := (hs_463.trans ((F_394.1 32 (by decide) 15).trans hs_20))
                        have e_478 : μ449.1 32 16 = μ.1 32 16 := (hs_464.trans ((F_394.1 32 (by decide) 16).trans hs_21))
                        have e_479 : μ449.1 45 4 = μ.1 45 4 := (hs_465.trans ((F_394.1 45 (by decide) 4).trans (F_6.1 45 (by decide) 4)))
                        exact xr_v G hret hlk dX4_sign_203 ⟨(Fr.tr (Fr.tr (Fr.tr Fr.rf F_6 (by decide)) F_394 (by decide)) F_450 (by decide)), hI_451, (by omega), (by omega), (by omega), (by omega), (by omega), (by omega), (by omega), (by omega), (by omega), (by omega), (by omega), (by omega), (by omega), (by omega)⟩
                    · refine lv_aload_n hx hb dX4_sign_163 rfl (lv_at hl 2 rfl) ?_
                      refine lv_iload_n hx hb dX4_sign_164 rfl (lv_at hl 3 rfl) ?_
                      refine lv_iload_n hx hb dX4_sign_165 rfl (lv_at hl 1 rfl) ?_
                      have e_480 : μ4.1 33 3 = S := ((F_6.1 33 (by decide) 3).trans hS.symm)
                      refine xc_iV G (b := 32) (rest := []) (As := [.int (iv x1), .int (iv (r_24 - 1))]) (c_X4_reckonReals ω l μ4 x1 (r_24 - 1) S (by unfold ir; omega) (by unfold ir; omega) hI_7 (by omega) (by omega)) (wm 6 161 rfl rfl) (wm 6 163 rfl rfl) (wm 0 92 rfl rfl) rfl rfl (by decide) rfl (wm 1 14 rfl rfl) (wm 6 164 rfl rfl) (by decide) hR (by decide) (n := 2) rfl rfl (Nat.le_of_ble_eq_true rfl) hl.1 dX4_sign_166 (fun r_482 μ481 ρ d0 H locs hr_r_482 hp G => ?_)
                      have hr_r_482 : -2147483648 ≤ r_482 ∧ r_482 ≤ 2147483647 := hr_r_482
                      obtain ⟨F_483, hI_484, hs_485⟩ := hp
                      refine lv_goto (tgt := 178) hx hb dX4_sign_169 (by decide) ?_
                      refine lv_istore (lv' := [(4, .int (iv r_482)), (3, .int (iv 0)), (2, .int (iv (r_24 - 1))), (0, .ref (oP ω 32)), (1, .int (iv x1))]) hx hb dX4_sign_178 hl (by decide) rfl (fun ls hl => ?_)
                      refine lv_iload hx hb dX4_sign_180 (lv_at hl 0 rfl) ?_
                      refine xb_if_eq (tgt := 195) hx hb (by unfold ir; omega) dX4_sign_182 (by decide) (fun c_182 => ?_) (fun c_182 => ?_)
                      · refine lv_aload_n hx hb dX4_sign_195 rfl (lv_at hl 3 rfl) ?_
                        refine xa_getr G fd_X4 (a := 32) (x := 33) 3 rfl (by decide) rfl (wm 2 147 rfl rfl) ⟨rfl, rfl, rfl⟩ dX4_sign_196 rfl (G.sk 36 rfl) (by decide) rfl ?_
                        refine lv_iconst (v := iv 1) hx hb dX4_sign_199 rfl ?_
                        have e_486 : μ481.1 33 3 = S := hs_485
                        refine xc_vV G (b := 33) (rest := []) (As := [.int (iv 1)]) (c_X9_drop ω l μ481 33 1 S (by unfold isRow; decide) (by unfold ir; omega) hI_484 (by omega) (by omega)) (wm 6 89 rfl rfl) (wm 6 90 rfl rfl) (wm 6 91 rfl rfl) rfl rfl (by decide) rfl (wm 1 10 rfl rfl) (wm 6 92 rfl rfl) (by decide) hR (by decide) (n := 1) rfl rfl (Nat.le_of_ble_eq_true rfl) hl.1 dX4_sign_200 (fun μ487 ρ d0 H locs hp G => ?_)
                        obtain ⟨F_488, hI_489, hs_490⟩ := hp
                        have e_491 : μ487.1 33 3 = max (S - 1) 0 := hs_490
                        have e_492 : μ487.1 32 13 = μ4.1 32 13 := ((F_488.1 32 (by decide) 13).trans (F_483.1 32 (by decide) 13))
                        have e_493 : μ487.1 33 3 = max (S - 1) 0 := hs_490
                        have e_494 : μ487.1 32 13 = μ4.1 32 13 := ((F_488.1 32 (by decide) 13).trans (F_483.1 32 (by decide) 13))
                        have e_495 : μ487.1 32 13 = μ4.1 32 13 := ((F_488.1 32 (by decide) 13).trans (F_483.1 32 (by decide) 13))
                        have e_496 : μ487.1 32 13 = μ4.1 32 13 := ((F_488.1 32 (by decide) 13).trans (F_483.1 32 (by decide) 13))
                        have e_497 : μ487.1 70 2 = μ4.1 70 2 := ((F_488.1 70 (by decide) 2).trans (F_483.1 70 (by decide) 2))
                        have e_498 : μ487.1 70 2 = μ4.1 70 2 := ((F_488.1 70 (by decide) 2).trans (F_483.1 70 (by decide) 2))
                        have e_499 : μ487.1 70 8 = μ4.1 70 8 := ((F_488.1 70 (by decide) 8).trans (F_483.1 70 (by decide) 8))
                        have e_500 : μ487.1 70 8 = μ4.1 70 8 := ((F_488.1 70 (by decide) 8).trans (F_483.1 70 (by decide) 8))
                        have e_501 : μ487.1 45 1 = μ.1 45 1 := ((F_488.1 45 (by decide) 1).trans ((F_483.1 45 (by decide) 1).trans (F_6.1 45 (by decide) 1)))
                        have e_502 : μ487.1 70 2 = μ4.1 70 2 := ((F_488.1 70 (by decide) 2).trans (F_483.1 70 (by decide) 2))
                        have e_503 : μ487.1 70 1 = μ.1 70 1 := ((F_488.1 70 (by decide) 1).trans ((F_483.1 70 (by decide) 1).trans hs_9))
                        have e_504 : μ487.1 70 3 = μ.1 70 3 := ((F_488.1 70 (by decide) 3).trans ((F_483.1 70 (by decide) 3).trans hs_10))
                        have e_505 : μ487.1 70 4 = μ.1 70 4 := ((F_488.1 70 (by decide) 4).trans ((F_483.1 70 (by decide) 4).trans hs_11))
                        have e_506 : μ487.1 70 5 = μ.1 70 5 := ((F_488.1 70 (by decide) 5).trans ((F_483.1 70 (by decide) 5).trans hs_12))
                        have e_507 : μ487.1 70 6 = μ.1 70 6 := ((F_488.1 70 (by decide) 6).trans ((F_483.1 70 (by decide) 6).trans hs_13))
                        have e_508 : μ487.1 70 7 = μ.1 70 7 := ((F_488.1 70 (by decide) 7).trans ((F_483.1 70 (by decide) 7).trans hs_14))
                        have e_509 : μ487.1 32 10 = μ.1 32 10 := ((F_488.1 32 (by decide) 10).trans ((F_483.1 32 (by decide) 10).trans hs_16))
                        have e_510 : μ487.1 32 11 = μ.1 32 11 := ((F_488.1 32 (by decide) 11).trans ((F_483.1 32 (by decide) 11).trans hs_17))
                        have e_511 : μ487.1 32 12 = μ.1 32 12 := ((F_488.1 32 (by decide) 12).trans ((F_483.1 32 (by decide) 12).trans hs_18))
                        have e_512 : μ487.1 32 15 = μ.1 32 15 := ((F_488.1 32 (by decide) 15).trans ((F_483.1 32 (by decide) 15).trans hs_20))
                        have e_513 : μ487.1 32 16 = μ.1 32 16 := ((F_488.1 32 (by decide) 16).trans ((F_483.1 32 (by decide) 16).trans hs_21))
                        have e_514 : μ487.1 45 4 = μ.1 45 4 := ((F_488.1 45 (by decide) 4).trans ((F_483.1 45 (by decide) 4).trans (F_6.1 45 (by decide) 4)))
                        exact xr_v G hret hlk dX4_sign_203 ⟨(Fr.tr (Fr.tr (Fr.tr Fr.rf F_6 (by decide)) F_483 (by decide)) F_488 (by decide)), hI_489, (by omega), (by omega), (by omega), (by omega), (by omega), (by omega), (by omega), (by omega), (by omega), (by omega), (by omega), (by omega), (by omega), (by omega)⟩
                      · refine lv_aload_n hx hb dX4_sign_185 rfl (lv_at hl 3 rfl) ?_
                        refine lv_iload hx hb dX4_sign_186 (lv_at hl 0 rfl) ?_
                        refine lv_iconst (v := iv 2) hx hb dX4_sign_188 rfl ?_
                        have e_515 : μ481.1 33 3 = S := hs_485
                        have e_516 : μ481.1 70 2 = μ4.1 70 2 := (F_483.1 70 (by decide) 2)
                        have e_517 : μ481.1 70 2 = μ4.1 70 2 := (F_483.1 70 (by decide) 2)
                        have e_518 : μ481.1 70 8 = μ4.1 70 8 := (F_483.1 70 (by decide) 8)
                        have e_519 : μ481.1 70 8 = μ4.1 70 8 := (F_483.1 70 (by decide) 8)
                        have e_520 : μ481.1 45 1 = μ.1 45 1 := ((F_483.1 45 (by decide) 1).trans (F_6.1 45 (by decide) 1))
                        have e_521 : μ481.1 70 2 = μ4.1 70 2 := (F_483.1 70 (by decide) 2)
                        have e_522 : μ481.1 32 13 = μ4.1 32 13 := (F_483.1 32 (by decide) 13)
                        have e_523 : ofF μ481 53 = ofF μ 53 := ((ofF_fr F_483 (by decide) (by decide)).trans (ofF_fr F_6 (by decide) (by decide)))
                        have e_524 : μ481.1 70 2 = μ4.1 70 2 := (F_483.1 70 (by decide) 2)
                        have e_525 : μ481.1 70 1 = μ.1 70 1 := ((F_483.1 70 (by decide) 1).trans hs_9)
                        have e_526 : μ481.1 70 3 = μ.1 70 3 := ((F_483.1 70 (by decide) 3).trans hs_10)
                        have e_527 : μ481.1 70 4 = μ.1 70 4 := ((F_483.1 70 (by decide) 4).trans hs_11)
                        have e_528 : μ481.1 70 5 = μ.1 70 5 := ((F_483.1 70 (by decide) 5).trans hs_12)
                        have e_529 : μ481.1 70 6 = μ.1 70 6 := ((F_483.1 70 (by decide) 6).trans hs_13)
                        have e_530 : μ481.1 70 7 = μ.1 70 7 := ((F_483.1 70 (by decide) 7).trans hs_14)
                        have e_531 : μ481.1 32 10 = μ.1 32 10 := ((F_483.1 32 (by decide) 10).trans hs_16)
                        have e_532 : μ481.1 32 11 = μ.1 32 11 := ((F_483.1 32 (by decide) 11).trans hs_17)
                        have e_533 : μ481.1 32 12 = μ.1 32 12 := ((F_483.1 32 (by decide) 12).trans hs_18)
                        have e_534 : μ481.1 32 15 = μ.1 32 15 := ((F_483.1 32 (by decide) 15).trans hs_20)
                        have e_535 : μ481.1 32 16 = μ.1 32 16 := ((F_483.1 32 (by decide) 16).trans hs_21)
                        have hn_536 : 0 ≤ μ.1 45 4 ∧ 2 * μ.1 45 4 ≤ μ.2.1 51 := hI.nm.2.2.2.2.2.2.2.1
                        have e_537 : μ481.1 45 4 = μ.1 45 4 := ((F_483.1 45 (by decide) 4).trans (F_6.1 45 (by decide) 4))
                        refine xc_vV G (b := 32) (rest := []) (As := [.int (iv r_482), .int (iv 2)]) (c_X4_fails ω l μ481 r_482 2 S (by unfold ir; omega) (by unfold ir; omega) hI_484 (by omega) (by omega) (by omega) (by omega)) (wm 6 93 rfl rfl) (wm 6 95 rfl rfl) (wm 0 82 rfl rfl) rfl rfl (by decide) rfl (wm 1 14 rfl rfl) (wm 6 96 rfl rfl) (by decide) hR (by decide) (n := 2) rfl rfl (Nat.le_of_ble_eq_true rfl) hl.1 dX4_sign_189 (fun μ538 ρ d0 H locs hp G => ?_)
                        obtain ⟨F_539, hI_540, hp_541, hp_542, hs_543, hs_544, hs_545, hs_546, hs_547, hs_548, hs_549, hs_550, hs_551, hs_552, hs_553, hs_554⟩ := hp
                        have hk_555 := hI_540.row (r := 33) (by unfold isRow; decide)
                        unfold rk at hk_555
                        simp only [Int.reduceAdd] at hk_555
                        have hn_556 : 0 ≤ μ538.1 45 1 ∧ 9 * μ538.1 45 1 ≤ μ538.2.1 46 := hI_540.nm.2.2.2.2.2.2.1
                        refine lv_goto (tgt := 203) hx hb dX4_sign_192 (by decide) ?_
                        have e_557 : μ538.1 70 1 = μ.1 70 1 := (hs_543.trans ((F_483.1 70 (by decide) 1).trans hs_9))
                        have e_558 : μ538.1 70 3 = μ.1 70 3 := (hs_544.trans ((F_483.1 70 (by decide) 3).trans hs_10))
                        have e_559 : μ538.1 70 4 = μ.1 70 4 := (hs_545.trans ((F_483.1 70 (by decide) 4).trans hs_11))
                        have e_560 : μ538.1 70 5 = μ.1 70 5 := (hs_546.trans ((F_483.1 70 (by decide) 5).trans hs_12))
                        have e_561 : μ538.1 70 6 = μ.1 70 6 := (hs_547.trans ((F_483.1 70 (by decide) 6).trans hs_13))
                        have e_562 : μ538.1 70 7 = μ.1 70 7 := (hs_548.trans ((F_483.1 70 (by decide) 7).trans hs_14))
                        have e_563 : μ538.1 32 10 = μ.1 32 10 := (hs_549.trans ((F_483.1 32 (by decide) 10).trans hs_16))
                        have e_564 : μ538.1 32 11 = μ.1 32 11 := (hs_550.trans ((F_483.1 32 (by decide) 11).trans hs_17))
                        have e_565 : μ538.1 32 12 = μ.1 32 12 := (hs_551.trans ((F_483.1 32 (by decide) 12).trans hs_18))
                        have e_566 : μ538.1 32 15 = μ.1 32 15 := (hs_552.trans ((F_483.1 32 (by decide) 15).trans hs_20))
                        have e_567 : μ538.1 32 16 = μ.1 32 16 := (hs_553.trans ((F_483.1 32 (by decide) 16).trans hs_21))
                        have e_568 : μ538.1 45 4 = μ.1 45 4 := (hs_554.trans ((F_483.1 45 (by decide) 4).trans (F_6.1 45 (by decide) 4)))
                        exact xr_v G hret hlk dX4_sign_203 ⟨(Fr.tr (Fr.tr (Fr.tr Fr.rf F_6 (by decide)) F_483 (by decide)) F_539 (by decide)), hI_540, (by omega), (by omega), (by omega), (by omega), (by omega), (by omega), (by omega), (by omega), (by omega), (by omega), (by omega), (by omega), (by omega), (by omega)⟩
                  · refine lv_iconst (v := iv 1) hx hb dX4_sign_122 rfl ?_
                    refine lv_goto (tgt := 127) hx hb dX4_sign_123 (by decide) ?_
                    refine lv_istore_n (lv' := [(3, .int (iv 1)), (2, .int (iv (r_24 - 1))), (0, .ref (oP ω 32)), (1, .int (iv x1))]) hx hb dX4_sign_127 rfl hl (by decide) rfl (fun ls hl => ?_)
                    refine lv_iload_n hx hb dX4_sign_128 rfl (lv_at hl 0 rfl) ?_
                    refine xb_if_eq (tgt := 152) hx hb (x := 1) (by unfold ir; omega) dX4_sign_129 (by decide) (fun c_129 => absurd c_129 (by decide)) (fun c_129 => ?_)
                    refine lv_aload_n hx hb dX4_sign_132 rfl (lv_at hl 2 rfl) ?_
                    refine lv_iconst (v := iv 2) hx hb dX4_sign_133 rfl ?_
                    refine lv_aload_n hx hb dX4_sign_134 rfl (lv_at hl 2 rfl) ?_
                    refine lv_iload_n hx hb dX4_sign_135 rfl (lv_at hl 3 rfl) ?_
                    refine lv_iload_n hx hb dX4_sign_136 rfl (lv_at hl 1 rfl) ?_
                    refine xc_iV G (b := 32) (rest := [.int (iv 2), .ref (oP ω 32)]) (As := [.int (iv x1), .int (iv (r_24 - 1))]) (c_X4_isTrue ω l μ4 x1 (r_24 - 1) (by unfold ir; omega) (by unfold ir; omega) hI_7 (by omega)) (wm 6 151 rfl rfl) (wm 6 153 rfl rfl) (wm 0 91 rfl rfl) rfl rfl (by decide) rfl (wm 1 14 rfl rfl) (wm 6 154 rfl rfl) (by decide) hR (by decide) (n := 2) rfl rfl (Nat.le_of_ble_eq_true rfl) hl.1 dX4_sign_137 (fun r_570 μ569 ρ d0 H locs hr_r_570 hp G => ?_)
                    have hr_r_570 : -2147483648 ≤ r_570 ∧ r_570 ≤ 2147483647 := hr_r_570
                    obtain ⟨hsm_571, hp_572⟩ := hp
                    have hsm_571 := Eq.symm hsm_571
                    subst hsm_571
                    refine xb_if_eq (tgt := 147) hx hb (by unfold ir; omega) dX4_sign_140 (by decide) (fun c_140 => ?_) (fun c_140 => ?_)
                    · refine lv_iconst (v := iv 0) hx hb dX4_sign_147 rfl ?_
                      have e_573 : μ4.1 33 3 = S := ((F_6.1 33 (by decide) 3).trans hS.symm)
                      refine xc_vV G (b := 32) (rest := []) (As := [.int (iv 2), .int (iv 0)]) (c_X4_replaceParts ω l μ4 2 0 S (by unfold ir; omega) (by unfold ir; omega) hI_7 (by omega) (by omega) (by omega)) (wm 6 147 rfl rfl) (wm 6 149 rfl rfl) (wm 0 90 rfl rfl) rfl rfl (by decide) rfl (wm 1 14 rfl rfl) (wm 6 150 rfl rfl) (by decide) hR (by decide) (n := 2) rfl rfl (Nat.le_of_ble_eq_true rfl) hl.1 dX4_sign_148 (fun μ574 ρ d0 H locs hp G => ?_)
                      obtain ⟨F_575, hI_576, hs_577⟩ := hp
                      have e_578 : μ574.1 33 3 = max (S - 2) 0 + 1 := hs_577
                      have e_579 : μ574.1 32 13 = μ4.1 32 13 := (F_575.1 32 (by decide) 13)
                      have e_580 : μ574.1 33 3 = max (S - 2) 0 + 1 := hs_577
                      have e_581 : μ574.1 32 13 = μ4.1 32 13 := (F_575.1 32 (by decide) 13)
                      have e_582 : μ574.1 32 13 = μ4.1 32 13 := (F_575.1 32 (by decide) 13)
                      have e_583 : μ574.1 32 13 = μ4.1 32 13 := (F_575.1 32 (by decide) 13)
                      have e_584 : μ574.1 70 2 = μ4.1 70 2 := (F_575.1 70 (by decide) 2)
                      have e_585 : μ574.1 70 2 = μ4.1 70 2 := (F_575.1 70 (by decide) 2)
                      have e_586 : μ574.1 70 8 = μ4.1 70 8 := (F_575.1 70 (by decide) 8)
                      have e_587 : μ574.1 70 8 = μ4.1 70 8 := (F_575.1 70 (by decide) 8)
                      have e_588 : μ574.1 45 1 = μ.1 45 1 := ((F_575.1 45 (by decide) 1).trans (F_6.1 45 (by decide) 1))
                      have e_589 : μ574.1 70 2 = μ4.1 70 2 := (F_575.1 70 (by decide) 2)
                      have e_590 : μ574.1 70 1 = μ.1 70 1 := ((F_575.1 70 (by decide) 1).trans hs_9)
                      have e_591 : μ574.1 70 3 = μ.1 70 3 := ((F_575.1 70 (by decide) 3).trans hs_10)
                      have e_592 : μ574.1 70 4 = μ.1 70 4 := ((F_575.1 70 (by decide) 4).trans hs_11)
                      have e_593 : μ574.1 70 5 = μ.1 70 5 := ((F_575.1 70 (by decide) 5).trans hs_12)
                      have e_594 : μ574.1 70 6 = μ.1 70 6 := ((F_575.1 70 (by decide) 6).trans hs_13)
                      have e_595 : μ574.1 70 7 = μ.1 70 7 := ((F_575.1 70 (by decide) 7).trans hs_14)
                      have e_596 : μ574.1 32 10 = μ.1 32 10 := ((F_575.1 32 (by decide) 10).trans hs_16)
                      have e_597 : μ574.1 32 11 = μ.1 32 11 := ((F_575.1 32 (by decide) 11).trans hs_17)
                      have e_598 : μ574.1 32 12 = μ.1 32 12 := ((F_575.1 32 (by decide) 12).trans hs_18)
                      have e_599 : μ574.1 32 15 = μ.1 32 15 := ((F_575.1 32 (by decide) 15).trans hs_20)
                      have e_600 : μ574.1 32 16 = μ.1 32 16 := ((F_575.1 32 (by decide) 16).trans hs_21)
                      have e_601 : μ574.1 45 4 = μ.1 45 4 := ((F_575.1 45 (by decide) 4).trans (F_6.1 45 (by decide) 4))
                      exact xr_v G hret hlk dX4_sign_151 ⟨(Fr.tr (Fr.tr Fr.rf F_6 (by decide)) F_575 (by decide)), hI_576, (by omega), (by omega), (by omega), (by omega), (by omega), (by omega), (by omega), (by omega), (by omega), (by omega), (by omega), (by omega), (by omega), (by omega)⟩
                    · refine lv_iconst (v := iv 1) hx hb dX4_sign_143 rfl ?_
                      refine lv_goto (tgt := 148) hx hb dX4_sign_144 (by decide) ?_
                      have e_602 : μ4.1 33 3 = S := ((F_6.1 33 (by decide) 3).trans hS.symm)
                      refine xc_vV G (b := 32) (rest := []) (As := [.int (iv 2), .int (iv 1)]) (c_X4_replaceParts ω l μ4 2 1 S (by unfold ir; omega) (by unfold ir; omega) hI_7 (by omega) (by omega) (by omega)) (wm 6 147 rfl rfl) (wm 6 149 rfl rfl) (wm 0 90 rfl rfl) rfl rfl (by decide) rfl (wm 1 14 rfl rfl) (wm 6 150 rfl rfl) (by decide) hR (by decide) (n := 2) rfl rfl (Nat.le_of_ble_eq_true rfl) hl.1 dX4_sign_148 (fun μ603 ρ d0 H locs hp G => ?_)
                      obtain ⟨F_604, hI_605, hs_606⟩ := hp
                      have e_607 : μ603.1 33 3 = max (S - 2) 0 + 1 := hs_606
                      have e_608 : μ603.1 32 13 = μ4.1 32 13 := (F_604.1 32 (by decide) 13)
                      have e_609 : μ603.1 33 3 = max (S - 2) 0 + 1 := hs_606
                      have e_610 : μ603.1 32 13 = μ4.1 32 13 := (F_604.1 32 (by decide) 13)
                      have e_611 : μ603.1 32 13 = μ4.1 32 13 := (F_604.1 32 (by decide) 13)
                      have e_612 : μ603.1 32 13 = μ4.1 32 13 := (F_604.1 32 (by decide) 13)
                      have e_613 : μ603.1 70 2 = μ4.1 70 2 := (F_604.1 70 (by decide) 2)
                      have e_614 : μ603.1 70 2 = μ4.1 70 2 := (F_604.1 70 (by decide) 2)
                      have e_615 : μ603.1 70 8 = μ4.1 70 8 := (F_604.1 70 (by decide) 8)
                      have e_616 : μ603.1 70 8 = μ4.1 70 8 := (F_604.1 70 (by decide) 8)
                      have e_617 : μ603.1 45 1 = μ.1 45 1 := ((F_604.1 45 (by decide) 1).trans (F_6.1 45 (by decide) 1))
                      have e_618 : μ603.1 70 2 = μ4.1 70 2 := (F_604.1 70 (by decide) 2)
                      have e_619 : μ603.1 70 1 = μ.1 70 1 := ((F_604.1 70 (by decide) 1).trans hs_9)
                      have e_620 : μ603.1 70 3 = μ.1 70 3 := ((F_604.1 70 (by decide) 3).trans hs_10)
                      have e_621 : μ603.1 70 4 = μ.1 70 4 := ((F_604.1 70 (by decide) 4).trans hs_11)
                      have e_622 : μ603.1 70 5 = μ.1 70 5 := ((F_604.1 70 (by decide) 5).trans hs_12)
                      have e_623 : μ603.1 70 6 = μ.1 70 6 := ((F_604.1 70 (by decide) 6).trans hs_13)
                      have e_624 : μ603.1 70 7 = μ.1 70 7 := ((F_604.1 70 (by decide) 7).trans hs_14)
                      have e_625 : μ603.1 32 10 = μ.1 32 10 := ((F_604.1 32 (by decide) 10).trans hs_16)
                      have e_626 : μ603.1 32 11 = μ.1 32 11 := ((F_604.1 32 (by decide) 11).trans hs_17)
                      have e_627 : μ603.1 32 12 = μ.1 32 12 := ((F_604.1 32 (by decide) 12).trans hs_18)
                      have e_628 : μ603.1 32 15 = μ.1 32 15 := ((F_604.1 32 (by decide) 15).trans hs_20)
                      have e_629 : μ603.1 32 16 = μ.1 32 16 := ((F_604.1 32 (by decide) 16).trans hs_21)
                      have e_630 : μ603.1 45 4 = μ.1 45 4 := ((F_604.1 45 (by decide) 4).trans (F_6.1 45 (by decide) 4))
                      exact xr_v G hret hlk dX4_sign_151 ⟨(Fr.tr (Fr.tr Fr.rf F_6 (by decide)) F_604 (by decide)), hI_605, (by omega), (by omega), (by omega), (by omega), (by omega), (by omega), (by omega), (by omega), (by omega), (by omega), (by omega), (by omega), (by omega), (by omega)⟩
          · refine lv_aload_n hx hb dX4_sign_89 rfl (lv_at hl 1 rfl) ?_
            refine lv_iconst (v := iv 4) hx hb dX4_sign_90 rfl ?_
            refine lv_iconst (v := iv 2) hx hb dX4_sign_91 rfl ?_
            have e_631 : μ4.1 33 3 = S := ((F_6.1 33 (by decide) 3).trans hS.symm)
            have e_632 : μ4.1 45 1 = μ.1 45 1 := (F_6.1 45 (by decide) 1)
            have e_633 : ofF μ4 53 = ofF μ 53 := (ofF_fr F_6 (by decide) (by decide))
            have e_634 : μ4.1 70 1 = μ.1 70 1 := hs_9
            have e_635 : μ4.1 70 3 = μ.1 70 3 := hs_10
            have e_636 : μ4.1 70 4 = μ.1 70 4 := hs_11
            have e_637 : μ4.1 70 5 = μ.1 70 5 := hs_12
            have e_638 : μ4.1 70 6 = μ.1 70 6 := hs_13
            have e_639 : μ4.1 70 7 = μ.1 70 7 := hs_14
            have e_640 : μ4.1 32 10 = μ.1 32 10 := hs_16
            have e_641 : μ4.1 32 11 = μ.1 32 11 := hs_17
            have e_642 : μ4.1 32 12 = μ.1 32 12 := hs_18
            have e_643 : μ4.1 32 15 = μ.1 32 15 := hs_20
            have e_644 : μ4.1 32 16 = μ.1 32 16 := hs_21
            have hn_645 : 0 ≤ μ.1 45 4 ∧ 2 * μ.1 45 4 ≤ μ.2.1 51 := hI.nm.2.2.2.2.2.2.2.1
            have e_646 : μ4.1 45 4 = μ.1 45 4 := (F_6.1 45 (by decide) 4)
            refine xc_vV G (b := 32) (rest := []) (As := [.int (iv 4), .int (iv 2)]) (c_X4_fails ω l μ4 4 2 S (by unfold ir; omega) (by unfold ir; omega) hI_7 (by omega) (by omega) (by omega) (by omega)) (wm 6 93 rfl rfl) (wm 6 95 rfl rfl) (wm 0 82 rfl rfl) rfl rfl (by decide) rfl (wm 1 14 rfl rfl) (wm 6 96 rfl rfl) (by decide) hR (by decide) (n := 2) rfl rfl (Nat.le_of_ble_eq_true rfl) hl.1 dX4_sign_92 (fun μ647 ρ d0 H locs hp G => ?_)
            obtain ⟨F_648, hI_649, hp_650, hp_651, hs_652, hs_653, hs_654, hs_655, hs_656, hs_657, hs_658, hs_659, hs_660, hs_661, hs_662, hs_663⟩ := hp
            have hk_664 := hI_649.row (r := 33) (by unfold isRow; decide)
            unfold rk at hk_664
            simp only [Int.reduceAdd] at hk_664
            have hn_665 : 0 ≤ μ647.1 45 1 ∧ 9 * μ647.1 45 1 ≤ μ647.2.1 46 := hI_649.nm.2.2.2.2.2.2.1
            have e_666 : μ647.1 70 1 = μ.1 70 1 := (hs_652.trans hs_9)
            have e_667 : μ647.1 70 3 = μ.1 70 3 := (hs_653.trans hs_10)
            have e_668 : μ647.1 70 4 = μ.1 70 4 := (hs_654.trans hs_11)
            have e_669 : μ647.1 70 5 = μ.1 70 5 := (hs_655.trans hs_12)
            have e_670 : μ647.1 70 6 = μ.1 70 6 := (hs_656.trans hs_13)
            have e_671 : μ647.1 70 7 = μ.1 70 7 := (hs_657.trans hs_14)
            have e_672 : μ647.1 32 10 = μ.1 32 10 := (hs_658.trans hs_16)
            have e_673 : μ647.1 32 11 = μ.1 32 11 := (hs_659.trans hs_17)
            have e_674 : μ647.1 32 12 = μ.1 32 12 := (hs_660.trans hs_18)
            have e_675 : μ647.1 32 15 = μ.1 32 15 := (hs_661.trans hs_20)
            have e_676 : μ647.1 32 16 = μ.1 32 16 := (hs_662.trans hs_21)
            have e_677 : μ647.1 45 4 = μ.1 45 4 := (hs_663.trans (F_6.1 45 (by decide) 4))
            exact xr_v G hret hlk dX4_sign_95 ⟨(Fr.tr (Fr.tr Fr.rf F_6 (by decide)) F_648 (by decide)), hI_649, (by omega), (by omega), (by omega), (by omega), (by omega), (by omega), (by omega), (by omega), (by omega), (by omega), (by omega), (by omega), (by omega), (by omega)⟩
      · refine lv_aload_n hx hb dX4_sign_29 rfl (lv_at hl 1 rfl) ?_
        refine lv_iconst (v := iv 2) hx hb dX4_sign_30 rfl ?_
        refine lv_aload_n hx hb dX4_sign_31 rfl (lv_at hl 1 rfl) ?_
        refine lv_iload_n hx hb dX4_sign_32 rfl (lv_at hl 0 rfl) ?_
        refine lv_iload_n hx hb dX4_sign_33 rfl (lv_at hl 0 rfl) ?_
        refine lv_iconst (v := iv 1) hx hb dX4_sign_34 rfl ?_
        refine xb_iadd hx hb dX4_sign_35 ?_
        refine xb_ti (y := r_24) (by omega) ?_
        refine xc_iV G (b := 32) (rest := [.int (iv 2), .ref (oP ω 32)]) (As := [.int (iv (r_24 - 1)), .int (iv r_24)]) (c_X4_areSame ω l μ4 (r_24 - 1) r_24 (by unfold ir; omega) (by unfold ir; omega) hI_7) (wm 6 142 rfl rfl) (wm 6 144 rfl rfl) (wm 0 89 rfl rfl) rfl rfl (by decide) rfl (wm 1 14 rfl rfl) (wm 6 145 rfl rfl) (by decide) hR (by decide) (n := 2) rfl rfl (Nat.le_of_ble_eq_true rfl) hl.1 dX4_sign_36 (fun r_679 μ678 ρ d0 H locs hr_r_679 hp G => ?_)
        have hr_r_679 : -2147483648 ≤ r_679 ∧ r_679 ≤ 2147483647 := hr_r_679
        obtain ⟨hsm_680, hp_681⟩ := hp
        have hsm_680 := Eq.symm hsm_680
        subst hsm_680
        refine lv_iload_n hx hb dX4_sign_39 rfl (lv_at hl 2 rfl) ?_
        refine lv_sipush (v := iv 129) hx hb dX4_sign_40 rfl ?_
        refine xb_icmp_ne (tgt := 50) hx hb (by unfold ir; omega) (by unfold ir; omega) dX4_sign_43 (by decide) (fun c_43 => ?_) (fun c_43 => ?_)
        · refine lv_iconst (v := iv 0) hx hb dX4_sign_50 rfl ?_
          refine xb_icmp_ne (tgt := 58) hx hb (by unfold ir; omega) (by unfold ir; omega) dX4_sign_51 (by decide) (fun c_51 => ?_) (fun c_51 => ?_)
          · refine lv_iconst (v := iv 0) hx hb dX4_sign_58 rfl ?_
            have e_682 : μ4.1 33 3 = S := ((F_6.1 33 (by decide) 3).trans hS.symm)
            refine xc_vV G (b := 32) (rest := []) (As := [.int (iv 2), .int (iv 0)]) (c_X4_replaceParts ω l μ4 2 0 S (by unfold ir; omega) (by unfold ir; omega) hI_7 (by omega) (by omega) (by omega)) (wm 6 147 rfl rfl) (wm 6 149 rfl rfl) (wm 0 90 rfl rfl) rfl rfl (by decide) rfl (wm 1 14 rfl rfl) (wm 6 150 rfl rfl) (by decide) hR (by decide) (n := 2) rfl rfl (Nat.le_of_ble_eq_true rfl) hl.1 dX4_sign_59 (fun μ683 ρ d0 H locs hp G => ?_)
            obtain ⟨F_684, hI_685, hs_686⟩ := hp
            have e_687 : μ683.1 33 3 = max (S - 2) 0 + 1 := hs_686
            have e_688 : μ683.1 32 13 = μ4.1 32 13 := (F_684.1 32 (by decide) 13)
            have e_689 : μ683.1 33 3 = max (S - 2) 0 + 1 := hs_686
            have e_690 : μ683.1 32 13 = μ4.1 32 13 := (F_684.1 32 (by decide) 13)
            have e_691 : μ683.1 32 13 = μ4.1 32 13 := (F_684.1 32 (by decide) 13)
            have e_692 : μ683.1 32 13 = μ4.1 32 13 := (F_684.1 32 (by decide) 13)
            have e_693 : μ683.1 70 2 = μ4.1 70 2 := (F_684.1 70 (by decide) 2)
            have e_694 : μ683.1 70 2 = μ4.1 70 2 := (F_684.1 70 (by decide) 2)
            have e_695 : μ683.1 70 8 = μ4.1 70 8 := (F_684.1 70 (by decide) 8)
            have e_696 : μ683.1 70 8 = μ4.1 70 8 := (F_684.1 70 (by decide) 8)
            have e_697 : μ683.1 45 1 = μ.1 45 1 := ((F_684.1 45 (by decide) 1).trans (F_6.1 45 (by decide) 1))
            have e_698 : μ683.1 70 2 = μ4.1 70 2 := (F_684.1 70 (by decide) 2)
            have e_699 : μ683.1 70 1 = μ.1 70 1 := ((F_684.1 70 (by decide) 1).trans hs_9)
            have e_700 : μ683.1 70 3 = μ.1 70 3 := ((F_684.1 70 (by decide) 3).trans hs_10)
            have e_701 : μ683.1 70 4 = μ.1 70 4 := ((F_684.1 70 (by decide) 4).trans hs_11)
            have e_702 : μ683.1 70 5 = μ.1 70 5 := ((F_684.1 70 (by decide) 5).trans hs_12)
            have e_703 : μ683.1 70 6 = μ.1 70 6 := ((F_684.1 70 (by decide) 6).trans hs_13)
            have e_704 : μ683.1 70 7 = μ.1 70 7 := ((F_684.1 70 (by decide) 7).trans hs_14)
            have e_705 : μ683.1 32 10 = μ.1 32 10 := ((F_684.1 32 (by decide) 10).trans hs_16)
            have e_706 : μ683.1 32 11 = μ.1 32 11 := ((F_684.1 32 (by decide) 11).trans hs_17)
            have e_707 : μ683.1 32 12 = μ.1 32 12 := ((F_684.1 32 (by decide) 12).trans hs_18)
            have e_708 : μ683.1 32 15 = μ.1 32 15 := ((F_684.1 32 (by decide) 15).trans hs_20)
            have e_709 : μ683.1 32 16 = μ.1 32 16 := ((F_684.1 32 (by decide) 16).trans hs_21)
            have e_710 : μ683.1 45 4 = μ.1 45 4 := ((F_684.1 45 (by decide) 4).trans (F_6.1 45 (by decide) 4))
            exact xr_v G hret hlk dX4_sign_62 ⟨(Fr.tr (Fr.tr Fr.rf F_6 (by decide)) F_684 (by decide)), hI_685, (by omega), (by omega), (by omega), (by omega), (by omega), (by omega), (by omega), (by omega), (by omega), (by omega), (by omega), (by omega), (by omega), (by omega)⟩
          · refine lv_iconst (v := iv 1) hx hb dX4_sign_54 rfl ?_
            refine lv_goto (tgt := 59) hx hb dX4_sign_55 (by decide) ?_
            have e_711 : μ4.1 33 3 = S := ((F_6.1 33 (by decide) 3).trans hS.symm)
            refine xc_vV G (b := 32) (rest := []) (As := [.int (iv 2), .int (iv 1)]) (c_X4_replaceParts ω l μ4 2 1 S (by unfold ir; omega) (by unfold ir; omega) hI_7 (by omega) (by omega) (by omega)) (wm 6 147 rfl rfl) (wm 6 149 rfl rfl) (wm 0 90 rfl rfl) rfl rfl (by decide) rfl (wm 1 14 rfl rfl) (wm 6 150 rfl rfl) (by decide) hR (by decide) (n := 2) rfl rfl (Nat.le_of_ble_eq_true rfl) hl.1 dX4_sign_59 (fun μ712 ρ d0 H locs hp G => ?_)
            obtain ⟨F_713, hI_714, hs_715⟩ := hp
            have e_716 : μ712.1 33 3 = max (S - 2) 0 + 1 := hs_715
            have e_717 : μ712.1 32 13 = μ4.1 32 13 := (F_713.1 32 (by decide) 13)
            have e_718 : μ712.1 33 3 = max (S - 2) 0 + 1 := hs_715
            have e_719 : μ712.1 32 13 = μ4.1 32 13 := (F_713.1 32 (by decide) 13)
            have e_720 : μ712.1 32 13 = μ4.1 32 13 := (F_713.1 32 (by decide) 13)
            have e_721 : μ712.1 32 13 = μ4.1 32 13 := (F_713.1 32 (by decide) 13)
            have e_722 : μ712.1 70 2 = μ4.1 70 2 := (F_713.1 70 (by decide) 2)
            have e_723 : μ712.1 70 2 = μ4.1 70 2 := (F_713.1 70 (by decide) 2)
            have e_724 : μ712.1 70 8 = μ4.1 70 8 := (F_713.1 70 (by decide) 8)
            have e_725 : μ712.1 70 8 = μ4.1 70 8 := (F_713.1 70 (by decide) 8)
            have e_726 : μ712.1 45 1 = μ.1 45 1 := ((F_713.1 45 (by decide) 1).trans (F_6.1 45 (by decide) 1))
            have e_727 : μ712.1 70 2 = μ4.1 70 2 := (F_713.1 70 (by decide) 2)
            have e_728 : μ712.1 70 1 = μ.1 70 1 := ((F_713.1 70 (by decide) 1).trans hs_9)
            have e_729 : μ712.1 70 3 = μ.1 70 3 := ((F_713.1 70 (by decide) 3).trans hs_10)
            have e_730 : μ712.1 70 4 = μ.1 70 4 := ((F_713.1 70 (by decide) 4).trans hs_11)
            have e_731 : μ712.1 70 5 = μ.1 70 5 := ((F_713.1 70 (by decide) 5).trans hs_12)
            have e_732 : μ712.1 70 6 = μ.1 70 6 := ((F_713.1 70 (by decide) 6).trans hs_13)
            have e_733 : μ712.1 70 7 = μ.1 70 7 := ((F_713.1 70 (by decide) 7).trans hs_14)
            have e_734 : μ712.1 32 10 = μ.1 32 10 := ((F_713.1 32 (by decide) 10).trans hs_16)
            have e_735 : μ712.1 32 11 = μ.1 32 11 := ((F_713.1 32 (by decide) 11).trans hs_17)
            have e_736 : μ712.1 32 12 = μ.1 32 12 := ((F_713.1 32 (by decide) 12).trans hs_18)
            have e_737 : μ712.1 32 15 = μ.1 32 15 := ((F_713.1 32 (by decide) 15).trans hs_20)
            have e_738 : μ712.1 32 16 = μ.1 32 16 := ((F_713.1 32 (by decide) 16).trans hs_21)
            have e_739 : μ712.1 45 4 = μ.1 45 4 := ((F_713.1 45 (by decide) 4).trans (F_6.1 45 (by decide) 4))
            exact xr_v G hret hlk dX4_sign_62 ⟨(Fr.tr (Fr.tr Fr.rf F_6 (by decide)) F_713 (by decide)), hI_714, (by omega), (by omega), (by omega), (by omega), (by omega), (by omega), (by omega), (by omega), (by omega), (by omega), (by omega), (by omega), (by omega), (by omega)⟩
        · refine lv_iconst (v := iv 1) hx hb dX4_sign_46 rfl ?_
          refine lv_goto (tgt := 51) hx hb dX4_sign_47 (by decide) ?_
          refine xb_icmp_ne (tgt := 58) hx hb (by unfold ir; omega) (by unfold ir; omega) dX4_sign_51 (by decide) (fun c_51 => ?_) (fun c_51 => ?_)
          · refine lv_iconst (v := iv 0) hx hb dX4_sign_58 rfl ?_
            have e_740 : μ4.1 33 3 = S := ((F_6.1 33 (by decide) 3).trans hS.symm)
            refine xc_vV G (b := 32) (rest := []) (As := [.int (iv 2), .int (iv 0)]) (c_X4_replaceParts ω l μ4 2 0 S (by unfold ir; omega) (by unfold ir; omega) hI_7 (by omega) (by omega) (by omega)) (wm 6 147 rfl rfl) (wm 6 149 rfl rfl) (wm 0 90 rfl rfl) rfl rfl (by decide) rfl (wm 1 14 rfl rfl) (wm 6 150 rfl rfl) (by decide) hR (by decide) (n := 2) rfl rfl (Nat.le_of_ble_eq_true rfl) hl.1 dX4_sign_59 (fun μ741 ρ d0 H locs hp G => ?_)
            obtain ⟨F_742, hI_743, hs_744⟩ := hp
            have e_745 : μ741.1 33 3 = max (S - 2) 0 + 1 := hs_744
            have e_746 : μ741.1 32 13 = μ4.1 32 13 := (F_742.1 32 (by decide) 13)
            have e_747 : μ741.1 33 3 = max (S - 2) 0 + 1 := hs_744
            have e_748 : μ741.1 32 13 = μ4.1 32 13 := (F_742.1 32 (by decide) 13)
            have e_749 : μ741.1 32 13 = μ4.1 32 13 := (F_742.1 32 (by decide) 13)
            have e_750 : μ741.1 32 13 = μ4.1 32 13 := (F_742.1 32 (by decide) 13)
            have e_751 : μ741.1 70 2 = μ4.1 70 2 := (F_742.1 70 (by decide) 2)
            have e_752 : μ741.1 70 2 = μ4.1 70 2 := (F_742.1 70 (by decide) 2)
            have e_753 : μ741.1 70 8 = μ4.1 70 8 := (F_742.1 70 (by decide) 8)
            have e_754 : μ741.1 70 8 = μ4.1 70 8 := (F_742.1 70 (by decide) 8)
            have e_755 : μ741.1 45 1 = μ.1 45 1 := ((F_742.1 45 (by decide) 1).trans (F_6.1 45 (by decide) 1))
            have e_756 : μ741.1 70 2 = μ4.1 70 2 := (F_742.1 70 (by decide) 2)
            have e_757 : μ741.1 70 1 = μ.1 70 1 := ((F_742.1 70 (by decide) 1).trans hs_9)
            have e_758 : μ741.1 70 3 = μ.1 70 3 := ((F_742.1 70 (by decide) 3).trans hs_10)
            have e_759 : μ741.1 70 4 = μ.1 70 4 := ((F_742.1 70 (by decide) 4).trans hs_11)
            have e_760 : μ741.1 70 5 = μ.1 70 5 := ((F_742.1 70 (by decide) 5).trans hs_12)
            have e_761 : μ741.1 70 6 = μ.1 70 6 := ((F_742.1 70 (by decide) 6).trans hs_13)
            have e_762 : μ741.1 70 7 = μ.1 70 7 := ((F_742.1 70 (by decide) 7).trans hs_14)
            have e_763 : μ741.1 32 10 = μ.1 32 10 := ((F_742.1 32 (by decide) 10).trans hs_16)
            have e_764 : μ741.1 32 11 = μ.1 32 11 := ((F_742.1 32 (by decide) 11).trans hs_17)
            have e_765 : μ741.1 32 12 = μ.1 32 12 := ((F_742.1 32 (by decide) 12).trans hs_18)
            have e_766 : μ741.1 32 15 = μ.1 32 15 := ((F_742.1 32 (by decide) 15).trans hs_20)
            have e_767 : μ741.1 32 16 = μ.1 32 16 := ((F_742.1 32 (by decide) 16).trans hs_21)
            have e_768 : μ741.1 45 4 = μ.1 45 4 := ((F_742.1 45 (by decide) 4).trans (F_6.1 45 (by decide) 4))
            exact xr_v G hret hlk dX4_sign_62 ⟨(Fr.tr (Fr.tr Fr.rf F_6 (by decide)) F_742 (by decide)), hI_743, (by omega), (by omega), (by omega), (by omega), (by omega), (by omega), (by omega), (by omega), (by omega), (by omega), (by omega), (by omega), (by omega), (by omega)⟩
          · refine lv_iconst (v := iv 1) hx hb dX4_sign_54 rfl ?_
            refine lv_goto (tgt := 59) hx hb dX4_sign_55 (by decide) ?_
            have e_769 : μ4.1 33 3 = S := ((F_6.1 33 (by decide) 3).trans hS.symm)
            refine xc_vV G (b := 32) (rest := []) (As := [.int (iv 2), .int (iv 1)]) (c_X4_replaceParts ω l μ4 2 1 S (by unfold ir; omega) (by unfold ir; omega) hI_7 (by omega) (by omega) (by omega)) (wm 6 147 rfl rfl) (wm 6 149 rfl rfl) (wm 0 90 rfl rfl) rfl rfl (by decide) rfl (wm 1 14 rfl rfl) (wm 6 150 rfl rfl) (by decide) hR (by decide) (n := 2) rfl rfl (Nat.le_of_ble_eq_true rfl) hl.1 dX4_sign_59 (fun μ770 ρ d0 H locs hp G => ?_)
            obtain ⟨F_771, hI_772, hs_773⟩ := hp
            have e_774 : μ770.1 33 3 = max (S - 2) 0 + 1 := hs_773
            have e_775 : μ770.1 32 13 = μ4.1 32 13 := (F_771.1 32 (by decide) 13)
            have e_776 : μ770.1 33 3 = max (S - 2) 0 + 1 := hs_773
            have e_777 : μ770.1 32 13 = μ4.1 32 13 := (F_771.1 32 (by decide) 13)
            have e_778 : μ770.1 32 13 = μ4.1 32 13 := (F_771.1 32 (by decide) 13)
            have e_779 : μ770.1 32 13 = μ4.1 32 13 := (F_771.1 32 (by decide) 13)
            have e_780 : μ770.1 70 2 = μ4.1 70 2 := (F_771.1 70 (by decide) 2)
            have e_781 : μ770.1 70 2 = μ4.1 70 2 := (F_771.1 70 (by decide) 2)
            have e_782 : μ770.1 70 8 = μ4.1 70 8 := (F_771.1 70 (by decide) 8)
            have e_783 : μ770.1 70 8 = μ4.1 70 8 := (F_771.1 70 (by decide) 8)
            have e_784 : μ770.1 45 1 = μ.1 45 1 := ((F_771.1 45 (by decide) 1).trans (F_6.1 45 (by decide) 1))
            have e_785 : μ770.1 70 2 = μ4.1 70 2 := (F_771.1 70 (by decide) 2)
            have e_786 : μ770.1 70 1 = μ.1 70 1 := ((F_771.1 70 (by decide) 1).trans hs_9)
            have e_787 : μ770.1 70 3 = μ.1 70 3 := ((F_771.1 70 (by decide) 3).trans hs_10)
            have e_788 : μ770.1 70 4 = μ.1 70 4 := ((F_771.1 70 (by decide) 4).trans hs_11)
            have e_789 : μ770.1 70 5 = μ.1 70 5 := ((F_771.1 70 (by decide) 5).trans hs_12)
            have e_790 : μ770.1 70 6 = μ.1 70 6 := ((F_771.1 70 (by decide) 6).trans hs_13)
            have e_791 : μ770.1 70 7 = μ.1 70 7 := ((F_771.1 70 (by decide) 7).trans hs_14)
            have e_792 : μ770.1 32 10 = μ.1 32 10 := ((F_771.1 32 (by decide) 10).trans hs_16)
            have e_793 : μ770.1 32 11 = μ.1 32 11 := ((F_771.1 32 (by decide) 11).trans hs_17)
            have e_794 : μ770.1 32 12 = μ.1 32 12 := ((F_771.1 32 (by decide) 12).trans hs_18)
            have e_795 : μ770.1 32 15 = μ.1 32 15 := ((F_771.1 32 (by decide) 15).trans hs_20)
            have e_796 : μ770.1 32 16 = μ.1 32 16 := ((F_771.1 32 (by decide) 16).trans hs_21)
            have e_797 : μ770.1 45 4 = μ.1 45 4 := ((F_771.1 45 (by decide) 4).trans (F_6.1 45 (by decide) 4))
            exact xr_v G hret hlk dX4_sign_62 ⟨(Fr.tr (Fr.tr Fr.rf F_6 (by decide)) F_771 (by decide)), hI_772, (by omega), (by omega), (by omega), (by omega), (by omega), (by omega), (by omega), (by omega), (by omega), (by omega), (by omega), (by omega), (by omega), (by omega)⟩
  · have e_798 : μ4.1 33 3 = S := ((F_6.1 33 (by decide) 3).trans hS.symm)
    have e_799 : μ4.1 33 3 = S := ((F_6.1 33 (by decide) 3).trans hS.symm)
    have e_800 : μ4.1 45 1 = μ.1 45 1 := (F_6.1 45 (by decide) 1)
    have e_801 : μ4.1 70 1 = μ.1 70 1 := hs_9
    have e_802 : μ4.1 70 3 = μ.1 70 3 := hs_10
    have e_803 : μ4.1 70 4 = μ.1 70 4 := hs_11
    have e_804 : μ4.1 70 5 = μ.1 70 5 := hs_12
    have e_805 : μ4.1 70 6 = μ.1 70 6 := hs_13
    have e_806 : μ4.1 70 7 = μ.1 70 7 := hs_14
    have e_807 : μ4.1 32 10 = μ.1 32 10 := hs_16
    have e_808 : μ4.1 32 11 = μ.1 32 11 := hs_17
    have e_809 : μ4.1 32 12 = μ.1 32 12 := hs_18
    have e_810 : μ4.1 32 15 = μ.1 32 15 := hs_20
    have e_811 : μ4.1 32 16 = μ.1 32 16 := hs_21
    have e_812 : μ4.1 45 4 = μ.1 45 4 := (F_6.1 45 (by decide) 4)
    exact xr_v G hret hlk dX4_sign_7 ⟨(Fr.tr Fr.rf F_6 (by decide)), hI_7, (by omega), (by omega), (by omega), (by omega), (by omega), (by omega), (by omega), (by omega), (by omega), (by omega), (by omega), (by omega), (by omega), (by omega)⟩

set_option maxHeartbeats 4000000 in
set_option maxRecDepth 100000 in
theorem c_X4_whatFailsGoing (ω : Om) (l : Launch) (μ : M3) (x1 : Int) (x2 : Int) (S : Int) (hx1 : ir x1) (hx2 : ir x2) (hI : IC μ) (hS : S = μ.1 33 3) (hSb : S < 240099) (hst : 0 ≤ μ.1 70 2 ∧ μ.1 70 2 ≤ 5000 ∧ 0 ≤ μ.1 70 8 ∧ μ.1 70 8 ≤ 80000 ∧ μ.1 45 1 ≤ μ.1 70 2) (h0s : μ.1 32 13 = 0) (hc9 : 0 ≤ x2 ∧ x2 ≤ 100000) : CtI ω l yX4_whatFailsGoing cX4_whatFailsGoing 5 .int 3 97 [.ref (oP ω 32), .int (iv x1), .int (iv x2)] μ (fun (r : Int) (μ' : M3) => (Fr [70, 32, 34, 35, 36] μ μ') ∧ (IC μ') ∧ (0 ≤ r ∧ r ≤ 9) ∧ (μ'.1 33 3 = S) ∧ ((r = 0 ∧ μ'.1 32 13 = 0 ∧ μ.1 52 7 < 24) ∨ (r ≠ 0 ∧ μ'.1 32 13 = 0) ∨ (r = 0 ∧ μ'.1 32 13 = 4)) ∧ (μ.1 70 2 ≤ μ'.1 70 2 ∧ μ'.1 70 2 ≤ 5000 ∧ 0 ≤ μ'.1 70 8 ∧ μ'.1 70 8 ≤ 80000 ∧ μ'.1 45 1 ≤ μ'.1 70 2) ∧ (μ'.1 70 1 = μ.1 70 1) ∧ (μ'.1 70 3 = μ.1 70 3) ∧ (μ'.1 70 4 = μ.1 70 4) ∧ (μ'.1 70 6 = μ.1 70 6) ∧ (μ'.1 70 7 = μ.1 70 7) ∧ (μ'.1 70 9 = μ.1 70 9) ∧ (μ'.1 32 10 = μ.1 32 10) ∧ (μ'.1 32 11 = μ.1 32 11) ∧ (μ'.1 32 12 = μ.1 32 12) ∧ (μ'.1 32 14 = μ.1 32 14) ∧ (μ'.1 32 15 = μ.1 32 15) ∧ (μ'.1 32 16 = μ.1 32 16)) := by
  refine CtI.go (by decide) (Nat.le_of_ble_eq_true rfl) (fun ρ p e s m below meth c R ls G hR hret hlk hl => ?_)
  have hx := G.1.1
  have hb := G.1.2.1
  have hl : lv_has ls 5 [(0, .ref (oP ω 32)), (1, .int (iv x1)), (2, .int (iv x2))] := hl
  generalize s.drawn = d0 at G ⊢
  have hr_x1 : -2147483648 ≤ x1 ∧ x1 ≤ 2147483647 := hx1
  have hr_x2 : -2147483648 ≤ x2 ∧ x2 ≤ 2147483647 := hx2
  have hk_1 := hI.row (r := 33) (by unfold isRow; decide)
  unfold rk at hk_1
  simp only [Int.reduceAdd] at hk_1
  have hbr_33 : BR 33 = 240100 := rfl
  have hk_2 := hI.row (r := 37) (by unfold isRow; decide)
  unfold rk at hk_2
  simp only [Int.reduceAdd] at hk_2
  have hbr_37 : BR 37 = 20410 := rfl
  have hn_3 : 0 ≤ μ.1 52 7 ∧ μ.1 52 7 ≤ 24 := hI.nm.2.2.2.2.1
  refine lv_aload_n hx hb dX4_whatFailsGoing_0 rfl (lv_at hl 0 rfl) ?_
  refine xa_getr G fd_X4 (a := 32) (x := 52) 7 rfl (by decide) rfl (wm 2 151 rfl rfl) ⟨rfl, rfl, rfl⟩ dX4_whatFailsGoing_1 rfl (G.sk 40 rfl) (by decide) rfl ?_
  refine xc_iV G (b := 52) (rest := []) (As := []) (c_X2_tongue ω l μ  hI) (wm 5 218 rfl rfl) (wm 5 219 rfl rfl) (wm 5 220 rfl rfl) rfl rfl (by decide) rfl (wm 1 16 rfl rfl) (wm 5 221 rfl rfl) (by decide) hR (by decide) (n := 0) rfl rfl (Nat.le_of_ble_eq_true rfl) hl.1 dX4_whatFailsGoing_4 (fun r_5 μ4 ρ d0 H locs hr_r_5 hp G => ?_)
  have hr_r_5 : -2147483648 ≤ r_5 ∧ r_5 ≤ 2147483647 := hr_r_5
  obtain ⟨hsm_6, hp_7⟩ := hp
  have hsm_6 := Eq.symm hsm_6
  subst hsm_6
  refine lv_istore_n (lv' := [(3, .int (iv r_5)), (0, .ref (oP ω 32)), (1, .int (iv x1)), (2, .int (iv x2))]) hx hb dX4_whatFailsGoing_7 rfl hl (by decide) rfl (fun ls hl => ?_)
  refine lv_aload_n hx hb dX4_whatFailsGoing_8 rfl (lv_at hl 1 rfl) ?_
  have e_8 : μ.1 33 3 = S := hS.symm
  refine xc_iV G (b := 32) (rest := []) (As := []) (c_X4_top ω l μ S hI (by omega)) (wm 6 73 rfl rfl) (wm 6 75 rfl rfl) (wm 0 80 rfl rfl) rfl rfl (by decide) rfl (wm 1 14 rfl rfl) (wm 6 76 rfl rfl) (by decide) hR (by decide) (n := 0) rfl rfl (Nat.le_of_ble_eq_true rfl) hl.1 dX4_whatFailsGoing_9 (fun r_10 μ9 ρ d0 H locs hr_r_10 hp G => ?_)
  have hr_r_10 : -2147483648 ≤ r_10 ∧ r_10 ≤ 2147483647 := hr_r_10
  obtain ⟨hsm_11, hp_12⟩ := hp
  have hsm_11 := Eq.symm hsm_11
  subst hsm_11
  refine lv_iload_n hx hb dX4_whatFailsGoing_12 rfl (lv_at hl 3 rfl) ?_
  refine xb_isub hx hb dX4_whatFailsGoing_13 ?_
  refine lv_iconst (v := iv 1) hx hb dX4_whatFailsGoing_14 rfl ?_
  refine xb_iadd hx hb dX4_whatFailsGoing_15 ?_
  refine lv_istore (lv' := [(4, .int (iv ((r_10 - x2) + 1))), (3, .int (iv r_5)), (0, .ref (oP ω 32)), (1, .int (iv x1)), (2, .int (iv x2))]) hx hb dX4_whatFailsGoing_16 hl (by decide) rfl (fun ls hl => ?_)
  have e_13 : μ.1 33 3 = S := hS.symm
  refine xl (fun n_9 μ' ls => ∃ (i9 : Int), (Fr [70, 32, 34, 35, 36] μ μ') ∧ (-2147483648 ≤ i9 ∧ i9 ≤ 2147483647) ∧ (-100001 ≤ i9) ∧ (i9 ≤ 240100) ∧ (μ'.1 33 3 = S) ∧ (μ'.1 32 13 = 0) ∧ (μ.1 70 2 ≤ μ'.1 70 2 ∧ μ'.1 70 2 ≤ 5000 ∧ 0 ≤ μ'.1 70 8 ∧ μ'.1 70 8 ≤ 80000 ∧ μ'.1 45 1 ≤ μ'.1 70 2) ∧ (μ'.1 70 1 = μ.1 70 1) ∧ (μ'.1 70 3 = μ.1 70 3) ∧ (μ'.1 70 4 = μ.1 70 4) ∧ (μ'.1 70 6 = μ.1 70 6) ∧ (μ'.1 70 7 = μ.1 70 7) ∧ (μ'.1 70 9 = μ.1 70 9) ∧ (μ'.1 32 10 = μ.1 32 10) ∧ (μ'.1 32 11 = μ.1 32 11) ∧ (μ'.1 32 12 = μ.1 32 12) ∧ (μ'.1 32 14 = μ.1 32 14) ∧ (μ'.1 32 15 = μ.1 32 15) ∧ (μ'.1 32 16 = μ.1 32 16) ∧ (IC μ') ∧ n_9 = Int.toNat (300000 - i9) ∧ lv_has ls 5 [(4, .int (iv i9)), (3, .int (iv r_5)), (0, .ref (oP ω 32)), (1, .int (iv x1)), (2, .int (iv x2))]) (fun n_9 ρ μL14 d0 H locs ls hI_l G ih => ?_) _ _ _ _ _ _ _ ⟨(r_10 - x2) + 1, Fr.rf, (by omega), (by omega), (by omega), (by omega), (by omega), (by omega), rfl, rfl, rfl, rfl, rfl, rfl, rfl, rfl, rfl, rfl, rfl, rfl, hI, rfl, lv_sub hl [0, 1, 2, 3, 4] rfl⟩ G
  obtain ⟨i9, FL15, hi_17, hi_18, hi_19, hi_20, hi_21, hi_22, hi_23, hi_24, hi_25, hi_26, hi_27, hi_28, hi_29, hi_30, hi_31, hi_32, hi_33, hi_34, hi_35, hn16, hl⟩ := hI_l
  refine lv_iload hx hb dX4_whatFailsGoing_18 (lv_at hl 0 rfl) ?_
  refine lv_aload_n hx hb dX4_whatFailsGoing_20 rfl (lv_at hl 2 rfl) ?_
  have e_36 : μL14.1 33 3 = S := ((FL15.1 33 (by decide) 3).trans hS.symm)
  refine xc_iV G (b := 32) (rest := [.int (iv i9)]) (As := []) (c_X4_top ω l μL14 S hi_35 (by omega)) (wm 6 73 rfl rfl) (wm 6 75 rfl rfl) (wm 0 80 rfl rfl) rfl rfl (by decide) rfl (wm 1 14 rfl rfl) (wm 6 76 rfl rfl) (by decide) hR (by decide) (n := 0) rfl rfl (Nat.le_of_ble_eq_true rfl) hl.1 dX4_whatFailsGoing_21 (fun r_38 μ37 ρ d0 H locs hr_r_38 hp G => ?_)
  have hr_r_38 : -2147483648 ≤ r_38 ∧ r_38 ≤ 2147483647 := hr_r_38
  obtain ⟨hsm_39, hp_40⟩ := hp
  have hsm_39 := Eq.symm hsm_39
  subst hsm_39
  refine xb_icmp_gt (tgt := 68) hx hb (by unfold ir; omega) (by unfold ir; omega) dX4_whatFailsGoing_24 (by decide) (fun c_24 => ?_) (fun c_24 => ?_)
  · refine lv_aload_n hx hb dX4_whatFailsGoing_68 rfl (lv_at hl 2 rfl) ?_
    refine xa_getr G fd_X4 (a := 32) (x := 52) 7 rfl (by decide) rfl (wm 2 151 rfl rfl) ⟨rfl, rfl, rfl⟩ dX4_whatFailsGoing_69 rfl (G.sk 40 rfl) (by decide) rfl ?_
    have e_41 : μL14.1 52 7 = μ.1 52 7 := (FL15.1 52 (by decide) 7)
    have e_42 : μL14.1 52 7 = μ.1 52 7 := (FL15.1 52 (by decide) 7)
    refine xc_iV G (b := 52) (rest := []) (As := []) (c_X2_isFull ω l μL14  hi_35) (wm 7 7 rfl rfl) (wm 7 8 rfl rfl) (wm 7 9 rfl rfl) rfl rfl (by decide) rfl (wm 1 16 rfl rfl) (wm 7 10 rfl rfl) (by decide) hR (by decide) (n := 0) rfl rfl (Nat.le_of_ble_eq_true rfl) hl.1 dX4_whatFailsGoing_72 (fun r_44 μ43 ρ d0 H locs hr_r_44 hp G => ?_)
    have hr_r_44 : -2147483648 ≤ r_44 ∧ r_44 ≤ 2147483647 := hr_r_44
    obtain ⟨hsm_45, hp_46⟩ := hp
    have hsm_45 := Eq.symm hsm_45
    subst hsm_45
    refine xb_if_eq (tgt := 81) hx hb (by unfold ir; omega) dX4_whatFailsGoing_75 (by decide) (fun c_75 => ?_) (fun c_75 => ?_)
    · refine lv_iload_n hx hb dX4_whatFailsGoing_81 rfl (lv_at hl 1 rfl) ?_
      refine lv_iload_n hx hb dX4_whatFailsGoing_82 rfl (lv_at hl 3 rfl) ?_
      refine xb_icmp_eq (tgt := 96) hx hb (by unfold ir; omega) (by unfold ir; omega) dX4_whatFailsGoing_83 (by decide) (fun c_83 => ?_) (fun c_83 => ?_)
      · refine lv_iconst (v := iv 0) hx hb dX4_whatFailsGoing_96 rfl ?_
        have e_47 : μL14.1 33 3 = S := ((FL15.1 33 (by decide) 3).trans hS.symm)
        have e_48 : μL14.1 45 1 = μ.1 45 1 := (FL15.1 45 (by decide) 1)
        have e_49 : μL14.1 70 1 = μ.1 70 1 := hi_23
        have e_50 : μL14.1 70 3 = μ.1 70 3 := hi_24
        have e_51 : μL14.1 70 4 = μ.1 70 4 := hi_25
        have e_52 : μL14.1 70 6 = μ.1 70 6 := hi_26
        have e_53 : μL14.1 70 7 = μ.1 70 7 := hi_27
        have e_54 : μL14.1 70 9 = μ.1 70 9 := hi_28
        have e_55 : μL14.1 32 10 = μ.1 32 10 := hi_29
        have e_56 : μL14.1 32 11 = μ.1 32 11 := hi_30
        have e_57 : μL14.1 32 12 = μ.1 32 12 := hi_31
        have e_58 : μL14.1 32 14 = μ.1 32 14 := hi_32
        have e_59 : μL14.1 32 15 = μ.1 32 15 := hi_33
        have e_60 : μL14.1 32 16 = μ.1 32 16 := hi_34
        exact xr_i G (x := 0) hret hlk (by unfold ir; omega) rfl dX4_whatFailsGoing_97 ⟨(Fr.tr Fr.rf FL15 (by decide)), hi_35, (by omega), (by omega), (by omega), (by omega), (by omega), (by omega), (by omega), (by omega), (by omega), (by omega), (by omega), (by omega), (by omega), (by omega), (by omega), (by omega)⟩
      · refine lv_aload_n hx hb dX4_whatFailsGoing_86 rfl (lv_at hl 2 rfl) ?_
        refine xa_getr G fd_X4 (a := 32) (x := 70) 9 rfl (by decide) rfl (wm 2 153 rfl rfl) ⟨rfl, rfl, rfl⟩ dX4_whatFailsGoing_87 rfl (G.sk 42 rfl) (by decide) rfl ?_
        refine lv_iconst (v := iv 5) hx hb dX4_whatFailsGoing_90 rfl ?_
        refine lv_dup2_11 hx hb dX4_whatFailsGoing_91 rfl rfl ?_
        refine xa_iald G (a := 70) (i := 5) rfl (by have h9 := G.lc (a := 70) (n := 10) 33 rfl; omega) dX4_whatFailsGoing_92 rfl ?_
        have hr_61 : -2147483648 ≤ μL14.1 70 5 ∧ μL14.1 70 5 ≤ 2147483647 := by have h9 := G.hr (a := 70) (k := 5) rfl; exact h9
        refine lv_iconst (v := iv 1) hx hb dX4_whatFailsGoing_93 rfl ?_
        refine xb_iadd hx hb dX4_whatFailsGoing_94 ?_
        refine xb_topi (fun y_62 hr_y_62 he_y_62 => ?_)
        have hr_y_62 : -2147483648 ≤ y_62 ∧ y_62 ≤ 2147483647 := hr_y_62
        refine xa_iast G (a := 70) (i := 5) (x := y_62) rfl (by have h9 := G.lc (a := 70) (n := 10) 33 rfl; omega) (by unfold ir; omega) dX4_whatFailsGoing_95 rfl (fun H locs G => ?_)
        refine lv_iconst (v := iv 0) hx hb dX4_whatFailsGoing_96 rfl ?_
        have hI_63 : IC (sv μL14 70 5 y_62) := (IC.pua hi_35 (by decide))
        have e_64 : (sv μL14 70 5 y_62).1 33 3 = S := ((sv_n _ (fun h9 => absurd h9.1 (by decide))).trans ((FL15.1 33 (by decide) 3).trans hS.symm))
        have e_65 : (sv μL14 70 5 y_62).1 32 13 = μL14.1 32 13 := (sv_n _ (fun h9 => absurd h9.1 (by decide)))
        have e_66 : (sv μL14 70 5 y_62).1 32 13 = μL14.1 32 13 := (sv_n _ (fun h9 => absurd h9.1 (by decide)))
        have e_67 : (sv μL14 70 5 y_62).1 32 13 = μL14.1 32 13 := (sv_n _ (fun h9 => absurd h9.1 (by decide)))
        have e_68 : (sv μL14 70 5 y_62).1 70 2 = μL14.1 70 2 := (sv_n _ (by decide))
        have e_69 : (sv μL14 70 5 y_62).1 70 2 = μL14.1 70 2 := (sv_n _ (by decide))
        have e_70 : (sv μL14 70 5 y_62).1 70 8 = μL14.1 70 8 := (sv_n _ (by decide))
        have e_71 : (sv μL14 70 5 y_62).1 70 8 = μL14.1 70 8 := (sv_n _ (by decide))
        have e_72 : (sv μL14 70 5 y_62).1 45 1 = μ.1 45 1 := ((sv_n _ (fun h9 => absurd h9.1 (by decide))).trans (FL15.1 45 (by decide) 1))
        have e_73 : (sv μL14 70 5 y_62).1 70 2 = μL14.1 70 2 := (sv_n _ (by decide))
        have e_74 : (sv μL14 70 5 y_62).1 70 1 = μ.1 70 1 := ((sv_n _ (by decide)).trans hi_23)
        have e_75 : (sv μL14 70 5 y_62).1 70 3 = μ.1 70 3 := ((sv_n _ (by decide)).trans hi_24)
        have e_76 : (sv μL14 70 5 y_62).1 70 4 = μ.1 70 4 := ((sv_n _ (by decide)).trans hi_25)
        have e_77 : (sv μL14 70 5 y_62).1 70 6 = μ.1 70 6 := ((sv_n _ (by decide)).trans hi_26)
        have e_78 : (sv μL14 70 5 y_62).1 70 7 = μ.1 70 7 := ((sv_n _ (by decide)).trans hi_27)
        have e_79 : (sv μL14 70 5 y_62).1 70 9 = μ.1 70 9 := ((sv_n _ (by decide)).trans hi_28)
        have e_80 : (sv μL14 70 5 y_62).1 32 10 = μ.1 32 10 := ((sv_n _ (fun h9 => absurd h9.1 (by decide))).trans hi_29)
        have e_81 : (sv μL14 70 5 y_62).1 32 11 = μ.1 32 11 := ((sv_n _ (fun h9 => absurd h9.1 (by decide))).trans hi_30)
        have e_82 : (sv μL14 70 5 y_62).1 32 12 = μ.1 32 12 := ((sv_n _ (fun h9 => absurd h9.1 (by decide))).trans hi_31)
        have e_83 : (sv μL14 70 5 y_62).1 32 14 = μ.1 32 14 := ((sv_n _ (fun h9 => absurd h9.1 (by decide))).trans hi_32)
        have e_84 : (sv μL14 70 5 y_62).1 32 15 = μ.1 32 15 := ((sv_n _ (fun h9 => absurd h9.1 (by decide))).trans hi_33)
        have e_85 : (sv μL14 70 5 y_62).1 32 16 = μ.1 32 16 := ((sv_n _ (fun h9 => absurd h9.1 (by decide))).trans hi_34)
        exact xr_i G (x := 0) hret hlk (by unfold ir; omega) rfl dX4_whatFailsGoing_97 ⟨(Fr.put (Fr.tr Fr.rf FL15 (by decide)) (by decide)), hI_63, (by omega), (by omega), (by omega), (by omega), (by omega), (by omega), (by omega), (by omega), (by omega), (by omega), (by omega), (by omega), (by omega), (by omega), (by omega), (by omega)⟩
    · refine lv_bipush (v := iv 6) hx hb dX4_whatFailsGoing_78 rfl ?_
      have e_86 : μL14.1 33 3 = S := ((FL15.1 33 (by decide) 3).trans hS.symm)
      have e_87 : μL14.1 45 1 = μ.1 45 1 := (FL15.1 45 (by decide) 1)
      have e_88 : μL14.1 70 1 = μ.1 70 1 := hi_23
      have e_89 : μL14.1 70 3 = μ.1 70 3 := hi_24
      have e_90 : μL14.1 70 4 = μ.1 70 4 := hi_25
      have e_91 : μL14.1 70 6 = μ.1 70 6 := hi_26
      have e_92 : μL14.1 70 7 = μ.1 70 7 := hi_27
      have e_93 : μL14.1 70 9 = μ.1 70 9 := hi_28
      have e_94 : μL14.1 32 10 = μ.1 32 10 := hi_29
      have e_95 : μL14.1 32 11 = μ.1 32 11 := hi_30
      have e_96 : μL14.1 32 12 = μ.1 32 12 := hi_31
      have e_97 : μL14.1 32 14 = μ.1 32 14 := hi_32
      have e_98 : μL14.1 32 15 = μ.1 32 15 := hi_33
      have e_99 : μL14.1 32 16 = μ.1 32 16 := hi_34
      exact xr_i G (x := 6) hret hlk (by unfold ir; omega) rfl dX4_whatFailsGoing_80 ⟨(Fr.tr Fr.rf FL15 (by decide)), hi_35, (by omega), (by omega), (by omega), (by omega), (by omega), (by omega), (by omega), (by omega), (by omega), (by omega), (by omega), (by omega), (by omega), (by omega), (by omega), (by omega)⟩
  · refine lv_iload_n hx hb dX4_whatFailsGoing_27 rfl (lv_at hl 1 rfl) ?_
    refine lv_iload_n hx hb dX4_whatFailsGoing_28 rfl (lv_at hl 3 rfl) ?_
    refine xb_icmp_eq (tgt := 68) hx hb (by unfold ir; omega) (by unfold ir; omega) dX4_whatFailsGoing_29 (by decide) (fun c_29 => ?_) (fun c_29 => ?_)
    · refine lv_aload_n hx hb dX4_whatFailsGoing_68 rfl (lv_at hl 2 rfl) ?_
      refine xa_getr G fd_X4 (a := 32) (x := 52) 7 rfl (by decide) rfl (wm 2 151 rfl rfl) ⟨rfl, rfl, rfl⟩ dX4_whatFailsGoing_69 rfl (G.sk 40 rfl) (by decide) rfl ?_
      have e_100 : μL14.1 52 7 = μ.1 52 7 := (FL15.1 52 (by decide) 7)
      have e_101 : μL14.1 52 7 = μ.1 52 7 := (FL15.1 52 (by decide) 7)
      refine xc_iV G (b := 52) (rest := []) (As := []) (c_X2_isFull ω l μL14  hi_35) (wm 7 7 rfl rfl) (wm 7 8 rfl rfl) (wm 7 9 rfl rfl) rfl rfl (by decide) rfl (wm 1 16 rfl rfl) (wm 7 10 rfl rfl) (by decide) hR (by decide) (n := 0) rfl rfl (Nat.le_of_ble_eq_true rfl) hl.1 dX4_whatFailsGoing_72 (fun r_103 μ102 ρ d0 H locs hr_r_103 hp G => ?_)
      have hr_r_103 : -2147483648 ≤ r_103 ∧ r_103 ≤ 2147483647 := hr_r_103
      obtain ⟨hsm_104, hp_105⟩ := hp
      have hsm_104 := Eq.symm hsm_104
      subst hsm_104
      refine xb_if_eq (tgt := 81) hx hb (by unfold ir; omega) dX4_whatFailsGoing_75 (by decide) (fun c_75 => ?_) (fun c_75 => ?_)
      · refine lv_iload_n hx hb dX4_whatFailsGoing_81 rfl (lv_at hl 1 rfl) ?_
        refine lv_iload_n hx hb dX4_whatFailsGoing_82 rfl (lv_at hl 3 rfl) ?_
        refine xb_icmp_eq (tgt := 96) hx hb (by unfold ir; omega) (by unfold ir; omega) dX4_whatFailsGoing_83 (by decide) (fun c_83 => ?_) (fun c_83 => ?_)
        · refine lv_iconst (v := iv 0) hx hb dX4_whatFailsGoing_96 rfl ?_
          have e_106 : μL14.1 33 3 = S := ((FL15.1 33 (by decide) 3).trans hS.symm)
          have e_107 : μL14.1 45 1 = μ.1 45 1 := (FL15.1 45 (by decide) 1)
          have e_108 : μL14.1 70 1 = μ.1 70 1 := hi_23
          have e_109 : μL14.1 70 3 = μ.1 70 3 := hi_24
          have e_110 : μL14.1 70 4 = μ.1 70 4 := hi_25
          have e_111 : μL14.1 70 6 = μ.1 70 6 := hi_26
          have e_112 : μL14.1 70 7 = μ.1 70 7 := hi_27
          have e_113 : μL14.1 70 9 = μ.1 70 9 := hi_28
          have e_114 : μL14.1 32 10 = μ.1 32 10 := hi_29
          have e_115 : μL14.1 32 11 = μ.1 32 11 := hi_30
          have e_116 : μL14.1 32 12 = μ.1 32 12 := hi_31
          have e_117 : μL14.1 32 14 = μ.1 32 14 := hi_32
          have e_118 : μL14.1 32 15 = μ.1 32 15 := hi_33
          have e_119 : μL14.1 32 16 = μ.1 32 16 := hi_34
          exact xr_i G (x := 0) hret hlk (by unfold ir; omega) rfl dX4_whatFailsGoing_97 ⟨(Fr.tr Fr.rf FL15 (by decide)), hi_35, (by omega), (by omega), (by omega), (by omega), (by omega), (by omega), (by omega), (by omega), (by omega), (by omega), (by omega), (by omega), (by omega), (by omega), (by omega), (by omega)⟩
        · refine lv_aload_n hx hb dX4_whatFailsGoing_86 rfl (lv_at hl 2 rfl) ?_
          refine xa_getr G fd_X4 (a := 32) (x := 70) 9 rfl (by decide) rfl (wm 2 153 rfl rfl) ⟨rfl, rfl, rfl⟩ dX4_whatFailsGoing_87 rfl (G.sk 42 rfl) (by decide) rfl ?_
          refine lv_iconst (v := iv 5) hx hb dX4_whatFailsGoing_90 rfl ?_
          refine lv_dup2_11 hx hb dX4_whatFailsGoing_91 rfl rfl ?_
          refine xa_iald G (a := 70) (i := 5) rfl (by have h9 := G.lc (a := 70) (n := 10) 33 rfl; omega) dX4_whatFailsGoing_92 rfl ?_
          have hr_120 : -2147483648 ≤ μL14.1 70 5 ∧ μL14.1 70 5 ≤ 2147483647 := by have h9 := G.hr (a := 70) (k := 5) rfl; exact h9
          refine lv_iconst (v := iv 1) hx hb dX4_whatFailsGoing_93 rfl ?_
          refine xb_iadd hx hb dX4_whatFailsGoing_94 ?_
          refine xb_topi (fun y_121 hr_y_121 he_y_121 => ?_)
          have hr_y_121 : -2147483648 ≤ y_121 ∧ y_121 ≤ 2147483647 := hr_y_121
          refine xa_iast G (a := 70) (i := 5) (x := y_121) rfl (by have h9 := G.lc (a := 70) (n := 10) 33 rfl; omega) (by unfold ir; omega) dX4_whatFailsGoing_95 rfl (fun H locs G => ?_)
          refine lv_iconst (v := iv 0) hx hb dX4_whatFailsGoing_96 rfl ?_
          have hI_122 : IC (sv μL14 70 5 y_121) := (IC.pua hi_35 (by decide))
          have e_123 : (sv μL14 70 5 y_121).1 33 3 = S := ((sv_n _ (fun h9 => absurd h9.1 (by decide))).trans ((FL15.1 33 (by decide) 3).trans hS.symm))
          have e_124 : (sv μL14 70 5 y_121).1 32 13 = μL14.1 32 13 := (sv_n _ (fun h9 => absurd h9.1 (by decide)))
          have e_125 : (sv μL14 70 5 y_121).1 32 13 = μL14.1 32 13 := (sv_n _ (fun h9 => absurd h9.1 (by decide)))
          have e_126 : (sv μL14 70 5 y_121).1 32 13 = μL14.1 32 13 := (sv_n _ (fun h9 => absurd h9.1 (by decide)))
          have e_127 : (sv μL14 70 5 y_121).1 70 2 = μL14.1 70 2 := (sv_n _ (by decide))
          have e_128 : (sv μL14 70 5 y_121).1 70 2 = μL14.1 70 2 := (sv_n _ (by decide))
          have e_129 : (sv μL14 70 5 y_121).1 70 8 = μL14.1 70 8 := (sv_n _ (by decide))
          have e_130 : (sv μL14 70 5 y_121).1 70 8 = μL14.1 70 8 := (sv_n _ (by decide))
          have e_131 : (sv μL14 70 5 y_121).1 45 1 = μ.1 45 1 := ((sv_n _ (fun h9 => absurd h9.1 (by decide))).trans (FL15.1 45 (by decide) 1))
          have e_132 : (sv μL14 70 5 y_121).1 70 2 = μL14.1 70 2 := (sv_n _ (by decide))
          have e_133 : (sv μL14 70 5 y_121).1 70 1 = μ.1 70 1 := ((sv_n _ (by decide)).trans hi_23)
          have e_134 : (sv μL14 70 5 y_121).1 70 3 = μ.1 70 3 := ((sv_n _ (by decide)).trans hi_24)
          have e_135 : (sv μL14 70 5 y_121).1 70 4 = μ.1 70 4 := ((sv_n _ (by decide)).trans hi_25)
          have e_136 : (sv μL14 70 5 y_121).1 70 6 = μ.1 70 6 := ((sv_n _ (by decide)).trans hi_26)
          have e_137 : (sv μL14 70 5 y_121).1 70 7 = μ.1 70 7 := ((sv_n _ (by decide)).trans hi_27)
          have e_138 : (sv μL14 70 5 y_121).1 70 9 = μ.1 70 9 := ((sv_n _ (by decide)).trans hi_28)
          have e_139 : (sv μL14 70 5 y_121).1 32 10 = μ.1 32 10 := ((sv_n _ (fun h9 => absurd h9.1 (by decide))).trans hi_29)
          have e_140 : (sv μL14 70 5 y_121).1 32 11 = μ.1 32 11 := ((sv_n _ (fun h9 => absurd h9.1 (by decide))).trans hi_30)
          have e_141 : (sv μL14 70 5 y_121).1 32 12 = μ.1 32 12 := ((sv_n _ (fun h9 => absurd h9.1 (by decide))).trans hi_31)
          have e_142 : (sv μL14 70 5 y_121).1 32 14 = μ.1 32 14 := ((sv_n _ (fun h9 => absurd h9.1 (by decide))).trans hi_32)
          have e_143 : (sv μL14 70 5 y_121).1 32 15 = μ.1 32 15 := ((sv_n _ (fun h9 => absurd h9.1 (by decide))).trans hi_33)
          have e_144 : (sv μL14 70 5 y_121).1 32 16 = μ.1 32 16 := ((sv_n _ (fun h9 => absurd h9.1 (by decide))).trans hi_34)
          exact xr_i G (x := 0) hret hlk (by unfold ir; omega) rfl dX4_whatFailsGoing_97 ⟨(Fr.put (Fr.tr Fr.rf FL15 (by decide)) (by decide)), hI_122, (by omega), (by omega), (by omega), (by omega), (by omega), (by omega), (by omega), (by omega), (by omega), (by omega), (by omega), (by omega), (by omega), (by omega), (by omega), (by omega)⟩
      · refine lv_bipush (v := iv 6) hx hb dX4_whatFailsGoing_78 rfl ?_
        have e_145 : μL14.1 33 3 = S := ((FL15.1 33 (by decide) 3).trans hS.symm)
        have e_146 : μL14.1 45 1 = μ.1 45 1 := (FL15.1 45 (by decide) 1)
        have e_147 : μL14.1 70 1 = μ.1 70 1 := hi_23
        have e_148 : μL14.1 70 3 = μ.1 70 3 := hi_24
        have e_149 : μL14.1 70 4 = μ.1 70 4 := hi_25
        have e_150 : μL14.1 70 6 = μ.1 70 6 := hi_26
        have e_151 : μL14.1 70 7 = μ.1 70 7 := hi_27
        have e_152 : μL14.1 70 9 = μ.1 70 9 := hi_28
        have e_153 : μL14.1 32 10 = μ.1 32 10 := hi_29
        have e_154 : μL14.1 32 11 = μ.1 32 11 := hi_30
        have e_155 : μL14.1 32 12 = μ.1 32 12 := hi_31
        have e_156 : μL14.1 32 14 = μ.1 32 14 := hi_32
        have e_157 : μL14.1 32 15 = μ.1 32 15 := hi_33
        have e_158 : μL14.1 32 16 = μ.1 32 16 := hi_34
        exact xr_i G (x := 6) hret hlk (by unfold ir; omega) rfl dX4_whatFailsGoing_80 ⟨(Fr.tr Fr.rf FL15 (by decide)), hi_35, (by omega), (by omega), (by omega), (by omega), (by omega), (by omega), (by omega), (by omega), (by omega), (by omega), (by omega), (by omega), (by omega), (by omega), (by omega), (by omega)⟩
    · refine lv_aload_n hx hb dX4_whatFailsGoing_32 rfl (lv_at hl 2 rfl) ?_
      have hn_159 : 0 ≤ μ.1 45 1 ∧ 9 * μ.1 45 1 ≤ μ.2.1 46 := hI.nm.2.2.2.2.2.2.1
      have e_160 : μL14.1 45 1 = μ.1 45 1 := (FL15.1 45 (by decide) 1)
      have e_161 : μL14.1 70 1 = μ.1 70 1 := hi_23
      have e_162 : μL14.1 70 3 = μ.1 70 3 := hi_24
      have e_163 : μL14.1 70 4 = μ.1 70 4 := hi_25
      have e_164 : μL14.1 70 6 = μ.1 70 6 := hi_26
      have e_165 : μL14.1 70 7 = μ.1 70 7 := hi_27
      have e_166 : μL14.1 70 9 = μ.1 70 9 := hi_28
      have e_167 : μL14.1 32 10 = μ.1 32 10 := hi_29
      have e_168 : μL14.1 32 11 = μ.1 32 11 := hi_30
      have e_169 : μL14.1 32 12 = μ.1 32 12 := hi_31
      have e_170 : μL14.1 32 14 = μ.1 32 14 := hi_32
      have e_171 : μL14.1 32 15 = μ.1 32 15 := hi_33
      have e_172 : μL14.1 32 16 = μ.1 32 16 := hi_34
      refine xc_iV G (b := 32) (rest := []) (As := []) (c_X4_step ω l μL14  hi_35 (by omega)) (wm 6 2 rfl rfl) (wm 6 4 rfl rfl) (wm 0 75 rfl rfl) rfl rfl (by decide) rfl (wm 1 14 rfl rfl) (wm 6 5 rfl rfl) (by decide) hR (by decide) (n := 0) rfl rfl (Nat.le_of_ble_eq_true rfl) hl.1 dX4_whatFailsGoing_33 (fun r_174 μ173 ρ d0 H locs hr_r_174 hp G => ?_)
      have hr_r_174 : -2147483648 ≤ r_174 ∧ r_174 ≤ 2147483647 := hr_r_174
      obtain ⟨F_175, hI_176, hp_177, hs_178, hs_179, hs_180, hs_181, hs_182, hs_183, hs_184, hs_185, hs_186, hs_187, hs_188, hs_189, hs_190⟩ := hp
      refine xb_if_ne (tgt := 41) hx hb (by unfold ir; omega) dX4_whatFailsGoing_36 (by decide) (fun c_36 => ?_) (fun c_36 => ?_)
      · refine lv_aload_n hx hb dX4_whatFailsGoing_41 rfl (lv_at hl 2 rfl) ?_
        refine xa_getr G fd_X4 (a := 32) (x := 6) 2 rfl (by decide) rfl (wm 2 146 rfl rfl) ⟨rfl, rfl, rfl⟩ dX4_whatFailsGoing_42 rfl (G.sk 35 rfl) (by decide) rfl ?_
        refine lv_aload_n hx hb dX4_whatFailsGoing_45 rfl (lv_at hl 2 rfl) ?_
        refine xa_getr G fd_X4 (a := 32) (x := 33) 3 rfl (by decide) rfl (wm 2 147 rfl rfl) ⟨rfl, rfl, rfl⟩ dX4_whatFailsGoing_46 rfl (G.sk 36 rfl) (by decide) rfl ?_
        refine lv_iload hx hb dX4_whatFailsGoing_49 (lv_at hl 0 rfl) ?_
        refine lv_iload_n hx hb dX4_whatFailsGoing_51 rfl (lv_at hl 1 rfl) ?_
        refine lv_iload_n hx hb dX4_whatFailsGoing_52 rfl (lv_at hl 3 rfl) ?_
        have e_191 : μ173.1 33 3 = S := ((F_175.1 33 (by decide) 3).trans ((FL15.1 33 (by decide) 3).trans hS.symm))
        refine xc_iV G (b := 6) (rest := []) (As := [.ref (oP ω 33), .int (iv i9), .int (iv r_5), .int (iv x1)]) (c_X0_turn ω l μ173 33 i9 r_5 x1 (by unfold isRow; decide) (by unfold ir; omega) (by unfold ir; omega) (by unfold ir; omega) hI_176) (wm 6 32 rfl rfl) (wm 6 33 rfl rfl) (wm 6 34 rfl rfl) rfl rfl (by decide) rfl (wm 1 7 rfl rfl) (wm 6 35 rfl rfl) (by decide) hR (by decide) (n := 4) rfl rfl (Nat.le_of_ble_eq_true rfl) hl.1 dX4_whatFailsGoing_53 (fun r_193 μ192 ρ d0 H locs hr_r_193 hp G => ?_)
        have hr_r_193 : -2147483648 ≤ r_193 ∧ r_193 ≤ 2147483647 := hr_r_193
        obtain ⟨F_194, hI_195, hp_196, hp_197, hs_198⟩ := hp
        refine xb_if_ne (tgt := 62) hx hb (by unfold ir; omega) dX4_whatFailsGoing_56 (by decide) (fun c_56 => ?_) (fun c_56 => ?_)
        · refine lv_iinc (v := iv (i9 + 1)) (lv' := [(4, .int (iv (i9 + 1))), (3, .int (iv r_5)), (0, .ref (oP ω 32)), (1, .int (iv x1)), (2, .int (iv x2))]) hx hb dX4_whatFailsGoing_62 hl (k := 0) rfl (by rw [show Int32.ofInt 1 = iv 1 from rfl, iv_add]) (by decide) rfl (fun ls hl => ?_)
          refine lv_goto (tgt := 18) hx hb dX4_whatFailsGoing_65 (by decide) ?_
          have e_199 : μ192.1 33 3 = S := (hs_198.trans ((F_175.1 33 (by decide) 3).trans ((FL15.1 33 (by decide) 3).trans hS.symm)))
          have e_200 : μ192.1 32 13 = μ173.1 32 13 := (F_194.1 32 (by decide) 13)
          have e_201 : μ192.1 70 2 = μ173.1 70 2 := (F_194.1 70 (by decide) 2)
          have e_202 : μ192.1 70 2 = μ173.1 70 2 := (F_194.1 70 (by decide) 2)
          have e_203 : μ192.1 70 8 = μ173.1 70 8 := (F_194.1 70 (by decide) 8)
          have e_204 : μ192.1 70 8 = μ173.1 70 8 := (F_194.1 70 (by decide) 8)
          have e_205 : μ192.1 45 1 = μ.1 45 1 := ((F_194.1 45 (by decide) 1).trans ((F_175.1 45 (by decide) 1).trans (FL15.1 45 (by decide) 1)))
          have e_206 : μ192.1 70 2 = μ173.1 70 2 := (F_194.1 70 (by decide) 2)
          exact ih _ _ _ _ _ _ _ (by omega) ⟨i9 + 1, (Fr.tr (Fr.tr FL15 F_175 (by decide)) F_194 (by decide)), (by omega), (by omega), (by omega), (by omega), (by omega), (by omega), ((F_194.1 70 (by decide) 1).trans (hs_178.trans hi_23)), ((F_194.1 70 (by decide) 3).trans (hs_179.trans hi_24)), ((F_194.1 70 (by decide) 4).trans (hs_180.trans hi_25)), ((F_194.1 70 (by decide) 6).trans (hs_182.trans hi_26)), ((F_194.1 70 (by decide) 7).trans (hs_183.trans hi_27)), ((F_194.1 70 (by decide) 9).trans (hs_184.trans hi_28)), ((F_194.1 32 (by decide) 10).trans (hs_185.trans hi_29)), ((F_194.1 32 (by decide) 11).trans (hs_186.trans hi_30)), ((F_194.1 32 (by decide) 12).trans (hs_187.trans hi_31)), ((F_194.1 32 (by decide) 14).trans (hs_188.trans hi_32)), ((F_194.1 32 (by decide) 15).trans (hs_189.trans hi_33)), ((F_194.1 32 (by decide) 16).trans (hs_190.trans hi_34)), hI_195, rfl, lv_sub hl [0, 1, 2, 3, 4] rfl⟩ G
        · refine lv_bipush (v := iv 9) hx hb dX4_whatFailsGoing_59 rfl ?_
          have e_207 : μ192.1 33 3 = S := (hs_198.trans ((F_175.1 33 (by decide) 3).trans ((FL15.1 33 (by decide) 3).trans hS.symm)))
          have e_208 : μ192.1 32 13 = μ173.1 32 13 := (F_194.1 32 (by decide) 13)
          have e_209 : μ192.1 32 13 = μ173.1 32 13 := (F_194.1 32 (by decide) 13)
          have e_210 : μ192.1 32 13 = μ173.1 32 13 := (F_194.1 32 (by decide) 13)
          have e_211 : μ192.1 70 2 = μ173.1 70 2 := (F_194.1 70 (by decide) 2)
          have e_212 : μ192.1 70 2 = μ173.1 70 2 := (F_194.1 70 (by decide) 2)
          have e_213 : μ192.1 70 8 = μ173.1 70 8 := (F_194.1 70 (by decide) 8)
          have e_214 : μ192.1 70 8 = μ173.1 70 8 := (F_194.1 70 (by decide) 8)
          have e_215 : μ192.1 45 1 = μ.1 45 1 := ((F_194.1 45 (by decide) 1).trans ((F_175.1 45 (by decide) 1).trans (FL15.1 45 (by decide) 1)))
          have e_216 : μ192.1 70 2 = μ173.1 70 2 := (F_194.1 70 (by decide) 2)
          have e_217 : μ192.1 70 1 = μ.1 70 1 := ((F_194.1 70 (by decide) 1).trans (hs_178.trans hi_23))
          have e_218 : μ192.1 70 3 = μ.1 70 3 := ((F_194.1 70 (by decide) 3).trans (hs_179.trans hi_24))
          have e_219 : μ192.1 70 4 = μ.1 70 4 := ((F_194.1 70 (by decide) 4).trans (hs_180.trans hi_25))
          have e_220 : μ192.1 70 6 = μ.1 70 6 := ((F_194.1 70 (by decide) 6).trans (hs_182.trans hi_26))
          have e_221 : μ192.1 70 7 = μ.1 70 7 := ((F_194.1 70 (by decide) 7).trans (hs_183.trans hi_27))
          have e_222 : μ192.1 70 9 = μ.1 70 9 := ((F_194.1 70 (by decide) 9).trans (hs_184.trans hi_28))
          have e_223 : μ192.1 32 10 = μ.1 32 10 := ((F_194.1 32 (by decide) 10).trans (hs_185.trans hi_29))
          have e_224 : μ192.1 32 11 = μ.1 32 11 := ((F_194.1 32 (by decide) 11).trans (hs_186.trans hi_30))
          have e_225 : μ192.1 32 12 = μ.1 32 12 := ((F_194.1 32 (by decide) 12).trans (hs_187.trans hi_31))
          have e_226 : μ192.1 32 14 = μ.1 32 14 := ((F_194.1 32 (by decide) 14).trans (hs_188.trans hi_32))
          have e_227 : μ192.1 32 15 = μ.1 32 15 := ((F_194.1 32 (by decide) 15).trans (hs_189.trans hi_33))
          have e_228 : μ192.1 32 16 = μ.1 32 16 := ((F_194.1 32 (by decide) 16).trans (hs_190.trans hi_34))
          exact xr_i G (x := 9) hret hlk (by unfold ir; omega) rfl dX4_whatFailsGoing_61 ⟨(Fr.tr (Fr.tr (Fr.tr Fr.rf FL15 (by decide)) F_175 (by decide)) F_194 (by decide)), hI_195, (by omega), (by omega), (by omega), (by omega), (by omega), (by omega), (by omega), (by omega), (by omega), (by omega), (by omega), (by omega), (by omega), (by omega), (by omega), (by omega)⟩
      · refine lv_iconst (v := iv 0) hx hb dX4_whatFailsGoing_39 rfl ?_
        have e_229 : μ173.1 33 3 = S := ((F_175.1 33 (by decide) 3).trans ((FL15.1 33 (by decide) 3).trans hS.symm))
        have e_230 : μ173.1 45 1 = μ.1 45 1 := ((F_175.1 45 (by decide) 1).trans (FL15.1 45 (by decide) 1))
        have e_231 : μ173.1 70 1 = μ.1 70 1 := (hs_178.trans hi_23)
        have e_232 : μ173.1 70 3 = μ.1 70 3 := (hs_179.trans hi_24)
        have e_233 : μ173.1 70 4 = μ.1 70 4 := (hs_180.trans hi_25)
        have e_234 : μ173.1 70 6 = μ.1 70 6 := (hs_182.trans hi_26)
        have e_235 : μ173.1 70 7 = μ.1 70 7 := (hs_183.trans hi_27)
        have e_236 : μ173.1 70 9 = μ.1 70 9 := (hs_184.trans hi_28)
        have e_237 : μ173.1 32 10 = μ.1 32 10 := (hs_185.trans hi_29)
        have e_238 : μ173.1 32 11 = μ.1 32 11 := (hs_186.trans hi_30)
        have e_239 : μ173.1 32 12 = μ.1 32 12 := (hs_187.trans hi_31)
        have e_240 : μ173.1 32 14 = μ.1 32 14 := (hs_188.trans hi_32)
        have e_241 : μ173.1 32 15 = μ.1 32 15 := (hs_189.trans hi_33)
        have e_242 : μ173.1 32 16 = μ.1 32 16 := (hs_190.trans hi_34)
        exact xr_i G (x := 0) hret hlk (by unfold ir; omega) rfl dX4_whatFailsGoing_40 ⟨(Fr.tr (Fr.tr Fr.rf FL15 (by decide)) F_175 (by decide)), hI_176, (by omega), (by omega), (by omega), (by omega), (by omega), (by omega), (by omega), (by omega), (by omega), (by omega), (by omega), (by omega), (by omega), (by omega), (by omega), (by omega)⟩
