abbrev cX7_arguments : ByteArray := prog_9_method_54_code
def yX7_arguments : MethodName := ⟨RX7, "arguments", "(IIJI)V"⟩
theorem dX7_arguments_0 : decode cX7_arguments 0 = .ok (.iload_n 1, 1) := by decide +kernel
theorem dX7_arguments_1 : decode cX7_arguments 1 = .ok (.bipush 14, 2) := by decide +kernel
theorem dX7_arguments_3 : decode cX7_arguments 3 = .ok (.if_icmp .ne 7, 3) := by decide +kernel
theorem dX7_arguments_6 : decode cX7_arguments 6 = .ok (.iconst 1, 1) := by decide +kernel
theorem dX7_arguments_7 : decode cX7_arguments 7 = .ok (.goto 4, 3) := by decide +kernel
theorem dX7_arguments_10 : decode cX7_arguments 10 = .ok (.iconst 0, 1) := by decide +kernel
theorem dX7_arguments_11 : decode cX7_arguments 11 = .ok (.istore 6, 2) := by decide +kernel
theorem dX7_arguments_13 : decode cX7_arguments 13 = .ok (.iload 5, 2) := by decide +kernel
theorem dX7_arguments_15 : decode cX7_arguments 15 = .ok (.istore 7, 2) := by decide +kernel
theorem dX7_arguments_17 : decode cX7_arguments 17 = .ok (.iconst 0, 1) := by decide +kernel
theorem dX7_arguments_18 : decode cX7_arguments 18 = .ok (.istore 8, 2) := by decide +kernel
theorem dX7_arguments_20 : decode cX7_arguments 20 = .ok (.aload_n 0, 1) := by decide +kernel
theorem dX7_arguments_21 : decode cX7_arguments 21 = .ok (.bipush 40, 2) := by decide +kernel
theorem dX7_arguments_23 : decode cX7_arguments 23 = .ok (.invokevirtual 164, 3) := by decide +kernel
theorem dX7_arguments_26 : decode cX7_arguments 26 = .ok (.aload_n 0, 1) := by decide +kernel
theorem dX7_arguments_27 : decode cX7_arguments 27 = .ok (.getfield 43, 3) := by decide +kernel
theorem dX7_arguments_30 : decode cX7_arguments 30 = .ok (.getfield 80, 3) := by decide +kernel
theorem dX7_arguments_33 : decode cX7_arguments 33 = .ok (.bipush 41, 2) := by decide +kernel
theorem dX7_arguments_35 : decode cX7_arguments 35 = .ok (.if_icmp .eq 7, 3) := by decide +kernel
theorem dX7_arguments_38 : decode cX7_arguments 38 = .ok (.iconst 1, 1) := by decide +kernel
theorem dX7_arguments_39 : decode cX7_arguments 39 = .ok (.goto 4, 3) := by decide +kernel
theorem dX7_arguments_42 : decode cX7_arguments 42 = .ok (.iconst 0, 1) := by decide +kernel
theorem dX7_arguments_43 : decode cX7_arguments 43 = .ok (.istore 9, 2) := by decide +kernel
theorem dX7_arguments_45 : decode cX7_arguments 45 = .ok (.iconst 0, 1) := by decide +kernel
theorem dX7_arguments_46 : decode cX7_arguments 46 = .ok (.istore 10, 2) := by decide +kernel
theorem dX7_arguments_48 : decode cX7_arguments 48 = .ok (.iload 10, 2) := by decide +kernel
theorem dX7_arguments_50 : decode cX7_arguments 50 = .ok (.sipush 3000, 3) := by decide +kernel
theorem dX7_arguments_53 : decode cX7_arguments 53 = .ok (.if_icmp .ge 62, 3) := by decide +kernel
theorem dX7_arguments_56 : decode cX7_arguments 56 = .ok (.iload 9, 2) := by decide +kernel
theorem dX7_arguments_58 : decode cX7_arguments 58 = .ok (.ifCond .eq 57, 3) := by decide +kernel
theorem dX7_arguments_61 : decode cX7_arguments 61 = .ok (.iload 8, 2) := by decide +kernel
theorem dX7_arguments_63 : decode cX7_arguments 63 = .ok (.bipush 8, 2) := by decide +kernel
theorem dX7_arguments_65 : decode cX7_arguments 65 = .ok (.if_icmp .lt 15, 3) := by decide +kernel
theorem dX7_arguments_68 : decode cX7_arguments 68 = .ok (.aload_n 0, 1) := by decide +kernel
theorem dX7_arguments_69 : decode cX7_arguments 69 = .ok (.iconst 2, 1) := by decide +kernel
theorem dX7_arguments_70 : decode cX7_arguments 70 = .ok (.aload_n 0, 1) := by decide +kernel
theorem dX7_arguments_71 : decode cX7_arguments 71 = .ok (.getfield 43, 3) := by decide +kernel
theorem dX7_arguments_74 : decode cX7_arguments 74 = .ok (.getfield 96, 3) := by decide +kernel
theorem dX7_arguments_77 : decode cX7_arguments 77 = .ok (.invokevirtual 127, 3) := by decide +kernel
theorem dX7_arguments_80 : decode cX7_arguments 80 = .ok (.aload_n 0, 1) := by decide +kernel
theorem dX7_arguments_81 : decode cX7_arguments 81 = .ok (.iconst 0, 1) := by decide +kernel
theorem dX7_arguments_82 : decode cX7_arguments 82 = .ok (.invokevirtual 216, 3) := by decide +kernel
theorem dX7_arguments_85 : decode cX7_arguments 85 = .ok (.aload_n 0, 1) := by decide +kernel
theorem dX7_arguments_86 : decode cX7_arguments 86 = .ok (.iload 7, 2) := by decide +kernel
theorem dX7_arguments_88 : decode cX7_arguments 88 = .ok (.iload 6, 2) := by decide +kernel
theorem dX7_arguments_90 : decode cX7_arguments 90 = .ok (.iload 8, 2) := by decide +kernel
theorem dX7_arguments_92 : decode cX7_arguments 92 = .ok (.iadd, 1) := by decide +kernel
theorem dX7_arguments_93 : decode cX7_arguments 93 = .ok (.invokevirtual 273, 3) := by decide +kernel
theorem dX7_arguments_96 : decode cX7_arguments 96 = .ok (.istore 7, 2) := by decide +kernel
theorem dX7_arguments_98 : decode cX7_arguments 98 = .ok (.iinc 8 1, 3) := by decide +kernel
theorem dX7_arguments_101 : decode cX7_arguments 101 = .ok (.aload_n 0, 1) := by decide +kernel
theorem dX7_arguments_102 : decode cX7_arguments 102 = .ok (.bipush 44, 2) := by decide +kernel
theorem dX7_arguments_104 : decode cX7_arguments 104 = .ok (.invokevirtual 83, 3) := by decide +kernel
theorem dX7_arguments_107 : decode cX7_arguments 107 = .ok (.istore 9, 2) := by decide +kernel
theorem dX7_arguments_109 : decode cX7_arguments 109 = .ok (.iinc 10 1, 3) := by decide +kernel
theorem dX7_arguments_112 : decode cX7_arguments 112 = .ok (.goto (-64), 3) := by decide +kernel
theorem dX7_arguments_115 : decode cX7_arguments 115 = .ok (.aload_n 0, 1) := by decide +kernel
theorem dX7_arguments_116 : decode cX7_arguments 116 = .ok (.bipush 41, 2) := by decide +kernel
theorem dX7_arguments_118 : decode cX7_arguments 118 = .ok (.invokevirtual 170, 3) := by decide +kernel
theorem dX7_arguments_121 : decode cX7_arguments 121 = .ok (.aload_n 0, 1) := by decide +kernel
theorem dX7_arguments_122 : decode cX7_arguments 122 = .ok (.getfield 51, 3) := by decide +kernel
theorem dX7_arguments_125 : decode cX7_arguments 125 = .ok (.iconst 0, 1) := by decide +kernel
theorem dX7_arguments_126 : decode cX7_arguments 126 = .ok (.lload_n 3, 1) := by decide +kernel
theorem dX7_arguments_127 : decode cX7_arguments 127 = .ok (.dconst 0, 1) := by decide +kernel
theorem dX7_arguments_128 : decode cX7_arguments 128 = .ok (.invokevirtual 310, 3) := by decide +kernel
theorem dX7_arguments_131 : decode cX7_arguments 131 = .ok (.istore 10, 2) := by decide +kernel
theorem dX7_arguments_133 : decode cX7_arguments 133 = .ok (.aload_n 0, 1) := by decide +kernel
theorem dX7_arguments_134 : decode cX7_arguments 134 = .ok (.iload_n 1, 1) := by decide +kernel
theorem dX7_arguments_135 : decode cX7_arguments 135 = .ok (.iload 8, 2) := by decide +kernel
theorem dX7_arguments_137 : decode cX7_arguments 137 = .ok (.iconst 4, 1) := by decide +kernel
theorem dX7_arguments_138 : decode cX7_arguments 138 = .ok (.imul, 1) := by decide +kernel
theorem dX7_arguments_139 : decode cX7_arguments 139 = .ok (.iload_n 2, 1) := by decide +kernel
theorem dX7_arguments_140 : decode cX7_arguments 140 = .ok (.iadd, 1) := by decide +kernel
theorem dX7_arguments_141 : decode cX7_arguments 141 = .ok (.iload 10, 2) := by decide +kernel
theorem dX7_arguments_143 : decode cX7_arguments 143 = .ok (.iload 7, 2) := by decide +kernel
theorem dX7_arguments_145 : decode cX7_arguments 145 = .ok (.invokevirtual 230, 3) := by decide +kernel
theorem dX7_arguments_148 : decode cX7_arguments 148 = .ok (.return_, 1) := by decide +kernel
theorem ef13 {c x : Int} (h : 0 ≤ c) (hx : 0 ≤ x ∧ x ≤ 3) : eff 13 (c * 4 + x) = 1 - c := by
  show 1 - (c * 4 + x).tdiv 4 = 1 - c
  rw [Int.tdiv_eq_ediv_of_nonneg (by omega)]
  omega
theorem ef14 {c x : Int} (h : 0 ≤ c) (hx : 0 ≤ x ∧ x ≤ 3) : eff 14 (c * 4 + x) = - c := by
  show - (c * 4 + x).tdiv 4 = - c
  rw [Int.tdiv_eq_ediv_of_nonneg (by omega)]
  omega
set_option maxHeartbeats 4000000 in
set_option maxRecDepth 100000 in
theorem c_X7_arguments (ω : Om) (l : Launch) (μ : M3) (x1 : Int) (x2 : Int) (x3 : Int) (x4 : Int) (F : Nat) (Lo : Nat) (Fu : Nat) (Lu : Nat) (kf : Int) (μo : M3) (ee : Int) (ww : Int) (P : Int) (tt : Int) (hx1 : ir x1) (hx2 : ir x2) (hx3 : jr x3) (hx4 : ir x4) (hI : IC μ) (hP : P = μ.1 23 2) (htt : tt = μ.1 23 8) (hF : 60 ≤ F) (hLo : 2000 ≤ Lo) (hFu : Fu ≤ F) (hLu : Lu ≤ Lo) (hE : ∀ (μ : M3) (x1 : Int) (P : Int) (tt : Int) (hx1 : x1 = 0 ∨ x1 = 1) (hI : IC μ) (hP : P = μ.1 23 2) (htt : tt = μ.1 23 8) (hTK : TK μ) (hB : 2 * μ.1 P 1 ≤ 5 * μ.1 26 10 + 200 + 80 * μ.1 26 11) (hKc : μ.1 (P + 2) 3 ≤ μ.1 P 1) (ht3 : 0 ≤ tt ∧ tt ≤ 3) (hdp : 0 ≤ μ.1 23 9 ∧ μ.1 23 9 ≤ 8 + μ.1 26 11) (hfu : 0 ≤ (kf - 1) ∧ 9 ≤ μ.1 23 9 + (kf - 1) + 20 * μ.1 26 11) (hbg : ∀ _ : Unit, x1 = 0 ∨ μ.1 26 11 ≠ 0 ∨ 2 ≤ hs μ P (μ.1 P 1)), CtV ω l yX7_expression cX7_expression 3 (F + 0) (Lo + 0) [.ref (oP ω 23), .int (iv x1)] μ (fun (μ' : M3) => (Fr [2, 3, 4, 23, 24, 26, P, P + 1, P + 2, (P + 2) + 1, (P + 2) + 2, (P + 2) + 3] μ μ') ∧ (IC μ') ∧ (TK μ') ∧ (μ.1 26 11 ≤ μ'.1 26 11) ∧ (μ.1 26 10 ≤ μ'.1 26 10) ∧ (μ.1 P 1 ≤ μ'.1 P 1 ∧ μ'.1 P 1 ≤ μ.1 P 1 + 2 * (μ'.1 26 10 - μ.1 26 10) + (- 1 + 3 * μ'.1 26 11 - 2 * μ.1 26 11 + x1)) ∧ (μ'.1 (P + 2) 3 - μ.1 (P + 2) 3 ≤ μ'.1 P 1 - μ.1 P 1 ∧ μ.1 (P + 2) 3 ≤ μ'.1 (P + 2) 3) ∧ (μ'.1 26 11 = 0 → EX μ μ' P tt (1 - x1) 0) ∧ (μ'.1 23 2 = μ.1 23 2) ∧ (μ'.1 23 5 = μ.1 23 5) ∧ (μ'.1 23 6 = μ.1 23 6) ∧ (μ'.1 23 7 = μ.1 23 7) ∧ (μ'.1 23 8 = μ.1 23 8) ∧ (μ'.1 23 9 = μ.1 23 9) ∧ (μ'.1 23 10 = μ.1 23 10) ∧ (μ'.1 26 6 = μ.1 26 6) ∧ (μ'.1 P 7 = μ.1 P 7))) (hU : ∀ (μ : M3) (x1 : Int) (P : Int) (tt : Int) (hx1 : x1 = 0 ∨ x1 = 1) (hI : IC μ) (hP : P = μ.1 23 2) (htt : tt = μ.1 23 8) (hTK : TK μ) (hB : 2 * μ.1 P 1 ≤ 5 * μ.1 26 10 + 200 + 80 * μ.1 26 11) (hKc : μ.1 (P + 2) 3 ≤ μ.1 P 1) (ht3 : 0 ≤ tt ∧ tt ≤ 3) (hdp : 0 ≤ μ.1 23 9 ∧ μ.1 23 9 ≤ 8 + μ.1 26 11) (hfu : 0 ≤ (kf - 1) ∧ 9 ≤ μ.1 23 9 + (kf - 1) + 20 * μ.1 26 11) (hbg : ∀ _ : Unit, x1 = 0 ∨ μ.1 26 11 ≠ 0 ∨ 2 ≤ hs μ P (μ.1 P 1)), CtV ω l yX7_unary cX7_unary 2 (Fu + 0) (Lu + 0) [.ref (oP ω 23), .int (iv x1)] μ (fun (μ' : M3) => (Fr [2, 3, 4, 23, 24, 26, P, P + 1, P + 2, (P + 2) + 1, (P + 2) + 2, (P + 2) + 3] μ μ') ∧ (IC μ') ∧ (TK μ') ∧ (μ.1 26 11 ≤ μ'.1 26 11) ∧ (μ.1 26 10 ≤ μ'.1 26 10) ∧ (μ.1 P 1 ≤ μ'.1 P 1 ∧ μ'.1 P 1 ≤ μ.1 P 1 + 2 * (μ'.1 26 10 - μ.1 26 10) + (- 1 + 3 * μ'.1 26 11 - 2 * μ.1 26 11 + x1)) ∧ (μ'.1 (P + 2) 3 - μ.1 (P + 2) 3 ≤ μ'.1 P 1 - μ.1 P 1 ∧ μ.1 (P + 2) 3 ≤ μ'.1 (P + 2) 3) ∧ (μ'.1 26 11 = 0 → EX μ μ' P tt (1 - x1) 0) ∧ (μ'.1 23 2 = μ.1 23 2) ∧ (μ'.1 23 5 = μ.1 23 5) ∧ (μ'.1 23 6 = μ.1 23 6) ∧ (μ'.1 23 7 = μ.1 23 7) ∧ (μ'.1 23 8 = μ.1 23 8) ∧ (μ'.1 23 9 = μ.1 23 9) ∧ (μ'.1 23 10 = μ.1 23 10) ∧ (μ'.1 26 6 = μ.1 26 6) ∧ (μ'.1 P 7 = μ.1 P 7))) (hTK : TK μ) (hB : 2 * μ.1 P 1 ≤ 5 * μ.1 26 10 + 200 + 80 * μ.1 26 11) (hKc : μ.1 (P + 2) 3 ≤ μ.1 P 1) (ht3 : 0 ≤ tt ∧ tt ≤ 3) (hdp : 0 ≤ μ.1 23 9 ∧ μ.1 23 9 ≤ 8) (hfu : 9 ≤ μ.1 23 9 + kf) (heo : 13 ≤ x1 ∧ x1 ≤ 14 ∧ ee = x1 - 13) (hx2b : 0 ≤ x2 ∧ x2 ≤ 3) (hpx : μ.1 26 11 = 0 → PXE μo μ P tt ee x4 ww) (hw1 : ww = 1) : CtV ω l yX7_arguments cX7_arguments 11 (F + 1) (Lo + 22) [.ref (oP ω 23), .int (iv x1), .int (iv x2), .long (jv x3), .int (iv x4)] μ (fun (μ' : M3) => (Fr [2, 3, 4, 23, 24, 26, P, P + 1, P + 2, (P + 2) + 1, (P + 2) + 2, (P + 2) + 3] μ μ') ∧ (IC μ') ∧ (TK μ') ∧ (μ.1 26 11 ≤ μ'.1 26 11) ∧ (μ.1 26 10 ≤ μ'.1 26 10) ∧ (μ.1 P 1 ≤ μ'.1 P 1 ∧ μ'.1 P 1 ≤ μ.1 P 1 + 2 * (μ'.1 26 10 - μ.1 26 10) + (- 1 + 3 * μ'.1 26 11)) ∧ (μ'.1 (P + 2) 3 - μ.1 (P + 2) 3 ≤ μ'.1 P 1 - μ.1 P 1 ∧ μ.1 (P + 2) 3 ≤ μ'.1 (P + 2) 3) ∧ (μ'.1 26 11 = 0 → EX μo μ' P tt 1 0) ∧ (μ'.1 23 2 = μ.1 23 2) ∧ (μ'.1 23 5 = μ.1 23 5) ∧ (μ'.1 23 6 = μ.1 23 6) ∧ (μ'.1 23 7 = μ.1 23 7) ∧ (μ'.1 23 8 = μ.1 23 8) ∧ (μ'.1 23 9 = μ.1 23 9) ∧ (μ'.1 23 10 = μ.1 23 10) ∧ (μ'.1 26 6 = μ.1 26 6) ∧ (μ'.1 P 7 = μ.1 P 7)) := by
  refine CtV.go (by decide) (Nat.le_of_ble_eq_true rfl) (fun ρ p e s m below meth c R ls G hR hret hlk hl => ?_)
  have hx := G.1.1
  have hb := G.1.2.1
  have hl : lv_has ls 11 [(0, .ref (oP ω 23)), (1, .int (iv x1)), (2, .int (iv x2)), (3, .long (jv x3)), (5, .int (iv x4))] := hl
  generalize s.drawn = d0 at G ⊢
  have hr_x1 : -2147483648 ≤ x1 ∧ x1 ≤ 2147483647 := hx1
  have hr_x2 : -2147483648 ≤ x2 ∧ x2 ≤ 2147483647 := hx2
  have hr_x4 : -2147483648 ≤ x4 ∧ x4 ≤ 2147483647 := hx4
  have hTKb := hTK.b
  have hprP : isPr P := by have h9 := G.sr0.2.2.2.2.2; rw [← hP] at h9; exact h9
  have hprP_d : 13 ≤ P ∧ P ≤ 101 := by rcases hprP with h9 | h9 | h9 | h9 | h9 <;> omega
  have hk_1 := hI.pr (p := P) hprP
  unfold pk at hk_1
  have hc_2 : 16 ≤ μ.2.1 (P + 1) ∧ μ.2.1 (P + 1) ≤ 73024 := hI.rm.1 _ hprP.cap
  subst hw1
  refine xj (pc2 := 11) (st2 := fun v_3 => [.int (iv v_3)]) (C := fun v_3 => v_3 = x1 - 13) (fun v_3 hv_v_3 => ?_) (fun kont_11 => ?_)
  · skip
    have hr_v_3 : -2147483648 ≤ v_3 ∧ v_3 ≤ 2147483647 := by omega
    refine lv_istore (lv' := [(6, .int (iv v_3)), (0, .ref (oP ω 23)), (1, .int (iv x1)), (2, .int (iv x2)), (3, .long (jv x3)), (5, .int (iv x4))]) hx hb dX7_arguments_11 hl (by decide) rfl (fun ls hl => ?_)
    refine lv_iload hx hb dX7_arguments_13 (lv_at hl 5 rfl) ?_
    refine lv_istore (lv' := [(7, .int (iv x4)), (6, .int (iv v_3)), (0, .ref (oP ω 23)), (1, .int (iv x1)), (2, .int (iv x2)), (3, .long (jv x3)), (5, .int (iv x4))]) hx hb dX7_arguments_15 hl (by decide) rfl (fun ls hl => ?_)
    refine lv_iconst (v := iv 0) hx hb dX7_arguments_17 rfl ?_
    refine lv_istore (lv' := [(8, .int (iv 0)), (7, .int (iv x4)), (6, .int (iv v_3)), (0, .ref (oP ω 23)), (1, .int (iv x1)), (2, .int (iv x2)), (3, .long (jv x3)), (5, .int (iv x4))]) hx hb dX7_arguments_18 hl (by decide) rfl (fun ls hl => ?_)
    refine lv_aload_n hx hb dX7_arguments_20 rfl (lv_at hl 3 rfl) ?_
    refine lv_bipush (v := iv 40) hx hb dX7_arguments_21 rfl ?_
    have hn_4 : -1 ≤ μ.1 26 10 ∧ μ.1 26 10 ≤ 3000 := hI.nm.2.2.2.2.2.2.2.2.2.2.2.2
    refine xc_vV G (b := 23) (rest := []) (As := [.int (iv 40)]) (c_X7_needOpen_b ω l μ 40 (by unfold ir; omega) hI hTK (by omega) (by omega)) (wm 3 197 rfl rfl) (wm 3 199 rfl rfl) (wm 0 14 rfl rfl) rfl rfl (by decide) rfl (wm 1 12 rfl rfl) (wm 3 200 rfl rfl) (by decide) hR ⟨nfr hF (by decide), nlo hLo (by decide)⟩ (n := 1) rfl rfl (Nat.le_of_ble_eq_true rfl) hl.1 dX7_arguments_23 (fun μ5 ρ d0 H locs hp G => ?_)
    obtain ⟨F_6, hI_7, hp_8, hp_9, hp_10, hp_11, hs_12, hs_13, hs_14, hs_15, hs_16, hs_17, hs_18, hs_19, hs_20, hs_21, hs_22⟩ := hp
    have hn_23 : -1 ≤ μ5.1 26 10 ∧ μ5.1 26 10 ≤ 3000 := hI_7.nm.2.2.2.2.2.2.2.2.2.2.2.2
    have htb_24 := hp_8.b
    refine xj (pc2 := 43) (st2 := fun v_25 => [.int (iv v_25)]) (C := fun v_25 => 0 ≤ v_25 ∧ v_25 ≤ 1) (fun v_25 hv_v_25 => ?_) (fun kont_43 => ?_)
    · skip
      have hr_v_25 : -2147483648 ≤ v_25 ∧ v_25 ≤ 2147483647 := by omega
      refine lv_istore (lv' := [(9, .int (iv v_25)), (8, .int (iv 0)), (7, .int (iv x4)), (6, .int (iv v_3)), (0, .ref (oP ω 23)), (1, .int (iv x1)), (2, .int (iv x2)), (3, .long (jv x3)), (5, .int (iv x4))]) hx hb dX7_arguments_43 hl (by decide) rfl (fun ls hl => ?_)
      refine lv_iconst (v := iv 0) hx hb dX7_arguments_45 rfl ?_
      refine lv_istore (lv' := [(10, .int (iv 0)), (9, .int (iv v_25)), (8, .int (iv 0)), (7, .int (iv x4)), (6, .int (iv v_3)), (0, .ref (oP ω 23)), (1, .int (iv x1)), (2, .int (iv x2)), (3, .long (jv x3)), (5, .int (iv x4))]) hx hb dX7_arguments_46 hl (by decide) rfl (fun ls hl => ?_)
      have e_26 : μ5.1 23 9 = μ.1 23 9 + 1 := hs_12
      have e_27 : μ5.1 23 9 = μ.1 23 9 + 1 := hs_12
      have e_28 : μ5.1 P 1 = μ.1 P 1 := (F_6.1 P (ni hprP (fun P => P) (fun P => [26, 23]) rfl) 1)
      have e_29 : μ5.1 P 1 = μ.1 P 1 := (F_6.1 P (ni hprP (fun P => P) (fun P => [26, 23]) rfl) 1)
      have e_30 : μ5.1 P 1 = μ.1 P 1 := (F_6.1 P (ni hprP (fun P => P) (fun P => [26, 23]) rfl) 1)
      have e_31 : μ5.1 (P + 2) 3 = μ.1 (P + 2) 3 := (F_6.1 (P + 2) (ni hprP (fun P => P + 2) (fun P => [26, 23]) rfl) 3)
      have e_32 : μ5.1 P 1 = μ.1 P 1 := (F_6.1 P (ni hprP (fun P => P) (fun P => [26, 23]) rfl) 1)
      have e_33 : μ5.1 (P + 2) 3 = μ.1 (P + 2) 3 := (F_6.1 (P + 2) (ni hprP (fun P => P + 2) (fun P => [26, 23]) rfl) 3)
      have hk_34 := hI.row (r := P + 2) (hprP.row)
      unfold rk at hk_34
      have hpx_35 : μ5.1 26 11 = 0 → PXE μo μ5 P tt ee x4 1 := fun h0 => (hpx (by have h9 : μ.1 26 11 = μ.1 26 11 := rfl; have h8 : μ5.1 26 11 = μ5.1 26 11 := rfl; omega)).fr (K := [26, 23]) (Fr.tr Fr.rf F_6 (by decide)) (npL_p (L := [26, 23]) (by decide) hprP).1 (npL_p (L := [26, 23]) (by decide) hprP).2.1
      refine xl (fun n_9 μ' ls => ∃ (f9 : Int), ∃ (c9 : Int), ∃ (m9 : Int), ∃ (i9 : Int), (Fr [2, 3, 4, 23, 24, 26, P, P + 1, P + 2, (P + 2) + 1, (P + 2) + 2, (P + 2) + 3] μ5 μ') ∧ (-2147483648 ≤ f9 ∧ f9 ≤ 2147483647) ∧ (-2147483648 ≤ c9 ∧ c9 ≤ 2147483647) ∧ (-2147483648 ≤ m9 ∧ m9 ≤ 2147483647) ∧ (-2147483648 ≤ i9 ∧ i9 ≤ 2147483647) ∧ (0 ≤ c9 ∧ c9 ≤ i9) ∧ (μ'.1 23 9 = μ.1 23 9 + 1) ∧ (μ'.1 23 9 ≤ 8 + μ'.1 26 11) ∧ (i9 ≤ 3000) ∧ (0 ≤ m9 ∧ m9 ≤ 1) ∧ (TK μ') ∧ (μ.1 26 11 ≤ μ'.1 26 11) ∧ (μ.1 26 10 ≤ μ'.1 26 10) ∧ (μ.1 P 1 ≤ μ'.1 P 1 ∧ μ'.1 P 1 ≤ μ.1 P 1 + 2 * (μ'.1 26 10 - μ.1 26 10) + (- 2 + 3 * μ'.1 26 11)) ∧ (μ'.1 P 1 ≤ μ.1 P 1 + 2 * (μ'.1 26 10 - μ.1 26 10) + (1 - m9)) ∧ (μ'.1 (P + 2) 3 - μ.1 (P + 2) 3 ≤ μ'.1 P 1 - μ.1 P 1 ∧ μ.1 (P + 2) 3 ≤ μ'.1 (P + 2) 3) ∧ (μ'.1 26 11 = 0 → PXE μo μ' P tt (ee + c9) f9 1) ∧ (μ'.1 23 2 = P) ∧ (μ'.1 23 5 = μ.1 23 5) ∧ (μ'.1 23 6 = μ.1 23 6) ∧ (μ'.1 23 7 = μ.1 23 7) ∧ (μ'.1 23 8 = tt) ∧ (μ'.1 23 10 = μ.1 23 10) ∧ (μ'.1 26 6 = μ.1 26 6) ∧ (μ'.1 P 7 = μ.1 P 7) ∧ (IC μ') ∧ n_9 = Int.toNat (3000 - i9) ∧ lv_has ls 11 [(10, .int (iv i9)), (9, .int (iv m9)), (8, .int (iv c9)), (7, .int (iv f9)), (6, .int (iv v_3)), (0, .ref (oP ω 23)), (1, .int (iv x1)), (2, .int (iv x2)), (3, .long (jv x3)), (5, .int (iv x4))]) (fun n_9 ρ μL36 d0 H locs ls hI_l G ih => ?_) _ _ _ _ _ _ _ ⟨x4, 0, v_25, 0, Fr.rf, (by omega), (by omega), (by omega), (by omega), (by omega), (by omega), (by omega), (by omega), (by omega), hp_8, (by omega), (by omega), (by omega), (by omega), (by omega), (fun h0 => (hpx_35 h0).e (by omega)), (hs_17.trans hP.symm), hs_18, hs_19, hs_20, (hs_21.trans htt.symm), hs_22, hs_13, (F_6.1 P (ni hprP (fun P => P) (fun P => [26, 23]) rfl) 7), hI_7, rfl, lv_sub hl [0, 1, 2, 3, 4, 5, 6, 7, 8, 9] rfl⟩ G
      obtain ⟨f9, c9, m9, i9, FL37, hi_39, hi_40, hi_41, hi_42, hi_43, hi_44, hi_45, hi_46, hi_47, hi_48, hi_49, hi_50, hi_51, hi_52, hi_53, hi_54, hi_55, hi_56, hi_57, hi_58, hi_59, hi_60, hi_61, hi_62, hi_63, hn38, hl⟩ := hI_l
      have htb_64 := hi_48.b
      refine lv_iload hx hb dX7_arguments_48 (lv_at hl 0 rfl) ?_
      refine lv_sipush (v := iv 3000) hx hb dX7_arguments_50 rfl ?_
      refine xb_icmp_ge (tgt := 115) hx hb (by unfold ir; omega) (by unfold ir; omega) dX7_arguments_53 (by decide) (fun c_53 => ?_) (fun c_53 => ?_)
      · refine lv_aload_n hx hb dX7_arguments_115 rfl (lv_at hl 5 rfl) ?_
        refine lv_bipush (v := iv 41) hx hb dX7_arguments_116 rfl ?_
        have hn_65 : -1 ≤ μL36.1 26 10 ∧ μL36.1 26 10 ≤ 3000 := hi_63.nm.2.2.2.2.2.2.2.2.2.2.2.2
        refine xc_vV G (b := 23) (rest := []) (As := [.int (iv 41)]) (c_X7_needClosed_b ω l μL36 41 (by unfold ir; omega) hi_63 hi_48 (by omega) (by omega)) (wm 3 214 rfl rfl) (wm 3 216 rfl rfl) (wm 0 18 rfl rfl) rfl rfl (by decide) rfl (wm 1 12 rfl rfl) (wm 3 217 rfl rfl) (by decide) hR ⟨nfr hF (by decide), nlo hLo (by decide)⟩ (n := 1) rfl rfl (Nat.le_of_ble_eq_true rfl) hl.1 dX7_arguments_118 (fun μ66 ρ d0 H locs hp G => ?_)
        obtain ⟨F_67, hI_68, hp_69, hp_70, hp_71, hs_72, hs_73, hs_74, hs_75, hs_76, hs_77, hs_78, hs_79, hs_80, hs_81, hs_82⟩ := hp
        have hn_83 : -1 ≤ μ66.1 26 10 ∧ μ66.1 26 10 ≤ 3000 := hI_68.nm.2.2.2.2.2.2.2.2.2.2.2.2
        have htb_84 := hp_69.b
        refine lv_aload_n hx hb dX7_arguments_121 rfl (lv_at hl 5 rfl) ?_
        refine xa_getr G fd_X7 (a := 23) (x := P) 2 rfl (by decide) rfl (wm 2 19 rfl rfl) ⟨rfl, rfl, rfl⟩ dX7_arguments_122 rfl (hs_77.trans hi_55) (by omega) (hprP.hq ω ρ) ?_
        refine lv_iconst (v := iv 0) hx hb dX7_arguments_125 rfl ?_
        refine lv_lload_n hx hb dX7_arguments_126 rfl (lv_at hl 8 rfl) ?_
        refine lv_dconst0 hx hb dX7_arguments_127 ?_
        refine xb_topd (fun dd_85 he_dd_85 => ?_)
        have hpx_86 : μ66.1 26 11 = 0 → PXE μo μ66 P tt (ee + c9) f9 1 := fun h0 => (hi_54 (by have h9 : μL36.1 26 11 = μL36.1 26 11 := rfl; have h8 : μ66.1 26 11 = μ66.1 26 11 := rfl; omega)).fr (K := [26, 23]) (Fr.tr Fr.rf F_67 (by decide)) (npL_p (L := [26, 23]) (by decide) hprP).1 (npL_p (L := [26, 23]) (by decide) hprP).2.1
        have hk_87 := hi_63.row (r := P + 2) (hprP.row)
        unfold rk at hk_87
        have e_88 : μ66.1 (P + 2) 3 = μL36.1 (P + 2) 3 := (F_67.1 (P + 2) (ni hprP (fun P => P + 2) (fun P => [26, 23]) rfl) 3)
        refine xc_iV G (b := P) (rest := []) (As := [.int (iv 0), .long (jv x3), .double (dv dd_85)]) (c_X8_addConstant ω l μ66 P 0 x3 dd_85 (μL36.1 (P + 2) 3) hprP (by unfold ir; omega) hx3 hI_68 (by omega) (by omega)) (wm 4 67 rfl rfl) (wm 4 68 rfl rfl) (wm 4 69 rfl rfl) hprP.ly rfl (by decide) (hprP.hq ω ρ) (wm 1 9 rfl rfl) (wm 4 70 rfl rfl) (by decide) hR ⟨nfr hF (by decide), nlo hLo (by decide)⟩ (n := 3) rfl rfl (Nat.le_of_ble_eq_true rfl) hl.1 dX7_arguments_128 (fun r_90 μ89 ρ d0 H locs hr_r_90 hp G => ?_)
        have hr_r_90 : -2147483648 ≤ r_90 ∧ r_90 ≤ 2147483647 := hr_r_90
        obtain ⟨F_91, hI_92, hp_93, hp_94⟩ := hp
        have hk_95 := hI_92.row (r := P + 2) (hprP.row)
        unfold rk at hk_95
        refine lv_istore (lv' := [(10, .int (iv r_90)), (9, .int (iv m9)), (8, .int (iv c9)), (7, .int (iv f9)), (6, .int (iv v_3)), (0, .ref (oP ω 23)), (1, .int (iv x1)), (2, .int (iv x2)), (3, .long (jv x3)), (5, .int (iv x4))]) hx hb dX7_arguments_131 hl (by decide) rfl (fun ls hl => ?_)
        refine lv_aload_n hx hb dX7_arguments_133 rfl (lv_at hl 5 rfl) ?_
        refine lv_iload_n hx hb dX7_arguments_134 rfl (lv_at hl 6 rfl) ?_
        refine lv_iload hx hb dX7_arguments_135 (lv_at hl 2 rfl) ?_
        refine lv_iconst (v := iv 4) hx hb dX7_arguments_137 rfl ?_
        refine xb_imul hx hb dX7_arguments_138 ?_
        refine lv_iload_n hx hb dX7_arguments_139 rfl (lv_at hl 7 rfl) ?_
        refine xb_iadd hx hb dX7_arguments_140 ?_
        refine lv_iload hx hb dX7_arguments_141 (lv_at hl 0 rfl) ?_
        refine lv_iload hx hb dX7_arguments_143 (lv_at hl 3 rfl) ?_
        have hpx_96 : μ89.1 26 11 = 0 → PXE μo μ89 P tt (ee + c9) f9 1 := fun h0 => (hpx_86 (by have h9 : μ66.1 26 11 = μ66.1 26 11 := rfl; have h8 : μ89.1 26 11 = μ66.1 26 11 := (F_91.1 26 (ni hprP (fun P => 26) (fun P => [P + 2, (P + 2) + 1, (P + 2) + 2, (P + 2) + 3]) rfl) 11); omega)).fr (K := [P + 2, (P + 2) + 1, (P + 2) + 2, (P + 2) + 3]) (Fr.tr Fr.rf F_91 (si hprP (fun P => [P + 2, (P + 2) + 1, (P + 2) + 2, (P + 2) + 3]) (fun P => [P + 2, (P + 2) + 1, (P + 2) + 2, (P + 2) + 3]) rfl)) (ni hprP (fun P => P) (fun P => [P + 2, (P + 2) + 1, (P + 2) + 2, (P + 2) + 3]) rfl) (ni hprP (fun P => P + 1) (fun P => [P + 2, (P + 2) + 1, (P + 2) + 2, (P + 2) + 3]) rfl)
        have e_97 : μ89.1 23 2 = P := ((F_91.1 23 (ni hprP (fun P => 23) (fun P => [P + 2, (P + 2) + 1, (P + 2) + 2, (P + 2) + 3]) rfl) 2).trans (hs_77.trans hi_55))
        have e_98 : μ89.1 23 8 = tt := ((F_91.1 23 (ni hprP (fun P => 23) (fun P => [P + 2, (P + 2) + 1, (P + 2) + 2, (P + 2) + 3]) rfl) 8).trans (hs_81.trans hi_59))
        have hk_99 := hi_63.pr (p := P) hprP
        unfold pk at hk_99
        have hc_100 : 16 ≤ μL36.2.1 (P + 1) ∧ μL36.2.1 (P + 1) ≤ 73024 := hi_63.rm.1 _ hprP.cap
        have e_101 : μ89.1 P 1 = μL36.1 P 1 := ((F_91.1 P (ni hprP (fun P => P) (fun P => [P + 2, (P + 2) + 1, (P + 2) + 2, (P + 2) + 3]) rfl) 1).trans (F_67.1 P (ni hprP (fun P => P) (fun P => [26, 23]) rfl) 1))
        have e_102 : μ89.1 P 1 = μL36.1 P 1 := ((F_91.1 P (ni hprP (fun P => P) (fun P => [P + 2, (P + 2) + 1, (P + 2) + 2, (P + 2) + 3]) rfl) 1).trans (F_67.1 P (ni hprP (fun P => P) (fun P => [26, 23]) rfl) 1))
        refine xc_vV G (b := 23) (rest := []) (As := [.int (iv x1), .int (iv ((c9 * 4) + x2)), .int (iv r_90), .int (iv f9)]) (c_X7_endOfParts ω l μ89 x1 ((c9 * 4) + x2) r_90 f9 μo (ee + c9) (1) P tt (by unfold ir; omega) (by unfold ir; omega) (by unfold ir; omega) (by unfold ir; omega) hI_92 (by omega) (by omega) (by omega) hpx_96 (Or.inr ⟨by omega, by omega, by omega⟩) (by omega) (by by_cases q1 : x1 = 13; (rw [q1, ef13 (by omega) hx2b]; omega); (rw [show x1 = 14 by omega, ef14 (by omega) hx2b]; omega))) (wm 4 27 rfl rfl) (wm 4 29 rfl rfl) (wm 0 30 rfl rfl) rfl rfl (by decide) rfl (wm 1 12 rfl rfl) (wm 4 30 rfl rfl) (by decide) hR ⟨nfr hF (by decide), nlo hLo (by decide)⟩ (n := 4) rfl rfl (Nat.le_of_ble_eq_true rfl) hl.1 dX7_arguments_145 (fun μ103 ρ d0 H locs hp G => ?_)
        obtain ⟨F_104, hI_105, hp_106, hs_107, hs_108⟩ := hp
        have hpx_109 : μ103.1 26 11 = 0 → PXE μo μ103 P tt 1 (-1) 1 := fun h0 => PXE.of (hp_106 (by have h9 : μ89.1 26 11 = μ66.1 26 11 := (F_91.1 26 (ni hprP (fun P => 26) (fun P => [P + 2, (P + 2) + 1, (P + 2) + 2, (P + 2) + 3]) rfl) 11); have h8 : μ103.1 26 11 = μ66.1 26 11 := ((F_104.1 26 (ni hprP (fun P => 26) (fun P => [P, P + 1]) rfl) 11).trans (F_91.1 26 (ni hprP (fun P => 26) (fun P => [P + 2, (P + 2) + 1, (P + 2) + 2, (P + 2) + 3]) rfl) 11)); omega))
        clear hp_106
        have htk_110 : TK μ103 := hp_69.fr (K := [P, P + 1, P + 2, (P + 2) + 1, (P + 2) + 2, (P + 2) + 3]) (Fr.tr (Fr.tr Fr.rf F_91 (si hprP (fun P => [P + 2, (P + 2) + 1, (P + 2) + 2, (P + 2) + 3]) (fun P => [P, P + 1, P + 2, (P + 2) + 1, (P + 2) + 2, (P + 2) + 3]) rfl)) F_104 (si hprP (fun P => [P, P + 1]) (fun P => [P, P + 1, P + 2, (P + 2) + 1, (P + 2) + 2, (P + 2) + 3]) rfl)) (ni hprP (fun P => 26) (fun P => [P, P + 1, P + 2, (P + 2) + 1, (P + 2) + 2, (P + 2) + 3]) rfl) (ni hprP (fun P => 28) (fun P => [P, P + 1, P + 2, (P + 2) + 1, (P + 2) + 2, (P + 2) + 3]) rfl) (ni hprP (fun P => 29) (fun P => [P, P + 1, P + 2, (P + 2) + 1, (P + 2) + 2, (P + 2) + 3]) rfl)
        have e_111 : μ103.1 26 11 = μ66.1 26 11 := ((F_104.1 26 (ni hprP (fun P => 26) (fun P => [P, P + 1]) rfl) 11).trans (F_91.1 26 (ni hprP (fun P => 26) (fun P => [P + 2, (P + 2) + 1, (P + 2) + 2, (P + 2) + 3]) rfl) 11))
        have e_112 : μ103.1 26 11 = μ66.1 26 11 := ((F_104.1 26 (ni hprP (fun P => 26) (fun P => [P, P + 1]) rfl) 11).trans (F_91.1 26 (ni hprP (fun P => 26) (fun P => [P + 2, (P + 2) + 1, (P + 2) + 2, (P + 2) + 3]) rfl) 11))
        have e_113 : μ103.1 26 10 = μ66.1 26 10 := ((F_104.1 26 (ni hprP (fun P => 26) (fun P => [P, P + 1]) rfl) 10).trans (F_91.1 26 (ni hprP (fun P => 26) (fun P => [P + 2, (P + 2) + 1, (P + 2) + 2, (P + 2) + 3]) rfl) 10))
        have e_114 : μ103.1 P 1 = μ89.1 P 1 + 1 := hs_107
        have e_115 : μ103.1 P 1 = μ89.1 P 1 + 1 := hs_107
        have e_116 : μ103.1 26 10 = μ66.1 26 10 := ((F_104.1 26 (ni hprP (fun P => 26) (fun P => [P, P + 1]) rfl) 10).trans (F_91.1 26 (ni hprP (fun P => 26) (fun P => [P + 2, (P + 2) + 1, (P + 2) + 2, (P + 2) + 3]) rfl) 10))
        have e_117 : μ103.1 26 11 = μ66.1 26 11 := ((F_104.1 26 (ni hprP (fun P => 26) (fun P => [P, P + 1]) rfl) 11).trans (F_91.1 26 (ni hprP (fun P => 26) (fun P => [P + 2, (P + 2) + 1, (P + 2) + 2, (P + 2) + 3]) rfl) 11))
        have e_118 : μ103.1 (P + 2) 3 = μ89.1 (P + 2) 3 := (F_104.1 (P + 2) (ni hprP (fun P => P + 2) (fun P => [P, P + 1]) rfl) 3)
        have e_119 : μ103.1 P 1 = μ89.1 P 1 + 1 := hs_107
        have e_120 : μ103.1 (P + 2) 3 = μ89.1 (P + 2) 3 := (F_104.1 (P + 2) (ni hprP (fun P => P + 2) (fun P => [P, P + 1]) rfl) 3)
        have e_121 : μ103.1 23 9 = μL36.1 23 9 - 1 := ((F_104.1 23 (ni hprP (fun P => 23) (fun P => [P, P + 1]) rfl) 9).trans ((F_91.1 23 (ni hprP (fun P => 23) (fun P => [P + 2, (P + 2) + 1, (P + 2) + 2, (P + 2) + 3]) rfl) 9).trans hs_72))
        exact xr_v G hret hlk dX7_arguments_148 ⟨(Fr.tr (Fr.tr (Fr.tr (Fr.tr (Fr.tr Fr.rf F_6 (si hprP (fun P => [26, 23]) (fun P => [2, 3, 4, 23, 24, 26, P, P + 1, P + 2, (P + 2) + 1, (P + 2) + 2, (P + 2) + 3]) rfl)) FL37 (si hprP (fun P => [2, 3, 4, 23, 24, 26, P, P + 1, P + 2, (P + 2) + 1, (P + 2) + 2, (P + 2) + 3]) (fun P => [2, 3, 4, 23, 24, 26, P, P + 1, P + 2, (P + 2) + 1, (P + 2) + 2, (P + 2) + 3]) rfl)) F_67 (si hprP (fun P => [26, 23]) (fun P => [2, 3, 4, 23, 24, 26, P, P + 1, P + 2, (P + 2) + 1, (P + 2) + 2, (P + 2) + 3]) rfl)) F_91 (si hprP (fun P => [P + 2, (P + 2) + 1, (P + 2) + 2, (P + 2) + 3]) (fun P => [2, 3, 4, 23, 24, 26, P, P + 1, P + 2, (P + 2) + 1, (P + 2) + 2, (P + 2) + 3]) rfl)) F_104 (si hprP (fun P => [P, P + 1]) (fun P => [2, 3, 4, 23, 24, 26, P, P + 1, P + 2, (P + 2) + 1, (P + 2) + 2, (P + 2) + 3]) rfl)), hI_105, htk_110, (by omega), (by omega), (by omega), (by omega), (fun h0 => (PXE.ex (hpx_109 h0)).e (by omega)), (((F_104.1 23 (ni hprP (fun P => 23) (fun P => [P, P + 1]) rfl) 2).trans ((F_91.1 23 (ni hprP (fun P => 23) (fun P => [P + 2, (P + 2) + 1, (P + 2) + 2, (P + 2) + 3]) rfl) 2).trans (hs_77.trans hi_55)))).trans hP, ((F_104.1 23 (ni hprP (fun P => 23) (fun P => [P, P + 1]) rfl) 5).trans ((F_91.1 23 (ni hprP (fun P => 23) (fun P => [P + 2, (P + 2) + 1, (P + 2) + 2, (P + 2) + 3]) rfl) 5).trans (hs_78.trans hi_56))), ((F_104.1 23 (ni hprP (fun P => 23) (fun P => [P, P + 1]) rfl) 6).trans ((F_91.1 23 (ni hprP (fun P => 23) (fun P => [P + 2, (P + 2) + 1, (P + 2) + 2, (P + 2) + 3]) rfl) 6).trans (hs_79.trans hi_57))), ((F_104.1 23 (ni hprP (fun P => 23) (fun P => [P, P + 1]) rfl) 7).trans ((F_91.1 23 (ni hprP (fun P => 23) (fun P => [P + 2, (P + 2) + 1, (P + 2) + 2, (P + 2) + 3]) rfl) 7).trans (hs_80.trans hi_58))), (((F_104.1 23 (ni hprP (fun P => 23) (fun P => [P, P + 1]) rfl) 8).trans ((F_91.1 23 (ni hprP (fun P => 23) (fun P => [P + 2, (P + 2) + 1, (P + 2) + 2, (P + 2) + 3]) rfl) 8).trans (hs_81.trans hi_59)))).trans htt, (by omega), ((F_104.1 23 (ni hprP (fun P => 23) (fun P => [P, P + 1]) rfl) 10).trans ((F_91.1 23 (ni hprP (fun P => 23) (fun P => [P + 2, (P + 2) + 1, (P + 2) + 2, (P + 2) + 3]) rfl) 10).trans (hs_82.trans hi_60))), ((F_104.1 26 (ni hprP (fun P => 26) (fun P => [P, P + 1]) rfl) 6).trans ((F_91.1 26 (ni hprP (fun P => 26) (fun P => [P + 2, (P + 2) + 1, (P + 2) + 2, (P + 2) + 3]) rfl) 6).trans (hs_73.trans hi_61))), (hs_108.trans ((F_91.1 P (ni hprP (fun P => P) (fun P => [P + 2, (P + 2) + 1, (P + 2) + 2, (P + 2) + 3]) rfl) 7).trans ((F_67.1 P (ni hprP (fun P => P) (fun P => [26, 23]) rfl) 7).trans hi_62)))⟩
      · refine lv_iload hx hb dX7_arguments_56 (lv_at hl 1 rfl) ?_
        refine xb_if_eq (tgt := 115) hx hb (by unfold ir; omega) dX7_arguments_58 (by decide) (fun c_58 => ?_) (fun c_58 => ?_)
        · refine lv_aload_n hx hb dX7_arguments_115 rfl (lv_at hl 5 rfl) ?_
          refine lv_bipush (v := iv 41) hx hb dX7_arguments_116 rfl ?_
          have hn_122 : -1 ≤ μL36.1 26 10 ∧ μL36.1 26 10 ≤ 3000 := hi_63.nm.2.2.2.2.2.2.2.2.2.2.2.2
          refine xc_vV G (b := 23) (rest := []) (As := [.int (iv 41)]) (c_X7_needClosed_b ω l μL36 41 (by unfold ir; omega) hi_63 hi_48 (by omega) (by omega)) (wm 3 214 rfl rfl) (wm 3 216 rfl rfl) (wm 0 18 rfl rfl) rfl rfl (by decide) rfl (wm 1 12 rfl rfl) (wm 3 217 rfl rfl) (by decide) hR ⟨nfr hF (by decide), nlo hLo (by decide)⟩ (n := 1) rfl rfl (Nat.le_of_ble_eq_true rfl) hl.1 dX7_arguments_118 (fun μ123 ρ d0 H locs hp G => ?_)
          obtain ⟨F_124, hI_125, hp_126, hp_127, hp_128, hs_129, hs_130, hs_131, hs_132, hs_133, hs_134, hs_135, hs_136, hs_137, hs_138, hs_139⟩ := hp
          have hn_140 : -1 ≤ μ123.1 26 10 ∧ μ123.1 26 10 ≤ 3000 := hI_125.nm.2.2.2.2.2.2.2.2.2.2.2.2
          have htb_141 := hp_126.b
          refine lv_aload_n hx hb dX7_arguments_121 rfl (lv_at hl 5 rfl) ?_
          refine xa_getr G fd_X7 (a := 23) (x := P) 2 rfl (by decide) rfl (wm 2 19 rfl rfl) ⟨rfl, rfl, rfl⟩ dX7_arguments_122 rfl (hs_134.trans hi_55) (by omega) (hprP.hq ω ρ) ?_
          refine lv_iconst (v := iv 0) hx hb dX7_arguments_125 rfl ?_
          refine lv_lload_n hx hb dX7_arguments_126 rfl (lv_at hl 8 rfl) ?_
          refine lv_dconst0 hx hb dX7_arguments_127 ?_
          refine xb_topd (fun dd_142 he_dd_142 => ?_)
          have hpx_143 : μ123.1 26 11 = 0 → PXE μo μ123 P tt (ee + c9) f9 1 := fun h0 => (hi_54 (by have h9 : μL36.1 26 11 = μL36.1 26 11 := rfl; have h8 : μ123.1 26 11 = μ123.1 26 11 := rfl; omega)).fr (K := [26, 23]) (Fr.tr Fr.rf F_124 (by decide)) (npL_p (L := [26, 23]) (by decide) hprP).1 (npL_p (L := [26, 23]) (by decide) hprP).2.1
          have hk_144 := hi_63.row (r := P + 2) (hprP.row)
          unfold rk at hk_144
          have e_145 : μ123.1 (P + 2) 3 = μL36.1 (P + 2) 3 := (F_124.1 (P + 2) (ni hprP (fun P => P + 2) (fun P => [26, 23]) rfl) 3)
          refine xc_iV G (b := P) (rest := []) (As := [.int (iv 0), .long (jv x3), .double (dv dd_142)]) (c_X8_addConstant ω l μ123 P 0 x3 dd_142 (μL36.1 (P + 2) 3) hprP (by unfold ir; omega) hx3 hI_125 (by omega) (by omega)) (wm 4 67 rfl rfl) (wm 4 68 rfl rfl) (wm 4 69 rfl rfl) hprP.ly rfl (by decide) (hprP.hq ω ρ) (wm 1 9 rfl rfl) (wm 4 70 rfl rfl) (by decide) hR ⟨nfr hF (by decide), nlo hLo (by decide)⟩ (n := 3) rfl rfl (Nat.le_of_ble_eq_true rfl) hl.1 dX7_arguments_128 (fun r_147 μ146 ρ d0 H locs hr_r_147 hp G => ?_)
          have hr_r_147 : -2147483648 ≤ r_147 ∧ r_147 ≤ 2147483647 := hr_r_147
          obtain ⟨F_148, hI_149, hp_150, hp_151⟩ := hp
          have hk_152 := hI_149.row (r := P + 2) (hprP.row)
          unfold rk at hk_152
          refine lv_istore (lv' := [(10, .int (iv r_147)), (9, .int (iv m9)), (8, .int (iv c9)), (7, .int (iv f9)), (6, .int (iv v_3)), (0, .ref (oP ω 23)), (1, .int (iv x1)), (2, .int (iv x2)), (3, .long (jv x3)), (5, .int (iv x4))]) hx hb dX7_arguments_131 hl (by decide) rfl (fun ls hl => ?_)
          refine lv_aload_n hx hb dX7_arguments_133 rfl (lv_at hl 5 rfl) ?_
          refine lv_iload_n hx hb dX7_arguments_134 rfl (lv_at hl 6 rfl) ?_
          refine lv_iload hx hb dX7_arguments_135 (lv_at hl 2 rfl) ?_
          refine lv_iconst (v := iv 4) hx hb dX7_arguments_137 rfl ?_
          refine xb_imul hx hb dX7_arguments_138 ?_
          refine lv_iload_n hx hb dX7_arguments_139 rfl (lv_at hl 7 rfl) ?_
          refine xb_iadd hx hb dX7_arguments_140 ?_
          refine lv_iload hx hb dX7_arguments_141 (lv_at hl 0 rfl) ?_
          refine lv_iload hx hb dX7_arguments_143 (lv_at hl 3 rfl) ?_
          have hpx_153 : μ146.1 26 11 = 0 → PXE μo μ146 P tt (ee + c9) f9 1 := fun h0 => (hpx_143 (by have h9 : μ123.1 26 11 = μ123.1 26 11 := rfl; have h8 : μ146.1 26 11 = μ123.1 26 11 := (F_148.1 26 (ni hprP (fun P => 26) (fun P => [P + 2, (P + 2) + 1, (P + 2) + 2, (P + 2) + 3]) rfl) 11); omega)).fr (K := [P + 2, (P + 2) + 1, (P + 2) + 2, (P + 2) + 3]) (Fr.tr Fr.rf F_148 (si hprP (fun P => [P + 2, (P + 2) + 1, (P + 2) + 2, (P + 2) + 3]) (fun P => [P + 2, (P + 2) + 1, (P + 2) + 2, (P + 2) + 3]) rfl)) (ni hprP (fun P => P) (fun P => [P + 2, (P + 2) + 1, (P + 2) + 2, (P + 2) + 3]) rfl) (ni hprP (fun P => P + 1) (fun P => [P + 2, (P + 2) + 1, (P + 2) + 2, (P + 2) + 3]) rfl)
          have e_154 : μ146.1 23 2 = P := ((F_148.1 23 (ni hprP (fun P => 23) (fun P => [P + 2, (P + 2) + 1, (P + 2) + 2, (P + 2) + 3]) rfl) 2).trans (hs_134.trans hi_55))
          have e_155 : μ146.1 23 8 = tt := ((F_148.1 23 (ni hprP (fun P => 23) (fun P => [P + 2, (P + 2) + 1, (P + 2) + 2, (P + 2) + 3]) rfl) 8).trans (hs_138.trans hi_59))
          have hk_156 := hi_63.pr (p := P) hprP
          unfold pk at hk_156
          have hc_157 : 16 ≤ μL36.2.1 (P + 1) ∧ μL36.2.1 (P + 1) ≤ 73024 := hi_63.rm.1 _ hprP.cap
          have e_158 : μ146.1 P 1 = μL36.1 P 1 := ((F_148.1 P (ni hprP (fun P => P) (fun P => [P + 2, (P + 2) + 1, (P + 2) + 2, (P + 2) + 3]) rfl) 1).trans (F_124.1 P (ni hprP (fun P => P) (fun P => [26, 23]) rfl) 1))
          have e_159 : μ146.1 P 1 = μL36.1 P 1 := ((F_148.1 P (ni hprP (fun P => P) (fun P => [P + 2, (P + 2) + 1, (P + 2) + 2, (P + 2) + 3]) rfl) 1).trans (F_124.1 P (ni hprP (fun P => P) (fun P => [26, 23]) rfl) 1))
          refine xc_vV G (b := 23) (rest := []) (As := [.int (iv x1), .int (iv ((c9 * 4) + x2)), .int (iv r_147), .int (iv f9)]) (c_X7_endOfParts ω l μ146 x1 ((c9 * 4) + x2) r_147 f9 μo (ee + c9) (1) P tt (by unfold ir; omega) (by unfold ir; omega) (by unfold ir; omega) (by unfold ir; omega) hI_149 (by omega) (by omega) (by omega) hpx_153 (Or.inr ⟨by omega, by omega, by omega⟩) (by omega) (by by_cases q1 : x1 = 13; (rw [q1, ef13 (by omega) hx2b]; omega); (rw [show x1 = 14 by omega, ef14 (by omega) hx2b]; omega))) (wm 4 27 rfl rfl) (wm 4 29 rfl rfl) (wm 0 30 rfl rfl) rfl rfl (by decide) rfl (wm 1 12 rfl rfl) (wm 4 30 rfl rfl) (by decide) hR ⟨nfr hF (by decide), nlo hLo (by decide)⟩ (n := 4) rfl rfl (Nat.le_of_ble_eq_true rfl) hl.1 dX7_arguments_145 (fun μ160 ρ d0 H locs hp G => ?_)
          obtain ⟨F_161, hI_162, hp_163, hs_164, hs_165⟩ := hp
          have hpx_166 : μ160.1 26 11 = 0 → PXE μo μ160 P tt 1 (-1) 1 := fun h0 => PXE.of (hp_163 (by have h9 : μ146.1 26 11 = μ123.1 26 11 := (F_148.1 26 (ni hprP (fun P => 26) (fun P => [P + 2, (P + 2) + 1, (P + 2) + 2, (P + 2) + 3]) rfl) 11); have h8 : μ160.1 26 11 = μ123.1 26 11 := ((F_161.1 26 (ni hprP (fun P => 26) (fun P => [P, P + 1]) rfl) 11).trans (F_148.1 26 (ni hprP (fun P => 26) (fun P => [P + 2, (P + 2) + 1, (P + 2) + 2, (P + 2) + 3]) rfl) 11)); omega))
          clear hp_163
          have htk_167 : TK μ160 := hp_126.fr (K := [P, P + 1, P + 2, (P + 2) + 1, (P + 2) + 2, (P + 2) + 3]) (Fr.tr (Fr.tr Fr.rf F_148 (si hprP (fun P => [P + 2, (P + 2) + 1, (P + 2) + 2, (P + 2) + 3]) (fun P => [P, P + 1, P + 2, (P + 2) + 1, (P + 2) + 2, (P + 2) + 3]) rfl)) F_161 (si hprP (fun P => [P, P + 1]) (fun P => [P, P + 1, P + 2, (P + 2) + 1, (P + 2) + 2, (P + 2) + 3]) rfl)) (ni hprP (fun P => 26) (fun P => [P, P + 1, P + 2, (P + 2) + 1, (P + 2) + 2, (P + 2) + 3]) rfl) (ni hprP (fun P => 28) (fun P => [P, P + 1, P + 2, (P + 2) + 1, (P + 2) + 2, (P + 2) + 3]) rfl) (ni hprP (fun P => 29) (fun P => [P, P + 1, P + 2, (P + 2) + 1, (P + 2) + 2, (P + 2) + 3]) rfl)
          have e_168 : μ160.1 26 11 = μ123.1 26 11 := ((F_161.1 26 (ni hprP (fun P => 26) (fun P => [P, P + 1]) rfl) 11).trans (F_148.1 26 (ni hprP (fun P => 26) (fun P => [P + 2, (P + 2) + 1, (P + 2) + 2, (P + 2) + 3]) rfl) 11))
          have e_169 : μ160.1 26 11 = μ123.1 26 11 := ((F_161.1 26 (ni hprP (fun P => 26) (fun P => [P, P + 1]) rfl) 11).trans (F_148.1 26 (ni hprP (fun P => 26) (fun P => [P + 2, (P + 2) + 1, (P + 2) + 2, (P + 2) + 3]) rfl) 11))
          have e_170 : μ160.1 26 10 = μ123.1 26 10 := ((F_161.1 26 (ni hprP (fun P => 26) (fun P => [P, P + 1]) rfl) 10).trans (F_148.1 26 (ni hprP (fun P => 26) (fun P => [P + 2, (P + 2) + 1, (P + 2) + 2, (P + 2) + 3]) rfl) 10))
          have e_171 : μ160.1 P 1 = μ146.1 P 1 + 1 := hs_164
          have e_172 : μ160.1 P 1 = μ146.1 P 1 + 1 := hs_164
          have e_173 : μ160.1 26 10 = μ123.1 26 10 := ((F_161.1 26 (ni hprP (fun P => 26) (fun P => [P, P + 1]) rfl) 10).trans (F_148.1 26 (ni hprP (fun P => 26) (fun P => [P + 2, (P + 2) + 1, (P + 2) + 2, (P + 2) + 3]) rfl) 10))
          have e_174 : μ160.1 26 11 = μ123.1 26 11 := ((F_161.1 26 (ni hprP (fun P => 26) (fun P => [P, P + 1]) rfl) 11).trans (F_148.1 26 (ni hprP (fun P => 26) (fun P => [P + 2, (P + 2) + 1, (P + 2) + 2, (P + 2) + 3]) rfl) 11))
          have e_175 : μ160.1 (P + 2) 3 = μ146.1 (P + 2) 3 := (F_161.1 (P + 2) (ni hprP (fun P => P + 2) (fun P => [P, P + 1]) rfl) 3)
          have e_176 : μ160.1 P 1 = μ146.1 P 1 + 1 := hs_164
          have e_177 : μ160.1 (P + 2) 3 = μ146.1 (P + 2) 3 := (F_161.1 (P + 2) (ni hprP (fun P => P + 2) (fun P => [P, P + 1]) rfl) 3)
          have e_178 : μ160.1 23 9 = μL36.1 23 9 - 1 := ((F_161.1 23 (ni hprP (fun P => 23) (fun P => [P, P + 1]) rfl) 9).trans ((F_148.1 23 (ni hprP (fun P => 23) (fun P => [P + 2, (P + 2) + 1, (P + 2) + 2, (P + 2) + 3]) rfl) 9).trans hs_129))
          exact xr_v G hret hlk dX7_arguments_148 ⟨(Fr.tr (Fr.tr (Fr.tr (Fr.tr (Fr.tr Fr.rf F_6 (si hprP (fun P => [26, 23]) (fun P => [2, 3, 4, 23, 24, 26, P, P + 1, P + 2, (P + 2) + 1, (P + 2) + 2, (P + 2) + 3]) rfl)) FL37 (si hprP (fun P => [2, 3, 4, 23, 24, 26, P, P + 1, P + 2, (P + 2) + 1, (P + 2) + 2, (P + 2) + 3]) (fun P => [2, 3, 4, 23, 24, 26, P, P + 1, P + 2, (P + 2) + 1, (P + 2) + 2, (P + 2) + 3]) rfl)) F_124 (si hprP (fun P => [26, 23]) (fun P => [2, 3, 4, 23, 24, 26, P, P + 1, P + 2, (P + 2) + 1, (P + 2) + 2, (P + 2) + 3]) rfl)) F_148 (si hprP (fun P => [P + 2, (P + 2) + 1, (P + 2) + 2, (P + 2) + 3]) (fun P => [2, 3, 4, 23, 24, 26, P, P + 1, P + 2, (P + 2) + 1, (P + 2) + 2, (P + 2) + 3]) rfl)) F_161 (si hprP (fun P => [P, P + 1]) (fun P => [2, 3, 4, 23, 24, 26, P, P + 1, P + 2, (P + 2) + 1, (P + 2) + 2, (P + 2) + 3]) rfl)), hI_162, htk_167, (by omega), (by omega), (by omega), (by omega), (fun h0 => (PXE.ex (hpx_166 h0)).e (by omega)), (((F_161.1 23 (ni hprP (fun P => 23) (fun P => [P, P + 1]) rfl) 2).trans ((F_148.1 23 (ni hprP (fun P => 23) (fun P => [P + 2, (P + 2) + 1, (P + 2) + 2, (P + 2) + 3]) rfl) 2).trans (hs_134.trans hi_55)))).trans hP, ((F_161.1 23 (ni hprP (fun P => 23) (fun P => [P, P + 1]) rfl) 5).trans ((F_148.1 23 (ni hprP (fun P => 23) (fun P => [P + 2, (P + 2) + 1, (P + 2) + 2, (P + 2) + 3]) rfl) 5).trans (hs_135.trans hi_56))), ((F_161.1 23 (ni hprP (fun P => 23) (fun P => [P, P + 1]) rfl) 6).trans ((F_148.1 23 (ni hprP (fun P => 23) (fun P => [P + 2, (P + 2) + 1, (P + 2) + 2, (P + 2) + 3]) rfl) 6).trans (hs_136.trans hi_57))), ((F_161.1 23 (ni hprP (fun P => 23) (fun P => [P, P + 1]) rfl) 7).trans ((F_148.1 23 (ni hprP (fun P => 23) (fun P => [P + 2, (P + 2) + 1, (P + 2) + 2, (P + 2) + 3]) rfl) 7).trans (hs_137.trans hi_58))), (((F_161.1 23 (ni hprP (fun P => 23) (fun P => [P, P + 1]) rfl) 8).trans ((F_148.1 23 (ni hprP (fun P => 23) (fun P => [P + 2, (P + 2) + 1, (P + 2) + 2, (P + 2) + 3]) rfl) 8).trans (hs_138.trans hi_59)))).trans htt, (by omega), ((F_161.1 23 (ni hprP (fun P => 23) (fun P => [P, P + 1]) rfl) 10).trans ((F_148.1 23 (ni hprP (fun P => 23) (fun P => [P + 2, (P + 2) + 1, (P + 2) + 2, (P + 2) + 3]) rfl) 10).trans (hs_139.trans hi_60))), ((F_161.1 26 (ni hprP (fun P => 26) (fun P => [P, P + 1]) rfl) 6).trans ((F_148.1 26 (ni hprP (fun P => 26) (fun P => [P + 2, (P + 2) + 1, (P + 2) + 2, (P + 2) + 3]) rfl) 6).trans (hs_130.trans hi_61))), (hs_165.trans ((F_148.1 P (ni hprP (fun P => P) (fun P => [P + 2, (P + 2) + 1, (P + 2) + 2, (P + 2) + 3]) rfl) 7).trans ((F_124.1 P (ni hprP (fun P => P) (fun P => [26, 23]) rfl) 7).trans hi_62)))⟩
        · refine lv_iload hx hb dX7_arguments_61 (lv_at hl 2 rfl) ?_
          refine lv_bipush (v := iv 8) hx hb dX7_arguments_63 rfl ?_
          refine xb_icmp_lt (tgt := 80) hx hb (by unfold ir; omega) (by unfold ir; omega) dX7_arguments_65 (by decide) (fun c_65 => ?_) (fun c_65 => ?_)
          · refine lv_aload_n hx hb dX7_arguments_80 rfl (lv_at hl 5 rfl) ?_
            refine lv_iconst (v := iv 0) hx hb dX7_arguments_81 rfl ?_
            have e_179 : μL36.1 23 2 = P := hi_55
            have e_180 : μL36.1 23 8 = tt := hi_59
            have hk_181 := hi_63.pr (p := P) hprP
            unfold pk at hk_181
            have hc_182 : 16 ≤ μL36.2.1 (P + 1) ∧ μL36.2.1 (P + 1) ≤ 73024 := hi_63.rm.1 _ hprP.cap
            have hn_183 : -1 ≤ μL36.1 26 10 ∧ μL36.1 26 10 ≤ 3000 := hi_63.nm.2.2.2.2.2.2.2.2.2.2.2.2
            have hk_184 := hi_63.row (r := P + 2) (hprP.row)
            unfold rk at hk_184
            refine xc_vV G (b := 23) (rest := []) (As := [.int (iv 0)]) (((fun (_ : Om) (_ : Launch) => hE)) ω l μL36 0 P tt (by omega) hi_63 (by omega) (by omega) hi_48 (by omega) (by omega) (by omega) (by omega) (by omega) (fun _ => Or.inl (by omega))) (wm 4 3 rfl rfl) (wm 4 5 rfl rfl) (wm 0 24 rfl rfl) rfl rfl (by decide) rfl (wm 1 12 rfl rfl) (wm 4 6 rfl rfl) (by decide) hR ⟨sfr (F := F) (a := 0) (by decide), slo (L := Lo) (m := 3) (a := 0) (by decide)⟩ (n := 1) rfl rfl (Nat.le_of_ble_eq_true rfl) hl.1 dX7_arguments_82 (fun μ185 ρ d0 H locs hp G => ?_)
            obtain ⟨F_186, hI_187, hp_188, hp_189, hp_190, hp_191, hp_192, hp_193, hs_194, hs_195, hs_196, hs_197, hs_198, hs_199, hs_200, hs_201, hs_202⟩ := hp
            have hn_203 : -1 ≤ μ185.1 26 10 ∧ μ185.1 26 10 ≤ 3000 := hI_187.nm.2.2.2.2.2.2.2.2.2.2.2.2
            have hk_204 := hI_187.pr (p := P) hprP
            unfold pk at hk_204
            have hc_205 : 16 ≤ μ185.2.1 (P + 1) ∧ μ185.2.1 (P + 1) ≤ 73024 := hI_187.rm.1 _ hprP.cap
            have hk_206 := hI_187.row (r := P + 2) (hprP.row)
            unfold rk at hk_206
            have htb_207 := hp_188.b
            have hpx_208 : μ185.1 26 11 = 0 → PXE μo μ185 P tt ((ee + c9) + (1 - 0)) f9 1 := fun h0 => (PXE.app (hi_54 (by have h9 : μL36.1 26 11 = μL36.1 26 11 := rfl; have h8 : μ185.1 26 11 = μ185.1 26 11 := rfl; omega)) (hp_193 h0)).e (by omega)
            refine lv_aload_n hx hb dX7_arguments_85 rfl (lv_at hl 5 rfl) ?_
            refine lv_iload hx hb dX7_arguments_86 (lv_at hl 3 rfl) ?_
            refine lv_iload hx hb dX7_arguments_88 (lv_at hl 4 rfl) ?_
            refine lv_iload hx hb dX7_arguments_90 (lv_at hl 2 rfl) ?_
            refine xb_iadd hx hb dX7_arguments_92 ?_
            have e_209 : μ185.1 23 2 = P := (hs_194.trans hi_55)
            have e_210 : μ185.1 23 8 = tt := (hs_198.trans hi_59)
            refine xc_iV G (b := 23) (rest := []) (As := [.int (iv f9), .int (iv (v_3 + c9))]) (c_X7_ifFails ω l μ185 f9 (v_3 + c9) μo ((ee + c9) + (1 - 0)) (1) P tt (by unfold ir; omega) (by unfold ir; omega) hI_187 (by omega) (by omega) (by omega) hpx_208 (by omega) (by omega)) (wm 4 23 rfl rfl) (wm 4 25 rfl rfl) (wm 0 29 rfl rfl) rfl rfl (by decide) rfl (wm 1 12 rfl rfl) (wm 4 26 rfl rfl) (by decide) hR ⟨nfr hF (by decide), nlo hLo (by decide)⟩ (n := 2) rfl rfl (Nat.le_of_ble_eq_true rfl) hl.1 dX7_arguments_93 (fun r_212 μ211 ρ d0 H locs hr_r_212 hp G => ?_)
            have hr_r_212 : -2147483648 ≤ r_212 ∧ r_212 ≤ 2147483647 := hr_r_212
            obtain ⟨F_213, hI_214, hp_215, hp_216, hs_217⟩ := hp
            have hk_218 := hI_214.pr (p := P) hprP
            unfold pk at hk_218
            have hc_219 : 16 ≤ μ211.2.1 (P + 1) ∧ μ211.2.1 (P + 1) ≤ 73024 := hI_214.rm.1 _ hprP.cap
            have hpx_220 : μ211.1 26 11 = 0 → PXE μo μ211 P tt ((ee + c9) + (1 - 0)) r_212 1 := fun h0 => hp_215 (by have h9 : μ185.1 26 11 = μ185.1 26 11 := rfl; have h8 : μ211.1 26 11 = μ185.1 26 11 := (F_213.1 26 (ni hprP (fun P => 26) (fun P => [P, P + 1]) rfl) 11); omega)
            clear hp_215
            refine lv_istore (lv' := [(7, .int (iv r_212)), (10, .int (iv i9)), (9, .int (iv m9)), (8, .int (iv c9)), (6, .int (iv v_3)), (0, .ref (oP ω 23)), (1, .int (iv x1)), (2, .int (iv x2)), (3, .long (jv x3)), (5, .int (iv x4))]) hx hb dX7_arguments_96 hl (by decide) rfl (fun ls hl => ?_)
            refine lv_iinc (v := iv (c9 + 1)) (lv' := [(8, .int (iv (c9 + 1))), (7, .int (iv r_212)), (10, .int (iv i9)), (9, .int (iv m9)), (6, .int (iv v_3)), (0, .ref (oP ω 23)), (1, .int (iv x1)), (2, .int (iv x2)), (3, .long (jv x3)), (5, .int (iv x4))]) hx hb dX7_arguments_98 hl (k := 3) rfl (by rw [show Int32.ofInt 1 = iv 1 from rfl, iv_add]) (by decide) rfl (fun ls hl => ?_)
            refine lv_aload_n hx hb dX7_arguments_101 rfl (lv_at hl 5 rfl) ?_
            refine lv_bipush (v := iv 44) hx hb dX7_arguments_102 rfl ?_
            have htk_221 : TK μ211 := hp_188.fr (K := [P, P + 1]) (Fr.tr Fr.rf F_213 (si hprP (fun P => [P, P + 1]) (fun P => [P, P + 1]) rfl)) (ni hprP (fun P => 26) (fun P => [P, P + 1]) rfl) (ni hprP (fun P => 28) (fun P => [P, P + 1]) rfl) (ni hprP (fun P => 29) (fun P => [P, P + 1]) rfl)
            have e_222 : μ211.1 26 10 = μ185.1 26 10 := (F_213.1 26 (ni hprP (fun P => 26) (fun P => [P, P + 1]) rfl) 10)
            have e_223 : μ211.1 26 11 = μ185.1 26 11 := (F_213.1 26 (ni hprP (fun P => 26) (fun P => [P, P + 1]) rfl) 11)
            refine xc_iV G (b := 23) (rest := []) (As := [.int (iv 44)]) (c_X7_took_b ω l μ211 44 (by unfold ir; omega) hI_214 htk_221 (by omega)) (wm 3 160 rfl rfl) (wm 3 162 rfl rfl) (wm 0 9 rfl rfl) rfl rfl (by decide) rfl (wm 1 12 rfl rfl) (wm 3 163 rfl rfl) (by decide) hR ⟨nfr hF (by decide), nlo hLo (by decide)⟩ (n := 1) rfl rfl (Nat.le_of_ble_eq_true rfl) hl.1 dX7_arguments_104 (fun r_225 μ224 ρ d0 H locs hr_r_225 hp G => ?_)
            have hr_r_225 : -2147483648 ≤ r_225 ∧ r_225 ≤ 2147483647 := hr_r_225
            obtain ⟨F_226, hI_227, hp_228, hp_229, hp_230, hs_231, hs_232, hs_233, hs_234, hs_235⟩ := hp
            have hn_236 : -1 ≤ μ224.1 26 10 ∧ μ224.1 26 10 ≤ 3000 := hI_227.nm.2.2.2.2.2.2.2.2.2.2.2.2
            have htb_237 := hp_228.b
            refine lv_istore (lv' := [(9, .int (iv r_225)), (8, .int (iv (c9 + 1))), (7, .int (iv r_212)), (10, .int (iv i9)), (6, .int (iv v_3)), (0, .ref (oP ω 23)), (1, .int (iv x1)), (2, .int (iv x2)), (3, .long (jv x3)), (5, .int (iv x4))]) hx hb dX7_arguments_107 hl (by decide) rfl (fun ls hl => ?_)
            refine lv_iinc (v := iv (i9 + 1)) (lv' := [(10, .int (iv (i9 + 1))), (9, .int (iv r_225)), (8, .int (iv (c9 + 1))), (7, .int (iv r_212)), (6, .int (iv v_3)), (0, .ref (oP ω 23)), (1, .int (iv x1)), (2, .int (iv x2)), (3, .long (jv x3)), (5, .int (iv x4))]) hx hb dX7_arguments_109 hl (k := 3) rfl (by rw [show Int32.ofInt 1 = iv 1 from rfl, iv_add]) (by decide) rfl (fun ls hl => ?_)
            refine lv_goto (tgt := 48) hx hb dX7_arguments_112 (by decide) ?_
            have e_238 : μ224.1 23 9 = μL36.1 23 9 := ((F_226.1 23 (by decide) 9).trans ((F_213.1 23 (ni hprP (fun P => 23) (fun P => [P, P + 1]) rfl) 9).trans hs_199))
            have e_239 : μ224.1 23 9 = μL36.1 23 9 := ((F_226.1 23 (by decide) 9).trans ((F_213.1 23 (ni hprP (fun P => 23) (fun P => [P, P + 1]) rfl) 9).trans hs_199))
            have e_240 : μ224.1 26 11 = μ185.1 26 11 := (hs_231.trans (F_213.1 26 (ni hprP (fun P => 26) (fun P => [P, P + 1]) rfl) 11))
            have e_241 : μ224.1 26 11 = μ185.1 26 11 := (hs_231.trans (F_213.1 26 (ni hprP (fun P => 26) (fun P => [P, P + 1]) rfl) 11))
            have e_242 : μ224.1 P 1 = μ211.1 P 1 := (F_226.1 P (ni hprP (fun P => P) (fun P => [26]) rfl) 1)
            have e_243 : μ224.1 P 1 = μ211.1 P 1 := (F_226.1 P (ni hprP (fun P => P) (fun P => [26]) rfl) 1)
            have e_244 : μ224.1 26 11 = μ185.1 26 11 := (hs_231.trans (F_213.1 26 (ni hprP (fun P => 26) (fun P => [P, P + 1]) rfl) 11))
            have e_245 : μ224.1 P 1 = μ211.1 P 1 := (F_226.1 P (ni hprP (fun P => P) (fun P => [26]) rfl) 1)
            have e_246 : μ224.1 (P + 2) 3 = μ185.1 (P + 2) 3 := ((F_226.1 (P + 2) (ni hprP (fun P => P + 2) (fun P => [26]) rfl) 3).trans (F_213.1 (P + 2) (ni hprP (fun P => P + 2) (fun P => [P, P + 1]) rfl) 3))
            have e_247 : μ224.1 P 1 = μ211.1 P 1 := (F_226.1 P (ni hprP (fun P => P) (fun P => [26]) rfl) 1)
            have e_248 : μ224.1 (P + 2) 3 = μ185.1 (P + 2) 3 := ((F_226.1 (P + 2) (ni hprP (fun P => P + 2) (fun P => [26]) rfl) 3).trans (F_213.1 (P + 2) (ni hprP (fun P => P + 2) (fun P => [P, P + 1]) rfl) 3))
            have hpx_249 : μ224.1 26 11 = 0 → PXE μo μ224 P tt ((ee + c9) + (1 - 0)) r_212 1 := fun h0 => (hpx_220 (by have h9 : μ211.1 26 11 = μ185.1 26 11 := (F_213.1 26 (ni hprP (fun P => 26) (fun P => [P, P + 1]) rfl) 11); have h8 : μ224.1 26 11 = μ185.1 26 11 := (hs_231.trans (F_213.1 26 (ni hprP (fun P => 26) (fun P => [P, P + 1]) rfl) 11)); omega)).fr (K := [26]) (Fr.tr Fr.rf F_226 (by decide)) (npL_p (L := [26]) (by decide) hprP).1 (npL_p (L := [26]) (by decide) hprP).2.1
            exact ih _ _ _ _ _ _ _ (by omega) ⟨r_212, c9 + 1, r_225, i9 + 1, (Fr.tr (Fr.tr (Fr.tr FL37 F_186 (si hprP (fun P => [2, 3, 4, 23, 24, 26, P, P + 1, P + 2, (P + 2) + 1, (P + 2) + 2, (P + 2) + 3]) (fun P => [2, 3, 4, 23, 24, 26, P, P + 1, P + 2, (P + 2) + 1, (P + 2) + 2, (P + 2) + 3]) rfl)) F_213 (si hprP (fun P => [P, P + 1]) (fun P => [2, 3, 4, 23, 24, 26, P, P + 1, P + 2, (P + 2) + 1, (P + 2) + 2, (P + 2) + 3]) rfl)) F_226 (si hprP (fun P => [26]) (fun P => [2, 3, 4, 23, 24, 26, P, P + 1, P + 2, (P + 2) + 1, (P + 2) + 2, (P + 2) + 3]) rfl)), (by omega), (by omega), (by omega), (by omega), (by omega), (by omega), (by omega), (by omega), (by omega), hp_228, (by omega), (by omega), (by omega), (by omega), (by omega), (fun h0 => (hpx_249 h0).e (by omega)), ((F_226.1 23 (by decide) 2).trans ((F_213.1 23 (ni hprP (fun P => 23) (fun P => [P, P + 1]) rfl) 2).trans (hs_194.trans hi_55))), ((F_226.1 23 (by decide) 5).trans ((F_213.1 23 (ni hprP (fun P => 23) (fun P => [P, P + 1]) rfl) 5).trans (hs_195.trans hi_56))), ((F_226.1 23 (by decide) 6).trans ((F_213.1 23 (ni hprP (fun P => 23) (fun P => [P, P + 1]) rfl) 6).trans (hs_196.trans hi_57))), ((F_226.1 23 (by decide) 7).trans ((F_213.1 23 (ni hprP (fun P => 23) (fun P => [P, P + 1]) rfl) 7).trans (hs_197.trans hi_58))), ((F_226.1 23 (by decide) 8).trans ((F_213.1 23 (ni hprP (fun P => 23) (fun P => [P, P + 1]) rfl) 8).trans (hs_198.trans hi_59))), ((F_226.1 23 (by decide) 10).trans ((F_213.1 23 (ni hprP (fun P => 23) (fun P => [P, P + 1]) rfl) 10).trans (hs_200.trans hi_60))), (hs_232.trans ((F_213.1 26 (ni hprP (fun P => 26) (fun P => [P, P + 1]) rfl) 6).trans (hs_201.trans hi_61))), ((F_226.1 P (ni hprP (fun P => P) (fun P => [26]) rfl) 7).trans (hs_217.trans (hs_202.trans hi_62))), hI_227, rfl, lv_sub hl [0, 1, 2, 3, 4, 5, 6, 7, 8, 9] rfl⟩ G
          · refine lv_aload_n hx hb dX7_arguments_68 rfl (lv_at hl 5 rfl) ?_
            refine lv_iconst (v := iv 2) hx hb dX7_arguments_69 rfl ?_
            refine lv_aload_n hx hb dX7_arguments_70 rfl (lv_at hl 5 rfl) ?_
            refine xa_getr G fd_X7 (a := 23) (x := 26) 0 rfl (by decide) rfl (wm 2 17 rfl rfl) ⟨rfl, rfl, rfl⟩ dX7_arguments_71 rfl (G.sk 23 rfl) (by decide) rfl ?_
            refine xa_getN G fd_X10 (host := "FourTongues") (a := 26) 13 rfl (by decide) (by decide) ⟨rfl, rfl, rfl⟩ dX7_arguments_74 rfl (v := .int (iv (μL36.1 26 13))) (by rw [show μL36.1 26 13 = μL36.1 26 13 from rfl]; rfl) ?_
            have hr_250 : -2147483648 ≤ μL36.1 26 13 ∧ μL36.1 26 13 ≤ 2147483647 := by have h9 := G.hr (a := 26) (k := 13) rfl; exact h9
            refine xc_vV G (b := 23) (rest := []) (As := [.int (iv 2), .int (iv (μL36.1 26 13))]) (c_X7_tellFault ω l μL36 2 (μL36.1 26 13) (by unfold ir; omega) (by unfold ir; omega) hi_63 (by omega)) (wm 3 177 rfl rfl) (wm 3 179 rfl rfl) (wm 0 12 rfl rfl) rfl rfl (by decide) rfl (wm 1 12 rfl rfl) (wm 3 180 rfl rfl) (by decide) hR ⟨nfr hF (by decide), nlo hLo (by decide)⟩ (n := 2) rfl rfl (Nat.le_of_ble_eq_true rfl) hl.1 dX7_arguments_77 (fun μ251 ρ d0 H locs hp G => ?_)
            obtain ⟨F_252, hI_253⟩ := hp
            refine lv_aload_n hx hb dX7_arguments_80 rfl (lv_at hl 5 rfl) ?_
            refine lv_iconst (v := iv 0) hx hb dX7_arguments_81 rfl ?_
            have hpx_254 : μ251.1 26 11 = 0 → PXE μo μ251 P tt (ee + c9) f9 1 := fun h0 => (hi_54 (by have h9 : μL36.1 26 11 = μL36.1 26 11 := rfl; have h8 : μ251.1 26 11 = μL36.1 26 11 := (F_252.1 26 (by decide) 11); omega)).fr (K := [24]) (Fr.tr Fr.rf F_252 (by decide)) (npL_p (L := [24]) (by decide) hprP).1 (npL_p (L := [24]) (by decide) hprP).2.1
            have e_255 : μ251.1 23 2 = P := ((F_252.1 23 (by decide) 2).trans hi_55)
            have e_256 : μ251.1 23 8 = tt := ((F_252.1 23 (by decide) 8).trans hi_59)
            have htk_257 : TK μ251 := hi_48.fr (K := [24]) (Fr.tr Fr.rf F_252 (by decide)) (by decide) (by decide) (by decide)
            have hk_258 := hi_63.pr (p := P) hprP
            unfold pk at hk_258
            have hc_259 : 16 ≤ μL36.2.1 (P + 1) ∧ μL36.2.1 (P + 1) ≤ 73024 := hi_63.rm.1 _ hprP.cap
            have e_260 : μ251.1 P 1 = μL36.1 P 1 := (F_252.1 P (ni hprP (fun P => P) (fun P => [24]) rfl) 1)
            have hn_261 : -1 ≤ μL36.1 26 10 ∧ μL36.1 26 10 ≤ 3000 := hi_63.nm.2.2.2.2.2.2.2.2.2.2.2.2
            have e_262 : μ251.1 26 10 = μL36.1 26 10 := (F_252.1 26 (by decide) 10)
            have e_263 : μ251.1 26 11 = μL36.1 26 11 := (F_252.1 26 (by decide) 11)
            have hk_264 := hi_63.row (r := P + 2) (hprP.row)
            unfold rk at hk_264
            have e_265 : μ251.1 (P + 2) 3 = μL36.1 (P + 2) 3 := (F_252.1 (P + 2) (ni hprP (fun P => P + 2) (fun P => [24]) rfl) 3)
            have e_266 : μ251.1 P 1 = μL36.1 P 1 := (F_252.1 P (ni hprP (fun P => P) (fun P => [24]) rfl) 1)
            have e_267 : μ251.1 23 9 = μL36.1 23 9 := (F_252.1 23 (by decide) 9)
            have e_268 : μ251.1 23 9 = μL36.1 23 9 := (F_252.1 23 (by decide) 9)
            have e_269 : μ251.1 26 11 = μL36.1 26 11 := (F_252.1 26 (by decide) 11)
            have e_270 : μ251.1 23 9 = μL36.1 23 9 := (F_252.1 23 (by decide) 9)
            have e_271 : μ251.1 26 11 = μL36.1 26 11 := (F_252.1 26 (by decide) 11)
            have e_272 : μ251.1 26 11 = μL36.1 26 11 := (F_252.1 26 (by decide) 11)
            have e_273 : μ251.1 26 10 = μL36.1 26 10 := (F_252.1 26 (by decide) 10)
            have e_274 : μ251.1 P 1 = μL36.1 P 1 := (F_252.1 P (ni hprP (fun P => P) (fun P => [24]) rfl) 1)
            have e_275 : μ251.1 P 1 = μL36.1 P 1 := (F_252.1 P (ni hprP (fun P => P) (fun P => [24]) rfl) 1)
            have e_276 : μ251.1 26 10 = μL36.1 26 10 := (F_252.1 26 (by decide) 10)
            have e_277 : μ251.1 26 11 = μL36.1 26 11 := (F_252.1 26 (by decide) 11)
            have e_278 : μ251.1 (P + 2) 3 = μL36.1 (P + 2) 3 := (F_252.1 (P + 2) (ni hprP (fun P => P + 2) (fun P => [24]) rfl) 3)
            have e_279 : μ251.1 P 1 = μL36.1 P 1 := (F_252.1 P (ni hprP (fun P => P) (fun P => [24]) rfl) 1)
            have e_280 : μ251.1 (P + 2) 3 = μL36.1 (P + 2) 3 := (F_252.1 (P + 2) (ni hprP (fun P => P + 2) (fun P => [24]) rfl) 3)
            refine xc_vV G (b := 23) (rest := []) (As := [.int (iv 0)]) (((fun (_ : Om) (_ : Launch) => hE)) ω l μ251 0 P tt (by omega) hI_253 (by omega) (by omega) htk_257 (by omega) (by omega) (by omega) (by omega) (by omega) (fun _ => Or.inl (by omega))) (wm 4 3 rfl rfl) (wm 4 5 rfl rfl) (wm 0 24 rfl rfl) rfl rfl (by decide) rfl (wm 1 12 rfl rfl) (wm 4 6 rfl rfl) (by decide) hR ⟨sfr (F := F) (a := 0) (by decide), slo (L := Lo) (m := 3) (a := 0) (by decide)⟩ (n := 1) rfl rfl (Nat.le_of_ble_eq_true rfl) hl.1 dX7_arguments_82 (fun μ281 ρ d0 H locs hp G => ?_)
            obtain ⟨F_282, hI_283, hp_284, hp_285, hp_286, hp_287, hp_288, hp_289, hs_290, hs_291, hs_292, hs_293, hs_294, hs_295, hs_296, hs_297, hs_298⟩ := hp
            have hn_299 : -1 ≤ μ281.1 26 10 ∧ μ281.1 26 10 ≤ 3000 := hI_283.nm.2.2.2.2.2.2.2.2.2.2.2.2
            have hk_300 := hI_283.pr (p := P) hprP
            unfold pk at hk_300
            have hc_301 : 16 ≤ μ281.2.1 (P + 1) ∧ μ281.2.1 (P + 1) ≤ 73024 := hI_283.rm.1 _ hprP.cap
            have hk_302 := hI_283.row (r := P + 2) (hprP.row)
            unfold rk at hk_302
            have htb_303 := hp_284.b
            have hpx_304 : μ281.1 26 11 = 0 → PXE μo μ281 P tt ((ee + c9) + (1 - 0)) f9 1 := fun h0 => (PXE.app (hpx_254 (by have h9 : μ251.1 26 11 = μL36.1 26 11 := (F_252.1 26 (by decide) 11); have h8 : μ281.1 26 11 = μ281.1 26 11 := rfl; omega)) (hp_289 h0)).e (by omega)
            refine lv_aload_n hx hb dX7_arguments_85 rfl (lv_at hl 5 rfl) ?_
            refine lv_iload hx hb dX7_arguments_86 (lv_at hl 3 rfl) ?_
            refine lv_iload hx hb dX7_arguments_88 (lv_at hl 4 rfl) ?_
            refine lv_iload hx hb dX7_arguments_90 (lv_at hl 2 rfl) ?_
            refine xb_iadd hx hb dX7_arguments_92 ?_
            have e_305 : μ281.1 23 2 = P := (hs_290.trans ((F_252.1 23 (by decide) 2).trans hi_55))
            have e_306 : μ281.1 23 8 = tt := (hs_294.trans ((F_252.1 23 (by decide) 8).trans hi_59))
            refine xc_iV G (b := 23) (rest := []) (As := [.int (iv f9), .int (iv (v_3 + c9))]) (c_X7_ifFails ω l μ281 f9 (v_3 + c9) μo ((ee + c9) + (1 - 0)) (1) P tt (by unfold ir; omega) (by unfold ir; omega) hI_283 (by omega) (by omega) (by omega) hpx_304 (by omega) (by omega)) (wm 4 23 rfl rfl) (wm 4 25 rfl rfl) (wm 0 29 rfl rfl) rfl rfl (by decide) rfl (wm 1 12 rfl rfl) (wm 4 26 rfl rfl) (by decide) hR ⟨nfr hF (by decide), nlo hLo (by decide)⟩ (n := 2) rfl rfl (Nat.le_of_ble_eq_true rfl) hl.1 dX7_arguments_93 (fun r_308 μ307 ρ d0 H locs hr_r_308 hp G => ?_)
            have hr_r_308 : -2147483648 ≤ r_308 ∧ r_308 ≤ 2147483647 := hr_r_308
            obtain ⟨F_309, hI_310, hp_311, hp_312, hs_313⟩ := hp
            have hk_314 := hI_310.pr (p := P) hprP
            unfold pk at hk_314
            have hc_315 : 16 ≤ μ307.2.1 (P + 1) ∧ μ307.2.1 (P + 1) ≤ 73024 := hI_310.rm.1 _ hprP.cap
            have hpx_316 : μ307.1 26 11 = 0 → PXE μo μ307 P tt ((ee + c9) + (1 - 0)) r_308 1 := fun h0 => hp_311 (by have h9 : μ281.1 26 11 = μ281.1 26 11 := rfl; have h8 : μ307.1 26 11 = μ281.1 26 11 := (F_309.1 26 (ni hprP (fun P => 26) (fun P => [P, P + 1]) rfl) 11); omega)
            clear hp_311
            refine lv_istore (lv' := [(7, .int (iv r_308)), (10, .int (iv i9)), (9, .int (iv m9)), (8, .int (iv c9)), (6, .int (iv v_3)), (0, .ref (oP ω 23)), (1, .int (iv x1)), (2, .int (iv x2)), (3, .long (jv x3)), (5, .int (iv x4))]) hx hb dX7_arguments_96 hl (by decide) rfl (fun ls hl => ?_)
            refine lv_iinc (v := iv (c9 + 1)) (lv' := [(8, .int (iv (c9 + 1))), (7, .int (iv r_308)), (10, .int (iv i9)), (9, .int (iv m9)), (6, .int (iv v_3)), (0, .ref (oP ω 23)), (1, .int (iv x1)), (2, .int (iv x2)), (3, .long (jv x3)), (5, .int (iv x4))]) hx hb dX7_arguments_98 hl (k := 3) rfl (by rw [show Int32.ofInt 1 = iv 1 from rfl, iv_add]) (by decide) rfl (fun ls hl => ?_)
            refine lv_aload_n hx hb dX7_arguments_101 rfl (lv_at hl 5 rfl) ?_
            refine lv_bipush (v := iv 44) hx hb dX7_arguments_102 rfl ?_
            have htk_317 : TK μ307 := hp_284.fr (K := [P, P + 1]) (Fr.tr Fr.rf F_309 (si hprP (fun P => [P, P + 1]) (fun P => [P, P + 1]) rfl)) (ni hprP (fun P => 26) (fun P => [P, P + 1]) rfl) (ni hprP (fun P => 28) (fun P => [P, P + 1]) rfl) (ni hprP (fun P => 29) (fun P => [P, P + 1]) rfl)
            have e_318 : μ307.1 26 10 = μ281.1 26 10 := (F_309.1 26 (ni hprP (fun P => 26) (fun P => [P, P + 1]) rfl) 10)
            have e_319 : μ307.1 26 11 = μ281.1 26 11 := (F_309.1 26 (ni hprP (fun P => 26) (fun P => [P, P + 1]) rfl) 11)
            refine xc_iV G (b := 23) (rest := []) (As := [.int (iv 44)]) (c_X7_took_b ω l μ307 44 (by unfold ir; omega) hI_310 htk_317 (by omega)) (wm 3 160 rfl rfl) (wm 3 162 rfl rfl) (wm 0 9 rfl rfl) rfl rfl (by decide) rfl (wm 1 12 rfl rfl) (wm 3 163 rfl rfl) (by decide) hR ⟨nfr hF (by decide), nlo hLo (by decide)⟩ (n := 1) rfl rfl (Nat.le_of_ble_eq_true rfl) hl.1 dX7_arguments_104 (fun r_321 μ320 ρ d0 H locs hr_r_321 hp G => ?_)
            have hr_r_321 : -2147483648 ≤ r_321 ∧ r_321 ≤ 2147483647 := hr_r_321
            obtain ⟨F_322, hI_323, hp_324, hp_325, hp_326, hs_327, hs_328, hs_329, hs_330, hs_331⟩ := hp
            have hn_332 : -1 ≤ μ320.1 26 10 ∧ μ320.1 26 10 ≤ 3000 := hI_323.nm.2.2.2.2.2.2.2.2.2.2.2.2
            have htb_333 := hp_324.b
            refine lv_istore (lv' := [(9, .int (iv r_321)), (8, .int (iv (c9 + 1))), (7, .int (iv r_308)), (10, .int (iv i9)), (6, .int (iv v_3)), (0, .ref (oP ω 23)), (1, .int (iv x1)), (2, .int (iv x2)), (3, .long (jv x3)), (5, .int (iv x4))]) hx hb dX7_arguments_107 hl (by decide) rfl (fun ls hl => ?_)
            refine lv_iinc (v := iv (i9 + 1)) (lv' := [(10, .int (iv (i9 + 1))), (9, .int (iv r_321)), (8, .int (iv (c9 + 1))), (7, .int (iv r_308)), (6, .int (iv v_3)), (0, .ref (oP ω 23)), (1, .int (iv x1)), (2, .int (iv x2)), (3, .long (jv x3)), (5, .int (iv x4))]) hx hb dX7_arguments_109 hl (k := 3) rfl (by rw [show Int32.ofInt 1 = iv 1 from rfl, iv_add]) (by decide) rfl (fun ls hl => ?_)
            refine lv_goto (tgt := 48) hx hb dX7_arguments_112 (by decide) ?_
            have e_334 : μ320.1 23 9 = μL36.1 23 9 := ((F_322.1 23 (by decide) 9).trans ((F_309.1 23 (ni hprP (fun P => 23) (fun P => [P, P + 1]) rfl) 9).trans (hs_295.trans (F_252.1 23 (by decide) 9))))
            have e_335 : μ320.1 23 9 = μL36.1 23 9 := ((F_322.1 23 (by decide) 9).trans ((F_309.1 23 (ni hprP (fun P => 23) (fun P => [P, P + 1]) rfl) 9).trans (hs_295.trans (F_252.1 23 (by decide) 9))))
            have e_336 : μ320.1 26 11 = μ281.1 26 11 := (hs_327.trans (F_309.1 26 (ni hprP (fun P => 26) (fun P => [P, P + 1]) rfl) 11))
            have e_337 : μ320.1 26 11 = μ281.1 26 11 := (hs_327.trans (F_309.1 26 (ni hprP (fun P => 26) (fun P => [P, P + 1]) rfl) 11))
            have e_338 : μ320.1 P 1 = μ307.1 P 1 := (F_322.1 P (ni hprP (fun P => P) (fun P => [26]) rfl) 1)
            have e_339 : μ320.1 P 1 = μ307.1 P 1 := (F_322.1 P (ni hprP (fun P => P) (fun P => [26]) rfl) 1)
            have e_340 : μ320.1 26 11 = μ281.1 26 11 := (hs_327.trans (F_309.1 26 (ni hprP (fun P => 26) (fun P => [P, P + 1]) rfl) 11))
            have e_341 : μ320.1 P 1 = μ307.1 P 1 := (F_322.1 P (ni hprP (fun P => P) (fun P => [26]) rfl) 1)
            have e_342 : μ320.1 (P + 2) 3 = μ281.1 (P + 2) 3 := ((F_322.1 (P + 2) (ni hprP (fun P => P + 2) (fun P => [26]) rfl) 3).trans (F_309.1 (P + 2) (ni hprP (fun P => P + 2) (fun P => [P, P + 1]) rfl) 3))
            have e_343 : μ320.1 P 1 = μ307.1 P 1 := (F_322.1 P (ni hprP (fun P => P) (fun P => [26]) rfl) 1)
            have e_344 : μ320.1 (P + 2) 3 = μ281.1 (P + 2) 3 := ((F_322.1 (P + 2) (ni hprP (fun P => P + 2) (fun P => [26]) rfl) 3).trans (F_309.1 (P + 2) (ni hprP (fun P => P + 2) (fun P => [P, P + 1]) rfl) 3))
            have hpx_345 : μ320.1 26 11 = 0 → PXE μo μ320 P tt ((ee + c9) + (1 - 0)) r_308 1 := fun h0 => (hpx_316 (by have h9 : μ307.1 26 11 = μ281.1 26 11 := (F_309.1 26 (ni hprP (fun P => 26) (fun P => [P, P + 1]) rfl) 11); have h8 : μ320.1 26 11 = μ281.1 26 11 := (hs_327.trans (F_309.1 26 (ni hprP (fun P => 26) (fun P => [P, P + 1]) rfl) 11)); omega)).fr (K := [26]) (Fr.tr Fr.rf F_322 (by decide)) (npL_p (L := [26]) (by decide) hprP).1 (npL_p (L := [26]) (by decide) hprP).2.1
            exact ih _ _ _ _ _ _ _ (by omega) ⟨r_308, c9 + 1, r_321, i9 + 1, (Fr.tr (Fr.tr (Fr.tr (Fr.tr FL37 F_252 (si hprP (fun P => [24]) (fun P => [2, 3, 4, 23, 24, 26, P, P + 1, P + 2, (P + 2) + 1, (P + 2) + 2, (P + 2) + 3]) rfl)) F_282 (si hprP (fun P => [2, 3, 4, 23, 24, 26, P, P + 1, P + 2, (P + 2) + 1, (P + 2) + 2, (P + 2) + 3]) (fun P => [2, 3, 4, 23, 24, 26, P, P + 1, P + 2, (P + 2) + 1, (P + 2) + 2, (P + 2) + 3]) rfl)) F_309 (si hprP (fun P => [P, P + 1]) (fun P => [2, 3, 4, 23, 24, 26, P, P + 1, P + 2, (P + 2) + 1, (P + 2) + 2, (P + 2) + 3]) rfl)) F_322 (si hprP (fun P => [26]) (fun P => [2, 3, 4, 23, 24, 26, P, P + 1, P + 2, (P + 2) + 1, (P + 2) + 2, (P + 2) + 3]) rfl)), (by omega), (by omega), (by omega), (by omega), (by omega), (by omega), (by omega), (by omega), (by omega), hp_324, (by omega), (by omega), (by omega), (by omega), (by omega), (fun h0 => (hpx_345 h0).e (by omega)), ((F_322.1 23 (by decide) 2).trans ((F_309.1 23 (ni hprP (fun P => 23) (fun P => [P, P + 1]) rfl) 2).trans (hs_290.trans ((F_252.1 23 (by decide) 2).trans hi_55)))), ((F_322.1 23 (by decide) 5).trans ((F_309.1 23 (ni hprP (fun P => 23) (fun P => [P, P + 1]) rfl) 5).trans (hs_291.trans ((F_252.1 23 (by decide) 5).trans hi_56)))), ((F_322.1 23 (by decide) 6).trans ((F_309.1 23 (ni hprP (fun P => 23) (fun P => [P, P + 1]) rfl) 6).trans (hs_292.trans ((F_252.1 23 (by decide) 6).trans hi_57)))), ((F_322.1 23 (by decide) 7).trans ((F_309.1 23 (ni hprP (fun P => 23) (fun P => [P, P + 1]) rfl) 7).trans (hs_293.trans ((F_252.1 23 (by decide) 7).trans hi_58)))), ((F_322.1 23 (by decide) 8).trans ((F_309.1 23 (ni hprP (fun P => 23) (fun P => [P, P + 1]) rfl) 8).trans (hs_294.trans ((F_252.1 23 (by decide) 8).trans hi_59)))), ((F_322.1 23 (by decide) 10).trans ((F_309.1 23 (ni hprP (fun P => 23) (fun P => [P, P + 1]) rfl) 10).trans (hs_296.trans ((F_252.1 23 (by decide) 10).trans hi_60)))), (hs_328.trans ((F_309.1 26 (ni hprP (fun P => 26) (fun P => [P, P + 1]) rfl) 6).trans (hs_297.trans ((F_252.1 26 (by decide) 6).trans hi_61)))), ((F_322.1 P (ni hprP (fun P => P) (fun P => [26]) rfl) 7).trans (hs_313.trans (hs_298.trans ((F_252.1 P (ni hprP (fun P => P) (fun P => [24]) rfl) 7).trans hi_62)))), hI_323, rfl, lv_sub hl [0, 1, 2, 3, 4, 5, 6, 7, 8, 9] rfl⟩ G
    · skip
      refine lv_aload_n hx hb dX7_arguments_26 rfl (lv_at hl 3 rfl) ?_
      refine xa_getr G fd_X7 (a := 23) (x := 26) 0 rfl (by decide) rfl (wm 2 17 rfl rfl) ⟨rfl, rfl, rfl⟩ dX7_arguments_27 rfl (G.sk 23 rfl) (by decide) rfl ?_
      refine xa_getN G fd_X10 (host := "FourTongues") (a := 26) 12 rfl (by decide) (by decide) ⟨rfl, rfl, rfl⟩ dX7_arguments_30 rfl (v := .int (iv (μ5.1 26 12))) (by rw [show μ5.1 26 12 = μ5.1 26 12 from rfl]; rfl) ?_
      have hr_346 : -2147483648 ≤ μ5.1 26 12 ∧ μ5.1 26 12 ≤ 2147483647 := by have h9 := G.hr (a := 26) (k := 12) rfl; exact h9
      refine lv_bipush (v := iv 41) hx hb dX7_arguments_33 rfl ?_
      refine xb_icmp_eq (tgt := 42) hx hb (by unfold ir; omega) (by unfold ir; omega) dX7_arguments_35 (by decide) (fun c_35 => ?_) (fun c_35 => ?_)
      · refine lv_iconst (v := iv 0) hx hb dX7_arguments_42 rfl ?_
        exact kont_43 0 (by omega)
      · refine lv_iconst (v := iv 1) hx hb dX7_arguments_38 rfl ?_
        refine lv_goto (tgt := 43) hx hb dX7_arguments_39 (by decide) ?_
        exact kont_43 1 (by omega)
  · skip
    refine lv_iload_n hx hb dX7_arguments_0 rfl (lv_at hl 1 rfl) ?_
    refine lv_bipush (v := iv 14) hx hb dX7_arguments_1 rfl ?_
    refine xb_icmp_ne (tgt := 10) hx hb (by unfold ir; omega) (by unfold ir; omega) dX7_arguments_3 (by decide) (fun c_3 => ?_) (fun c_3 => ?_)
    · refine lv_iconst (v := iv 0) hx hb dX7_arguments_10 rfl ?_
      exact kont_11 0 (by omega)
    · refine lv_iconst (v := iv 1) hx hb dX7_arguments_6 rfl ?_
      refine lv_goto (tgt := 11) hx hb dX7_arguments_7 (by decide) ?_
      exact kont_11 1 (by omega)
