abbrev cX7_arguments : ByteArray := prog_9_method_54_code
def yX7_arguments : MethodName := ⟨RX7, "arguments", "(IIJI)V"⟩
theorem dX7_arguments_0 : decode cX7_arguments 0 = .ok (.iload_n 1, 1) := by decide +kernel
theorem dX7_arguments_1 : decode cX7_arguments 1 = .ok (.bipush 14, 2) := by decide +kernel
theorem dX7_arguments_3 : decode cX7_arguments 3 = .ok (.if_icmp .ne 7, 3) := by decide +kernel
theorem dX7_arguments_6 : decode cX7_arguments 6 = .ok (.iconst 1, 1) := by decide +kernel
theorem dX7_arguments_7 : decode cX7_arguments 7 = .ok (.goto 4, 3) := by decide +kernel
theorem dX7_arguments_10 : decode cX7_arguments 10 = .ok (.iconst 0, 1) := by decide +kernel
theorem dX7_arguments_11 : decode cX7_arguments 11 = .ok (.istore 6, 2) := by decide +kernel
theorem dX7_arguments_13 : decode cX7_arguments 13 = .ok (.iload 5, 2) := by decide +kernel
theorem dX7_arguments_15 : decode cX7_arguments 15 = .ok (.istore 7, 2) := by decide +kernel
theorem dX7_arguments_17 : decode cX7_arguments 17 = .ok (.iconst 0, 1) := by decide +kernel
theorem dX7_arguments_18 : decode cX7_arguments 18 = .ok (.istore 8, 2) := by decide +kernel
theorem dX7_arguments_20 : decode cX7_arguments 20 = .ok (.aload_n 0, 1) := by decide +kernel
theorem dX7_arguments_21 : decode cX7_arguments 21 = .ok (.bipush 40, 2) := by decide +kernel
theorem dX7_arguments_23 : decode cX7_arguments 23 = .ok (.invokevirtual 164, 3) := by decide +kernel
theorem dX7_arguments_26 : decode cX7_arguments 26 = .ok (.aload_n 0, 1) := by decide +kernel
theorem dX7_arguments_27 : decode cX7_arguments 27 = .ok (.getfield 43, 3) := by decide +kernel
theorem dX7_arguments_30 : decode cX7_arguments 30 = .ok (.getfield 80, 3) := by decide +kernel
theorem dX7_arguments_33 : decode cX7_arguments 33 = .ok (.bipush 41, 2) := by decide +kernel
theorem dX7_arguments_35 : decode cX7_arguments 35 = .ok (.if_icmp .eq 7, 3) := by decide +kernel
theorem dX7_arguments_38 : decode cX7_arguments 38 = .ok (.iconst 1, 1) := by decide +kernel
theorem dX7_arguments_39 : decode cX7_arguments 39 = .ok (.goto 4, 3) := by decide +kernel
theorem dX7_arguments_42 : decode cX7_arguments 42 = .ok (.iconst 0, 1) := by decide +kernel
theorem dX7_arguments_43 : decode cX7_arguments 43 = .ok (.istore 9, 2) := by decide +kernel
theorem dX7_arguments_45 : decode cX7_arguments 45 = .ok (.iconst 0, 1) := by decide +kernel
theorem dX7_arguments_46 : decode cX7_arguments 46 = .ok (.istore 10, 2) := by decide +kernel
theorem dX7_arguments_48 : decode cX7_arguments 48 = .ok (.iload 10, 2) := by decide +kernel
theorem dX7_arguments_50 : decode cX7_arguments 50 = .ok (.sipush 3000, 3) := by decide +kernel
theorem dX7_arguments_53 : decode cX7_arguments 53 = .ok (.if_icmp .ge 62, 3) := by decide +kernel
theorem dX7_arguments_56 : decode cX7_arguments 56 = .ok (.iload 9, 2) := by decide +kernel
theorem dX7_arguments_58 : decode cX7_arguments 58 = .ok (.ifCond .eq 57, 3) := by decide +kernel
theorem dX7_arguments_61 : decode cX7_arguments 61 = .ok (.iload 8, 2) := by decide +kernel
theorem dX7_arguments_63 : decode cX7_arguments 63 = .ok (.bipush 8, 2) := by decide +kernel
theorem dX7_arguments_65 : decode cX7_arguments 65 = .ok (.if_icmp .lt 15, 3) := by decide +kernel
theorem dX7_arguments_68 : decode cX7_arguments 68 = .ok (.aload_n 0, 1) := by decide +kernel
theorem dX7_arguments_69 : decode cX7_arguments 69 = .ok (.iconst 2, 1) := by decide +kernel
theorem dX7_arguments_70 : decode cX7_arguments 70 = .ok (.aload_n 0, 1) := by decide +kernel
theorem dX7_arguments_71 : decode cX7_arguments 71 = .ok (.getfield 43, 3) := by decide +kernel
theorem dX7_arguments_74 : decode cX7_arguments 74 = .ok (.getfield 96, 3) := by decide +kernel
theorem dX7_arguments_77 : decode cX7_arguments 77 = .ok (.invokevirtual 127, 3) := by decide +kernel
theorem dX7_arguments_80 : decode cX7_arguments 80 = .ok (.aload_n 0, 1) := by decide +kernel
theorem dX7_arguments_81 : decode cX7_arguments 81 = .ok (.iconst 0, 1) := by decide +kernel
theorem dX7_arguments_82 : decode cX7_arguments 82 = .ok (.invokevirtual 216, 3) := by decide +kernel
theorem dX7_arguments_85 : decode cX7_arguments 85 = .ok (.aload_n 0, 1) := by decide +kernel
theorem dX7_arguments_86 : decode cX7_arguments 86 = .ok (.iload 7, 2) := by decide +kernel
theorem dX7_arguments_88 : decode cX7_arguments 88 = .ok (.iload 6, 2) := by decide +kernel
theorem dX7_arguments_90 : decode cX7_arguments 90 = .ok (.iload 8, 2) := by decide +kernel
theorem dX7_arguments_92 : decode cX7_arguments 92 = .ok (.iadd, 1) := by decide +kernel
theorem dX7_arguments_93 : decode cX7_arguments 93 = .ok (.invokevirtual 273, 3) := by decide +kernel
theorem dX7_arguments_96 : decode cX7_arguments 96 = .ok (.istore 7, 2) := by decide +kernel
theorem dX7_arguments_98 : decode cX7_arguments 98 = .ok (.iinc 8 1, 3) := by decide +kernel
theorem dX7_arguments_101 : decode cX7_arguments 101 = .ok (.aload_n 0, 1) := by decide +kernel
theorem dX7_arguments_102 : decode cX7_arguments 102 = .ok (.bipush 44, 2) := by decide +kernel
theorem dX7_arguments_104 : decode cX7_arguments 104 = .ok (.invokevirtual 83, 3) := by decide +kernel
theorem dX7_arguments_107 : decode cX7_arguments 107 = .ok (.istore 9, 2) := by decide +kernel
theorem dX7_arguments_109 : decode cX7_arguments 109 = .ok (.iinc 10 1, 3) := by decide +kernel
theorem dX7_arguments_112 : decode cX7_arguments 112 = .ok (.goto (-64), 3) := by decide +kernel
theorem dX7_arguments_115 : decode cX7_arguments 115 = .ok (.aload_n 0, 1) := by decide +kernel
theorem dX7_arguments_116 : decode cX7_arguments 116 = .ok (.bipush 41, 2) := by decide +kernel
theorem dX7_arguments_118 : decode cX7_arguments 118 = .ok (.invokevirtual 170, 3) := by decide +kernel
theorem dX7_arguments_121 : decode cX7_arguments 121 = .ok (.aload_n 0, 1) := by decide +kernel
theorem dX7_arguments_122 : decode cX7_arguments 122 = .ok (.getfield 51, 3) := by decide +kernel
theorem dX7_arguments_125 : decode cX7_arguments 125 = .ok (.iconst 0, 1) := by decide +kernel
theorem dX7_arguments_126 : decode cX7_arguments 126 = .ok (.lload_n 3, 1) := by decide +kernel
theorem dX7_arguments_127 : decode cX7_arguments 127 = .ok (.dconst 0, 1) := by decide +kernel
theorem dX7_arguments_128 : decode cX7_arguments 128 = .ok (.invokevirtual 310, 3) := by decide +kernel
theorem dX7_arguments_131 : decode cX7_arguments 131 = .ok (.istore 10, 2) := by decide +kernel
theorem dX7_arguments_133 : decode cX7_arguments 133 = .ok (.aload_n 0, 1) := by decide +kernel
theorem dX7_arguments_134 : decode cX7_arguments 134 = .ok (.iload_n 1, 1) := by decide +kernel
theorem dX7_arguments_135 : decode cX7_arguments 135 = .ok (.iload 8, 2) := by decide +kernel
theorem dX7_arguments_137 : decode cX7_arguments 137 = .ok (.iconst 4, 1) := by decide +kernel
theorem dX7_arguments_138 : decode cX7_arguments 138 = .ok (.imul, 1) := by decide +kernel
theorem dX7_arguments_139 : decode cX7_arguments 139 = .ok (.iload_n 2, 1) := by decide +kernel
theorem dX7_arguments_140 : decode cX7_arguments 140 = .ok (.iadd, 1) := by decide +kernel
theorem dX7_arguments_141 : decode cX7_arguments 141 = .ok (.iload 10, 2) := by decide +kernel
theorem dX7_arguments_143 : decode cX7_arguments 143 = .ok (.iload 7, 2) := by decide +kernel
theorem dX7_arguments_145 : decode cX7_arguments 145 = .ok (.invokevirtual 230, 3) := by decide +kernel
theorem dX7_arguments_148 : decode cX7_arguments 148 = .ok (.return_, 1) := by decide +kernel
theorem ef13 {c x : Int} (h : 0 ≤ c) (hx : 0 ≤ x ∧ x ≤ 3) : eff 13 (c * 4 + x) = 1 - c := by
  show 1 - (c * 4 + x).tdiv 4 = 1 - c
  rw [Int.tdiv_eq_ediv_of_nonneg (by omega)]
  omega
theorem ef14 {c x : Int} (h : 0 ≤ c) (hx : 0 ≤ x ∧ x ≤ 3) : eff 14 (c * 4 + x) = - c := by
  show - (c * 4 + x).tdiv 4 = - c
  rw [Int.tdiv_eq_ediv_of_nonneg (by omega)]
  omega
set_option maxHeartbeats 4000000 in
set_option maxRecDepth 100000 in
theorem c_X7_arguments (ω : Om) (l : Launch) (μ : M3) (x1 : Int) (x2 : Int) (x3 : Int) (x4 : Int) (F : Nat) (Lo : Nat) (kf : Int) (μo : M3) (ee : Int) (ww : Int) (P : Int) (tt : Int) (hx1 : ir x1) (hx2 : ir x2) (hx3 : jr x3) (hx4 : ir x4) (hI : IC μ) (hP : P = μ.1 23 2) (htt : tt = μ.1 23 8) (hF : 60 ≤ F) (hLo : 2000 ≤ Lo) (hE : ∀ (μ : M3) (x1 : Int) (P : Int) (tt : Int) (hx1 : x1 = 0 ∨ x1 = 1) (hI : IC μ) (hP : P = μ.1 23 2) (htt : tt = μ.1 23 8) (hTK : TK μ) (hB : μ.1 P 1 ≤ 2 * μ.1 26 10 + 100 + 40 * μ.1 26 11) (hKc : μ.1 (P + 2) 3 ≤ μ.1 P 1) (ht3 : 0 ≤ tt ∧ tt ≤ 3) (hdp : 0 ≤ μ.1 23 9 ∧ μ.1 23 9 ≤ 8 + μ.1 26 11) (hfu : 0 ≤ (kf - 1) ∧ 9 ≤ μ.1 23 9 + (kf - 1) + 20 * μ.1 26 11) (hbg : ∀ _ : Unit, x1 = 0 ∨ μ.1 26 11 ≠ 0 ∨ 2 ≤ hs μ P (μ.1 P 1)), CtV ω l yX7_expression cX7_expression 3 (F + 0) (Lo + 0) [.ref (oP ω 23), .int (iv x1)] μ (fun (μ' : M3) => (Fr [2, 3, 4, 23, 24, 26, P, P + 1, P + 2, (P + 2) + 1, (P + 2) + 2, (P + 2) + 3] μ μ') ∧ (IC μ') ∧ (TK μ') ∧ (μ.1 26 11 ≤ μ'.1 26 11) ∧ (μ.1 26 10 ≤ μ'.1 26 10) ∧ (μ.1 P 1 ≤ μ'.1 P 1 ∧ μ'.1 P 1 ≤ μ.1 P 1 + 2 * (μ'.1 26 10 - μ.1 26 10) + (- 1 + 3 * μ'.1 26 11 - 2 * μ.1 26 11 + x1)) ∧ (μ'.1 (P + 2) 3 - μ.1 (P + 2) 3 ≤ μ'.1 P 1 - μ.1 P 1 ∧ μ.1 (P + 2) 3 ≤ μ'.1 (P + 2) 3) ∧ (μ'.1 26 11 = 0 → EX μ μ' P tt (1 - x1) 0) ∧ (μ'.1 23 2 = μ.1 23 2) ∧ (μ'.1 23 5 = μ.1 23 5) ∧ (μ'.1 23 6 = μ.1 23 6) ∧ (μ'.1 23 7 = μ.1 23 7) ∧ (μ'.1 23 8 = μ.1 23 8) ∧ (μ'.1 23 9 = μ.1 23 9) ∧ (μ'.1 23 10 = μ.1 23 10) ∧ (μ'.1 26 6 = μ.1 26 6) ∧ (μ'.1 P 7 = μ.1 P 7))) (hU : ∀ (μ : M3) (x1 : Int) (P : Int) (tt : Int) (hx1 : x1 = 0 ∨ x1 = 1) (hI : IC μ) (hP : P = μ.1 23 2) (htt : tt = μ.1 23 8) (hTK : TK μ) (hB : μ.1 P 1 ≤ 2 * μ.1 26 10 + 100 + 40 * μ.1 26 11) (hKc : μ.1 (P + 2) 3 ≤ μ.1 P 1) (ht3 : 0 ≤ tt ∧ tt ≤ 3) (hdp : 0 ≤ μ.1 23 9 ∧ μ.1 23 9 ≤ 8 + μ.1 26 11) (hfu : 0 ≤ (kf - 1) ∧ 9 ≤ μ.1 23 9 + (kf - 1) + 20 * μ.1 26 11) (hbg : ∀ _ : Unit, x1 = 0 ∨ μ.1 26 11 ≠ 0 ∨ 2 ≤ hs μ P (μ.1 P 1)), CtV ω l yX7_unary cX7_unary 2 (F + 0) (Lo + 0) [.ref (oP ω 23), .int (iv x1)] μ (fun (μ' : M3) => (Fr [2, 3, 4, 23, 24, 26, P, P + 1, P + 2, (P + 2) + 1, (P + 2) + 2, (P + 2) + 3] μ μ') ∧ (IC μ') ∧ (TK μ') ∧ (μ.1 26 11 ≤ μ'.1 26 11) ∧ (μ.1 26 10 ≤ μ'.1 26 10) ∧ (μ.1 P 1 ≤ μ'.1 P 1 ∧ μ'.1 P 1 ≤ μ.1 P 1 + 2 * (μ'.1 26 10 - μ.1 26 10) + (- 1 + 3 * μ'.1 26 11 - 2 * μ.1 26 11 + x1)) ∧ (μ'.1 (P + 2) 3 - μ.1 (P + 2) 3 ≤ μ'.1 P 1 - μ.1 P 1 ∧ μ.1 (P + 2) 3 ≤ μ'.1 (P + 2) 3) ∧ (μ'.1 26 11 = 0 → EX μ μ' P tt (1 - x1) 0) ∧ (μ'.1 23 2 = μ.1 23 2) ∧ (μ'.1 23 5 = μ.1 23 5) ∧ (μ'.1 23 6 = μ.1 23 6) ∧ (μ'.1 23 7 = μ.1 23 7) ∧ (μ'.1 23 8 = μ.1 23 8) ∧ (μ'.1 23 9 = μ.1 23 9) ∧ (μ'.1 23 10 = μ.1 23 10) ∧ (μ'.1 26 6 = μ.1 26 6) ∧ (μ'.1 P 7 = μ.1 P 7))) (hTK : TK μ) (hB : μ.1 P 1 ≤ 2 * μ.1 26 10 + 100 + 40 * μ.1 26 11) (hKc : μ.1 (P + 2) 3 ≤ μ.1 P 1) (ht3 : 0 ≤ tt ∧ tt ≤ 3) (hdp : 0 ≤ μ.1 23 9 ∧ μ.1 23 9 ≤ 8) (hfu : 9 ≤ μ.1 23 9 + kf) (heo : 13 ≤ x1 ∧ x1 ≤ 14 ∧ ee = x1 - 13) (hx2b : 0 ≤ x2 ∧ x2 ≤ 3) (hpx : μ.1 26 11 = 0 → PXE μo μ P tt ee x4 ww) (hw1 : ww = 1) : CtV ω l yX7_arguments cX7_arguments 11 (F + 1) (Lo + 22) [.ref (oP ω 23), .int (iv x1), .int (iv x2), .long (jv x3), .int (iv x4)] μ (fun (μ' : M3) => (Fr [2, 3, 4, 23, 24, 26, P, P + 1, P + 2, (P + 2) + 1, (P + 2) + 2, (P + 2) + 3] μ μ') ∧ (IC μ') ∧ (TK μ') ∧ (μ.1 26 11 ≤ μ'.1 26 11) ∧ (μ.1 26 10 ≤ μ'.1 26 10) ∧ (μ.1 P 1 ≤ μ'.1 P 1 ∧ μ'.1 P 1 ≤ μ.1 P 1 + 2 * (μ'.1 26 10 - μ.1 26 10) + (- 1 + 3 * μ'.1 26 11)) ∧ (μ'.1 (P + 2) 3 - μ.1 (P + 2) 3 ≤ μ'.1 P 1 - μ.1 P 1 ∧ μ.1 (P + 2) 3 ≤ μ'.1 (P + 2) 3) ∧ (μ'.1 26 11 = 0 → EX μo μ' P tt 1 0) ∧ (μ'.1 23 2 = μ.1 23 2) ∧ (μ'.1 23 5 = μ.1 23 5) ∧ (μ'.1 23 6 = μ.1 23 6) ∧ (μ'.1 23 7 = μ.1 23 7) ∧ (μ'.1 23 8 = μ.1 23 8) ∧ (μ'.1 23 9 = μ.1 23 9) ∧ (μ'.1 23 10 = μ.1 23 10) ∧ (μ'.1 26 6 = μ.1 26 6) ∧ (μ'.1 P 7 = μ.1 P 7)) := by
  refine CtV.go (by decide) (Nat.le_of_ble_eq_true rfl) (fun ρ p e s m below meth c R ls G hR hret hlk hl => ?_)
  have hx := G.1.1
  have hb := G.1.2.1
  have hl : lv_has ls 11 [(0, .ref (oP ω 23)), (1, .int (iv x1)), (2, .int (iv x2)), (3, .long (jv x3)), (5, .int (iv x4))] := hl
  generalize s.drawn = d0 at G ⊢
  have hr_x1 : -2147483648 ≤ x1 ∧ x1 ≤ 2147483647 := hx1
  have hr_x2 : -2147483648 ≤ x2 ∧ x2 ≤ 2147483647 := hx2
  have hr_x4 : -2147483648 ≤ x4 ∧ x4 ≤ 2147483647 := hx4
  have hTKb := hTK.b
  have hprP : isPr P := by have h9 := G.sr0.2.2.2.2.2; rw [← hP] at h9; exact h9
  have hprP_d : 13 ≤ P ∧ P ≤ 101 := by rcases hprP with h9 | h9 | h9 | h9 | h9 <;> omega
  have hk_1 := hI.pr (p := P) hprP
  unfold pk at hk_1
  have hc_2 : 16 ≤ μ.2.1 (P + 1) ∧ μ.2.1 (P + 1) ≤ 73024 := hI.rm.1 _ hprP.cap
  subst hw1
  refine lv_iload_n hx hb dX7_arguments_0 rfl (lv_at hl 1 rfl) ?_
  refine lv_bipush (v := iv 14) hx hb dX7_arguments_1 rfl ?_
  refine xb_icmp_ne (tgt := 10) hx hb (by unfold ir; omega) (by unfold ir; omega) dX7_arguments_3 (by decide) (fun c_3 => ?_) (fun c_3 => ?_)
  · refine lv_iconst (v := iv 0) hx hb dX7_arguments_10 rfl ?_
    refine lv_istore (lv' := [(6, .int (iv 0)), (0, .ref (oP ω 23)), (1, .int (iv x1)), (2, .int (iv x2)), (3, .long (jv x3)), (5, .int (iv x4))]) hx hb dX7_arguments_11 hl (by decide) rfl (fun ls hl => ?_)
    refine lv_iload hx hb dX7_arguments_13 (lv_at hl 5 rfl) ?_
    refine lv_istore (lv' := [(7, .int (iv x4)), (6, .int (iv 0)), (0, .ref (oP ω 23)), (1, .int (iv x1)), (2, .int (iv x2)), (3, .long (jv x3)), (5, .int (iv x4))]) hx hb dX7_arguments_15 hl (by decide) rfl (fun ls hl => ?_)
    refine lv_iconst (v := iv 0) hx hb dX7_arguments_17 rfl ?_
    refine lv_istore (lv' := [(8, .int (iv 0)), (7, .int (iv x4)), (6, .int (iv 0)), (0, .ref (oP ω 23)), (1, .int (iv x1)), (2, .int (iv x2)), (3, .long (jv x3)), (5, .int (iv x4))]) hx hb dX7_arguments_18 hl (by decide) rfl (fun ls hl => ?_)
    refine lv_aload_n hx hb dX7_arguments_20 rfl (lv_at hl 3 rfl) ?_
    refine lv_bipush (v := iv 40) hx hb dX7_arguments_21 rfl ?_
    have hn_3 : -1 ≤ μ.1 26 10 ∧ μ.1 26 10 ≤ 3000 := hI.nm.2.2.2.2.2.2.2.2.2.2.2.2
    refine xc_vV G (b := 23) (rest := []) (As := [.int (iv 40)]) (c_X7_needOpen_b ω l μ 40 (by unfold ir; omega) hI hTK (by omega) (by omega)) (wm 3 197 rfl rfl) (wm 3 199 rfl rfl) (wm 0 14 rfl rfl) rfl rfl (by decide) rfl (wm 1 12 rfl rfl) (wm 3 200 rfl rfl) (by decide) hR ⟨nfr hF (by decide), nlo hLo (by decide)⟩ (n := 1) rfl rfl (Nat.le_of_ble_eq_true rfl) hl.1 dX7_arguments_23 (fun μ4 ρ d0 H locs hp G => ?_)
    obtain ⟨F_5, hI_6, hp_7, hp_8, hp_9, hp_10, hs_11, hs_12, hs_13, hs_14, hs_15, hs_16, hs_17, hs_18, hs_19, hs_20, hs_21⟩ := hp
    have hn_22 : -1 ≤ μ4.1 26 10 ∧ μ4.1 26 10 ≤ 3000 := hI_6.nm.2.2.2.2.2.2.2.2.2.2.2.2
    have htb_23 := hp_7.b
    refine lv_aload_n hx hb dX7_arguments_26 rfl (lv_at hl 3 rfl) ?_
    refine xa_getr G fd_X7 (a := 23) (x := 26) 0 rfl (by decide) rfl (wm 2 17 rfl rfl) ⟨rfl, rfl, rfl⟩ dX7_arguments_27 rfl (G.sk 23 rfl) (by decide) rfl ?_
    refine xa_getN G fd_X10 (host := "FourTongues") (a := 26) 12 rfl (by decide) (by decide) ⟨rfl, rfl, rfl⟩ dX7_arguments_30 rfl (v := .int (iv (μ4.1 26 12))) (by rw [show μ4.1 26 12 = μ4.1 26 12 from rfl]; rfl) ?_
    have hr_24 : -2147483648 ≤ μ4.1 26 12 ∧ μ4.1 26 12 ≤ 2147483647 := by have h9 := G.hr (a := 26) (k := 12) rfl; exact h9
    refine lv_bipush (v := iv 41) hx hb dX7_arguments_33 rfl ?_
    refine xb_icmp_eq (tgt := 42) hx hb (by unfold ir; omega) (by unfold ir; omega) dX7_arguments_35 (by decide) (fun c_35 => ?_) (fun c_35 => ?_)
    · refine lv_iconst (v := iv 0) hx hb dX7_arguments_42 rfl ?_
      refine lv_istore (lv' := [(9, .int (iv 0)), (8, .int (iv 0)), (7, .int (iv x4)), (6, .int (iv 0)), (0, .ref (oP ω 23)), (1, .int (iv x1)), (2, .int (iv x2)), (3, .long (jv x3)), (5, .int (iv x4))]) hx hb dX7_arguments_43 hl (by decide) rfl (fun ls hl => ?_)
      refine lv_iconst (v := iv 0) hx hb dX7_arguments_45 rfl ?_
      refine lv_istore (lv' := [(10, .int (iv 0)), (9, .int (iv 0)), (8, .int (iv 0)), (7, .int (iv x4)), (6, .int (iv 0)), (0, .ref (oP ω 23)), (1, .int (iv x1)), (2, .int (iv x2)), (3, .long (jv x3)), (5, .int (iv x4))]) hx hb dX7_arguments_46 hl (by decide) rfl (fun ls hl => ?_)
      have e_25 : μ4.1 23 9 = μ.1 23 9 + 1 := hs_11
      have e_26 : μ4.1 P 1 = μ.1 P 1 := (F_5.1 P (ni hprP (fun P => P) (fun P => [26, 23]) rfl) 1)
      have e_27 : μ4.1 P 1 = μ.1 P 1 := (F_5.1 P (ni hprP (fun P => P) (fun P => [26, 23]) rfl) 1)
      have e_28 : μ4.1 P 1 = μ.1 P 1 := (F_5.1 P (ni hprP (fun P => P) (fun P => [26, 23]) rfl) 1)
      have e_29 : μ4.1 (P + 2) 3 = μ.1 (P + 2) 3 := (F_5.1 (P + 2) (ni hprP (fun P => P + 2) (fun P => [26, 23]) rfl) 3)
      have e_30 : μ4.1 P 1 = μ.1 P 1 := (F_5.1 P (ni hprP (fun P => P) (fun P => [26, 23]) rfl) 1)
      have e_31 : μ4.1 (P + 2) 3 = μ.1 (P + 2) 3 := (F_5.1 (P + 2) (ni hprP (fun P => P + 2) (fun P => [26, 23]) rfl) 3)
      have hk_32 := hI.row (r := P + 2) (hprP.row)
      unfold rk at hk_32
      have hpx_33 : μ4.1 26 11 = 0 → PXE μo μ4 P tt ee x4 1 := fun h0 => (hpx (by have h9 : μ.1 26 11 = μ.1 26 11 := rfl; have h8 : μ4.1 26 11 = μ4.1 26 11 := rfl; omega)).fr (K := [26, 23]) (Fr.tr Fr.rf F_5 (by decide)) (npL_p (L := [26, 23]) (by decide) hprP).1 (npL_p (L := [26, 23]) (by decide) hprP).2.1
      refine xl (fun n_9 μ' ls => ∃ (f9 : Int), ∃ (c9 : Int), ∃ (m9 : Int), ∃ (i9 : Int), (Fr [2, 3, 4, 23, 24, 26, P, P + 1, P + 2, (P + 2) + 1, (P + 2) + 2, (P + 2) + 3] μ4 μ') ∧ (-2147483648 ≤ f9 ∧ f9 ≤ 2147483647) ∧ (-2147483648 ≤ c9 ∧ c9 ≤ 2147483647) ∧ (-2147483648 ≤ m9 ∧ m9 ≤ 2147483647) ∧ (-2147483648 ≤ i9 ∧ i9 ≤ 2147483647) ∧ (0 ≤ c9 ∧ c9 ≤ i9) ∧ (μ'.1 23 9 = μ.1 23 9 + 1) ∧ (i9 ≤ 3000) ∧ (0 ≤ m9 ∧ m9 ≤ 1) ∧ (TK μ') ∧ (μ.1 26 11 ≤ μ'.1 26 11) ∧ (μ.1 26 10 ≤ μ'.1 26 10) ∧ (μ.1 P 1 ≤ μ'.1 P 1 ∧ μ'.1 P 1 ≤ μ.1 P 1 + 2 * (μ'.1 26 10 - μ.1 26 10) + (- 2 + 3 * μ'.1 26 11)) ∧ (μ'.1 P 1 ≤ μ.1 P 1 + 2 * (μ'.1 26 10 - μ.1 26 10) + (1 - m9)) ∧ (μ'.1 (P + 2) 3 - μ.1 (P + 2) 3 ≤ μ'.1 P 1 - μ.1 P 1 ∧ μ.1 (P + 2) 3 ≤ μ'.1 (P + 2) 3) ∧ (μ'.1 26 11 = 0 → PXE μo μ' P tt (ee + c9) f9 1) ∧ (μ'.1 2 4 = μ.1 2 4) ∧ (μ'.1 23 2 = P) ∧ (μ'.1 23 5 = μ.1 23 5) ∧ (μ'.1 23 6 = μ.1 23 6) ∧ (μ'.1 23 7 = μ.1 23 7) ∧ (μ'.1 23 8 = tt) ∧ (μ'.1 23 10 = μ.1 23 10) ∧ (μ'.1 26 6 = μ.1 26 6) ∧ (μ'.1 26 7 = μ.1 26 7) ∧ (μ'.1 26 8 = μ.1 26 8) ∧ (μ'.1 26 9 = μ.1 26 9) ∧ (μ'.1 P 7 = μ.1 P 7) ∧ (IC μ') ∧ n_9 = Int.toNat (3000 - i9) ∧ lv_has ls 11 [(10, .int (iv i9)), (9, .int (iv m9)), (8, .int (iv c9)), (7, .int (iv f9)), (6, .int (iv 0)), (0, .ref (oP ω 23)), (1, .int (iv x1)), (2, .int (iv x2)), (3, .long (jv x3)), (5, .int (iv x4))]) (fun n_9 ρ μL34 d0 H locs ls hI_l G ih => ?_) _ _ _ _ _ _ _ ⟨x4, 0, 0, 0, Fr.rf, (by omega), (by omega), (by omega), (by omega), (by omega), (by omega), (by omega), (by omega), hp_7, (by omega), (by omega), (by omega), (by omega), (by omega), (fun h0 => (hpx_33 h0).e (by omega)), (F_5.1 2 (by decide) 4), (hs_16.trans hP.symm), hs_17, hs_18, hs_19, (hs_20.trans htt.symm), hs_21, hs_12, hs_13, hs_14, hs_15, (F_5.1 P (ni hprP (fun P => P) (fun P => [26, 23]) rfl) 7), hI_6, rfl, lv_sub hl [0, 1, 2, 3, 4, 5, 6, 7, 8, 9] rfl⟩ G
      obtain ⟨f9, c9, m9, i9, FL35, hi_37, hi_38, hi_39, hi_40, hi_41, hi_42, hi_43, hi_44, hi_45, hi_46, hi_47, hi_48, hi_49, hi_50, hi_51, hi_52, hi_53, hi_54, hi_55, hi_56, hi_57, hi_58, hi_59, hi_60, hi_61, hi_62, hi_63, hi_64, hn36, hl⟩ := hI_l
      have htb_65 := hi_45.b
      refine lv_iload hx hb dX7_arguments_48 (lv_at hl 0 rfl) ?_
      refine lv_sipush (v := iv 3000) hx hb dX7_arguments_50 rfl ?_
      refine xb_icmp_ge (tgt := 115) hx hb (by unfold ir; omega) (by unfold ir; omega) dX7_arguments_53 (by decide) (fun c_53 => ?_) (fun c_53 => ?_)
      · refine lv_aload_n hx hb dX7_arguments_115 rfl (lv_at hl 5 rfl) ?_
        refine lv_bipush (v := iv 41) hx hb dX7_arguments_116 rfl ?_
        have hn_66 : -1 ≤ μL34.1 26 10 ∧ μL34.1 26 10 ≤ 3000 := hi_64.nm.2.2.2.2.2.2.2.2.2.2.2.2
        refine xc_vV G (b := 23) (rest := []) (As := [.int (iv 41)]) (c_X7_needClosed_b ω l μL34 41 (by unfold ir; omega) hi_64 hi_45 (by omega) (by omega)) (wm 3 214 rfl rfl) (wm 3 216 rfl rfl) (wm 0 18 rfl rfl) rfl rfl (by decide) rfl (wm 1 12 rfl rfl) (wm 3 217 rfl rfl) (by decide) hR ⟨nfr hF (by decide), nlo hLo (by decide)⟩ (n := 1) rfl rfl (Nat.le_of_ble_eq_true rfl) hl.1 dX7_arguments_118 (fun μ67 ρ d0 H locs hp G => ?_)
        obtain ⟨F_68, hI_69, hp_70, hp_71, hp_72, hs_73, hs_74, hs_75, hs_76, hs_77, hs_78, hs_79, hs_80, hs_81, hs_82, hs_83⟩ := hp
        have hn_84 : -1 ≤ μ67.1 26 10 ∧ μ67.1 26 10 ≤ 3000 := hI_69.nm.2.2.2.2.2.2.2.2.2.2.2.2
        have htb_85 := hp_70.b
        refine lv_aload_n hx hb dX7_arguments_121 rfl (lv_at hl 5 rfl) ?_
        refine xa_getr G fd_X7 (a := 23) (x := P) 2 rfl (by decide) rfl (wm 2 19 rfl rfl) ⟨rfl, rfl, rfl⟩ dX7_arguments_122 rfl (hs_78.trans hi_53) (by omega) (hprP.hq ω ρ) ?_
        refine lv_iconst (v := iv 0) hx hb dX7_arguments_125 rfl ?_
        refine lv_lload_n hx hb dX7_arguments_126 rfl (lv_at hl 8 rfl) ?_
        refine lv_dconst0 hx hb dX7_arguments_127 ?_
        refine xb_topd (fun dd_86 he_dd_86 => ?_)
        have hpx_87 : μ67.1 26 11 = 0 → PXE μo μ67 P tt (ee + c9) f9 1 := fun h0 => (hi_51 (by have h9 : μL34.1 26 11 = μL34.1 26 11 := rfl; have h8 : μ67.1 26 11 = μ67.1 26 11 := rfl; omega)).fr (K := [26, 23]) (Fr.tr Fr.rf F_68 (by decide)) (npL_p (L := [26, 23]) (by decide) hprP).1 (npL_p (L := [26, 23]) (by decide) hprP).2.1
        have hk_88 := hi_64.row (r := P + 2) (hprP.row)
        unfold rk at hk_88
        have e_89 : μ67.1 (P + 2) 3 = μL34.1 (P + 2) 3 := (F_68.1 (P + 2) (ni hprP (fun P => P + 2) (fun P => [26, 23]) rfl) 3)
        refine xc_iV G (b := P) (rest := []) (As := [.int (iv 0), .long (jv x3), .double (dv dd_86)]) (c_X8_addConstant ω l μ67 P 0 x3 dd_86 (μL34.1 (P + 2) 3) hprP (by unfold ir; omega) hx3 hI_69 (by omega) (by omega)) (wm 4 67 rfl rfl) (wm 4 68 rfl rfl) (wm 4 69 rfl rfl) hprP.ly rfl (by decide) (hprP.hq ω ρ) (wm 1 9 rfl rfl) (wm 4 70 rfl rfl) (by decide) hR ⟨nfr hF (by decide), nlo hLo (by decide)⟩ (n := 3) rfl rfl (Nat.le_of_ble_eq_true rfl) hl.1 dX7_arguments_128 (fun r_91 μ90 ρ d0 H locs hr_r_91 hp G => ?_)
        have hr_r_91 : -2147483648 ≤ r_91 ∧ r_91 ≤ 2147483647 := hr_r_91
        obtain ⟨F_92, hI_93, hp_94, hp_95⟩ := hp
        have hk_96 := hI_93.row (r := P + 2) (hprP.row)
        unfold rk at hk_96
        refine lv_istore (lv' := [(10, .int (iv r_91)), (9, .int (iv m9)), (8, .int (iv c9)), (7, .int (iv f9)), (6, .int (iv 0)), (0, .ref (oP ω 23)), (1, .int (iv x1)), (2, .int (iv x2)), (3, .long (jv x3)), (5, .int (iv x4))]) hx hb dX7_arguments_131 hl (by decide) rfl (fun ls hl => ?_)
        refine lv_aload_n hx hb dX7_arguments_133 rfl (lv_at hl 5 rfl) ?_
        refine lv_iload_n hx hb dX7_arguments_134 rfl (lv_at hl 6 rfl) ?_
        refine lv_iload hx hb dX7_arguments_135 (lv_at hl 2 rfl) ?_
        refine lv_iconst (v := iv 4) hx hb dX7_arguments_137 rfl ?_
        refine xb_imul hx hb dX7_arguments_138 ?_
        refine lv_iload_n hx hb dX7_arguments_139 rfl (lv_at hl 7 rfl) ?_
        refine xb_iadd hx hb dX7_arguments_140 ?_
        refine lv_iload hx hb dX7_arguments_141 (lv_at hl 0 rfl) ?_
        refine lv_iload hx hb dX7_arguments_143 (lv_at hl 3 rfl) ?_
        have hpx_97 : μ90.1 26 11 = 0 → PXE μo μ90 P tt (ee + c9) f9 1 := fun h0 => (hpx_87 (by have h9 : μ67.1 26 11 = μ67.1 26 11 := rfl; have h8 : μ90.1 26 11 = μ67.1 26 11 := (F_92.1 26 (ni hprP (fun P => 26) (fun P => [P + 2, (P + 2) + 1, (P + 2) + 2, (P + 2) + 3]) rfl) 11); omega)).fr (K := [P + 2, (P + 2) + 1, (P + 2) + 2, (P + 2) + 3]) (Fr.tr Fr.rf F_92 (si hprP (fun P => [P + 2, (P + 2) + 1, (P + 2) + 2, (P + 2) + 3]) (fun P => [P + 2, (P + 2) + 1, (P + 2) + 2, (P + 2) + 3]) rfl)) (ni hprP (fun P => P) (fun P => [P + 2, (P + 2) + 1, (P + 2) + 2, (P + 2) + 3]) rfl) (ni hprP (fun P => P + 1) (fun P => [P + 2, (P + 2) + 1, (P + 2) + 2, (P + 2) + 3]) rfl)
        have e_98 : μ90.1 23 2 = P := ((F_92.1 23 (ni hprP (fun P => 23) (fun P => [P + 2, (P + 2) + 1, (P + 2) + 2, (P + 2) + 3]) rfl) 2).trans (hs_78.trans hi_53))
        have e_99 : μ90.1 23 8 = tt := ((F_92.1 23 (ni hprP (fun P => 23) (fun P => [P + 2, (P + 2) + 1, (P + 2) + 2, (P + 2) + 3]) rfl) 8).trans (hs_82.trans hi_57))
        have hk_100 := hi_64.pr (p := P) hprP
        unfold pk at hk_100
        have hc_101 : 16 ≤ μL34.2.1 (P + 1) ∧ μL34.2.1 (P + 1) ≤ 73024 := hi_64.rm.1 _ hprP.cap
        have e_102 : μ90.1 P 1 = μL34.1 P 1 := ((F_92.1 P (ni hprP (fun P => P) (fun P => [P + 2, (P + 2) + 1, (P + 2) + 2, (P + 2) + 3]) rfl) 1).trans (F_68.1 P (ni hprP (fun P => P) (fun P => [26, 23]) rfl) 1))
        have e_103 : μ90.1 P 1 = μL34.1 P 1 := ((F_92.1 P (ni hprP (fun P => P) (fun P => [P + 2, (P + 2) + 1, (P + 2) + 2, (P + 2) + 3]) rfl) 1).trans (F_68.1 P (ni hprP (fun P => P) (fun P => [26, 23]) rfl) 1))
        refine xc_vV G (b := 23) (rest := []) (As := [.int (iv x1), .int (iv ((c9 * 4) + x2)), .int (iv r_91), .int (iv f9)]) (c_X7_endOfParts ω l μ90 x1 ((c9 * 4) + x2) r_91 f9 μo (ee + c9) (1) P tt (by unfold ir; omega) (by unfold ir; omega) (by unfold ir; omega) (by unfold ir; omega) hI_93 (by omega) (by omega) (by omega) hpx_97 (Or.inr ⟨by omega, by omega, by omega⟩) (by omega) (by by_cases q1 : x1 = 13; (rw [q1, ef13 (by omega) hx2b]; omega); (rw [show x1 = 14 by omega, ef14 (by omega) hx2b]; omega))) (wm 4 27 rfl rfl) (wm 4 29 rfl rfl) (wm 0 30 rfl rfl) rfl rfl (by decide) rfl (wm 1 12 rfl rfl) (wm 4 30 rfl rfl) (by decide) hR ⟨nfr hF (by decide), nlo hLo (by decide)⟩ (n := 4) rfl rfl (Nat.le_of_ble_eq_true rfl) hl.1 dX7_arguments_145 (fun μ104 ρ d0 H locs hp G => ?_)
        obtain ⟨F_105, hI_106, hp_107, hs_108, hs_109⟩ := hp
        have hpx_110 : μ104.1 26 11 = 0 → PXE μo μ104 P tt 1 (-1) 1 := fun h0 => PXE.of (hp_107 (by have h9 : μ90.1 26 11 = μ67.1 26 11 := (F_92.1 26 (ni hprP (fun P => 26) (fun P => [P + 2, (P + 2) + 1, (P + 2) + 2, (P + 2) + 3]) rfl) 11); have h8 : μ104.1 26 11 = μ67.1 26 11 := ((F_105.1 26 (ni hprP (fun P => 26) (fun P => [P, P + 1]) rfl) 11).trans (F_92.1 26 (ni hprP (fun P => 26) (fun P => [P + 2, (P + 2) + 1, (P + 2) + 2, (P + 2) + 3]) rfl) 11)); omega))
        clear hp_107
        have htk_111 : TK μ104 := hp_70.fr (K := [P, P + 1, P + 2, (P + 2) + 1, (P + 2) + 2, (P + 2) + 3]) (Fr.tr (Fr.tr Fr.rf F_92 (si hprP (fun P => [P + 2, (P + 2) + 1, (P + 2) + 2, (P + 2) + 3]) (fun P => [P, P + 1, P + 2, (P + 2) + 1, (P + 2) + 2, (P + 2) + 3]) rfl)) F_105 (si hprP (fun P => [P, P + 1]) (fun P => [P, P + 1, P + 2, (P + 2) + 1, (P + 2) + 2, (P + 2) + 3]) rfl)) (ni hprP (fun P => 26) (fun P => [P, P + 1, P + 2, (P + 2) + 1, (P + 2) + 2, (P + 2) + 3]) rfl) (ni hprP (fun P => 28) (fun P => [P, P + 1, P + 2, (P + 2) + 1, (P + 2) + 2, (P + 2) + 3]) rfl)
        have e_112 : μ104.1 26 11 = μ67.1 26 11 := ((F_105.1 26 (ni hprP (fun P => 26) (fun P => [P, P + 1]) rfl) 11).trans (F_92.1 26 (ni hprP (fun P => 26) (fun P => [P + 2, (P + 2) + 1, (P + 2) + 2, (P + 2) + 3]) rfl) 11))
        have e_113 : μ104.1 26 11 = μ67.1 26 11 := ((F_105.1 26 (ni hprP (fun P => 26) (fun P => [P, P + 1]) rfl) 11).trans (F_92.1 26 (ni hprP (fun P => 26) (fun P => [P + 2, (P + 2) + 1, (P + 2) + 2, (P + 2) + 3]) rfl) 11))
        have e_114 : μ104.1 26 10 = μ67.1 26 10 := ((F_105.1 26 (ni hprP (fun P => 26) (fun P => [P, P + 1]) rfl) 10).trans (F_92.1 26 (ni hprP (fun P => 26) (fun P => [P + 2, (P + 2) + 1, (P + 2) + 2, (P + 2) + 3]) rfl) 10))
        have e_115 : μ104.1 P 1 = μ90.1 P 1 + 1 := hs_108
        have e_116 : μ104.1 P 1 = μ90.1 P 1 + 1 := hs_108
        have e_117 : μ104.1 26 10 = μ67.1 26 10 := ((F_105.1 26 (ni hprP (fun P => 26) (fun P => [P, P + 1]) rfl) 10).trans (F_92.1 26 (ni hprP (fun P => 26) (fun P => [P + 2, (P + 2) + 1, (P + 2) + 2, (P + 2) + 3]) rfl) 10))
        have e_118 : μ104.1 26 11 = μ67.1 26 11 := ((F_105.1 26 (ni hprP (fun P => 26) (fun P => [P, P + 1]) rfl) 11).trans (F_92.1 26 (ni hprP (fun P => 26) (fun P => [P + 2, (P + 2) + 1, (P + 2) + 2, (P + 2) + 3]) rfl) 11))
        have e_119 : μ104.1 (P + 2) 3 = μ90.1 (P + 2) 3 := (F_105.1 (P + 2) (ni hprP (fun P => P + 2) (fun P => [P, P + 1]) rfl) 3)
        have e_120 : μ104.1 P 1 = μ90.1 P 1 + 1 := hs_108
        have e_121 : μ104.1 (P + 2) 3 = μ90.1 (P + 2) 3 := (F_105.1 (P + 2) (ni hprP (fun P => P + 2) (fun P => [P, P + 1]) rfl) 3)
        have e_122 : μ104.1 23 9 = μL34.1 23 9 - 1 := ((F_105.1 23 (ni hprP (fun P => 23) (fun P => [P, P + 1]) rfl) 9).trans ((F_92.1 23 (ni hprP (fun P => 23) (fun P => [P + 2, (P + 2) + 1, (P + 2) + 2, (P + 2) + 3]) rfl) 9).trans hs_73))
        exact xr_v G hret hlk dX7_arguments_148 ⟨(Fr.tr (Fr.tr (Fr.tr (Fr.tr (Fr.tr Fr.rf F_5 (si hprP (fun P => [26, 23]) (fun P => [2, 3, 4, 23, 24, 26, P, P + 1, P + 2, (P + 2) + 1, (P + 2) + 2, (P + 2) + 3]) rfl)) FL35 (si hprP (fun P => [2, 3, 4, 23, 24, 26, P, P + 1, P + 2, (P + 2) + 1, (P + 2) + 2, (P + 2) + 3]) (fun P => [2, 3, 4, 23, 24, 26, P, P + 1, P + 2, (P + 2) + 1, (P + 2) + 2, (P + 2) + 3]) rfl)) F_68 (si hprP (fun P => [26, 23]) (fun P => [2, 3, 4, 23, 24, 26, P, P + 1, P + 2, (P + 2) + 1, (P + 2) + 2, (P + 2) + 3]) rfl)) F_92 (si hprP (fun P => [P + 2, (P + 2) + 1, (P + 2) + 2, (P + 2) + 3]) (fun P => [2, 3, 4, 23, 24, 26, P, P + 1, P + 2, (P + 2) + 1, (P + 2) + 2, (P + 2) + 3]) rfl)) F_105 (si hprP (fun P => [P, P + 1]) (fun P => [2, 3, 4, 23, 24, 26, P, P + 1, P + 2, (P + 2) + 1, (P + 2) + 2, (P + 2) + 3]) rfl)), hI_106, htk_111, (by omega), (by omega), (by omega), (by omega), (fun h0 => (PXE.ex (hpx_110 h0)).e (by omega)), (((F_105.1 23 (ni hprP (fun P => 23) (fun P => [P, P + 1]) rfl) 2).trans ((F_92.1 23 (ni hprP (fun P => 23) (fun P => [P + 2, (P + 2) + 1, (P + 2) + 2, (P + 2) + 3]) rfl) 2).trans (hs_78.trans hi_53)))).trans hP, ((F_105.1 23 (ni hprP (fun P => 23) (fun P => [P, P + 1]) rfl) 5).trans ((F_92.1 23 (ni hprP (fun P => 23) (fun P => [P + 2, (P + 2) + 1, (P + 2) + 2, (P + 2) + 3]) rfl) 5).trans (hs_79.trans hi_54))), ((F_105.1 23 (ni hprP (fun P => 23) (fun P => [P, P + 1]) rfl) 6).trans ((F_92.1 23 (ni hprP (fun P => 23) (fun P => [P + 2, (P + 2) + 1, (P + 2) + 2, (P + 2) + 3]) rfl) 6).trans (hs_80.trans hi_55))), ((F_105.1 23 (ni hprP (fun P => 23) (fun P => [P, P + 1]) rfl) 7).trans ((F_92.1 23 (ni hprP (fun P => 23) (fun P => [P + 2, (P + 2) + 1, (P + 2) + 2, (P + 2) + 3]) rfl) 7).trans (hs_81.trans hi_56))), (((F_105.1 23 (ni hprP (fun P => 23) (fun P => [P, P + 1]) rfl) 8).trans ((F_92.1 23 (ni hprP (fun P => 23) (fun P => [P + 2, (P + 2) + 1, (P + 2) + 2, (P + 2) + 3]) rfl) 8).trans (hs_82.trans hi_57)))).trans htt, (by omega), ((F_105.1 23 (ni hprP (fun P => 23) (fun P => [P, P + 1]) rfl) 10).trans ((F_92.1 23 (ni hprP (fun P => 23) (fun P => [P + 2, (P + 2) + 1, (P + 2) + 2, (P + 2) + 3]) rfl) 10).trans (hs_83.trans hi_58))), ((F_105.1 26 (ni hprP (fun P => 26) (fun P => [P, P + 1]) rfl) 6).trans ((F_92.1 26 (ni hprP (fun P => 26) (fun P => [P + 2, (P + 2) + 1, (P + 2) + 2, (P + 2) + 3]) rfl) 6).trans (hs_74.trans hi_59))), (hs_109.trans ((F_92.1 P (ni hprP (fun P => P) (fun P => [P + 2, (P + 2) + 1, (P + 2) + 2, (P + 2) + 3]) rfl) 7).trans ((F_68.1 P (ni hprP (fun P => P) (fun P => [26, 23]) rfl) 7).trans hi_63)))⟩
      · refine lv_iload hx hb dX7_arguments_56 (lv_at hl 1 rfl) ?_
        refine xb_if_eq (tgt := 115) hx hb (by unfold ir; omega) dX7_arguments_58 (by decide) (fun c_58 => ?_) (fun c_58 => ?_)
        · refine lv_aload_n hx hb dX7_arguments_115 rfl (lv_at hl 5 rfl) ?_
          refine lv_bipush (v := iv 41) hx hb dX7_arguments_116 rfl ?_
          have hn_123 : -1 ≤ μL34.1 26 10 ∧ μL34.1 26 10 ≤ 3000 := hi_64.nm.2.2.2.2.2.2.2.2.2.2.2.2
          refine xc_vV G (b := 23) (rest := []) (As := [.int (iv 41)]) (c_X7_needClosed_b ω l μL34 41 (by unfold ir; omega) hi_64 hi_45 (by omega) (by omega)) (wm 3 214 rfl rfl) (wm 3 216 rfl rfl) (wm 0 18 rfl rfl) rfl rfl (by decide) rfl (wm 1 12 rfl rfl) (wm 3 217 rfl rfl) (by decide) hR ⟨nfr hF (by decide), nlo hLo (by decide)⟩ (n := 1) rfl rfl (Nat.le_of_ble_eq_true rfl) hl.1 dX7_arguments_118 (fun μ124 ρ d0 H locs hp G => ?_)
          obtain ⟨F_125, hI_126, hp_127, hp_128, hp_129, hs_130, hs_131, hs_132, hs_133, hs_134, hs_135, hs_136, hs_137, hs_138, hs_139, hs_140⟩ := hp
          have hn_141 : -1 ≤ μ124.1 26 10 ∧ μ124.1 26 10 ≤ 3000 := hI_126.nm.2.2.2.2.2.2.2.2.2.2.2.2
          have htb_142 := hp_127.b
          refine lv_aload_n hx hb dX7_arguments_121 rfl (lv_at hl 5 rfl) ?_
          refine xa_getr G fd_X7 (a := 23) (x := P) 2 rfl (by decide) rfl (wm 2 19 rfl rfl) ⟨rfl, rfl, rfl⟩ dX7_arguments_122 rfl (hs_135.trans hi_53) (by omega) (hprP.hq ω ρ) ?_
          refine lv_iconst (v := iv 0) hx hb dX7_arguments_125 rfl ?_
          refine lv_lload_n hx hb dX7_arguments_126 rfl (lv_at hl 8 rfl) ?_
          refine lv_dconst0 hx hb dX7_arguments_127 ?_
          refine xb_topd (fun dd_143 he_dd_143 => ?_)
          have hpx_144 : μ124.1 26 11 = 0 → PXE μo μ124 P tt (ee + c9) f9 1 := fun h0 => (hi_51 (by have h9 : μL34.1 26 11 = μL34.1 26 11 := rfl; have h8 : μ124.1 26 11 = μ124.1 26 11 := rfl; omega)).fr (K := [26, 23]) (Fr.tr Fr.rf F_125 (by decide)) (npL_p (L := [26, 23]) (by decide) hprP).1 (npL_p (L := [26, 23]) (by decide) hprP).2.1
          have hk_145 := hi_64.row (r := P + 2) (hprP.row)
          unfold rk at hk_145
          have e_146 : μ124.1 (P + 2) 3 = μL34.1 (P + 2) 3 := (F_125.1 (P + 2) (ni hprP (fun P => P + 2) (fun P => [26, 23]) rfl) 3)
          refine xc_iV G (b := P) (rest := []) (As := [.int (iv 0), .long (jv x3), .double (dv dd_143)]) (c_X8_addConstant ω l μ124 P 0 x3 dd_143 (μL34.1 (P + 2) 3) hprP (by unfold ir; omega) hx3 hI_126 (by omega) (by omega)) (wm 4 67 rfl rfl) (wm 4 68 rfl rfl) (wm 4 69 rfl rfl) hprP.ly rfl (by decide) (hprP.hq ω ρ) (wm 1 9 rfl rfl) (wm 4 70 rfl rfl) (by decide) hR ⟨nfr hF (by decide), nlo hLo (by decide)⟩ (n := 3) rfl rfl (Nat.le_of_ble_eq_true rfl) hl.1 dX7_arguments_128 (fun r_148 μ147 ρ d0 H locs hr_r_148 hp G => ?_)
          have hr_r_148 : -2147483648 ≤ r_148 ∧ r_148 ≤ 2147483647 := hr_r_148
          obtain ⟨F_149, hI_150, hp_151, hp_152⟩ := hp
          have hk_153 := hI_150.row (r := P + 2) (hprP.row)
          unfold rk at hk_153
          refine lv_istore (lv' := [(10, .int (iv r_148)), (9, .int (iv m9)), (8, .int (iv c9)), (7, .int (iv f9)), (6, .int (iv 0)), (0, .ref (oP ω 23)), (1, .int (iv x1)), (2, .int (iv x2)), (3, .long (jv x3)), (5, .int (iv x4))]) hx hb dX7_arguments_131 hl (by decide) rfl (fun ls hl => ?_)
          refine lv_aload_n hx hb dX7_arguments_133 rfl (lv_at hl 5 rfl) ?_
          refine lv_iload_n hx hb dX7_arguments_134 rfl (lv_at hl 6 rfl) ?_
          refine lv_iload hx hb dX7_arguments_135 (lv_at hl 2 rfl) ?_
          refine lv_iconst (v := iv 4) hx hb dX7_arguments_137 rfl ?_
          refine xb_imul hx hb dX7_arguments_138 ?_
          refine lv_iload_n hx hb dX7_arguments_139 rfl (lv_at hl 7 rfl) ?_
          refine xb_iadd hx hb dX7_arguments_140 ?_
          refine lv_iload hx hb dX7_arguments_141 (lv_at hl 0 rfl) ?_
          refine lv_iload hx hb dX7_arguments_143 (lv_at hl 3 rfl) ?_
          have hpx_154 : μ147.1 26 11 = 0 → PXE μo μ147 P tt (ee + c9) f9 1 := fun h0 => (hpx_144 (by have h9 : μ124.1 26 11 = μ124.1 26 11 := rfl; have h8 : μ147.1 26 11 = μ124.1 26 11 := (F_149.1 26 (ni hprP (fun P => 26) (fun P => [P + 2, (P + 2) + 1, (P + 2) + 2, (P + 2) + 3]) rfl) 11); omega)).fr (K := [P + 2, (P + 2) + 1, (P + 2) + 2, (P + 2) + 3]) (Fr.tr Fr.rf F_149 (si hprP (fun P => [P + 2, (P + 2) + 1, (P + 2) + 2, (P + 2) + 3]) (fun P => [P + 2, (P + 2) + 1, (P + 2) + 2, (P + 2) + 3]) rfl)) (ni hprP (fun P => P) (fun P => [P + 2, (P + 2) + 1, (P + 2) + 2, (P + 2) + 3]) rfl) (ni hprP (fun P => P + 1) (fun P => [P + 2, (P + 2) + 1, (P + 2) + 2, (P + 2) + 3]) rfl)
          have e_155 : μ147.1 23 2 = P := ((F_149.1 23 (ni hprP (fun P => 23) (fun P => [P + 2, (P + 2) + 1, (P + 2) + 2, (P + 2) + 3]) rfl) 2).trans (hs_135.trans hi_53))
          have e_156 : μ147.1 23 8 = tt := ((F_149.1 23 (ni hprP (fun P => 23) (fun P => [P + 2, (P + 2) + 1, (P + 2) + 2, (P + 2) + 3]) rfl) 8).trans (hs_139.trans hi_57))
          have hk_157 := hi_64.pr (p := P) hprP
          unfold pk at hk_157
          have hc_158 : 16 ≤ μL34.2.1 (P + 1) ∧ μL34.2.1 (P + 1) ≤ 73024 := hi_64.rm.1 _ hprP.cap
          have e_159 : μ147.1 P 1 = μL34.1 P 1 := ((F_149.1 P (ni hprP (fun P => P) (fun P => [P + 2, (P + 2) + 1, (P + 2) + 2, (P + 2) + 3]) rfl) 1).trans (F_125.1 P (ni hprP (fun P => P) (fun P => [26, 23]) rfl) 1))
          have e_160 : μ147.1 P 1 = μL34.1 P 1 := ((F_149.1 P (ni hprP (fun P => P) (fun P => [P + 2, (P + 2) + 1, (P + 2) + 2, (P + 2) + 3]) rfl) 1).trans (F_125.1 P (ni hprP (fun P => P) (fun P => [26, 23]) rfl) 1))
          refine xc_vV G (b := 23) (rest := []) (As := [.int (iv x1), .int (iv ((c9 * 4) + x2)), .int (iv r_148), .int (iv f9)]) (c_X7_endOfParts ω l μ147 x1 ((c9 * 4) + x2) r_148 f9 μo (ee + c9) (1) P tt (by unfold ir; omega) (by unfold ir; omega) (by unfold ir; omega) (by unfold ir; omega) hI_150 (by omega) (by omega) (by omega) hpx_154 (Or.inr ⟨by omega, by omega, by omega⟩) (by omega) (by by_cases q1 : x1 = 13; (rw [q1, ef13 (by omega) hx2b]; omega); (rw [show x1 = 14 by omega, ef14 (by omega) hx2b]; omega))) (wm 4 27 rfl rfl) (wm 4 29 rfl rfl) (wm 0 30 rfl rfl) rfl rfl (by decide) rfl (wm 1 12 rfl rfl) (wm 4 30 rfl rfl) (by decide) hR ⟨nfr hF (by decide), nlo hLo (by decide)⟩ (n := 4) rfl rfl (Nat.le_of_ble_eq_true rfl) hl.1 dX7_arguments_145 (fun μ161 ρ d0 H locs hp G => ?_)
          obtain ⟨F_162, hI_163, hp_164, hs_165, hs_166⟩ := hp
          have hpx_167 : μ161.1 26 11 = 0 → PXE μo μ161 P tt 1 (-1) 1 := fun h0 => PXE.of (hp_164 (by have h9 : μ147.1 26 11 = μ124.1 26 11 := (F_149.1 26 (ni hprP (fun P => 26) (fun P => [P + 2, (P + 2) + 1, (P + 2) + 2, (P + 2) + 3]) rfl) 11); have h8 : μ161.1 26 11 = μ124.1 26 11 := ((F_162.1 26 (ni hprP (fun P => 26) (fun P => [P, P + 1]) rfl) 11).trans (F_149.1 26 (ni hprP (fun P => 26) (fun P => [P + 2, (P + 2) + 1, (P + 2) + 2, (P + 2) + 3]) rfl) 11)); omega))
          clear hp_164
          have htk_168 : TK μ161 := hp_127.fr (K := [P, P + 1, P + 2, (P + 2) + 1, (P + 2) + 2, (P + 2) + 3]) (Fr.tr (Fr.tr Fr.rf F_149 (si hprP (fun P => [P + 2, (P + 2) + 1, (P + 2) + 2, (P + 2) + 3]) (fun P => [P, P + 1, P + 2, (P + 2) + 1, (P + 2) + 2, (P + 2) + 3]) rfl)) F_162 (si hprP (fun P => [P, P + 1]) (fun P => [P, P + 1, P + 2, (P + 2) + 1, (P + 2) + 2, (P + 2) + 3]) rfl)) (ni hprP (fun P => 26) (fun P => [P, P + 1, P + 2, (P + 2) + 1, (P + 2) + 2, (P + 2) + 3]) rfl) (ni hprP (fun P => 28) (fun P => [P, P + 1, P + 2, (P + 2) + 1, (P + 2) + 2, (P + 2) + 3]) rfl)
          have e_169 : μ161.1 26 11 = μ124.1 26 11 := ((F_162.1 26 (ni hprP (fun P => 26) (fun P => [P, P + 1]) rfl) 11).trans (F_149.1 26 (ni hprP (fun P => 26) (fun P => [P + 2, (P + 2) + 1, (P + 2) + 2, (P + 2) + 3]) rfl) 11))
          have e_170 : μ161.1 26 11 = μ124.1 26 11 := ((F_162.1 26 (ni hprP (fun P => 26) (fun P => [P, P + 1]) rfl) 11).trans (F_149.1 26 (ni hprP (fun P => 26) (fun P => [P + 2, (P + 2) + 1, (P + 2) + 2, (P + 2) + 3]) rfl) 11))
          have e_171 : μ161.1 26 10 = μ124.1 26 10 := ((F_162.1 26 (ni hprP (fun P => 26) (fun P => [P, P + 1]) rfl) 10).trans (F_149.1 26 (ni hprP (fun P => 26) (fun P => [P + 2, (P + 2) + 1, (P + 2) + 2, (P + 2) + 3]) rfl) 10))
          have e_172 : μ161.1 P 1 = μ147.1 P 1 + 1 := hs_165
          have e_173 : μ161.1 P 1 = μ147.1 P 1 + 1 := hs_165
          have e_174 : μ161.1 26 10 = μ124.1 26 10 := ((F_162.1 26 (ni hprP (fun P => 26) (fun P => [P, P + 1]) rfl) 10).trans (F_149.1 26 (ni hprP (fun P => 26) (fun P => [P + 2, (P + 2) + 1, (P + 2) + 2, (P + 2) + 3]) rfl) 10))
          have e_175 : μ161.1 26 11 = μ124.1 26 11 := ((F_162.1 26 (ni hprP (fun P => 26) (fun P => [P, P + 1]) rfl) 11).trans (F_149.1 26 (ni hprP (fun P => 26) (fun P => [P + 2, (P + 2) + 1, (P + 2) + 2, (P + 2) + 3]) rfl) 11))
          have e_176 : μ161.1 (P + 2) 3 = μ147.1 (P + 2) 3 := (F_162.1 (P + 2) (ni hprP (fun P => P + 2) (fun P => [P, P + 1]) rfl) 3)
          have e_177 : μ161.1 P 1 = μ147.1 P 1 + 1 := hs_165
          have e_178 : μ161.1 (P + 2) 3 = μ147.1 (P + 2) 3 := (F_162.1 (P + 2) (ni hprP (fun P => P + 2) (fun P => [P, P + 1]) rfl) 3)
          have e_179 : μ161.1 23 9 = μL34.1 23 9 - 1 := ((F_162.1 23 (ni hprP (fun P => 23) (fun P => [P, P + 1]) rfl) 9).trans ((F_149.1 23 (ni hprP (fun P => 23) (fun P => [P + 2, (P + 2) + 1, (P + 2) + 2, (P + 2) + 3]) rfl) 9).trans hs_130))
          exact xr_v G hret hlk dX7_arguments_148 ⟨(Fr.tr (Fr.tr (Fr.tr (Fr.tr (Fr.tr Fr.rf F_5 (si hprP (fun P => [26, 23]) (fun P => [2, 3, 4, 23, 24, 26, P, P + 1, P + 2, (P + 2) + 1, (P + 2) + 2, (P + 2) + 3]) rfl)) FL35 (si hprP (fun P => [2, 3, 4, 23, 24, 26, P, P + 1, P + 2, (P + 2) + 1, (P + 2) + 2, (P + 2) + 3]) (fun P => [2, 3, 4, 23, 24, 26, P, P + 1, P + 2, (P + 2) + 1, (P + 2) + 2, (P + 2) + 3]) rfl)) F_125 (si hprP (fun P => [26, 23]) (fun P => [2, 3, 4, 23, 24, 26, P, P + 1, P + 2, (P + 2) + 1, (P + 2) + 2, (P + 2) + 3]) rfl)) F_149 (si hprP (fun P => [P + 2, (P + 2) + 1, (P + 2) + 2, (P + 2) + 3]) (fun P => [2, 3, 4, 23, 24, 26, P, P + 1, P + 2, (P + 2) + 1, (P + 2) + 2, (P + 2) + 3]) rfl)) F_162 (si hprP (fun P => [P, P + 1]) (fun P => [2, 3, 4, 23, 24, 26, P, P + 1, P + 2, (P + 2) + 1, (P + 2) + 2, (P + 2) + 3]) rfl)), hI_163, htk_168, (by omega), (by omega), (by omega), (by omega), (fun h0 => (PXE.ex (hpx_167 h0)).e (by omega)), (((F_162.1 23 (ni hprP (fun P => 23) (fun P => [P, P + 1]) rfl) 2).trans ((F_149.1 23 (ni hprP (fun P => 23) (fun P => [P + 2, (P + 2) + 1, (P + 2) + 2, (P + 2) + 3]) rfl) 2).trans (hs_135.trans hi_53)))).trans hP, ((F_162.1 23 (ni hprP (fun P => 23) (fun P => [P, P + 1]) rfl) 5).trans ((F_149.1 23 (ni hprP (fun P => 23) (fun P => [P + 2, (P + 2) + 1, (P + 2) + 2, (P + 2) + 3]) rfl) 5).trans (hs_136.trans hi_54))), ((F_162.1 23 (ni hprP (fun P => 23) (fun P => [P, P + 1]) rfl) 6).trans ((F_149.1 23 (ni hprP (fun P => 23) (fun P => [P + 2, (P + 2) + 1, (P + 2) + 2, (P + 2) + 3]) rfl) 6).trans (hs_137.trans hi_55))), ((F_162.1 23 (ni hprP (fun P => 23) (fun P => [P, P + 1]) rfl) 7).trans ((F_149.1 23 (ni hprP (fun P => 23) (fun P => [P + 2, (P + 2) + 1, (P + 2) + 2, (P + 2) + 3]) rfl) 7).trans (hs_138.trans hi_56))), (((F_162.1 23 (ni hprP (fun P => 23) (fun P => [P, P + 1]) rfl) 8).trans ((F_149.1 23 (ni hprP (fun P => 23) (fun P => [P + 2, (P + 2) + 1, (P + 2) + 2, (P + 2) + 3]) rfl) 8).trans (hs_139.trans hi_57)))).trans htt, (by omega), ((F_162.1 23 (ni hprP (fun P => 23) (fun P => [P, P + 1]) rfl) 10).trans ((F_149.1 23 (ni hprP (fun P => 23) (fun P => [P + 2, (P + 2) + 1, (P + 2) + 2, (P + 2) + 3]) rfl) 10).trans (hs_140.trans hi_58))), ((F_162.1 26 (ni hprP (fun P => 26) (fun P => [P, P + 1]) rfl) 6).trans ((F_149.1 26 (ni hprP (fun P => 26) (fun P => [P + 2, (P + 2) + 1, (P + 2) + 2, (P + 2) + 3]) rfl) 6).trans (hs_131.trans hi_59))), (hs_166.trans ((F_149.1 P (ni hprP (fun P => P) (fun P => [P + 2, (P + 2) + 1, (P + 2) + 2, (P + 2) + 3]) rfl) 7).trans ((F_125.1 P (ni hprP (fun P => P) (fun P => [26, 23]) rfl) 7).trans hi_63)))⟩
        · refine lv_iload hx hb dX7_arguments_61 (lv_at hl 2 rfl) ?_
          refine lv_bipush (v := iv 8) hx hb dX7_arguments_63 rfl ?_
          refine xb_icmp_lt (tgt := 80) hx hb (by unfold ir; omega) (by unfold ir; omega) dX7_arguments_65 (by decide) (fun c_65 => ?_) (fun c_65 => ?_)
          · refine lv_aload_n hx hb dX7_arguments_80 rfl (lv_at hl 5 rfl) ?_
            refine lv_iconst (v := iv 0) hx hb dX7_arguments_81 rfl ?_
            have e_180 : μL34.1 23 2 = P := hi_53
            have e_181 : μL34.1 23 8 = tt := hi_57
            have hk_182 := hi_64.pr (p := P) hprP
            unfold pk at hk_182
            have hc_183 : 16 ≤ μL34.2.1 (P + 1) ∧ μL34.2.1 (P + 1) ≤ 73024 := hi_64.rm.1 _ hprP.cap
            have hn_184 : -1 ≤ μL34.1 26 10 ∧ μL34.1 26 10 ≤ 3000 := hi_64.nm.2.2.2.2.2.2.2.2.2.2.2.2
            have hk_185 := hi_64.row (r := P + 2) (hprP.row)
            unfold rk at hk_185
            refine xc_vV G (b := 23) (rest := []) (As := [.int (iv 0)]) (((fun (_ : Om) (_ : Launch) => hE)) ω l μL34 0 P tt (by omega) hi_64 (by omega) (by omega) hi_45 (by omega) (by omega) (by omega) (by omega) (by omega) (fun _ => Or.inl (by omega))) (wm 4 3 rfl rfl) (wm 4 5 rfl rfl) (wm 0 24 rfl rfl) rfl rfl (by decide) rfl (wm 1 12 rfl rfl) (wm 4 6 rfl rfl) (by decide) hR ⟨sfr (F := F) (a := 0) (by decide), slo (L := Lo) (m := 3) (a := 0) (by decide)⟩ (n := 1) rfl rfl (Nat.le_of_ble_eq_true rfl) hl.1 dX7_arguments_82 (fun μ186 ρ d0 H locs hp G => ?_)
            obtain ⟨F_187, hI_188, hp_189, hp_190, hp_191, hp_192, hp_193, hp_194, hs_195, hs_196, hs_197, hs_198, hs_199, hs_200, hs_201, hs_202, hs_203⟩ := hp
            have hn_204 : -1 ≤ μ186.1 26 10 ∧ μ186.1 26 10 ≤ 3000 := hI_188.nm.2.2.2.2.2.2.2.2.2.2.2.2
            have hk_205 := hI_188.pr (p := P) hprP
            unfold pk at hk_205
            have hc_206 : 16 ≤ μ186.2.1 (P + 1) ∧ μ186.2.1 (P + 1) ≤ 73024 := hI_188.rm.1 _ hprP.cap
            have hk_207 := hI_188.row (r := P + 2) (hprP.row)
            unfold rk at hk_207
            have htb_208 := hp_189.b
            have hpx_209 : μ186.1 26 11 = 0 → PXE μo μ186 P tt ((ee + c9) + (1 - 0)) f9 1 := fun h0 => (PXE.app (hi_51 (by have h9 : μL34.1 26 11 = μL34.1 26 11 := rfl; have h8 : μ186.1 26 11 = μ186.1 26 11 := rfl; omega)) (hp_194 h0)).e (by omega)
            refine lv_aload_n hx hb dX7_arguments_85 rfl (lv_at hl 5 rfl) ?_
            refine lv_iload hx hb dX7_arguments_86 (lv_at hl 3 rfl) ?_
            refine lv_iload hx hb dX7_arguments_88 (lv_at hl 4 rfl) ?_
            refine lv_iload hx hb dX7_arguments_90 (lv_at hl 2 rfl) ?_
            refine xb_iadd hx hb dX7_arguments_92 ?_
            have e_210 : μ186.1 23 2 = P := (hs_195.trans hi_53)
            have e_211 : μ186.1 23 8 = tt := (hs_199.trans hi_57)
            refine xc_iV G (b := 23) (rest := []) (As := [.int (iv f9), .int (iv (0 + c9))]) (c_X7_ifFails ω l μ186 f9 (0 + c9) μo ((ee + c9) + (1 - 0)) (1) P tt (by unfold ir; omega) (by unfold ir; omega) hI_188 (by omega) (by omega) (by omega) hpx_209 (by omega) (by omega)) (wm 4 23 rfl rfl) (wm 4 25 rfl rfl) (wm 0 29 rfl rfl) rfl rfl (by decide) rfl (wm 1 12 rfl rfl) (wm 4 26 rfl rfl) (by decide) hR ⟨nfr hF (by decide), nlo hLo (by decide)⟩ (n := 2) rfl rfl (Nat.le_of_ble_eq_true rfl) hl.1 dX7_arguments_93 (fun r_213 μ212 ρ d0 H locs hr_r_213 hp G => ?_)
            have hr_r_213 : -2147483648 ≤ r_213 ∧ r_213 ≤ 2147483647 := hr_r_213
            obtain ⟨F_214, hI_215, hp_216, hp_217, hs_218⟩ := hp
            have hk_219 := hI_215.pr (p := P) hprP
            unfold pk at hk_219
            have hc_220 : 16 ≤ μ212.2.1 (P + 1) ∧ μ212.2.1 (P + 1) ≤ 73024 := hI_215.rm.1 _ hprP.cap
            have hpx_221 : μ212.1 26 11 = 0 → PXE μo μ212 P tt ((ee + c9) + (1 - 0)) r_213 1 := fun h0 => hp_216 (by have h9 : μ186.1 26 11 = μ186.1 26 11 := rfl; have h8 : μ212.1 26 11 = μ186.1 26 11 := (F_214.1 26 (ni hprP (fun P => 26) (fun P => [P, P + 1]) rfl) 11); omega)
            clear hp_216
            refine lv_istore (lv' := [(7, .int (iv r_213)), (10, .int (iv i9)), (9, .int (iv m9)), (8, .int (iv c9)), (6, .int (iv 0)), (0, .ref (oP ω 23)), (1, .int (iv x1)), (2, .int (iv x2)), (3, .long (jv x3)), (5, .int (iv x4))]) hx hb dX7_arguments_96 hl (by decide) rfl (fun ls hl => ?_)
            refine lv_iinc (v := iv (c9 + 1)) (lv' := [(8, .int (iv (c9 + 1))), (7, .int (iv r_213)), (10, .int (iv i9)), (9, .int (iv m9)), (6, .int (iv 0)), (0, .ref (oP ω 23)), (1, .int (iv x1)), (2, .int (iv x2)), (3, .long (jv x3)), (5, .int (iv x4))]) hx hb dX7_arguments_98 hl (k := 3) rfl (by rw [show Int32.ofInt 1 = iv 1 from rfl, iv_add]) (by decide) rfl (fun ls hl => ?_)
            refine lv_aload_n hx hb dX7_arguments_101 rfl (lv_at hl 5 rfl) ?_
            refine lv_bipush (v := iv 44) hx hb dX7_arguments_102 rfl ?_
            have htk_222 : TK μ212 := hp_189.fr (K := [P, P + 1]) (Fr.tr Fr.rf F_214 (si hprP (fun P => [P, P + 1]) (fun P => [P, P + 1]) rfl)) (ni hprP (fun P => 26) (fun P => [P, P + 1]) rfl) (ni hprP (fun P => 28) (fun P => [P, P + 1]) rfl)
            have e_223 : μ212.1 26 10 = μ186.1 26 10 := (F_214.1 26 (ni hprP (fun P => 26) (fun P => [P, P + 1]) rfl) 10)
            have e_224 : μ212.1 26 11 = μ186.1 26 11 := (F_214.1 26 (ni hprP (fun P => 26) (fun P => [P, P + 1]) rfl) 11)
            refine xc_iV G (b := 23) (rest := []) (As := [.int (iv 44)]) (c_X7_took_b ω l μ212 44 (by unfold ir; omega) hI_215 htk_222 (by omega)) (wm 3 160 rfl rfl) (wm 3 162 rfl rfl) (wm 0 9 rfl rfl) rfl rfl (by decide) rfl (wm 1 12 rfl rfl) (wm 3 163 rfl rfl) (by decide) hR ⟨nfr hF (by decide), nlo hLo (by decide)⟩ (n := 1) rfl rfl (Nat.le_of_ble_eq_true rfl) hl.1 dX7_arguments_104 (fun r_226 μ225 ρ d0 H locs hr_r_226 hp G => ?_)
            have hr_r_226 : -2147483648 ≤ r_226 ∧ r_226 ≤ 2147483647 := hr_r_226
            obtain ⟨F_227, hI_228, hp_229, hp_230, hs_231, hs_232, hs_233, hs_234, hs_235⟩ := hp
            have hn_236 : -1 ≤ μ225.1 26 10 ∧ μ225.1 26 10 ≤ 3000 := hI_228.nm.2.2.2.2.2.2.2.2.2.2.2.2
            have htb_237 := hp_229.b
            refine lv_istore (lv' := [(9, .int (iv r_226)), (8, .int (iv (c9 + 1))), (7, .int (iv r_213)), (10, .int (iv i9)), (6, .int (iv 0)), (0, .ref (oP ω 23)), (1, .int (iv x1)), (2, .int (iv x2)), (3, .long (jv x3)), (5, .int (iv x4))]) hx hb dX7_arguments_107 hl (by decide) rfl (fun ls hl => ?_)
            refine lv_iinc (v := iv (i9 + 1)) (lv' := [(10, .int (iv (i9 + 1))), (9, .int (iv r_226)), (8, .int (iv (c9 + 1))), (7, .int (iv r_213)), (6, .int (iv 0)), (0, .ref (oP ω 23)), (1, .int (iv x1)), (2, .int (iv x2)), (3, .long (jv x3)), (5, .int (iv x4))]) hx hb dX7_arguments_109 hl (k := 3) rfl (by rw [show Int32.ofInt 1 = iv 1 from rfl, iv_add]) (by decide) rfl (fun ls hl => ?_)
            refine lv_goto (tgt := 48) hx hb dX7_arguments_112 (by decide) ?_
            have e_238 : μ225.1 23 9 = μL34.1 23 9 := ((F_227.1 23 (by decide) 9).trans ((F_214.1 23 (ni hprP (fun P => 23) (fun P => [P, P + 1]) rfl) 9).trans hs_200))
            have e_239 : μ225.1 26 11 = μ186.1 26 11 := (hs_231.trans (F_214.1 26 (ni hprP (fun P => 26) (fun P => [P, P + 1]) rfl) 11))
            have e_240 : μ225.1 P 1 = μ212.1 P 1 := (F_227.1 P (ni hprP (fun P => P) (fun P => [26]) rfl) 1)
            have e_241 : μ225.1 P 1 = μ212.1 P 1 := (F_227.1 P (ni hprP (fun P => P) (fun P => [26]) rfl) 1)
            have e_242 : μ225.1 26 11 = μ186.1 26 11 := (hs_231.trans (F_214.1 26 (ni hprP (fun P => 26) (fun P => [P, P + 1]) rfl) 11))
            have e_243 : μ225.1 P 1 = μ212.1 P 1 := (F_227.1 P (ni hprP (fun P => P) (fun P => [26]) rfl) 1)
            have e_244 : μ225.1 (P + 2) 3 = μ186.1 (P + 2) 3 := ((F_227.1 (P + 2) (ni hprP (fun P => P + 2) (fun P => [26]) rfl) 3).trans (F_214.1 (P + 2) (ni hprP (fun P => P + 2) (fun P => [P, P + 1]) rfl) 3))
            have e_245 : μ225.1 P 1 = μ212.1 P 1 := (F_227.1 P (ni hprP (fun P => P) (fun P => [26]) rfl) 1)
            have e_246 : μ225.1 (P + 2) 3 = μ186.1 (P + 2) 3 := ((F_227.1 (P + 2) (ni hprP (fun P => P + 2) (fun P => [26]) rfl) 3).trans (F_214.1 (P + 2) (ni hprP (fun P => P + 2) (fun P => [P, P + 1]) rfl) 3))
            have hpx_247 : μ225.1 26 11 = 0 → PXE μo μ225 P tt ((ee + c9) + (1 - 0)) r_213 1 := fun h0 => (hpx_221 (by have h9 : μ212.1 26 11 = μ186.1 26 11 := (F_214.1 26 (ni hprP (fun P => 26) (fun P => [P, P + 1]) rfl) 11); have h8 : μ225.1 26 11 = μ186.1 26 11 := (hs_231.trans (F_214.1 26 (ni hprP (fun P => 26) (fun P => [P, P + 1]) rfl) 11)); omega)).fr (K := [26]) (Fr.tr Fr.rf F_227 (by decide)) (npL_p (L := [26]) (by decide) hprP).1 (npL_p (L := [26]) (by decide) hprP).2.1
            have e_248 : μ225.1 2 4 = μ186.1 2 4 := ((F_227.1 2 (by decide) 4).trans (F_214.1 2 (ni hprP (fun P => 2) (fun P => [P, P + 1]) rfl) 4))
            have e_249 : μ225.1 26 7 = μ186.1 26 7 := (hs_233.trans (F_214.1 26 (ni hprP (fun P => 26) (fun P => [P, P + 1]) rfl) 7))
            have e_250 : μ225.1 26 8 = μ186.1 26 8 := (hs_234.trans (F_214.1 26 (ni hprP (fun P => 26) (fun P => [P, P + 1]) rfl) 8))
            have e_251 : μ225.1 26 9 = μ186.1 26 9 := (hs_235.trans (F_214.1 26 (ni hprP (fun P => 26) (fun P => [P, P + 1]) rfl) 9))
            exact ih _ _ _ _ _ _ _ (by omega) ⟨r_213, c9 + 1, r_226, i9 + 1, (Fr.tr (Fr.tr (Fr.tr FL35 F_187 (si hprP (fun P => [2, 3, 4, 23, 24, 26, P, P + 1, P + 2, (P + 2) + 1, (P + 2) + 2, (P + 2) + 3]) (fun P => [2, 3, 4, 23, 24, 26, P, P + 1, P + 2, (P + 2) + 1, (P + 2) + 2, (P + 2) + 3]) rfl)) F_214 (si hprP (fun P => [P, P + 1]) (fun P => [2, 3, 4, 23, 24, 26, P, P + 1, P + 2, (P + 2) + 1, (P + 2) + 2, (P + 2) + 3]) rfl)) F_227 (si hprP (fun P => [26]) (fun P => [2, 3, 4, 23, 24, 26, P, P + 1, P + 2, (P + 2) + 1, (P + 2) + 2, (P + 2) + 3]) rfl)), (by omega), (by omega), (by omega), (by omega), (by omega), (by omega), (by omega), (by omega), hp_229, (by omega), (by omega), (by omega), (by omega), (by omega), (fun h0 => (hpx_247 h0).e (by omega)), (by omega), ((F_227.1 23 (by decide) 2).trans ((F_214.1 23 (ni hprP (fun P => 23) (fun P => [P, P + 1]) rfl) 2).trans (hs_195.trans hi_53))), ((F_227.1 23 (by decide) 5).trans ((F_214.1 23 (ni hprP (fun P => 23) (fun P => [P, P + 1]) rfl) 5).trans (hs_196.trans hi_54))), ((F_227.1 23 (by decide) 6).trans ((F_214.1 23 (ni hprP (fun P => 23) (fun P => [P, P + 1]) rfl) 6).trans (hs_197.trans hi_55))), ((F_227.1 23 (by decide) 7).trans ((F_214.1 23 (ni hprP (fun P => 23) (fun P => [P, P + 1]) rfl) 7).trans (hs_198.trans hi_56))), ((F_227.1 23 (by decide) 8).trans ((F_214.1 23 (ni hprP (fun P => 23) (fun P => [P, P + 1]) rfl) 8).trans (hs_199.trans hi_57))), ((F_227.1 23 (by decide) 10).trans ((F_214.1 23 (ni hprP (fun P => 23) (fun P => [P, P + 1]) rfl) 10).trans (hs_201.trans hi_58))), (hs_232.trans ((F_214.1 26 (ni hprP (fun P => 26) (fun P => [P, P + 1]) rfl) 6).trans (hs_202.trans hi_59))), (by omega), (by omega), (by omega), ((F_227.1 P (ni hprP (fun P => P) (fun P => [26]) rfl) 7).trans (hs_218.trans (hs_203.trans hi_63))), hI_228, rfl, lv_sub hl [0, 1, 2, 3, 4, 5, 6, 7, 8, 9] rfl⟩ G
          · refine lv_aload_n hx hb dX7_arguments_68 rfl (lv_at hl 5 rfl) ?_
            refine lv_iconst (v := iv 2) hx hb dX7_arguments_69 rfl ?_
            refine lv_aload_n hx hb dX7_arguments_70 rfl (lv_at hl 5 rfl) ?_
            refine xa_getr G fd_X7 (a := 23) (x := 26) 0 rfl (by decide) rfl (wm 2 17 rfl rfl) ⟨rfl, rfl, rfl⟩ dX7_arguments_71 rfl (G.sk 23 rfl) (by decide) rfl ?_
            refine xa_getN G fd_X10 (host := "FourTongues") (a := 26) 13 rfl (by decide) (by decide) ⟨rfl, rfl, rfl⟩ dX7_arguments_74 rfl (v := .int (iv (μL34.1 26 13))) (by rw [show μL34.1 26 13 = μL34.1 26 13 from rfl]; rfl) ?_
            have hr_252 : -2147483648 ≤ μL34.1 26 13 ∧ μL34.1 26 13 ≤ 2147483647 := by have h9 := G.hr (a := 26) (k := 13) rfl; exact h9
            refine xc_vV G (b := 23) (rest := []) (As := [.int (iv 2), .int (iv (μL34.1 26 13))]) (c_X7_tellFault ω l μL34 2 (μL34.1 26 13) (by unfold ir; omega) (by unfold ir; omega) hi_64 (by omega)) (wm 3 177 rfl rfl) (wm 3 179 rfl rfl) (wm 0 12 rfl rfl) rfl rfl (by decide) rfl (wm 1 12 rfl rfl) (wm 3 180 rfl rfl) (by decide) hR ⟨nfr hF (by decide), nlo hLo (by decide)⟩ (n := 2) rfl rfl (Nat.le_of_ble_eq_true rfl) hl.1 dX7_arguments_77 (fun μ253 ρ d0 H locs hp G => ?_)
            obtain ⟨F_254, hI_255⟩ := hp
            refine lv_aload_n hx hb dX7_arguments_80 rfl (lv_at hl 5 rfl) ?_
            refine lv_iconst (v := iv 0) hx hb dX7_arguments_81 rfl ?_
            have hpx_256 : μ253.1 26 11 = 0 → PXE μo μ253 P tt (ee + c9) f9 1 := fun h0 => (hi_51 (by have h9 : μL34.1 26 11 = μL34.1 26 11 := rfl; have h8 : μ253.1 26 11 = μL34.1 26 11 := (F_254.1 26 (by decide) 11); omega)).fr (K := [24]) (Fr.tr Fr.rf F_254 (by decide)) (npL_p (L := [24]) (by decide) hprP).1 (npL_p (L := [24]) (by decide) hprP).2.1
            have e_257 : μ253.1 23 2 = P := ((F_254.1 23 (by decide) 2).trans hi_53)
            have e_258 : μ253.1 23 8 = tt := ((F_254.1 23 (by decide) 8).trans hi_57)
            have htk_259 : TK μ253 := hi_45.fr (K := [24]) (Fr.tr Fr.rf F_254 (by decide)) (by decide) (by decide)
            have hk_260 := hi_64.pr (p := P) hprP
            unfold pk at hk_260
            have hc_261 : 16 ≤ μL34.2.1 (P + 1) ∧ μL34.2.1 (P + 1) ≤ 73024 := hi_64.rm.1 _ hprP.cap
            have e_262 : μ253.1 P 1 = μL34.1 P 1 := (F_254.1 P (ni hprP (fun P => P) (fun P => [24]) rfl) 1)
            have hn_263 : -1 ≤ μL34.1 26 10 ∧ μL34.1 26 10 ≤ 3000 := hi_64.nm.2.2.2.2.2.2.2.2.2.2.2.2
            have e_264 : μ253.1 26 10 = μL34.1 26 10 := (F_254.1 26 (by decide) 10)
            have e_265 : μ253.1 26 11 = μL34.1 26 11 := (F_254.1 26 (by decide) 11)
            have hk_266 := hi_64.row (r := P + 2) (hprP.row)
            unfold rk at hk_266
            have e_267 : μ253.1 (P + 2) 3 = μL34.1 (P + 2) 3 := (F_254.1 (P + 2) (ni hprP (fun P => P + 2) (fun P => [24]) rfl) 3)
            have e_268 : μ253.1 P 1 = μL34.1 P 1 := (F_254.1 P (ni hprP (fun P => P) (fun P => [24]) rfl) 1)
            have e_269 : μ253.1 23 9 = μL34.1 23 9 := (F_254.1 23 (by decide) 9)
            have e_270 : μ253.1 23 9 = μL34.1 23 9 := (F_254.1 23 (by decide) 9)
            have e_271 : μ253.1 26 11 = μL34.1 26 11 := (F_254.1 26 (by decide) 11)
            have e_272 : μ253.1 23 9 = μL34.1 23 9 := (F_254.1 23 (by decide) 9)
            have e_273 : μ253.1 26 11 = μL34.1 26 11 := (F_254.1 26 (by decide) 11)
            have e_274 : μ253.1 26 11 = μL34.1 26 11 := (F_254.1 26 (by decide) 11)
            have e_275 : μ253.1 26 10 = μL34.1 26 10 := (F_254.1 26 (by decide) 10)
            have e_276 : μ253.1 P 1 = μL34.1 P 1 := (F_254.1 P (ni hprP (fun P => P) (fun P => [24]) rfl) 1)
            have e_277 : μ253.1 P 1 = μL34.1 P 1 := (F_254.1 P (ni hprP (fun P => P) (fun P => [24]) rfl) 1)
            have e_278 : μ253.1 26 10 = μL34.1 26 10 := (F_254.1 26 (by decide) 10)
            have e_279 : μ253.1 26 11 = μL34.1 26 11 := (F_254.1 26 (by decide) 11)
            have e_280 : μ253.1 (P + 2) 3 = μL34.1 (P + 2) 3 := (F_254.1 (P + 2) (ni hprP (fun P => P + 2) (fun P => [24]) rfl) 3)
            have e_281 : μ253.1 P 1 = μL34.1 P 1 := (F_254.1 P (ni hprP (fun P => P) (fun P => [24]) rfl) 1)
            have e_282 : μ253.1 (P + 2) 3 = μL34.1 (P + 2) 3 := (F_254.1 (P + 2) (ni hprP (fun P => P + 2) (fun P => [24]) rfl) 3)
            refine xc_vV G (b := 23) (rest := []) (As := [.int (iv 0)]) (((fun (_ : Om) (_ : Launch) => hE)) ω l μ253 0 P tt (by omega) hI_255 (by omega) (by omega) htk_259 (by omega) (by omega) (by omega) (by omega) (by omega) (fun _ => Or.inl (by omega))) (wm 4 3 rfl rfl) (wm 4 5 rfl rfl) (wm 0 24 rfl rfl) rfl rfl (by decide) rfl (wm 1 12 rfl rfl) (wm 4 6 rfl rfl) (by decide) hR ⟨sfr (F := F) (a := 0) (by decide), slo (L := Lo) (m := 3) (a := 0) (by decide)⟩ (n := 1) rfl rfl (Nat.le_of_ble_eq_true rfl) hl.1 dX7_arguments_82 (fun μ283 ρ d0 H locs hp G => ?_)
            obtain ⟨F_284, hI_285, hp_286, hp_287, hp_288, hp_289, hp_290, hp_291, hs_292, hs_293, hs_294, hs_295, hs_296, hs_297, hs_298, hs_299, hs_300⟩ := hp
            have hn_301 : -1 ≤ μ283.1 26 10 ∧ μ283.1 26 10 ≤ 3000 := hI_285.nm.2.2.2.2.2.2.2.2.2.2.2.2
            have hk_302 := hI_285.pr (p := P) hprP
            unfold pk at hk_302
            have hc_303 : 16 ≤ μ283.2.1 (P + 1) ∧ μ283.2.1 (P + 1) ≤ 73024 := hI_285.rm.1 _ hprP.cap
            have hk_304 := hI_285.row (r := P + 2) (hprP.row)
            unfold rk at hk_304
            have htb_305 := hp_286.b
            have hpx_306 : μ283.1 26 11 = 0 → PXE μo μ283 P tt ((ee + c9) + (1 - 0)) f9 1 := fun h0 => (PXE.app (hpx_256 (by have h9 : μ253.1 26 11 = μL34.1 26 11 := (F_254.1 26 (by decide) 11); have h8 : μ283.1 26 11 = μ283.1 26 11 := rfl; omega)) (hp_291 h0)).e (by omega)
            refine lv_aload_n hx hb dX7_arguments_85 rfl (lv_at hl 5 rfl) ?_
            refine lv_iload hx hb dX7_arguments_86 (lv_at hl 3 rfl) ?_
            refine lv_iload hx hb dX7_arguments_88 (lv_at hl 4 rfl) ?_
            refine lv_iload hx hb dX7_arguments_90 (lv_at hl 2 rfl) ?_
            refine xb_iadd hx hb dX7_arguments_92 ?_
            have e_307 : μ283.1 23 2 = P := (hs_292.trans ((F_254.1 23 (by decide) 2).trans hi_53))
            have e_308 : μ283.1 23 8 = tt := (hs_296.trans ((F_254.1 23 (by decide) 8).trans hi_57))
            refine xc_iV G (b := 23) (rest := []) (As := [.int (iv f9), .int (iv (0 + c9))]) (c_X7_ifFails ω l μ283 f9 (0 + c9) μo ((ee + c9) + (1 - 0)) (1) P tt (by unfold ir; omega) (by unfold ir; omega) hI_285 (by omega) (by omega) (by omega) hpx_306 (by omega) (by omega)) (wm 4 23 rfl rfl) (wm 4 25 rfl rfl) (wm 0 29 rfl rfl) rfl rfl (by decide) rfl (wm 1 12 rfl rfl) (wm 4 26 rfl rfl) (by decide) hR ⟨nfr hF (by decide), nlo hLo (by decide)⟩ (n := 2) rfl rfl (Nat.le_of_ble_eq_true rfl) hl.1 dX7_arguments_93 (fun r_310 μ309 ρ d0 H locs hr_r_310 hp G => ?_)
            have hr_r_310 : -2147483648 ≤ r_310 ∧ r_310 ≤ 2147483647 := hr_r_310
            obtain ⟨F_311, hI_312, hp_313, hp_314, hs_315⟩ := hp
            have hk_316 := hI_312.pr (p := P) hprP
            unfold pk at hk_316
            have hc_317 : 16 ≤ μ309.2.1 (P + 1) ∧ μ309.2.1 (P + 1) ≤ 73024 := hI_312.rm.1 _ hprP.cap
            have hpx_318 : μ309.1 26 11 = 0 → PXE μo μ309 P tt ((ee + c9) + (1 - 0)) r_310 1 := fun h0 => hp_313 (by have h9 : μ283.1 26 11 = μ283.1 26 11 := rfl; have h8 : μ309.1 26 11 = μ283.1 26 11 := (F_311.1 26 (ni hprP (fun P => 26) (fun P => [P, P + 1]) rfl) 11); omega)
            clear hp_313
            refine lv_istore (lv' := [(7, .int (iv r_310)), (10, .int (iv i9)), (9, .int (iv m9)), (8, .int (iv c9)), (6, .int (iv 0)), (0, .ref (oP ω 23)), (1, .int (iv x1)), (2, .int (iv x2)), (3, .long (jv x3)), (5, .int (iv x4))]) hx hb dX7_arguments_96 hl (by decide) rfl (fun ls hl => ?_)
            refine lv_iinc (v := iv (c9 + 1)) (lv' := [(8, .int (iv (c9 + 1))), (7, .int (iv r_310)), (10, .int (iv i9)), (9, .int (iv m9)), (6, .int (iv 0)), (0, .ref (oP ω 23)), (1, .int (iv x1)), (2, .int (iv x2)), (3, .long (jv x3)), (5, .int (iv x4))]) hx hb dX7_arguments_98 hl (k := 3) rfl (by rw [show Int32.ofInt 1 = iv 1 from rfl, iv_add]) (by decide) rfl (fun ls hl => ?_)
            refine lv_aload_n hx hb dX7_arguments_101 rfl (lv_at hl 5 rfl) ?_
            refine lv_bipush (v := iv 44) hx hb dX7_arguments_102 rfl ?_
            have htk_319 : TK μ309 := hp_286.fr (K := [P, P + 1]) (Fr.tr Fr.rf F_311 (si hprP (fun P => [P, P + 1]) (fun P => [P, P + 1]) rfl)) (ni hprP (fun P => 26) (fun P => [P, P + 1]) rfl) (ni hprP (fun P => 28) (fun P => [P, P + 1]) rfl)
            have e_320 : μ309.1 26 10 = μ283.1 26 10 := (F_311.1 26 (ni hprP (fun P => 26) (fun P => [P, P + 1]) rfl) 10)
            have e_321 : μ309.1 26 11 = μ283.1 26 11 := (F_311.1 26 (ni hprP (fun P => 26) (fun P => [P, P + 1]) rfl) 11)
            refine xc_iV G (b := 23) (rest := []) (As := [.int (iv 44)]) (c_X7_took_b ω l μ309 44 (by unfold ir; omega) hI_312 htk_319 (by omega)) (wm 3 160 rfl rfl) (wm 3 162 rfl rfl) (wm 0 9 rfl rfl) rfl rfl (by decide) rfl (wm 1 12 rfl rfl) (wm 3 163 rfl rfl) (by decide) hR ⟨nfr hF (by decide), nlo hLo (by decide)⟩ (n := 1) rfl rfl (Nat.le_of_ble_eq_true rfl) hl.1 dX7_arguments_104 (fun r_323 μ322 ρ d0 H locs hr_r_323 hp G => ?_)
            have hr_r_323 : -2147483648 ≤ r_323 ∧ r_323 ≤ 2147483647 := hr_r_323
            obtain ⟨F_324, hI_325, hp_326, hp_327, hs_328, hs_329, hs_330, hs_331, hs_332⟩ := hp
            have hn_333 : -1 ≤ μ322.1 26 10 ∧ μ322.1 26 10 ≤ 3000 := hI_325.nm.2.2.2.2.2.2.2.2.2.2.2.2
            have htb_334 := hp_326.b
            refine lv_istore (lv' := [(9, .int (iv r_323)), (8, .int (iv (c9 + 1))), (7, .int (iv r_310)), (10, .int (iv i9)), (6, .int (iv 0)), (0, .ref (oP ω 23)), (1, .int (iv x1)), (2, .int (iv x2)), (3, .long (jv x3)), (5, .int (iv x4))]) hx hb dX7_arguments_107 hl (by decide) rfl (fun ls hl => ?_)
            refine lv_iinc (v := iv (i9 + 1)) (lv' := [(10, .int (iv (i9 + 1))), (9, .int (iv r_323)), (8, .int (iv (c9 + 1))), (7, .int (iv r_310)), (6, .int (iv 0)), (0, .ref (oP ω 23)), (1, .int (iv x1)), (2, .int (iv x2)), (3, .long (jv x3)), (5, .int (iv x4))]) hx hb dX7_arguments_109 hl (k := 3) rfl (by rw [show Int32.ofInt 1 = iv 1 from rfl, iv_add]) (by decide) rfl (fun ls hl => ?_)
            refine lv_goto (tgt := 48) hx hb dX7_arguments_112 (by decide) ?_
            have e_335 : μ322.1 23 9 = μL34.1 23 9 := ((F_324.1 23 (by decide) 9).trans ((F_311.1 23 (ni hprP (fun P => 23) (fun P => [P, P + 1]) rfl) 9).trans (hs_297.trans (F_254.1 23 (by decide) 9))))
            have e_336 : μ322.1 26 11 = μ283.1 26 11 := (hs_328.trans (F_311.1 26 (ni hprP (fun P => 26) (fun P => [P, P + 1]) rfl) 11))
            have e_337 : μ322.1 P 1 = μ309.1 P 1 := (F_324.1 P (ni hprP (fun P => P) (fun P => [26]) rfl) 1)
            have e_338 : μ322.1 P 1 = μ309.1 P 1 := (F_324.1 P (ni hprP (fun P => P) (fun P => [26]) rfl) 1)
            have e_339 : μ322.1 26 11 = μ283.1 26 11 := (hs_328.trans (F_311.1 26 (ni hprP (fun P => 26) (fun P => [P, P + 1]) rfl) 11))
            have e_340 : μ322.1 P 1 = μ309.1 P 1 := (F_324.1 P (ni hprP (fun P => P) (fun P => [26]) rfl) 1)
            have e_341 : μ322.1 (P + 2) 3 = μ283.1 (P + 2) 3 := ((F_324.1 (P + 2) (ni hprP (fun P => P + 2) (fun P => [26]) rfl) 3).trans (F_311.1 (P + 2) (ni hprP (fun P => P + 2) (fun P => [P, P + 1]) rfl) 3))
            have e_342 : μ322.1 P 1 = μ309.1 P 1 := (F_324.1 P (ni hprP (fun P => P) (fun P => [26]) rfl) 1)
            have e_343 : μ322.1 (P + 2) 3 = μ283.1 (P + 2) 3 := ((F_324.1 (P + 2) (ni hprP (fun P => P + 2) (fun P => [26]) rfl) 3).trans (F_311.1 (P + 2) (ni hprP (fun P => P + 2) (fun P => [P, P + 1]) rfl) 3))
            have hpx_344 : μ322.1 26 11 = 0 → PXE μo μ322 P tt ((ee + c9) + (1 - 0)) r_310 1 := fun h0 => (hpx_318 (by have h9 : μ309.1 26 11 = μ283.1 26 11 := (F_311.1 26 (ni hprP (fun P => 26) (fun P => [P, P + 1]) rfl) 11); have h8 : μ322.1 26 11 = μ283.1 26 11 := (hs_328.trans (F_311.1 26 (ni hprP (fun P => 26) (fun P => [P, P + 1]) rfl) 11)); omega)).fr (K := [26]) (Fr.tr Fr.rf F_324 (by decide)) (npL_p (L := [26]) (by decide) hprP).1 (npL_p (L := [26]) (by decide) hprP).2.1
            have e_345 : μ322.1 2 4 = μ283.1 2 4 := ((F_324.1 2 (by decide) 4).trans (F_311.1 2 (ni hprP (fun P => 2) (fun P => [P, P + 1]) rfl) 4))
            have e_346 : μ322.1 26 7 = μ283.1 26 7 := (hs_330.trans (F_311.1 26 (ni hprP (fun P => 26) (fun P => [P, P + 1]) rfl) 7))
            have e_347 : μ322.1 26 8 = μ283.1 26 8 := (hs_331.trans (F_311.1 26 (ni hprP (fun P => 26) (fun P => [P, P + 1]) rfl) 8))
            have e_348 : μ322.1 26 9 = μ283.1 26 9 := (hs_332.trans (F_311.1 26 (ni hprP (fun P => 26) (fun P => [P, P + 1]) rfl) 9))
            exact ih _ _ _ _ _ _ _ (by omega) ⟨r_310, c9 + 1, r_323, i9 + 1, (Fr.tr (Fr.tr (Fr.tr (Fr.tr FL35 F_254 (si hprP (fun P => [24]) (fun P => [2, 3, 4, 23, 24, 26, P, P + 1, P + 2, (P + 2) + 1, (P + 2) + 2, (P + 2) + 3]) rfl)) F_284 (si hprP (fun P => [2, 3, 4, 23, 24, 26, P, P + 1, P + 2, (P + 2) + 1, (P + 2) + 2, (P + 2) + 3]) (fun P => [2, 3, 4, 23, 24, 26, P, P + 1, P + 2, (P + 2) + 1, (P + 2) + 2, (P + 2) + 3]) rfl)) F_311 (si hprP (fun P => [P, P + 1]) (fun P => [2, 3, 4, 23, 24, 26, P, P + 1, P + 2, (P + 2) + 1, (P + 2) + 2, (P + 2) + 3]) rfl)) F_324 (si hprP (fun P => [26]) (fun P => [2, 3, 4, 23, 24, 26, P, P + 1, P + 2, (P + 2) + 1, (P + 2) + 2, (P + 2) + 3]) rfl)), (by omega), (by omega), (by omega), (by omega), (by omega), (by omega), (by omega), (by omega), hp_326, (by omega), (by omega), (by omega), (by omega), (by omega), (fun h0 => (hpx_344 h0).e (by omega)), (by omega), ((F_324.1 23 (by decide) 2).trans ((F_311.1 23 (ni hprP (fun P => 23) (fun P => [P, P + 1]) rfl) 2).trans (hs_292.trans ((F_254.1 23 (by decide) 2).trans hi_53)))), ((F_324.1 23 (by decide) 5).trans ((F_311.1 23 (ni hprP (fun P => 23) (fun P => [P, P + 1]) rfl) 5).trans (hs_293.trans ((F_254.1 23 (by decide) 5).trans hi_54)))), ((F_324.1 23 (by decide) 6).trans ((F_311.1 23 (ni hprP (fun P => 23) (fun P => [P, P + 1]) rfl) 6).trans (hs_294.trans ((F_254.1 23 (by decide) 6).trans hi_55)))), ((F_324.1 23 (by decide) 7).trans ((F_311.1 23 (ni hprP (fun P => 23) (fun P => [P, P + 1]) rfl) 7).trans (hs_295.trans ((F_254.1 23 (by decide) 7).trans hi_56)))), ((F_324.1 23 (by decide) 8).trans ((F_311.1 23 (ni hprP (fun P => 23) (fun P => [P, P + 1]) rfl) 8).trans (hs_296.trans ((F_254.1 23 (by decide) 8).trans hi_57)))), ((F_324.1 23 (by decide) 10).trans ((F_311.1 23 (ni hprP (fun P => 23) (fun P => [P, P + 1]) rfl) 10).trans (hs_298.trans ((F_254.1 23 (by decide) 10).trans hi_58)))), (hs_329.trans ((F_311.1 26 (ni hprP (fun P => 26) (fun P => [P, P + 1]) rfl) 6).trans (hs_299.trans ((F_254.1 26 (by decide) 6).trans hi_59)))), (by omega), (by omega), (by omega), ((F_324.1 P (ni hprP (fun P => P) (fun P => [26]) rfl) 7).trans (hs_315.trans (hs_300.trans ((F_254.1 P (ni hprP (fun P => P) (fun P => [24]) rfl) 7).trans hi_63)))), hI_325, rfl, lv_sub hl [0, 1, 2, 3, 4, 5, 6, 7, 8, 9] rfl⟩ G
    · refine lv_iconst (v := iv 1) hx hb dX7_arguments_38 rfl ?_
      refine lv_goto (tgt := 43) hx hb dX7_arguments_39 (by decide) ?_
      refine lv_istore (lv' := [(9, .int (iv 1)), (8, .int (iv 0)), (7, .int (iv x4)), (6, .int (iv 0)), (0, .ref (oP ω 23)), (1, .int (iv x1)), (2, .int (iv x2)), (3, .long (jv x3)), (5, .int (iv x4))]) hx hb dX7_arguments_43 hl (by decide) rfl (fun ls hl => ?_)
      refine lv_iconst (v := iv 0) hx hb dX7_arguments_45 rfl ?_
      refine lv_istore (lv' := [(10, .int (iv 0)), (9, .int (iv 1)), (8, .int (iv 0)), (7, .int (iv x4)), (6, .int (iv 0)), (0, .ref (oP ω 23)), (1, .int (iv x1)), (2, .int (iv x2)), (3, .long (jv x3)), (5, .int (iv x4))]) hx hb dX7_arguments_46 hl (by decide) rfl (fun ls hl => ?_)
      have e_349 : μ4.1 23 9 = μ.1 23 9 + 1 := hs_11
      have e_350 : μ4.1 P 1 = μ.1 P 1 := (F_5.1 P (ni hprP (fun P => P) (fun P => [26, 23]) rfl) 1)
      have e_351 : μ4.1 P 1 = μ.1 P 1 := (F_5.1 P (ni hprP (fun P => P) (fun P => [26, 23]) rfl) 1)
      have e_352 : μ4.1 P 1 = μ.1 P 1 := (F_5.1 P (ni hprP (fun P => P) (fun P => [26, 23]) rfl) 1)
      have e_353 : μ4.1 (P + 2) 3 = μ.1 (P + 2) 3 := (F_5.1 (P + 2) (ni hprP (fun P => P + 2) (fun P => [26, 23]) rfl) 3)
      have e_354 : μ4.1 P 1 = μ.1 P 1 := (F_5.1 P (ni hprP (fun P => P) (fun P => [26, 23]) rfl) 1)
      have e_355 : μ4.1 (P + 2) 3 = μ.1 (P + 2) 3 := (F_5.1 (P + 2) (ni hprP (fun P => P + 2) (fun P => [26, 23]) rfl) 3)
      have hk_356 := hI.row (r := P + 2) (hprP.row)
      unfold rk at hk_356
      have hpx_357 : μ4.1 26 11 = 0 → PXE μo μ4 P tt ee x4 1 := fun h0 => (hpx (by have h9 : μ.1 26 11 = μ.1 26 11 := rfl; have h8 : μ4.1 26 11 = μ4.1 26 11 := rfl; omega)).fr (K := [26, 23]) (Fr.tr Fr.rf F_5 (by decide)) (npL_p (L := [26, 23]) (by decide) hprP).1 (npL_p (L := [26, 23]) (by decide) hprP).2.1
      refine xl (fun n_9 μ' ls => ∃ (f9 : Int), ∃ (c9 : Int), ∃ (m9 : Int), ∃ (i9 : Int), (Fr [2, 3, 4, 23, 24, 26, P, P + 1, P + 2, (P + 2) + 1, (P + 2) + 2, (P + 2) + 3] μ4 μ') ∧ (-2147483648 ≤ f9 ∧ f9 ≤ 2147483647) ∧ (-2147483648 ≤ c9 ∧ c9 ≤ 2147483647) ∧ (-2147483648 ≤ m9 ∧ m9 ≤ 2147483647) ∧ (-2147483648 ≤ i9 ∧ i9 ≤ 2147483647) ∧ (0 ≤ c9 ∧ c9 ≤ i9) ∧ (μ'.1 23 9 = μ.1 23 9 + 1) ∧ (i9 ≤ 3000) ∧ (0 ≤ m9 ∧ m9 ≤ 1) ∧ (TK μ') ∧ (μ.1 26 11 ≤ μ'.1 26 11) ∧ (μ.1 26 10 ≤ μ'.1 26 10) ∧ (μ.1 P 1 ≤ μ'.1 P 1 ∧ μ'.1 P 1 ≤ μ.1 P 1 + 2 * (μ'.1 26 10 - μ.1 26 10) + (- 2 + 3 * μ'.1 26 11)) ∧ (μ'.1 P 1 ≤ μ.1 P 1 + 2 * (μ'.1 26 10 - μ.1 26 10) + (1 - m9)) ∧ (μ'.1 (P + 2) 3 - μ.1 (P + 2) 3 ≤ μ'.1 P 1 - μ.1 P 1 ∧ μ.1 (P + 2) 3 ≤ μ'.1 (P + 2) 3) ∧ (μ'.1 26 11 = 0 → PXE μo μ' P tt (ee + c9) f9 1) ∧ (μ'.1 2 4 = μ.1 2 4) ∧ (μ'.1 23 2 = P) ∧ (μ'.1 23 5 = μ.1 23 5) ∧ (μ'.1 23 6 = μ.1 23 6) ∧ (μ'.1 23 7 = μ.1 23 7) ∧ (μ'.1 23 8 = tt) ∧ (μ'.1 23 10 = μ.1 23 10) ∧ (μ'.1 26 6 = μ.1 26 6) ∧ (μ'.1 26 7 = μ.1 26 7) ∧ (μ'.1 26 8 = μ.1 26 8) ∧ (μ'.1 26 9 = μ.1 26 9) ∧ (μ'.1 P 7 = μ.1 P 7) ∧ (IC μ') ∧ n_9 = Int.toNat (3000 - i9) ∧ lv_has ls 11 [(10, .int (iv i9)), (9, .int (iv m9)), (8, .int (iv c9)), (7, .int (iv f9)), (6, .int (iv 0)), (0, .ref (oP ω 23)), (1, .int (iv x1)), (2, .int (iv x2)), (3, .long (jv x3)), (5, .int (iv x4))]) (fun n_9 ρ μL358 d0 H locs ls hI_l G ih => ?_) _ _ _ _ _ _ _ ⟨x4, 0, 1, 0, Fr.rf, (by omega), (by omega), (by omega), (by omega), (by omega), (by omega), (by omega), (by omega), hp_7, (by omega), (by omega), (by omega), (by omega), (by omega), (fun h0 => (hpx_357 h0).e (by omega)), (F_5.1 2 (by decide) 4), (hs_16.trans hP.symm), hs_17, hs_18, hs_19, (hs_20.trans htt.symm), hs_21, hs_12, hs_13, hs_14, hs_15, (F_5.1 P (ni hprP (fun P => P) (fun P => [26, 23]) rfl) 7), hI_6, rfl, lv_sub hl [0, 1, 2, 3, 4, 5, 6, 7, 8, 9] rfl⟩ G
      obtain ⟨f9, c9, m9, i9, FL359, hi_361, hi_362, hi_363, hi_364, hi_365, hi_366, hi_367, hi_368, hi_369, hi_370, hi_371, hi_372, hi_373, hi_374, hi_375, hi_376, hi_377, hi_378, hi_379, hi_380, hi_381, hi_382, hi_383, hi_384, hi_385, hi_386, hi_387, hi_388, hn360, hl⟩ := hI_l
      have htb_389 := hi_369.b
      refine lv_iload hx hb dX7_arguments_48 (lv_at hl 0 rfl) ?_
      refine lv_sipush (v := iv 3000) hx hb dX7_arguments_50 rfl ?_
      refine xb_icmp_ge (tgt := 115) hx hb (by unfold ir; omega) (by unfold ir; omega) dX7_arguments_53 (by decide) (fun c_53 => ?_) (fun c_53 => ?_)
      · refine lv_aload_n hx hb dX7_arguments_115 rfl (lv_at hl 5 rfl) ?_
        refine lv_bipush (v := iv 41) hx hb dX7_arguments_116 rfl ?_
        have hn_390 : -1 ≤ μL358.1 26 10 ∧ μL358.1 26 10 ≤ 3000 := hi_388.nm.2.2.2.2.2.2.2.2.2.2.2.2
        refine xc_vV G (b := 23) (rest := []) (As := [.int (iv 41)]) (c_X7_needClosed_b ω l μL358 41 (by unfold ir; omega) hi_388 hi_369 (by omega) (by omega)) (wm 3 214 rfl rfl) (wm 3 216 rfl rfl) (wm 0 18 rfl rfl) rfl rfl (by decide) rfl (wm 1 12 rfl rfl) (wm 3 217 rfl rfl) (by decide) hR ⟨nfr hF (by decide), nlo hLo (by decide)⟩ (n := 1) rfl rfl (Nat.le_of_ble_eq_true rfl) hl.1 dX7_arguments_118 (fun μ391 ρ d0 H locs hp G => ?_)
        obtain ⟨F_392, hI_393, hp_394, hp_395, hp_396, hs_397, hs_398, hs_399, hs_400, hs_401, hs_402, hs_403, hs_404, hs_405, hs_406, hs_407⟩ := hp
        have hn_408 : -1 ≤ μ391.1 26 10 ∧ μ391.1 26 10 ≤ 3000 := hI_393.nm.2.2.2.2.2.2.2.2.2.2.2.2
        have htb_409 := hp_394.b
        refine lv_aload_n hx hb dX7_arguments_121 rfl (lv_at hl 5 rfl) ?_
        refine xa_getr G fd_X7 (a := 23) (x := P) 2 rfl (by decide) rfl (wm 2 19 rfl rfl) ⟨rfl, rfl, rfl⟩ dX7_arguments_122 rfl (hs_402.trans hi_377) (by omega) (hprP.hq ω ρ) ?_
        refine lv_iconst (v := iv 0) hx hb dX7_arguments_125 rfl ?_
        refine lv_lload_n hx hb dX7_arguments_126 rfl (lv_at hl 8 rfl) ?_
        refine lv_dconst0 hx hb dX7_arguments_127 ?_
        refine xb_topd (fun dd_410 he_dd_410 => ?_)
        have hpx_411 : μ391.1 26 11 = 0 → PXE μo μ391 P tt (ee + c9) f9 1 := fun h0 => (hi_375 (by have h9 : μL358.1 26 11 = μL358.1 26 11 := rfl; have h8 : μ391.1 26 11 = μ391.1 26 11 := rfl; omega)).fr (K := [26, 23]) (Fr.tr Fr.rf F_392 (by decide)) (npL_p (L := [26, 23]) (by decide) hprP).1 (npL_p (L := [26, 23]) (by decide) hprP).2.1
        have hk_412 := hi_388.row (r := P + 2) (hprP.row)
        unfold rk at hk_412
        have e_413 : μ391.1 (P + 2) 3 = μL358.1 (P + 2) 3 := (F_392.1 (P + 2) (ni hprP (fun P => P + 2) (fun P => [26, 23]) rfl) 3)
        refine xc_iV G (b := P) (rest := []) (As := [.int (iv 0), .long (jv x3), .double (dv dd_410)]) (c_X8_addConstant ω l μ391 P 0 x3 dd_410 (μL358.1 (P + 2) 3) hprP (by unfold ir; omega) hx3 hI_393 (by omega) (by omega)) (wm 4 67 rfl rfl) (wm 4 68 rfl rfl) (wm 4 69 rfl rfl) hprP.ly rfl (by decide) (hprP.hq ω ρ) (wm 1 9 rfl rfl) (wm 4 70 rfl rfl) (by decide) hR ⟨nfr hF (by decide), nlo hLo (by decide)⟩ (n := 3) rfl rfl (Nat.le_of_ble_eq_true rfl) hl.1 dX7_arguments_128 (fun r_415 μ414 ρ d0 H locs hr_r_415 hp G => ?_)
        have hr_r_415 : -2147483648 ≤ r_415 ∧ r_415 ≤ 2147483647 := hr_r_415
        obtain ⟨F_416, hI_417, hp_418, hp_419⟩ := hp
        have hk_420 := hI_417.row (r := P + 2) (hprP.row)
        unfold rk at hk_420
        refine lv_istore (lv' := [(10, .int (iv r_415)), (9, .int (iv m9)), (8, .int (iv c9)), (7, .int (iv f9)), (6, .int (iv 0)), (0, .ref (oP ω 23)), (1, .int (iv x1)), (2, .int (iv x2)), (3, .long (jv x3)), (5, .int (iv x4))]) hx hb dX7_arguments_131 hl (by decide) rfl (fun ls hl => ?_)
        refine lv_aload_n hx hb dX7_arguments_133 rfl (lv_at hl 5 rfl) ?_
        refine lv_iload_n hx hb dX7_arguments_134 rfl (lv_at hl 6 rfl) ?_
        refine lv_iload hx hb dX7_arguments_135 (lv_at hl 2 rfl) ?_
        refine lv_iconst (v := iv 4) hx hb dX7_arguments_137 rfl ?_
        refine xb_imul hx hb dX7_arguments_138 ?_
        refine lv_iload_n hx hb dX7_arguments_139 rfl (lv_at hl 7 rfl) ?_
        refine xb_iadd hx hb dX7_arguments_140 ?_
        refine lv_iload hx hb dX7_arguments_141 (lv_at hl 0 rfl) ?_
        refine lv_iload hx hb dX7_arguments_143 (lv_at hl 3 rfl) ?_
        have hpx_421 : μ414.1 26 11 = 0 → PXE μo μ414 P tt (ee + c9) f9 1 := fun h0 => (hpx_411 (by have h9 : μ391.1 26 11 = μ391.1 26 11 := rfl; have h8 : μ414.1 26 11 = μ391.1 26 11 := (F_416.1 26 (ni hprP (fun P => 26) (fun P => [P + 2, (P + 2) + 1, (P + 2) + 2, (P + 2) + 3]) rfl) 11); omega)).fr (K := [P + 2, (P + 2) + 1, (P + 2) + 2, (P + 2) + 3]) (Fr.tr Fr.rf F_416 (si hprP (fun P => [P + 2, (P + 2) + 1, (P + 2) + 2, (P + 2) + 3]) (fun P => [P + 2, (P + 2) + 1, (P + 2) + 2, (P + 2) + 3]) rfl)) (ni hprP (fun P => P) (fun P => [P + 2, (P + 2) + 1, (P + 2) + 2, (P + 2) + 3]) rfl) (ni hprP (fun P => P + 1) (fun P => [P + 2, (P + 2) + 1, (P + 2) + 2, (P + 2) + 3]) rfl)
        have e_422 : μ414.1 23 2 = P := ((F_416.1 23 (ni hprP (fun P => 23) (fun P => [P + 2, (P + 2) + 1, (P + 2) + 2, (P + 2) + 3]) rfl) 2).trans (hs_402.trans hi_377))
        have e_423 : μ414.1 23 8 = tt := ((F_416.1 23 (ni hprP (fun P => 23) (fun P => [P + 2, (P + 2) + 1, (P + 2) + 2, (P + 2) + 3]) rfl) 8).trans (hs_406.trans hi_381))
        have hk_424 := hi_388.pr (p := P) hprP
        unfold pk at hk_424
        have hc_425 : 16 ≤ μL358.2.1 (P + 1) ∧ μL358.2.1 (P + 1) ≤ 73024 := hi_388.rm.1 _ hprP.cap
        have e_426 : μ414.1 P 1 = μL358.1 P 1 := ((F_416.1 P (ni hprP (fun P => P) (fun P => [P + 2, (P + 2) + 1, (P + 2) + 2, (P + 2) + 3]) rfl) 1).trans (F_392.1 P (ni hprP (fun P => P) (fun P => [26, 23]) rfl) 1))
        have e_427 : μ414.1 P 1 = μL358.1 P 1 := ((F_416.1 P (ni hprP (fun P => P) (fun P => [P + 2, (P + 2) + 1, (P + 2) + 2, (P + 2) + 3]) rfl) 1).trans (F_392.1 P (ni hprP (fun P => P) (fun P => [26, 23]) rfl) 1))
        refine xc_vV G (b := 23) (rest := []) (As := [.int (iv x1), .int (iv ((c9 * 4) + x2)), .int (iv r_415), .int (iv f9)]) (c_X7_endOfParts ω l μ414 x1 ((c9 * 4) + x2) r_415 f9 μo (ee + c9) (1) P tt (by unfold ir; omega) (by unfold ir; omega) (by unfold ir; omega) (by unfold ir; omega) hI_417 (by omega) (by omega) (by omega) hpx_421 (Or.inr ⟨by omega, by omega, by omega⟩) (by omega) (by by_cases q1 : x1 = 13; (rw [q1, ef13 (by omega) hx2b]; omega); (rw [show x1 = 14 by omega, ef14 (by omega) hx2b]; omega))) (wm 4 27 rfl rfl) (wm 4 29 rfl rfl) (wm 0 30 rfl rfl) rfl rfl (by decide) rfl (wm 1 12 rfl rfl) (wm 4 30 rfl rfl) (by decide) hR ⟨nfr hF (by decide), nlo hLo (by decide)⟩ (n := 4) rfl rfl (Nat.le_of_ble_eq_true rfl) hl.1 dX7_arguments_145 (fun μ428 ρ d0 H locs hp G => ?_)
        obtain ⟨F_429, hI_430, hp_431, hs_432, hs_433⟩ := hp
        have hpx_434 : μ428.1 26 11 = 0 → PXE μo μ428 P tt 1 (-1) 1 := fun h0 => PXE.of (hp_431 (by have h9 : μ414.1 26 11 = μ391.1 26 11 := (F_416.1 26 (ni hprP (fun P => 26) (fun P => [P + 2, (P + 2) + 1, (P + 2) + 2, (P + 2) + 3]) rfl) 11); have h8 : μ428.1 26 11 = μ391.1 26 11 := ((F_429.1 26 (ni hprP (fun P => 26) (fun P => [P, P + 1]) rfl) 11).trans (F_416.1 26 (ni hprP (fun P => 26) (fun P => [P + 2, (P + 2) + 1, (P + 2) + 2, (P + 2) + 3]) rfl) 11)); omega))
        clear hp_431
        have htk_435 : TK μ428 := hp_394.fr (K := [P, P + 1, P + 2, (P + 2) + 1, (P + 2) + 2, (P + 2) + 3]) (Fr.tr (Fr.tr Fr.rf F_416 (si hprP (fun P => [P + 2, (P + 2) + 1, (P + 2) + 2, (P + 2) + 3]) (fun P => [P, P + 1, P + 2, (P + 2) + 1, (P + 2) + 2, (P + 2) + 3]) rfl)) F_429 (si hprP (fun P => [P, P + 1]) (fun P => [P, P + 1, P + 2, (P + 2) + 1, (P + 2) + 2, (P + 2) + 3]) rfl)) (ni hprP (fun P => 26) (fun P => [P, P + 1, P + 2, (P + 2) + 1, (P + 2) + 2, (P + 2) + 3]) rfl) (ni hprP (fun P => 28) (fun P => [P, P + 1, P + 2, (P + 2) + 1, (P + 2) + 2, (P + 2) + 3]) rfl)
        have e_436 : μ428.1 26 11 = μ391.1 26 11 := ((F_429.1 26 (ni hprP (fun P => 26) (fun P => [P, P + 1]) rfl) 11).trans (F_416.1 26 (ni hprP (fun P => 26) (fun P => [P + 2, (P + 2) + 1, (P + 2) + 2, (P + 2) + 3]) rfl) 11))
        have e_437 : μ428.1 26 11 = μ391.1 26 11 := ((F_429.1 26 (ni hprP (fun P => 26) (fun P => [P, P + 1]) rfl) 11).trans (F_416.1 26 (ni hprP (fun P => 26) (fun P => [P + 2, (P + 2) + 1, (P + 2) + 2, (P + 2) + 3]) rfl) 11))
        have e_438 : μ428.1 26 10 = μ391.1 26 10 := ((F_429.1 26 (ni hprP (fun P => 26) (fun P => [P, P + 1]) rfl) 10).trans (F_416.1 26 (ni hprP (fun P => 26) (fun P => [P + 2, (P + 2) + 1, (P + 2) + 2, (P + 2) + 3]) rfl) 10))
        have e_439 : μ428.1 P 1 = μ414.1 P 1 + 1 := hs_432
        have e_440 : μ428.1 P 1 = μ414.1 P 1 + 1 := hs_432
        have e_441 : μ428.1 26 10 = μ391.1 26 10 := ((F_429.1 26 (ni hprP (fun P => 26) (fun P => [P, P + 1]) rfl) 10).trans (F_416.1 26 (ni hprP (fun P => 26) (fun P => [P + 2, (P + 2) + 1, (P + 2) + 2, (P + 2) + 3]) rfl) 10))
        have e_442 : μ428.1 26 11 = μ391.1 26 11 := ((F_429.1 26 (ni hprP (fun P => 26) (fun P => [P, P + 1]) rfl) 11).trans (F_416.1 26 (ni hprP (fun P => 26) (fun P => [P + 2, (P + 2) + 1, (P + 2) + 2, (P + 2) + 3]) rfl) 11))
        have e_443 : μ428.1 (P + 2) 3 = μ414.1 (P + 2) 3 := (F_429.1 (P + 2) (ni hprP (fun P => P + 2) (fun P => [P, P + 1]) rfl) 3)
        have e_444 : μ428.1 P 1 = μ414.1 P 1 + 1 := hs_432
        have e_445 : μ428.1 (P + 2) 3 = μ414.1 (P + 2) 3 := (F_429.1 (P + 2) (ni hprP (fun P => P + 2) (fun P => [P, P + 1]) rfl) 3)
        have e_446 : μ428.1 23 9 = μL358.1 23 9 - 1 := ((F_429.1 23 (ni hprP (fun P => 23) (fun P => [P, P + 1]) rfl) 9).trans ((F_416.1 23 (ni hprP (fun P => 23) (fun P => [P + 2, (P + 2) + 1, (P + 2) + 2, (P + 2) + 3]) rfl) 9).trans hs_397))
        exact xr_v G hret hlk dX7_arguments_148 ⟨(Fr.tr (Fr.tr (Fr.tr (Fr.tr (Fr.tr Fr.rf F_5 (si hprP (fun P => [26, 23]) (fun P => [2, 3, 4, 23, 24, 26, P, P + 1, P + 2, (P + 2) + 1, (P + 2) + 2, (P + 2) + 3]) rfl)) FL359 (si hprP (fun P => [2, 3, 4, 23, 24, 26, P, P + 1, P + 2, (P + 2) + 1, (P + 2) + 2, (P + 2) + 3]) (fun P => [2, 3, 4, 23, 24, 26, P, P + 1, P + 2, (P + 2) + 1, (P + 2) + 2, (P + 2) + 3]) rfl)) F_392 (si hprP (fun P => [26, 23]) (fun P => [2, 3, 4, 23, 24, 26, P, P + 1, P + 2, (P + 2) + 1, (P + 2) + 2, (P + 2) + 3]) rfl)) F_416 (si hprP (fun P => [P + 2, (P + 2) + 1, (P + 2) + 2, (P + 2) + 3]) (fun P => [2, 3, 4, 23, 24, 26, P, P + 1, P + 2, (P + 2) + 1, (P + 2) + 2, (P + 2) + 3]) rfl)) F_429 (si hprP (fun P => [P, P + 1]) (fun P => [2, 3, 4, 23, 24, 26, P, P + 1, P + 2, (P + 2) + 1, (P + 2) + 2, (P + 2) + 3]) rfl)), hI_430, htk_435, (by omega), (by omega), (by omega), (by omega), (fun h0 => (PXE.ex (hpx_434 h0)).e (by omega)), (((F_429.1 23 (ni hprP (fun P => 23) (fun P => [P, P + 1]) rfl) 2).trans ((F_416.1 23 (ni hprP (fun P => 23) (fun P => [P + 2, (P + 2) + 1, (P + 2) + 2, (P + 2) + 3]) rfl) 2).trans (hs_402.trans hi_377)))).trans hP, ((F_429.1 23 (ni hprP (fun P => 23) (fun P => [P, P + 1]) rfl) 5).trans ((F_416.1 23 (ni hprP (fun P => 23) (fun P => [P + 2, (P + 2) + 1, (P + 2) + 2, (P + 2) + 3]) rfl) 5).trans (hs_403.trans hi_378))), ((F_429.1 23 (ni hprP (fun P => 23) (fun P => [P, P + 1]) rfl) 6).trans ((F_416.1 23 (ni hprP (fun P => 23) (fun P => [P + 2, (P + 2) + 1, (P + 2) + 2, (P + 2) + 3]) rfl) 6).trans (hs_404.trans hi_379))), ((F_429.1 23 (ni hprP (fun P => 23) (fun P => [P, P + 1]) rfl) 7).trans ((F_416.1 23 (ni hprP (fun P => 23) (fun P => [P + 2, (P + 2) + 1, (P + 2) + 2, (P + 2) + 3]) rfl) 7).trans (hs_405.trans hi_380))), (((F_429.1 23 (ni hprP (fun P => 23) (fun P => [P, P + 1]) rfl) 8).trans ((F_416.1 23 (ni hprP (fun P => 23) (fun P => [P + 2, (P + 2) + 1, (P + 2) + 2, (P + 2) + 3]) rfl) 8).trans (hs_406.trans hi_381)))).trans htt, (by omega), ((F_429.1 23 (ni hprP (fun P => 23) (fun P => [P, P + 1]) rfl) 10).trans ((F_416.1 23 (ni hprP (fun P => 23) (fun P => [P + 2, (P + 2) + 1, (P + 2) + 2, (P + 2) + 3]) rfl) 10).trans (hs_407.trans hi_382))), ((F_429.1 26 (ni hprP (fun P => 26) (fun P => [P, P + 1]) rfl) 6).trans ((F_416.1 26 (ni hprP (fun P => 26) (fun P => [P + 2, (P + 2) + 1, (P + 2) + 2, (P + 2) + 3]) rfl) 6).trans (hs_398.trans hi_383))), (hs_433.trans ((F_416.1 P (ni hprP (fun P => P) (fun P => [P + 2, (P + 2) + 1, (P + 2) + 2, (P + 2) + 3]) rfl) 7).trans ((F_392.1 P (ni hprP (fun P => P) (fun P => [26, 23]) rfl) 7).trans hi_387)))⟩
      · refine lv_iload hx hb dX7_arguments_56 (lv_at hl 1 rfl) ?_
        refine xb_if_eq (tgt := 115) hx hb (by unfold ir; omega) dX7_arguments_58 (by decide) (fun c_58 => ?_) (fun c_58 => ?_)
        · refine lv_aload_n hx hb dX7_arguments_115 rfl (lv_at hl 5 rfl) ?_
          refine lv_bipush (v := iv 41) hx hb dX7_arguments_116 rfl ?_
          have hn_447 : -1 ≤ μL358.1 26 10 ∧ μL358.1 26 10 ≤ 3000 := hi_388.nm.2.2.2.2.2.2.2.2.2.2.2.2
          refine xc_vV G (b := 23) (rest := []) (As := [.int (iv 41)]) (c_X7_needClosed_b ω l μL358 41 (by unfold ir; omega) hi_388 hi_369 (by omega) (by omega)) (wm 3 214 rfl rfl) (wm 3 216 rfl rfl) (wm 0 18 rfl rfl) rfl rfl (by decide) rfl (wm 1 12 rfl rfl) (wm 3 217 rfl rfl) (by decide) hR ⟨nfr hF (by decide), nlo hLo (by decide)⟩ (n := 1) rfl rfl (Nat.le_of_ble_eq_true rfl) hl.1 dX7_arguments_118 (fun μ448 ρ d0 H locs hp G => ?_)
          obtain ⟨F_449, hI_450, hp_451, hp_452, hp_453, hs_454, hs_455, hs_456, hs_457, hs_458, hs_459, hs_460, hs_461, hs_462, hs_463, hs_464⟩ := hp
          have hn_465 : -1 ≤ μ448.1 26 10 ∧ μ448.1 26 10 ≤ 3000 := hI_450.nm.2.2.2.2.2.2.2.2.2.2.2.2
          have htb_466 := hp_451.b
          refine lv_aload_n hx hb dX7_arguments_121 rfl (lv_at hl 5 rfl) ?_
          refine xa_getr G fd_X7 (a := 23) (x := P) 2 rfl (by decide) rfl (wm 2 19 rfl rfl) ⟨rfl, rfl, rfl⟩ dX7_arguments_122 rfl (hs_459.trans hi_377) (by omega) (hprP.hq ω ρ) ?_
          refine lv_iconst (v := iv 0) hx hb dX7_arguments_125 rfl ?_
          refine lv_lload_n hx hb dX7_arguments_126 rfl (lv_at hl 8 rfl) ?_
          refine lv_dconst0 hx hb dX7_arguments_127 ?_
          refine xb_topd (fun dd_467 he_dd_467 => ?_)
          have hpx_468 : μ448.1 26 11 = 0 → PXE μo μ448 P tt (ee + c9) f9 1 := fun h0 => (hi_375 (by have h9 : μL358.1 26 11 = μL358.1 26 11 := rfl; have h8 : μ448.1 26 11 = μ448.1 26 11 := rfl; omega)).fr (K := [26, 23]) (Fr.tr Fr.rf F_449 (by decide)) (npL_p (L := [26, 23]) (by decide) hprP).1 (npL_p (L := [26, 23]) (by decide) hprP).2.1
          have hk_469 := hi_388.row (r := P + 2) (hprP.row)
          unfold rk at hk_469
          have e_470 : μ448.1 (P + 2) 3 = μL358.1 (P + 2) 3 := (F_449.1 (P + 2) (ni hprP (fun P => P + 2) (fun P => [26, 23]) rfl) 3)
          refine xc_iV G (b := P) (rest := []) (As := [.int (iv 0), .long (jv x3), .double (dv dd_467)]) (c_X8_addConstant ω l μ448 P 0 x3 dd_467 (μL358.1 (P + 2) 3) hprP (by unfold ir; omega) hx3 hI_450 (by omega) (by omega)) (wm 4 67 rfl rfl) (wm 4 68 rfl rfl) (wm 4 69 rfl rfl) hprP.ly rfl (by decide) (hprP.hq ω ρ) (wm 1 9 rfl rfl) (wm 4 70 rfl rfl) (by decide) hR ⟨nfr hF (by decide), nlo hLo (by decide)⟩ (n := 3) rfl rfl (Nat.le_of_ble_eq_true rfl) hl.1 dX7_arguments_128 (fun r_472 μ471 ρ d0 H locs hr_r_472 hp G => ?_)
          have hr_r_472 : -2147483648 ≤ r_472 ∧ r_472 ≤ 2147483647 := hr_r_472
          obtain ⟨F_473, hI_474, hp_475, hp_476⟩ := hp
          have hk_477 := hI_474.row (r := P + 2) (hprP.row)
          unfold rk at hk_477
          refine lv_istore (lv' := [(10, .int (iv r_472)), (9, .int (iv m9)), (8, .int (iv c9)), (7, .int (iv f9)), (6, .int (iv 0)), (0, .ref (oP ω 23)), (1, .int (iv x1)), (2, .int (iv x2)), (3, .long (jv x3)), (5, .int (iv x4))]) hx hb dX7_arguments_131 hl (by decide) rfl (fun ls hl => ?_)
          refine lv_aload_n hx hb dX7_arguments_133 rfl (lv_at hl 5 rfl) ?_
          refine lv_iload_n hx hb dX7_arguments_134 rfl (lv_at hl 6 rfl) ?_
          refine lv_iload hx hb dX7_arguments_135 (lv_at hl 2 rfl) ?_
          refine lv_iconst (v := iv 4) hx hb dX7_arguments_137 rfl ?_
          refine xb_imul hx hb dX7_arguments_138 ?_
          refine lv_iload_n hx hb dX7_arguments_139 rfl (lv_at hl 7 rfl) ?_
          refine xb_iadd hx hb dX7_arguments_140 ?_
          refine lv_iload hx hb dX7_arguments_141 (lv_at hl 0 rfl) ?_
          refine lv_iload hx hb dX7_arguments_143 (lv_at hl 3 rfl) ?_
          have hpx_478 : μ471.1 26 11 = 0 → PXE μo μ471 P tt (ee + c9) f9 1 := fun h0 => (hpx_468 (by have h9 : μ448.1 26 11 = μ448.1 26 11 := rfl; have h8 : μ471.1 26 11 = μ448.1 26 11 := (F_473.1 26 (ni hprP (fun P => 26) (fun P => [P + 2, (P + 2) + 1, (P + 2) + 2, (P + 2) + 3]) rfl) 11); omega)).fr (K := [P + 2, (P + 2) + 1, (P + 2) + 2, (P + 2) + 3]) (Fr.tr Fr.rf F_473 (si hprP (fun P => [P + 2, (P + 2) + 1, (P + 2) + 2, (P + 2) + 3]) (fun P => [P + 2, (P + 2) + 1, (P + 2) + 2, (P + 2) + 3]) rfl)) (ni hprP (fun P => P) (fun P => [P + 2, (P + 2) + 1, (P + 2) + 2, (P + 2) + 3]) rfl) (ni hprP (fun P => P + 1) (fun P => [P + 2, (P + 2) + 1, (P + 2) + 2, (P + 2) + 3]) rfl)
          have e_479 : μ471.1 23 2 = P := ((F_473.1 23 (ni hprP (fun P => 23) (fun P => [P + 2, (P + 2) + 1, (P + 2) + 2, (P + 2) + 3]) rfl) 2).trans (hs_459.trans hi_377))
          have e_480 : μ471.1 23 8 = tt := ((F_473.1 23 (ni hprP (fun P => 23) (fun P => [P + 2, (P + 2) + 1, (P + 2) + 2, (P + 2) + 3]) rfl) 8).trans (hs_463.trans hi_381))
          have hk_481 := hi_388.pr (p := P) hprP
          unfold pk at hk_481
          have hc_482 : 16 ≤ μL358.2.1 (P + 1) ∧ μL358.2.1 (P + 1) ≤ 73024 := hi_388.rm.1 _ hprP.cap
          have e_483 : μ471.1 P 1 = μL358.1 P 1 := ((F_473.1 P (ni hprP (fun P => P) (fun P => [P + 2, (P + 2) + 1, (P + 2) + 2, (P + 2) + 3]) rfl) 1).trans (F_449.1 P (ni hprP (fun P => P) (fun P => [26, 23]) rfl) 1))
          have e_484 : μ471.1 P 1 = μL358.1 P 1 := ((F_473.1 P (ni hprP (fun P => P) (fun P => [P + 2, (P + 2) + 1, (P + 2) + 2, (P + 2) + 3]) rfl) 1).trans (F_449.1 P (ni hprP (fun P => P) (fun P => [26, 23]) rfl) 1))
          refine xc_vV G (b := 23) (rest := []) (As := [.int (iv x1), .int (iv ((c9 * 4) + x2)), .int (iv r_472), .int (iv f9)]) (c_X7_endOfParts ω l μ471 x1 ((c9 * 4) + x2) r_472 f9 μo (ee + c9) (1) P tt (by unfold ir; omega) (by unfold ir; omega) (by unfold ir; omega) (by unfold ir; omega) hI_474 (by omega) (by omega) (by omega) hpx_478 (Or.inr ⟨by omega, by omega, by omega⟩) (by omega) (by by_cases q1 : x1 = 13; (rw [q1, ef13 (by omega) hx2b]; omega); (rw [show x1 = 14 by omega, ef14 (by omega) hx2b]; omega))) (wm 4 27 rfl rfl) (wm 4 29 rfl rfl) (wm 0 30 rfl rfl) rfl rfl (by decide) rfl (wm 1 12 rfl rfl) (wm 4 30 rfl rfl) (by decide) hR ⟨nfr hF (by decide), nlo hLo (by decide)⟩ (n := 4) rfl rfl (Nat.le_of_ble_eq_true rfl) hl.1 dX7_arguments_145 (fun μ485 ρ d0 H locs hp G => ?_)
          obtain ⟨F_486, hI_487, hp_488, hs_489, hs_490⟩ := hp
          have hpx_491 : μ485.1 26 11 = 0 → PXE μo μ485 P tt 1 (-1) 1 := fun h0 => PXE.of (hp_488 (by have h9 : μ471.1 26 11 = μ448.1 26 11 := (F_473.1 26 (ni hprP (fun P => 26) (fun P => [P + 2, (P + 2) + 1, (P + 2) + 2, (P + 2) + 3]) rfl) 11); have h8 : μ485.1 26 11 = μ448.1 26 11 := ((F_486.1 26 (ni hprP (fun P => 26) (fun P => [P, P + 1]) rfl) 11).trans (F_473.1 26 (ni hprP (fun P => 26) (fun P => [P + 2, (P + 2) + 1, (P + 2) + 2, (P + 2) + 3]) rfl) 11)); omega))
          clear hp_488
          have htk_492 : TK μ485 := hp_451.fr (K := [P, P + 1, P + 2, (P + 2) + 1, (P + 2) + 2, (P + 2) + 3]) (Fr.tr (Fr.tr Fr.rf F_473 (si hprP (fun P => [P + 2, (P + 2) + 1, (P + 2) + 2, (P + 2) + 3]) (fun P => [P, P + 1, P + 2, (P + 2) + 1, (P + 2) + 2, (P + 2) + 3]) rfl)) F_486 (si hprP (fun P => [P, P + 1]) (fun P => [P, P + 1, P + 2, (P + 2) + 1, (P + 2) + 2, (P + 2) + 3]) rfl)) (ni hprP (fun P => 26) (fun P => [P, P + 1, P + 2, (P + 2) + 1, (P + 2) + 2, (P + 2) + 3]) rfl) (ni hprP (fun P => 28) (fun P => [P, P + 1, P + 2, (P + 2) + 1, (P + 2) + 2, (P + 2) + 3]) rfl)
          have e_493 : μ485.1 26 11 = μ448.1 26 11 := ((F_486.1 26 (ni hprP (fun P => 26) (fun P => [P, P + 1]) rfl) 11).trans (F_473.1 26 (ni hprP (fun P => 26) (fun P => [P + 2, (P + 2) + 1, (P + 2) + 2, (P + 2) + 3]) rfl) 11))
          have e_494 : μ485.1 26 11 = μ448.1 26 11 := ((F_486.1 26 (ni hprP (fun P => 26) (fun P => [P, P + 1]) rfl) 11).trans (F_473.1 26 (ni hprP (fun P => 26) (fun P => [P + 2, (P + 2) + 1, (P + 2) + 2, (P + 2) + 3]) rfl) 11))
          have e_495 : μ485.1 26 10 = μ448.1 26 10 := ((F_486.1 26 (ni hprP (fun P => 26) (fun P => [P, P + 1]) rfl) 10).trans (F_473.1 26 (ni hprP (fun P => 26) (fun P => [P + 2, (P + 2) + 1, (P + 2) + 2, (P + 2) + 3]) rfl) 10))
          have e_496 : μ485.1 P 1 = μ471.1 P 1 + 1 := hs_489
          have e_497 : μ485.1 P 1 = μ471.1 P 1 + 1 := hs_489
          have e_498 : μ485.1 26 10 = μ448.1 26 10 := ((F_486.1 26 (ni hprP (fun P => 26) (fun P => [P, P + 1]) rfl) 10).trans (F_473.1 26 (ni hprP (fun P => 26) (fun P => [P + 2, (P + 2) + 1, (P + 2) + 2, (P + 2) + 3]) rfl) 10))
          have e_499 : μ485.1 26 11 = μ448.1 26 11 := ((F_486.1 26 (ni hprP (fun P => 26) (fun P => [P, P + 1]) rfl) 11).trans (F_473.1 26 (ni hprP (fun P => 26) (fun P => [P + 2, (P + 2) + 1, (P + 2) + 2, (P + 2) + 3]) rfl) 11))
          have e_500 : μ485.1 (P + 2) 3 = μ471.1 (P + 2) 3 := (F_486.1 (P + 2) (ni hprP (fun P => P + 2) (fun P => [P, P + 1]) rfl) 3)
          have e_501 : μ485.1 P 1 = μ471.1 P 1 + 1 := hs_489
          have e_502 : μ485.1 (P + 2) 3 = μ471.1 (P + 2) 3 := (F_486.1 (P + 2) (ni hprP (fun P => P + 2) (fun P => [P, P + 1]) rfl) 3)
          have e_503 : μ485.1 23 9 = μL358.1 23 9 - 1 := ((F_486.1 23 (ni hprP (fun P => 23) (fun P => [P, P + 1]) rfl) 9).trans ((F_473.1 23 (ni hprP (fun P => 23) (fun P => [P + 2, (P + 2) + 1, (P + 2) + 2, (P + 2) + 3]) rfl) 9).trans hs_454))
          exact xr_v G hret hlk dX7_arguments_148 ⟨(Fr.tr (Fr.tr (Fr.tr (Fr.tr (Fr.tr Fr.rf F_5 (si hprP (fun P => [26, 23]) (fun P => [2, 3, 4, 23, 24, 26, P, P + 1, P + 2, (P + 2) + 1, (P + 2) + 2, (P + 2) + 3]) rfl)) FL359 (si hprP (fun P => [2, 3, 4, 23, 24, 26, P, P + 1, P + 2, (P + 2) + 1, (P + 2) + 2, (P + 2) + 3]) (fun P => [2, 3, 4, 23, 24, 26, P, P + 1, P + 2, (P + 2) + 1, (P + 2) + 2, (P + 2) + 3]) rfl)) F_449 (si hprP (fun P => [26, 23]) (fun P => [2, 3, 4, 23, 24, 26, P, P + 1, P + 2, (P + 2) + 1, (P + 2) + 2, (P + 2) + 3]) rfl)) F_473 (si hprP (fun P => [P + 2, (P + 2) + 1, (P + 2) + 2, (P + 2) + 3]) (fun P => [2, 3, 4, 23, 24, 26, P, P + 1, P + 2, (P + 2) + 1, (P + 2) + 2, (P + 2) + 3]) rfl)) F_486 (si hprP (fun P => [P, P + 1]) (fun P => [2, 3, 4, 23, 24, 26, P, P + 1, P + 2, (P + 2) + 1, (P + 2) + 2, (P + 2) + 3]) rfl)), hI_487, htk_492, (by omega), (by omega), (by omega), (by omega), (fun h0 => (PXE.ex (hpx_491 h0)).e (by omega)), (((F_486.1 23 (ni hprP (fun P => 23) (fun P => [P, P + 1]) rfl) 2).trans ((F_473.1 23 (ni hprP (fun P => 23) (fun P => [P + 2, (P + 2) + 1, (P + 2) + 2, (P + 2) + 3]) rfl) 2).trans (hs_459.trans hi_377)))).trans hP, ((F_486.1 23 (ni hprP (fun P => 23) (fun P => [P, P + 1]) rfl) 5).trans ((F_473.1 23 (ni hprP (fun P => 23) (fun P => [P + 2, (P + 2) + 1, (P + 2) + 2, (P + 2) + 3]) rfl) 5).trans (hs_460.trans hi_378))), ((F_486.1 23 (ni hprP (fun P => 23) (fun P => [P, P + 1]) rfl) 6).trans ((F_473.1 23 (ni hprP (fun P => 23) (fun P => [P + 2, (P + 2) + 1, (P + 2) + 2, (P + 2) + 3]) rfl) 6).trans (hs_461.trans hi_379))), ((F_486.1 23 (ni hprP (fun P => 23) (fun P => [P, P + 1]) rfl) 7).trans ((F_473.1 23 (ni hprP (fun P => 23) (fun P => [P + 2, (P + 2) + 1, (P + 2) + 2, (P + 2) + 3]) rfl) 7).trans (hs_462.trans hi_380))), (((F_486.1 23 (ni hprP (fun P => 23) (fun P => [P, P + 1]) rfl) 8).trans ((F_473.1 23 (ni hprP (fun P => 23) (fun P => [P + 2, (P + 2) + 1, (P + 2) + 2, (P + 2) + 3]) rfl) 8).trans (hs_463.trans hi_381)))).trans htt, (by omega), ((F_486.1 23 (ni hprP (fun P => 23) (fun P => [P, P + 1]) rfl) 10).trans ((F_473.1 23 (ni hprP (fun P => 23) (fun P => [P + 2, (P + 2) + 1, (P + 2) + 2, (P + 2) + 3]) rfl) 10).trans (hs_464.trans hi_382))), ((F_486.1 26 (ni hprP (fun P => 26) (fun P => [P, P + 1]) rfl) 6).trans ((F_473.1 26 (ni hprP (fun P => 26) (fun P => [P + 2, (P + 2) + 1, (P + 2) + 2, (P + 2) + 3]) rfl) 6).trans (hs_455.trans hi_383))), (hs_490.trans ((F_473.1 P (ni hprP (fun P => P) (fun P => [P + 2, (P + 2) + 1, (P + 2) + 2, (P + 2) + 3]) rfl) 7).trans ((F_449.1 P (ni hprP (fun P => P) (fun P => [26, 23]) rfl) 7).trans hi_387)))⟩
        · refine lv_iload hx hb dX7_arguments_61 (lv_at hl 2 rfl) ?_
          refine lv_bipush (v := iv 8) hx hb dX7_arguments_63 rfl ?_
          refine xb_icmp_lt (tgt := 80) hx hb (by unfold ir; omega) (by unfold ir; omega) dX7_arguments_65 (by decide) (fun c_65 => ?_) (fun c_65 => ?_)
          · refine lv_aload_n hx hb dX7_arguments_80 rfl (lv_at hl 5 rfl) ?_
            refine lv_iconst (v := iv 0) hx hb dX7_arguments_81 rfl ?_
            have e_504 : μL358.1 23 2 = P := hi_377
            have e_505 : μL358.1 23 8 = tt := hi_381
            have hk_506 := hi_388.pr (p := P) hprP
            unfold pk at hk_506
            have hc_507 : 16 ≤ μL358.2.1 (P + 1) ∧ μL358.2.1 (P + 1) ≤ 73024 := hi_388.rm.1 _ hprP.cap
            have hn_508 : -1 ≤ μL358.1 26 10 ∧ μL358.1 26 10 ≤ 3000 := hi_388.nm.2.2.2.2.2.2.2.2.2.2.2.2
            have hk_509 := hi_388.row (r := P + 2) (hprP.row)
            unfold rk at hk_509
            refine xc_vV G (b := 23) (rest := []) (As := [.int (iv 0)]) (((fun (_ : Om) (_ : Launch) => hE)) ω l μL358 0 P tt (by omega) hi_388 (by omega) (by omega) hi_369 (by omega) (by omega) (by omega) (by omega) (by omega) (fun _ => Or.inl (by omega))) (wm 4 3 rfl rfl) (wm 4 5 rfl rfl) (wm 0 24 rfl rfl) rfl rfl (by decide) rfl (wm 1 12 rfl rfl) (wm 4 6 rfl rfl) (by decide) hR ⟨sfr (F := F) (a := 0) (by decide), slo (L := Lo) (m := 3) (a := 0) (by decide)⟩ (n := 1) rfl rfl (Nat.le_of_ble_eq_true rfl) hl.1 dX7_arguments_82 (fun μ510 ρ d0 H locs hp G => ?_)
            obtain ⟨F_511, hI_512, hp_513, hp_514, hp_515, hp_516, hp_517, hp_518, hs_519, hs_520, hs_521, hs_522, hs_523, hs_524, hs_525, hs_526, hs_527⟩ := hp
            have hn_528 : -1 ≤ μ510.1 26 10 ∧ μ510.1 26 10 ≤ 3000 := hI_512.nm.2.2.2.2.2.2.2.2.2.2.2.2
            have hk_529 := hI_512.pr (p := P) hprP
            unfold pk at hk_529
            have hc_530 : 16 ≤ μ510.2.1 (P + 1) ∧ μ510.2.1 (P + 1) ≤ 73024 := hI_512.rm.1 _ hprP.cap
            have hk_531 := hI_512.row (r := P + 2) (hprP.row)
            unfold rk at hk_531
            have htb_532 := hp_513.b
            have hpx_533 : μ510.1 26 11 = 0 → PXE μo μ510 P tt ((ee + c9) + (1 - 0)) f9 1 := fun h0 => (PXE.app (hi_375 (by have h9 : μL358.1 26 11 = μL358.1 26 11 := rfl; have h8 : μ510.1 26 11 = μ510.1 26 11 := rfl; omega)) (hp_518 h0)).e (by omega)
            refine lv_aload_n hx hb dX7_arguments_85 rfl (lv_at hl 5 rfl) ?_
            refine lv_iload hx hb dX7_arguments_86 (lv_at hl 3 rfl) ?_
            refine lv_iload hx hb dX7_arguments_88 (lv_at hl 4 rfl) ?_
            refine lv_iload hx hb dX7_arguments_90 (lv_at hl 2 rfl) ?_
            refine xb_iadd hx hb dX7_arguments_92 ?_
            have e_534 : μ510.1 23 2 = P := (hs_519.trans hi_377)
            have e_535 : μ510.1 23 8 = tt := (hs_523.trans hi_381)
            refine xc_iV G (b := 23) (rest := []) (As := [.int (iv f9), .int (iv (0 + c9))]) (c_X7_ifFails ω l μ510 f9 (0 + c9) μo ((ee + c9) + (1 - 0)) (1) P tt (by unfold ir; omega) (by unfold ir; omega) hI_512 (by omega) (by omega) (by omega) hpx_533 (by omega) (by omega)) (wm 4 23 rfl rfl) (wm 4 25 rfl rfl) (wm 0 29 rfl rfl) rfl rfl (by decide) rfl (wm 1 12 rfl rfl) (wm 4 26 rfl rfl) (by decide) hR ⟨nfr hF (by decide), nlo hLo (by decide)⟩ (n := 2) rfl rfl (Nat.le_of_ble_eq_true rfl) hl.1 dX7_arguments_93 (fun r_537 μ536 ρ d0 H locs hr_r_537 hp G => ?_)
            have hr_r_537 : -2147483648 ≤ r_537 ∧ r_537 ≤ 2147483647 := hr_r_537
            obtain ⟨F_538, hI_539, hp_540, hp_541, hs_542⟩ := hp
            have hk_543 := hI_539.pr (p := P) hprP
            unfold pk at hk_543
            have hc_544 : 16 ≤ μ536.2.1 (P + 1) ∧ μ536.2.1 (P + 1) ≤ 73024 := hI_539.rm.1 _ hprP.cap
            have hpx_545 : μ536.1 26 11 = 0 → PXE μo μ536 P tt ((ee + c9) + (1 - 0)) r_537 1 := fun h0 => hp_540 (by have h9 : μ510.1 26 11 = μ510.1 26 11 := rfl; have h8 : μ536.1 26 11 = μ510.1 26 11 := (F_538.1 26 (ni hprP (fun P => 26) (fun P => [P, P + 1]) rfl) 11); omega)
            clear hp_540
            refine lv_istore (lv' := [(7, .int (iv r_537)), (10, .int (iv i9)), (9, .int (iv m9)), (8, .int (iv c9)), (6, .int (iv 0)), (0, .ref (oP ω 23)), (1, .int (iv x1)), (2, .int (iv x2)), (3, .long (jv x3)), (5, .int (iv x4))]) hx hb dX7_arguments_96 hl (by decide) rfl (fun ls hl => ?_)
            refine lv_iinc (v := iv (c9 + 1)) (lv' := [(8, .int (iv (c9 + 1))), (7, .int (iv r_537)), (10, .int (iv i9)), (9, .int (iv m9)), (6, .int (iv 0)), (0, .ref (oP ω 23)), (1, .int (iv x1)), (2, .int (iv x2)), (3, .long (jv x3)), (5, .int (iv x4))]) hx hb dX7_arguments_98 hl (k := 3) rfl (by rw [show Int32.ofInt 1 = iv 1 from rfl, iv_add]) (by decide) rfl (fun ls hl => ?_)
            refine lv_aload_n hx hb dX7_arguments_101 rfl (lv_at hl 5 rfl) ?_
            refine lv_bipush (v := iv 44) hx hb dX7_arguments_102 rfl ?_
            have htk_546 : TK μ536 := hp_513.fr (K := [P, P + 1]) (Fr.tr Fr.rf F_538 (si hprP (fun P => [P, P + 1]) (fun P => [P, P + 1]) rfl)) (ni hprP (fun P => 26) (fun P => [P, P + 1]) rfl) (ni hprP (fun P => 28) (fun P => [P, P + 1]) rfl)
            have e_547 : μ536.1 26 10 = μ510.1 26 10 := (F_538.1 26 (ni hprP (fun P => 26) (fun P => [P, P + 1]) rfl) 10)
            have e_548 : μ536.1 26 11 = μ510.1 26 11 := (F_538.1 26 (ni hprP (fun P => 26) (fun P => [P, P + 1]) rfl) 11)
            refine xc_iV G (b := 23) (rest := []) (As := [.int (iv 44)]) (c_X7_took_b ω l μ536 44 (by unfold ir; omega) hI_539 htk_546 (by omega)) (wm 3 160 rfl rfl) (wm 3 162 rfl rfl) (wm 0 9 rfl rfl) rfl rfl (by decide) rfl (wm 1 12 rfl rfl) (wm 3 163 rfl rfl) (by decide) hR ⟨nfr hF (by decide), nlo hLo (by decide)⟩ (n := 1) rfl rfl (Nat.le_of_ble_eq_true rfl) hl.1 dX7_arguments_104 (fun r_550 μ549 ρ d0 H locs hr_r_550 hp G => ?_)
            have hr_r_550 : -2147483648 ≤ r_550 ∧ r_550 ≤ 2147483647 := hr_r_550
            obtain ⟨F_551, hI_552, hp_553, hp_554, hs_555, hs_556, hs_557, hs_558, hs_559⟩ := hp
            have hn_560 : -1 ≤ μ549.1 26 10 ∧ μ549.1 26 10 ≤ 3000 := hI_552.nm.2.2.2.2.2.2.2.2.2.2.2.2
            have htb_561 := hp_553.b
            refine lv_istore (lv' := [(9, .int (iv r_550)), (8, .int (iv (c9 + 1))), (7, .int (iv r_537)), (10, .int (iv i9)), (6, .int (iv 0)), (0, .ref (oP ω 23)), (1, .int (iv x1)), (2, .int (iv x2)), (3, .long (jv x3)), (5, .int (iv x4))]) hx hb dX7_arguments_107 hl (by decide) rfl (fun ls hl => ?_)
            refine lv_iinc (v := iv (i9 + 1)) (lv' := [(10, .int (iv (i9 + 1))), (9, .int (iv r_550)), (8, .int (iv (c9 + 1))), (7, .int (iv r_537)), (6, .int (iv 0)), (0, .ref (oP ω 23)), (1, .int (iv x1)), (2, .int (iv x2)), (3, .long (jv x3)), (5, .int (iv x4))]) hx hb dX7_arguments_109 hl (k := 3) rfl (by rw [show Int32.ofInt 1 = iv 1 from rfl, iv_add]) (by decide) rfl (fun ls hl => ?_)
            refine lv_goto (tgt := 48) hx hb dX7_arguments_112 (by decide) ?_
            have e_562 : μ549.1 23 9 = μL358.1 23 9 := ((F_551.1 23 (by decide) 9).trans ((F_538.1 23 (ni hprP (fun P => 23) (fun P => [P, P + 1]) rfl) 9).trans hs_524))
            have e_563 : μ549.1 26 11 = μ510.1 26 11 := (hs_555.trans (F_538.1 26 (ni hprP (fun P => 26) (fun P => [P, P + 1]) rfl) 11))
            have e_564 : μ549.1 P 1 = μ536.1 P 1 := (F_551.1 P (ni hprP (fun P => P) (fun P => [26]) rfl) 1)
            have e_565 : μ549.1 P 1 = μ536.1 P 1 := (F_551.1 P (ni hprP (fun P => P) (fun P => [26]) rfl) 1)
            have e_566 : μ549.1 26 11 = μ510.1 26 11 := (hs_555.trans (F_538.1 26 (ni hprP (fun P => 26) (fun P => [P, P + 1]) rfl) 11))
            have e_567 : μ549.1 P 1 = μ536.1 P 1 := (F_551.1 P (ni hprP (fun P => P) (fun P => [26]) rfl) 1)
            have e_568 : μ549.1 (P + 2) 3 = μ510.1 (P + 2) 3 := ((F_551.1 (P + 2) (ni hprP (fun P => P + 2) (fun P => [26]) rfl) 3).trans (F_538.1 (P + 2) (ni hprP (fun P => P + 2) (fun P => [P, P + 1]) rfl) 3))
            have e_569 : μ549.1 P 1 = μ536.1 P 1 := (F_551.1 P (ni hprP (fun P => P) (fun P => [26]) rfl) 1)
            have e_570 : μ549.1 (P + 2) 3 = μ510.1 (P + 2) 3 := ((F_551.1 (P + 2) (ni hprP (fun P => P + 2) (fun P => [26]) rfl) 3).trans (F_538.1 (P + 2) (ni hprP (fun P => P + 2) (fun P => [P, P + 1]) rfl) 3))
            have hpx_571 : μ549.1 26 11 = 0 → PXE μo μ549 P tt ((ee + c9) + (1 - 0)) r_537 1 := fun h0 => (hpx_545 (by have h9 : μ536.1 26 11 = μ510.1 26 11 := (F_538.1 26 (ni hprP (fun P => 26) (fun P => [P, P + 1]) rfl) 11); have h8 : μ549.1 26 11 = μ510.1 26 11 := (hs_555.trans (F_538.1 26 (ni hprP (fun P => 26) (fun P => [P, P + 1]) rfl) 11)); omega)).fr (K := [26]) (Fr.tr Fr.rf F_551 (by decide)) (npL_p (L := [26]) (by decide) hprP).1 (npL_p (L := [26]) (by decide) hprP).2.1
            have e_572 : μ549.1 2 4 = μ510.1 2 4 := ((F_551.1 2 (by decide) 4).trans (F_538.1 2 (ni hprP (fun P => 2) (fun P => [P, P + 1]) rfl) 4))
            have e_573 : μ549.1 26 7 = μ510.1 26 7 := (hs_557.trans (F_538.1 26 (ni hprP (fun P => 26) (fun P => [P, P + 1]) rfl) 7))
            have e_574 : μ549.1 26 8 = μ510.1 26 8 := (hs_558.trans (F_538.1 26 (ni hprP (fun P => 26) (fun P => [P, P + 1]) rfl) 8))
            have e_575 : μ549.1 26 9 = μ510.1 26 9 := (hs_559.trans (F_538.1 26 (ni hprP (fun P => 26) (fun P => [P, P + 1]) rfl) 9))
            exact ih _ _ _ _ _ _ _ (by omega) ⟨r_537, c9 + 1, r_550, i9 + 1, (Fr.tr (Fr.tr (Fr.tr FL359 F_511 (si hprP (fun P => [2, 3, 4, 23, 24, 26, P, P + 1, P + 2, (P + 2) + 1, (P + 2) + 2, (P + 2) + 3]) (fun P => [2, 3, 4, 23, 24, 26, P, P + 1, P + 2, (P + 2) + 1, (P + 2) + 2, (P + 2) + 3]) rfl)) F_538 (si hprP (fun P => [P, P + 1]) (fun P => [2, 3, 4, 23, 24, 26, P, P + 1, P + 2, (P + 2) + 1, (P + 2) + 2, (P + 2) + 3]) rfl)) F_551 (si hprP (fun P => [26]) (fun P => [2, 3, 4, 23, 24, 26, P, P + 1, P + 2, (P + 2) + 1, (P + 2) + 2, (P + 2) + 3]) rfl)), (by omega), (by omega), (by omega), (by omega), (by omega), (by omega), (by omega), (by omega), hp_553, (by omega), (by omega), (by omega), (by omega), (by omega), (fun h0 => (hpx_571 h0).e (by omega)), (by omega), ((F_551.1 23 (by decide) 2).trans ((F_538.1 23 (ni hprP (fun P => 23) (fun P => [P, P + 1]) rfl) 2).trans (hs_519.trans hi_377))), ((F_551.1 23 (by decide) 5).trans ((F_538.1 23 (ni hprP (fun P => 23) (fun P => [P, P + 1]) rfl) 5).trans (hs_520.trans hi_378))), ((F_551.1 23 (by decide) 6).trans ((F_538.1 23 (ni hprP (fun P => 23) (fun P => [P, P + 1]) rfl) 6).trans (hs_521.trans hi_379))), ((F_551.1 23 (by decide) 7).trans ((F_538.1 23 (ni hprP (fun P => 23) (fun P => [P, P + 1]) rfl) 7).trans (hs_522.trans hi_380))), ((F_551.1 23 (by decide) 8).trans ((F_538.1 23 (ni hprP (fun P => 23) (fun P => [P, P + 1]) rfl) 8).trans (hs_523.trans hi_381))), ((F_551.1 23 (by decide) 10).trans ((F_538.1 23 (ni hprP (fun P => 23) (fun P => [P, P + 1]) rfl) 10).trans (hs_525.trans hi_382))), (hs_556.trans ((F_538.1 26 (ni hprP (fun P => 26) (fun P => [P, P + 1]) rfl) 6).trans (hs_526.trans hi_383))), (by omega), (by omega), (by omega), ((F_551.1 P (ni hprP (fun P => P) (fun P => [26]) rfl) 7).trans (hs_542.trans (hs_527.trans hi_387))), hI_552, rfl, lv_sub hl [0, 1, 2, 3, 4, 5, 6, 7, 8, 9] rfl⟩ G
          · refine lv_aload_n hx hb dX7_arguments_68 rfl (lv_at hl 5 rfl) ?_
            refine lv_iconst (v := iv 2) hx hb dX7_arguments_69 rfl ?_
            refine lv_aload_n hx hb dX7_arguments_70 rfl (lv_at hl 5 rfl) ?_
            refine xa_getr G fd_X7 (a := 23) (x := 26) 0 rfl (by decide) rfl (wm 2 17 rfl rfl) ⟨rfl, rfl, rfl⟩ dX7_arguments_71 rfl (G.sk 23 rfl) (by decide) rfl ?_
            refine xa_getN G fd_X10 (host := "FourTongues") (a := 26) 13 rfl (by decide) (by decide) ⟨rfl, rfl, rfl⟩ dX7_arguments_74 rfl (v := .int (iv (μL358.1 26 13))) (by rw [show μL358.1 26 13 = μL358.1 26 13 from rfl]; rfl) ?_
            have hr_576 : -2147483648 ≤ μL358.1 26 13 ∧ μL358.1 26 13 ≤ 2147483647 := by have h9 := G.hr (a := 26) (k := 13) rfl; exact h9
            refine xc_vV G (b := 23) (rest := []) (As := [.int (iv 2), .int (iv (μL358.1 26 13))]) (c_X7_tellFault ω l μL358 2 (μL358.1 26 13) (by unfold ir; omega) (by unfold ir; omega) hi_388 (by omega)) (wm 3 177 rfl rfl) (wm 3 179 rfl rfl) (wm 0 12 rfl rfl) rfl rfl (by decide) rfl (wm 1 12 rfl rfl) (wm 3 180 rfl rfl) (by decide) hR ⟨nfr hF (by decide), nlo hLo (by decide)⟩ (n := 2) rfl rfl (Nat.le_of_ble_eq_true rfl) hl.1 dX7_arguments_77 (fun μ577 ρ d0 H locs hp G => ?_)
            obtain ⟨F_578, hI_579⟩ := hp
            refine lv_aload_n hx hb dX7_arguments_80 rfl (lv_at hl 5 rfl) ?_
            refine lv_iconst (v := iv 0) hx hb dX7_arguments_81 rfl ?_
            have hpx_580 : μ577.1 26 11 = 0 → PXE μo μ577 P tt (ee + c9) f9 1 := fun h0 => (hi_375 (by have h9 : μL358.1 26 11 = μL358.1 26 11 := rfl; have h8 : μ577.1 26 11 = μL358.1 26 11 := (F_578.1 26 (by decide) 11); omega)).fr (K := [24]) (Fr.tr Fr.rf F_578 (by decide)) (npL_p (L := [24]) (by decide) hprP).1 (npL_p (L := [24]) (by decide) hprP).2.1
            have e_581 : μ577.1 23 2 = P := ((F_578.1 23 (by decide) 2).trans hi_377)
            have e_582 : μ577.1 23 8 = tt := ((F_578.1 23 (by decide) 8).trans hi_381)
            have htk_583 : TK μ577 := hi_369.fr (K := [24]) (Fr.tr Fr.rf F_578 (by decide)) (by decide) (by decide)
            have hk_584 := hi_388.pr (p := P) hprP
            unfold pk at hk_584
            have hc_585 : 16 ≤ μL358.2.1 (P + 1) ∧ μL358.2.1 (P + 1) ≤ 73024 := hi_388.rm.1 _ hprP.cap
            have e_586 : μ577.1 P 1 = μL358.1 P 1 := (F_578.1 P (ni hprP (fun P => P) (fun P => [24]) rfl) 1)
            have hn_587 : -1 ≤ μL358.1 26 10 ∧ μL358.1 26 10 ≤ 3000 := hi_388.nm.2.2.2.2.2.2.2.2.2.2.2.2
            have e_588 : μ577.1 26 10 = μL358.1 26 10 := (F_578.1 26 (by decide) 10)
            have e_589 : μ577.1 26 11 = μL358.1 26 11 := (F_578.1 26 (by decide) 11)
            have hk_590 := hi_388.row (r := P + 2) (hprP.row)
            unfold rk at hk_590
            have e_591 : μ577.1 (P + 2) 3 = μL358.1 (P + 2) 3 := (F_578.1 (P + 2) (ni hprP (fun P => P + 2) (fun P => [24]) rfl) 3)
            have e_592 : μ577.1 P 1 = μL358.1 P 1 := (F_578.1 P (ni hprP (fun P => P) (fun P => [24]) rfl) 1)
            have e_593 : μ577.1 23 9 = μL358.1 23 9 := (F_578.1 23 (by decide) 9)
            have e_594 : μ577.1 23 9 = μL358.1 23 9 := (F_578.1 23 (by decide) 9)
            have e_595 : μ577.1 26 11 = μL358.1 26 11 := (F_578.1 26 (by decide) 11)
            have e_596 : μ577.1 23 9 = μL358.1 23 9 := (F_578.1 23 (by decide) 9)
            have e_597 : μ577.1 26 11 = μL358.1 26 11 := (F_578.1 26 (by decide) 11)
            have e_598 : μ577.1 26 11 = μL358.1 26 11 := (F_578.1 26 (by decide) 11)
            have e_599 : μ577.1 26 10 = μL358.1 26 10 := (F_578.1 26 (by decide) 10)
            have e_600 : μ577.1 P 1 = μL358.1 P 1 := (F_578.1 P (ni hprP (fun P => P) (fun P => [24]) rfl) 1)
            have e_601 : μ577.1 P 1 = μL358.1 P 1 := (F_578.1 P (ni hprP (fun P => P) (fun P => [24]) rfl) 1)
            have e_602 : μ577.1 26 10 = μL358.1 26 10 := (F_578.1 26 (by decide) 10)
            have e_603 : μ577.1 26 11 = μL358.1 26 11 := (F_578.1 26 (by decide) 11)
            have e_604 : μ577.1 (P + 2) 3 = μL358.1 (P + 2) 3 := (F_578.1 (P + 2) (ni hprP (fun P => P + 2) (fun P => [24]) rfl) 3)
            have e_605 : μ577.1 P 1 = μL358.1 P 1 := (F_578.1 P (ni hprP (fun P => P) (fun P => [24]) rfl) 1)
            have e_606 : μ577.1 (P + 2) 3 = μL358.1 (P + 2) 3 := (F_578.1 (P + 2) (ni hprP (fun P => P + 2) (fun P => [24]) rfl) 3)
            refine xc_vV G (b := 23) (rest := []) (As := [.int (iv 0)]) (((fun (_ : Om) (_ : Launch) => hE)) ω l μ577 0 P tt (by omega) hI_579 (by omega) (by omega) htk_583 (by omega) (by omega) (by omega) (by omega) (by omega) (fun _ => Or.inl (by omega))) (wm 4 3 rfl rfl) (wm 4 5 rfl rfl) (wm 0 24 rfl rfl) rfl rfl (by decide) rfl (wm 1 12 rfl rfl) (wm 4 6 rfl rfl) (by decide) hR ⟨sfr (F := F) (a := 0) (by decide), slo (L := Lo) (m := 3) (a := 0) (by decide)⟩ (n := 1) rfl rfl (Nat.le_of_ble_eq_true rfl) hl.1 dX7_arguments_82 (fun μ607 ρ d0 H locs hp G => ?_)
            obtain ⟨F_608, hI_609, hp_610, hp_611, hp_612, hp_613, hp_614, hp_615, hs_616, hs_617, hs_618, hs_619, hs_620, hs_621, hs_622, hs_623, hs_624⟩ := hp
            have hn_625 : -1 ≤ μ607.1 26 10 ∧ μ607.1 26 10 ≤ 3000 := hI_609.nm.2.2.2.2.2.2.2.2.2.2.2.2
            have hk_626 := hI_609.pr (p := P) hprP
            unfold pk at hk_626
            have hc_627 : 16 ≤ μ607.2.1 (P + 1) ∧ μ607.2.1 (P + 1) ≤ 73024 := hI_609.rm.1 _ hprP.cap
            have hk_628 := hI_609.row (r := P + 2) (hprP.row)
            unfold rk at hk_628
            have htb_629 := hp_610.b
            have hpx_630 : μ607.1 26 11 = 0 → PXE μo μ607 P tt ((ee + c9) + (1 - 0)) f9 1 := fun h0 => (PXE.app (hpx_580 (by have h9 : μ577.1 26 11 = μL358.1 26 11 := (F_578.1 26 (by decide) 11); have h8 : μ607.1 26 11 = μ607.1 26 11 := rfl; omega)) (hp_615 h0)).e (by omega)
            refine lv_aload_n hx hb dX7_arguments_85 rfl (lv_at hl 5 rfl) ?_
            refine lv_iload hx hb dX7_arguments_86 (lv_at hl 3 rfl) ?_
            refine lv_iload hx hb dX7_arguments_88 (lv_at hl 4 rfl) ?_
            refine lv_iload hx hb dX7_arguments_90 (lv_at hl 2 rfl) ?_
            refine xb_iadd hx hb dX7_arguments_92 ?_
            have e_631 : μ607.1 23 2 = P := (hs_616.trans ((F_578.1 23 (by decide) 2).trans hi_377))
            have e_632 : μ607.1 23 8 = tt := (hs_620.trans ((F_578.1 23 (by decide) 8).trans hi_381))
            refine xc_iV G (b := 23) (rest := []) (As := [.int (iv f9), .int (iv (0 + c9))]) (c_X7_ifFails ω l μ607 f9 (0 + c9) μo ((ee + c9) + (1 - 0)) (1) P tt (by unfold ir; omega) (by unfold ir; omega) hI_609 (by omega) (by omega) (by omega) hpx_630 (by omega) (by omega)) (wm 4 23 rfl rfl) (wm 4 25 rfl rfl) (wm 0 29 rfl rfl) rfl rfl (by decide) rfl (wm 1 12 rfl rfl) (wm 4 26 rfl rfl) (by decide) hR ⟨nfr hF (by decide), nlo hLo (by decide)⟩ (n := 2) rfl rfl (Nat.le_of_ble_eq_true rfl) hl.1 dX7_arguments_93 (fun r_634 μ633 ρ d0 H locs hr_r_634 hp G => ?_)
            have hr_r_634 : -2147483648 ≤ r_634 ∧ r_634 ≤ 2147483647 := hr_r_634
            obtain ⟨F_635, hI_636, hp_637, hp_638, hs_639⟩ := hp
            have hk_640 := hI_636.pr (p := P) hprP
            unfold pk at hk_640
            have hc_641 : 16 ≤ μ633.2.1 (P + 1) ∧ μ633.2.1 (P + 1) ≤ 73024 := hI_636.rm.1 _ hprP.cap
            have hpx_642 : μ633.1 26 11 = 0 → PXE μo μ633 P tt ((ee + c9) + (1 - 0)) r_634 1 := fun h0 => hp_637 (by have h9 : μ607.1 26 11 = μ607.1 26 11 := rfl; have h8 : μ633.1 26 11 = μ607.1 26 11 := (F_635.1 26 (ni hprP (fun P => 26) (fun P => [P, P + 1]) rfl) 11); omega)
            clear hp_637
            refine lv_istore (lv' := [(7, .int (iv r_634)), (10, .int (iv i9)), (9, .int (iv m9)), (8, .int (iv c9)), (6, .int (iv 0)), (0, .ref (oP ω 23)), (1, .int (iv x1)), (2, .int (iv x2)), (3, .long (jv x3)), (5, .int (iv x4))]) hx hb dX7_arguments_96 hl (by decide) rfl (fun ls hl => ?_)
            refine lv_iinc (v := iv (c9 + 1)) (lv' := [(8, .int (iv (c9 + 1))), (7, .int (iv r_634)), (10, .int (iv i9)), (9, .int (iv m9)), (6, .int (iv 0)), (0, .ref (oP ω 23)), (1, .int (iv x1)), (2, .int (iv x2)), (3, .long (jv x3)), (5, .int (iv x4))]) hx hb dX7_arguments_98 hl (k := 3) rfl (by rw [show Int32.ofInt 1 = iv 1 from rfl, iv_add]) (by decide) rfl (fun ls hl => ?_)
            refine lv_aload_n hx hb dX7_arguments_101 rfl (lv_at hl 5 rfl) ?_
            refine lv_bipush (v := iv 44) hx hb dX7_arguments_102 rfl ?_
            have htk_643 : TK μ633 := hp_610.fr (K := [P, P + 1]) (Fr.tr Fr.rf F_635 (si hprP (fun P => [P, P + 1]) (fun P => [P, P + 1]) rfl)) (ni hprP (fun P => 26) (fun P => [P, P + 1]) rfl) (ni hprP (fun P => 28) (fun P => [P, P + 1]) rfl)
            have e_644 : μ633.1 26 10 = μ607.1 26 10 := (F_635.1 26 (ni hprP (fun P => 26) (fun P => [P, P + 1]) rfl) 10)
            have e_645 : μ633.1 26 11 = μ607.1 26 11 := (F_635.1 26 (ni hprP (fun P => 26) (fun P => [P, P + 1]) rfl) 11)
            refine xc_iV G (b := 23) (rest := []) (As := [.int (iv 44)]) (c_X7_took_b ω l μ633 44 (by unfold ir; omega) hI_636 htk_643 (by omega)) (wm 3 160 rfl rfl) (wm 3 162 rfl rfl) (wm 0 9 rfl rfl) rfl rfl (by decide) rfl (wm 1 12 rfl rfl) (wm 3 163 rfl rfl) (by decide) hR ⟨nfr hF (by decide), nlo hLo (by decide)⟩ (n := 1) rfl rfl (Nat.le_of_ble_eq_true rfl) hl.1 dX7_arguments_104 (fun r_647 μ646 ρ d0 H locs hr_r_647 hp G => ?_)
            have hr_r_647 : -2147483648 ≤ r_647 ∧ r_647 ≤ 2147483647 := hr_r_647
            obtain ⟨F_648, hI_649, hp_650, hp_651, hs_652, hs_653, hs_654, hs_655, hs_656⟩ := hp
            have hn_657 : -1 ≤ μ646.1 26 10 ∧ μ646.1 26 10 ≤ 3000 := hI_649.nm.2.2.2.2.2.2.2.2.2.2.2.2
            have htb_658 := hp_650.b
            refine lv_istore (lv' := [(9, .int (iv r_647)), (8, .int (iv (c9 + 1))), (7, .int (iv r_634)), (10, .int (iv i9)), (6, .int (iv 0)), (0, .ref (oP ω 23)), (1, .int (iv x1)), (2, .int (iv x2)), (3, .long (jv x3)), (5, .int (iv x4))]) hx hb dX7_arguments_107 hl (by decide) rfl (fun ls hl => ?_)
            refine lv_iinc (v := iv (i9 + 1)) (lv' := [(10, .int (iv (i9 + 1))), (9, .int (iv r_647)), (8, .int (iv (c9 + 1))), (7, .int (iv r_634)), (6, .int (iv 0)), (0, .ref (oP ω 23)), (1, .int (iv x1)), (2, .int (iv x2)), (3, .long (jv x3)), (5, .int (iv x4))]) hx hb dX7_arguments_109 hl (k := 3) rfl (by rw [show Int32.ofInt 1 = iv 1 from rfl, iv_add]) (by decide) rfl (fun ls hl => ?_)
            refine lv_goto (tgt := 48) hx hb dX7_arguments_112 (by decide) ?_
            have e_659 : μ646.1 23 9 = μL358.1 23 9 := ((F_648.1 23 (by decide) 9).trans ((F_635.1 23 (ni hprP (fun P => 23) (fun P => [P, P + 1]) rfl) 9).trans (hs_621.trans (F_578.1 23 (by decide) 9))))
            have e_660 : μ646.1 26 11 = μ607.1 26 11 := (hs_652.trans (F_635.1 26 (ni hprP (fun P => 26) (fun P => [P, P + 1]) rfl) 11))
            have e_661 : μ646.1 P 1 = μ633.1 P 1 := (F_648.1 P (ni hprP (fun P => P) (fun P => [26]) rfl) 1)
            have e_662 : μ646.1 P 1 = μ633.1 P 1 := (F_648.1 P (ni hprP (fun P => P) (fun P => [26]) rfl) 1)
            have e_663 : μ646.1 26 11 = μ607.1 26 11 := (hs_652.trans (F_635.1 26 (ni hprP (fun P => 26) (fun P => [P, P + 1]) rfl) 11))
            have e_664 : μ646.1 P 1 = μ633.1 P 1 := (F_648.1 P (ni hprP (fun P => P) (fun P => [26]) rfl) 1)
            have e_665 : μ646.1 (P + 2) 3 = μ607.1 (P + 2) 3 := ((F_648.1 (P + 2) (ni hprP (fun P => P + 2) (fun P => [26]) rfl) 3).trans (F_635.1 (P + 2) (ni hprP (fun P => P + 2) (fun P => [P, P + 1]) rfl) 3))
            have e_666 : μ646.1 P 1 = μ633.1 P 1 := (F_648.1 P (ni hprP (fun P => P) (fun P => [26]) rfl) 1)
            have e_667 : μ646.1 (P + 2) 3 = μ607.1 (P + 2) 3 := ((F_648.1 (P + 2) (ni hprP (fun P => P + 2) (fun P => [26]) rfl) 3).trans (F_635.1 (P + 2) (ni hprP (fun P => P + 2) (fun P => [P, P + 1]) rfl) 3))
            have hpx_668 : μ646.1 26 11 = 0 → PXE μo μ646 P tt ((ee + c9) + (1 - 0)) r_634 1 := fun h0 => (hpx_642 (by have h9 : μ633.1 26 11 = μ607.1 26 11 := (F_635.1 26 (ni hprP (fun P => 26) (fun P => [P, P + 1]) rfl) 11); have h8 : μ646.1 26 11 = μ607.1 26 11 := (hs_652.trans (F_635.1 26 (ni hprP (fun P => 26) (fun P => [P, P + 1]) rfl) 11)); omega)).fr (K := [26]) (Fr.tr Fr.rf F_648 (by decide)) (npL_p (L := [26]) (by decide) hprP).1 (npL_p (L := [26]) (by decide) hprP).2.1
            have e_669 : μ646.1 2 4 = μ607.1 2 4 := ((F_648.1 2 (by decide) 4).trans (F_635.1 2 (ni hprP (fun P => 2) (fun P => [P, P + 1]) rfl) 4))
            have e_670 : μ646.1 26 7 = μ607.1 26 7 := (hs_654.trans (F_635.1 26 (ni hprP (fun P => 26) (fun P => [P, P + 1]) rfl) 7))
            have e_671 : μ646.1 26 8 = μ607.1 26 8 := (hs_655.trans (F_635.1 26 (ni hprP (fun P => 26) (fun P => [P, P + 1]) rfl) 8))
            have e_672 : μ646.1 26 9 = μ607.1 26 9 := (hs_656.trans (F_635.1 26 (ni hprP (fun P => 26) (fun P => [P, P + 1]) rfl) 9))
            exact ih _ _ _ _ _ _ _ (by omega) ⟨r_634, c9 + 1, r_647, i9 + 1, (Fr.tr (Fr.tr (Fr.tr (Fr.tr FL359 F_578 (si hprP (fun P => [24]) (fun P => [2, 3, 4, 23, 24, 26, P, P + 1, P + 2, (P + 2) + 1, (P + 2) + 2, (P + 2) + 3]) rfl)) F_608 (si hprP (fun P => [2, 3, 4, 23, 24, 26, P, P + 1, P + 2, (P + 2) + 1, (P + 2) + 2, (P + 2) + 3]) (fun P => [2, 3, 4, 23, 24, 26, P, P + 1, P + 2, (P + 2) + 1, (P + 2) + 2, (P + 2) + 3]) rfl)) F_635 (si hprP (fun P => [P, P + 1]) (fun P => [2, 3, 4, 23, 24, 26, P, P + 1, P + 2, (P + 2) + 1, (P + 2) + 2, (P + 2) + 3]) rfl)) F_648 (si hprP (fun P => [26]) (fun P => [2, 3, 4, 23, 24, 26, P, P + 1, P + 2, (P + 2) + 1, (P + 2) + 2, (P + 2) + 3]) rfl)), (by omega), (by omega), (by omega), (by omega), (by omega), (by omega), (by omega), (by omega), hp_650, (by omega), (by omega), (by omega), (by omega), (by omega), (fun h0 => (hpx_668 h0).e (by omega)), (by omega), ((F_648.1 23 (by decide) 2).trans ((F_635.1 23 (ni hprP (fun P => 23) (fun P => [P, P + 1]) rfl) 2).trans (hs_616.trans ((F_578.1 23 (by decide) 2).trans hi_377)))), ((F_648.1 23 (by decide) 5).trans ((F_635.1 23 (ni hprP (fun P => 23) (fun P => [P, P + 1]) rfl) 5).trans (hs_617.trans ((F_578.1 23 (by decide) 5).trans hi_378)))), ((F_648.1 23 (by decide) 6).trans ((F_635.1 23 (ni hprP (fun P => 23) (fun P => [P, P + 1]) rfl) 6).trans (hs_618.trans ((F_578.1 23 (by decide) 6).trans hi_379)))), ((F_648.1 23 (by decide) 7).trans ((F_635.1 23 (ni hprP (fun P => 23) (fun P => [P, P + 1]) rfl) 7).trans (hs_619.trans ((F_578.1 23 (by decide) 7).trans hi_380)))), ((F_648.1 23 (by decide) 8).trans ((F_635.1 23 (ni hprP (fun P => 23) (fun P => [P, P + 1]) rfl) 8).trans (hs_620.trans ((F_578.1 23 (by decide) 8).trans hi_381)))), ((F_648.1 23 (by decide) 10).trans ((F_635.1 23 (ni hprP (fun P => 23) (fun P => [P, P + 1]) rfl) 10).trans (hs_622.trans ((F_578.1 23 (by decide) 10).trans hi_382)))), (hs_653.trans ((F_635.1 26 (ni hprP (fun P => 26) (fun P => [P, P + 1]) rfl) 6).trans (hs_623.trans ((F_578.1 26 (by decide) 6).trans hi_383)))), (by omega), (by omega), (by omega), ((F_648.1 P (ni hprP (fun P => P) (fun P => [26]) rfl) 7).trans (hs_639.trans (hs_624.trans ((F_578.1 P (ni hprP (fun P => P) (fun P => [24]) rfl) 7).trans hi_387)))), hI_649, rfl, lv_sub hl [0, 1, 2, 3, 4, 5, 6, 7, 8, 9] rfl⟩ G
  · refine lv_iconst (v := iv 1) hx hb dX7_arguments_6 rfl ?_
    refine lv_goto (tgt := 11) hx hb dX7_arguments_7 (by decide) ?_
    refine lv_istore (lv' := [(6, .int (iv 1)), (0, .ref (oP ω 23)), (1, .int (iv x1)), (2, .int (iv x2)), (3, .long (jv x3)), (5, .int (iv x4))]) hx hb dX7_arguments_11 hl (by decide) rfl (fun ls hl => ?_)
    refine lv_iload hx hb dX7_arguments_13 (lv_at hl 5 rfl) ?_
    refine lv_istore (lv' := [(7, .int (iv x4)), (6, .int (iv 1)), (0, .ref (oP ω 23)), (1, .int (iv x1)), (2, .int (iv x2)), (3, .long (jv x3)), (5, .int (iv x4))]) hx hb dX7_arguments_15 hl (by decide) rfl (fun ls hl => ?_)
    refine lv_iconst (v := iv 0) hx hb dX7_arguments_17 rfl ?_
    refine lv_istore (lv' := [(8, .int (iv 0)), (7, .int (iv x4)), (6, .int (iv 1)), (0, .ref (oP ω 23)), (1, .int (iv x1)), (2, .int (iv x2)), (3, .long (jv x3)), (5, .int (iv x4))]) hx hb dX7_arguments_18 hl (by decide) rfl (fun ls hl => ?_)
    refine lv_aload_n hx hb dX7_arguments_20 rfl (lv_at hl 3 rfl) ?_
    refine lv_bipush (v := iv 40) hx hb dX7_arguments_21 rfl ?_
    have hn_673 : -1 ≤ μ.1 26 10 ∧ μ.1 26 10 ≤ 3000 := hI.nm.2.2.2.2.2.2.2.2.2.2.2.2
    refine xc_vV G (b := 23) (rest := []) (As := [.int (iv 40)]) (c_X7_needOpen_b ω l μ 40 (by unfold ir; omega) hI hTK (by omega) (by omega)) (wm 3 197 rfl rfl) (wm 3 199 rfl rfl) (wm 0 14 rfl rfl) rfl rfl (by decide) rfl (wm 1 12 rfl rfl) (wm 3 200 rfl rfl) (by decide) hR ⟨nfr hF (by decide), nlo hLo (by decide)⟩ (n := 1) rfl rfl (Nat.le_of_ble_eq_true rfl) hl.1 dX7_arguments_23 (fun μ674 ρ d0 H locs hp G => ?_)
    obtain ⟨F_675, hI_676, hp_677, hp_678, hp_679, hp_680, hs_681, hs_682, hs_683, hs_684, hs_685, hs_686, hs_687, hs_688, hs_689, hs_690, hs_691⟩ := hp
    have hn_692 : -1 ≤ μ674.1 26 10 ∧ μ674.1 26 10 ≤ 3000 := hI_676.nm.2.2.2.2.2.2.2.2.2.2.2.2
    have htb_693 := hp_677.b
    refine lv_aload_n hx hb dX7_arguments_26 rfl (lv_at hl 3 rfl) ?_
    refine xa_getr G fd_X7 (a := 23) (x := 26) 0 rfl (by decide) rfl (wm 2 17 rfl rfl) ⟨rfl, rfl, rfl⟩ dX7_arguments_27 rfl (G.sk 23 rfl) (by decide) rfl ?_
    refine xa_getN G fd_X10 (host := "FourTongues") (a := 26) 12 rfl (by decide) (by decide) ⟨rfl, rfl, rfl⟩ dX7_arguments_30 rfl (v := .int (iv (μ674.1 26 12))) (by rw [show μ674.1 26 12 = μ674.1 26 12 from rfl]; rfl) ?_
    have hr_694 : -2147483648 ≤ μ674.1 26 12 ∧ μ674.1 26 12 ≤ 2147483647 := by have h9 := G.hr (a := 26) (k := 12) rfl; exact h9
    refine lv_bipush (v := iv 41) hx hb dX7_arguments_33 rfl ?_
    refine xb_icmp_eq (tgt := 42) hx hb (by unfold ir; omega) (by unfold ir; omega) dX7_arguments_35 (by decide) (fun c_35 => ?_) (fun c_35 => ?_)
    · refine lv_iconst (v := iv 0) hx hb dX7_arguments_42 rfl ?_
      refine lv_istore (lv' := [(9, .int (iv 0)), (8, .int (iv 0)), (7, .int (iv x4)), (6, .int (iv 1)), (0, .ref (oP ω 23)), (1, .int (iv x1)), (2, .int (iv x2)), (3, .long (jv x3)), (5, .int (iv x4))]) hx hb dX7_arguments_43 hl (by decide) rfl (fun ls hl => ?_)
      refine lv_iconst (v := iv 0) hx hb dX7_arguments_45 rfl ?_
      refine lv_istore (lv' := [(10, .int (iv 0)), (9, .int (iv 0)), (8, .int (iv 0)), (7, .int (iv x4)), (6, .int (iv 1)), (0, .ref (oP ω 23)), (1, .int (iv x1)), (2, .int (iv x2)), (3, .long (jv x3)), (5, .int (iv x4))]) hx hb dX7_arguments_46 hl (by decide) rfl (fun ls hl => ?_)
      have e_695 : μ674.1 23 9 = μ.1 23 9 + 1 := hs_681
      have e_696 : μ674.1 P 1 = μ.1 P 1 := (F_675.1 P (ni hprP (fun P => P) (fun P => [26, 23]) rfl) 1)
      have e_697 : μ674.1 P 1 = μ.1 P 1 := (F_675.1 P (ni hprP (fun P => P) (fun P => [26, 23]) rfl) 1)
      have e_698 : μ674.1 P 1 = μ.1 P 1 := (F_675.1 P (ni hprP (fun P => P) (fun P => [26, 23]) rfl) 1)
      have e_699 : μ674.1 (P + 2) 3 = μ.1 (P + 2) 3 := (F_675.1 (P + 2) (ni hprP (fun P => P + 2) (fun P => [26, 23]) rfl) 3)
      have e_700 : μ674.1 P 1 = μ.1 P 1 := (F_675.1 P (ni hprP (fun P => P) (fun P => [26, 23]) rfl) 1)
      have e_701 : μ674.1 (P + 2) 3 = μ.1 (P + 2) 3 := (F_675.1 (P + 2) (ni hprP (fun P => P + 2) (fun P => [26, 23]) rfl) 3)
      have hk_702 := hI.row (r := P + 2) (hprP.row)
      unfold rk at hk_702
      have hpx_703 : μ674.1 26 11 = 0 → PXE μo μ674 P tt ee x4 1 := fun h0 => (hpx (by have h9 : μ.1 26 11 = μ.1 26 11 := rfl; have h8 : μ674.1 26 11 = μ674.1 26 11 := rfl; omega)).fr (K := [26, 23]) (Fr.tr Fr.rf F_675 (by decide)) (npL_p (L := [26, 23]) (by decide) hprP).1 (npL_p (L := [26, 23]) (by decide) hprP).2.1
      refine xl (fun n_9 μ' ls => ∃ (f9 : Int), ∃ (c9 : Int), ∃ (m9 : Int), ∃ (i9 : Int), (Fr [2, 3, 4, 23, 24, 26, P, P + 1, P + 2, (P + 2) + 1, (P + 2) + 2, (P + 2) + 3] μ674 μ') ∧ (-2147483648 ≤ f9 ∧ f9 ≤ 2147483647) ∧ (-2147483648 ≤ c9 ∧ c9 ≤ 2147483647) ∧ (-2147483648 ≤ m9 ∧ m9 ≤ 2147483647) ∧ (-2147483648 ≤ i9 ∧ i9 ≤ 2147483647) ∧ (0 ≤ c9 ∧ c9 ≤ i9) ∧ (μ'.1 23 9 = μ.1 23 9 + 1) ∧ (i9 ≤ 3000) ∧ (0 ≤ m9 ∧ m9 ≤ 1) ∧ (TK μ') ∧ (μ.1 26 11 ≤ μ'.1 26 11) ∧ (μ.1 26 10 ≤ μ'.1 26 10) ∧ (μ.1 P 1 ≤ μ'.1 P 1 ∧ μ'.1 P 1 ≤ μ.1 P 1 + 2 * (μ'.1 26 10 - μ.1 26 10) + (- 2 + 3 * μ'.1 26 11)) ∧ (μ'.1 P 1 ≤ μ.1 P 1 + 2 * (μ'.1 26 10 - μ.1 26 10) + (1 - m9)) ∧ (μ'.1 (P + 2) 3 - μ.1 (P + 2) 3 ≤ μ'.1 P 1 - μ.1 P 1 ∧ μ.1 (P + 2) 3 ≤ μ'.1 (P + 2) 3) ∧ (μ'.1 26 11 = 0 → PXE μo μ' P tt (ee + c9) f9 1) ∧ (μ'.1 2 4 = μ.1 2 4) ∧ (μ'.1 23 2 = P) ∧ (μ'.1 23 5 = μ.1 23 5) ∧ (μ'.1 23 6 = μ.1 23 6) ∧ (μ'.1 23 7 = μ.1 23 7) ∧ (μ'.1 23 8 = tt) ∧ (μ'.1 23 10 = μ.1 23 10) ∧ (μ'.1 26 6 = μ.1 26 6) ∧ (μ'.1 26 7 = μ.1 26 7) ∧ (μ'.1 26 8 = μ.1 26 8) ∧ (μ'.1 26 9 = μ.1 26 9) ∧ (μ'.1 P 7 = μ.1 P 7) ∧ (IC μ') ∧ n_9 = Int.toNat (3000 - i9) ∧ lv_has ls 11 [(10, .int (iv i9)), (9, .int (iv m9)), (8, .int (iv c9)), (7, .int (iv f9)), (6, .int (iv 1)), (0, .ref (oP ω 23)), (1, .int (iv x1)), (2, .int (iv x2)), (3, .long (jv x3)), (5, .int (iv x4))]) (fun n_9 ρ μL704 d0 H locs ls hI_l G ih => ?_) _ _ _ _ _ _ _ ⟨x4, 0, 0, 0, Fr.rf, (by omega), (by omega), (by omega), (by omega), (by omega), (by omega), (by omega), (by omega), hp_677, (by omega), (by omega), (by omega), (by omega), (by omega), (fun h0 => (hpx_703 h0).e (by omega)), (F_675.1 2 (by decide) 4), (hs_686.trans hP.symm), hs_687, hs_688, hs_689, (hs_690.trans htt.symm), hs_691, hs_682, hs_683, hs_684, hs_685, (F_675.1 P (ni hprP (fun P => P) (fun P => [26, 23]) rfl) 7), hI_676, rfl, lv_sub hl [0, 1, 2, 3, 4, 5, 6, 7, 8, 9] rfl⟩ G
      obtain ⟨f9, c9, m9, i9, FL705, hi_707, hi_708, hi_709, hi_710, hi_711, hi_712, hi_713, hi_714, hi_715, hi_716, hi_717, hi_718, hi_719, hi_720, hi_721, hi_722, hi_723, hi_724, hi_725, hi_726, hi_727, hi_728, hi_729, hi_730, hi_731, hi_732, hi_733, hi_734, hn706, hl⟩ := hI_l
      have htb_735 := hi_715.b
      refine lv_iload hx hb dX7_arguments_48 (lv_at hl 0 rfl) ?_
      refine lv_sipush (v := iv 3000) hx hb dX7_arguments_50 rfl ?_
      refine xb_icmp_ge (tgt := 115) hx hb (by unfold ir; omega) (by unfold ir; omega) dX7_arguments_53 (by decide) (fun c_53 => ?_) (fun c_53 => ?_)
      · refine lv_aload_n hx hb dX7_arguments_115 rfl (lv_at hl 5 rfl) ?_
        refine lv_bipush (v := iv 41) hx hb dX7_arguments_116 rfl ?_
        have hn_736 : -1 ≤ μL704.1 26 10 ∧ μL704.1 26 10 ≤ 3000 := hi_734.nm.2.2.2.2.2.2.2.2.2.2.2.2
        refine xc_vV G (b := 23) (rest := []) (As := [.int (iv 41)]) (c_X7_needClosed_b ω l μL704 41 (by unfold ir; omega) hi_734 hi_715 (by omega) (by omega)) (wm 3 214 rfl rfl) (wm 3 216 rfl rfl) (wm 0 18 rfl rfl) rfl rfl (by decide) rfl (wm 1 12 rfl rfl) (wm 3 217 rfl rfl) (by decide) hR ⟨nfr hF (by decide), nlo hLo (by decide)⟩ (n := 1) rfl rfl (Nat.le_of_ble_eq_true rfl) hl.1 dX7_arguments_118 (fun μ737 ρ d0 H locs hp G => ?_)
        obtain ⟨F_738, hI_739, hp_740, hp_741, hp_742, hs_743, hs_744, hs_745, hs_746, hs_747, hs_748, hs_749, hs_750, hs_751, hs_752, hs_753⟩ := hp
        have hn_754 : -1 ≤ μ737.1 26 10 ∧ μ737.1 26 10 ≤ 3000 := hI_739.nm.2.2.2.2.2.2.2.2.2.2.2.2
        have htb_755 := hp_740.b
        refine lv_aload_n hx hb dX7_arguments_121 rfl (lv_at hl 5 rfl) ?_
        refine xa_getr G fd_X7 (a := 23) (x := P) 2 rfl (by decide) rfl (wm 2 19 rfl rfl) ⟨rfl, rfl, rfl⟩ dX7_arguments_122 rfl (hs_748.trans hi_723) (by omega) (hprP.hq ω ρ) ?_
        refine lv_iconst (v := iv 0) hx hb dX7_arguments_125 rfl ?_
        refine lv_lload_n hx hb dX7_arguments_126 rfl (lv_at hl 8 rfl) ?_
        refine lv_dconst0 hx hb dX7_arguments_127 ?_
        refine xb_topd (fun dd_756 he_dd_756 => ?_)
        have hpx_757 : μ737.1 26 11 = 0 → PXE μo μ737 P tt (ee + c9) f9 1 := fun h0 => (hi_721 (by have h9 : μL704.1 26 11 = μL704.1 26 11 := rfl; have h8 : μ737.1 26 11 = μ737.1 26 11 := rfl; omega)).fr (K := [26, 23]) (Fr.tr Fr.rf F_738 (by decide)) (npL_p (L := [26, 23]) (by decide) hprP).1 (npL_p (L := [26, 23]) (by decide) hprP).2.1
        have hk_758 := hi_734.row (r := P + 2) (hprP.row)
        unfold rk at hk_758
        have e_759 : μ737.1 (P + 2) 3 = μL704.1 (P + 2) 3 := (F_738.1 (P + 2) (ni hprP (fun P => P + 2) (fun P => [26, 23]) rfl) 3)
        refine xc_iV G (b := P) (rest := []) (As := [.int (iv 0), .long (jv x3), .double (dv dd_756)]) (c_X8_addConstant ω l μ737 P 0 x3 dd_756 (μL704.1 (P + 2) 3) hprP (by unfold ir; omega) hx3 hI_739 (by omega) (by omega)) (wm 4 67 rfl rfl) (wm 4 68 rfl rfl) (wm 4 69 rfl rfl) hprP.ly rfl (by decide) (hprP.hq ω ρ) (wm 1 9 rfl rfl) (wm 4 70 rfl rfl) (by decide) hR ⟨nfr hF (by decide), nlo hLo (by decide)⟩ (n := 3) rfl rfl (Nat.le_of_ble_eq_true rfl) hl.1 dX7_arguments_128 (fun r_761 μ760 ρ d0 H locs hr_r_761 hp G => ?_)
        have hr_r_761 : -2147483648 ≤ r_761 ∧ r_761 ≤ 2147483647 := hr_r_761
        obtain ⟨F_762, hI_763, hp_764, hp_765⟩ := hp
        have hk_766 := hI_763.row (r := P + 2) (hprP.row)
        unfold rk at hk_766
        refine lv_istore (lv' := [(10, .int (iv r_761)), (9, .int (iv m9)), (8, .int (iv c9)), (7, .int (iv f9)), (6, .int (iv 1)), (0, .ref (oP ω 23)), (1, .int (iv x1)), (2, .int (iv x2)), (3, .long (jv x3)), (5, .int (iv x4))]) hx hb dX7_arguments_131 hl (by decide) rfl (fun ls hl => ?_)
        refine lv_aload_n hx hb dX7_arguments_133 rfl (lv_at hl 5 rfl) ?_
        refine lv_iload_n hx hb dX7_arguments_134 rfl (lv_at hl 6 rfl) ?_
        refine lv_iload hx hb dX7_arguments_135 (lv_at hl 2 rfl) ?_
        refine lv_iconst (v := iv 4) hx hb dX7_arguments_137 rfl ?_
        refine xb_imul hx hb dX7_arguments_138 ?_
        refine lv_iload_n hx hb dX7_arguments_139 rfl (lv_at hl 7 rfl) ?_
        refine xb_iadd hx hb dX7_arguments_140 ?_
        refine lv_iload hx hb dX7_arguments_141 (lv_at hl 0 rfl) ?_
        refine lv_iload hx hb dX7_arguments_143 (lv_at hl 3 rfl) ?_
        have hpx_767 : μ760.1 26 11 = 0 → PXE μo μ760 P tt (ee + c9) f9 1 := fun h0 => (hpx_757 (by have h9 : μ737.1 26 11 = μ737.1 26 11 := rfl; have h8 : μ760.1 26 11 = μ737.1 26 11 := (F_762.1 26 (ni hprP (fun P => 26) (fun P => [P + 2, (P + 2) + 1, (P + 2) + 2, (P + 2) + 3]) rfl) 11); omega)).fr (K := [P + 2, (P + 2) + 1, (P + 2) + 2, (P + 2) + 3]) (Fr.tr Fr.rf F_762 (si hprP (fun P => [P + 2, (P + 2) + 1, (P + 2) + 2, (P + 2) + 3]) (fun P => [P + 2, (P + 2) + 1, (P + 2) + 2, (P + 2) + 3]) rfl)) (ni hprP (fun P => P) (fun P => [P + 2, (P + 2) + 1, (P + 2) + 2, (P + 2) + 3]) rfl) (ni hprP (fun P => P + 1) (fun P => [P + 2, (P + 2) + 1, (P + 2) + 2, (P + 2) + 3]) rfl)
        have e_768 : μ760.1 23 2 = P := ((F_762.1 23 (ni hprP (fun P => 23) (fun P => [P + 2, (P + 2) + 1, (P + 2) + 2, (P + 2) + 3]) rfl) 2).trans (hs_748.trans hi_723))
        have e_769 : μ760.1 23 8 = tt := ((F_762.1 23 (ni hprP (fun P => 23) (fun P => [P + 2, (P + 2) + 1, (P + 2) + 2, (P + 2) + 3]) rfl) 8).trans (hs_752.trans hi_727))
        have hk_770 := hi_734.pr (p := P) hprP
        unfold pk at hk_770
        have hc_771 : 16 ≤ μL704.2.1 (P + 1) ∧ μL704.2.1 (P + 1) ≤ 73024 := hi_734.rm.1 _ hprP.cap
        have e_772 : μ760.1 P 1 = μL704.1 P 1 := ((F_762.1 P (ni hprP (fun P => P) (fun P => [P + 2, (P + 2) + 1, (P + 2) + 2, (P + 2) + 3]) rfl) 1).trans (F_738.1 P (ni hprP (fun P => P) (fun P => [26, 23]) rfl) 1))
        have e_773 : μ760.1 P 1 = μL704.1 P 1 := ((F_762.1 P (ni hprP (fun P => P) (fun P => [P + 2, (P + 2) + 1, (P + 2) + 2, (P + 2) + 3]) rfl) 1).trans (F_738.1 P (ni hprP (fun P => P) (fun P => [26, 23]) rfl) 1))
        refine xc_vV G (b := 23) (rest := []) (As := [.int (iv x1), .int (iv ((c9 * 4) + x2)), .int (iv r_761), .int (iv f9)]) (c_X7_endOfParts ω l μ760 x1 ((c9 * 4) + x2) r_761 f9 μo (ee + c9) (1) P tt (by unfold ir; omega) (by unfold ir; omega) (by unfold ir; omega) (by unfold ir; omega) hI_763 (by omega) (by omega) (by omega) hpx_767 (Or.inr ⟨by omega, by omega, by omega⟩) (by omega) (by by_cases q1 : x1 = 13; (rw [q1, ef13 (by omega) hx2b]; omega); (rw [show x1 = 14 by omega, ef14 (by omega) hx2b]; omega))) (wm 4 27 rfl rfl) (wm 4 29 rfl rfl) (wm 0 30 rfl rfl) rfl rfl (by decide) rfl (wm 1 12 rfl rfl) (wm 4 30 rfl rfl) (by decide) hR ⟨nfr hF (by decide), nlo hLo (by decide)⟩ (n := 4) rfl rfl (Nat.le_of_ble_eq_true rfl) hl.1 dX7_arguments_145 (fun μ774 ρ d0 H locs hp G => ?_)
        obtain ⟨F_775, hI_776, hp_777, hs_778, hs_779⟩ := hp
        have hpx_780 : μ774.1 26 11 = 0 → PXE μo μ774 P tt 1 (-1) 1 := fun h0 => PXE.of (hp_777 (by have h9 : μ760.1 26 11 = μ737.1 26 11 := (F_762.1 26 (ni hprP (fun P => 26) (fun P => [P + 2, (P + 2) + 1, (P + 2) + 2, (P + 2) + 3]) rfl) 11); have h8 : μ774.1 26 11 = μ737.1 26 11 := ((F_775.1 26 (ni hprP (fun P => 26) (fun P => [P, P + 1]) rfl) 11).trans (F_762.1 26 (ni hprP (fun P => 26) (fun P => [P + 2, (P + 2) + 1, (P + 2) + 2, (P + 2) + 3]) rfl) 11)); omega))
        clear hp_777
        have htk_781 : TK μ774 := hp_740.fr (K := [P, P + 1, P + 2, (P + 2) + 1, (P + 2) + 2, (P + 2) + 3]) (Fr.tr (Fr.tr Fr.rf F_762 (si hprP (fun P => [P + 2, (P + 2) + 1, (P + 2) + 2, (P + 2) + 3]) (fun P => [P, P + 1, P + 2, (P + 2) + 1, (P + 2) + 2, (P + 2) + 3]) rfl)) F_775 (si hprP (fun P => [P, P + 1]) (fun P => [P, P + 1, P + 2, (P + 2) + 1, (P + 2) + 2, (P + 2) + 3]) rfl)) (ni hprP (fun P => 26) (fun P => [P, P + 1, P + 2, (P + 2) + 1, (P + 2) + 2, (P + 2) + 3]) rfl) (ni hprP (fun P => 28) (fun P => [P, P + 1, P + 2, (P + 2) + 1, (P + 2) + 2, (P + 2) + 3]) rfl)
        have e_782 : μ774.1 26 11 = μ737.1 26 11 := ((F_775.1 26 (ni hprP (fun P => 26) (fun P => [P, P + 1]) rfl) 11).trans (F_762.1 26 (ni hprP (fun P => 26) (fun P => [P + 2, (P + 2) + 1, (P + 2) + 2, (P + 2) + 3]) rfl) 11))
        have e_783 : μ774.1 26 11 = μ737.1 26 11 := ((F_775.1 26 (ni hprP (fun P => 26) (fun P => [P, P + 1]) rfl) 11).trans (F_762.1 26 (ni hprP (fun P => 26) (fun P => [P + 2, (P + 2) + 1, (P + 2) + 2, (P + 2) + 3]) rfl) 11))
        have e_784 : μ774.1 26 10 = μ737.1 26 10 := ((F_775.1 26 (ni hprP (fun P => 26) (fun P => [P, P + 1]) rfl) 10).trans (F_762.1 26 (ni hprP (fun P => 26) (fun P => [P + 2, (P + 2) + 1, (P + 2) + 2, (P + 2) + 3]) rfl) 10))
        have e_785 : μ774.1 P 1 = μ760.1 P 1 + 1 := hs_778
        have e_786 : μ774.1 P 1 = μ760.1 P 1 + 1 := hs_778
        have e_787 : μ774.1 26 10 = μ737.1 26 10 := ((F_775.1 26 (ni hprP (fun P => 26) (fun P => [P, P + 1]) rfl) 10).trans (F_762.1 26 (ni hprP (fun P => 26) (fun P => [P + 2, (P + 2) + 1, (P + 2) + 2, (P + 2) + 3]) rfl) 10))
        have e_788 : μ774.1 26 11 = μ737.1 26 11 := ((F_775.1 26 (ni hprP (fun P => 26) (fun P => [P, P + 1]) rfl) 11).trans (F_762.1 26 (ni hprP (fun P => 26) (fun P => [P + 2, (P + 2) + 1, (P + 2) + 2, (P + 2) + 3]) rfl) 11))
        have e_789 : μ774.1 (P + 2) 3 = μ760.1 (P + 2) 3 := (F_775.1 (P + 2) (ni hprP (fun P => P + 2) (fun P => [P, P + 1]) rfl) 3)
        have e_790 : μ774.1 P 1 = μ760.1 P 1 + 1 := hs_778
        have e_791 : μ774.1 (P + 2) 3 = μ760.1 (P + 2) 3 := (F_775.1 (P + 2) (ni hprP (fun P => P + 2) (fun P => [P, P + 1]) rfl) 3)
        have e_792 : μ774.1 23 9 = μL704.1 23 9 - 1 := ((F_775.1 23 (ni hprP (fun P => 23) (fun P => [P, P + 1]) rfl) 9).trans ((F_762.1 23 (ni hprP (fun P => 23) (fun P => [P + 2, (P + 2) + 1, (P + 2) + 2, (P + 2) + 3]) rfl) 9).trans hs_743))
        exact xr_v G hret hlk dX7_arguments_148 ⟨(Fr.tr (Fr.tr (Fr.tr (Fr.tr (Fr.tr Fr.rf F_675 (si hprP (fun P => [26, 23]) (fun P => [2, 3, 4, 23, 24, 26, P, P + 1, P + 2, (P + 2) + 1, (P + 2) + 2, (P + 2) + 3]) rfl)) FL705 (si hprP (fun P => [2, 3, 4, 23, 24, 26, P, P + 1, P + 2, (P + 2) + 1, (P + 2) + 2, (P + 2) + 3]) (fun P => [2, 3, 4, 23, 24, 26, P, P + 1, P + 2, (P + 2) + 1, (P + 2) + 2, (P + 2) + 3]) rfl)) F_738 (si hprP (fun P => [26, 23]) (fun P => [2, 3, 4, 23, 24, 26, P, P + 1, P + 2, (P + 2) + 1, (P + 2) + 2, (P + 2) + 3]) rfl)) F_762 (si hprP (fun P => [P + 2, (P + 2) + 1, (P + 2) + 2, (P + 2) + 3]) (fun P => [2, 3, 4, 23, 24, 26, P, P + 1, P + 2, (P + 2) + 1, (P + 2) + 2, (P + 2) + 3]) rfl)) F_775 (si hprP (fun P => [P, P + 1]) (fun P => [2, 3, 4, 23, 24, 26, P, P + 1, P + 2, (P + 2) + 1, (P + 2) + 2, (P + 2) + 3]) rfl)), hI_776, htk_781, (by omega), (by omega), (by omega), (by omega), (fun h0 => (PXE.ex (hpx_780 h0)).e (by omega)), (((F_775.1 23 (ni hprP (fun P => 23) (fun P => [P, P + 1]) rfl) 2).trans ((F_762.1 23 (ni hprP (fun P => 23) (fun P => [P + 2, (P + 2) + 1, (P + 2) + 2, (P + 2) + 3]) rfl) 2).trans (hs_748.trans hi_723)))).trans hP, ((F_775.1 23 (ni hprP (fun P => 23) (fun P => [P, P + 1]) rfl) 5).trans ((F_762.1 23 (ni hprP (fun P => 23) (fun P => [P + 2, (P + 2) + 1, (P + 2) + 2, (P + 2) + 3]) rfl) 5).trans (hs_749.trans hi_724))), ((F_775.1 23 (ni hprP (fun P => 23) (fun P => [P, P + 1]) rfl) 6).trans ((F_762.1 23 (ni hprP (fun P => 23) (fun P => [P + 2, (P + 2) + 1, (P + 2) + 2, (P + 2) + 3]) rfl) 6).trans (hs_750.trans hi_725))), ((F_775.1 23 (ni hprP (fun P => 23) (fun P => [P, P + 1]) rfl) 7).trans ((F_762.1 23 (ni hprP (fun P => 23) (fun P => [P + 2, (P + 2) + 1, (P + 2) + 2, (P + 2) + 3]) rfl) 7).trans (hs_751.trans hi_726))), (((F_775.1 23 (ni hprP (fun P => 23) (fun P => [P, P + 1]) rfl) 8).trans ((F_762.1 23 (ni hprP (fun P => 23) (fun P => [P + 2, (P + 2) + 1, (P + 2) + 2, (P + 2) + 3]) rfl) 8).trans (hs_752.trans hi_727)))).trans htt, (by omega), ((F_775.1 23 (ni hprP (fun P => 23) (fun P => [P, P + 1]) rfl) 10).trans ((F_762.1 23 (ni hprP (fun P => 23) (fun P => [P + 2, (P + 2) + 1, (P + 2) + 2, (P + 2) + 3]) rfl) 10).trans (hs_753.trans hi_728))), ((F_775.1 26 (ni hprP (fun P => 26) (fun P => [P, P + 1]) rfl) 6).trans ((F_762.1 26 (ni hprP (fun P => 26) (fun P => [P + 2, (P + 2) + 1, (P + 2) + 2, (P + 2) + 3]) rfl) 6).trans (hs_744.trans hi_729))), (hs_779.trans ((F_762.1 P (ni hprP (fun P => P) (fun P => [P + 2, (P + 2) + 1, (P + 2) + 2, (P + 2) + 3]) rfl) 7).trans ((F_738.1 P (ni hprP (fun P => P) (fun P => [26, 23]) rfl) 7).trans hi_733)))⟩
      · refine lv_iload hx hb dX7_arguments_56 (lv_at hl 1 rfl) ?_
        refine xb_if_eq (tgt := 115) hx hb (by unfold ir; omega) dX7_arguments_58 (by decide) (fun c_58 => ?_) (fun c_58 => ?_)
        · refine lv_aload_n hx hb dX7_arguments_115 rfl (lv_at hl 5 rfl) ?_
          refine lv_bipush (v := iv 41) hx hb dX7_arguments_116 rfl ?_
          have hn_793 : -1 ≤ μL704.1 26 10 ∧ μL704.1 26 10 ≤ 3000 := hi_734.nm.2.2.2.2.2.2.2.2.2.2.2.2
          refine xc_vV G (b := 23) (rest := []) (As := [.int (iv 41)]) (c_X7_needClosed_b ω l μL704 41 (by unfold ir; omega) hi_734 hi_715 (by omega) (by omega)) (wm 3 214 rfl rfl) (wm 3 216 rfl rfl) (wm 0 18 rfl rfl) rfl rfl (by decide) rfl (wm 1 12 rfl rfl) (wm 3 217 rfl rfl) (by decide) hR ⟨nfr hF (by decide), nlo hLo (by decide)⟩ (n := 1) rfl rfl (Nat.le_of_ble_eq_true rfl) hl.1 dX7_arguments_118 (fun μ794 ρ d0 H locs hp G => ?_)
          obtain ⟨F_795, hI_796, hp_797, hp_798, hp_799, hs_800, hs_801, hs_802, hs_803, hs_804, hs_805, hs_806, hs_807, hs_808, hs_809, hs_810⟩ := hp
          have hn_811 : -1 ≤ μ794.1 26 10 ∧ μ794.1 26 10 ≤ 3000 := hI_796.nm.2.2.2.2.2.2.2.2.2.2.2.2
          have htb_812 := hp_797.b
          refine lv_aload_n hx hb dX7_arguments_121 rfl (lv_at hl 5 rfl) ?_
          refine xa_getr G fd_X7 (a := 23) (x := P) 2 rfl (by decide) rfl (wm 2 19 rfl rfl) ⟨rfl, rfl, rfl⟩ dX7_arguments_122 rfl (hs_805.trans hi_723) (by omega) (hprP.hq ω ρ) ?_
          refine lv_iconst (v := iv 0) hx hb dX7_arguments_125 rfl ?_
          refine lv_lload_n hx hb dX7_arguments_126 rfl (lv_at hl 8 rfl) ?_
          refine lv_dconst0 hx hb dX7_arguments_127 ?_
          refine xb_topd (fun dd_813 he_dd_813 => ?_)
          have hpx_814 : μ794.1 26 11 = 0 → PXE μo μ794 P tt (ee + c9) f9 1 := fun h0 => (hi_721 (by have h9 : μL704.1 26 11 = μL704.1 26 11 := rfl; have h8 : μ794.1 26 11 = μ794.1 26 11 := rfl; omega)).fr (K := [26, 23]) (Fr.tr Fr.rf F_795 (by decide)) (npL_p (L := [26, 23]) (by decide) hprP).1 (npL_p (L := [26, 23]) (by decide) hprP).2.1
          have hk_815 := hi_734.row (r := P + 2) (hprP.row)
          unfold rk at hk_815
          have e_816 : μ794.1 (P + 2) 3 = μL704.1 (P + 2) 3 := (F_795.1 (P + 2) (ni hprP (fun P => P + 2) (fun P => [26, 23]) rfl) 3)
          refine xc_iV G (b := P) (rest := []) (As := [.int (iv 0), .long (jv x3), .double (dv dd_813)]) (c_X8_addConstant ω l μ794 P 0 x3 dd_813 (μL704.1 (P + 2) 3) hprP (by unfold ir; omega) hx3 hI_796 (by omega) (by omega)) (wm 4 67 rfl rfl) (wm 4 68 rfl rfl) (wm 4 69 rfl rfl) hprP.ly rfl (by decide) (hprP.hq ω ρ) (wm 1 9 rfl rfl) (wm 4 70 rfl rfl) (by decide) hR ⟨nfr hF (by decide), nlo hLo (by decide)⟩ (n := 3) rfl rfl (Nat.le_of_ble_eq_true rfl) hl.1 dX7_arguments_128 (fun r_818 μ817 ρ d0 H locs hr_r_818 hp G => ?_)
          have hr_r_818 : -2147483648 ≤ r_818 ∧ r_818 ≤ 2147483647 := hr_r_818
          obtain ⟨F_819, hI_820, hp_821, hp_822⟩ := hp
          have hk_823 := hI_820.row (r := P + 2) (hprP.row)
          unfold rk at hk_823
          refine lv_istore (lv' := [(10, .int (iv r_818)), (9, .int (iv m9)), (8, .int (iv c9)), (7, .int (iv f9)), (6, .int (iv 1)), (0, .ref (oP ω 23)), (1, .int (iv x1)), (2, .int (iv x2)), (3, .long (jv x3)), (5, .int (iv x4))]) hx hb dX7_arguments_131 hl (by decide) rfl (fun ls hl => ?_)
          refine lv_aload_n hx hb dX7_arguments_133 rfl (lv_at hl 5 rfl) ?_
          refine lv_iload_n hx hb dX7_arguments_134 rfl (lv_at hl 6 rfl) ?_
          refine lv_iload hx hb dX7_arguments_135 (lv_at hl 2 rfl) ?_
          refine lv_iconst (v := iv 4) hx hb dX7_arguments_137 rfl ?_
          refine xb_imul hx hb dX7_arguments_138 ?_
          refine lv_iload_n hx hb dX7_arguments_139 rfl (lv_at hl 7 rfl) ?_
          refine xb_iadd hx hb dX7_arguments_140 ?_
          refine lv_iload hx hb dX7_arguments_141 (lv_at hl 0 rfl) ?_
          refine lv_iload hx hb dX7_arguments_143 (lv_at hl 3 rfl) ?_
          have hpx_824 : μ817.1 26 11 = 0 → PXE μo μ817 P tt (ee + c9) f9 1 := fun h0 => (hpx_814 (by have h9 : μ794.1 26 11 = μ794.1 26 11 := rfl; have h8 : μ817.1 26 11 = μ794.1 26 11 := (F_819.1 26 (ni hprP (fun P => 26) (fun P => [P + 2, (P + 2) + 1, (P + 2) + 2, (P + 2) + 3]) rfl) 11); omega)).fr (K := [P + 2, (P + 2) + 1, (P + 2) + 2, (P + 2) + 3]) (Fr.tr Fr.rf F_819 (si hprP (fun P => [P + 2, (P + 2) + 1, (P + 2) + 2, (P + 2) + 3]) (fun P => [P + 2, (P + 2) + 1, (P + 2) + 2, (P + 2) + 3]) rfl)) (ni hprP (fun P => P) (fun P => [P + 2, (P + 2) + 1, (P + 2) + 2, (P + 2) + 3]) rfl) (ni hprP (fun P => P + 1) (fun P => [P + 2, (P + 2) + 1, (P + 2) + 2, (P + 2) + 3]) rfl)
          have e_825 : μ817.1 23 2 = P := ((F_819.1 23 (ni hprP (fun P => 23) (fun P => [P + 2, (P + 2) + 1, (P + 2) + 2, (P + 2) + 3]) rfl) 2).trans (hs_805.trans hi_723))
          have e_826 : μ817.1 23 8 = tt := ((F_819.1 23 (ni hprP (fun P => 23) (fun P => [P + 2, (P + 2) + 1, (P + 2) + 2, (P + 2) + 3]) rfl) 8).trans (hs_809.trans hi_727))
          have hk_827 := hi_734.pr (p := P) hprP
          unfold pk at hk_827
          have hc_828 : 16 ≤ μL704.2.1 (P + 1) ∧ μL704.2.1 (P + 1) ≤ 73024 := hi_734.rm.1 _ hprP.cap
          have e_829 : μ817.1 P 1 = μL704.1 P 1 := ((F_819.1 P (ni hprP (fun P => P) (fun P => [P + 2, (P + 2) + 1, (P + 2) + 2, (P + 2) + 3]) rfl) 1).trans (F_795.1 P (ni hprP (fun P => P) (fun P => [26, 23]) rfl) 1))
          have e_830 : μ817.1 P 1 = μL704.1 P 1 := ((F_819.1 P (ni hprP (fun P => P) (fun P => [P + 2, (P + 2) + 1, (P + 2) + 2, (P + 2) + 3]) rfl) 1).trans (F_795.1 P (ni hprP (fun P => P) (fun P => [26, 23]) rfl) 1))
          refine xc_vV G (b := 23) (rest := []) (As := [.int (iv x1), .int (iv ((c9 * 4) + x2)), .int (iv r_818), .int (iv f9)]) (c_X7_endOfParts ω l μ817 x1 ((c9 * 4) + x2) r_818 f9 μo (ee + c9) (1) P tt (by unfold ir; omega) (by unfold ir; omega) (by unfold ir; omega) (by unfold ir; omega) hI_820 (by omega) (by omega) (by omega) hpx_824 (Or.inr ⟨by omega, by omega, by omega⟩) (by omega) (by by_cases q1 : x1 = 13; (rw [q1, ef13 (by omega) hx2b]; omega); (rw [show x1 = 14 by omega, ef14 (by omega) hx2b]; omega))) (wm 4 27 rfl rfl) (wm 4 29 rfl rfl) (wm 0 30 rfl rfl) rfl rfl (by decide) rfl (wm 1 12 rfl rfl) (wm 4 30 rfl rfl) (by decide) hR ⟨nfr hF (by decide), nlo hLo (by decide)⟩ (n := 4) rfl rfl (Nat.le_of_ble_eq_true rfl) hl.1 dX7_arguments_145 (fun μ831 ρ d0 H locs hp G => ?_)
          obtain ⟨F_832, hI_833, hp_834, hs_835, hs_836⟩ := hp
          have hpx_837 : μ831.1 26 11 = 0 → PXE μo μ831 P tt 1 (-1) 1 := fun h0 => PXE.of (hp_834 (by have h9 : μ817.1 26 11 = μ794.1 26 11 := (F_819.1 26 (ni hprP (fun P => 26) (fun P => [P + 2, (P + 2) + 1, (P + 2) + 2, (P + 2) + 3]) rfl) 11); have h8 : μ831.1 26 11 = μ794.1 26 11 := ((F_832.1 26 (ni hprP (fun P => 26) (fun P => [P, P + 1]) rfl) 11).trans (F_819.1 26 (ni hprP (fun P => 26) (fun P => [P + 2, (P + 2) + 1, (P + 2) + 2, (P + 2) + 3]) rfl) 11)); omega))
          clear hp_834
          have htk_838 : TK μ831 := hp_797.fr (K := [P, P + 1, P + 2, (P + 2) + 1, (P + 2) + 2, (P + 2) + 3]) (Fr.tr (Fr.tr Fr.rf F_819 (si hprP (fun P => [P + 2, (P + 2) + 1, (P + 2) + 2, (P + 2) + 3]) (fun P => [P, P + 1, P + 2, (P + 2) + 1, (P + 2) + 2, (P + 2) + 3]) rfl)) F_832 (si hprP (fun P => [P, P + 1]) (fun P => [P, P + 1, P + 2, (P + 2) + 1, (P + 2) + 2, (P + 2) + 3]) rfl)) (ni hprP (fun P => 26) (fun P => [P, P + 1, P + 2, (P + 2) + 1, (P + 2) + 2, (P + 2) + 3]) rfl) (ni hprP (fun P => 28) (fun P => [P, P + 1, P + 2, (P + 2) + 1, (P + 2) + 2, (P + 2) + 3]) rfl)
          have e_839 : μ831.1 26 11 = μ794.1 26 11 := ((F_832.1 26 (ni hprP (fun P => 26) (fun P => [P, P + 1]) rfl) 11).trans (F_819.1 26 (ni hprP (fun P => 26) (fun P => [P + 2, (P + 2) + 1, (P + 2) + 2, (P + 2) + 3]) rfl) 11))
          have e_840 : μ831.1 26 11 = μ794.1 26 11 := ((F_832.1 26 (ni hprP (fun P => 26) (fun P => [P, P + 1]) rfl) 11).trans (F_819.1 26 (ni hprP (fun P => 26) (fun P => [P + 2, (P + 2) + 1, (P + 2) + 2, (P + 2) + 3]) rfl) 11))
          have e_841 : μ831.1 26 10 = μ794.1 26 10 := ((F_832.1 26 (ni hprP (fun P => 26) (fun P => [P, P + 1]) rfl) 10).trans (F_819.1 26 (ni hprP (fun P => 26) (fun P => [P + 2, (P + 2) + 1, (P + 2) + 2, (P + 2) + 3]) rfl) 10))
          have e_842 : μ831.1 P 1 = μ817.1 P 1 + 1 := hs_835
          have e_843 : μ831.1 P 1 = μ817.1 P 1 + 1 := hs_835
          have e_844 : μ831.1 26 10 = μ794.1 26 10 := ((F_832.1 26 (ni hprP (fun P => 26) (fun P => [P, P + 1]) rfl) 10).trans (F_819.1 26 (ni hprP (fun P => 26) (fun P => [P + 2, (P + 2) + 1, (P + 2) + 2, (P + 2) + 3]) rfl) 10))
          have e_845 : μ831.1 26 11 = μ794.1 26 11 := ((F_832.1 26 (ni hprP (fun P => 26) (fun P => [P, P + 1]) rfl) 11).trans (F_819.1 26 (ni hprP (fun P => 26) (fun P => [P + 2, (P + 2) + 1, (P + 2) + 2, (P + 2) + 3]) rfl) 11))
          have e_846 : μ831.1 (P + 2) 3 = μ817.1 (P + 2) 3 := (F_832.1 (P + 2) (ni hprP (fun P => P + 2) (fun P => [P, P + 1]) rfl) 3)
          have e_847 : μ831.1 P 1 = μ817.1 P 1 + 1 := hs_835
          have e_848 : μ831.1 (P + 2) 3 = μ817.1 (P + 2) 3 := (F_832.1 (P + 2) (ni hprP (fun P => P + 2) (fun P => [P, P + 1]) rfl) 3)
          have e_849 : μ831.1 23 9 = μL704.1 23 9 - 1 := ((F_832.1 23 (ni hprP (fun P => 23) (fun P => [P, P + 1]) rfl) 9).trans ((F_819.1 23 (ni hprP (fun P => 23) (fun P => [P + 2, (P + 2) + 1, (P + 2) + 2, (P + 2) + 3]) rfl) 9).trans hs_800))
          exact xr_v G hret hlk dX7_arguments_148 ⟨(Fr.tr (Fr.tr (Fr.tr (Fr.tr (Fr.tr Fr.rf F_675 (si hprP (fun P => [26, 23]) (fun P => [2, 3, 4, 23, 24, 26, P, P + 1, P + 2, (P + 2) + 1, (P + 2) + 2, (P + 2) + 3]) rfl)) FL705 (si hprP (fun P => [2, 3, 4, 23, 24, 26, P, P + 1, P + 2, (P + 2) + 1, (P + 2) + 2, (P + 2) + 3]) (fun P => [2, 3, 4, 23, 24, 26, P, P + 1, P + 2, (P + 2) + 1, (P + 2) + 2, (P + 2) + 3]) rfl)) F_795 (si hprP (fun P => [26, 23]) (fun P => [2, 3, 4, 23, 24, 26, P, P + 1, P + 2, (P + 2) + 1, (P + 2) + 2, (P + 2) + 3]) rfl)) F_819 (si hprP (fun P => [P + 2, (P + 2) + 1, (P + 2) + 2, (P + 2) + 3]) (fun P => [2, 3, 4, 23, 24, 26, P, P + 1, P + 2, (P + 2) + 1, (P + 2) + 2, (P + 2) + 3]) rfl)) F_832 (si hprP (fun P => [P, P + 1]) (fun P => [2, 3, 4, 23, 24, 26, P, P + 1, P + 2, (P + 2) + 1, (P + 2) + 2, (P + 2) + 3]) rfl)), hI_833, htk_838, (by omega), (by omega), (by omega), (by omega), (fun h0 => (PXE.ex (hpx_837 h0)).e (by omega)), (((F_832.1 23 (ni hprP (fun P => 23) (fun P => [P, P + 1]) rfl) 2).trans ((F_819.1 23 (ni hprP (fun P => 23) (fun P => [P + 2, (P + 2) + 1, (P + 2) + 2, (P + 2) + 3]) rfl) 2).trans (hs_805.trans hi_723)))).trans hP, ((F_832.1 23 (ni hprP (fun P => 23) (fun P => [P, P + 1]) rfl) 5).trans ((F_819.1 23 (ni hprP (fun P => 23) (fun P => [P + 2, (P + 2) + 1, (P + 2) + 2, (P + 2) + 3]) rfl) 5).trans (hs_806.trans hi_724))), ((F_832.1 23 (ni hprP (fun P => 23) (fun P => [P, P + 1]) rfl) 6).trans ((F_819.1 23 (ni hprP (fun P => 23) (fun P => [P + 2, (P + 2) + 1, (P + 2) + 2, (P + 2) + 3]) rfl) 6).trans (hs_807.trans hi_725))), ((F_832.1 23 (ni hprP (fun P => 23) (fun P => [P, P + 1]) rfl) 7).trans ((F_819.1 23 (ni hprP (fun P => 23) (fun P => [P + 2, (P + 2) + 1, (P + 2) + 2, (P + 2) + 3]) rfl) 7).trans (hs_808.trans hi_726))), (((F_832.1 23 (ni hprP (fun P => 23) (fun P => [P, P + 1]) rfl) 8).trans ((F_819.1 23 (ni hprP (fun P => 23) (fun P => [P + 2, (P + 2) + 1, (P + 2) + 2, (P + 2) + 3]) rfl) 8).trans (hs_809.trans hi_727)))).trans htt, (by omega), ((F_832.1 23 (ni hprP (fun P => 23) (fun P => [P, P + 1]) rfl) 10).trans ((F_819.1 23 (ni hprP (fun P => 23) (fun P => [P + 2, (P + 2) + 1, (P + 2) + 2, (P + 2) + 3]) rfl) 10).trans (hs_810.trans hi_728))), ((F_832.1 26 (ni hprP (fun P => 26) (fun P => [P, P + 1]) rfl) 6).trans ((F_819.1 26 (ni hprP (fun P => 26) (fun P => [P + 2, (P + 2) + 1, (P + 2) + 2, (P + 2) + 3]) rfl) 6).trans (hs_801.trans hi_729))), (hs_836.trans ((F_819.1 P (ni hprP (fun P => P) (fun P => [P + 2, (P + 2) + 1, (P + 2) + 2, (P + 2) + 3]) rfl) 7).trans ((F_795.1 P (ni hprP (fun P => P) (fun P => [26, 23]) rfl) 7).trans hi_733)))⟩
        · refine lv_iload hx hb dX7_arguments_61 (lv_at hl 2 rfl) ?_
          refine lv_bipush (v := iv 8) hx hb dX7_arguments_63 rfl ?_
          refine xb_icmp_lt (tgt := 80) hx hb (by unfold ir; omega) (by unfold ir; omega) dX7_arguments_65 (by decide) (fun c_65 => ?_) (fun c_65 => ?_)
          · refine lv_aload_n hx hb dX7_arguments_80 rfl (lv_at hl 5 rfl) ?_
            refine lv_iconst (v := iv 0) hx hb dX7_arguments_81 rfl ?_
            have e_850 : μL704.1 23 2 = P := hi_723
            have e_851 : μL704.1 23 8 = tt := hi_727
            have hk_852 := hi_734.pr (p := P) hprP
            unfold pk at hk_852
            have hc_853 : 16 ≤ μL704.2.1 (P + 1) ∧ μL704.2.1 (P + 1) ≤ 73024 := hi_734.rm.1 _ hprP.cap
            have hn_854 : -1 ≤ μL704.1 26 10 ∧ μL704.1 26 10 ≤ 3000 := hi_734.nm.2.2.2.2.2.2.2.2.2.2.2.2
            have hk_855 := hi_734.row (r := P + 2) (hprP.row)
            unfold rk at hk_855
            refine xc_vV G (b := 23) (rest := []) (As := [.int (iv 0)]) (((fun (_ : Om) (_ : Launch) => hE)) ω l μL704 0 P tt (by omega) hi_734 (by omega) (by omega) hi_715 (by omega) (by omega) (by omega) (by omega) (by omega) (fun _ => Or.inl (by omega))) (wm 4 3 rfl rfl) (wm 4 5 rfl rfl) (wm 0 24 rfl rfl) rfl rfl (by decide) rfl (wm 1 12 rfl rfl) (wm 4 6 rfl rfl) (by decide) hR ⟨sfr (F := F) (a := 0) (by decide), slo (L := Lo) (m := 3) (a := 0) (by decide)⟩ (n := 1) rfl rfl (Nat.le_of_ble_eq_true rfl) hl.1 dX7_arguments_82 (fun μ856 ρ d0 H locs hp G => ?_)
            obtain ⟨F_857, hI_858, hp_859, hp_860, hp_861, hp_862, hp_863, hp_864, hs_865, hs_866, hs_867, hs_868, hs_869, hs_870, hs_871, hs_872, hs_873⟩ := hp
            have hn_874 : -1 ≤ μ856.1 26 10 ∧ μ856.1 26 10 ≤ 3000 := hI_858.nm.2.2.2.2.2.2.2.2.2.2.2.2
            have hk_875 := hI_858.pr (p := P) hprP
            unfold pk at hk_875
            have hc_876 : 16 ≤ μ856.2.1 (P + 1) ∧ μ856.2.1 (P + 1) ≤ 73024 := hI_858.rm.1 _ hprP.cap
            have hk_877 := hI_858.row (r := P + 2) (hprP.row)
            unfold rk at hk_877
            have htb_878 := hp_859.b
            have hpx_879 : μ856.1 26 11 = 0 → PXE μo μ856 P tt ((ee + c9) + (1 - 0)) f9 1 := fun h0 => (PXE.app (hi_721 (by have h9 : μL704.1 26 11 = μL704.1 26 11 := rfl; have h8 : μ856.1 26 11 = μ856.1 26 11 := rfl; omega)) (hp_864 h0)).e (by omega)
            refine lv_aload_n hx hb dX7_arguments_85 rfl (lv_at hl 5 rfl) ?_
            refine lv_iload hx hb dX7_arguments_86 (lv_at hl 3 rfl) ?_
            refine lv_iload hx hb dX7_arguments_88 (lv_at hl 4 rfl) ?_
            refine lv_iload hx hb dX7_arguments_90 (lv_at hl 2 rfl) ?_
            refine xb_iadd hx hb dX7_arguments_92 ?_
            have e_880 : μ856.1 23 2 = P := (hs_865.trans hi_723)
            have e_881 : μ856.1 23 8 = tt := (hs_869.trans hi_727)
            refine xc_iV G (b := 23) (rest := []) (As := [.int (iv f9), .int (iv (1 + c9))]) (c_X7_ifFails ω l μ856 f9 (1 + c9) μo ((ee + c9) + (1 - 0)) (1) P tt (by unfold ir; omega) (by unfold ir; omega) hI_858 (by omega) (by omega) (by omega) hpx_879 (by omega) (by omega)) (wm 4 23 rfl rfl) (wm 4 25 rfl rfl) (wm 0 29 rfl rfl) rfl rfl (by decide) rfl (wm 1 12 rfl rfl) (wm 4 26 rfl rfl) (by decide) hR ⟨nfr hF (by decide), nlo hLo (by decide)⟩ (n := 2) rfl rfl (Nat.le_of_ble_eq_true rfl) hl.1 dX7_arguments_93 (fun r_883 μ882 ρ d0 H locs hr_r_883 hp G => ?_)
            have hr_r_883 : -2147483648 ≤ r_883 ∧ r_883 ≤ 2147483647 := hr_r_883
            obtain ⟨F_884, hI_885, hp_886, hp_887, hs_888⟩ := hp
            have hk_889 := hI_885.pr (p := P) hprP
            unfold pk at hk_889
            have hc_890 : 16 ≤ μ882.2.1 (P + 1) ∧ μ882.2.1 (P + 1) ≤ 73024 := hI_885.rm.1 _ hprP.cap
            have hpx_891 : μ882.1 26 11 = 0 → PXE μo μ882 P tt ((ee + c9) + (1 - 0)) r_883 1 := fun h0 => hp_886 (by have h9 : μ856.1 26 11 = μ856.1 26 11 := rfl; have h8 : μ882.1 26 11 = μ856.1 26 11 := (F_884.1 26 (ni hprP (fun P => 26) (fun P => [P, P + 1]) rfl) 11); omega)
            clear hp_886
            refine lv_istore (lv' := [(7, .int (iv r_883)), (10, .int (iv i9)), (9, .int (iv m9)), (8, .int (iv c9)), (6, .int (iv 1)), (0, .ref (oP ω 23)), (1, .int (iv x1)), (2, .int (iv x2)), (3, .long (jv x3)), (5, .int (iv x4))]) hx hb dX7_arguments_96 hl (by decide) rfl (fun ls hl => ?_)
            refine lv_iinc (v := iv (c9 + 1)) (lv' := [(8, .int (iv (c9 + 1))), (7, .int (iv r_883)), (10, .int (iv i9)), (9, .int (iv m9)), (6, .int (iv 1)), (0, .ref (oP ω 23)), (1, .int (iv x1)), (2, .int (iv x2)), (3, .long (jv x3)), (5, .int (iv x4))]) hx hb dX7_arguments_98 hl (k := 3) rfl (by rw [show Int32.ofInt 1 = iv 1 from rfl, iv_add]) (by decide) rfl (fun ls hl => ?_)
            refine lv_aload_n hx hb dX7_arguments_101 rfl (lv_at hl 5 rfl) ?_
            refine lv_bipush (v := iv 44) hx hb dX7_arguments_102 rfl ?_
            have htk_892 : TK μ882 := hp_859.fr (K := [P, P + 1]) (Fr.tr Fr.rf F_884 (si hprP (fun P => [P, P + 1]) (fun P => [P, P + 1]) rfl)) (ni hprP (fun P => 26) (fun P => [P, P + 1]) rfl) (ni hprP (fun P => 28) (fun P => [P, P + 1]) rfl)
            have e_893 : μ882.1 26 10 = μ856.1 26 10 := (F_884.1 26 (ni hprP (fun P => 26) (fun P => [P, P + 1]) rfl) 10)
            have e_894 : μ882.1 26 11 = μ856.1 26 11 := (F_884.1 26 (ni hprP (fun P => 26) (fun P => [P, P + 1]) rfl) 11)
            refine xc_iV G (b := 23) (rest := []) (As := [.int (iv 44)]) (c_X7_took_b ω l μ882 44 (by unfold ir; omega) hI_885 htk_892 (by omega)) (wm 3 160 rfl rfl) (wm 3 162 rfl rfl) (wm 0 9 rfl rfl) rfl rfl (by decide) rfl (wm 1 12 rfl rfl) (wm 3 163 rfl rfl) (by decide) hR ⟨nfr hF (by decide), nlo hLo (by decide)⟩ (n := 1) rfl rfl (Nat.le_of_ble_eq_true rfl) hl.1 dX7_arguments_104 (fun r_896 μ895 ρ d0 H locs hr_r_896 hp G => ?_)
            have hr_r_896 : -2147483648 ≤ r_896 ∧ r_896 ≤ 2147483647 := hr_r_896
            obtain ⟨F_897, hI_898, hp_899, hp_900, hs_901, hs_902, hs_903, hs_904, hs_905⟩ := hp
            have hn_906 : -1 ≤ μ895.1 26 10 ∧ μ895.1 26 10 ≤ 3000 := hI_898.nm.2.2.2.2.2.2.2.2.2.2.2.2
            have htb_907 := hp_899.b
            refine lv_istore (lv' := [(9, .int (iv r_896)), (8, .int (iv (c9 + 1))), (7, .int (iv r_883)), (10, .int (iv i9)), (6, .int (iv 1)), (0, .ref (oP ω 23)), (1, .int (iv x1)), (2, .int (iv x2)), (3, .long (jv x3)), (5, .int (iv x4))]) hx hb dX7_arguments_107 hl (by decide) rfl (fun ls hl => ?_)
            refine lv_iinc (v := iv (i9 + 1)) (lv' := [(10, .int (iv (i9 + 1))), (9, .int (iv r_896)), (8, .int (iv (c9 + 1))), (7, .int (iv r_883)), (6, .int (iv 1)), (0, .ref (oP ω 23)), (1, .int (iv x1)), (2, .int (iv x2)), (3, .long (jv x3)), (5, .int (iv x4))]) hx hb dX7_arguments_109 hl (k := 3) rfl (by rw [show Int32.ofInt 1 = iv 1 from rfl, iv_add]) (by decide) rfl (fun ls hl => ?_)
            refine lv_goto (tgt := 48) hx hb dX7_arguments_112 (by decide) ?_
            have e_908 : μ895.1 23 9 = μL704.1 23 9 := ((F_897.1 23 (by decide) 9).trans ((F_884.1 23 (ni hprP (fun P => 23) (fun P => [P, P + 1]) rfl) 9).trans hs_870))
            have e_909 : μ895.1 26 11 = μ856.1 26 11 := (hs_901.trans (F_884.1 26 (ni hprP (fun P => 26) (fun P => [P, P + 1]) rfl) 11))
            have e_910 : μ895.1 P 1 = μ882.1 P 1 := (F_897.1 P (ni hprP (fun P => P) (fun P => [26]) rfl) 1)
            have e_911 : μ895.1 P 1 = μ882.1 P 1 := (F_897.1 P (ni hprP (fun P => P) (fun P => [26]) rfl) 1)
            have e_912 : μ895.1 26 11 = μ856.1 26 11 := (hs_901.trans (F_884.1 26 (ni hprP (fun P => 26) (fun P => [P, P + 1]) rfl) 11))
            have e_913 : μ895.1 P 1 = μ882.1 P 1 := (F_897.1 P (ni hprP (fun P => P) (fun P => [26]) rfl) 1)
            have e_914 : μ895.1 (P + 2) 3 = μ856.1 (P + 2) 3 := ((F_897.1 (P + 2) (ni hprP (fun P => P + 2) (fun P => [26]) rfl) 3).trans (F_884.1 (P + 2) (ni hprP (fun P => P + 2) (fun P => [P, P + 1]) rfl) 3))
            have e_915 : μ895.1 P 1 = μ882.1 P 1 := (F_897.1 P (ni hprP (fun P => P) (fun P => [26]) rfl) 1)
            have e_916 : μ895.1 (P + 2) 3 = μ856.1 (P + 2) 3 := ((F_897.1 (P + 2) (ni hprP (fun P => P + 2) (fun P => [26]) rfl) 3).trans (F_884.1 (P + 2) (ni hprP (fun P => P + 2) (fun P => [P, P + 1]) rfl) 3))
            have hpx_917 : μ895.1 26 11 = 0 → PXE μo μ895 P tt ((ee + c9) + (1 - 0)) r_883 1 := fun h0 => (hpx_891 (by have h9 : μ882.1 26 11 = μ856.1 26 11 := (F_884.1 26 (ni hprP (fun P => 26) (fun P => [P, P + 1]) rfl) 11); have h8 : μ895.1 26 11 = μ856.1 26 11 := (hs_901.trans (F_884.1 26 (ni hprP (fun P => 26) (fun P => [P, P + 1]) rfl) 11)); omega)).fr (K := [26]) (Fr.tr Fr.rf F_897 (by decide)) (npL_p (L := [26]) (by decide) hprP).1 (npL_p (L := [26]) (by decide) hprP).2.1
            have e_918 : μ895.1 2 4 = μ856.1 2 4 := ((F_897.1 2 (by decide) 4).trans (F_884.1 2 (ni hprP (fun P => 2) (fun P => [P, P + 1]) rfl) 4))
            have e_919 : μ895.1 26 7 = μ856.1 26 7 := (hs_903.trans (F_884.1 26 (ni hprP (fun P => 26) (fun P => [P, P + 1]) rfl) 7))
            have e_920 : μ895.1 26 8 = μ856.1 26 8 := (hs_904.trans (F_884.1 26 (ni hprP (fun P => 26) (fun P => [P, P + 1]) rfl) 8))
            have e_921 : μ895.1 26 9 = μ856.1 26 9 := (hs_905.trans (F_884.1 26 (ni hprP (fun P => 26) (fun P => [P, P + 1]) rfl) 9))
            exact ih _ _ _ _ _ _ _ (by omega) ⟨r_883, c9 + 1, r_896, i9 + 1, (Fr.tr (Fr.tr (Fr.tr FL705 F_857 (si hprP (fun P => [2, 3, 4, 23, 24, 26, P, P + 1, P + 2, (P + 2) + 1, (P + 2) + 2, (P + 2) + 3]) (fun P => [2, 3, 4, 23, 24, 26, P, P + 1, P + 2, (P + 2) + 1, (P + 2) + 2, (P + 2) + 3]) rfl)) F_884 (si hprP (fun P => [P, P + 1]) (fun P => [2, 3, 4, 23, 24, 26, P, P + 1, P + 2, (P + 2) + 1, (P + 2) + 2, (P + 2) + 3]) rfl)) F_897 (si hprP (fun P => [26]) (fun P => [2, 3, 4, 23, 24, 26, P, P + 1, P + 2, (P + 2) + 1, (P + 2) + 2, (P + 2) + 3]) rfl)), (by omega), (by omega), (by omega), (by omega), (by omega), (by omega), (by omega), (by omega), hp_899, (by omega), (by omega), (by omega), (by omega), (by omega), (fun h0 => (hpx_917 h0).e (by omega)), (by omega), ((F_897.1 23 (by decide) 2).trans ((F_884.1 23 (ni hprP (fun P => 23) (fun P => [P, P + 1]) rfl) 2).trans (hs_865.trans hi_723))), ((F_897.1 23 (by decide) 5).trans ((F_884.1 23 (ni hprP (fun P => 23) (fun P => [P, P + 1]) rfl) 5).trans (hs_866.trans hi_724))), ((F_897.1 23 (by decide) 6).trans ((F_884.1 23 (ni hprP (fun P => 23) (fun P => [P, P + 1]) rfl) 6).trans (hs_867.trans hi_725))), ((F_897.1 23 (by decide) 7).trans ((F_884.1 23 (ni hprP (fun P => 23) (fun P => [P, P + 1]) rfl) 7).trans (hs_868.trans hi_726))), ((F_897.1 23 (by decide) 8).trans ((F_884.1 23 (ni hprP (fun P => 23) (fun P => [P, P + 1]) rfl) 8).trans (hs_869.trans hi_727))), ((F_897.1 23 (by decide) 10).trans ((F_884.1 23 (ni hprP (fun P => 23) (fun P => [P, P + 1]) rfl) 10).trans (hs_871.trans hi_728))), (hs_902.trans ((F_884.1 26 (ni hprP (fun P => 26) (fun P => [P, P + 1]) rfl) 6).trans (hs_872.trans hi_729))), (by omega), (by omega), (by omega), ((F_897.1 P (ni hprP (fun P => P) (fun P => [26]) rfl) 7).trans (hs_888.trans (hs_873.trans hi_733))), hI_898, rfl, lv_sub hl [0, 1, 2, 3, 4, 5, 6, 7, 8, 9] rfl⟩ G
          · refine lv_aload_n hx hb dX7_arguments_68 rfl (lv_at hl 5 rfl) ?_
            refine lv_iconst (v := iv 2) hx hb dX7_arguments_69 rfl ?_
            refine lv_aload_n hx hb dX7_arguments_70 rfl (lv_at hl 5 rfl) ?_
            refine xa_getr G fd_X7 (a := 23) (x := 26) 0 rfl (by decide) rfl (wm 2 17 rfl rfl) ⟨rfl, rfl, rfl⟩ dX7_arguments_71 rfl (G.sk 23 rfl) (by decide) rfl ?_
            refine xa_getN G fd_X10 (host := "FourTongues") (a := 26) 13 rfl (by decide) (by decide) ⟨rfl, rfl, rfl⟩ dX7_arguments_74 rfl (v := .int (iv (μL704.1 26 13))) (by rw [show μL704.1 26 13 = μL704.1 26 13 from rfl]; rfl) ?_
            have hr_922 : -2147483648 ≤ μL704.1 26 13 ∧ μL704.1 26 13 ≤ 2147483647 := by have h9 := G.hr (a := 26) (k := 13) rfl; exact h9
            refine xc_vV G (b := 23) (rest := []) (As := [.int (iv 2), .int (iv (μL704.1 26 13))]) (c_X7_tellFault ω l μL704 2 (μL704.1 26 13) (by unfold ir; omega) (by unfold ir; omega) hi_734 (by omega)) (wm 3 177 rfl rfl) (wm 3 179 rfl rfl) (wm 0 12 rfl rfl) rfl rfl (by decide) rfl (wm 1 12 rfl rfl) (wm 3 180 rfl rfl) (by decide) hR ⟨nfr hF (by decide), nlo hLo (by decide)⟩ (n := 2) rfl rfl (Nat.le_of_ble_eq_true rfl) hl.1 dX7_arguments_77 (fun μ923 ρ d0 H locs hp G => ?_)
            obtain ⟨F_924, hI_925⟩ := hp
            refine lv_aload_n hx hb dX7_arguments_80 rfl (lv_at hl 5 rfl) ?_
            refine lv_iconst (v := iv 0) hx hb dX7_arguments_81 rfl ?_
            have hpx_926 : μ923.1 26 11 = 0 → PXE μo μ923 P tt (ee + c9) f9 1 := fun h0 => (hi_721 (by have h9 : μL704.1 26 11 = μL704.1 26 11 := rfl; have h8 : μ923.1 26 11 = μL704.1 26 11 := (F_924.1 26 (by decide) 11); omega)).fr (K := [24]) (Fr.tr Fr.rf F_924 (by decide)) (npL_p (L := [24]) (by decide) hprP).1 (npL_p (L := [24]) (by decide) hprP).2.1
            have e_927 : μ923.1 23 2 = P := ((F_924.1 23 (by decide) 2).trans hi_723)
            have e_928 : μ923.1 23 8 = tt := ((F_924.1 23 (by decide) 8).trans hi_727)
            have htk_929 : TK μ923 := hi_715.fr (K := [24]) (Fr.tr Fr.rf F_924 (by decide)) (by decide) (by decide)
            have hk_930 := hi_734.pr (p := P) hprP
            unfold pk at hk_930
            have hc_931 : 16 ≤ μL704.2.1 (P + 1) ∧ μL704.2.1 (P + 1) ≤ 73024 := hi_734.rm.1 _ hprP.cap
            have e_932 : μ923.1 P 1 = μL704.1 P 1 := (F_924.1 P (ni hprP (fun P => P) (fun P => [24]) rfl) 1)
            have hn_933 : -1 ≤ μL704.1 26 10 ∧ μL704.1 26 10 ≤ 3000 := hi_734.nm.2.2.2.2.2.2.2.2.2.2.2.2
            have e_934 : μ923.1 26 10 = μL704.1 26 10 := (F_924.1 26 (by decide) 10)
            have e_935 : μ923.1 26 11 = μL704.1 26 11 := (F_924.1 26 (by decide) 11)
            have hk_936 := hi_734.row (r := P + 2) (hprP.row)
            unfold rk at hk_936
            have e_937 : μ923.1 (P + 2) 3 = μL704.1 (P + 2) 3 := (F_924.1 (P + 2) (ni hprP (fun P => P + 2) (fun P => [24]) rfl) 3)
            have e_938 : μ923.1 P 1 = μL704.1 P 1 := (F_924.1 P (ni hprP (fun P => P) (fun P => [24]) rfl) 1)
            have e_939 : μ923.1 23 9 = μL704.1 23 9 := (F_924.1 23 (by decide) 9)
            have e_940 : μ923.1 23 9 = μL704.1 23 9 := (F_924.1 23 (by decide) 9)
            have e_941 : μ923.1 26 11 = μL704.1 26 11 := (F_924.1 26 (by decide) 11)
            have e_942 : μ923.1 23 9 = μL704.1 23 9 := (F_924.1 23 (by decide) 9)
            have e_943 : μ923.1 26 11 = μL704.1 26 11 := (F_924.1 26 (by decide) 11)
            have e_944 : μ923.1 26 11 = μL704.1 26 11 := (F_924.1 26 (by decide) 11)
            have e_945 : μ923.1 26 10 = μL704.1 26 10 := (F_924.1 26 (by decide) 10)
            have e_946 : μ923.1 P 1 = μL704.1 P 1 := (F_924.1 P (ni hprP (fun P => P) (fun P => [24]) rfl) 1)
            have e_947 : μ923.1 P 1 = μL704.1 P 1 := (F_924.1 P (ni hprP (fun P => P) (fun P => [24]) rfl) 1)
            have e_948 : μ923.1 26 10 = μL704.1 26 10 := (F_924.1 26 (by decide) 10)
            have e_949 : μ923.1 26 11 = μL704.1 26 11 := (F_924.1 26 (by decide) 11)
            have e_950 : μ923.1 (P + 2) 3 = μL704.1 (P + 2) 3 := (F_924.1 (P + 2) (ni hprP (fun P => P + 2) (fun P => [24]) rfl) 3)
            have e_951 : μ923.1 P 1 = μL704.1 P 1 := (F_924.1 P (ni hprP (fun P => P) (fun P => [24]) rfl) 1)
            have e_952 : μ923.1 (P + 2) 3 = μL704.1 (P + 2) 3 := (F_924.1 (P + 2) (ni hprP (fun P => P + 2) (fun P => [24]) rfl) 3)
            refine xc_vV G (b := 23) (rest := []) (As := [.int (iv 0)]) (((fun (_ : Om) (_ : Launch) => hE)) ω l μ923 0 P tt (by omega) hI_925 (by omega) (by omega) htk_929 (by omega) (by omega) (by omega) (by omega) (by omega) (fun _ => Or.inl (by omega))) (wm 4 3 rfl rfl) (wm 4 5 rfl rfl) (wm 0 24 rfl rfl) rfl rfl (by decide) rfl (wm 1 12 rfl rfl) (wm 4 6 rfl rfl) (by decide) hR ⟨sfr (F := F) (a := 0) (by decide), slo (L := Lo) (m := 3) (a := 0) (by decide)⟩ (n := 1) rfl rfl (Nat.le_of_ble_eq_true rfl) hl.1 dX7_arguments_82 (fun μ953 ρ d0 H locs hp G => ?_)
            obtain ⟨F_954, hI_955, hp_956, hp_957, hp_958, hp_959, hp_960, hp_961, hs_962, hs_963, hs_964, hs_965, hs_966, hs_967, hs_968, hs_969, hs_970⟩ := hp
            have hn_971 : -1 ≤ μ953.1 26 10 ∧ μ953.1 26 10 ≤ 3000 := hI_955.nm.2.2.2.2.2.2.2.2.2.2.2.2
            have hk_972 := hI_955.pr (p := P) hprP
            unfold pk at hk_972
            have hc_973 : 16 ≤ μ953.2.1 (P + 1) ∧ μ953.2.1 (P + 1) ≤ 73024 := hI_955.rm.1 _ hprP.cap
            have hk_974 := hI_955.row (r := P + 2) (hprP.row)
            unfold rk at hk_974
            have htb_975 := hp_956.b
            have hpx_976 : μ953.1 26 11 = 0 → PXE μo μ953 P tt ((ee + c9) + (1 - 0)) f9 1 := fun h0 => (PXE.app (hpx_926 (by have h9 : μ923.1 26 11 = μL704.1 26 11 := (F_924.1 26 (by decide) 11); have h8 : μ953.1 26 11 = μ953.1 26 11 := rfl; omega)) (hp_961 h0)).e (by omega)
            refine lv_aload_n hx hb dX7_arguments_85 rfl (lv_at hl 5 rfl) ?_
            refine lv_iload hx hb dX7_arguments_86 (lv_at hl 3 rfl) ?_
            refine lv_iload hx hb dX7_arguments_88 (lv_at hl 4 rfl) ?_
            refine lv_iload hx hb dX7_arguments_90 (lv_at hl 2 rfl) ?_
            refine xb_iadd hx hb dX7_arguments_92 ?_
            have e_977 : μ953.1 23 2 = P := (hs_962.trans ((F_924.1 23 (by decide) 2).trans hi_723))
            have e_978 : μ953.1 23 8 = tt := (hs_966.trans ((F_924.1 23 (by decide) 8).trans hi_727))
            refine xc_iV G (b := 23) (rest := []) (As := [.int (iv f9), .int (iv (1 + c9))]) (c_X7_ifFails ω l μ953 f9 (1 + c9) μo ((ee + c9) + (1 - 0)) (1) P tt (by unfold ir; omega) (by unfold ir; omega) hI_955 (by omega) (by omega) (by omega) hpx_976 (by omega) (by omega)) (wm 4 23 rfl rfl) (wm 4 25 rfl rfl) (wm 0 29 rfl rfl) rfl rfl (by decide) rfl (wm 1 12 rfl rfl) (wm 4 26 rfl rfl) (by decide) hR ⟨nfr hF (by decide), nlo hLo (by decide)⟩ (n := 2) rfl rfl (Nat.le_of_ble_eq_true rfl) hl.1 dX7_arguments_93 (fun r_980 μ979 ρ d0 H locs hr_r_980 hp G => ?_)
            have hr_r_980 : -2147483648 ≤ r_980 ∧ r_980 ≤ 2147483647 := hr_r_980
            obtain ⟨F_981, hI_982, hp_983, hp_984, hs_985⟩ := hp
            have hk_986 := hI_982.pr (p := P) hprP
            unfold pk at hk_986
            have hc_987 : 16 ≤ μ979.2.1 (P + 1) ∧ μ979.2.1 (P + 1) ≤ 73024 := hI_982.rm.1 _ hprP.cap
            have hpx_988 : μ979.1 26 11 = 0 → PXE μo μ979 P tt ((ee + c9) + (1 - 0)) r_980 1 := fun h0 => hp_983 (by have h9 : μ953.1 26 11 = μ953.1 26 11 := rfl; have h8 : μ979.1 26 11 = μ953.1 26 11 := (F_981.1 26 (ni hprP (fun P => 26) (fun P => [P, P + 1]) rfl) 11); omega)
            clear hp_983
            refine lv_istore (lv' := [(7, .int (iv r_980)), (10, .int (iv i9)), (9, .int (iv m9)), (8, .int (iv c9)), (6, .int (iv 1)), (0, .ref (oP ω 23)), (1, .int (iv x1)), (2, .int (iv x2)), (3, .long (jv x3)), (5, .int (iv x4))]) hx hb dX7_arguments_96 hl (by decide) rfl (fun ls hl => ?_)
            refine lv_iinc (v := iv (c9 + 1)) (lv' := [(8, .int (iv (c9 + 1))), (7, .int (iv r_980)), (10, .int (iv i9)), (9, .int (iv m9)), (6, .int (iv 1)), (0, .ref (oP ω 23)), (1, .int (iv x1)), (2, .int (iv x2)), (3, .long (jv x3)), (5, .int (iv x4))]) hx hb dX7_arguments_98 hl (k := 3) rfl (by rw [show Int32.ofInt 1 = iv 1 from rfl, iv_add]) (by decide) rfl (fun ls hl => ?_)
            refine lv_aload_n hx hb dX7_arguments_101 rfl (lv_at hl 5 rfl) ?_
            refine lv_bipush (v := iv 44) hx hb dX7_arguments_102 rfl ?_
            have htk_989 : TK μ979 := hp_956.fr (K := [P, P + 1]) (Fr.tr Fr.rf F_981 (si hprP (fun P => [P, P + 1]) (fun P => [P, P + 1]) rfl)) (ni hprP (fun P => 26) (fun P => [P, P + 1]) rfl) (ni hprP (fun P => 28) (fun P => [P, P + 1]) rfl)
            have e_990 : μ979.1 26 10 = μ953.1 26 10 := (F_981.1 26 (ni hprP (fun P => 26) (fun P => [P, P + 1]) rfl) 10)
            have e_991 : μ979.1 26 11 = μ953.1 26 11 := (F_981.1 26 (ni hprP (fun P => 26) (fun P => [P, P + 1]) rfl) 11)
            refine xc_iV G (b := 23) (rest := []) (As := [.int (iv 44)]) (c_X7_took_b ω l μ979 44 (by unfold ir; omega) hI_982 htk_989 (by omega)) (wm 3 160 rfl rfl) (wm 3 162 rfl rfl) (wm 0 9 rfl rfl) rfl rfl (by decide) rfl (wm 1 12 rfl rfl) (wm 3 163 rfl rfl) (by decide) hR ⟨nfr hF (by decide), nlo hLo (by decide)⟩ (n := 1) rfl rfl (Nat.le_of_ble_eq_true rfl) hl.1 dX7_arguments_104 (fun r_993 μ992 ρ d0 H locs hr_r_993 hp G => ?_)
            have hr_r_993 : -2147483648 ≤ r_993 ∧ r_993 ≤ 2147483647 := hr_r_993
            obtain ⟨F_994, hI_995, hp_996, hp_997, hs_998, hs_999, hs_1000, hs_1001, hs_1002⟩ := hp
            have hn_1003 : -1 ≤ μ992.1 26 10 ∧ μ992.1 26 10 ≤ 3000 := hI_995.nm.2.2.2.2.2.2.2.2.2.2.2.2
            have htb_1004 := hp_996.b
            refine lv_istore (lv' := [(9, .int (iv r_993)), (8, .int (iv (c9 + 1))), (7, .int (iv r_980)), (10, .int (iv i9)), (6, .int (iv 1)), (0, .ref (oP ω 23)), (1, .int (iv x1)), (2, .int (iv x2)), (3, .long (jv x3)), (5, .int (iv x4))]) hx hb dX7_arguments_107 hl (by decide) rfl (fun ls hl => ?_)
            refine lv_iinc (v := iv (i9 + 1)) (lv' := [(10, .int (iv (i9 + 1))), (9, .int (iv r_993)), (8, .int (iv (c9 + 1))), (7, .int (iv r_980)), (6, .int (iv 1)), (0, .ref (oP ω 23)), (1, .int (iv x1)), (2, .int (iv x2)), (3, .long (jv x3)), (5, .int (iv x4))]) hx hb dX7_arguments_109 hl (k := 3) rfl (by rw [show Int32.ofInt 1 = iv 1 from rfl, iv_add]) (by decide) rfl (fun ls hl => ?_)
            refine lv_goto (tgt := 48) hx hb dX7_arguments_112 (by decide) ?_
            have e_1005 : μ992.1 23 9 = μL704.1 23 9 := ((F_994.1 23 (by decide) 9).trans ((F_981.1 23 (ni hprP (fun P => 23) (fun P => [P, P + 1]) rfl) 9).trans (hs_967.trans (F_924.1 23 (by decide) 9))))
            have e_1006 : μ992.1 26 11 = μ953.1 26 11 := (hs_998.trans (F_981.1 26 (ni hprP (fun P => 26) (fun P => [P, P + 1]) rfl) 11))
            have e_1007 : μ992.1 P 1 = μ979.1 P 1 := (F_994.1 P (ni hprP (fun P => P) (fun P => [26]) rfl) 1)
            have e_1008 : μ992.1 P 1 = μ979.1 P 1 := (F_994.1 P (ni hprP (fun P => P) (fun P => [26]) rfl) 1)
            have e_1009 : μ992.1 26 11 = μ953.1 26 11 := (hs_998.trans (F_981.1 26 (ni hprP (fun P => 26) (fun P => [P, P + 1]) rfl) 11))
            have e_1010 : μ992.1 P 1 = μ979.1 P 1 := (F_994.1 P (ni hprP (fun P => P) (fun P => [26]) rfl) 1)
            have e_1011 : μ992.1 (P + 2) 3 = μ953.1 (P + 2) 3 := ((F_994.1 (P + 2) (ni hprP (fun P => P + 2) (fun P => [26]) rfl) 3).trans (F_981.1 (P + 2) (ni hprP (fun P => P + 2) (fun P => [P, P + 1]) rfl) 3))
            have e_1012 : μ992.1 P 1 = μ979.1 P 1 := (F_994.1 P (ni hprP (fun P => P) (fun P => [26]) rfl) 1)
            have e_1013 : μ992.1 (P + 2) 3 = μ953.1 (P + 2) 3 := ((F_994.1 (P + 2) (ni hprP (fun P => P + 2) (fun P => [26]) rfl) 3).trans (F_981.1 (P + 2) (ni hprP (fun P => P + 2) (fun P => [P, P + 1]) rfl) 3))
            have hpx_1014 : μ992.1 26 11 = 0 → PXE μo μ992 P tt ((ee + c9) + (1 - 0)) r_980 1 := fun h0 => (hpx_988 (by have h9 : μ979.1 26 11 = μ953.1 26 11 := (F_981.1 26 (ni hprP (fun P => 26) (fun P => [P, P + 1]) rfl) 11); have h8 : μ992.1 26 11 = μ953.1 26 11 := (hs_998.trans (F_981.1 26 (ni hprP (fun P => 26) (fun P => [P, P + 1]) rfl) 11)); omega)).fr (K := [26]) (Fr.tr Fr.rf F_994 (by decide)) (npL_p (L := [26]) (by decide) hprP).1 (npL_p (L := [26]) (by decide) hprP).2.1
            have e_1015 : μ992.1 2 4 = μ953.1 2 4 := ((F_994.1 2 (by decide) 4).trans (F_981.1 2 (ni hprP (fun P => 2) (fun P => [P, P + 1]) rfl) 4))
            have e_1016 : μ992.1 26 7 = μ953.1 26 7 := (hs_1000.trans (F_981.1 26 (ni hprP (fun P => 26) (fun P => [P, P + 1]) rfl) 7))
            have e_1017 : μ992.1 26 8 = μ953.1 26 8 := (hs_1001.trans (F_981.1 26 (ni hprP (fun P => 26) (fun P => [P, P + 1]) rfl) 8))
            have e_1018 : μ992.1 26 9 = μ953.1 26 9 := (hs_1002.trans (F_981.1 26 (ni hprP (fun P => 26) (fun P => [P, P + 1]) rfl) 9))
            exact ih _ _ _ _ _ _ _ (by omega) ⟨r_980, c9 + 1, r_993, i9 + 1, (Fr.tr (Fr.tr (Fr.tr (Fr.tr FL705 F_924 (si hprP (fun P => [24]) (fun P => [2, 3, 4, 23, 24, 26, P, P + 1, P + 2, (P + 2) + 1, (P + 2) + 2, (P + 2) + 3]) rfl)) F_954 (si hprP (fun P => [2, 3, 4, 23, 24, 26, P, P + 1, P + 2, (P + 2) + 1, (P + 2) + 2, (P + 2) + 3]) (fun P => [2, 3, 4, 23, 24, 26, P, P + 1, P + 2, (P + 2) + 1, (P + 2) + 2, (P + 2) + 3]) rfl)) F_981 (si hprP (fun P => [P, P + 1]) (fun P => [2, 3, 4, 23, 24, 26, P, P + 1, P + 2, (P + 2) + 1, (P + 2) + 2, (P + 2) + 3]) rfl)) F_994 (si hprP (fun P => [26]) (fun P => [2, 3, 4, 23, 24, 26, P, P + 1, P + 2, (P + 2) + 1, (P + 2) + 2, (P + 2) + 3]) rfl)), (by omega), (by omega), (by omega), (by omega), (by omega), (by omega), (by omega), (by omega), hp_996, (by omega), (by omega), (by omega), (by omega), (by omega), (fun h0 => (hpx_1014 h0).e (by omega)), (by omega), ((F_994.1 23 (by decide) 2).trans ((F_981.1 23 (ni hprP (fun P => 23) (fun P => [P, P + 1]) rfl) 2).trans (hs_962.trans ((F_924.1 23 (by decide) 2).trans hi_723)))), ((F_994.1 23 (by decide) 5).trans ((F_981.1 23 (ni hprP (fun P => 23) (fun P => [P, P + 1]) rfl) 5).trans (hs_963.trans ((F_924.1 23 (by decide) 5).trans hi_724)))), ((F_994.1 23 (by decide) 6).trans ((F_981.1 23 (ni hprP (fun P => 23) (fun P => [P, P + 1]) rfl) 6).trans (hs_964.trans ((F_924.1 23 (by decide) 6).trans hi_725)))), ((F_994.1 23 (by decide) 7).trans ((F_981.1 23 (ni hprP (fun P => 23) (fun P => [P, P + 1]) rfl) 7).trans (hs_965.trans ((F_924.1 23 (by decide) 7).trans hi_726)))), ((F_994.1 23 (by decide) 8).trans ((F_981.1 23 (ni hprP (fun P => 23) (fun P => [P, P + 1]) rfl) 8).trans (hs_966.trans ((F_924.1 23 (by decide) 8).trans hi_727)))), ((F_994.1 23 (by decide) 10).trans ((F_981.1 23 (ni hprP (fun P => 23) (fun P => [P, P + 1]) rfl) 10).trans (hs_968.trans ((F_924.1 23 (by decide) 10).trans hi_728)))), (hs_999.trans ((F_981.1 26 (ni hprP (fun P => 26) (fun P => [P, P + 1]) rfl) 6).trans (hs_969.trans ((F_924.1 26 (by decide) 6).trans hi_729)))), (by omega), (by omega), (by omega), ((F_994.1 P (ni hprP (fun P => P) (fun P => [26]) rfl) 7).trans (hs_985.trans (hs_970.trans ((F_924.1 P (ni hprP (fun P => P) (fun P => [24]) rfl) 7).trans hi_733)))), hI_995, rfl, lv_sub hl [0, 1, 2, 3, 4, 5, 6, 7, 8, 9] rfl⟩ G
    · refine lv_iconst (v := iv 1) hx hb dX7_arguments_38 rfl ?_
      refine lv_goto (tgt := 43) hx hb dX7_arguments_39 (by decide) ?_
      refine lv_istore (lv' := [(9, .int (iv 1)), (8, .int (iv 0)), (7, .int (iv x4)), (6, .int (iv 1)), (0, .ref (oP ω 23)), (1, .int (iv x1)), (2, .int (iv x2)), (3, .long (jv x3)), (5, .int (iv x4))]) hx hb dX7_arguments_43 hl (by decide) rfl (fun ls hl => ?_)
      refine lv_iconst (v := iv 0) hx hb dX7_arguments_45 rfl ?_
      refine lv_istore (lv' := [(10, .int (iv 0)), (9, .int (iv 1)), (8, .int (iv 0)), (7, .int (iv x4)), (6, .int (iv 1)), (0, .ref (oP ω 23)), (1, .int (iv x1)), (2, .int (iv x2)), (3, .long (jv x3)), (5, .int (iv x4))]) hx hb dX7_arguments_46 hl (by decide) rfl (fun ls hl => ?_)
      have e_1019 : μ674.1 23 9 = μ.1 23 9 + 1 := hs_681
      have e_1020 : μ674.1 P 1 = μ.1 P 1 := (F_675.1 P (ni hprP (fun P => P) (fun P => [26, 23]) rfl) 1)
      have e_1021 : μ674.1 P 1 = μ.1 P 1 := (F_675.1 P (ni hprP (fun P => P) (fun P => [26, 23]) rfl) 1)
      have e_1022 : μ674.1 P 1 = μ.1 P 1 := (F_675.1 P (ni hprP (fun P => P) (fun P => [26, 23]) rfl) 1)
      have e_1023 : μ674.1 (P + 2) 3 = μ.1 (P + 2) 3 := (F_675.1 (P + 2) (ni hprP (fun P => P + 2) (fun P => [26, 23]) rfl) 3)
      have e_1024 : μ674.1 P 1 = μ.1 P 1 := (F_675.1 P (ni hprP (fun P => P) (fun P => [26, 23]) rfl) 1)
      have e_1025 : μ674.1 (P + 2) 3 = μ.1 (P + 2) 3 := (F_675.1 (P + 2) (ni hprP (fun P => P + 2) (fun P => [26, 23]) rfl) 3)
      have hk_1026 := hI.row (r := P + 2) (hprP.row)
      unfold rk at hk_1026
      have hpx_1027 : μ674.1 26 11 = 0 → PXE μo μ674 P tt ee x4 1 := fun h0 => (hpx (by have h9 : μ.1 26 11 = μ.1 26 11 := rfl; have h8 : μ674.1 26 11 = μ674.1 26 11 := rfl; omega)).fr (K := [26, 23]) (Fr.tr Fr.rf F_675 (by decide)) (npL_p (L := [26, 23]) (by decide) hprP).1 (npL_p (L := [26, 23]) (by decide) hprP).2.1
      refine xl (fun n_9 μ' ls => ∃ (f9 : Int), ∃ (c9 : Int), ∃ (m9 : Int), ∃ (i9 : Int), (Fr [2, 3, 4, 23, 24, 26, P, P + 1, P + 2, (P + 2) + 1, (P + 2) + 2, (P + 2) + 3] μ674 μ') ∧ (-2147483648 ≤ f9 ∧ f9 ≤ 2147483647) ∧ (-2147483648 ≤ c9 ∧ c9 ≤ 2147483647) ∧ (-2147483648 ≤ m9 ∧ m9 ≤ 2147483647) ∧ (-2147483648 ≤ i9 ∧ i9 ≤ 2147483647) ∧ (0 ≤ c9 ∧ c9 ≤ i9) ∧ (μ'.1 23 9 = μ.1 23 9 + 1) ∧ (i9 ≤ 3000) ∧ (0 ≤ m9 ∧ m9 ≤ 1) ∧ (TK μ') ∧ (μ.1 26 11 ≤ μ'.1 26 11) ∧ (μ.1 26 10 ≤ μ'.1 26 10) ∧ (μ.1 P 1 ≤ μ'.1 P 1 ∧ μ'.1 P 1 ≤ μ.1 P 1 + 2 * (μ'.1 26 10 - μ.1 26 10) + (- 2 + 3 * μ'.1 26 11)) ∧ (μ'.1 P 1 ≤ μ.1 P 1 + 2 * (μ'.1 26 10 - μ.1 26 10) + (1 - m9)) ∧ (μ'.1 (P + 2) 3 - μ.1 (P + 2) 3 ≤ μ'.1 P 1 - μ.1 P 1 ∧ μ.1 (P + 2) 3 ≤ μ'.1 (P + 2) 3) ∧ (μ'.1 26 11 = 0 → PXE μo μ' P tt (ee + c9) f9 1) ∧ (μ'.1 2 4 = μ.1 2 4) ∧ (μ'.1 23 2 = P) ∧ (μ'.1 23 5 = μ.1 23 5) ∧ (μ'.1 23 6 = μ.1 23 6) ∧ (μ'.1 23 7 = μ.1 23 7) ∧ (μ'.1 23 8 = tt) ∧ (μ'.1 23 10 = μ.1 23 10) ∧ (μ'.1 26 6 = μ.1 26 6) ∧ (μ'.1 26 7 = μ.1 26 7) ∧ (μ'.1 26 8 = μ.1 26 8) ∧ (μ'.1 26 9 = μ.1 26 9) ∧ (μ'.1 P 7 = μ.1 P 7) ∧ (IC μ') ∧ n_9 = Int.toNat (3000 - i9) ∧ lv_has ls 11 [(10, .int (iv i9)), (9, .int (iv m9)), (8, .int (iv c9)), (7, .int (iv f9)), (6, .int (iv 1)), (0, .ref (oP ω 23)), (1, .int (iv x1)), (2, .int (iv x2)), (3, .long (jv x3)), (5, .int (iv x4))]) (fun n_9 ρ μL1028 d0 H locs ls hI_l G ih => ?_) _ _ _ _ _ _ _ ⟨x4, 0, 1, 0, Fr.rf, (by omega), (by omega), (by omega), (by omega), (by omega), (by omega), (by omega), (by omega), hp_677, (by omega), (by omega), (by omega), (by omega), (by omega), (fun h0 => (hpx_1027 h0).e (by omega)), (F_675.1 2 (by decide) 4), (hs_686.trans hP.symm), hs_687, hs_688, hs_689, (hs_690.trans htt.symm), hs_691, hs_682, hs_683, hs_684, hs_685, (F_675.1 P (ni hprP (fun P => P) (fun P => [26, 23]) rfl) 7), hI_676, rfl, lv_sub hl [0, 1, 2, 3, 4, 5, 6, 7, 8, 9] rfl⟩ G
      obtain ⟨f9, c9, m9, i9, FL1029, hi_1031, hi_1032, hi_1033, hi_1034, hi_1035, hi_1036, hi_1037, hi_1038, hi_1039, hi_1040, hi_1041, hi_1042, hi_1043, hi_1044, hi_1045, hi_1046, hi_1047, hi_1048, hi_1049, hi_1050, hi_1051, hi_1052, hi_1053, hi_1054, hi_1055, hi_1056, hi_1057, hi_1058, hn1030, hl⟩ := hI_l
      have htb_1059 := hi_1039.b
      refine lv_iload hx hb dX7_arguments_48 (lv_at hl 0 rfl) ?_
      refine lv_sipush (v := iv 3000) hx hb dX7_arguments_50 rfl ?_
      refine xb_icmp_ge (tgt := 115) hx hb (by unfold ir; omega) (by unfold ir; omega) dX7_arguments_53 (by decide) (fun c_53 => ?_) (fun c_53 => ?_)
      · refine lv_aload_n hx hb dX7_arguments_115 rfl (lv_at hl 5 rfl) ?_
        refine lv_bipush (v := iv 41) hx hb dX7_arguments_116 rfl ?_
        have hn_1060 : -1 ≤ μL1028.1 26 10 ∧ μL1028.1 26 10 ≤ 3000 := hi_1058.nm.2.2.2.2.2.2.2.2.2.2.2.2
        refine xc_vV G (b := 23) (rest := []) (As := [.int (iv 41)]) (c_X7_needClosed_b ω l μL1028 41 (by unfold ir; omega) hi_1058 hi_1039 (by omega) (by omega)) (wm 3 214 rfl rfl) (wm 3 216 rfl rfl) (wm 0 18 rfl rfl) rfl rfl (by decide) rfl (wm 1 12 rfl rfl) (wm 3 217 rfl rfl) (by decide) hR ⟨nfr hF (by decide), nlo hLo (by decide)⟩ (n := 1) rfl rfl (Nat.le_of_ble_eq_true rfl) hl.1 dX7_arguments_118 (fun μ1061 ρ d0 H locs hp G => ?_)
        obtain ⟨F_1062, hI_1063, hp_1064, hp_1065, hp_1066, hs_1067, hs_1068, hs_1069, hs_1070, hs_1071, hs_1072, hs_1073, hs_1074, hs_1075, hs_1076, hs_1077⟩ := hp
        have hn_1078 : -1 ≤ μ1061.1 26 10 ∧ μ1061.1 26 10 ≤ 3000 := hI_1063.nm.2.2.2.2.2.2.2.2.2.2.2.2
        have htb_1079 := hp_1064.b
        refine lv_aload_n hx hb dX7_arguments_121 rfl (lv_at hl 5 rfl) ?_
        refine xa_getr G fd_X7 (a := 23) (x := P) 2 rfl (by decide) rfl (wm 2 19 rfl rfl) ⟨rfl, rfl, rfl⟩ dX7_arguments_122 rfl (hs_1072.trans hi_1047) (by omega) (hprP.hq ω ρ) ?_
        refine lv_iconst (v := iv 0) hx hb dX7_arguments_125 rfl ?_
        refine lv_lload_n hx hb dX7_arguments_126 rfl (lv_at hl 8 rfl) ?_
        refine lv_dconst0 hx hb dX7_arguments_127 ?_
        refine xb_topd (fun dd_1080 he_dd_1080 => ?_)
        have hpx_1081 : μ1061.1 26 11 = 0 → PXE μo μ1061 P tt (ee + c9) f9 1 := fun h0 => (hi_1045 (by have h9 : μL1028.1 26 11 = μL1028.1 26 11 := rfl; have h8 : μ1061.1 26 11 = μ1061.1 26 11 := rfl; omega)).fr (K := [26, 23]) (Fr.tr Fr.rf F_1062 (by decide)) (npL_p (L := [26, 23]) (by decide) hprP).1 (npL_p (L := [26, 23]) (by decide) hprP).2.1
        have hk_1082 := hi_1058.row (r := P + 2) (hprP.row)
        unfold rk at hk_1082
        have e_1083 : μ1061.1 (P + 2) 3 = μL1028.1 (P + 2) 3 := (F_1062.1 (P + 2) (ni hprP (fun P => P + 2) (fun P => [26, 23]) rfl) 3)
        refine xc_iV G (b := P) (rest := []) (As := [.int (iv 0), .long (jv x3), .double (dv dd_1080)]) (c_X8_addConstant ω l μ1061 P 0 x3 dd_1080 (μL1028.1 (P + 2) 3) hprP (by unfold ir; omega) hx3 hI_1063 (by omega) (by omega)) (wm 4 67 rfl rfl) (wm 4 68 rfl rfl) (wm 4 69 rfl rfl) hprP.ly rfl (by decide) (hprP.hq ω ρ) (wm 1 9 rfl rfl) (wm 4 70 rfl rfl) (by decide) hR ⟨nfr hF (by decide), nlo hLo (by decide)⟩ (n := 3) rfl rfl (Nat.le_of_ble_eq_true rfl) hl.1 dX7_arguments_128 (fun r_1085 μ1084 ρ d0 H locs hr_r_1085 hp G => ?_)
        have hr_r_1085 : -2147483648 ≤ r_1085 ∧ r_1085 ≤ 2147483647 := hr_r_1085
        obtain ⟨F_1086, hI_1087, hp_1088, hp_1089⟩ := hp
        have hk_1090 := hI_1087.row (r := P + 2) (hprP.row)
        unfold rk at hk_1090
        refine lv_istore (lv' := [(10, .int (iv r_1085)), (9, .int (iv m9)), (8, .int (iv c9)), (7, .int (iv f9)), (6, .int (iv 1)), (0, .ref (oP ω 23)), (1, .int (iv x1)), (2, .int (iv x2)), (3, .long (jv x3)), (5, .int (iv x4))]) hx hb dX7_arguments_131 hl (by decide) rfl (fun ls hl => ?_)
        refine lv_aload_n hx hb dX7_arguments_133 rfl (lv_at hl 5 rfl) ?_
        refine lv_iload_n hx hb dX7_arguments_134 rfl (lv_at hl 6 rfl) ?_
        refine lv_iload hx hb dX7_arguments_135 (lv_at hl 2 rfl) ?_
        refine lv_iconst (v := iv 4) hx hb dX7_arguments_137 rfl ?_
        refine xb_imul hx hb dX7_arguments_138 ?_
        refine lv_iload_n hx hb dX7_arguments_139 rfl (lv_at hl 7 rfl) ?_
        refine xb_iadd hx hb dX7_arguments_140 ?_
        refine lv_iload hx hb dX7_arguments_141 (lv_at hl 0 rfl) ?_
        refine lv_iload hx hb dX7_arguments_143 (lv_at hl 3 rfl) ?_
        have hpx_1091 : μ1084.1 26 11 = 0 → PXE μo μ1084 P tt (ee + c9) f9 1 := fun h0 => (hpx_1081 (by have h9 : μ1061.1 26 11 = μ1061.1 26 11 := rfl; have h8 : μ1084.1 26 11 = μ1061.1 26 11 := (F_1086.1 26 (ni hprP (fun P => 26) (fun P => [P + 2, (P + 2) + 1, (P + 2) + 2, (P + 2) + 3]) rfl) 11); omega)).fr (K := [P + 2, (P + 2) + 1, (P + 2) + 2, (P + 2) + 3]) (Fr.tr Fr.rf F_1086 (si hprP (fun P => [P + 2, (P + 2) + 1, (P + 2) + 2, (P + 2) + 3]) (fun P => [P + 2, (P + 2) + 1, (P + 2) + 2, (P + 2) + 3]) rfl)) (ni hprP (fun P => P) (fun P => [P + 2, (P + 2) + 1, (P + 2) + 2, (P + 2) + 3]) rfl) (ni hprP (fun P => P + 1) (fun P => [P + 2, (P + 2) + 1, (P + 2) + 2, (P + 2) + 3]) rfl)
        have e_1092 : μ1084.1 23 2 = P := ((F_1086.1 23 (ni hprP (fun P => 23) (fun P => [P + 2, (P + 2) + 1, (P + 2) + 2, (P + 2) + 3]) rfl) 2).trans (hs_1072.trans hi_1047))
        have e_1093 : μ1084.1 23 8 = tt := ((F_1086.1 23 (ni hprP (fun P => 23) (fun P => [P + 2, (P + 2) + 1, (P + 2) + 2, (P + 2) + 3]) rfl) 8).trans (hs_1076.trans hi_1051))
        have hk_1094 := hi_1058.pr (p := P) hprP
        unfold pk at hk_1094
        have hc_1095 : 16 ≤ μL1028.2.1 (P + 1) ∧ μL1028.2.1 (P + 1) ≤ 73024 := hi_1058.rm.1 _ hprP.cap
        have e_1096 : μ1084.1 P 1 = μL1028.1 P 1 := ((F_1086.1 P (ni hprP (fun P => P) (fun P => [P + 2, (P + 2) + 1, (P + 2) + 2, (P + 2) + 3]) rfl) 1).trans (F_1062.1 P (ni hprP (fun P => P) (fun P => [26, 23]) rfl) 1))
        have e_1097 : μ1084.1 P 1 = μL1028.1 P 1 := ((F_1086.1 P (ni hprP (fun P => P) (fun P => [P + 2, (P + 2) + 1, (P + 2) + 2, (P + 2) + 3]) rfl) 1).trans (F_1062.1 P (ni hprP (fun P => P) (fun P => [26, 23]) rfl) 1))
        refine xc_vV G (b := 23) (rest := []) (As := [.int (iv x1), .int (iv ((c9 * 4) + x2)), .int (iv r_1085), .int (iv f9)]) (c_X7_endOfParts ω l μ1084 x1 ((c9 * 4) + x2) r_1085 f9 μo (ee + c9) (1) P tt (by unfold ir; omega) (by unfold ir; omega) (by unfold ir; omega) (by unfold ir; omega) hI_1087 (by omega) (by omega) (by omega) hpx_1091 (Or.inr ⟨by omega, by omega, by omega⟩) (by omega) (by by_cases q1 : x1 = 13; (rw [q1, ef13 (by omega) hx2b]; omega); (rw [show x1 = 14 by omega, ef14 (by omega) hx2b]; omega))) (wm 4 27 rfl rfl) (wm 4 29 rfl rfl) (wm 0 30 rfl rfl) rfl rfl (by decide) rfl (wm 1 12 rfl rfl) (wm 4 30 rfl rfl) (by decide) hR ⟨nfr hF (by decide), nlo hLo (by decide)⟩ (n := 4) rfl rfl (Nat.le_of_ble_eq_true rfl) hl.1 dX7_arguments_145 (fun μ1098 ρ d0 H locs hp G => ?_)
        obtain ⟨F_1099, hI_1100, hp_1101, hs_1102, hs_1103⟩ := hp
        have hpx_1104 : μ1098.1 26 11 = 0 → PXE μo μ1098 P tt 1 (-1) 1 := fun h0 => PXE.of (hp_1101 (by have h9 : μ1084.1 26 11 = μ1061.1 26 11 := (F_1086.1 26 (ni hprP (fun P => 26) (fun P => [P + 2, (P + 2) + 1, (P + 2) + 2, (P + 2) + 3]) rfl) 11); have h8 : μ1098.1 26 11 = μ1061.1 26 11 := ((F_1099.1 26 (ni hprP (fun P => 26) (fun P => [P, P + 1]) rfl) 11).trans (F_1086.1 26 (ni hprP (fun P => 26) (fun P => [P + 2, (P + 2) + 1, (P + 2) + 2, (P + 2) + 3]) rfl) 11)); omega))
        clear hp_1101
        have htk_1105 : TK μ1098 := hp_1064.fr (K := [P, P + 1, P + 2, (P + 2) + 1, (P + 2) + 2, (P + 2) + 3]) (Fr.tr (Fr.tr Fr.rf F_1086 (si hprP (fun P => [P + 2, (P + 2) + 1, (P + 2) + 2, (P + 2) + 3]) (fun P => [P, P + 1, P + 2, (P + 2) + 1, (P + 2) + 2, (P + 2) + 3]) rfl)) F_1099 (si hprP (fun P => [P, P + 1]) (fun P => [P, P + 1, P + 2, (P + 2) + 1, (P + 2) + 2, (P + 2) + 3]) rfl)) (ni hprP (fun P => 26) (fun P => [P, P + 1, P + 2, (P + 2) + 1, (P + 2) + 2, (P + 2) + 3]) rfl) (ni hprP (fun P => 28) (fun P => [P, P + 1, P + 2, (P + 2) + 1, (P + 2) + 2, (P + 2) + 3]) rfl)
        have e_1106 : μ1098.1 26 11 = μ1061.1 26 11 := ((F_1099.1 26 (ni hprP (fun P => 26) (fun P => [P, P + 1]) rfl) 11).trans (F_1086.1 26 (ni hprP (fun P => 26) (fun P => [P + 2, (P + 2) + 1, (P + 2) + 2, (P + 2) + 3]) rfl) 11))
        have e_1107 : μ1098.1 26 11 = μ1061.1 26 11 := ((F_1099.1 26 (ni hprP (fun P => 26) (fun P => [P, P + 1]) rfl) 11).trans (F_1086.1 26 (ni hprP (fun P => 26) (fun P => [P + 2, (P + 2) + 1, (P + 2) + 2, (P + 2) + 3]) rfl) 11))
        have e_1108 : μ1098.1 26 10 = μ1061.1 26 10 := ((F_1099.1 26 (ni hprP (fun P => 26) (fun P => [P, P + 1]) rfl) 10).trans (F_1086.1 26 (ni hprP (fun P => 26) (fun P => [P + 2, (P + 2) + 1, (P + 2) + 2, (P + 2) + 3]) rfl) 10))
        have e_1109 : μ1098.1 P 1 = μ1084.1 P 1 + 1 := hs_1102
        have e_1110 : μ1098.1 P 1 = μ1084.1 P 1 + 1 := hs_1102
        have e_1111 : μ1098.1 26 10 = μ1061.1 26 10 := ((F_1099.1 26 (ni hprP (fun P => 26) (fun P => [P, P + 1]) rfl) 10).trans (F_1086.1 26 (ni hprP (fun P => 26) (fun P => [P + 2, (P + 2) + 1, (P + 2) + 2, (P + 2) + 3]) rfl) 10))
        have e_1112 : μ1098.1 26 11 = μ1061.1 26 11 := ((F_1099.1 26 (ni hprP (fun P => 26) (fun P => [P, P + 1]) rfl) 11).trans (F_1086.1 26 (ni hprP (fun P => 26) (fun P => [P + 2, (P + 2) + 1, (P + 2) + 2, (P + 2) + 3]) rfl) 11))
        have e_1113 : μ1098.1 (P + 2) 3 = μ1084.1 (P + 2) 3 := (F_1099.1 (P + 2) (ni hprP (fun P => P + 2) (fun P => [P, P + 1]) rfl) 3)
        have e_1114 : μ1098.1 P 1 = μ1084.1 P 1 + 1 := hs_1102
        have e_1115 : μ1098.1 (P + 2) 3 = μ1084.1 (P + 2) 3 := (F_1099.1 (P + 2) (ni hprP (fun P => P + 2) (fun P => [P, P + 1]) rfl) 3)
        have e_1116 : μ1098.1 23 9 = μL1028.1 23 9 - 1 := ((F_1099.1 23 (ni hprP (fun P => 23) (fun P => [P, P + 1]) rfl) 9).trans ((F_1086.1 23 (ni hprP (fun P => 23) (fun P => [P + 2, (P + 2) + 1, (P + 2) + 2, (P + 2) + 3]) rfl) 9).trans hs_1067))
        exact xr_v G hret hlk dX7_arguments_148 ⟨(Fr.tr (Fr.tr (Fr.tr (Fr.tr (Fr.tr Fr.rf F_675 (si hprP (fun P => [26, 23]) (fun P => [2, 3, 4, 23, 24, 26, P, P + 1, P + 2, (P + 2) + 1, (P + 2) + 2, (P + 2) + 3]) rfl)) FL1029 (si hprP (fun P => [2, 3, 4, 23, 24, 26, P, P + 1, P + 2, (P + 2) + 1, (P + 2) + 2, (P + 2) + 3]) (fun P => [2, 3, 4, 23, 24, 26, P, P + 1, P + 2, (P + 2) + 1, (P + 2) + 2, (P + 2) + 3]) rfl)) F_1062 (si hprP (fun P => [26, 23]) (fun P => [2, 3, 4, 23, 24, 26, P, P + 1, P + 2, (P + 2) + 1, (P + 2) + 2, (P + 2) + 3]) rfl)) F_1086 (si hprP (fun P => [P + 2, (P + 2) + 1, (P + 2) + 2, (P + 2) + 3]) (fun P => [2, 3, 4, 23, 24, 26, P, P + 1, P + 2, (P + 2) + 1, (P + 2) + 2, (P + 2) + 3]) rfl)) F_1099 (si hprP (fun P => [P, P + 1]) (fun P => [2, 3, 4, 23, 24, 26, P, P + 1, P + 2, (P + 2) + 1, (P + 2) + 2, (P + 2) + 3]) rfl)), hI_1100, htk_1105, (by omega), (by omega), (by omega), (by omega), (fun h0 => (PXE.ex (hpx_1104 h0)).e (by omega)), (((F_1099.1 23 (ni hprP (fun P => 23) (fun P => [P, P + 1]) rfl) 2).trans ((F_1086.1 23 (ni hprP (fun P => 23) (fun P => [P + 2, (P + 2) + 1, (P + 2) + 2, (P + 2) + 3]) rfl) 2).trans (hs_1072.trans hi_1047)))).trans hP, ((F_1099.1 23 (ni hprP (fun P => 23) (fun P => [P, P + 1]) rfl) 5).trans ((F_1086.1 23 (ni hprP (fun P => 23) (fun P => [P + 2, (P + 2) + 1, (P + 2) + 2, (P + 2) + 3]) rfl) 5).trans (hs_1073.trans hi_1048))), ((F_1099.1 23 (ni hprP (fun P => 23) (fun P => [P, P + 1]) rfl) 6).trans ((F_1086.1 23 (ni hprP (fun P => 23) (fun P => [P + 2, (P + 2) + 1, (P + 2) + 2, (P + 2) + 3]) rfl) 6).trans (hs_1074.trans hi_1049))), ((F_1099.1 23 (ni hprP (fun P => 23) (fun P => [P, P + 1]) rfl) 7).trans ((F_1086.1 23 (ni hprP (fun P => 23) (fun P => [P + 2, (P + 2) + 1, (P + 2) + 2, (P + 2) + 3]) rfl) 7).trans (hs_1075.trans hi_1050))), (((F_1099.1 23 (ni hprP (fun P => 23) (fun P => [P, P + 1]) rfl) 8).trans ((F_1086.1 23 (ni hprP (fun P => 23) (fun P => [P + 2, (P + 2) + 1, (P + 2) + 2, (P + 2) + 3]) rfl) 8).trans (hs_1076.trans hi_1051)))).trans htt, (by omega), ((F_1099.1 23 (ni hprP (fun P => 23) (fun P => [P, P + 1]) rfl) 10).trans ((F_1086.1 23 (ni hprP (fun P => 23) (fun P => [P + 2, (P + 2) + 1, (P + 2) + 2, (P + 2) + 3]) rfl) 10).trans (hs_1077.trans hi_1052))), ((F_1099.1 26 (ni hprP (fun P => 26) (fun P => [P, P + 1]) rfl) 6).trans ((F_1086.1 26 (ni hprP (fun P => 26) (fun P => [P + 2, (P + 2) + 1, (P + 2) + 2, (P + 2) + 3]) rfl) 6).trans (hs_1068.trans hi_1053))), (hs_1103.trans ((F_1086.1 P (ni hprP (fun P => P) (fun P => [P + 2, (P + 2) + 1, (P + 2) + 2, (P + 2) + 3]) rfl) 7).trans ((F_1062.1 P (ni hprP (fun P => P) (fun P => [26, 23]) rfl) 7).trans hi_1057)))⟩
      · refine lv_iload hx hb dX7_arguments_56 (lv_at hl 1 rfl) ?_
        refine xb_if_eq (tgt := 115) hx hb (by unfold ir; omega) dX7_arguments_58 (by decide) (fun c_58 => ?_) (fun c_58 => ?_)
        · refine lv_aload_n hx hb dX7_arguments_115 rfl (lv_at hl 5 rfl) ?_
          refine lv_bipush (v := iv 41) hx hb dX7_arguments_116 rfl ?_
          have hn_1117 : -1 ≤ μL1028.1 26 10 ∧ μL1028.1 26 10 ≤ 3000 := hi_1058.nm.2.2.2.2.2.2.2.2.2.2.2.2
          refine xc_vV G (b := 23) (rest := []) (As := [.int (iv 41)]) (c_X7_needClosed_b ω l μL1028 41 (by unfold ir; omega) hi_1058 hi_1039 (by omega) (by omega)) (wm 3 214 rfl rfl) (wm 3 216 rfl rfl) (wm 0 18 rfl rfl) rfl rfl (by decide) rfl (wm 1 12 rfl rfl) (wm 3 217 rfl rfl) (by decide) hR ⟨nfr hF (by decide), nlo hLo (by decide)⟩ (n := 1) rfl rfl (Nat.le_of_ble_eq_true rfl) hl.1 dX7_arguments_118 (fun μ1118 ρ d0 H locs hp G => ?_)
          obtain ⟨F_1119, hI_1120, hp_1121, hp_1122, hp_1123, hs_1124, hs_1125, hs_1126, hs_1127, hs_1128, hs_1129, hs_1130, hs_1131, hs_1132, hs_1133, hs_1134⟩ := hp
          have hn_1135 : -1 ≤ μ1118.1 26 10 ∧ μ1118.1 26 10 ≤ 3000 := hI_1120.nm.2.2.2.2.2.2.2.2.2.2.2.2
          have htb_1136 := hp_1121.b
          refine lv_aload_n hx hb dX7_arguments_121 rfl (lv_at hl 5 rfl) ?_
          refine xa_getr G fd_X7 (a := 23) (x := P) 2 rfl (by decide) rfl (wm 2 19 rfl rfl) ⟨rfl, rfl, rfl⟩ dX7_arguments_122 rfl (hs_1129.trans hi_1047) (by omega) (hprP.hq ω ρ) ?_
          refine lv_iconst (v := iv 0) hx hb dX7_arguments_125 rfl ?_
          refine lv_lload_n hx hb dX7_arguments_126 rfl (lv_at hl 8 rfl) ?_
          refine lv_dconst0 hx hb dX7_arguments_127 ?_
          refine xb_topd (fun dd_1137 he_dd_1137 => ?_)
          have hpx_1138 : μ1118.1 26 11 = 0 → PXE μo μ1118 P tt (ee + c9) f9 1 := fun h0 => (hi_1045 (by have h9 : μL1028.1 26 11 = μL1028.1 26 11 := rfl; have h8 : μ1118.1 26 11 = μ1118.1 26 11 := rfl; omega)).fr (K := [26, 23]) (Fr.tr Fr.rf F_1119 (by decide)) (npL_p (L := [26, 23]) (by decide) hprP).1 (npL_p (L := [26, 23]) (by decide) hprP).2.1
          have hk_1139 := hi_1058.row (r := P + 2) (hprP.row)
          unfold rk at hk_1139
          have e_1140 : μ1118.1 (P + 2) 3 = μL1028.1 (P + 2) 3 := (F_1119.1 (P + 2) (ni hprP (fun P => P + 2) (fun P => [26, 23]) rfl) 3)
          refine xc_iV G (b := P) (rest := []) (As := [.int (iv 0), .long (jv x3), .double (dv dd_1137)]) (c_X8_addConstant ω l μ1118 P 0 x3 dd_1137 (μL1028.1 (P + 2) 3) hprP (by unfold ir; omega) hx3 hI_1120 (by omega) (by omega)) (wm 4 67 rfl rfl) (wm 4 68 rfl rfl) (wm 4 69 rfl rfl) hprP.ly rfl (by decide) (hprP.hq ω ρ) (wm 1 9 rfl rfl) (wm 4 70 rfl rfl) (by decide) hR ⟨nfr hF (by decide), nlo hLo (by decide)⟩ (n := 3) rfl rfl (Nat.le_of_ble_eq_true rfl) hl.1 dX7_arguments_128 (fun r_1142 μ1141 ρ d0 H locs hr_r_1142 hp G => ?_)
          have hr_r_1142 : -2147483648 ≤ r_1142 ∧ r_1142 ≤ 2147483647 := hr_r_1142
          obtain ⟨F_1143, hI_1144, hp_1145, hp_1146⟩ := hp
          have hk_1147 := hI_1144.row (r := P + 2) (hprP.row)
          unfold rk at hk_1147
          refine lv_istore (lv' := [(10, .int (iv r_1142)), (9, .int (iv m9)), (8, .int (iv c9)), (7, .int (iv f9)), (6, .int (iv 1)), (0, .ref (oP ω 23)), (1, .int (iv x1)), (2, .int (iv x2)), (3, .long (jv x3)), (5, .int (iv x4))]) hx hb dX7_arguments_131 hl (by decide) rfl (fun ls hl => ?_)
          refine lv_aload_n hx hb dX7_arguments_133 rfl (lv_at hl 5 rfl) ?_
          refine lv_iload_n hx hb dX7_arguments_134 rfl (lv_at hl 6 rfl) ?_
          refine lv_iload hx hb dX7_arguments_135 (lv_at hl 2 rfl) ?_
          refine lv_iconst (v := iv 4) hx hb dX7_arguments_137 rfl ?_
          refine xb_imul hx hb dX7_arguments_138 ?_
          refine lv_iload_n hx hb dX7_arguments_139 rfl (lv_at hl 7 rfl) ?_
          refine xb_iadd hx hb dX7_arguments_140 ?_
          refine lv_iload hx hb dX7_arguments_141 (lv_at hl 0 rfl) ?_
          refine lv_iload hx hb dX7_arguments_143 (lv_at hl 3 rfl) ?_
          have hpx_1148 : μ1141.1 26 11 = 0 → PXE μo μ1141 P tt (ee + c9) f9 1 := fun h0 => (hpx_1138 (by have h9 : μ1118.1 26 11 = μ1118.1 26 11 := rfl; have h8 : μ1141.1 26 11 = μ1118.1 26 11 := (F_1143.1 26 (ni hprP (fun P => 26) (fun P => [P + 2, (P + 2) + 1, (P + 2) + 2, (P + 2) + 3]) rfl) 11); omega)).fr (K := [P + 2, (P + 2) + 1, (P + 2) + 2, (P + 2) + 3]) (Fr.tr Fr.rf F_1143 (si hprP (fun P => [P + 2, (P + 2) + 1, (P + 2) + 2, (P + 2) + 3]) (fun P => [P + 2, (P + 2) + 1, (P + 2) + 2, (P + 2) + 3]) rfl)) (ni hprP (fun P => P) (fun P => [P + 2, (P + 2) + 1, (P + 2) + 2, (P + 2) + 3]) rfl) (ni hprP (fun P => P + 1) (fun P => [P + 2, (P + 2) + 1, (P + 2) + 2, (P + 2) + 3]) rfl)
          have e_1149 : μ1141.1 23 2 = P := ((F_1143.1 23 (ni hprP (fun P => 23) (fun P => [P + 2, (P + 2) + 1, (P + 2) + 2, (P + 2) + 3]) rfl) 2).trans (hs_1129.trans hi_1047))
          have e_1150 : μ1141.1 23 8 = tt := ((F_1143.1 23 (ni hprP (fun P => 23) (fun P => [P + 2, (P + 2) + 1, (P + 2) + 2, (P + 2) + 3]) rfl) 8).trans (hs_1133.trans hi_1051))
          have hk_1151 := hi_1058.pr (p := P) hprP
          unfold pk at hk_1151
          have hc_1152 : 16 ≤ μL1028.2.1 (P + 1) ∧ μL1028.2.1 (P + 1) ≤ 73024 := hi_1058.rm.1 _ hprP.cap
          have e_1153 : μ1141.1 P 1 = μL1028.1 P 1 := ((F_1143.1 P (ni hprP (fun P => P) (fun P => [P + 2, (P + 2) + 1, (P + 2) + 2, (P + 2) + 3]) rfl) 1).trans (F_1119.1 P (ni hprP (fun P => P) (fun P => [26, 23]) rfl) 1))
          have e_1154 : μ1141.1 P 1 = μL1028.1 P 1 := ((F_1143.1 P (ni hprP (fun P => P) (fun P => [P + 2, (P + 2) + 1, (P + 2) + 2, (P + 2) + 3]) rfl) 1).trans (F_1119.1 P (ni hprP (fun P => P) (fun P => [26, 23]) rfl) 1))
          refine xc_vV G (b := 23) (rest := []) (As := [.int (iv x1), .int (iv ((c9 * 4) + x2)), .int (iv r_1142), .int (iv f9)]) (c_X7_endOfParts ω l μ1141 x1 ((c9 * 4) + x2) r_1142 f9 μo (ee + c9) (1) P tt (by unfold ir; omega) (by unfold ir; omega) (by unfold ir; omega) (by unfold ir; omega) hI_1144 (by omega) (by omega) (by omega) hpx_1148 (Or.inr ⟨by omega, by omega, by omega⟩) (by omega) (by by_cases q1 : x1 = 13; (rw [q1, ef13 (by omega) hx2b]; omega); (rw [show x1 = 14 by omega, ef14 (by omega) hx2b]; omega))) (wm 4 27 rfl rfl) (wm 4 29 rfl rfl) (wm 0 30 rfl rfl) rfl rfl (by decide) rfl (wm 1 12 rfl rfl) (wm 4 30 rfl rfl) (by decide) hR ⟨nfr hF (by decide), nlo hLo (by decide)⟩ (n := 4) rfl rfl (Nat.le_of_ble_eq_true rfl) hl.1 dX7_arguments_145 (fun μ1155 ρ d0 H locs hp G => ?_)
          obtain ⟨F_1156, hI_1157, hp_1158, hs_1159, hs_1160⟩ := hp
          have hpx_1161 : μ1155.1 26 11 = 0 → PXE μo μ1155 P tt 1 (-1) 1 := fun h0 => PXE.of (hp_1158 (by have h9 : μ1141.1 26 11 = μ1118.1 26 11 := (F_1143.1 26 (ni hprP (fun P => 26) (fun P => [P + 2, (P + 2) + 1, (P + 2) + 2, (P + 2) + 3]) rfl) 11); have h8 : μ1155.1 26 11 = μ1118.1 26 11 := ((F_1156.1 26 (ni hprP (fun P => 26) (fun P => [P, P + 1]) rfl) 11).trans (F_1143.1 26 (ni hprP (fun P => 26) (fun P => [P + 2, (P + 2) + 1, (P + 2) + 2, (P + 2) + 3]) rfl) 11)); omega))
          clear hp_1158
          have htk_1162 : TK μ1155 := hp_1121.fr (K := [P, P + 1, P + 2, (P + 2) + 1, (P + 2) + 2, (P + 2) + 3]) (Fr.tr (Fr.tr Fr.rf F_1143 (si hprP (fun P => [P + 2, (P + 2) + 1, (P + 2) + 2, (P + 2) + 3]) (fun P => [P, P + 1, P + 2, (P + 2) + 1, (P + 2) + 2, (P + 2) + 3]) rfl)) F_1156 (si hprP (fun P => [P, P + 1]) (fun P => [P, P + 1, P + 2, (P + 2) + 1, (P + 2) + 2, (P + 2) + 3]) rfl)) (ni hprP (fun P => 26) (fun P => [P, P + 1, P + 2, (P + 2) + 1, (P + 2) + 2, (P + 2) + 3]) rfl) (ni hprP (fun P => 28) (fun P => [P, P + 1, P + 2, (P + 2) + 1, (P + 2) + 2, (P + 2) + 3]) rfl)
          have e_1163 : μ1155.1 26 11 = μ1118.1 26 11 := ((F_1156.1 26 (ni hprP (fun P => 26) (fun P => [P, P + 1]) rfl) 11).trans (F_1143.1 26 (ni hprP (fun P => 26) (fun P => [P + 2, (P + 2) + 1, (P + 2) + 2, (P + 2) + 3]) rfl) 11))
          have e_1164 : μ1155.1 26 11 = μ1118.1 26 11 := ((F_1156.1 26 (ni hprP (fun P => 26) (fun P => [P, P + 1]) rfl) 11).trans (F_1143.1 26 (ni hprP (fun P => 26) (fun P => [P + 2, (P + 2) + 1, (P + 2) + 2, (P + 2) + 3]) rfl) 11))
          have e_1165 : μ1155.1 26 10 = μ1118.1 26 10 := ((F_1156.1 26 (ni hprP (fun P => 26) (fun P => [P, P + 1]) rfl) 10).trans (F_1143.1 26 (ni hprP (fun P => 26) (fun P => [P + 2, (P + 2) + 1, (P + 2) + 2, (P + 2) + 3]) rfl) 10))
          have e_1166 : μ1155.1 P 1 = μ1141.1 P 1 + 1 := hs_1159
          have e_1167 : μ1155.1 P 1 = μ1141.1 P 1 + 1 := hs_1159
          have e_1168 : μ1155.1 26 10 = μ1118.1 26 10 := ((F_1156.1 26 (ni hprP (fun P => 26) (fun P => [P, P + 1]) rfl) 10).trans (F_1143.1 26 (ni hprP (fun P => 26) (fun P => [P + 2, (P + 2) + 1, (P + 2) + 2, (P + 2) + 3]) rfl) 10))
          have e_1169 : μ1155.1 26 11 = μ1118.1 26 11 := ((F_1156.1 26 (ni hprP (fun P => 26) (fun P => [P, P + 1]) rfl) 11).trans (F_1143.1 26 (ni hprP (fun P => 26) (fun P => [P + 2, (P + 2) + 1, (P + 2) + 2, (P + 2) + 3]) rfl) 11))
          have e_1170 : μ1155.1 (P + 2) 3 = μ1141.1 (P + 2) 3 := (F_1156.1 (P + 2) (ni hprP (fun P => P + 2) (fun P => [P, P + 1]) rfl) 3)
          have e_1171 : μ1155.1 P 1 = μ1141.1 P 1 + 1 := hs_1159
          have e_1172 : μ1155.1 (P + 2) 3 = μ1141.1 (P + 2) 3 := (F_1156.1 (P + 2) (ni hprP (fun P => P + 2) (fun P => [P, P + 1]) rfl) 3)
          have e_1173 : μ1155.1 23 9 = μL1028.1 23 9 - 1 := ((F_1156.1 23 (ni hprP (fun P => 23) (fun P => [P, P + 1]) rfl) 9).trans ((F_1143.1 23 (ni hprP (fun P => 23) (fun P => [P + 2, (P + 2) + 1, (P + 2) + 2, (P + 2) + 3]) rfl) 9).trans hs_1124))
          exact xr_v G hret hlk dX7_arguments_148 ⟨(Fr.tr (Fr.tr (Fr.tr (Fr.tr (Fr.tr Fr.rf F_675 (si hprP (fun P => [26, 23]) (fun P => [2, 3, 4, 23, 24, 26, P, P + 1, P + 2, (P + 2) + 1, (P + 2) + 2, (P + 2) + 3]) rfl)) FL1029 (si hprP (fun P => [2, 3, 4, 23, 24, 26, P, P + 1, P + 2, (P + 2) + 1, (P + 2) + 2, (P + 2) + 3]) (fun P => [2, 3, 4, 23, 24, 26, P, P + 1, P + 2, (P + 2) + 1, (P + 2) + 2, (P + 2) + 3]) rfl)) F_1119 (si hprP (fun P => [26, 23]) (fun P => [2, 3, 4, 23, 24, 26, P, P + 1, P + 2, (P + 2) + 1, (P + 2) + 2, (P + 2) + 3]) rfl)) F_1143 (si hprP (fun P => [P + 2, (P + 2) + 1, (P + 2) + 2, (P + 2) + 3]) (fun P => [2, 3, 4, 23, 24, 26, P, P + 1, P + 2, (P + 2) + 1, (P + 2) + 2, (P + 2) + 3]) rfl)) F_1156 (si hprP (fun P => [P, P + 1]) (fun P => [2, 3, 4, 23, 24, 26, P, P + 1, P + 2, (P + 2) + 1, (P + 2) + 2, (P + 2) + 3]) rfl)), hI_1157, htk_1162, (by omega), (by omega), (by omega), (by omega), (fun h0 => (PXE.ex (hpx_1161 h0)).e (by omega)), (((F_1156.1 23 (ni hprP (fun P => 23) (fun P => [P, P + 1]) rfl) 2).trans ((F_1143.1 23 (ni hprP (fun P => 23) (fun P => [P + 2, (P + 2) + 1, (P + 2) + 2, (P + 2) + 3]) rfl) 2).trans (hs_1129.trans hi_1047)))).trans hP, ((F_1156.1 23 (ni hprP (fun P => 23) (fun P => [P, P + 1]) rfl) 5).trans ((F_1143.1 23 (ni hprP (fun P => 23) (fun P => [P + 2, (P + 2) + 1, (P + 2) + 2, (P + 2) + 3]) rfl) 5).trans (hs_1130.trans hi_1048))), ((F_1156.1 23 (ni hprP (fun P => 23) (fun P => [P, P + 1]) rfl) 6).trans ((F_1143.1 23 (ni hprP (fun P => 23) (fun P => [P + 2, (P + 2) + 1, (P + 2) + 2, (P + 2) + 3]) rfl) 6).trans (hs_1131.trans hi_1049))), ((F_1156.1 23 (ni hprP (fun P => 23) (fun P => [P, P + 1]) rfl) 7).trans ((F_1143.1 23 (ni hprP (fun P => 23) (fun P => [P + 2, (P + 2) + 1, (P + 2) + 2, (P + 2) + 3]) rfl) 7).trans (hs_1132.trans hi_1050))), (((F_1156.1 23 (ni hprP (fun P => 23) (fun P => [P, P + 1]) rfl) 8).trans ((F_1143.1 23 (ni hprP (fun P => 23) (fun P => [P + 2, (P + 2) + 1, (P + 2) + 2, (P + 2) + 3]) rfl) 8).trans (hs_1133.trans hi_1051)))).trans htt, (by omega), ((F_1156.1 23 (ni hprP (fun P => 23) (fun P => [P, P + 1]) rfl) 10).trans ((F_1143.1 23 (ni hprP (fun P => 23) (fun P => [P + 2, (P + 2) + 1, (P + 2) + 2, (P + 2) + 3]) rfl) 10).trans (hs_1134.trans hi_1052))), ((F_1156.1 26 (ni hprP (fun P => 26) (fun P => [P, P + 1]) rfl) 6).trans ((F_1143.1 26 (ni hprP (fun P => 26) (fun P => [P + 2, (P + 2) + 1, (P + 2) + 2, (P + 2) + 3]) rfl) 6).trans (hs_1125.trans hi_1053))), (hs_1160.trans ((F_1143.1 P (ni hprP (fun P => P) (fun P => [P + 2, (P + 2) + 1, (P + 2) + 2, (P + 2) + 3]) rfl) 7).trans ((F_1119.1 P (ni hprP (fun P => P) (fun P => [26, 23]) rfl) 7).trans hi_1057)))⟩
        · refine lv_iload hx hb dX7_arguments_61 (lv_at hl 2 rfl) ?_
          refine lv_bipush (v := iv 8) hx hb dX7_arguments_63 rfl ?_
          refine xb_icmp_lt (tgt := 80) hx hb (by unfold ir; omega) (by unfold ir; omega) dX7_arguments_65 (by decide) (fun c_65 => ?_) (fun c_65 => ?_)
          · refine lv_aload_n hx hb dX7_arguments_80 rfl (lv_at hl 5 rfl) ?_
            refine lv_iconst (v := iv 0) hx hb dX7_arguments_81 rfl ?_
            have e_1174 : μL1028.1 23 2 = P := hi_1047
            have e_1175 : μL1028.1 23 8 = tt := hi_1051
            have hk_1176 := hi_1058.pr (p := P) hprP
            unfold pk at hk_1176
            have hc_1177 : 16 ≤ μL1028.2.1 (P + 1) ∧ μL1028.2.1 (P + 1) ≤ 73024 := hi_1058.rm.1 _ hprP.cap
            have hn_1178 : -1 ≤ μL1028.1 26 10 ∧ μL1028.1 26 10 ≤ 3000 := hi_1058.nm.2.2.2.2.2.2.2.2.2.2.2.2
            have hk_1179 := hi_1058.row (r := P + 2) (hprP.row)
            unfold rk at hk_1179
            refine xc_vV G (b := 23) (rest := []) (As := [.int (iv 0)]) (((fun (_ : Om) (_ : Launch) => hE)) ω l μL1028 0 P tt (by omega) hi_1058 (by omega) (by omega) hi_1039 (by omega) (by omega) (by omega) (by omega) (by omega) (fun _ => Or.inl (by omega))) (wm 4 3 rfl rfl) (wm 4 5 rfl rfl) (wm 0 24 rfl rfl) rfl rfl (by decide) rfl (wm 1 12 rfl rfl) (wm 4 6 rfl rfl) (by decide) hR ⟨sfr (F := F) (a := 0) (by decide), slo (L := Lo) (m := 3) (a := 0) (by decide)⟩ (n := 1) rfl rfl (Nat.le_of_ble_eq_true rfl) hl.1 dX7_arguments_82 (fun μ1180 ρ d0 H locs hp G => ?_)
            obtain ⟨F_1181, hI_1182, hp_1183, hp_1184, hp_1185, hp_1186, hp_1187, hp_1188, hs_1189, hs_1190, hs_1191, hs_1192, hs_1193, hs_1194, hs_1195, hs_1196, hs_1197⟩ := hp
            have hn_1198 : -1 ≤ μ1180.1 26 10 ∧ μ1180.1 26 10 ≤ 3000 := hI_1182.nm.2.2.2.2.2.2.2.2.2.2.2.2
            have hk_1199 := hI_1182.pr (p := P) hprP
            unfold pk at hk_1199
            have hc_1200 : 16 ≤ μ1180.2.1 (P + 1) ∧ μ1180.2.1 (P + 1) ≤ 73024 := hI_1182.rm.1 _ hprP.cap
            have hk_1201 := hI_1182.row (r := P + 2) (hprP.row)
            unfold rk at hk_1201
            have htb_1202 := hp_1183.b
            have hpx_1203 : μ1180.1 26 11 = 0 → PXE μo μ1180 P tt ((ee + c9) + (1 - 0)) f9 1 := fun h0 => (PXE.app (hi_1045 (by have h9 : μL1028.1 26 11 = μL1028.1 26 11 := rfl; have h8 : μ1180.1 26 11 = μ1180.1 26 11 := rfl; omega)) (hp_1188 h0)).e (by omega)
            refine lv_aload_n hx hb dX7_arguments_85 rfl (lv_at hl 5 rfl) ?_
            refine lv_iload hx hb dX7_arguments_86 (lv_at hl 3 rfl) ?_
            refine lv_iload hx hb dX7_arguments_88 (lv_at hl 4 rfl) ?_
            refine lv_iload hx hb dX7_arguments_90 (lv_at hl 2 rfl) ?_
            refine xb_iadd hx hb dX7_arguments_92 ?_
            have e_1204 : μ1180.1 23 2 = P := (hs_1189.trans hi_1047)
            have e_1205 : μ1180.1 23 8 = tt := (hs_1193.trans hi_1051)
            refine xc_iV G (b := 23) (rest := []) (As := [.int (iv f9), .int (iv (1 + c9))]) (c_X7_ifFails ω l μ1180 f9 (1 + c9) μo ((ee + c9) + (1 - 0)) (1) P tt (by unfold ir; omega) (by unfold ir; omega) hI_1182 (by omega) (by omega) (by omega) hpx_1203 (by omega) (by omega)) (wm 4 23 rfl rfl) (wm 4 25 rfl rfl) (wm 0 29 rfl rfl) rfl rfl (by decide) rfl (wm 1 12 rfl rfl) (wm 4 26 rfl rfl) (by decide) hR ⟨nfr hF (by decide), nlo hLo (by decide)⟩ (n := 2) rfl rfl (Nat.le_of_ble_eq_true rfl) hl.1 dX7_arguments_93 (fun r_1207 μ1206 ρ d0 H locs hr_r_1207 hp G => ?_)
            have hr_r_1207 : -2147483648 ≤ r_1207 ∧ r_1207 ≤ 2147483647 := hr_r_1207
            obtain ⟨F_1208, hI_1209, hp_1210, hp_1211, hs_1212⟩ := hp
            have hk_1213 := hI_1209.pr (p := P) hprP
            unfold pk at hk_1213
            have hc_1214 : 16 ≤ μ1206.2.1 (P + 1) ∧ μ1206.2.1 (P + 1) ≤ 73024 := hI_1209.rm.1 _ hprP.cap
            have hpx_1215 : μ1206.1 26 11 = 0 → PXE μo μ1206 P tt ((ee + c9) + (1 - 0)) r_1207 1 := fun h0 => hp_1210 (by have h9 : μ1180.1 26 11 = μ1180.1 26 11 := rfl; have h8 : μ1206.1 26 11 = μ1180.1 26 11 := (F_1208.1 26 (ni hprP (fun P => 26) (fun P => [P, P + 1]) rfl) 11); omega)
            clear hp_1210
            refine lv_istore (lv' := [(7, .int (iv r_1207)), (10, .int (iv i9)), (9, .int (iv m9)), (8, .int (iv c9)), (6, .int (iv 1)), (0, .ref (oP ω 23)), (1, .int (iv x1)), (2, .int (iv x2)), (3, .long (jv x3)), (5, .int (iv x4))]) hx hb dX7_arguments_96 hl (by decide) rfl (fun ls hl => ?_)
            refine lv_iinc (v := iv (c9 + 1)) (lv' := [(8, .int (iv (c9 + 1))), (7, .int (iv r_1207)), (10, .int (iv i9)), (9, .int (iv m9)), (6, .int (iv 1)), (0, .ref (oP ω 23)), (1, .int (iv x1)), (2, .int (iv x2)), (3, .long (jv x3)), (5, .int (iv x4))]) hx hb dX7_arguments_98 hl (k := 3) rfl (by rw [show Int32.ofInt 1 = iv 1 from rfl, iv_add]) (by decide) rfl (fun ls hl => ?_)
            refine lv_aload_n hx hb dX7_arguments_101 rfl (lv_at hl 5 rfl) ?_
            refine lv_bipush (v := iv 44) hx hb dX7_arguments_102 rfl ?_
            have htk_1216 : TK μ1206 := hp_1183.fr (K := [P, P + 1]) (Fr.tr Fr.rf F_1208 (si hprP (fun P => [P, P + 1]) (fun P => [P, P + 1]) rfl)) (ni hprP (fun P => 26) (fun P => [P, P + 1]) rfl) (ni hprP (fun P => 28) (fun P => [P, P + 1]) rfl)
            have e_1217 : μ1206.1 26 10 = μ1180.1 26 10 := (F_1208.1 26 (ni hprP (fun P => 26) (fun P => [P, P + 1]) rfl) 10)
            have e_1218 : μ1206.1 26 11 = μ1180.1 26 11 := (F_1208.1 26 (ni hprP (fun P => 26) (fun P => [P, P + 1]) rfl) 11)
            refine xc_iV G (b := 23) (rest := []) (As := [.int (iv 44)]) (c_X7_took_b ω l μ1206 44 (by unfold ir; omega) hI_1209 htk_1216 (by omega)) (wm 3 160 rfl rfl) (wm 3 162 rfl rfl) (wm 0 9 rfl rfl) rfl rfl (by decide) rfl (wm 1 12 rfl rfl) (wm 3 163 rfl rfl) (by decide) hR ⟨nfr hF (by decide), nlo hLo (by decide)⟩ (n := 1) rfl rfl (Nat.le_of_ble_eq_true rfl) hl.1 dX7_arguments_104 (fun r_1220 μ1219 ρ d0 H locs hr_r_1220 hp G => ?_)
            have hr_r_1220 : -2147483648 ≤ r_1220 ∧ r_1220 ≤ 2147483647 := hr_r_1220
            obtain ⟨F_1221, hI_1222, hp_1223, hp_1224, hs_1225, hs_1226, hs_1227, hs_1228, hs_1229⟩ := hp
            have hn_1230 : -1 ≤ μ1219.1 26 10 ∧ μ1219.1 26 10 ≤ 3000 := hI_1222.nm.2.2.2.2.2.2.2.2.2.2.2.2
            have htb_1231 := hp_1223.b
            refine lv_istore (lv' := [(9, .int (iv r_1220)), (8, .int (iv (c9 + 1))), (7, .int (iv r_1207)), (10, .int (iv i9)), (6, .int (iv 1)), (0, .ref (oP ω 23)), (1, .int (iv x1)), (2, .int (iv x2)), (3, .long (jv x3)), (5, .int (iv x4))]) hx hb dX7_arguments_107 hl (by decide) rfl (fun ls hl => ?_)
            refine lv_iinc (v := iv (i9 + 1)) (lv' := [(10, .int (iv (i9 + 1))), (9, .int (iv r_1220)), (8, .int (iv (c9 + 1))), (7, .int (iv r_1207)), (6, .int (iv 1)), (0, .ref (oP ω 23)), (1, .int (iv x1)), (2, .int (iv x2)), (3, .long (jv x3)), (5, .int (iv x4))]) hx hb dX7_arguments_109 hl (k := 3) rfl (by rw [show Int32.ofInt 1 = iv 1 from rfl, iv_add]) (by decide) rfl (fun ls hl => ?_)
            refine lv_goto (tgt := 48) hx hb dX7_arguments_112 (by decide) ?_
            have e_1232 : μ1219.1 23 9 = μL1028.1 23 9 := ((F_1221.1 23 (by decide) 9).trans ((F_1208.1 23 (ni hprP (fun P => 23) (fun P => [P, P + 1]) rfl) 9).trans hs_1194))
            have e_1233 : μ1219.1 26 11 = μ1180.1 26 11 := (hs_1225.trans (F_1208.1 26 (ni hprP (fun P => 26) (fun P => [P, P + 1]) rfl) 11))
            have e_1234 : μ1219.1 P 1 = μ1206.1 P 1 := (F_1221.1 P (ni hprP (fun P => P) (fun P => [26]) rfl) 1)
            have e_1235 : μ1219.1 P 1 = μ1206.1 P 1 := (F_1221.1 P (ni hprP (fun P => P) (fun P => [26]) rfl) 1)
            have e_1236 : μ1219.1 26 11 = μ1180.1 26 11 := (hs_1225.trans (F_1208.1 26 (ni hprP (fun P => 26) (fun P => [P, P + 1]) rfl) 11))
            have e_1237 : μ1219.1 P 1 = μ1206.1 P 1 := (F_1221.1 P (ni hprP (fun P => P) (fun P => [26]) rfl) 1)
            have e_1238 : μ1219.1 (P + 2) 3 = μ1180.1 (P + 2) 3 := ((F_1221.1 (P + 2) (ni hprP (fun P => P + 2) (fun P => [26]) rfl) 3).trans (F_1208.1 (P + 2) (ni hprP (fun P => P + 2) (fun P => [P, P + 1]) rfl) 3))
            have e_1239 : μ1219.1 P 1 = μ1206.1 P 1 := (F_1221.1 P (ni hprP (fun P => P) (fun P => [26]) rfl) 1)
            have e_1240 : μ1219.1 (P + 2) 3 = μ1180.1 (P + 2) 3 := ((F_1221.1 (P + 2) (ni hprP (fun P => P + 2) (fun P => [26]) rfl) 3).trans (F_1208.1 (P + 2) (ni hprP (fun P => P + 2) (fun P => [P, P + 1]) rfl) 3))
            have hpx_1241 : μ1219.1 26 11 = 0 → PXE μo μ1219 P tt ((ee + c9) + (1 - 0)) r_1207 1 := fun h0 => (hpx_1215 (by have h9 : μ1206.1 26 11 = μ1180.1 26 11 := (F_1208.1 26 (ni hprP (fun P => 26) (fun P => [P, P + 1]) rfl) 11); have h8 : μ1219.1 26 11 = μ1180.1 26 11 := (hs_1225.trans (F_1208.1 26 (ni hprP (fun P => 26) (fun P => [P, P + 1]) rfl) 11)); omega)).fr (K := [26]) (Fr.tr Fr.rf F_1221 (by decide)) (npL_p (L := [26]) (by decide) hprP).1 (npL_p (L := [26]) (by decide) hprP).2.1
            have e_1242 : μ1219.1 2 4 = μ1180.1 2 4 := ((F_1221.1 2 (by decide) 4).trans (F_1208.1 2 (ni hprP (fun P => 2) (fun P => [P, P + 1]) rfl) 4))
            have e_1243 : μ1219.1 26 7 = μ1180.1 26 7 := (hs_1227.trans (F_1208.1 26 (ni hprP (fun P => 26) (fun P => [P, P + 1]) rfl) 7))
            have e_1244 : μ1219.1 26 8 = μ1180.1 26 8 := (hs_1228.trans (F_1208.1 26 (ni hprP (fun P => 26) (fun P => [P, P + 1]) rfl) 8))
            have e_1245 : μ1219.1 26 9 = μ1180.1 26 9 := (hs_1229.trans (F_1208.1 26 (ni hprP (fun P => 26) (fun P => [P, P + 1]) rfl) 9))
            exact ih _ _ _ _ _ _ _ (by omega) ⟨r_1207, c9 + 1, r_1220, i9 + 1, (Fr.tr (Fr.tr (Fr.tr FL1029 F_1181 (si hprP (fun P => [2, 3, 4, 23, 24, 26, P, P + 1, P + 2, (P + 2) + 1, (P + 2) + 2, (P + 2) + 3]) (fun P => [2, 3, 4, 23, 24, 26, P, P + 1, P + 2, (P + 2) + 1, (P + 2) + 2, (P + 2) + 3]) rfl)) F_1208 (si hprP (fun P => [P, P + 1]) (fun P => [2, 3, 4, 23, 24, 26, P, P + 1, P + 2, (P + 2) + 1, (P + 2) + 2, (P + 2) + 3]) rfl)) F_1221 (si hprP (fun P => [26]) (fun P => [2, 3, 4, 23, 24, 26, P, P + 1, P + 2, (P + 2) + 1, (P + 2) + 2, (P + 2) + 3]) rfl)), (by omega), (by omega), (by omega), (by omega), (by omega), (by omega), (by omega), (by omega), hp_1223, (by omega), (by omega), (by omega), (by omega), (by omega), (fun h0 => (hpx_1241 h0).e (by omega)), (by omega), ((F_1221.1 23 (by decide) 2).trans ((F_1208.1 23 (ni hprP (fun P => 23) (fun P => [P, P + 1]) rfl) 2).trans (hs_1189.trans hi_1047))), ((F_1221.1 23 (by decide) 5).trans ((F_1208.1 23 (ni hprP (fun P => 23) (fun P => [P, P + 1]) rfl) 5).trans (hs_1190.trans hi_1048))), ((F_1221.1 23 (by decide) 6).trans ((F_1208.1 23 (ni hprP (fun P => 23) (fun P => [P, P + 1]) rfl) 6).trans (hs_1191.trans hi_1049))), ((F_1221.1 23 (by decide) 7).trans ((F_1208.1 23 (ni hprP (fun P => 23) (fun P => [P, P + 1]) rfl) 7).trans (hs_1192.trans hi_1050))), ((F_1221.1 23 (by decide) 8).trans ((F_1208.1 23 (ni hprP (fun P => 23) (fun P => [P, P + 1]) rfl) 8).trans (hs_1193.trans hi_1051))), ((F_1221.1 23 (by decide) 10).trans ((F_1208.1 23 (ni hprP (fun P => 23) (fun P => [P, P + 1]) rfl) 10).trans (hs_1195.trans hi_1052))), (hs_1226.trans ((F_1208.1 26 (ni hprP (fun P => 26) (fun P => [P, P + 1]) rfl) 6).trans (hs_1196.trans hi_1053))), (by omega), (by omega), (by omega), ((F_1221.1 P (ni hprP (fun P => P) (fun P => [26]) rfl) 7).trans (hs_1212.trans (hs_1197.trans hi_1057))), hI_1222, rfl, lv_sub hl [0, 1, 2, 3, 4, 5, 6, 7, 8, 9] rfl⟩ G
          · refine lv_aload_n hx hb dX7_arguments_68 rfl (lv_at hl 5 rfl) ?_
            refine lv_iconst (v := iv 2) hx hb dX7_arguments_69 rfl ?_
            refine lv_aload_n hx hb dX7_arguments_70 rfl (lv_at hl 5 rfl) ?_
            refine xa_getr G fd_X7 (a := 23) (x := 26) 0 rfl (by decide) rfl (wm 2 17 rfl rfl) ⟨rfl, rfl, rfl⟩ dX7_arguments_71 rfl (G.sk 23 rfl) (by decide) rfl ?_
            refine xa_getN G fd_X10 (host := "FourTongues") (a := 26) 13 rfl (by decide) (by decide) ⟨rfl, rfl, rfl⟩ dX7_arguments_74 rfl (v := .int (iv (μL1028.1 26 13))) (by rw [show μL1028.1 26 13 = μL1028.1 26 13 from rfl]; rfl) ?_
            have hr_1246 : -2147483648 ≤ μL1028.1 26 13 ∧ μL1028.1 26 13 ≤ 2147483647 := by have h9 := G.hr (a := 26) (k := 13) rfl; exact h9
            refine xc_vV G (b := 23) (rest := []) (As := [.int (iv 2), .int (iv (μL1028.1 26 13))]) (c_X7_tellFault ω l μL1028 2 (μL1028.1 26 13) (by unfold ir; omega) (by unfold ir; omega) hi_1058 (by omega)) (wm 3 177 rfl rfl) (wm 3 179 rfl rfl) (wm 0 12 rfl rfl) rfl rfl (by decide) rfl (wm 1 12 rfl rfl) (wm 3 180 rfl rfl) (by decide) hR ⟨nfr hF (by decide), nlo hLo (by decide)⟩ (n := 2) rfl rfl (Nat.le_of_ble_eq_true rfl) hl.1 dX7_arguments_77 (fun μ1247 ρ d0 H locs hp G => ?_)
            obtain ⟨F_1248, hI_1249⟩ := hp
            refine lv_aload_n hx hb dX7_arguments_80 rfl (lv_at hl 5 rfl) ?_
            refine lv_iconst (v := iv 0) hx hb dX7_arguments_81 rfl ?_
            have hpx_1250 : μ1247.1 26 11 = 0 → PXE μo μ1247 P tt (ee + c9) f9 1 := fun h0 => (hi_1045 (by have h9 : μL1028.1 26 11 = μL1028.1 26 11 := rfl; have h8 : μ1247.1 26 11 = μL1028.1 26 11 := (F_1248.1 26 (by decide) 11); omega)).fr (K := [24]) (Fr.tr Fr.rf F_1248 (by decide)) (npL_p (L := [24]) (by decide) hprP).1 (npL_p (L := [24]) (by decide) hprP).2.1
            have e_1251 : μ1247.1 23 2 = P := ((F_1248.1 23 (by decide) 2).trans hi_1047)
            have e_1252 : μ1247.1 23 8 = tt := ((F_1248.1 23 (by decide) 8).trans hi_1051)
            have htk_1253 : TK μ1247 := hi_1039.fr (K := [24]) (Fr.tr Fr.rf F_1248 (by decide)) (by decide) (by decide)
            have hk_1254 := hi_1058.pr (p := P) hprP
            unfold pk at hk_1254
            have hc_1255 : 16 ≤ μL1028.2.1 (P + 1) ∧ μL1028.2.1 (P + 1) ≤ 73024 := hi_1058.rm.1 _ hprP.cap
            have e_1256 : μ1247.1 P 1 = μL1028.1 P 1 := (F_1248.1 P (ni hprP (fun P => P) (fun P => [24]) rfl) 1)
            have hn_1257 : -1 ≤ μL1028.1 26 10 ∧ μL1028.1 26 10 ≤ 3000 := hi_1058.nm.2.2.2.2.2.2.2.2.2.2.2.2
            have e_1258 : μ1247.1 26 10 = μL1028.1 26 10 := (F_1248.1 26 (by decide) 10)
            have e_1259 : μ1247.1 26 11 = μL1028.1 26 11 := (F_1248.1 26 (by decide) 11)
            have hk_1260 := hi_1058.row (r := P + 2) (hprP.row)
            unfold rk at hk_1260
            have e_1261 : μ1247.1 (P + 2) 3 = μL1028.1 (P + 2) 3 := (F_1248.1 (P + 2) (ni hprP (fun P => P + 2) (fun P => [24]) rfl) 3)
            have e_1262 : μ1247.1 P 1 = μL1028.1 P 1 := (F_1248.1 P (ni hprP (fun P => P) (fun P => [24]) rfl) 1)
            have e_1263 : μ1247.1 23 9 = μL1028.1 23 9 := (F_1248.1 23 (by decide) 9)
            have e_1264 : μ1247.1 23 9 = μL1028.1 23 9 := (F_1248.1 23 (by decide) 9)
            have e_1265 : μ1247.1 26 11 = μL1028.1 26 11 := (F_1248.1 26 (by decide) 11)
            have e_1266 : μ1247.1 23 9 = μL1028.1 23 9 := (F_1248.1 23 (by decide) 9)
            have e_1267 : μ1247.1 26 11 = μL1028.1 26 11 := (F_1248.1 26 (by decide) 11)
            have e_1268 : μ1247.1 26 11 = μL1028.1 26 11 := (F_1248.1 26 (by decide) 11)
            have e_1269 : μ1247.1 26 10 = μL1028.1 26 10 := (F_1248.1 26 (by decide) 10)
            have e_1270 : μ1247.1 P 1 = μL1028.1 P 1 := (F_1248.1 P (ni hprP (fun P => P) (fun P => [24]) rfl) 1)
            have e_1271 : μ1247.1 P 1 = μL1028.1 P 1 := (F_1248.1 P (ni hprP (fun P => P) (fun P => [24]) rfl) 1)
            have e_1272 : μ1247.1 26 10 = μL1028.1 26 10 := (F_1248.1 26 (by decide) 10)
            have e_1273 : μ1247.1 26 11 = μL1028.1 26 11 := (F_1248.1 26 (by decide) 11)
            have e_1274 : μ1247.1 (P + 2) 3 = μL1028.1 (P + 2) 3 := (F_1248.1 (P + 2) (ni hprP (fun P => P + 2) (fun P => [24]) rfl) 3)
            have e_1275 : μ1247.1 P 1 = μL1028.1 P 1 := (F_1248.1 P (ni hprP (fun P => P) (fun P => [24]) rfl) 1)
            have e_1276 : μ1247.1 (P + 2) 3 = μL1028.1 (P + 2) 3 := (F_1248.1 (P + 2) (ni hprP (fun P => P + 2) (fun P => [24]) rfl) 3)
            refine xc_vV G (b := 23) (rest := []) (As := [.int (iv 0)]) (((fun (_ : Om) (_ : Launch) => hE)) ω l μ1247 0 P tt (by omega) hI_1249 (by omega) (by omega) htk_1253 (by omega) (by omega) (by omega) (by omega) (by omega) (fun _ => Or.inl (by omega))) (wm 4 3 rfl rfl) (wm 4 5 rfl rfl) (wm 0 24 rfl rfl) rfl rfl (by decide) rfl (wm 1 12 rfl rfl) (wm 4 6 rfl rfl) (by decide) hR ⟨sfr (F := F) (a := 0) (by decide), slo (L := Lo) (m := 3) (a := 0) (by decide)⟩ (n := 1) rfl rfl (Nat.le_of_ble_eq_true rfl) hl.1 dX7_arguments_82 (fun μ1277 ρ d0 H locs hp G => ?_)
            obtain ⟨F_1278, hI_1279, hp_1280, hp_1281, hp_1282, hp_1283, hp_1284, hp_1285, hs_1286, hs_1287, hs_1288, hs_1289, hs_1290, hs_1291, hs_1292, hs_1293, hs_1294⟩ := hp
            have hn_1295 : -1 ≤ μ1277.1 26 10 ∧ μ1277.1 26 10 ≤ 3000 := hI_1279.nm.2.2.2.2.2.2.2.2.2.2.2.2
            have hk_1296 := hI_1279.pr (p := P) hprP
            unfold pk at hk_1296
            have hc_1297 : 16 ≤ μ1277.2.1 (P + 1) ∧ μ1277.2.1 (P + 1) ≤ 73024 := hI_1279.rm.1 _ hprP.cap
            have hk_1298 := hI_1279.row (r := P + 2) (hprP.row)
            unfold rk at hk_1298
            have htb_1299 := hp_1280.b
            have hpx_1300 : μ1277.1 26 11 = 0 → PXE μo μ1277 P tt ((ee + c9) + (1 - 0)) f9 1 := fun h0 => (PXE.app (hpx_1250 (by have h9 : μ1247.1 26 11 = μL1028.1 26 11 := (F_1248.1 26 (by decide) 11); have h8 : μ1277.1 26 11 = μ1277.1 26 11 := rfl; omega)) (hp_1285 h0)).e (by omega)
            refine lv_aload_n hx hb dX7_arguments_85 rfl (lv_at hl 5 rfl) ?_
            refine lv_iload hx hb dX7_arguments_86 (lv_at hl 3 rfl) ?_
            refine lv_iload hx hb dX7_arguments_88 (lv_at hl 4 rfl) ?_
            refine lv_iload hx hb dX7_arguments_90 (lv_at hl 2 rfl) ?_
            refine xb_iadd hx hb dX7_arguments_92 ?_
            have e_1301 : μ1277.1 23 2 = P := (hs_1286.trans ((F_1248.1 23 (by decide) 2).trans hi_1047))
            have e_1302 : μ1277.1 23 8 = tt := (hs_1290.trans ((F_1248.1 23 (by decide) 8).trans hi_1051))
            refine xc_iV G (b := 23) (rest := []) (As := [.int (iv f9), .int (iv (1 + c9))]) (c_X7_ifFails ω l μ1277 f9 (1 + c9) μo ((ee + c9) + (1 - 0)) (1) P tt (by unfold ir; omega) (by unfold ir; omega) hI_1279 (by omega) (by omega) (by omega) hpx_1300 (by omega) (by omega)) (wm 4 23 rfl rfl) (wm 4 25 rfl rfl) (wm 0 29 rfl rfl) rfl rfl (by decide) rfl (wm 1 12 rfl rfl) (wm 4 26 rfl rfl) (by decide) hR ⟨nfr hF (by decide), nlo hLo (by decide)⟩ (n := 2) rfl rfl (Nat.le_of_ble_eq_true rfl) hl.1 dX7_arguments_93 (fun r_1304 μ1303 ρ d0 H locs hr_r_1304 hp G => ?_)
            have hr_r_1304 : -2147483648 ≤ r_1304 ∧ r_1304 ≤ 2147483647 := hr_r_1304
            obtain ⟨F_1305, hI_1306, hp_1307, hp_1308, hs_1309⟩ := hp
            have hk_1310 := hI_1306.pr (p := P) hprP
            unfold pk at hk_1310
            have hc_1311 : 16 ≤ μ1303.2.1 (P + 1) ∧ μ1303.2.1 (P + 1) ≤ 73024 := hI_1306.rm.1 _ hprP.cap
            have hpx_1312 : μ1303.1 26 11 = 0 → PXE μo μ1303 P tt ((ee + c9) + (1 - 0)) r_1304 1 := fun h0 => hp_1307 (by have h9 : μ1277.1 26 11 = μ1277.1 26 11 := rfl; have h8 : μ1303.1 26 11 = μ1277.1 26 11 := (F_1305.1 26 (ni hprP (fun P => 26) (fun P => [P, P + 1]) rfl) 11); omega)
            clear hp_1307
            refine lv_istore (lv' := [(7, .int (iv r_1304)), (10, .int (iv i9)), (9, .int (iv m9)), (8, .int (iv c9)), (6, .int (iv 1)), (0, .ref (oP ω 23)), (1, .int (iv x1)), (2, .int (iv x2)), (3, .long (jv x3)), (5, .int (iv x4))]) hx hb dX7_arguments_96 hl (by decide) rfl (fun ls hl => ?_)
            refine lv_iinc (v := iv (c9 + 1)) (lv' := [(8, .int (iv (c9 + 1))), (7, .int (iv r_1304)), (10, .int (iv i9)), (9, .int (iv m9)), (6, .int (iv 1)), (0, .ref (oP ω 23)), (1, .int (iv x1)), (2, .int (iv x2)), (3, .long (jv x3)), (5, .int (iv x4))]) hx hb dX7_arguments_98 hl (k := 3) rfl (by rw [show Int32.ofInt 1 = iv 1 from rfl, iv_add]) (by decide) rfl (fun ls hl => ?_)
            refine lv_aload_n hx hb dX7_arguments_101 rfl (lv_at hl 5 rfl) ?_
            refine lv_bipush (v := iv 44) hx hb dX7_arguments_102 rfl ?_
            have htk_1313 : TK μ1303 := hp_1280.fr (K := [P, P + 1]) (Fr.tr Fr.rf F_1305 (si hprP (fun P => [P, P + 1]) (fun P => [P, P + 1]) rfl)) (ni hprP (fun P => 26) (fun P => [P, P + 1]) rfl) (ni hprP (fun P => 28) (fun P => [P, P + 1]) rfl)
            have e_1314 : μ1303.1 26 10 = μ1277.1 26 10 := (F_1305.1 26 (ni hprP (fun P => 26) (fun P => [P, P + 1]) rfl) 10)
            have e_1315 : μ1303.1 26 11 = μ1277.1 26 11 := (F_1305.1 26 (ni hprP (fun P => 26) (fun P => [P, P + 1]) rfl) 11)
            refine xc_iV G (b := 23) (rest := []) (As := [.int (iv 44)]) (c_X7_took_b ω l μ1303 44 (by unfold ir; omega) hI_1306 htk_1313 (by omega)) (wm 3 160 rfl rfl) (wm 3 162 rfl rfl) (wm 0 9 rfl rfl) rfl rfl (by decide) rfl (wm 1 12 rfl rfl) (wm 3 163 rfl rfl) (by decide) hR ⟨nfr hF (by decide), nlo hLo (by decide)⟩ (n := 1) rfl rfl (Nat.le_of_ble_eq_true rfl) hl.1 dX7_arguments_104 (fun r_1317 μ1316 ρ d0 H locs hr_r_1317 hp G => ?_)
            have hr_r_1317 : -2147483648 ≤ r_1317 ∧ r_1317 ≤ 2147483647 := hr_r_1317
            obtain ⟨F_1318, hI_1319, hp_1320, hp_1321, hs_1322, hs_1323, hs_1324, hs_1325, hs_1326⟩ := hp
            have hn_1327 : -1 ≤ μ1316.1 26 10 ∧ μ1316.1 26 10 ≤ 3000 := hI_1319.nm.2.2.2.2.2.2.2.2.2.2.2.2
            have htb_1328 := hp_1320.b
            refine lv_istore (lv' := [(9, .int (iv r_1317)), (8, .int (iv (c9 + 1))), (7, .int (iv r_1304)), (10, .int (iv i9)), (6, .int (iv 1)), (0, .ref (oP ω 23)), (1, .int (iv x1)), (2, .int (iv x2)), (3, .long (jv x3)), (5, .int (iv x4))]) hx hb dX7_arguments_107 hl (by decide) rfl (fun ls hl => ?_)
            refine lv_iinc (v := iv (i9 + 1)) (lv' := [(10, .int (iv (i9 + 1))), (9, .int (iv r_1317)), (8, .int (iv (c9 + 1))), (7, .int (iv r_1304)), (6, .int (iv 1)), (0, .ref (oP ω 23)), (1, .int (iv x1)), (2, .int (iv x2)), (3, .long (jv x3)), (5, .int (iv x4))]) hx hb dX7_arguments_109 hl (k := 3) rfl (by rw [show Int32.ofInt 1 = iv 1 from rfl, iv_add]) (by decide) rfl (fun ls hl => ?_)
            refine lv_goto (tgt := 48) hx hb dX7_arguments_112 (by decide) ?_
            have e_1329 : μ1316.1 23 9 = μL1028.1 23 9 := ((F_1318.1 23 (by decide) 9).trans ((F_1305.1 23 (ni hprP (fun P => 23) (fun P => [P, P + 1]) rfl) 9).trans (hs_1291.trans (F_1248.1 23 (by decide) 9))))
            have e_1330 : μ1316.1 26 11 = μ1277.1 26 11 := (hs_1322.trans (F_1305.1 26 (ni hprP (fun P => 26) (fun P => [P, P + 1]) rfl) 11))
            have e_1331 : μ1316.1 P 1 = μ1303.1 P 1 := (F_1318.1 P (ni hprP (fun P => P) (fun P => [26]) rfl) 1)
            have e_1332 : μ1316.1 P 1 = μ1303.1 P 1 := (F_1318.1 P (ni hprP (fun P => P) (fun P => [26]) rfl) 1)
            have e_1333 : μ1316.1 26 11 = μ1277.1 26 11 := (hs_1322.trans (F_1305.1 26 (ni hprP (fun P => 26) (fun P => [P, P + 1]) rfl) 11))
            have e_1334 : μ1316.1 P 1 = μ1303.1 P 1 := (F_1318.1 P (ni hprP (fun P => P) (fun P => [26]) rfl) 1)
            have e_1335 : μ1316.1 (P + 2) 3 = μ1277.1 (P + 2) 3 := ((F_1318.1 (P + 2) (ni hprP (fun P => P + 2) (fun P => [26]) rfl) 3).trans (F_1305.1 (P + 2) (ni hprP (fun P => P + 2) (fun P => [P, P + 1]) rfl) 3))
            have e_1336 : μ1316.1 P 1 = μ1303.1 P 1 := (F_1318.1 P (ni hprP (fun P => P) (fun P => [26]) rfl) 1)
            have e_1337 : μ1316.1 (P + 2) 3 = μ1277.1 (P + 2) 3 := ((F_1318.1 (P + 2) (ni hprP (fun P => P + 2) (fun P => [26]) rfl) 3).trans (F_1305.1 (P + 2) (ni hprP (fun P => P + 2) (fun P => [P, P + 1]) rfl) 3))
            have hpx_1338 : μ1316.1 26 11 = 0 → PXE μo μ1316 P tt ((ee + c9) + (1 - 0)) r_1304 1 := fun h0 => (hpx_1312 (by have h9 : μ1303.1 26 11 = μ1277.1 26 11 := (F_1305.1 26 (ni hprP (fun P => 26) (fun P => [P, P + 1]) rfl) 11); have h8 : μ1316.1 26 11 = μ1277.1 26 11 := (hs_1322.trans (F_1305.1 26 (ni hprP (fun P => 26) (fun P => [P, P + 1]) rfl) 11)); omega)).fr (K := [26]) (Fr.tr Fr.rf F_1318 (by decide)) (npL_p (L := [26]) (by decide) hprP).1 (npL_p (L := [26]) (by decide) hprP).2.1
            have e_1339 : μ1316.1 2 4 = μ1277.1 2 4 := ((F_1318.1 2 (by decide) 4).trans (F_1305.1 2 (ni hprP (fun P => 2) (fun P => [P, P + 1]) rfl) 4))
            have e_1340 : μ1316.1 26 7 = μ1277.1 26 7 := (hs_1324.trans (F_1305.1 26 (ni hprP (fun P => 26) (fun P => [P, P + 1]) rfl) 7))
            have e_1341 : μ1316.1 26 8 = μ1277.1 26 8 := (hs_1325.trans (F_1305.1 26 (ni hprP (fun P => 26) (fun P => [P, P + 1]) rfl) 8))
            have e_1342 : μ1316.1 26 9 = μ1277.1 26 9 := (hs_1326.trans (F_1305.1 26 (ni hprP (fun P => 26) (fun P => [P, P + 1]) rfl) 9))
            exact ih _ _ _ _ _ _ _ (by omega) ⟨r_1304, c9 + 1, r_1317, i9 + 1, (Fr.tr (Fr.tr (Fr.tr (Fr.tr FL1029 F_1248 (si hprP (fun P => [24]) (fun P => [2, 3, 4, 23, 24, 26, P, P + 1, P + 2, (P + 2) + 1, (P + 2) + 2, (P + 2) + 3]) rfl)) F_1278 (si hprP (fun P => [2, 3, 4, 23, 24, 26, P, P + 1, P + 2, (P + 2) + 1, (P + 2) + 2, (P + 2) + 3]) (fun P => [2, 3, 4, 23, 24, 26, P, P + 1, P + 2, (P + 2) + 1, (P + 2) + 2, (P + 2) + 3]) rfl)) F_1305 (si hprP (fun P => [P, P + 1]) (fun P => [2, 3, 4, 23, 24, 26, P, P + 1, P + 2, (P + 2) + 1, (P + 2) + 2, (P + 2) + 3]) rfl)) F_1318 (si hprP (fun P => [26]) (fun P => [2, 3, 4, 23, 24, 26, P, P + 1, P + 2, (P + 2) + 1, (P + 2) + 2, (P + 2) + 3]) rfl)), (by omega), (by omega), (by omega), (by omega), (by omega), (by omega), (by omega), (by omega), hp_1320, (by omega), (by omega), (by omega), (by omega), (by omega), (fun h0 => (hpx_1338 h0).e (by omega)), (by omega), ((F_1318.1 23 (by decide) 2).trans ((F_1305.1 23 (ni hprP (fun P => 23) (fun P => [P, P + 1]) rfl) 2).trans (hs_1286.trans ((F_1248.1 23 (by decide) 2).trans hi_1047)))), ((F_1318.1 23 (by decide) 5).trans ((F_1305.1 23 (ni hprP (fun P => 23) (fun P => [P, P + 1]) rfl) 5).trans (hs_1287.trans ((F_1248.1 23 (by decide) 5).trans hi_1048)))), ((F_1318.1 23 (by decide) 6).trans ((F_1305.1 23 (ni hprP (fun P => 23) (fun P => [P, P + 1]) rfl) 6).trans (hs_1288.trans ((F_1248.1 23 (by decide) 6).trans hi_1049)))), ((F_1318.1 23 (by decide) 7).trans ((F_1305.1 23 (ni hprP (fun P => 23) (fun P => [P, P + 1]) rfl) 7).trans (hs_1289.trans ((F_1248.1 23 (by decide) 7).trans hi_1050)))), ((F_1318.1 23 (by decide) 8).trans ((F_1305.1 23 (ni hprP (fun P => 23) (fun P => [P, P + 1]) rfl) 8).trans (hs_1290.trans ((F_1248.1 23 (by decide) 8).trans hi_1051)))), ((F_1318.1 23 (by decide) 10).trans ((F_1305.1 23 (ni hprP (fun P => 23) (fun P => [P, P + 1]) rfl) 10).trans (hs_1292.trans ((F_1248.1 23 (by decide) 10).trans hi_1052)))), (hs_1323.trans ((F_1305.1 26 (ni hprP (fun P => 26) (fun P => [P, P + 1]) rfl) 6).trans (hs_1293.trans ((F_1248.1 26 (by decide) 6).trans hi_1053)))), (by omega), (by omega), (by omega), ((F_1318.1 P (ni hprP (fun P => P) (fun P => [26]) rfl) 7).trans (hs_1309.trans (hs_1294.trans ((F_1248.1 P (ni hprP (fun P => P) (fun P => [24]) rfl) 7).trans hi_1057)))), hI_1319, rfl, lv_sub hl [0, 1, 2, 3, 4, 5, 6, 7, 8, 9] rfl⟩ G
