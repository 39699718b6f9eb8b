abbrev cX7_arguments : ByteArray := prog_9_method_54_code
def yX7_arguments : MethodName := ⟨RX7, "arguments", "(IIJI)V"⟩
theorem dX7_arguments_0 : decode cX7_arguments 0 = .ok (.iload_n 1, 1) := by decide +kernel
theorem dX7_arguments_1 : decode cX7_arguments 1 = .ok (.bipush 14, 2) := by decide +kernel
theorem dX7_arguments_3 : decode cX7_arguments 3 = .ok (.if_icmp .ne 7, 3) := by decide +kernel
theorem dX7_arguments_6 : decode cX7_arguments 6 = .ok (.iconst 1, 1) := by decide +kernel
theorem dX7_arguments_7 : decode cX7_arguments 7 = .ok (.goto 4, 3) := by decide +kernel
theorem dX7_arguments_10 : decode cX7_arguments 10 = .ok (.iconst 0, 1) := by decide +kernel
theorem dX7_arguments_11 : decode cX7_arguments 11 = .ok (.istore 6, 2) := by decide +kernel
theorem dX7_arguments_13 : decode cX7_arguments 13 = .ok (.iload 5, 2) := by decide +kernel
theorem dX7_arguments_15 : decode cX7_arguments 15 = .ok (.istore 7, 2) := by decide +kernel
theorem dX7_arguments_17 : decode cX7_arguments 17 = .ok (.iconst 0, 1) := by decide +kernel
theorem dX7_arguments_18 : decode cX7_arguments 18 = .ok (.istore 8, 2) := by decide +kernel
theorem dX7_arguments_20 : decode cX7_arguments 20 = .ok (.aload_n 0, 1) := by decide +kernel
theorem dX7_arguments_21 : decode cX7_arguments 21 = .ok (.bipush 40, 2) := by decide +kernel
theorem dX7_arguments_23 : decode cX7_arguments 23 = .ok (.invokevirtual 164, 3) := by decide +kernel
theorem dX7_arguments_26 : decode cX7_arguments 26 = .ok (.aload_n 0, 1) := by decide +kernel
theorem dX7_arguments_27 : decode cX7_arguments 27 = .ok (.getfield 43, 3) := by decide +kernel
theorem dX7_arguments_30 : decode cX7_arguments 30 = .ok (.getfield 80, 3) := by decide +kernel
theorem dX7_arguments_33 : decode cX7_arguments 33 = .ok (.bipush 41, 2) := by decide +kernel
theorem dX7_arguments_35 : decode cX7_arguments 35 = .ok (.if_icmp .eq 7, 3) := by decide +kernel
theorem dX7_arguments_38 : decode cX7_arguments 38 = .ok (.iconst 1, 1) := by decide +kernel
theorem dX7_arguments_39 : decode cX7_arguments 39 = .ok (.goto 4, 3) := by decide +kernel
theorem dX7_arguments_42 : decode cX7_arguments 42 = .ok (.iconst 0, 1) := by decide +kernel
theorem dX7_arguments_43 : decode cX7_arguments 43 = .ok (.istore 9, 2) := by decide +kernel
theorem dX7_arguments_45 : decode cX7_arguments 45 = .ok (.iconst 0, 1) := by decide +kernel
theorem dX7_arguments_46 : decode cX7_arguments 46 = .ok (.istore 10, 2) := by decide +kernel
theorem dX7_arguments_48 : decode cX7_arguments 48 = .ok (.iload 10, 2) := by decide +kernel
theorem dX7_arguments_50 : decode cX7_arguments 50 = .ok (.sipush 3000, 3) := by decide +kernel
theorem dX7_arguments_53 : decode cX7_arguments 53 = .ok (.if_icmp .ge 62, 3) := by decide +kernel
theorem dX7_arguments_56 : decode cX7_arguments 56 = .ok (.iload 9, 2) := by decide +kernel
theorem dX7_arguments_58 : decode cX7_arguments 58 = .ok (.ifCond .eq 57, 3) := by decide +kernel
theorem dX7_arguments_61 : decode cX7_arguments 61 = .ok (.iload 8, 2) := by decide +kernel
theorem dX7_arguments_63 : decode cX7_arguments 63 = .ok (.bipush 8, 2) := by decide +kernel
theorem dX7_arguments_65 : decode cX7_arguments 65 = .ok (.if_icmp .lt 15, 3) := by decide +kernel
theorem dX7_arguments_68 : decode cX7_arguments 68 = .ok (.aload_n 0, 1) := by decide +kernel
theorem dX7_arguments_69 : decode cX7_arguments 69 = .ok (.iconst 2, 1) := by decide +kernel
theorem dX7_arguments_70 : decode cX7_arguments 70 = .ok (.aload_n 0, 1) := by decide +kernel
theorem dX7_arguments_71 : decode cX7_arguments 71 = .ok (.getfield 43, 3) := by decide +kernel
theorem dX7_arguments_74 : decode cX7_arguments 74 = .ok (.getfield 96, 3) := by decide +kernel
theorem dX7_arguments_77 : decode cX7_arguments 77 = .ok (.invokevirtual 127, 3) := by decide +kernel
theorem dX7_arguments_80 : decode cX7_arguments 80 = .ok (.aload_n 0, 1) := by decide +kernel
theorem dX7_arguments_81 : decode cX7_arguments 81 = .ok (.iconst 0, 1) := by decide +kernel
theorem dX7_arguments_82 : decode cX7_arguments 82 = .ok (.invokevirtual 216, 3) := by decide +kernel
theorem dX7_arguments_85 : decode cX7_arguments 85 = .ok (.aload_n 0, 1) := by decide +kernel
theorem dX7_arguments_86 : decode cX7_arguments 86 = .ok (.iload 7, 2) := by decide +kernel
theorem dX7_arguments_88 : decode cX7_arguments 88 = .ok (.iload 6, 2) := by decide +kernel
theorem dX7_arguments_90 : decode cX7_arguments 90 = .ok (.iload 8, 2) := by decide +kernel
theorem dX7_arguments_92 : decode cX7_arguments 92 = .ok (.iadd, 1) := by decide +kernel
theorem dX7_arguments_93 : decode cX7_arguments 93 = .ok (.invokevirtual 273, 3) := by decide +kernel
theorem dX7_arguments_96 : decode cX7_arguments 96 = .ok (.istore 7, 2) := by decide +kernel
theorem dX7_arguments_98 : decode cX7_arguments 98 = .ok (.iinc 8 1, 3) := by decide +kernel
theorem dX7_arguments_101 : decode cX7_arguments 101 = .ok (.aload_n 0, 1) := by decide +kernel
theorem dX7_arguments_102 : decode cX7_arguments 102 = .ok (.bipush 44, 2) := by decide +kernel
theorem dX7_arguments_104 : decode cX7_arguments 104 = .ok (.invokevirtual 83, 3) := by decide +kernel
theorem dX7_arguments_107 : decode cX7_arguments 107 = .ok (.istore 9, 2) := by decide +kernel
theorem dX7_arguments_109 : decode cX7_arguments 109 = .ok (.iinc 10 1, 3) := by decide +kernel
theorem dX7_arguments_112 : decode cX7_arguments 112 = .ok (.goto (-64), 3) := by decide +kernel
theorem dX7_arguments_115 : decode cX7_arguments 115 = .ok (.aload_n 0, 1) := by decide +kernel
theorem dX7_arguments_116 : decode cX7_arguments 116 = .ok (.bipush 41, 2) := by decide +kernel
theorem dX7_arguments_118 : decode cX7_arguments 118 = .ok (.invokevirtual 170, 3) := by decide +kernel
theorem dX7_arguments_121 : decode cX7_arguments 121 = .ok (.aload_n 0, 1) := by decide +kernel
theorem dX7_arguments_122 : decode cX7_arguments 122 = .ok (.getfield 51, 3) := by decide +kernel
theorem dX7_arguments_125 : decode cX7_arguments 125 = .ok (.iconst 0, 1) := by decide +kernel
theorem dX7_arguments_126 : decode cX7_arguments 126 = .ok (.lload_n 3, 1) := by decide +kernel
theorem dX7_arguments_127 : decode cX7_arguments 127 = .ok (.dconst 0, 1) := by decide +kernel
theorem dX7_arguments_128 : decode cX7_arguments 128 = .ok (.invokevirtual 310, 3) := by decide +kernel
theorem dX7_arguments_131 : decode cX7_arguments 131 = .ok (.istore 10, 2) := by decide +kernel
theorem dX7_arguments_133 : decode cX7_arguments 133 = .ok (.aload_n 0, 1) := by decide +kernel
theorem dX7_arguments_134 : decode cX7_arguments 134 = .ok (.iload_n 1, 1) := by decide +kernel
theorem dX7_arguments_135 : decode cX7_arguments 135 = .ok (.iload 8, 2) := by decide +kernel
theorem dX7_arguments_137 : decode cX7_arguments 137 = .ok (.iconst 4, 1) := by decide +kernel
theorem dX7_arguments_138 : decode cX7_arguments 138 = .ok (.imul, 1) := by decide +kernel
theorem dX7_arguments_139 : decode cX7_arguments 139 = .ok (.iload_n 2, 1) := by decide +kernel
theorem dX7_arguments_140 : decode cX7_arguments 140 = .ok (.iadd, 1) := by decide +kernel
theorem dX7_arguments_141 : decode cX7_arguments 141 = .ok (.iload 10, 2) := by decide +kernel
theorem dX7_arguments_143 : decode cX7_arguments 143 = .ok (.iload 7, 2) := by decide +kernel
theorem dX7_arguments_145 : decode cX7_arguments 145 = .ok (.invokevirtual 230, 3) := by decide +kernel
theorem dX7_arguments_148 : decode cX7_arguments 148 = .ok (.return_, 1) := by decide +kernel
theorem ef13 {c x : Int} (h : 0 ≤ c) (hx : 0 ≤ x ∧ x ≤ 3) : eff 13 (c * 4 + x) = 1 - c := by
  show 1 - (c * 4 + x).tdiv 4 = 1 - c
  rw [Int.tdiv_eq_ediv_of_nonneg (by omega)]
  omega
theorem ef14 {c x : Int} (h : 0 ≤ c) (hx : 0 ≤ x ∧ x ≤ 3) : eff 14 (c * 4 + x) = - c := by
  show - (c * 4 + x).tdiv 4 = - c
  rw [Int.tdiv_eq_ediv_of_nonneg (by omega)]
  omega
set_option maxHeartbeats 4000000 in
set_option maxRecDepth 100000 in
theorem c_X7_arguments (ω : Om) (l : Launch) (μ : M3) (x1 : Int) (x2 : Int) (x3 : Int) (x4 : Int) (F : Nat) (Lo : Nat) (kf : Int) (μo : M3) (ee : Int) (ww : Int) (P : Int) (tt : Int) (hx1 : ir x1) (hx2 : ir x2) (hx3 : jr x3) (hx4 : ir x4) (hI : IC μ) (hP : P = μ.1 23 2) (htt : tt = μ.1 23 8) (hF : 60 ≤ F) (hLo : 2000 ≤ Lo) (hE : ∀ (μ : M3) (x1 : Int) (P : Int) (tt : Int) (hx1 : x1 = 0 ∨ x1 = 1) (hI : IC μ) (hP : P = μ.1 23 2) (htt : tt = μ.1 23 8) (hTK : TK μ) (hB : μ.1 P 1 ≤ 2 * μ.1 26 10 + 100 + 40 * μ.1 26 11) (hKc : μ.1 (P + 2) 3 ≤ μ.1 P 1) (ht3 : 0 ≤ tt ∧ tt ≤ 3) (hdp : 0 ≤ μ.1 23 9 ∧ μ.1 23 9 ≤ 8 + μ.1 26 11) (hfu : 0 ≤ (kf - 1) ∧ 9 ≤ μ.1 23 9 + (kf - 1) + 20 * μ.1 26 11) (hbg : ∀ _ : Unit, x1 = 0 ∨ μ.1 26 11 ≠ 0 ∨ 2 ≤ hs μ P (μ.1 P 1)), CtV ω l yX7_expression cX7_expression 3 (F + 0) (Lo + 0) [.ref (oP ω 23), .int (iv x1)] μ (fun (μ' : M3) => (Fr [2, 3, 4, 23, 24, 26, P, P + 1, P + 2, (P + 2) + 1, (P + 2) + 2, (P + 2) + 3] μ μ') ∧ (IC μ') ∧ (TK μ') ∧ (μ.1 26 11 ≤ μ'.1 26 11) ∧ (μ.1 26 10 ≤ μ'.1 26 10) ∧ (μ.1 P 1 ≤ μ'.1 P 1 ∧ μ'.1 P 1 ≤ μ.1 P 1 + 2 * (μ'.1 26 10 - μ.1 26 10) + (- 1 + 3 * μ'.1 26 11 - 2 * μ.1 26 11 + x1)) ∧ (μ'.1 (P + 2) 3 - μ.1 (P + 2) 3 ≤ μ'.1 P 1 - μ.1 P 1 ∧ μ.1 (P + 2) 3 ≤ μ'.1 (P + 2) 3) ∧ (μ'.1 26 11 = 0 → EX μ μ' P tt (1 - x1) 0) ∧ (μ'.1 23 2 = μ.1 23 2) ∧ (μ'.1 23 5 = μ.1 23 5) ∧ (μ'.1 23 6 = μ.1 23 6) ∧ (μ'.1 23 7 = μ.1 23 7) ∧ (μ'.1 23 8 = μ.1 23 8) ∧ (μ'.1 23 9 = μ.1 23 9) ∧ (μ'.1 23 10 = μ.1 23 10) ∧ (μ'.1 26 6 = μ.1 26 6) ∧ (μ'.1 P 7 = μ.1 P 7))) (hU : ∀ (μ : M3) (x1 : Int) (P : Int) (tt : Int) (hx1 : x1 = 0 ∨ x1 = 1) (hI : IC μ) (hP : P = μ.1 23 2) (htt : tt = μ.1 23 8) (hTK : TK μ) (hB : μ.1 P 1 ≤ 2 * μ.1 26 10 + 100 + 40 * μ.1 26 11) (hKc : μ.1 (P + 2) 3 ≤ μ.1 P 1) (ht3 : 0 ≤ tt ∧ tt ≤ 3) (hdp : 0 ≤ μ.1 23 9 ∧ μ.1 23 9 ≤ 8 + μ.1 26 11) (hfu : 0 ≤ (kf - 1) ∧ 9 ≤ μ.1 23 9 + (kf - 1) + 20 * μ.1 26 11) (hbg : ∀ _ : Unit, x1 = 0 ∨ μ.1 26 11 ≠ 0 ∨ 2 ≤ hs μ P (μ.1 P 1)), CtV ω l yX7_unary cX7_unary 2 (F + 0) (Lo + 0) [.ref (oP ω 23), .int (iv x1)] μ (fun (μ' : M3) => (Fr [2, 3, 4, 23, 24, 26, P, P + 1, P + 2, (P + 2) + 1, (P + 2) + 2, (P + 2) + 3] μ μ') ∧ (IC μ') ∧ (TK μ') ∧ (μ.1 26 11 ≤ μ'.1 26 11) ∧ (μ.1 26 10 ≤ μ'.1 26 10) ∧ (μ.1 P 1 ≤ μ'.1 P 1 ∧ μ'.1 P 1 ≤ μ.1 P 1 + 2 * (μ'.1 26 10 - μ.1 26 10) + (- 1 + 3 * μ'.1 26 11 - 2 * μ.1 26 11 + x1)) ∧ (μ'.1 (P + 2) 3 - μ.1 (P + 2) 3 ≤ μ'.1 P 1 - μ.1 P 1 ∧ μ.1 (P + 2) 3 ≤ μ'.1 (P + 2) 3) ∧ (μ'.1 26 11 = 0 → EX μ μ' P tt (1 - x1) 0) ∧ (μ'.1 23 2 = μ.1 23 2) ∧ (μ'.1 23 5 = μ.1 23 5) ∧ (μ'.1 23 6 = μ.1 23 6) ∧ (μ'.1 23 7 = μ.1 23 7) ∧ (μ'.1 23 8 = μ.1 23 8) ∧ (μ'.1 23 9 = μ.1 23 9) ∧ (μ'.1 23 10 = μ.1 23 10) ∧ (μ'.1 26 6 = μ.1 26 6) ∧ (μ'.1 P 7 = μ.1 P 7))) (hTK : TK μ) (hB : μ.1 P 1 ≤ 2 * μ.1 26 10 + 100 + 40 * μ.1 26 11) (hKc : μ.1 (P + 2) 3 ≤ μ.1 P 1) (ht3 : 0 ≤ tt ∧ tt ≤ 3) (hdp : 0 ≤ μ.1 23 9 ∧ μ.1 23 9 ≤ 8) (hfu : 9 ≤ μ.1 23 9 + kf) (heo : 13 ≤ x1 ∧ x1 ≤ 14 ∧ ee = x1 - 13) (hx2b : 0 ≤ x2 ∧ x2 ≤ 3) (hpx : μ.1 26 11 = 0 → PXE μo μ P tt ee x4 ww) (hw1 : ww = 1) : CtV ω l yX7_arguments cX7_arguments 11 (F + 1) (Lo + 22) [.ref (oP ω 23), .int (iv x1), .int (iv x2), .long (jv x3), .int (iv x4)] μ (fun (μ' : M3) => (Fr [2, 3, 4, 23, 24, 26, P, P + 1, P + 2, (P + 2) + 1, (P + 2) + 2, (P + 2) + 3] μ μ') ∧ (IC μ') ∧ (TK μ') ∧ (μ.1 26 11 ≤ μ'.1 26 11) ∧ (μ.1 26 10 ≤ μ'.1 26 10) ∧ (μ.1 P 1 ≤ μ'.1 P 1 ∧ μ'.1 P 1 ≤ μ.1 P 1 + 2 * (μ'.1 26 10 - μ.1 26 10) + (- 1 + 3 * μ'.1 26 11)) ∧ (μ'.1 (P + 2) 3 - μ.1 (P + 2) 3 ≤ μ'.1 P 1 - μ.1 P 1 ∧ μ.1 (P + 2) 3 ≤ μ'.1 (P + 2) 3) ∧ (μ'.1 26 11 = 0 → EX μo μ' P tt 1 0) ∧ (μ'.1 23 2 = μ.1 23 2) ∧ (μ'.1 23 5 = μ.1 23 5) ∧ (μ'.1 23 6 = μ.1 23 6) ∧ (μ'.1 23 7 = μ.1 23 7) ∧ (μ'.1 23 8 = μ.1 23 8) ∧ (μ'.1 23 9 = μ.1 23 9) ∧ (μ'.1 23 10 = μ.1 23 10) ∧ (μ'.1 26 6 = μ.1 26 6) ∧ (μ'.1 P 7 = μ.1 P 7)) := by
  refine CtV.go (by decide) (Nat.le_of_ble_eq_true rfl) (fun ρ p e s m below meth c R ls G hR hret hlk hl => ?_)
  have hx := G.1.1
  have hb := G.1.2.1
  have hl : lv_has ls 11 [(0, .ref (oP ω 23)), (1, .int (iv x1)), (2, .int (iv x2)), (3, .long (jv x3)), (5, .int (iv x4))] := hl
  generalize s.drawn = d0 at G ⊢
  have hr_x1 : -2147483648 ≤ x1 ∧ x1 ≤ 2147483647 := hx1
  have hr_x2 : -2147483648 ≤ x2 ∧ x2 ≤ 2147483647 := hx2
  have hr_x4 : -2147483648 ≤ x4 ∧ x4 ≤ 2147483647 := hx4
  have hTKb := hTK.b
  have hprP : isPr P := by have h9 := G.sr0.2.2.2.2.2; rw [← hP] at h9; exact h9
  have hprP_d : 13 ≤ P ∧ P ≤ 101 := by rcases hprP with h9 | h9 | h9 | h9 | h9 <;> omega
  have hk_1 := hI.pr (p := P) hprP
  unfold pk at hk_1
  have hc_2 : 16 ≤ μ.2.1 (P + 1) ∧ μ.2.1 (P + 1) ≤ 73024 := hI.rm.1 _ hprP.cap
  subst hw1
  refine lv_iload_n hx hb dX7_arguments_0 rfl (lv_at hl 1 rfl) ?_
  refine lv_bipush (v := iv 14) hx hb dX7_arguments_1 rfl ?_
  refine xb_icmp_ne (tgt := 10) hx hb (by unfold ir; omega) (by unfold ir; omega) dX7_arguments_3 (by decide) (fun c_3 => ?_) (fun c_3 => ?_)
  · refine lv_iconst (v := iv 0) hx hb dX7_arguments_10 rfl ?_
    refine lv_istore (lv' := [(6, .int (iv 0)), (0, .ref (oP ω 23)), (1, .int (iv x1)), (2, .int (iv x2)), (3, .long (jv x3)), (5, .int (iv x4))]) hx hb dX7_arguments_11 hl (by decide) rfl (fun ls hl => ?_)
    refine lv_iload hx hb dX7_arguments_13 (lv_at hl 5 rfl) ?_
    refine lv_istore (lv' := [(7, .int (iv x4)), (6, .int (iv 0)), (0, .ref (oP ω 23)), (1, .int (iv x1)), (2, .int (iv x2)), (3, .long (jv x3)), (5, .int (iv x4))]) hx hb dX7_arguments_15 hl (by decide) rfl (fun ls hl => ?_)
    refine lv_iconst (v := iv 0) hx hb dX7_arguments_17 rfl ?_
    refine lv_istore (lv' := [(8, .int (iv 0)), (7, .int (iv x4)), (6, .int (iv 0)), (0, .ref (oP ω 23)), (1, .int (iv x1)), (2, .int (iv x2)), (3, .long (jv x3)), (5, .int (iv x4))]) hx hb dX7_arguments_18 hl (by decide) rfl (fun ls hl => ?_)
    refine lv_aload_n hx hb dX7_arguments_20 rfl (lv_at hl 3 rfl) ?_
    refine lv_bipush (v := iv 40) hx hb dX7_arguments_21 rfl ?_
    have hn_3 : -1 ≤ μ.1 26 10 ∧ μ.1 26 10 ≤ 3000 := hI.nm.2.2.2.2.2.2.2.2.2.2.2.2
    refine xc_vV G (b := 23) (rest := []) (As := [.int (iv 40)]) (c_X7_needOpen_b ω l μ 40 (by unfold ir; omega) hI hTK (by omega) (by omega)) (wm 3 197 rfl rfl) (wm 3 199 rfl rfl) (wm 0 14 rfl rfl) rfl rfl (by decide) rfl (wm 1 12 rfl rfl) (wm 3 200 rfl rfl) (by decide) hR ⟨nfr hF (by decide), nlo hLo (by decide)⟩ (n := 1) rfl rfl (Nat.le_of_ble_eq_true rfl) hl.1 dX7_arguments_23 (fun μ4 ρ d0 H locs hp G => ?_)
    obtain ⟨F_5, hI_6, hp_7, hp_8, hp_9, hp_10, hs_11, hs_12, hs_13, hs_14, hs_15, hs_16, hs_17, hs_18, hs_19, hs_20, hs_21⟩ := hp
    have hn_22 : -1 ≤ μ4.1 26 10 ∧ μ4.1 26 10 ≤ 3000 := hI_6.nm.2.2.2.2.2.2.2.2.2.2.2.2
    have htb_23 := hp_7.b
    refine lv_aload_n hx hb dX7_arguments_26 rfl (lv_at hl 3 rfl) ?_
    refine xa_getr G fd_X7 (a := 23) (x := 26) 0 rfl (by decide) rfl (wm 2 17 rfl rfl) ⟨rfl, rfl, rfl⟩ dX7_arguments_27 rfl (G.sk 23 rfl) (by decide) rfl ?_
    refine xa_getN G fd_X10 (host := "FourTongues") (a := 26) 12 rfl (by decide) (by decide) ⟨rfl, rfl, rfl⟩ dX7_arguments_30 rfl (v := .int (iv (μ4.1 26 12))) (by rw [show μ4.1 26 12 = μ4.1 26 12 from rfl]; rfl) ?_
    have hr_24 : -2147483648 ≤ μ4.1 26 12 ∧ μ4.1 26 12 ≤ 2147483647 := by have h9 := G.hr (a := 26) (k := 12) rfl; exact h9
    refine lv_bipush (v := iv 41) hx hb dX7_arguments_33 rfl ?_
    refine xb_icmp_eq (tgt := 42) hx hb (by unfold ir; omega) (by unfold ir; omega) dX7_arguments_35 (by decide) (fun c_35 => ?_) (fun c_35 => ?_)
    · refine lv_iconst (v := iv 0) hx hb dX7_arguments_42 rfl ?_
      refine lv_istore (lv' := [(9, .int (iv 0)), (8, .int (iv 0)), (7, .int (iv x4)), (6, .int (iv 0)), (0, .ref (oP ω 23)), (1, .int (iv x1)), (2, .int (iv x2)), (3, .long (jv x3)), (5, .int (iv x4))]) hx hb dX7_arguments_43 hl (by decide) rfl (fun ls hl => ?_)
      refine lv_iconst (v := iv 0) hx hb dX7_arguments_45 rfl ?_
      refine lv_istore (lv' := [(10, .int (iv 0)), (9, .int (iv 0)), (8, .int (iv 0)), (7, .int (iv x4)), (6, .int (iv 0)), (0, .ref (oP ω 23)), (1, .int (iv x1)), (2, .int (iv x2)), (3, .long (jv x3)), (5, .int (iv x4))]) hx hb dX7_arguments_46 hl (by decide) rfl (fun ls hl => ?_)
      have e_25 : μ4.1 23 9 = μ.1 23 9 + 1 := hs_11
      have e_26 : μ4.1 23 9 = μ.1 23 9 + 1 := hs_11
      have e_27 : μ4.1 P 1 = μ.1 P 1 := (F_5.1 P (ni hprP (fun P => P) (fun P => [26, 23]) rfl) 1)
      have e_28 : μ4.1 P 1 = μ.1 P 1 := (F_5.1 P (ni hprP (fun P => P) (fun P => [26, 23]) rfl) 1)
      have e_29 : μ4.1 P 1 = μ.1 P 1 := (F_5.1 P (ni hprP (fun P => P) (fun P => [26, 23]) rfl) 1)
      have e_30 : μ4.1 (P + 2) 3 = μ.1 (P + 2) 3 := (F_5.1 (P + 2) (ni hprP (fun P => P + 2) (fun P => [26, 23]) rfl) 3)
      have e_31 : μ4.1 P 1 = μ.1 P 1 := (F_5.1 P (ni hprP (fun P => P) (fun P => [26, 23]) rfl) 1)
      have e_32 : μ4.1 (P + 2) 3 = μ.1 (P + 2) 3 := (F_5.1 (P + 2) (ni hprP (fun P => P + 2) (fun P => [26, 23]) rfl) 3)
      have hk_33 := hI.row (r := P + 2) (hprP.row)
      unfold rk at hk_33
      have hpx_34 : μ4.1 26 11 = 0 → PXE μo μ4 P tt ee x4 1 := fun h0 => (hpx (by have h9 : μ.1 26 11 = μ.1 26 11 := rfl; have h8 : μ4.1 26 11 = μ4.1 26 11 := rfl; omega)).fr (K := [26, 23]) (Fr.tr Fr.rf F_5 (by decide)) (npL_p (L := [26, 23]) (by decide) hprP).1 (npL_p (L := [26, 23]) (by decide) hprP).2.1
      refine xl (fun n_9 μ' ls => ∃ (f9 : Int), ∃ (c9 : Int), ∃ (m9 : Int), ∃ (i9 : Int), (Fr [2, 3, 4, 23, 24, 26, P, P + 1, P + 2, (P + 2) + 1, (P + 2) + 2, (P + 2) + 3] μ4 μ') ∧ (-2147483648 ≤ f9 ∧ f9 ≤ 2147483647) ∧ (-2147483648 ≤ c9 ∧ c9 ≤ 2147483647) ∧ (-2147483648 ≤ m9 ∧ m9 ≤ 2147483647) ∧ (-2147483648 ≤ i9 ∧ i9 ≤ 2147483647) ∧ (0 ≤ c9 ∧ c9 ≤ i9) ∧ (μ'.1 23 9 = μ.1 23 9 + 1) ∧ (μ'.1 23 9 ≤ 8 + μ'.1 26 11) ∧ (i9 ≤ 3000) ∧ (0 ≤ m9 ∧ m9 ≤ 1) ∧ (TK μ') ∧ (μ.1 26 11 ≤ μ'.1 26 11) ∧ (μ.1 26 10 ≤ μ'.1 26 10) ∧ (μ.1 P 1 ≤ μ'.1 P 1 ∧ μ'.1 P 1 ≤ μ.1 P 1 + 2 * (μ'.1 26 10 - μ.1 26 10) + (- 2 + 3 * μ'.1 26 11)) ∧ (μ'.1 P 1 ≤ μ.1 P 1 + 2 * (μ'.1 26 10 - μ.1 26 10) + (1 - m9)) ∧ (μ'.1 (P + 2) 3 - μ.1 (P + 2) 3 ≤ μ'.1 P 1 - μ.1 P 1 ∧ μ.1 (P + 2) 3 ≤ μ'.1 (P + 2) 3) ∧ (μ'.1 26 11 = 0 → PXE μo μ' P tt (ee + c9) f9 1) ∧ (μ'.1 23 2 = P) ∧ (μ'.1 23 5 = μ.1 23 5) ∧ (μ'.1 23 6 = μ.1 23 6) ∧ (μ'.1 23 7 = μ.1 23 7) ∧ (μ'.1 23 8 = tt) ∧ (μ'.1 23 10 = μ.1 23 10) ∧ (μ'.1 26 6 = μ.1 26 6) ∧ (μ'.1 P 7 = μ.1 P 7) ∧ (IC μ') ∧ n_9 = Int.toNat (3000 - i9) ∧ lv_has ls 11 [(10, .int (iv i9)), (9, .int (iv m9)), (8, .int (iv c9)), (7, .int (iv f9)), (6, .int (iv 0)), (0, .ref (oP ω 23)), (1, .int (iv x1)), (2, .int (iv x2)), (3, .long (jv x3)), (5, .int (iv x4))]) (fun n_9 ρ μL35 d0 H locs ls hI_l G ih => ?_) _ _ _ _ _ _ _ ⟨x4, 0, 0, 0, Fr.rf, (by omega), (by omega), (by omega), (by omega), (by omega), (by omega), (by omega), (by omega), (by omega), hp_7, (by omega), (by omega), (by omega), (by omega), (by omega), (fun h0 => (hpx_34 h0).e (by omega)), (hs_16.trans hP.symm), hs_17, hs_18, hs_19, (hs_20.trans htt.symm), hs_21, hs_12, (F_5.1 P (ni hprP (fun P => P) (fun P => [26, 23]) rfl) 7), hI_6, rfl, lv_sub hl [0, 1, 2, 3, 4, 5, 6, 7, 8, 9] rfl⟩ G
      obtain ⟨f9, c9, m9, i9, FL36, hi_38, hi_39, hi_40, hi_41, hi_42, hi_43, hi_44, hi_45, hi_46, hi_47, hi_48, hi_49, hi_50, hi_51, hi_52, hi_53, hi_54, hi_55, hi_56, hi_57, hi_58, hi_59, hi_60, hi_61, hi_62, hn37, hl⟩ := hI_l
      have htb_63 := hi_47.b
      refine lv_iload hx hb dX7_arguments_48 (lv_at hl 0 rfl) ?_
      refine lv_sipush (v := iv 3000) hx hb dX7_arguments_50 rfl ?_
      refine xb_icmp_ge (tgt := 115) hx hb (by unfold ir; omega) (by unfold ir; omega) dX7_arguments_53 (by decide) (fun c_53 => ?_) (fun c_53 => ?_)
      · refine lv_aload_n hx hb dX7_arguments_115 rfl (lv_at hl 5 rfl) ?_
        refine lv_bipush (v := iv 41) hx hb dX7_arguments_116 rfl ?_
        have hn_64 : -1 ≤ μL35.1 26 10 ∧ μL35.1 26 10 ≤ 3000 := hi_62.nm.2.2.2.2.2.2.2.2.2.2.2.2
        refine xc_vV G (b := 23) (rest := []) (As := [.int (iv 41)]) (c_X7_needClosed_b ω l μL35 41 (by unfold ir; omega) hi_62 hi_47 (by omega) (by omega)) (wm 3 214 rfl rfl) (wm 3 216 rfl rfl) (wm 0 18 rfl rfl) rfl rfl (by decide) rfl (wm 1 12 rfl rfl) (wm 3 217 rfl rfl) (by decide) hR ⟨nfr hF (by decide), nlo hLo (by decide)⟩ (n := 1) rfl rfl (Nat.le_of_ble_eq_true rfl) hl.1 dX7_arguments_118 (fun μ65 ρ d0 H locs hp G => ?_)
        obtain ⟨F_66, hI_67, hp_68, hp_69, hp_70, hs_71, hs_72, hs_73, hs_74, hs_75, hs_76, hs_77, hs_78, hs_79, hs_80, hs_81⟩ := hp
        have hn_82 : -1 ≤ μ65.1 26 10 ∧ μ65.1 26 10 ≤ 3000 := hI_67.nm.2.2.2.2.2.2.2.2.2.2.2.2
        have htb_83 := hp_68.b
        refine lv_aload_n hx hb dX7_arguments_121 rfl (lv_at hl 5 rfl) ?_
        refine xa_getr G fd_X7 (a := 23) (x := P) 2 rfl (by decide) rfl (wm 2 19 rfl rfl) ⟨rfl, rfl, rfl⟩ dX7_arguments_122 rfl (hs_76.trans hi_54) (by omega) (hprP.hq ω ρ) ?_
        refine lv_iconst (v := iv 0) hx hb dX7_arguments_125 rfl ?_
        refine lv_lload_n hx hb dX7_arguments_126 rfl (lv_at hl 8 rfl) ?_
        refine lv_dconst0 hx hb dX7_arguments_127 ?_
        refine xb_topd (fun dd_84 he_dd_84 => ?_)
        have hpx_85 : μ65.1 26 11 = 0 → PXE μo μ65 P tt (ee + c9) f9 1 := fun h0 => (hi_53 (by have h9 : μL35.1 26 11 = μL35.1 26 11 := rfl; have h8 : μ65.1 26 11 = μ65.1 26 11 := rfl; omega)).fr (K := [26, 23]) (Fr.tr Fr.rf F_66 (by decide)) (npL_p (L := [26, 23]) (by decide) hprP).1 (npL_p (L := [26, 23]) (by decide) hprP).2.1
        have hk_86 := hi_62.row (r := P + 2) (hprP.row)
        unfold rk at hk_86
        have e_87 : μ65.1 (P + 2) 3 = μL35.1 (P + 2) 3 := (F_66.1 (P + 2) (ni hprP (fun P => P + 2) (fun P => [26, 23]) rfl) 3)
        refine xc_iV G (b := P) (rest := []) (As := [.int (iv 0), .long (jv x3), .double (dv dd_84)]) (c_X8_addConstant ω l μ65 P 0 x3 dd_84 (μL35.1 (P + 2) 3) hprP (by unfold ir; omega) hx3 hI_67 (by omega) (by omega)) (wm 4 67 rfl rfl) (wm 4 68 rfl rfl) (wm 4 69 rfl rfl) hprP.ly rfl (by decide) (hprP.hq ω ρ) (wm 1 9 rfl rfl) (wm 4 70 rfl rfl) (by decide) hR ⟨nfr hF (by decide), nlo hLo (by decide)⟩ (n := 3) rfl rfl (Nat.le_of_ble_eq_true rfl) hl.1 dX7_arguments_128 (fun r_89 μ88 ρ d0 H locs hr_r_89 hp G => ?_)
        have hr_r_89 : -2147483648 ≤ r_89 ∧ r_89 ≤ 2147483647 := hr_r_89
        obtain ⟨F_90, hI_91, hp_92, hp_93⟩ := hp
        have hk_94 := hI_91.row (r := P + 2) (hprP.row)
        unfold rk at hk_94
        refine lv_istore (lv' := [(10, .int (iv r_89)), (9, .int (iv m9)), (8, .int (iv c9)), (7, .int (iv f9)), (6, .int (iv 0)), (0, .ref (oP ω 23)), (1, .int (iv x1)), (2, .int (iv x2)), (3, .long (jv x3)), (5, .int (iv x4))]) hx hb dX7_arguments_131 hl (by decide) rfl (fun ls hl => ?_)
        refine lv_aload_n hx hb dX7_arguments_133 rfl (lv_at hl 5 rfl) ?_
        refine lv_iload_n hx hb dX7_arguments_134 rfl (lv_at hl 6 rfl) ?_
        refine lv_iload hx hb dX7_arguments_135 (lv_at hl 2 rfl) ?_
        refine lv_iconst (v := iv 4) hx hb dX7_arguments_137 rfl ?_
        refine xb_imul hx hb dX7_arguments_138 ?_
        refine lv_iload_n hx hb dX7_arguments_139 rfl (lv_at hl 7 rfl) ?_
        refine xb_iadd hx hb dX7_arguments_140 ?_
        refine lv_iload hx hb dX7_arguments_141 (lv_at hl 0 rfl) ?_
        refine lv_iload hx hb dX7_arguments_143 (lv_at hl 3 rfl) ?_
        have hpx_95 : μ88.1 26 11 = 0 → PXE μo μ88 P tt (ee + c9) f9 1 := fun h0 => (hpx_85 (by have h9 : μ65.1 26 11 = μ65.1 26 11 := rfl; have h8 : μ88.1 26 11 = μ65.1 26 11 := (F_90.1 26 (ni hprP (fun P => 26) (fun P => [P + 2, (P + 2) + 1, (P + 2) + 2, (P + 2) + 3]) rfl) 11); omega)).fr (K := [P + 2, (P + 2) + 1, (P + 2) + 2, (P + 2) + 3]) (Fr.tr Fr.rf F_90 (si hprP (fun P => [P + 2, (P + 2) + 1, (P + 2) + 2, (P + 2) + 3]) (fun P => [P + 2, (P + 2) + 1, (P + 2) + 2, (P + 2) + 3]) rfl)) (ni hprP (fun P => P) (fun P => [P + 2, (P + 2) + 1, (P + 2) + 2, (P + 2) + 3]) rfl) (ni hprP (fun P => P + 1) (fun P => [P + 2, (P + 2) + 1, (P + 2) + 2, (P + 2) + 3]) rfl)
        have e_96 : μ88.1 23 2 = P := ((F_90.1 23 (ni hprP (fun P => 23) (fun P => [P + 2, (P + 2) + 1, (P + 2) + 2, (P + 2) + 3]) rfl) 2).trans (hs_76.trans hi_54))
        have e_97 : μ88.1 23 8 = tt := ((F_90.1 23 (ni hprP (fun P => 23) (fun P => [P + 2, (P + 2) + 1, (P + 2) + 2, (P + 2) + 3]) rfl) 8).trans (hs_80.trans hi_58))
        have hk_98 := hi_62.pr (p := P) hprP
        unfold pk at hk_98
        have hc_99 : 16 ≤ μL35.2.1 (P + 1) ∧ μL35.2.1 (P + 1) ≤ 73024 := hi_62.rm.1 _ hprP.cap
        have e_100 : μ88.1 P 1 = μL35.1 P 1 := ((F_90.1 P (ni hprP (fun P => P) (fun P => [P + 2, (P + 2) + 1, (P + 2) + 2, (P + 2) + 3]) rfl) 1).trans (F_66.1 P (ni hprP (fun P => P) (fun P => [26, 23]) rfl) 1))
        have e_101 : μ88.1 P 1 = μL35.1 P 1 := ((F_90.1 P (ni hprP (fun P => P) (fun P => [P + 2, (P + 2) + 1, (P + 2) + 2, (P + 2) + 3]) rfl) 1).trans (F_66.1 P (ni hprP (fun P => P) (fun P => [26, 23]) rfl) 1))
        refine xc_vV G (b := 23) (rest := []) (As := [.int (iv x1), .int (iv ((c9 * 4) + x2)), .int (iv r_89), .int (iv f9)]) (c_X7_endOfParts ω l μ88 x1 ((c9 * 4) + x2) r_89 f9 μo (ee + c9) (1) P tt (by unfold ir; omega) (by unfold ir; omega) (by unfold ir; omega) (by unfold ir; omega) hI_91 (by omega) (by omega) (by omega) hpx_95 (Or.inr ⟨by omega, by omega, by omega⟩) (by omega) (by by_cases q1 : x1 = 13; (rw [q1, ef13 (by omega) hx2b]; omega); (rw [show x1 = 14 by omega, ef14 (by omega) hx2b]; omega))) (wm 4 27 rfl rfl) (wm 4 29 rfl rfl) (wm 0 30 rfl rfl) rfl rfl (by decide) rfl (wm 1 12 rfl rfl) (wm 4 30 rfl rfl) (by decide) hR ⟨nfr hF (by decide), nlo hLo (by decide)⟩ (n := 4) rfl rfl (Nat.le_of_ble_eq_true rfl) hl.1 dX7_arguments_145 (fun μ102 ρ d0 H locs hp G => ?_)
        obtain ⟨F_103, hI_104, hp_105, hs_106, hs_107⟩ := hp
        have hpx_108 : μ102.1 26 11 = 0 → PXE μo μ102 P tt 1 (-1) 1 := fun h0 => PXE.of (hp_105 (by have h9 : μ88.1 26 11 = μ65.1 26 11 := (F_90.1 26 (ni hprP (fun P => 26) (fun P => [P + 2, (P + 2) + 1, (P + 2) + 2, (P + 2) + 3]) rfl) 11); have h8 : μ102.1 26 11 = μ65.1 26 11 := ((F_103.1 26 (ni hprP (fun P => 26) (fun P => [P, P + 1]) rfl) 11).trans (F_90.1 26 (ni hprP (fun P => 26) (fun P => [P + 2, (P + 2) + 1, (P + 2) + 2, (P + 2) + 3]) rfl) 11)); omega))
        clear hp_105
        have htk_109 : TK μ102 := hp_68.fr (K := [P, P + 1, P + 2, (P + 2) + 1, (P + 2) + 2, (P + 2) + 3]) (Fr.tr (Fr.tr Fr.rf F_90 (si hprP (fun P => [P + 2, (P + 2) + 1, (P + 2) + 2, (P + 2) + 3]) (fun P => [P, P + 1, P + 2, (P + 2) + 1, (P + 2) + 2, (P + 2) + 3]) rfl)) F_103 (si hprP (fun P => [P, P + 1]) (fun P => [P, P + 1, P + 2, (P + 2) + 1, (P + 2) + 2, (P + 2) + 3]) rfl)) (ni hprP (fun P => 26) (fun P => [P, P + 1, P + 2, (P + 2) + 1, (P + 2) + 2, (P + 2) + 3]) rfl) (ni hprP (fun P => 28) (fun P => [P, P + 1, P + 2, (P + 2) + 1, (P + 2) + 2, (P + 2) + 3]) rfl)
        have e_110 : μ102.1 26 11 = μ65.1 26 11 := ((F_103.1 26 (ni hprP (fun P => 26) (fun P => [P, P + 1]) rfl) 11).trans (F_90.1 26 (ni hprP (fun P => 26) (fun P => [P + 2, (P + 2) + 1, (P + 2) + 2, (P + 2) + 3]) rfl) 11))
        have e_111 : μ102.1 26 11 = μ65.1 26 11 := ((F_103.1 26 (ni hprP (fun P => 26) (fun P => [P, P + 1]) rfl) 11).trans (F_90.1 26 (ni hprP (fun P => 26) (fun P => [P + 2, (P + 2) + 1, (P + 2) + 2, (P + 2) + 3]) rfl) 11))
        have e_112 : μ102.1 26 10 = μ65.1 26 10 := ((F_103.1 26 (ni hprP (fun P => 26) (fun P => [P, P + 1]) rfl) 10).trans (F_90.1 26 (ni hprP (fun P => 26) (fun P => [P + 2, (P + 2) + 1, (P + 2) + 2, (P + 2) + 3]) rfl) 10))
        have e_113 : μ102.1 P 1 = μ88.1 P 1 + 1 := hs_106
        have e_114 : μ102.1 P 1 = μ88.1 P 1 + 1 := hs_106
        have e_115 : μ102.1 26 10 = μ65.1 26 10 := ((F_103.1 26 (ni hprP (fun P => 26) (fun P => [P, P + 1]) rfl) 10).trans (F_90.1 26 (ni hprP (fun P => 26) (fun P => [P + 2, (P + 2) + 1, (P + 2) + 2, (P + 2) + 3]) rfl) 10))
        have e_116 : μ102.1 26 11 = μ65.1 26 11 := ((F_103.1 26 (ni hprP (fun P => 26) (fun P => [P, P + 1]) rfl) 11).trans (F_90.1 26 (ni hprP (fun P => 26) (fun P => [P + 2, (P + 2) + 1, (P + 2) + 2, (P + 2) + 3]) rfl) 11))
        have e_117 : μ102.1 (P + 2) 3 = μ88.1 (P + 2) 3 := (F_103.1 (P + 2) (ni hprP (fun P => P + 2) (fun P => [P, P + 1]) rfl) 3)
        have e_118 : μ102.1 P 1 = μ88.1 P 1 + 1 := hs_106
        have e_119 : μ102.1 (P + 2) 3 = μ88.1 (P + 2) 3 := (F_103.1 (P + 2) (ni hprP (fun P => P + 2) (fun P => [P, P + 1]) rfl) 3)
        have e_120 : μ102.1 23 9 = μL35.1 23 9 - 1 := ((F_103.1 23 (ni hprP (fun P => 23) (fun P => [P, P + 1]) rfl) 9).trans ((F_90.1 23 (ni hprP (fun P => 23) (fun P => [P + 2, (P + 2) + 1, (P + 2) + 2, (P + 2) + 3]) rfl) 9).trans hs_71))
        exact xr_v G hret hlk dX7_arguments_148 ⟨(Fr.tr (Fr.tr (Fr.tr (Fr.tr (Fr.tr Fr.rf F_5 (si hprP (fun P => [26, 23]) (fun P => [2, 3, 4, 23, 24, 26, P, P + 1, P + 2, (P + 2) + 1, (P + 2) + 2, (P + 2) + 3]) rfl)) FL36 (si hprP (fun P => [2, 3, 4, 23, 24, 26, P, P + 1, P + 2, (P + 2) + 1, (P + 2) + 2, (P + 2) + 3]) (fun P => [2, 3, 4, 23, 24, 26, P, P + 1, P + 2, (P + 2) + 1, (P + 2) + 2, (P + 2) + 3]) rfl)) F_66 (si hprP (fun P => [26, 23]) (fun P => [2, 3, 4, 23, 24, 26, P, P + 1, P + 2, (P + 2) + 1, (P + 2) + 2, (P + 2) + 3]) rfl)) F_90 (si hprP (fun P => [P + 2, (P + 2) + 1, (P + 2) + 2, (P + 2) + 3]) (fun P => [2, 3, 4, 23, 24, 26, P, P + 1, P + 2, (P + 2) + 1, (P + 2) + 2, (P + 2) + 3]) rfl)) F_103 (si hprP (fun P => [P, P + 1]) (fun P => [2, 3, 4, 23, 24, 26, P, P + 1, P + 2, (P + 2) + 1, (P + 2) + 2, (P + 2) + 3]) rfl)), hI_104, htk_109, (by omega), (by omega), (by omega), (by omega), (fun h0 => (PXE.ex (hpx_108 h0)).e (by omega)), (((F_103.1 23 (ni hprP (fun P => 23) (fun P => [P, P + 1]) rfl) 2).trans ((F_90.1 23 (ni hprP (fun P => 23) (fun P => [P + 2, (P + 2) + 1, (P + 2) + 2, (P + 2) + 3]) rfl) 2).trans (hs_76.trans hi_54)))).trans hP, ((F_103.1 23 (ni hprP (fun P => 23) (fun P => [P, P + 1]) rfl) 5).trans ((F_90.1 23 (ni hprP (fun P => 23) (fun P => [P + 2, (P + 2) + 1, (P + 2) + 2, (P + 2) + 3]) rfl) 5).trans (hs_77.trans hi_55))), ((F_103.1 23 (ni hprP (fun P => 23) (fun P => [P, P + 1]) rfl) 6).trans ((F_90.1 23 (ni hprP (fun P => 23) (fun P => [P + 2, (P + 2) + 1, (P + 2) + 2, (P + 2) + 3]) rfl) 6).trans (hs_78.trans hi_56))), ((F_103.1 23 (ni hprP (fun P => 23) (fun P => [P, P + 1]) rfl) 7).trans ((F_90.1 23 (ni hprP (fun P => 23) (fun P => [P + 2, (P + 2) + 1, (P + 2) + 2, (P + 2) + 3]) rfl) 7).trans (hs_79.trans hi_57))), (((F_103.1 23 (ni hprP (fun P => 23) (fun P => [P, P + 1]) rfl) 8).trans ((F_90.1 23 (ni hprP (fun P => 23) (fun P => [P + 2, (P + 2) + 1, (P + 2) + 2, (P + 2) + 3]) rfl) 8).trans (hs_80.trans hi_58)))).trans htt, (by omega), ((F_103.1 23 (ni hprP (fun P => 23) (fun P => [P, P + 1]) rfl) 10).trans ((F_90.1 23 (ni hprP (fun P => 23) (fun P => [P + 2, (P + 2) + 1, (P + 2) + 2, (P + 2) + 3]) rfl) 10).trans (hs_81.trans hi_59))), ((F_103.1 26 (ni hprP (fun P => 26) (fun P => [P, P + 1]) rfl) 6).trans ((F_90.1 26 (ni hprP (fun P => 26) (fun P => [P + 2, (P + 2) + 1, (P + 2) + 2, (P + 2) + 3]) rfl) 6).trans (hs_72.trans hi_60))), (hs_107.trans ((F_90.1 P (ni hprP (fun P => P) (fun P => [P + 2, (P + 2) + 1, (P + 2) + 2, (P + 2) + 3]) rfl) 7).trans ((F_66.1 P (ni hprP (fun P => P) (fun P => [26, 23]) rfl) 7).trans hi_61)))⟩
      · refine lv_iload hx hb dX7_arguments_56 (lv_at hl 1 rfl) ?_
        refine xb_if_eq (tgt := 115) hx hb (by unfold ir; omega) dX7_arguments_58 (by decide) (fun c_58 => ?_) (fun c_58 => ?_)
        · refine lv_aload_n hx hb dX7_arguments_115 rfl (lv_at hl 5 rfl) ?_
          refine lv_bipush (v := iv 41) hx hb dX7_arguments_116 rfl ?_
          have hn_121 : -1 ≤ μL35.1 26 10 ∧ μL35.1 26 10 ≤ 3000 := hi_62.nm.2.2.2.2.2.2.2.2.2.2.2.2
          refine xc_vV G (b := 23) (rest := []) (As := [.int (iv 41)]) (c_X7_needClosed_b ω l μL35 41 (by unfold ir; omega) hi_62 hi_47 (by omega) (by omega)) (wm 3 214 rfl rfl) (wm 3 216 rfl rfl) (wm 0 18 rfl rfl) rfl rfl (by decide) rfl (wm 1 12 rfl rfl) (wm 3 217 rfl rfl) (by decide) hR ⟨nfr hF (by decide), nlo hLo (by decide)⟩ (n := 1) rfl rfl (Nat.le_of_ble_eq_true rfl) hl.1 dX7_arguments_118 (fun μ122 ρ d0 H locs hp G => ?_)
          obtain ⟨F_123, hI_124, hp_125, hp_126, hp_127, hs_128, hs_129, hs_130, hs_131, hs_132, hs_133, hs_134, hs_135, hs_136, hs_137, hs_138⟩ := hp
          have hn_139 : -1 ≤ μ122.1 26 10 ∧ μ122.1 26 10 ≤ 3000 := hI_124.nm.2.2.2.2.2.2.2.2.2.2.2.2
          have htb_140 := hp_125.b
          refine lv_aload_n hx hb dX7_arguments_121 rfl (lv_at hl 5 rfl) ?_
          refine xa_getr G fd_X7 (a := 23) (x := P) 2 rfl (by decide) rfl (wm 2 19 rfl rfl) ⟨rfl, rfl, rfl⟩ dX7_arguments_122 rfl (hs_133.trans hi_54) (by omega) (hprP.hq ω ρ) ?_
          refine lv_iconst (v := iv 0) hx hb dX7_arguments_125 rfl ?_
          refine lv_lload_n hx hb dX7_arguments_126 rfl (lv_at hl 8 rfl) ?_
          refine lv_dconst0 hx hb dX7_arguments_127 ?_
          refine xb_topd (fun dd_141 he_dd_141 => ?_)
          have hpx_142 : μ122.1 26 11 = 0 → PXE μo μ122 P tt (ee + c9) f9 1 := fun h0 => (hi_53 (by have h9 : μL35.1 26 11 = μL35.1 26 11 := rfl; have h8 : μ122.1 26 11 = μ122.1 26 11 := rfl; omega)).fr (K := [26, 23]) (Fr.tr Fr.rf F_123 (by decide)) (npL_p (L := [26, 23]) (by decide) hprP).1 (npL_p (L := [26, 23]) (by decide) hprP).2.1
          have hk_143 := hi_62.row (r := P + 2) (hprP.row)
          unfold rk at hk_143
          have e_144 : μ122.1 (P + 2) 3 = μL35.1 (P + 2) 3 := (F_123.1 (P + 2) (ni hprP (fun P => P + 2) (fun P => [26, 23]) rfl) 3)
          refine xc_iV G (b := P) (rest := []) (As := [.int (iv 0), .long (jv x3), .double (dv dd_141)]) (c_X8_addConstant ω l μ122 P 0 x3 dd_141 (μL35.1 (P + 2) 3) hprP (by unfold ir; omega) hx3 hI_124 (by omega) (by omega)) (wm 4 67 rfl rfl) (wm 4 68 rfl rfl) (wm 4 69 rfl rfl) hprP.ly rfl (by decide) (hprP.hq ω ρ) (wm 1 9 rfl rfl) (wm 4 70 rfl rfl) (by decide) hR ⟨nfr hF (by decide), nlo hLo (by decide)⟩ (n := 3) rfl rfl (Nat.le_of_ble_eq_true rfl) hl.1 dX7_arguments_128 (fun r_146 μ145 ρ d0 H locs hr_r_146 hp G => ?_)
          have hr_r_146 : -2147483648 ≤ r_146 ∧ r_146 ≤ 2147483647 := hr_r_146
          obtain ⟨F_147, hI_148, hp_149, hp_150⟩ := hp
          have hk_151 := hI_148.row (r := P + 2) (hprP.row)
          unfold rk at hk_151
          refine lv_istore (lv' := [(10, .int (iv r_146)), (9, .int (iv m9)), (8, .int (iv c9)), (7, .int (iv f9)), (6, .int (iv 0)), (0, .ref (oP ω 23)), (1, .int (iv x1)), (2, .int (iv x2)), (3, .long (jv x3)), (5, .int (iv x4))]) hx hb dX7_arguments_131 hl (by decide) rfl (fun ls hl => ?_)
          refine lv_aload_n hx hb dX7_arguments_133 rfl (lv_at hl 5 rfl) ?_
          refine lv_iload_n hx hb dX7_arguments_134 rfl (lv_at hl 6 rfl) ?_
          refine lv_iload hx hb dX7_arguments_135 (lv_at hl 2 rfl) ?_
          refine lv_iconst (v := iv 4) hx hb dX7_arguments_137 rfl ?_
          refine xb_imul hx hb dX7_arguments_138 ?_
          refine lv_iload_n hx hb dX7_arguments_139 rfl (lv_at hl 7 rfl) ?_
          refine xb_iadd hx hb dX7_arguments_140 ?_
          refine lv_iload hx hb dX7_arguments_141 (lv_at hl 0 rfl) ?_
          refine lv_iload hx hb dX7_arguments_143 (lv_at hl 3 rfl) ?_
          have hpx_152 : μ145.1 26 11 = 0 → PXE μo μ145 P tt (ee + c9) f9 1 := fun h0 => (hpx_142 (by have h9 : μ122.1 26 11 = μ122.1 26 11 := rfl; have h8 : μ145.1 26 11 = μ122.1 26 11 := (F_147.1 26 (ni hprP (fun P => 26) (fun P => [P + 2, (P + 2) + 1, (P + 2) + 2, (P + 2) + 3]) rfl) 11); omega)).fr (K := [P + 2, (P + 2) + 1, (P + 2) + 2, (P + 2) + 3]) (Fr.tr Fr.rf F_147 (si hprP (fun P => [P + 2, (P + 2) + 1, (P + 2) + 2, (P + 2) + 3]) (fun P => [P + 2, (P + 2) + 1, (P + 2) + 2, (P + 2) + 3]) rfl)) (ni hprP (fun P => P) (fun P => [P + 2, (P + 2) + 1, (P + 2) + 2, (P + 2) + 3]) rfl) (ni hprP (fun P => P + 1) (fun P => [P + 2, (P + 2) + 1, (P + 2) + 2, (P + 2) + 3]) rfl)
          have e_153 : μ145.1 23 2 = P := ((F_147.1 23 (ni hprP (fun P => 23) (fun P => [P + 2, (P + 2) + 1, (P + 2) + 2, (P + 2) + 3]) rfl) 2).trans (hs_133.trans hi_54))
          have e_154 : μ145.1 23 8 = tt := ((F_147.1 23 (ni hprP (fun P => 23) (fun P => [P + 2, (P + 2) + 1, (P + 2) + 2, (P + 2) + 3]) rfl) 8).trans (hs_137.trans hi_58))
          have hk_155 := hi_62.pr (p := P) hprP
          unfold pk at hk_155
          have hc_156 : 16 ≤ μL35.2.1 (P + 1) ∧ μL35.2.1 (P + 1) ≤ 73024 := hi_62.rm.1 _ hprP.cap
          have e_157 : μ145.1 P 1 = μL35.1 P 1 := ((F_147.1 P (ni hprP (fun P => P) (fun P => [P + 2, (P + 2) + 1, (P + 2) + 2, (P + 2) + 3]) rfl) 1).trans (F_123.1 P (ni hprP (fun P => P) (fun P => [26, 23]) rfl) 1))
          have e_158 : μ145.1 P 1 = μL35.1 P 1 := ((F_147.1 P (ni hprP (fun P => P) (fun P => [P + 2, (P + 2) + 1, (P + 2) + 2, (P + 2) + 3]) rfl) 1).trans (F_123.1 P (ni hprP (fun P => P) (fun P => [26, 23]) rfl) 1))
          refine xc_vV G (b := 23) (rest := []) (As := [.int (iv x1), .int (iv ((c9 * 4) + x2)), .int (iv r_146), .int (iv f9)]) (c_X7_endOfParts ω l μ145 x1 ((c9 * 4) + x2) r_146 f9 μo (ee + c9) (1) P tt (by unfold ir; omega) (by unfold ir; omega) (by unfold ir; omega) (by unfold ir; omega) hI_148 (by omega) (by omega) (by omega) hpx_152 (Or.inr ⟨by omega, by omega, by omega⟩) (by omega) (by by_cases q1 : x1 = 13; (rw [q1, ef13 (by omega) hx2b]; omega); (rw [show x1 = 14 by omega, ef14 (by omega) hx2b]; omega))) (wm 4 27 rfl rfl) (wm 4 29 rfl rfl) (wm 0 30 rfl rfl) rfl rfl (by decide) rfl (wm 1 12 rfl rfl) (wm 4 30 rfl rfl) (by decide) hR ⟨nfr hF (by decide), nlo hLo (by decide)⟩ (n := 4) rfl rfl (Nat.le_of_ble_eq_true rfl) hl.1 dX7_arguments_145 (fun μ159 ρ d0 H locs hp G => ?_)
          obtain ⟨F_160, hI_161, hp_162, hs_163, hs_164⟩ := hp
          have hpx_165 : μ159.1 26 11 = 0 → PXE μo μ159 P tt 1 (-1) 1 := fun h0 => PXE.of (hp_162 (by have h9 : μ145.1 26 11 = μ122.1 26 11 := (F_147.1 26 (ni hprP (fun P => 26) (fun P => [P + 2, (P + 2) + 1, (P + 2) + 2, (P + 2) + 3]) rfl) 11); have h8 : μ159.1 26 11 = μ122.1 26 11 := ((F_160.1 26 (ni hprP (fun P => 26) (fun P => [P, P + 1]) rfl) 11).trans (F_147.1 26 (ni hprP (fun P => 26) (fun P => [P + 2, (P + 2) + 1, (P + 2) + 2, (P + 2) + 3]) rfl) 11)); omega))
          clear hp_162
          have htk_166 : TK μ159 := hp_125.fr (K := [P, P + 1, P + 2, (P + 2) + 1, (P + 2) + 2, (P + 2) + 3]) (Fr.tr (Fr.tr Fr.rf F_147 (si hprP (fun P => [P + 2, (P + 2) + 1, (P + 2) + 2, (P + 2) + 3]) (fun P => [P, P + 1, P + 2, (P + 2) + 1, (P + 2) + 2, (P + 2) + 3]) rfl)) F_160 (si hprP (fun P => [P, P + 1]) (fun P => [P, P + 1, P + 2, (P + 2) + 1, (P + 2) + 2, (P + 2) + 3]) rfl)) (ni hprP (fun P => 26) (fun P => [P, P + 1, P + 2, (P + 2) + 1, (P + 2) + 2, (P + 2) + 3]) rfl) (ni hprP (fun P => 28) (fun P => [P, P + 1, P + 2, (P + 2) + 1, (P + 2) + 2, (P + 2) + 3]) rfl)
          have e_167 : μ159.1 26 11 = μ122.1 26 11 := ((F_160.1 26 (ni hprP (fun P => 26) (fun P => [P, P + 1]) rfl) 11).trans (F_147.1 26 (ni hprP (fun P => 26) (fun P => [P + 2, (P + 2) + 1, (P + 2) + 2, (P + 2) + 3]) rfl) 11))
          have e_168 : μ159.1 26 11 = μ122.1 26 11 := ((F_160.1 26 (ni hprP (fun P => 26) (fun P => [P, P + 1]) rfl) 11).trans (F_147.1 26 (ni hprP (fun P => 26) (fun P => [P + 2, (P + 2) + 1, (P + 2) + 2, (P + 2) + 3]) rfl) 11))
          have e_169 : μ159.1 26 10 = μ122.1 26 10 := ((F_160.1 26 (ni hprP (fun P => 26) (fun P => [P, P + 1]) rfl) 10).trans (F_147.1 26 (ni hprP (fun P => 26) (fun P => [P + 2, (P + 2) + 1, (P + 2) + 2, (P + 2) + 3]) rfl) 10))
          have e_170 : μ159.1 P 1 = μ145.1 P 1 + 1 := hs_163
          have e_171 : μ159.1 P 1 = μ145.1 P 1 + 1 := hs_163
          have e_172 : μ159.1 26 10 = μ122.1 26 10 := ((F_160.1 26 (ni hprP (fun P => 26) (fun P => [P, P + 1]) rfl) 10).trans (F_147.1 26 (ni hprP (fun P => 26) (fun P => [P + 2, (P + 2) + 1, (P + 2) + 2, (P + 2) + 3]) rfl) 10))
          have e_173 : μ159.1 26 11 = μ122.1 26 11 := ((F_160.1 26 (ni hprP (fun P => 26) (fun P => [P, P + 1]) rfl) 11).trans (F_147.1 26 (ni hprP (fun P => 26) (fun P => [P + 2, (P + 2) + 1, (P + 2) + 2, (P + 2) + 3]) rfl) 11))
          have e_174 : μ159.1 (P + 2) 3 = μ145.1 (P + 2) 3 := (F_160.1 (P + 2) (ni hprP (fun P => P + 2) (fun P => [P, P + 1]) rfl) 3)
          have e_175 : μ159.1 P 1 = μ145.1 P 1 + 1 := hs_163
          have e_176 : μ159.1 (P + 2) 3 = μ145.1 (P + 2) 3 := (F_160.1 (P + 2) (ni hprP (fun P => P + 2) (fun P => [P, P + 1]) rfl) 3)
          have e_177 : μ159.1 23 9 = μL35.1 23 9 - 1 := ((F_160.1 23 (ni hprP (fun P => 23) (fun P => [P, P + 1]) rfl) 9).trans ((F_147.1 23 (ni hprP (fun P => 23) (fun P => [P + 2, (P + 2) + 1, (P + 2) + 2, (P + 2) + 3]) rfl) 9).trans hs_128))
          exact xr_v G hret hlk dX7_arguments_148 ⟨(Fr.tr (Fr.tr (Fr.tr (Fr.tr (Fr.tr Fr.rf F_5 (si hprP (fun P => [26, 23]) (fun P => [2, 3, 4, 23, 24, 26, P, P + 1, P + 2, (P + 2) + 1, (P + 2) + 2, (P + 2) + 3]) rfl)) FL36 (si hprP (fun P => [2, 3, 4, 23, 24, 26, P, P + 1, P + 2, (P + 2) + 1, (P + 2) + 2, (P + 2) + 3]) (fun P => [2, 3, 4, 23, 24, 26, P, P + 1, P + 2, (P + 2) + 1, (P + 2) + 2, (P + 2) + 3]) rfl)) F_123 (si hprP (fun P => [26, 23]) (fun P => [2, 3, 4, 23, 24, 26, P, P + 1, P + 2, (P + 2) + 1, (P + 2) + 2, (P + 2) + 3]) rfl)) F_147 (si hprP (fun P => [P + 2, (P + 2) + 1, (P + 2) + 2, (P + 2) + 3]) (fun P => [2, 3, 4, 23, 24, 26, P, P + 1, P + 2, (P + 2) + 1, (P + 2) + 2, (P + 2) + 3]) rfl)) F_160 (si hprP (fun P => [P, P + 1]) (fun P => [2, 3, 4, 23, 24, 26, P, P + 1, P + 2, (P + 2) + 1, (P + 2) + 2, (P + 2) + 3]) rfl)), hI_161, htk_166, (by omega), (by omega), (by omega), (by omega), (fun h0 => (PXE.ex (hpx_165 h0)).e (by omega)), (((F_160.1 23 (ni hprP (fun P => 23) (fun P => [P, P + 1]) rfl) 2).trans ((F_147.1 23 (ni hprP (fun P => 23) (fun P => [P + 2, (P + 2) + 1, (P + 2) + 2, (P + 2) + 3]) rfl) 2).trans (hs_133.trans hi_54)))).trans hP, ((F_160.1 23 (ni hprP (fun P => 23) (fun P => [P, P + 1]) rfl) 5).trans ((F_147.1 23 (ni hprP (fun P => 23) (fun P => [P + 2, (P + 2) + 1, (P + 2) + 2, (P + 2) + 3]) rfl) 5).trans (hs_134.trans hi_55))), ((F_160.1 23 (ni hprP (fun P => 23) (fun P => [P, P + 1]) rfl) 6).trans ((F_147.1 23 (ni hprP (fun P => 23) (fun P => [P + 2, (P + 2) + 1, (P + 2) + 2, (P + 2) + 3]) rfl) 6).trans (hs_135.trans hi_56))), ((F_160.1 23 (ni hprP (fun P => 23) (fun P => [P, P + 1]) rfl) 7).trans ((F_147.1 23 (ni hprP (fun P => 23) (fun P => [P + 2, (P + 2) + 1, (P + 2) + 2, (P + 2) + 3]) rfl) 7).trans (hs_136.trans hi_57))), (((F_160.1 23 (ni hprP (fun P => 23) (fun P => [P, P + 1]) rfl) 8).trans ((F_147.1 23 (ni hprP (fun P => 23) (fun P => [P + 2, (P + 2) + 1, (P + 2) + 2, (P + 2) + 3]) rfl) 8).trans (hs_137.trans hi_58)))).trans htt, (by omega), ((F_160.1 23 (ni hprP (fun P => 23) (fun P => [P, P + 1]) rfl) 10).trans ((F_147.1 23 (ni hprP (fun P => 23) (fun P => [P + 2, (P + 2) + 1, (P + 2) + 2, (P + 2) + 3]) rfl) 10).trans (hs_138.trans hi_59))), ((F_160.1 26 (ni hprP (fun P => 26) (fun P => [P, P + 1]) rfl) 6).trans ((F_147.1 26 (ni hprP (fun P => 26) (fun P => [P + 2, (P + 2) + 1, (P + 2) + 2, (P + 2) + 3]) rfl) 6).trans (hs_129.trans hi_60))), (hs_164.trans ((F_147.1 P (ni hprP (fun P => P) (fun P => [P + 2, (P + 2) + 1, (P + 2) + 2, (P + 2) + 3]) rfl) 7).trans ((F_123.1 P (ni hprP (fun P => P) (fun P => [26, 23]) rfl) 7).trans hi_61)))⟩
        · refine lv_iload hx hb dX7_arguments_61 (lv_at hl 2 rfl) ?_
          refine lv_bipush (v := iv 8) hx hb dX7_arguments_63 rfl ?_
          refine xb_icmp_lt (tgt := 80) hx hb (by unfold ir; omega) (by unfold ir; omega) dX7_arguments_65 (by decide) (fun c_65 => ?_) (fun c_65 => ?_)
          · refine lv_aload_n hx hb dX7_arguments_80 rfl (lv_at hl 5 rfl) ?_
            refine lv_iconst (v := iv 0) hx hb dX7_arguments_81 rfl ?_
            have e_178 : μL35.1 23 2 = P := hi_54
            have e_179 : μL35.1 23 8 = tt := hi_58
            have hk_180 := hi_62.pr (p := P) hprP
            unfold pk at hk_180
            have hc_181 : 16 ≤ μL35.2.1 (P + 1) ∧ μL35.2.1 (P + 1) ≤ 73024 := hi_62.rm.1 _ hprP.cap
            have hn_182 : -1 ≤ μL35.1 26 10 ∧ μL35.1 26 10 ≤ 3000 := hi_62.nm.2.2.2.2.2.2.2.2.2.2.2.2
            have hk_183 := hi_62.row (r := P + 2) (hprP.row)
            unfold rk at hk_183
            refine xc_vV G (b := 23) (rest := []) (As := [.int (iv 0)]) (((fun (_ : Om) (_ : Launch) => hE)) ω l μL35 0 P tt (by omega) hi_62 (by omega) (by omega) hi_47 (by omega) (by omega) (by omega) (by omega) (by omega) (fun _ => Or.inl (by omega))) (wm 4 3 rfl rfl) (wm 4 5 rfl rfl) (wm 0 24 rfl rfl) rfl rfl (by decide) rfl (wm 1 12 rfl rfl) (wm 4 6 rfl rfl) (by decide) hR ⟨sfr (F := F) (a := 0) (by decide), slo (L := Lo) (m := 3) (a := 0) (by decide)⟩ (n := 1) rfl rfl (Nat.le_of_ble_eq_true rfl) hl.1 dX7_arguments_82 (fun μ184 ρ d0 H locs hp G => ?_)
            obtain ⟨F_185, hI_186, hp_187, hp_188, hp_189, hp_190, hp_191, hp_192, hs_193, hs_194, hs_195, hs_196, hs_197, hs_198, hs_199, hs_200, hs_201⟩ := hp
            have hn_202 : -1 ≤ μ184.1 26 10 ∧ μ184.1 26 10 ≤ 3000 := hI_186.nm.2.2.2.2.2.2.2.2.2.2.2.2
            have hk_203 := hI_186.pr (p := P) hprP
            unfold pk at hk_203
            have hc_204 : 16 ≤ μ184.2.1 (P + 1) ∧ μ184.2.1 (P + 1) ≤ 73024 := hI_186.rm.1 _ hprP.cap
            have hk_205 := hI_186.row (r := P + 2) (hprP.row)
            unfold rk at hk_205
            have htb_206 := hp_187.b
            have hpx_207 : μ184.1 26 11 = 0 → PXE μo μ184 P tt ((ee + c9) + (1 - 0)) f9 1 := fun h0 => (PXE.app (hi_53 (by have h9 : μL35.1 26 11 = μL35.1 26 11 := rfl; have h8 : μ184.1 26 11 = μ184.1 26 11 := rfl; omega)) (hp_192 h0)).e (by omega)
            refine lv_aload_n hx hb dX7_arguments_85 rfl (lv_at hl 5 rfl) ?_
            refine lv_iload hx hb dX7_arguments_86 (lv_at hl 3 rfl) ?_
            refine lv_iload hx hb dX7_arguments_88 (lv_at hl 4 rfl) ?_
            refine lv_iload hx hb dX7_arguments_90 (lv_at hl 2 rfl) ?_
            refine xb_iadd hx hb dX7_arguments_92 ?_
            have e_208 : μ184.1 23 2 = P := (hs_193.trans hi_54)
            have e_209 : μ184.1 23 8 = tt := (hs_197.trans hi_58)
            refine xc_iV G (b := 23) (rest := []) (As := [.int (iv f9), .int (iv (0 + c9))]) (c_X7_ifFails ω l μ184 f9 (0 + c9) μo ((ee + c9) + (1 - 0)) (1) P tt (by unfold ir; omega) (by unfold ir; omega) hI_186 (by omega) (by omega) (by omega) hpx_207 (by omega) (by omega)) (wm 4 23 rfl rfl) (wm 4 25 rfl rfl) (wm 0 29 rfl rfl) rfl rfl (by decide) rfl (wm 1 12 rfl rfl) (wm 4 26 rfl rfl) (by decide) hR ⟨nfr hF (by decide), nlo hLo (by decide)⟩ (n := 2) rfl rfl (Nat.le_of_ble_eq_true rfl) hl.1 dX7_arguments_93 (fun r_211 μ210 ρ d0 H locs hr_r_211 hp G => ?_)
            have hr_r_211 : -2147483648 ≤ r_211 ∧ r_211 ≤ 2147483647 := hr_r_211
            obtain ⟨F_212, hI_213, hp_214, hp_215, hs_216⟩ := hp
            have hk_217 := hI_213.pr (p := P) hprP
            unfold pk at hk_217
            have hc_218 : 16 ≤ μ210.2.1 (P + 1) ∧ μ210.2.1 (P + 1) ≤ 73024 := hI_213.rm.1 _ hprP.cap
            have hpx_219 : μ210.1 26 11 = 0 → PXE μo μ210 P tt ((ee + c9) + (1 - 0)) r_211 1 := fun h0 => hp_214 (by have h9 : μ184.1 26 11 = μ184.1 26 11 := rfl; have h8 : μ210.1 26 11 = μ184.1 26 11 := (F_212.1 26 (ni hprP (fun P => 26) (fun P => [P, P + 1]) rfl) 11); omega)
            clear hp_214
            refine lv_istore (lv' := [(7, .int (iv r_211)), (10, .int (iv i9)), (9, .int (iv m9)), (8, .int (iv c9)), (6, .int (iv 0)), (0, .ref (oP ω 23)), (1, .int (iv x1)), (2, .int (iv x2)), (3, .long (jv x3)), (5, .int (iv x4))]) hx hb dX7_arguments_96 hl (by decide) rfl (fun ls hl => ?_)
            refine lv_iinc (v := iv (c9 + 1)) (lv' := [(8, .int (iv (c9 + 1))), (7, .int (iv r_211)), (10, .int (iv i9)), (9, .int (iv m9)), (6, .int (iv 0)), (0, .ref (oP ω 23)), (1, .int (iv x1)), (2, .int (iv x2)), (3, .long (jv x3)), (5, .int (iv x4))]) hx hb dX7_arguments_98 hl (k := 3) rfl (by rw [show Int32.ofInt 1 = iv 1 from rfl, iv_add]) (by decide) rfl (fun ls hl => ?_)
            refine lv_aload_n hx hb dX7_arguments_101 rfl (lv_at hl 5 rfl) ?_
            refine lv_bipush (v := iv 44) hx hb dX7_arguments_102 rfl ?_
            have htk_220 : TK μ210 := hp_187.fr (K := [P, P + 1]) (Fr.tr Fr.rf F_212 (si hprP (fun P => [P, P + 1]) (fun P => [P, P + 1]) rfl)) (ni hprP (fun P => 26) (fun P => [P, P + 1]) rfl) (ni hprP (fun P => 28) (fun P => [P, P + 1]) rfl)
            have e_221 : μ210.1 26 10 = μ184.1 26 10 := (F_212.1 26 (ni hprP (fun P => 26) (fun P => [P, P + 1]) rfl) 10)
            have e_222 : μ210.1 26 11 = μ184.1 26 11 := (F_212.1 26 (ni hprP (fun P => 26) (fun P => [P, P + 1]) rfl) 11)
            refine xc_iV G (b := 23) (rest := []) (As := [.int (iv 44)]) (c_X7_took_b ω l μ210 44 (by unfold ir; omega) hI_213 htk_220 (by omega)) (wm 3 160 rfl rfl) (wm 3 162 rfl rfl) (wm 0 9 rfl rfl) rfl rfl (by decide) rfl (wm 1 12 rfl rfl) (wm 3 163 rfl rfl) (by decide) hR ⟨nfr hF (by decide), nlo hLo (by decide)⟩ (n := 1) rfl rfl (Nat.le_of_ble_eq_true rfl) hl.1 dX7_arguments_104 (fun r_224 μ223 ρ d0 H locs hr_r_224 hp G => ?_)
            have hr_r_224 : -2147483648 ≤ r_224 ∧ r_224 ≤ 2147483647 := hr_r_224
            obtain ⟨F_225, hI_226, hp_227, hp_228, hs_229, hs_230, hs_231, hs_232, hs_233⟩ := hp
            have hn_234 : -1 ≤ μ223.1 26 10 ∧ μ223.1 26 10 ≤ 3000 := hI_226.nm.2.2.2.2.2.2.2.2.2.2.2.2
            have htb_235 := hp_227.b
            refine lv_istore (lv' := [(9, .int (iv r_224)), (8, .int (iv (c9 + 1))), (7, .int (iv r_211)), (10, .int (iv i9)), (6, .int (iv 0)), (0, .ref (oP ω 23)), (1, .int (iv x1)), (2, .int (iv x2)), (3, .long (jv x3)), (5, .int (iv x4))]) hx hb dX7_arguments_107 hl (by decide) rfl (fun ls hl => ?_)
            refine lv_iinc (v := iv (i9 + 1)) (lv' := [(10, .int (iv (i9 + 1))), (9, .int (iv r_224)), (8, .int (iv (c9 + 1))), (7, .int (iv r_211)), (6, .int (iv 0)), (0, .ref (oP ω 23)), (1, .int (iv x1)), (2, .int (iv x2)), (3, .long (jv x3)), (5, .int (iv x4))]) hx hb dX7_arguments_109 hl (k := 3) rfl (by rw [show Int32.ofInt 1 = iv 1 from rfl, iv_add]) (by decide) rfl (fun ls hl => ?_)
            refine lv_goto (tgt := 48) hx hb dX7_arguments_112 (by decide) ?_
            have e_236 : μ223.1 23 9 = μL35.1 23 9 := ((F_225.1 23 (by decide) 9).trans ((F_212.1 23 (ni hprP (fun P => 23) (fun P => [P, P + 1]) rfl) 9).trans hs_198))
            have e_237 : μ223.1 23 9 = μL35.1 23 9 := ((F_225.1 23 (by decide) 9).trans ((F_212.1 23 (ni hprP (fun P => 23) (fun P => [P, P + 1]) rfl) 9).trans hs_198))
            have e_238 : μ223.1 26 11 = μ184.1 26 11 := (hs_229.trans (F_212.1 26 (ni hprP (fun P => 26) (fun P => [P, P + 1]) rfl) 11))
            have e_239 : μ223.1 26 11 = μ184.1 26 11 := (hs_229.trans (F_212.1 26 (ni hprP (fun P => 26) (fun P => [P, P + 1]) rfl) 11))
            have e_240 : μ223.1 P 1 = μ210.1 P 1 := (F_225.1 P (ni hprP (fun P => P) (fun P => [26]) rfl) 1)
            have e_241 : μ223.1 P 1 = μ210.1 P 1 := (F_225.1 P (ni hprP (fun P => P) (fun P => [26]) rfl) 1)
            have e_242 : μ223.1 26 11 = μ184.1 26 11 := (hs_229.trans (F_212.1 26 (ni hprP (fun P => 26) (fun P => [P, P + 1]) rfl) 11))
            have e_243 : μ223.1 P 1 = μ210.1 P 1 := (F_225.1 P (ni hprP (fun P => P) (fun P => [26]) rfl) 1)
            have e_244 : μ223.1 (P + 2) 3 = μ184.1 (P + 2) 3 := ((F_225.1 (P + 2) (ni hprP (fun P => P + 2) (fun P => [26]) rfl) 3).trans (F_212.1 (P + 2) (ni hprP (fun P => P + 2) (fun P => [P, P + 1]) rfl) 3))
            have e_245 : μ223.1 P 1 = μ210.1 P 1 := (F_225.1 P (ni hprP (fun P => P) (fun P => [26]) rfl) 1)
            have e_246 : μ223.1 (P + 2) 3 = μ184.1 (P + 2) 3 := ((F_225.1 (P + 2) (ni hprP (fun P => P + 2) (fun P => [26]) rfl) 3).trans (F_212.1 (P + 2) (ni hprP (fun P => P + 2) (fun P => [P, P + 1]) rfl) 3))
            have hpx_247 : μ223.1 26 11 = 0 → PXE μo μ223 P tt ((ee + c9) + (1 - 0)) r_211 1 := fun h0 => (hpx_219 (by have h9 : μ210.1 26 11 = μ184.1 26 11 := (F_212.1 26 (ni hprP (fun P => 26) (fun P => [P, P + 1]) rfl) 11); have h8 : μ223.1 26 11 = μ184.1 26 11 := (hs_229.trans (F_212.1 26 (ni hprP (fun P => 26) (fun P => [P, P + 1]) rfl) 11)); omega)).fr (K := [26]) (Fr.tr Fr.rf F_225 (by decide)) (npL_p (L := [26]) (by decide) hprP).1 (npL_p (L := [26]) (by decide) hprP).2.1
            exact ih _ _ _ _ _ _ _ (by omega) ⟨r_211, c9 + 1, r_224, i9 + 1, (Fr.tr (Fr.tr (Fr.tr FL36 F_185 (si hprP (fun P => [2, 3, 4, 23, 24, 26, P, P + 1, P + 2, (P + 2) + 1, (P + 2) + 2, (P + 2) + 3]) (fun P => [2, 3, 4, 23, 24, 26, P, P + 1, P + 2, (P + 2) + 1, (P + 2) + 2, (P + 2) + 3]) rfl)) F_212 (si hprP (fun P => [P, P + 1]) (fun P => [2, 3, 4, 23, 24, 26, P, P + 1, P + 2, (P + 2) + 1, (P + 2) + 2, (P + 2) + 3]) rfl)) F_225 (si hprP (fun P => [26]) (fun P => [2, 3, 4, 23, 24, 26, P, P + 1, P + 2, (P + 2) + 1, (P + 2) + 2, (P + 2) + 3]) rfl)), (by omega), (by omega), (by omega), (by omega), (by omega), (by omega), (by omega), (by omega), (by omega), hp_227, (by omega), (by omega), (by omega), (by omega), (by omega), (fun h0 => (hpx_247 h0).e (by omega)), ((F_225.1 23 (by decide) 2).trans ((F_212.1 23 (ni hprP (fun P => 23) (fun P => [P, P + 1]) rfl) 2).trans (hs_193.trans hi_54))), ((F_225.1 23 (by decide) 5).trans ((F_212.1 23 (ni hprP (fun P => 23) (fun P => [P, P + 1]) rfl) 5).trans (hs_194.trans hi_55))), ((F_225.1 23 (by decide) 6).trans ((F_212.1 23 (ni hprP (fun P => 23) (fun P => [P, P + 1]) rfl) 6).trans (hs_195.trans hi_56))), ((F_225.1 23 (by decide) 7).trans ((F_212.1 23 (ni hprP (fun P => 23) (fun P => [P, P + 1]) rfl) 7).trans (hs_196.trans hi_57))), ((F_225.1 23 (by decide) 8).trans ((F_212.1 23 (ni hprP (fun P => 23) (fun P => [P, P + 1]) rfl) 8).trans (hs_197.trans hi_58))), ((F_225.1 23 (by decide) 10).trans ((F_212.1 23 (ni hprP (fun P => 23) (fun P => [P, P + 1]) rfl) 10).trans (hs_199.trans hi_59))), (hs_230.trans ((F_212.1 26 (ni hprP (fun P => 26) (fun P => [P, P + 1]) rfl) 6).trans (hs_200.trans hi_60))), ((F_225.1 P (ni hprP (fun P => P) (fun P => [26]) rfl) 7).trans (hs_216.trans (hs_201.trans hi_61))), hI_226, rfl, lv_sub hl [0, 1, 2, 3, 4, 5, 6, 7, 8, 9] rfl⟩ G
          · refine lv_aload_n hx hb dX7_arguments_68 rfl (lv_at hl 5 rfl) ?_
            refine lv_iconst (v := iv 2) hx hb dX7_arguments_69 rfl ?_
            refine lv_aload_n hx hb dX7_arguments_70 rfl (lv_at hl 5 rfl) ?_
            refine xa_getr G fd_X7 (a := 23) (x := 26) 0 rfl (by decide) rfl (wm 2 17 rfl rfl) ⟨rfl, rfl, rfl⟩ dX7_arguments_71 rfl (G.sk 23 rfl) (by decide) rfl ?_
            refine xa_getN G fd_X10 (host := "FourTongues") (a := 26) 13 rfl (by decide) (by decide) ⟨rfl, rfl, rfl⟩ dX7_arguments_74 rfl (v := .int (iv (μL35.1 26 13))) (by rw [show μL35.1 26 13 = μL35.1 26 13 from rfl]; rfl) ?_
            have hr_248 : -2147483648 ≤ μL35.1 26 13 ∧ μL35.1 26 13 ≤ 2147483647 := by have h9 := G.hr (a := 26) (k := 13) rfl; exact h9
            refine xc_vV G (b := 23) (rest := []) (As := [.int (iv 2), .int (iv (μL35.1 26 13))]) (c_X7_tellFault ω l μL35 2 (μL35.1 26 13) (by unfold ir; omega) (by unfold ir; omega) hi_62 (by omega)) (wm 3 177 rfl rfl) (wm 3 179 rfl rfl) (wm 0 12 rfl rfl) rfl rfl (by decide) rfl (wm 1 12 rfl rfl) (wm 3 180 rfl rfl) (by decide) hR ⟨nfr hF (by decide), nlo hLo (by decide)⟩ (n := 2) rfl rfl (Nat.le_of_ble_eq_true rfl) hl.1 dX7_arguments_77 (fun μ249 ρ d0 H locs hp G => ?_)
            obtain ⟨F_250, hI_251⟩ := hp
            refine lv_aload_n hx hb dX7_arguments_80 rfl (lv_at hl 5 rfl) ?_
            refine lv_iconst (v := iv 0) hx hb dX7_arguments_81 rfl ?_
            have hpx_252 : μ249.1 26 11 = 0 → PXE μo μ249 P tt (ee + c9) f9 1 := fun h0 => (hi_53 (by have h9 : μL35.1 26 11 = μL35.1 26 11 := rfl; have h8 : μ249.1 26 11 = μL35.1 26 11 := (F_250.1 26 (by decide) 11); omega)).fr (K := [24]) (Fr.tr Fr.rf F_250 (by decide)) (npL_p (L := [24]) (by decide) hprP).1 (npL_p (L := [24]) (by decide) hprP).2.1
            have e_253 : μ249.1 23 2 = P := ((F_250.1 23 (by decide) 2).trans hi_54)
            have e_254 : μ249.1 23 8 = tt := ((F_250.1 23 (by decide) 8).trans hi_58)
            have htk_255 : TK μ249 := hi_47.fr (K := [24]) (Fr.tr Fr.rf F_250 (by decide)) (by decide) (by decide)
            have hk_256 := hi_62.pr (p := P) hprP
            unfold pk at hk_256
            have hc_257 : 16 ≤ μL35.2.1 (P + 1) ∧ μL35.2.1 (P + 1) ≤ 73024 := hi_62.rm.1 _ hprP.cap
            have e_258 : μ249.1 P 1 = μL35.1 P 1 := (F_250.1 P (ni hprP (fun P => P) (fun P => [24]) rfl) 1)
            have hn_259 : -1 ≤ μL35.1 26 10 ∧ μL35.1 26 10 ≤ 3000 := hi_62.nm.2.2.2.2.2.2.2.2.2.2.2.2
            have e_260 : μ249.1 26 10 = μL35.1 26 10 := (F_250.1 26 (by decide) 10)
            have e_261 : μ249.1 26 11 = μL35.1 26 11 := (F_250.1 26 (by decide) 11)
            have hk_262 := hi_62.row (r := P + 2) (hprP.row)
            unfold rk at hk_262
            have e_263 : μ249.1 (P + 2) 3 = μL35.1 (P + 2) 3 := (F_250.1 (P + 2) (ni hprP (fun P => P + 2) (fun P => [24]) rfl) 3)
            have e_264 : μ249.1 P 1 = μL35.1 P 1 := (F_250.1 P (ni hprP (fun P => P) (fun P => [24]) rfl) 1)
            have e_265 : μ249.1 23 9 = μL35.1 23 9 := (F_250.1 23 (by decide) 9)
            have e_266 : μ249.1 23 9 = μL35.1 23 9 := (F_250.1 23 (by decide) 9)
            have e_267 : μ249.1 26 11 = μL35.1 26 11 := (F_250.1 26 (by decide) 11)
            have e_268 : μ249.1 23 9 = μL35.1 23 9 := (F_250.1 23 (by decide) 9)
            have e_269 : μ249.1 26 11 = μL35.1 26 11 := (F_250.1 26 (by decide) 11)
            have e_270 : μ249.1 26 11 = μL35.1 26 11 := (F_250.1 26 (by decide) 11)
            have e_271 : μ249.1 26 10 = μL35.1 26 10 := (F_250.1 26 (by decide) 10)
            have e_272 : μ249.1 P 1 = μL35.1 P 1 := (F_250.1 P (ni hprP (fun P => P) (fun P => [24]) rfl) 1)
            have e_273 : μ249.1 P 1 = μL35.1 P 1 := (F_250.1 P (ni hprP (fun P => P) (fun P => [24]) rfl) 1)
            have e_274 : μ249.1 26 10 = μL35.1 26 10 := (F_250.1 26 (by decide) 10)
            have e_275 : μ249.1 26 11 = μL35.1 26 11 := (F_250.1 26 (by decide) 11)
            have e_276 : μ249.1 (P + 2) 3 = μL35.1 (P + 2) 3 := (F_250.1 (P + 2) (ni hprP (fun P => P + 2) (fun P => [24]) rfl) 3)
            have e_277 : μ249.1 P 1 = μL35.1 P 1 := (F_250.1 P (ni hprP (fun P => P) (fun P => [24]) rfl) 1)
            have e_278 : μ249.1 (P + 2) 3 = μL35.1 (P + 2) 3 := (F_250.1 (P + 2) (ni hprP (fun P => P + 2) (fun P => [24]) rfl) 3)
            refine xc_vV G (b := 23) (rest := []) (As := [.int (iv 0)]) (((fun (_ : Om) (_ : Launch) => hE)) ω l μ249 0 P tt (by omega) hI_251 (by omega) (by omega) htk_255 (by omega) (by omega) (by omega) (by omega) (by omega) (fun _ => Or.inl (by omega))) (wm 4 3 rfl rfl) (wm 4 5 rfl rfl) (wm 0 24 rfl rfl) rfl rfl (by decide) rfl (wm 1 12 rfl rfl) (wm 4 6 rfl rfl) (by decide) hR ⟨sfr (F := F) (a := 0) (by decide), slo (L := Lo) (m := 3) (a := 0) (by decide)⟩ (n := 1) rfl rfl (Nat.le_of_ble_eq_true rfl) hl.1 dX7_arguments_82 (fun μ279 ρ d0 H locs hp G => ?_)
            obtain ⟨F_280, hI_281, hp_282, hp_283, hp_284, hp_285, hp_286, hp_287, hs_288, hs_289, hs_290, hs_291, hs_292, hs_293, hs_294, hs_295, hs_296⟩ := hp
            have hn_297 : -1 ≤ μ279.1 26 10 ∧ μ279.1 26 10 ≤ 3000 := hI_281.nm.2.2.2.2.2.2.2.2.2.2.2.2
            have hk_298 := hI_281.pr (p := P) hprP
            unfold pk at hk_298
            have hc_299 : 16 ≤ μ279.2.1 (P + 1) ∧ μ279.2.1 (P + 1) ≤ 73024 := hI_281.rm.1 _ hprP.cap
            have hk_300 := hI_281.row (r := P + 2) (hprP.row)
            unfold rk at hk_300
            have htb_301 := hp_282.b
            have hpx_302 : μ279.1 26 11 = 0 → PXE μo μ279 P tt ((ee + c9) + (1 - 0)) f9 1 := fun h0 => (PXE.app (hpx_252 (by have h9 : μ249.1 26 11 = μL35.1 26 11 := (F_250.1 26 (by decide) 11); have h8 : μ279.1 26 11 = μ279.1 26 11 := rfl; omega)) (hp_287 h0)).e (by omega)
            refine lv_aload_n hx hb dX7_arguments_85 rfl (lv_at hl 5 rfl) ?_
            refine lv_iload hx hb dX7_arguments_86 (lv_at hl 3 rfl) ?_
            refine lv_iload hx hb dX7_arguments_88 (lv_at hl 4 rfl) ?_
            refine lv_iload hx hb dX7_arguments_90 (lv_at hl 2 rfl) ?_
            refine xb_iadd hx hb dX7_arguments_92 ?_
            have e_303 : μ279.1 23 2 = P := (hs_288.trans ((F_250.1 23 (by decide) 2).trans hi_54))
            have e_304 : μ279.1 23 8 = tt := (hs_292.trans ((F_250.1 23 (by decide) 8).trans hi_58))
            refine xc_iV G (b := 23) (rest := []) (As := [.int (iv f9), .int (iv (0 + c9))]) (c_X7_ifFails ω l μ279 f9 (0 + c9) μo ((ee + c9) + (1 - 0)) (1) P tt (by unfold ir; omega) (by unfold ir; omega) hI_281 (by omega) (by omega) (by omega) hpx_302 (by omega) (by omega)) (wm 4 23 rfl rfl) (wm 4 25 rfl rfl) (wm 0 29 rfl rfl) rfl rfl (by decide) rfl (wm 1 12 rfl rfl) (wm 4 26 rfl rfl) (by decide) hR ⟨nfr hF (by decide), nlo hLo (by decide)⟩ (n := 2) rfl rfl (Nat.le_of_ble_eq_true rfl) hl.1 dX7_arguments_93 (fun r_306 μ305 ρ d0 H locs hr_r_306 hp G => ?_)
            have hr_r_306 : -2147483648 ≤ r_306 ∧ r_306 ≤ 2147483647 := hr_r_306
            obtain ⟨F_307, hI_308, hp_309, hp_310, hs_311⟩ := hp
            have hk_312 := hI_308.pr (p := P) hprP
            unfold pk at hk_312
            have hc_313 : 16 ≤ μ305.2.1 (P + 1) ∧ μ305.2.1 (P + 1) ≤ 73024 := hI_308.rm.1 _ hprP.cap
            have hpx_314 : μ305.1 26 11 = 0 → PXE μo μ305 P tt ((ee + c9) + (1 - 0)) r_306 1 := fun h0 => hp_309 (by have h9 : μ279.1 26 11 = μ279.1 26 11 := rfl; have h8 : μ305.1 26 11 = μ279.1 26 11 := (F_307.1 26 (ni hprP (fun P => 26) (fun P => [P, P + 1]) rfl) 11); omega)
            clear hp_309
            refine lv_istore (lv' := [(7, .int (iv r_306)), (10, .int (iv i9)), (9, .int (iv m9)), (8, .int (iv c9)), (6, .int (iv 0)), (0, .ref (oP ω 23)), (1, .int (iv x1)), (2, .int (iv x2)), (3, .long (jv x3)), (5, .int (iv x4))]) hx hb dX7_arguments_96 hl (by decide) rfl (fun ls hl => ?_)
            refine lv_iinc (v := iv (c9 + 1)) (lv' := [(8, .int (iv (c9 + 1))), (7, .int (iv r_306)), (10, .int (iv i9)), (9, .int (iv m9)), (6, .int (iv 0)), (0, .ref (oP ω 23)), (1, .int (iv x1)), (2, .int (iv x2)), (3, .long (jv x3)), (5, .int (iv x4))]) hx hb dX7_arguments_98 hl (k := 3) rfl (by rw [show Int32.ofInt 1 = iv 1 from rfl, iv_add]) (by decide) rfl (fun ls hl => ?_)
            refine lv_aload_n hx hb dX7_arguments_101 rfl (lv_at hl 5 rfl) ?_
            refine lv_bipush (v := iv 44) hx hb dX7_arguments_102 rfl ?_
            have htk_315 : TK μ305 := hp_282.fr (K := [P, P + 1]) (Fr.tr Fr.rf F_307 (si hprP (fun P => [P, P + 1]) (fun P => [P, P + 1]) rfl)) (ni hprP (fun P => 26) (fun P => [P, P + 1]) rfl) (ni hprP (fun P => 28) (fun P => [P, P + 1]) rfl)
            have e_316 : μ305.1 26 10 = μ279.1 26 10 := (F_307.1 26 (ni hprP (fun P => 26) (fun P => [P, P + 1]) rfl) 10)
            have e_317 : μ305.1 26 11 = μ279.1 26 11 := (F_307.1 26 (ni hprP (fun P => 26) (fun P => [P, P + 1]) rfl) 11)
            refine xc_iV G (b := 23) (rest := []) (As := [.int (iv 44)]) (c_X7_took_b ω l μ305 44 (by unfold ir; omega) hI_308 htk_315 (by omega)) (wm 3 160 rfl rfl) (wm 3 162 rfl rfl) (wm 0 9 rfl rfl) rfl rfl (by decide) rfl (wm 1 12 rfl rfl) (wm 3 163 rfl rfl) (by decide) hR ⟨nfr hF (by decide), nlo hLo (by decide)⟩ (n := 1) rfl rfl (Nat.le_of_ble_eq_true rfl) hl.1 dX7_arguments_104 (fun r_319 μ318 ρ d0 H locs hr_r_319 hp G => ?_)
            have hr_r_319 : -2147483648 ≤ r_319 ∧ r_319 ≤ 2147483647 := hr_r_319
            obtain ⟨F_320, hI_321, hp_322, hp_323, hs_324, hs_325, hs_326, hs_327, hs_328⟩ := hp
            have hn_329 : -1 ≤ μ318.1 26 10 ∧ μ318.1 26 10 ≤ 3000 := hI_321.nm.2.2.2.2.2.2.2.2.2.2.2.2
            have htb_330 := hp_322.b
            refine lv_istore (lv' := [(9, .int (iv r_319)), (8, .int (iv (c9 + 1))), (7, .int (iv r_306)), (10, .int (iv i9)), (6, .int (iv 0)), (0, .ref (oP ω 23)), (1, .int (iv x1)), (2, .int (iv x2)), (3, .long (jv x3)), (5, .int (iv x4))]) hx hb dX7_arguments_107 hl (by decide) rfl (fun ls hl => ?_)
            refine lv_iinc (v := iv (i9 + 1)) (lv' := [(10, .int (iv (i9 + 1))), (9, .int (iv r_319)), (8, .int (iv (c9 + 1))), (7, .int (iv r_306)), (6, .int (iv 0)), (0, .ref (oP ω 23)), (1, .int (iv x1)), (2, .int (iv x2)), (3, .long (jv x3)), (5, .int (iv x4))]) hx hb dX7_arguments_109 hl (k := 3) rfl (by rw [show Int32.ofInt 1 = iv 1 from rfl, iv_add]) (by decide) rfl (fun ls hl => ?_)
            refine lv_goto (tgt := 48) hx hb dX7_arguments_112 (by decide) ?_
            have e_331 : μ318.1 23 9 = μL35.1 23 9 := ((F_320.1 23 (by decide) 9).trans ((F_307.1 23 (ni hprP (fun P => 23) (fun P => [P, P + 1]) rfl) 9).trans (hs_293.trans (F_250.1 23 (by decide) 9))))
            have e_332 : μ318.1 23 9 = μL35.1 23 9 := ((F_320.1 23 (by decide) 9).trans ((F_307.1 23 (ni hprP (fun P => 23) (fun P => [P, P + 1]) rfl) 9).trans (hs_293.trans (F_250.1 23 (by decide) 9))))
            have e_333 : μ318.1 26 11 = μ279.1 26 11 := (hs_324.trans (F_307.1 26 (ni hprP (fun P => 26) (fun P => [P, P + 1]) rfl) 11))
            have e_334 : μ318.1 26 11 = μ279.1 26 11 := (hs_324.trans (F_307.1 26 (ni hprP (fun P => 26) (fun P => [P, P + 1]) rfl) 11))
            have e_335 : μ318.1 P 1 = μ305.1 P 1 := (F_320.1 P (ni hprP (fun P => P) (fun P => [26]) rfl) 1)
            have e_336 : μ318.1 P 1 = μ305.1 P 1 := (F_320.1 P (ni hprP (fun P => P) (fun P => [26]) rfl) 1)
            have e_337 : μ318.1 26 11 = μ279.1 26 11 := (hs_324.trans (F_307.1 26 (ni hprP (fun P => 26) (fun P => [P, P + 1]) rfl) 11))
            have e_338 : μ318.1 P 1 = μ305.1 P 1 := (F_320.1 P (ni hprP (fun P => P) (fun P => [26]) rfl) 1)
            have e_339 : μ318.1 (P + 2) 3 = μ279.1 (P + 2) 3 := ((F_320.1 (P + 2) (ni hprP (fun P => P + 2) (fun P => [26]) rfl) 3).trans (F_307.1 (P + 2) (ni hprP (fun P => P + 2) (fun P => [P, P + 1]) rfl) 3))
            have e_340 : μ318.1 P 1 = μ305.1 P 1 := (F_320.1 P (ni hprP (fun P => P) (fun P => [26]) rfl) 1)
            have e_341 : μ318.1 (P + 2) 3 = μ279.1 (P + 2) 3 := ((F_320.1 (P + 2) (ni hprP (fun P => P + 2) (fun P => [26]) rfl) 3).trans (F_307.1 (P + 2) (ni hprP (fun P => P + 2) (fun P => [P, P + 1]) rfl) 3))
            have hpx_342 : μ318.1 26 11 = 0 → PXE μo μ318 P tt ((ee + c9) + (1 - 0)) r_306 1 := fun h0 => (hpx_314 (by have h9 : μ305.1 26 11 = μ279.1 26 11 := (F_307.1 26 (ni hprP (fun P => 26) (fun P => [P, P + 1]) rfl) 11); have h8 : μ318.1 26 11 = μ279.1 26 11 := (hs_324.trans (F_307.1 26 (ni hprP (fun P => 26) (fun P => [P, P + 1]) rfl) 11)); omega)).fr (K := [26]) (Fr.tr Fr.rf F_320 (by decide)) (npL_p (L := [26]) (by decide) hprP).1 (npL_p (L := [26]) (by decide) hprP).2.1
            exact ih _ _ _ _ _ _ _ (by omega) ⟨r_306, c9 + 1, r_319, i9 + 1, (Fr.tr (Fr.tr (Fr.tr (Fr.tr FL36 F_250 (si hprP (fun P => [24]) (fun P => [2, 3, 4, 23, 24, 26, P, P + 1, P + 2, (P + 2) + 1, (P + 2) + 2, (P + 2) + 3]) rfl)) F_280 (si hprP (fun P => [2, 3, 4, 23, 24, 26, P, P + 1, P + 2, (P + 2) + 1, (P + 2) + 2, (P + 2) + 3]) (fun P => [2, 3, 4, 23, 24, 26, P, P + 1, P + 2, (P + 2) + 1, (P + 2) + 2, (P + 2) + 3]) rfl)) F_307 (si hprP (fun P => [P, P + 1]) (fun P => [2, 3, 4, 23, 24, 26, P, P + 1, P + 2, (P + 2) + 1, (P + 2) + 2, (P + 2) + 3]) rfl)) F_320 (si hprP (fun P => [26]) (fun P => [2, 3, 4, 23, 24, 26, P, P + 1, P + 2, (P + 2) + 1, (P + 2) + 2, (P + 2) + 3]) rfl)), (by omega), (by omega), (by omega), (by omega), (by omega), (by omega), (by omega), (by omega), (by omega), hp_322, (by omega), (by omega), (by omega), (by omega), (by omega), (fun h0 => (hpx_342 h0).e (by omega)), ((F_320.1 23 (by decide) 2).trans ((F_307.1 23 (ni hprP (fun P => 23) (fun P => [P, P + 1]) rfl) 2).trans (hs_288.trans ((F_250.1 23 (by decide) 2).trans hi_54)))), ((F_320.1 23 (by decide) 5).trans ((F_307.1 23 (ni hprP (fun P => 23) (fun P => [P, P + 1]) rfl) 5).trans (hs_289.trans ((F_250.1 23 (by decide) 5).trans hi_55)))), ((F_320.1 23 (by decide) 6).trans ((F_307.1 23 (ni hprP (fun P => 23) (fun P => [P, P + 1]) rfl) 6).trans (hs_290.trans ((F_250.1 23 (by decide) 6).trans hi_56)))), ((F_320.1 23 (by decide) 7).trans ((F_307.1 23 (ni hprP (fun P => 23) (fun P => [P, P + 1]) rfl) 7).trans (hs_291.trans ((F_250.1 23 (by decide) 7).trans hi_57)))), ((F_320.1 23 (by decide) 8).trans ((F_307.1 23 (ni hprP (fun P => 23) (fun P => [P, P + 1]) rfl) 8).trans (hs_292.trans ((F_250.1 23 (by decide) 8).trans hi_58)))), ((F_320.1 23 (by decide) 10).trans ((F_307.1 23 (ni hprP (fun P => 23) (fun P => [P, P + 1]) rfl) 10).trans (hs_294.trans ((F_250.1 23 (by decide) 10).trans hi_59)))), (hs_325.trans ((F_307.1 26 (ni hprP (fun P => 26) (fun P => [P, P + 1]) rfl) 6).trans (hs_295.trans ((F_250.1 26 (by decide) 6).trans hi_60)))), ((F_320.1 P (ni hprP (fun P => P) (fun P => [26]) rfl) 7).trans (hs_311.trans (hs_296.trans ((F_250.1 P (ni hprP (fun P => P) (fun P => [24]) rfl) 7).trans hi_61)))), hI_321, rfl, lv_sub hl [0, 1, 2, 3, 4, 5, 6, 7, 8, 9] rfl⟩ G
    · refine lv_iconst (v := iv 1) hx hb dX7_arguments_38 rfl ?_
      refine lv_goto (tgt := 43) hx hb dX7_arguments_39 (by decide) ?_
      refine lv_istore (lv' := [(9, .int (iv 1)), (8, .int (iv 0)), (7, .int (iv x4)), (6, .int (iv 0)), (0, .ref (oP ω 23)), (1, .int (iv x1)), (2, .int (iv x2)), (3, .long (jv x3)), (5, .int (iv x4))]) hx hb dX7_arguments_43 hl (by decide) rfl (fun ls hl => ?_)
      refine lv_iconst (v := iv 0) hx hb dX7_arguments_45 rfl ?_
      refine lv_istore (lv' := [(10, .int (iv 0)), (9, .int (iv 1)), (8, .int (iv 0)), (7, .int (iv x4)), (6, .int (iv 0)), (0, .ref (oP ω 23)), (1, .int (iv x1)), (2, .int (iv x2)), (3, .long (jv x3)), (5, .int (iv x4))]) hx hb dX7_arguments_46 hl (by decide) rfl (fun ls hl => ?_)
      have e_343 : μ4.1 23 9 = μ.1 23 9 + 1 := hs_11
      have e_344 : μ4.1 23 9 = μ.1 23 9 + 1 := hs_11
      have e_345 : μ4.1 P 1 = μ.1 P 1 := (F_5.1 P (ni hprP (fun P => P) (fun P => [26, 23]) rfl) 1)
      have e_346 : μ4.1 P 1 = μ.1 P 1 := (F_5.1 P (ni hprP (fun P => P) (fun P => [26, 23]) rfl) 1)
      have e_347 : μ4.1 P 1 = μ.1 P 1 := (F_5.1 P (ni hprP (fun P => P) (fun P => [26, 23]) rfl) 1)
      have e_348 : μ4.1 (P + 2) 3 = μ.1 (P + 2) 3 := (F_5.1 (P + 2) (ni hprP (fun P => P + 2) (fun P => [26, 23]) rfl) 3)
      have e_349 : μ4.1 P 1 = μ.1 P 1 := (F_5.1 P (ni hprP (fun P => P) (fun P => [26, 23]) rfl) 1)
      have e_350 : μ4.1 (P + 2) 3 = μ.1 (P + 2) 3 := (F_5.1 (P + 2) (ni hprP (fun P => P + 2) (fun P => [26, 23]) rfl) 3)
      have hk_351 := hI.row (r := P + 2) (hprP.row)
      unfold rk at hk_351
      have hpx_352 : μ4.1 26 11 = 0 → PXE μo μ4 P tt ee x4 1 := fun h0 => (hpx (by have h9 : μ.1 26 11 = μ.1 26 11 := rfl; have h8 : μ4.1 26 11 = μ4.1 26 11 := rfl; omega)).fr (K := [26, 23]) (Fr.tr Fr.rf F_5 (by decide)) (npL_p (L := [26, 23]) (by decide) hprP).1 (npL_p (L := [26, 23]) (by decide) hprP).2.1
      refine xl (fun n_9 μ' ls => ∃ (f9 : Int), ∃ (c9 : Int), ∃ (m9 : Int), ∃ (i9 : Int), (Fr [2, 3, 4, 23, 24, 26, P, P + 1, P + 2, (P + 2) + 1, (P + 2) + 2, (P + 2) + 3] μ4 μ') ∧ (-2147483648 ≤ f9 ∧ f9 ≤ 2147483647) ∧ (-2147483648 ≤ c9 ∧ c9 ≤ 2147483647) ∧ (-2147483648 ≤ m9 ∧ m9 ≤ 2147483647) ∧ (-2147483648 ≤ i9 ∧ i9 ≤ 2147483647) ∧ (0 ≤ c9 ∧ c9 ≤ i9) ∧ (μ'.1 23 9 = μ.1 23 9 + 1) ∧ (μ'.1 23 9 ≤ 8 + μ'.1 26 11) ∧ (i9 ≤ 3000) ∧ (0 ≤ m9 ∧ m9 ≤ 1) ∧ (TK μ') ∧ (μ.1 26 11 ≤ μ'.1 26 11) ∧ (μ.1 26 10 ≤ μ'.1 26 10) ∧ (μ.1 P 1 ≤ μ'.1 P 1 ∧ μ'.1 P 1 ≤ μ.1 P 1 + 2 * (μ'.1 26 10 - μ.1 26 10) + (- 2 + 3 * μ'.1 26 11)) ∧ (μ'.1 P 1 ≤ μ.1 P 1 + 2 * (μ'.1 26 10 - μ.1 26 10) + (1 - m9)) ∧ (μ'.1 (P + 2) 3 - μ.1 (P + 2) 3 ≤ μ'.1 P 1 - μ.1 P 1 ∧ μ.1 (P + 2) 3 ≤ μ'.1 (P + 2) 3) ∧ (μ'.1 26 11 = 0 → PXE μo μ' P tt (ee + c9) f9 1) ∧ (μ'.1 23 2 = P) ∧ (μ'.1 23 5 = μ.1 23 5) ∧ (μ'.1 23 6 = μ.1 23 6) ∧ (μ'.1 23 7 = μ.1 23 7) ∧ (μ'.1 23 8 = tt) ∧ (μ'.1 23 10 = μ.1 23 10) ∧ (μ'.1 26 6 = μ.1 26 6) ∧ (μ'.1 P 7 = μ.1 P 7) ∧ (IC μ') ∧ n_9 = Int.toNat (3000 - i9) ∧ lv_has ls 11 [(10, .int (iv i9)), (9, .int (iv m9)), (8, .int (iv c9)), (7, .int (iv f9)), (6, .int (iv 0)), (0, .ref (oP ω 23)), (1, .int (iv x1)), (2, .int (iv x2)), (3, .long (jv x3)), (5, .int (iv x4))]) (fun n_9 ρ μL353 d0 H locs ls hI_l G ih => ?_) _ _ _ _ _ _ _ ⟨x4, 0, 1, 0, Fr.rf, (by omega), (by omega), (by omega), (by omega), (by omega), (by omega), (by omega), (by omega), (by omega), hp_7, (by omega), (by omega), (by omega), (by omega), (by omega), (fun h0 => (hpx_352 h0).e (by omega)), (hs_16.trans hP.symm), hs_17, hs_18, hs_19, (hs_20.trans htt.symm), hs_21, hs_12, (F_5.1 P (ni hprP (fun P => P) (fun P => [26, 23]) rfl) 7), hI_6, rfl, lv_sub hl [0, 1, 2, 3, 4, 5, 6, 7, 8, 9] rfl⟩ G
      obtain ⟨f9, c9, m9, i9, FL354, hi_356, hi_357, hi_358, hi_359, hi_360, hi_361, hi_362, hi_363, hi_364, hi_365, hi_366, hi_367, hi_368, hi_369, hi_370, hi_371, hi_372, hi_373, hi_374, hi_375, hi_376, hi_377, hi_378, hi_379, hi_380, hn355, hl⟩ := hI_l
      have htb_381 := hi_365.b
      refine lv_iload hx hb dX7_arguments_48 (lv_at hl 0 rfl) ?_
      refine lv_sipush (v := iv 3000) hx hb dX7_arguments_50 rfl ?_
      refine xb_icmp_ge (tgt := 115) hx hb (by unfold ir; omega) (by unfold ir; omega) dX7_arguments_53 (by decide) (fun c_53 => ?_) (fun c_53 => ?_)
      · refine lv_aload_n hx hb dX7_arguments_115 rfl (lv_at hl 5 rfl) ?_
        refine lv_bipush (v := iv 41) hx hb dX7_arguments_116 rfl ?_
        have hn_382 : -1 ≤ μL353.1 26 10 ∧ μL353.1 26 10 ≤ 3000 := hi_380.nm.2.2.2.2.2.2.2.2.2.2.2.2
        refine xc_vV G (b := 23) (rest := []) (As := [.int (iv 41)]) (c_X7_needClosed_b ω l μL353 41 (by unfold ir; omega) hi_380 hi_365 (by omega) (by omega)) (wm 3 214 rfl rfl) (wm 3 216 rfl rfl) (wm 0 18 rfl rfl) rfl rfl (by decide) rfl (wm 1 12 rfl rfl) (wm 3 217 rfl rfl) (by decide) hR ⟨nfr hF (by decide), nlo hLo (by decide)⟩ (n := 1) rfl rfl (Nat.le_of_ble_eq_true rfl) hl.1 dX7_arguments_118 (fun μ383 ρ d0 H locs hp G => ?_)
        obtain ⟨F_384, hI_385, hp_386, hp_387, hp_388, hs_389, hs_390, hs_391, hs_392, hs_393, hs_394, hs_395, hs_396, hs_397, hs_398, hs_399⟩ := hp
        have hn_400 : -1 ≤ μ383.1 26 10 ∧ μ383.1 26 10 ≤ 3000 := hI_385.nm.2.2.2.2.2.2.2.2.2.2.2.2
        have htb_401 := hp_386.b
        refine lv_aload_n hx hb dX7_arguments_121 rfl (lv_at hl 5 rfl) ?_
        refine xa_getr G fd_X7 (a := 23) (x := P) 2 rfl (by decide) rfl (wm 2 19 rfl rfl) ⟨rfl, rfl, rfl⟩ dX7_arguments_122 rfl (hs_394.trans hi_372) (by omega) (hprP.hq ω ρ) ?_
        refine lv_iconst (v := iv 0) hx hb dX7_arguments_125 rfl ?_
        refine lv_lload_n hx hb dX7_arguments_126 rfl (lv_at hl 8 rfl) ?_
        refine lv_dconst0 hx hb dX7_arguments_127 ?_
        refine xb_topd (fun dd_402 he_dd_402 => ?_)
        have hpx_403 : μ383.1 26 11 = 0 → PXE μo μ383 P tt (ee + c9) f9 1 := fun h0 => (hi_371 (by have h9 : μL353.1 26 11 = μL353.1 26 11 := rfl; have h8 : μ383.1 26 11 = μ383.1 26 11 := rfl; omega)).fr (K := [26, 23]) (Fr.tr Fr.rf F_384 (by decide)) (npL_p (L := [26, 23]) (by decide) hprP).1 (npL_p (L := [26, 23]) (by decide) hprP).2.1
        have hk_404 := hi_380.row (r := P + 2) (hprP.row)
        unfold rk at hk_404
        have e_405 : μ383.1 (P + 2) 3 = μL353.1 (P + 2) 3 := (F_384.1 (P + 2) (ni hprP (fun P => P + 2) (fun P => [26, 23]) rfl) 3)
        refine xc_iV G (b := P) (rest := []) (As := [.int (iv 0), .long (jv x3), .double (dv dd_402)]) (c_X8_addConstant ω l μ383 P 0 x3 dd_402 (μL353.1 (P + 2) 3) hprP (by unfold ir; omega) hx3 hI_385 (by omega) (by omega)) (wm 4 67 rfl rfl) (wm 4 68 rfl rfl) (wm 4 69 rfl rfl) hprP.ly rfl (by decide) (hprP.hq ω ρ) (wm 1 9 rfl rfl) (wm 4 70 rfl rfl) (by decide) hR ⟨nfr hF (by decide), nlo hLo (by decide)⟩ (n := 3) rfl rfl (Nat.le_of_ble_eq_true rfl) hl.1 dX7_arguments_128 (fun r_407 μ406 ρ d0 H locs hr_r_407 hp G => ?_)
        have hr_r_407 : -2147483648 ≤ r_407 ∧ r_407 ≤ 2147483647 := hr_r_407
        obtain ⟨F_408, hI_409, hp_410, hp_411⟩ := hp
        have hk_412 := hI_409.row (r := P + 2) (hprP.row)
        unfold rk at hk_412
        refine lv_istore (lv' := [(10, .int (iv r_407)), (9, .int (iv m9)), (8, .int (iv c9)), (7, .int (iv f9)), (6, .int (iv 0)), (0, .ref (oP ω 23)), (1, .int (iv x1)), (2, .int (iv x2)), (3, .long (jv x3)), (5, .int (iv x4))]) hx hb dX7_arguments_131 hl (by decide) rfl (fun ls hl => ?_)
        refine lv_aload_n hx hb dX7_arguments_133 rfl (lv_at hl 5 rfl) ?_
        refine lv_iload_n hx hb dX7_arguments_134 rfl (lv_at hl 6 rfl) ?_
        refine lv_iload hx hb dX7_arguments_135 (lv_at hl 2 rfl) ?_
        refine lv_iconst (v := iv 4) hx hb dX7_arguments_137 rfl ?_
        refine xb_imul hx hb dX7_arguments_138 ?_
        refine lv_iload_n hx hb dX7_arguments_139 rfl (lv_at hl 7 rfl) ?_
        refine xb_iadd hx hb dX7_arguments_140 ?_
        refine lv_iload hx hb dX7_arguments_141 (lv_at hl 0 rfl) ?_
        refine lv_iload hx hb dX7_arguments_143 (lv_at hl 3 rfl) ?_
        have hpx_413 : μ406.1 26 11 = 0 → PXE μo μ406 P tt (ee + c9) f9 1 := fun h0 => (hpx_403 (by have h9 : μ383.1 26 11 = μ383.1 26 11 := rfl; have h8 : μ406.1 26 11 = μ383.1 26 11 := (F_408.1 26 (ni hprP (fun P => 26) (fun P => [P + 2, (P + 2) + 1, (P + 2) + 2, (P + 2) + 3]) rfl) 11); omega)).fr (K := [P + 2, (P + 2) + 1, (P + 2) + 2, (P + 2) + 3]) (Fr.tr Fr.rf F_408 (si hprP (fun P => [P + 2, (P + 2) + 1, (P + 2) + 2, (P + 2) + 3]) (fun P => [P + 2, (P + 2) + 1, (P + 2) + 2, (P + 2) + 3]) rfl)) (ni hprP (fun P => P) (fun P => [P + 2, (P + 2) + 1, (P + 2) + 2, (P + 2) + 3]) rfl) (ni hprP (fun P => P + 1) (fun P => [P + 2, (P + 2) + 1, (P + 2) + 2, (P + 2) + 3]) rfl)
        have e_414 : μ406.1 23 2 = P := ((F_408.1 23 (ni hprP (fun P => 23) (fun P => [P + 2, (P + 2) + 1, (P + 2) + 2, (P + 2) + 3]) rfl) 2).trans (hs_394.trans hi_372))
        have e_415 : μ406.1 23 8 = tt := ((F_408.1 23 (ni hprP (fun P => 23) (fun P => [P + 2, (P + 2) + 1, (P + 2) + 2, (P + 2) + 3]) rfl) 8).trans (hs_398.trans hi_376))
        have hk_416 := hi_380.pr (p := P) hprP
        unfold pk at hk_416
        have hc_417 : 16 ≤ μL353.2.1 (P + 1) ∧ μL353.2.1 (P + 1) ≤ 73024 := hi_380.rm.1 _ hprP.cap
        have e_418 : μ406.1 P 1 = μL353.1 P 1 := ((F_408.1 P (ni hprP (fun P => P) (fun P => [P + 2, (P + 2) + 1, (P + 2) + 2, (P + 2) + 3]) rfl) 1).trans (F_384.1 P (ni hprP (fun P => P) (fun P => [26, 23]) rfl) 1))
        have e_419 : μ406.1 P 1 = μL353.1 P 1 := ((F_408.1 P (ni hprP (fun P => P) (fun P => [P + 2, (P + 2) + 1, (P + 2) + 2, (P + 2) + 3]) rfl) 1).trans (F_384.1 P (ni hprP (fun P => P) (fun P => [26, 23]) rfl) 1))
        refine xc_vV G (b := 23) (rest := []) (As := [.int (iv x1), .int (iv ((c9 * 4) + x2)), .int (iv r_407), .int (iv f9)]) (c_X7_endOfParts ω l μ406 x1 ((c9 * 4) + x2) r_407 f9 μo (ee + c9) (1) P tt (by unfold ir; omega) (by unfold ir; omega) (by unfold ir; omega) (by unfold ir; omega) hI_409 (by omega) (by omega) (by omega) hpx_413 (Or.inr ⟨by omega, by omega, by omega⟩) (by omega) (by by_cases q1 : x1 = 13; (rw [q1, ef13 (by omega) hx2b]; omega); (rw [show x1 = 14 by omega, ef14 (by omega) hx2b]; omega))) (wm 4 27 rfl rfl) (wm 4 29 rfl rfl) (wm 0 30 rfl rfl) rfl rfl (by decide) rfl (wm 1 12 rfl rfl) (wm 4 30 rfl rfl) (by decide) hR ⟨nfr hF (by decide), nlo hLo (by decide)⟩ (n := 4) rfl rfl (Nat.le_of_ble_eq_true rfl) hl.1 dX7_arguments_145 (fun μ420 ρ d0 H locs hp G => ?_)
        obtain ⟨F_421, hI_422, hp_423, hs_424, hs_425⟩ := hp
        have hpx_426 : μ420.1 26 11 = 0 → PXE μo μ420 P tt 1 (-1) 1 := fun h0 => PXE.of (hp_423 (by have h9 : μ406.1 26 11 = μ383.1 26 11 := (F_408.1 26 (ni hprP (fun P => 26) (fun P => [P + 2, (P + 2) + 1, (P + 2) + 2, (P + 2) + 3]) rfl) 11); have h8 : μ420.1 26 11 = μ383.1 26 11 := ((F_421.1 26 (ni hprP (fun P => 26) (fun P => [P, P + 1]) rfl) 11).trans (F_408.1 26 (ni hprP (fun P => 26) (fun P => [P + 2, (P + 2) + 1, (P + 2) + 2, (P + 2) + 3]) rfl) 11)); omega))
        clear hp_423
        have htk_427 : TK μ420 := hp_386.fr (K := [P, P + 1, P + 2, (P + 2) + 1, (P + 2) + 2, (P + 2) + 3]) (Fr.tr (Fr.tr Fr.rf F_408 (si hprP (fun P => [P + 2, (P + 2) + 1, (P + 2) + 2, (P + 2) + 3]) (fun P => [P, P + 1, P + 2, (P + 2) + 1, (P + 2) + 2, (P + 2) + 3]) rfl)) F_421 (si hprP (fun P => [P, P + 1]) (fun P => [P, P + 1, P + 2, (P + 2) + 1, (P + 2) + 2, (P + 2) + 3]) rfl)) (ni hprP (fun P => 26) (fun P => [P, P + 1, P + 2, (P + 2) + 1, (P + 2) + 2, (P + 2) + 3]) rfl) (ni hprP (fun P => 28) (fun P => [P, P + 1, P + 2, (P + 2) + 1, (P + 2) + 2, (P + 2) + 3]) rfl)
        have e_428 : μ420.1 26 11 = μ383.1 26 11 := ((F_421.1 26 (ni hprP (fun P => 26) (fun P => [P, P + 1]) rfl) 11).trans (F_408.1 26 (ni hprP (fun P => 26) (fun P => [P + 2, (P + 2) + 1, (P + 2) + 2, (P + 2) + 3]) rfl) 11))
        have e_429 : μ420.1 26 11 = μ383.1 26 11 := ((F_421.1 26 (ni hprP (fun P => 26) (fun P => [P, P + 1]) rfl) 11).trans (F_408.1 26 (ni hprP (fun P => 26) (fun P => [P + 2, (P + 2) + 1, (P + 2) + 2, (P + 2) + 3]) rfl) 11))
        have e_430 : μ420.1 26 10 = μ383.1 26 10 := ((F_421.1 26 (ni hprP (fun P => 26) (fun P => [P, P + 1]) rfl) 10).trans (F_408.1 26 (ni hprP (fun P => 26) (fun P => [P + 2, (P + 2) + 1, (P + 2) + 2, (P + 2) + 3]) rfl) 10))
        have e_431 : μ420.1 P 1 = μ406.1 P 1 + 1 := hs_424
        have e_432 : μ420.1 P 1 = μ406.1 P 1 + 1 := hs_424
        have e_433 : μ420.1 26 10 = μ383.1 26 10 := ((F_421.1 26 (ni hprP (fun P => 26) (fun P => [P, P + 1]) rfl) 10).trans (F_408.1 26 (ni hprP (fun P => 26) (fun P => [P + 2, (P + 2) + 1, (P + 2) + 2, (P + 2) + 3]) rfl) 10))
        have e_434 : μ420.1 26 11 = μ383.1 26 11 := ((F_421.1 26 (ni hprP (fun P => 26) (fun P => [P, P + 1]) rfl) 11).trans (F_408.1 26 (ni hprP (fun P => 26) (fun P => [P + 2, (P + 2) + 1, (P + 2) + 2, (P + 2) + 3]) rfl) 11))
        have e_435 : μ420.1 (P + 2) 3 = μ406.1 (P + 2) 3 := (F_421.1 (P + 2) (ni hprP (fun P => P + 2) (fun P => [P, P + 1]) rfl) 3)
        have e_436 : μ420.1 P 1 = μ406.1 P 1 + 1 := hs_424
        have e_437 : μ420.1 (P + 2) 3 = μ406.1 (P + 2) 3 := (F_421.1 (P + 2) (ni hprP (fun P => P + 2) (fun P => [P, P + 1]) rfl) 3)
        have e_438 : μ420.1 23 9 = μL353.1 23 9 - 1 := ((F_421.1 23 (ni hprP (fun P => 23) (fun P => [P, P + 1]) rfl) 9).trans ((F_408.1 23 (ni hprP (fun P => 23) (fun P => [P + 2, (P + 2) + 1, (P + 2) + 2, (P + 2) + 3]) rfl) 9).trans hs_389))
        exact xr_v G hret hlk dX7_arguments_148 ⟨(Fr.tr (Fr.tr (Fr.tr (Fr.tr (Fr.tr Fr.rf F_5 (si hprP (fun P => [26, 23]) (fun P => [2, 3, 4, 23, 24, 26, P, P + 1, P + 2, (P + 2) + 1, (P + 2) + 2, (P + 2) + 3]) rfl)) FL354 (si hprP (fun P => [2, 3, 4, 23, 24, 26, P, P + 1, P + 2, (P + 2) + 1, (P + 2) + 2, (P + 2) + 3]) (fun P => [2, 3, 4, 23, 24, 26, P, P + 1, P + 2, (P + 2) + 1, (P + 2) + 2, (P + 2) + 3]) rfl)) F_384 (si hprP (fun P => [26, 23]) (fun P => [2, 3, 4, 23, 24, 26, P, P + 1, P + 2, (P + 2) + 1, (P + 2) + 2, (P + 2) + 3]) rfl)) F_408 (si hprP (fun P => [P + 2, (P + 2) + 1, (P + 2) + 2, (P + 2) + 3]) (fun P => [2, 3, 4, 23, 24, 26, P, P + 1, P + 2, (P + 2) + 1, (P + 2) + 2, (P + 2) + 3]) rfl)) F_421 (si hprP (fun P => [P, P + 1]) (fun P => [2, 3, 4, 23, 24, 26, P, P + 1, P + 2, (P + 2) + 1, (P + 2) + 2, (P + 2) + 3]) rfl)), hI_422, htk_427, (by omega), (by omega), (by omega), (by omega), (fun h0 => (PXE.ex (hpx_426 h0)).e (by omega)), (((F_421.1 23 (ni hprP (fun P => 23) (fun P => [P, P + 1]) rfl) 2).trans ((F_408.1 23 (ni hprP (fun P => 23) (fun P => [P + 2, (P + 2) + 1, (P + 2) + 2, (P + 2) + 3]) rfl) 2).trans (hs_394.trans hi_372)))).trans hP, ((F_421.1 23 (ni hprP (fun P => 23) (fun P => [P, P + 1]) rfl) 5).trans ((F_408.1 23 (ni hprP (fun P => 23) (fun P => [P + 2, (P + 2) + 1, (P + 2) + 2, (P + 2) + 3]) rfl) 5).trans (hs_395.trans hi_373))), ((F_421.1 23 (ni hprP (fun P => 23) (fun P => [P, P + 1]) rfl) 6).trans ((F_408.1 23 (ni hprP (fun P => 23) (fun P => [P + 2, (P + 2) + 1, (P + 2) + 2, (P + 2) + 3]) rfl) 6).trans (hs_396.trans hi_374))), ((F_421.1 23 (ni hprP (fun P => 23) (fun P => [P, P + 1]) rfl) 7).trans ((F_408.1 23 (ni hprP (fun P => 23) (fun P => [P + 2, (P + 2) + 1, (P + 2) + 2, (P + 2) + 3]) rfl) 7).trans (hs_397.trans hi_375))), (((F_421.1 23 (ni hprP (fun P => 23) (fun P => [P, P + 1]) rfl) 8).trans ((F_408.1 23 (ni hprP (fun P => 23) (fun P => [P + 2, (P + 2) + 1, (P + 2) + 2, (P + 2) + 3]) rfl) 8).trans (hs_398.trans hi_376)))).trans htt, (by omega), ((F_421.1 23 (ni hprP (fun P => 23) (fun P => [P, P + 1]) rfl) 10).trans ((F_408.1 23 (ni hprP (fun P => 23) (fun P => [P + 2, (P + 2) + 1, (P + 2) + 2, (P + 2) + 3]) rfl) 10).trans (hs_399.trans hi_377))), ((F_421.1 26 (ni hprP (fun P => 26) (fun P => [P, P + 1]) rfl) 6).trans ((F_408.1 26 (ni hprP (fun P => 26) (fun P => [P + 2, (P + 2) + 1, (P + 2) + 2, (P + 2) + 3]) rfl) 6).trans (hs_390.trans hi_378))), (hs_425.trans ((F_408.1 P (ni hprP (fun P => P) (fun P => [P + 2, (P + 2) + 1, (P + 2) + 2, (P + 2) + 3]) rfl) 7).trans ((F_384.1 P (ni hprP (fun P => P) (fun P => [26, 23]) rfl) 7).trans hi_379)))⟩
      · refine lv_iload hx hb dX7_arguments_56 (lv_at hl 1 rfl) ?_
        refine xb_if_eq (tgt := 115) hx hb (by unfold ir; omega) dX7_arguments_58 (by decide) (fun c_58 => ?_) (fun c_58 => ?_)
        · refine lv_aload_n hx hb dX7_arguments_115 rfl (lv_at hl 5 rfl) ?_
          refine lv_bipush (v := iv 41) hx hb dX7_arguments_116 rfl ?_
          have hn_439 : -1 ≤ μL353.1 26 10 ∧ μL353.1 26 10 ≤ 3000 := hi_380.nm.2.2.2.2.2.2.2.2.2.2.2.2
          refine xc_vV G (b := 23) (rest := []) (As := [.int (iv 41)]) (c_X7_needClosed_b ω l μL353 41 (by unfold ir; omega) hi_380 hi_365 (by omega) (by omega)) (wm 3 214 rfl rfl) (wm 3 216 rfl rfl) (wm 0 18 rfl rfl) rfl rfl (by decide) rfl (wm 1 12 rfl rfl) (wm 3 217 rfl rfl) (by decide) hR ⟨nfr hF (by decide), nlo hLo (by decide)⟩ (n := 1) rfl rfl (Nat.le_of_ble_eq_true rfl) hl.1 dX7_arguments_118 (fun μ440 ρ d0 H locs hp G => ?_)
          obtain ⟨F_441, hI_442, hp_443, hp_444, hp_445, hs_446, hs_447, hs_448, hs_449, hs_450, hs_451, hs_452, hs_453, hs_454, hs_455, hs_456⟩ := hp
          have hn_457 : -1 ≤ μ440.1 26 10 ∧ μ440.1 26 10 ≤ 3000 := hI_442.nm.2.2.2.2.2.2.2.2.2.2.2.2
          have htb_458 := hp_443.b
          refine lv_aload_n hx hb dX7_arguments_121 rfl (lv_at hl 5 rfl) ?_
          refine xa_getr G fd_X7 (a := 23) (x := P) 2 rfl (by decide) rfl (wm 2 19 rfl rfl) ⟨rfl, rfl, rfl⟩ dX7_arguments_122 rfl (hs_451.trans hi_372) (by omega) (hprP.hq ω ρ) ?_
          refine lv_iconst (v := iv 0) hx hb dX7_arguments_125 rfl ?_
          refine lv_lload_n hx hb dX7_arguments_126 rfl (lv_at hl 8 rfl) ?_
          refine lv_dconst0 hx hb dX7_arguments_127 ?_
          refine xb_topd (fun dd_459 he_dd_459 => ?_)
          have hpx_460 : μ440.1 26 11 = 0 → PXE μo μ440 P tt (ee + c9) f9 1 := fun h0 => (hi_371 (by have h9 : μL353.1 26 11 = μL353.1 26 11 := rfl; have h8 : μ440.1 26 11 = μ440.1 26 11 := rfl; omega)).fr (K := [26, 23]) (Fr.tr Fr.rf F_441 (by decide)) (npL_p (L := [26, 23]) (by decide) hprP).1 (npL_p (L := [26, 23]) (by decide) hprP).2.1
          have hk_461 := hi_380.row (r := P + 2) (hprP.row)
          unfold rk at hk_461
          have e_462 : μ440.1 (P + 2) 3 = μL353.1 (P + 2) 3 := (F_441.1 (P + 2) (ni hprP (fun P => P + 2) (fun P => [26, 23]) rfl) 3)
          refine xc_iV G (b := P) (rest := []) (As := [.int (iv 0), .long (jv x3), .double (dv dd_459)]) (c_X8_addConstant ω l μ440 P 0 x3 dd_459 (μL353.1 (P + 2) 3) hprP (by unfold ir; omega) hx3 hI_442 (by omega) (by omega)) (wm 4 67 rfl rfl) (wm 4 68 rfl rfl) (wm 4 69 rfl rfl) hprP.ly rfl (by decide) (hprP.hq ω ρ) (wm 1 9 rfl rfl) (wm 4 70 rfl rfl) (by decide) hR ⟨nfr hF (by decide), nlo hLo (by decide)⟩ (n := 3) rfl rfl (Nat.le_of_ble_eq_true rfl) hl.1 dX7_arguments_128 (fun r_464 μ463 ρ d0 H locs hr_r_464 hp G => ?_)
          have hr_r_464 : -2147483648 ≤ r_464 ∧ r_464 ≤ 2147483647 := hr_r_464
          obtain ⟨F_465, hI_466, hp_467, hp_468⟩ := hp
          have hk_469 := hI_466.row (r := P + 2) (hprP.row)
          unfold rk at hk_469
          refine lv_istore (lv' := [(10, .int (iv r_464)), (9, .int (iv m9)), (8, .int (iv c9)), (7, .int (iv f9)), (6, .int (iv 0)), (0, .ref (oP ω 23)), (1, .int (iv x1)), (2, .int (iv x2)), (3, .long (jv x3)), (5, .int (iv x4))]) hx hb dX7_arguments_131 hl (by decide) rfl (fun ls hl => ?_)
          refine lv_aload_n hx hb dX7_arguments_133 rfl (lv_at hl 5 rfl) ?_
          refine lv_iload_n hx hb dX7_arguments_134 rfl (lv_at hl 6 rfl) ?_
          refine lv_iload hx hb dX7_arguments_135 (lv_at hl 2 rfl) ?_
          refine lv_iconst (v := iv 4) hx hb dX7_arguments_137 rfl ?_
          refine xb_imul hx hb dX7_arguments_138 ?_
          refine lv_iload_n hx hb dX7_arguments_139 rfl (lv_at hl 7 rfl) ?_
          refine xb_iadd hx hb dX7_arguments_140 ?_
          refine lv_iload hx hb dX7_arguments_141 (lv_at hl 0 rfl) ?_
          refine lv_iload hx hb dX7_arguments_143 (lv_at hl 3 rfl) ?_
          have hpx_470 : μ463.1 26 11 = 0 → PXE μo μ463 P tt (ee + c9) f9 1 := fun h0 => (hpx_460 (by have h9 : μ440.1 26 11 = μ440.1 26 11 := rfl; have h8 : μ463.1 26 11 = μ440.1 26 11 := (F_465.1 26 (ni hprP (fun P => 26) (fun P => [P + 2, (P + 2) + 1, (P + 2) + 2, (P + 2) + 3]) rfl) 11); omega)).fr (K := [P + 2, (P + 2) + 1, (P + 2) + 2, (P + 2) + 3]) (Fr.tr Fr.rf F_465 (si hprP (fun P => [P + 2, (P + 2) + 1, (P + 2) + 2, (P + 2) + 3]) (fun P => [P + 2, (P + 2) + 1, (P + 2) + 2, (P + 2) + 3]) rfl)) (ni hprP (fun P => P) (fun P => [P + 2, (P + 2) + 1, (P + 2) + 2, (P + 2) + 3]) rfl) (ni hprP (fun P => P + 1) (fun P => [P + 2, (P + 2) + 1, (P + 2) + 2, (P + 2) + 3]) rfl)
          have e_471 : μ463.1 23 2 = P := ((F_465.1 23 (ni hprP (fun P => 23) (fun P => [P + 2, (P + 2) + 1, (P + 2) + 2, (P + 2) + 3]) rfl) 2).trans (hs_451.trans hi_372))
          have e_472 : μ463.1 23 8 = tt := ((F_465.1 23 (ni hprP (fun P => 23) (fun P => [P + 2, (P + 2) + 1, (P + 2) + 2, (P + 2) + 3]) rfl) 8).trans (hs_455.trans hi_376))
          have hk_473 := hi_380.pr (p := P) hprP
          unfold pk at hk_473
          have hc_474 : 16 ≤ μL353.2.1 (P + 1) ∧ μL353.2.1 (P + 1) ≤ 73024 := hi_380.rm.1 _ hprP.cap
          have e_475 : μ463.1 P 1 = μL353.1 P 1 := ((F_465.1 P (ni hprP (fun P => P) (fun P => [P + 2, (P + 2) + 1, (P + 2) + 2, (P + 2) + 3]) rfl) 1).trans (F_441.1 P (ni hprP (fun P => P) (fun P => [26, 23]) rfl) 1))
          have e_476 : μ463.1 P 1 = μL353.1 P 1 := ((F_465.1 P (ni hprP (fun P => P) (fun P => [P + 2, (P + 2) + 1, (P + 2) + 2, (P + 2) + 3]) rfl) 1).trans (F_441.1 P (ni hprP (fun P => P) (fun P => [26, 23]) rfl) 1))
          refine xc_vV G (b := 23) (rest := []) (As := [.int (iv x1), .int (iv ((c9 * 4) + x2)), .int (iv r_464), .int (iv f9)]) (c_X7_endOfParts ω l μ463 x1 ((c9 * 4) + x2) r_464 f9 μo (ee + c9) (1) P tt (by unfold ir; omega) (by unfold ir; omega) (by unfold ir; omega) (by unfold ir; omega) hI_466 (by omega) (by omega) (by omega) hpx_470 (Or.inr ⟨by omega, by omega, by omega⟩) (by omega) (by by_cases q1 : x1 = 13; (rw [q1, ef13 (by omega) hx2b]; omega); (rw [show x1 = 14 by omega, ef14 (by omega) hx2b]; omega))) (wm 4 27 rfl rfl) (wm 4 29 rfl rfl) (wm 0 30 rfl rfl) rfl rfl (by decide) rfl (wm 1 12 rfl rfl) (wm 4 30 rfl rfl) (by decide) hR ⟨nfr hF (by decide), nlo hLo (by decide)⟩ (n := 4) rfl rfl (Nat.le_of_ble_eq_true rfl) hl.1 dX7_arguments_145 (fun μ477 ρ d0 H locs hp G => ?_)
          obtain ⟨F_478, hI_479, hp_480, hs_481, hs_482⟩ := hp
          have hpx_483 : μ477.1 26 11 = 0 → PXE μo μ477 P tt 1 (-1) 1 := fun h0 => PXE.of (hp_480 (by have h9 : μ463.1 26 11 = μ440.1 26 11 := (F_465.1 26 (ni hprP (fun P => 26) (fun P => [P + 2, (P + 2) + 1, (P + 2) + 2, (P + 2) + 3]) rfl) 11); have h8 : μ477.1 26 11 = μ440.1 26 11 := ((F_478.1 26 (ni hprP (fun P => 26) (fun P => [P, P + 1]) rfl) 11).trans (F_465.1 26 (ni hprP (fun P => 26) (fun P => [P + 2, (P + 2) + 1, (P + 2) + 2, (P + 2) + 3]) rfl) 11)); omega))
          clear hp_480
          have htk_484 : TK μ477 := hp_443.fr (K := [P, P + 1, P + 2, (P + 2) + 1, (P + 2) + 2, (P + 2) + 3]) (Fr.tr (Fr.tr Fr.rf F_465 (si hprP (fun P => [P + 2, (P + 2) + 1, (P + 2) + 2, (P + 2) + 3]) (fun P => [P, P + 1, P + 2, (P + 2) + 1, (P + 2) + 2, (P + 2) + 3]) rfl)) F_478 (si hprP (fun P => [P, P + 1]) (fun P => [P, P + 1, P + 2, (P + 2) + 1, (P + 2) + 2, (P + 2) + 3]) rfl)) (ni hprP (fun P => 26) (fun P => [P, P + 1, P + 2, (P + 2) + 1, (P + 2) + 2, (P + 2) + 3]) rfl) (ni hprP (fun P => 28) (fun P => [P, P + 1, P + 2, (P + 2) + 1, (P + 2) + 2, (P + 2) + 3]) rfl)
          have e_485 : μ477.1 26 11 = μ440.1 26 11 := ((F_478.1 26 (ni hprP (fun P => 26) (fun P => [P, P + 1]) rfl) 11).trans (F_465.1 26 (ni hprP (fun P => 26) (fun P => [P + 2, (P + 2) + 1, (P + 2) + 2, (P + 2) + 3]) rfl) 11))
          have e_486 : μ477.1 26 11 = μ440.1 26 11 := ((F_478.1 26 (ni hprP (fun P => 26) (fun P => [P, P + 1]) rfl) 11).trans (F_465.1 26 (ni hprP (fun P => 26) (fun P => [P + 2, (P + 2) + 1, (P + 2) + 2, (P + 2) + 3]) rfl) 11))
          have e_487 : μ477.1 26 10 = μ440.1 26 10 := ((F_478.1 26 (ni hprP (fun P => 26) (fun P => [P, P + 1]) rfl) 10).trans (F_465.1 26 (ni hprP (fun P => 26) (fun P => [P + 2, (P + 2) + 1, (P + 2) + 2, (P + 2) + 3]) rfl) 10))
          have e_488 : μ477.1 P 1 = μ463.1 P 1 + 1 := hs_481
          have e_489 : μ477.1 P 1 = μ463.1 P 1 + 1 := hs_481
          have e_490 : μ477.1 26 10 = μ440.1 26 10 := ((F_478.1 26 (ni hprP (fun P => 26) (fun P => [P, P + 1]) rfl) 10).trans (F_465.1 26 (ni hprP (fun P => 26) (fun P => [P + 2, (P + 2) + 1, (P + 2) + 2, (P + 2) + 3]) rfl) 10))
          have e_491 : μ477.1 26 11 = μ440.1 26 11 := ((F_478.1 26 (ni hprP (fun P => 26) (fun P => [P, P + 1]) rfl) 11).trans (F_465.1 26 (ni hprP (fun P => 26) (fun P => [P + 2, (P + 2) + 1, (P + 2) + 2, (P + 2) + 3]) rfl) 11))
          have e_492 : μ477.1 (P + 2) 3 = μ463.1 (P + 2) 3 := (F_478.1 (P + 2) (ni hprP (fun P => P + 2) (fun P => [P, P + 1]) rfl) 3)
          have e_493 : μ477.1 P 1 = μ463.1 P 1 + 1 := hs_481
          have e_494 : μ477.1 (P + 2) 3 = μ463.1 (P + 2) 3 := (F_478.1 (P + 2) (ni hprP (fun P => P + 2) (fun P => [P, P + 1]) rfl) 3)
          have e_495 : μ477.1 23 9 = μL353.1 23 9 - 1 := ((F_478.1 23 (ni hprP (fun P => 23) (fun P => [P, P + 1]) rfl) 9).trans ((F_465.1 23 (ni hprP (fun P => 23) (fun P => [P + 2, (P + 2) + 1, (P + 2) + 2, (P + 2) + 3]) rfl) 9).trans hs_446))
          exact xr_v G hret hlk dX7_arguments_148 ⟨(Fr.tr (Fr.tr (Fr.tr (Fr.tr (Fr.tr Fr.rf F_5 (si hprP (fun P => [26, 23]) (fun P => [2, 3, 4, 23, 24, 26, P, P + 1, P + 2, (P + 2) + 1, (P + 2) + 2, (P + 2) + 3]) rfl)) FL354 (si hprP (fun P => [2, 3, 4, 23, 24, 26, P, P + 1, P + 2, (P + 2) + 1, (P + 2) + 2, (P + 2) + 3]) (fun P => [2, 3, 4, 23, 24, 26, P, P + 1, P + 2, (P + 2) + 1, (P + 2) + 2, (P + 2) + 3]) rfl)) F_441 (si hprP (fun P => [26, 23]) (fun P => [2, 3, 4, 23, 24, 26, P, P + 1, P + 2, (P + 2) + 1, (P + 2) + 2, (P + 2) + 3]) rfl)) F_465 (si hprP (fun P => [P + 2, (P + 2) + 1, (P + 2) + 2, (P + 2) + 3]) (fun P => [2, 3, 4, 23, 24, 26, P, P + 1, P + 2, (P + 2) + 1, (P + 2) + 2, (P + 2) + 3]) rfl)) F_478 (si hprP (fun P => [P, P + 1]) (fun P => [2, 3, 4, 23, 24, 26, P, P + 1, P + 2, (P + 2) + 1, (P + 2) + 2, (P + 2) + 3]) rfl)), hI_479, htk_484, (by omega), (by omega), (by omega), (by omega), (fun h0 => (PXE.ex (hpx_483 h0)).e (by omega)), (((F_478.1 23 (ni hprP (fun P => 23) (fun P => [P, P + 1]) rfl) 2).trans ((F_465.1 23 (ni hprP (fun P => 23) (fun P => [P + 2, (P + 2) + 1, (P + 2) + 2, (P + 2) + 3]) rfl) 2).trans (hs_451.trans hi_372)))).trans hP, ((F_478.1 23 (ni hprP (fun P => 23) (fun P => [P, P + 1]) rfl) 5).trans ((F_465.1 23 (ni hprP (fun P => 23) (fun P => [P + 2, (P + 2) + 1, (P + 2) + 2, (P + 2) + 3]) rfl) 5).trans (hs_452.trans hi_373))), ((F_478.1 23 (ni hprP (fun P => 23) (fun P => [P, P + 1]) rfl) 6).trans ((F_465.1 23 (ni hprP (fun P => 23) (fun P => [P + 2, (P + 2) + 1, (P + 2) + 2, (P + 2) + 3]) rfl) 6).trans (hs_453.trans hi_374))), ((F_478.1 23 (ni hprP (fun P => 23) (fun P => [P, P + 1]) rfl) 7).trans ((F_465.1 23 (ni hprP (fun P => 23) (fun P => [P + 2, (P + 2) + 1, (P + 2) + 2, (P + 2) + 3]) rfl) 7).trans (hs_454.trans hi_375))), (((F_478.1 23 (ni hprP (fun P => 23) (fun P => [P, P + 1]) rfl) 8).trans ((F_465.1 23 (ni hprP (fun P => 23) (fun P => [P + 2, (P + 2) + 1, (P + 2) + 2, (P + 2) + 3]) rfl) 8).trans (hs_455.trans hi_376)))).trans htt, (by omega), ((F_478.1 23 (ni hprP (fun P => 23) (fun P => [P, P + 1]) rfl) 10).trans ((F_465.1 23 (ni hprP (fun P => 23) (fun P => [P + 2, (P + 2) + 1, (P + 2) + 2, (P + 2) + 3]) rfl) 10).trans (hs_456.trans hi_377))), ((F_478.1 26 (ni hprP (fun P => 26) (fun P => [P, P + 1]) rfl) 6).trans ((F_465.1 26 (ni hprP (fun P => 26) (fun P => [P + 2, (P + 2) + 1, (P + 2) + 2, (P + 2) + 3]) rfl) 6).trans (hs_447.trans hi_378))), (hs_482.trans ((F_465.1 P (ni hprP (fun P => P) (fun P => [P + 2, (P + 2) + 1, (P + 2) + 2, (P + 2) + 3]) rfl) 7).trans ((F_441.1 P (ni hprP (fun P => P) (fun P => [26, 23]) rfl) 7).trans hi_379)))⟩
        · refine lv_iload hx hb dX7_arguments_61 (lv_at hl 2 rfl) ?_
          refine lv_bipush (v := iv 8) hx hb dX7_arguments_63 rfl ?_
          refine xb_icmp_lt (tgt := 80) hx hb (by unfold ir; omega) (by unfold ir; omega) dX7_arguments_65 (by decide) (fun c_65 => ?_) (fun c_65 => ?_)
          · refine lv_aload_n hx hb dX7_arguments_80 rfl (lv_at hl 5 rfl) ?_
            refine lv_iconst (v := iv 0) hx hb dX7_arguments_81 rfl ?_
            have e_496 : μL353.1 23 2 = P := hi_372
            have e_497 : μL353.1 23 8 = tt := hi_376
            have hk_498 := hi_380.pr (p := P) hprP
            unfold pk at hk_498
            have hc_499 : 16 ≤ μL353.2.1 (P + 1) ∧ μL353.2.1 (P + 1) ≤ 73024 := hi_380.rm.1 _ hprP.cap
            have hn_500 : -1 ≤ μL353.1 26 10 ∧ μL353.1 26 10 ≤ 3000 := hi_380.nm.2.2.2.2.2.2.2.2.2.2.2.2
            have hk_501 := hi_380.row (r := P + 2) (hprP.row)
            unfold rk at hk_501
            refine xc_vV G (b := 23) (rest := []) (As := [.int (iv 0)]) (((fun (_ : Om) (_ : Launch) => hE)) ω l μL353 0 P tt (by omega) hi_380 (by omega) (by omega) hi_365 (by omega) (by omega) (by omega) (by omega) (by omega) (fun _ => Or.inl (by omega))) (wm 4 3 rfl rfl) (wm 4 5 rfl rfl) (wm 0 24 rfl rfl) rfl rfl (by decide) rfl (wm 1 12 rfl rfl) (wm 4 6 rfl rfl) (by decide) hR ⟨sfr (F := F) (a := 0) (by decide), slo (L := Lo) (m := 3) (a := 0) (by decide)⟩ (n := 1) rfl rfl (Nat.le_of_ble_eq_true rfl) hl.1 dX7_arguments_82 (fun μ502 ρ d0 H locs hp G => ?_)
            obtain ⟨F_503, hI_504, hp_505, hp_506, hp_507, hp_508, hp_509, hp_510, hs_511, hs_512, hs_513, hs_514, hs_515, hs_516, hs_517, hs_518, hs_519⟩ := hp
            have hn_520 : -1 ≤ μ502.1 26 10 ∧ μ502.1 26 10 ≤ 3000 := hI_504.nm.2.2.2.2.2.2.2.2.2.2.2.2
            have hk_521 := hI_504.pr (p := P) hprP
            unfold pk at hk_521
            have hc_522 : 16 ≤ μ502.2.1 (P + 1) ∧ μ502.2.1 (P + 1) ≤ 73024 := hI_504.rm.1 _ hprP.cap
            have hk_523 := hI_504.row (r := P + 2) (hprP.row)
            unfold rk at hk_523
            have htb_524 := hp_505.b
            have hpx_525 : μ502.1 26 11 = 0 → PXE μo μ502 P tt ((ee + c9) + (1 - 0)) f9 1 := fun h0 => (PXE.app (hi_371 (by have h9 : μL353.1 26 11 = μL353.1 26 11 := rfl; have h8 : μ502.1 26 11 = μ502.1 26 11 := rfl; omega)) (hp_510 h0)).e (by omega)
            refine lv_aload_n hx hb dX7_arguments_85 rfl (lv_at hl 5 rfl) ?_
            refine lv_iload hx hb dX7_arguments_86 (lv_at hl 3 rfl) ?_
            refine lv_iload hx hb dX7_arguments_88 (lv_at hl 4 rfl) ?_
            refine lv_iload hx hb dX7_arguments_90 (lv_at hl 2 rfl) ?_
            refine xb_iadd hx hb dX7_arguments_92 ?_
            have e_526 : μ502.1 23 2 = P := (hs_511.trans hi_372)
            have e_527 : μ502.1 23 8 = tt := (hs_515.trans hi_376)
            refine xc_iV G (b := 23) (rest := []) (As := [.int (iv f9), .int (iv (0 + c9))]) (c_X7_ifFails ω l μ502 f9 (0 + c9) μo ((ee + c9) + (1 - 0)) (1) P tt (by unfold ir; omega) (by unfold ir; omega) hI_504 (by omega) (by omega) (by omega) hpx_525 (by omega) (by omega)) (wm 4 23 rfl rfl) (wm 4 25 rfl rfl) (wm 0 29 rfl rfl) rfl rfl (by decide) rfl (wm 1 12 rfl rfl) (wm 4 26 rfl rfl) (by decide) hR ⟨nfr hF (by decide), nlo hLo (by decide)⟩ (n := 2) rfl rfl (Nat.le_of_ble_eq_true rfl) hl.1 dX7_arguments_93 (fun r_529 μ528 ρ d0 H locs hr_r_529 hp G => ?_)
            have hr_r_529 : -2147483648 ≤ r_529 ∧ r_529 ≤ 2147483647 := hr_r_529
            obtain ⟨F_530, hI_531, hp_532, hp_533, hs_534⟩ := hp
            have hk_535 := hI_531.pr (p := P) hprP
            unfold pk at hk_535
            have hc_536 : 16 ≤ μ528.2.1 (P + 1) ∧ μ528.2.1 (P + 1) ≤ 73024 := hI_531.rm.1 _ hprP.cap
            have hpx_537 : μ528.1 26 11 = 0 → PXE μo μ528 P tt ((ee + c9) + (1 - 0)) r_529 1 := fun h0 => hp_532 (by have h9 : μ502.1 26 11 = μ502.1 26 11 := rfl; have h8 : μ528.1 26 11 = μ502.1 26 11 := (F_530.1 26 (ni hprP (fun P => 26) (fun P => [P, P + 1]) rfl) 11); omega)
            clear hp_532
            refine lv_istore (lv' := [(7, .int (iv r_529)), (10, .int (iv i9)), (9, .int (iv m9)), (8, .int (iv c9)), (6, .int (iv 0)), (0, .ref (oP ω 23)), (1, .int (iv x1)), (2, .int (iv x2)), (3, .long (jv x3)), (5, .int (iv x4))]) hx hb dX7_arguments_96 hl (by decide) rfl (fun ls hl => ?_)
            refine lv_iinc (v := iv (c9 + 1)) (lv' := [(8, .int (iv (c9 + 1))), (7, .int (iv r_529)), (10, .int (iv i9)), (9, .int (iv m9)), (6, .int (iv 0)), (0, .ref (oP ω 23)), (1, .int (iv x1)), (2, .int (iv x2)), (3, .long (jv x3)), (5, .int (iv x4))]) hx hb dX7_arguments_98 hl (k := 3) rfl (by rw [show Int32.ofInt 1 = iv 1 from rfl, iv_add]) (by decide) rfl (fun ls hl => ?_)
            refine lv_aload_n hx hb dX7_arguments_101 rfl (lv_at hl 5 rfl) ?_
            refine lv_bipush (v := iv 44) hx hb dX7_arguments_102 rfl ?_
            have htk_538 : TK μ528 := hp_505.fr (K := [P, P + 1]) (Fr.tr Fr.rf F_530 (si hprP (fun P => [P, P + 1]) (fun P => [P, P + 1]) rfl)) (ni hprP (fun P => 26) (fun P => [P, P + 1]) rfl) (ni hprP (fun P => 28) (fun P => [P, P + 1]) rfl)
            have e_539 : μ528.1 26 10 = μ502.1 26 10 := (F_530.1 26 (ni hprP (fun P => 26) (fun P => [P, P + 1]) rfl) 10)
            have e_540 : μ528.1 26 11 = μ502.1 26 11 := (F_530.1 26 (ni hprP (fun P => 26) (fun P => [P, P + 1]) rfl) 11)
            refine xc_iV G (b := 23) (rest := []) (As := [.int (iv 44)]) (c_X7_took_b ω l μ528 44 (by unfold ir; omega) hI_531 htk_538 (by omega)) (wm 3 160 rfl rfl) (wm 3 162 rfl rfl) (wm 0 9 rfl rfl) rfl rfl (by decide) rfl (wm 1 12 rfl rfl) (wm 3 163 rfl rfl) (by decide) hR ⟨nfr hF (by decide), nlo hLo (by decide)⟩ (n := 1) rfl rfl (Nat.le_of_ble_eq_true rfl) hl.1 dX7_arguments_104 (fun r_542 μ541 ρ d0 H locs hr_r_542 hp G => ?_)
            have hr_r_542 : -2147483648 ≤ r_542 ∧ r_542 ≤ 2147483647 := hr_r_542
            obtain ⟨F_543, hI_544, hp_545, hp_546, hs_547, hs_548, hs_549, hs_550, hs_551⟩ := hp
            have hn_552 : -1 ≤ μ541.1 26 10 ∧ μ541.1 26 10 ≤ 3000 := hI_544.nm.2.2.2.2.2.2.2.2.2.2.2.2
            have htb_553 := hp_545.b
            refine lv_istore (lv' := [(9, .int (iv r_542)), (8, .int (iv (c9 + 1))), (7, .int (iv r_529)), (10, .int (iv i9)), (6, .int (iv 0)), (0, .ref (oP ω 23)), (1, .int (iv x1)), (2, .int (iv x2)), (3, .long (jv x3)), (5, .int (iv x4))]) hx hb dX7_arguments_107 hl (by decide) rfl (fun ls hl => ?_)
            refine lv_iinc (v := iv (i9 + 1)) (lv' := [(10, .int (iv (i9 + 1))), (9, .int (iv r_542)), (8, .int (iv (c9 + 1))), (7, .int (iv r_529)), (6, .int (iv 0)), (0, .ref (oP ω 23)), (1, .int (iv x1)), (2, .int (iv x2)), (3, .long (jv x3)), (5, .int (iv x4))]) hx hb dX7_arguments_109 hl (k := 3) rfl (by rw [show Int32.ofInt 1 = iv 1 from rfl, iv_add]) (by decide) rfl (fun ls hl => ?_)
            refine lv_goto (tgt := 48) hx hb dX7_arguments_112 (by decide) ?_
            have e_554 : μ541.1 23 9 = μL353.1 23 9 := ((F_543.1 23 (by decide) 9).trans ((F_530.1 23 (ni hprP (fun P => 23) (fun P => [P, P + 1]) rfl) 9).trans hs_516))
            have e_555 : μ541.1 23 9 = μL353.1 23 9 := ((F_543.1 23 (by decide) 9).trans ((F_530.1 23 (ni hprP (fun P => 23) (fun P => [P, P + 1]) rfl) 9).trans hs_516))
            have e_556 : μ541.1 26 11 = μ502.1 26 11 := (hs_547.trans (F_530.1 26 (ni hprP (fun P => 26) (fun P => [P, P + 1]) rfl) 11))
            have e_557 : μ541.1 26 11 = μ502.1 26 11 := (hs_547.trans (F_530.1 26 (ni hprP (fun P => 26) (fun P => [P, P + 1]) rfl) 11))
            have e_558 : μ541.1 P 1 = μ528.1 P 1 := (F_543.1 P (ni hprP (fun P => P) (fun P => [26]) rfl) 1)
            have e_559 : μ541.1 P 1 = μ528.1 P 1 := (F_543.1 P (ni hprP (fun P => P) (fun P => [26]) rfl) 1)
            have e_560 : μ541.1 26 11 = μ502.1 26 11 := (hs_547.trans (F_530.1 26 (ni hprP (fun P => 26) (fun P => [P, P + 1]) rfl) 11))
            have e_561 : μ541.1 P 1 = μ528.1 P 1 := (F_543.1 P (ni hprP (fun P => P) (fun P => [26]) rfl) 1)
            have e_562 : μ541.1 (P + 2) 3 = μ502.1 (P + 2) 3 := ((F_543.1 (P + 2) (ni hprP (fun P => P + 2) (fun P => [26]) rfl) 3).trans (F_530.1 (P + 2) (ni hprP (fun P => P + 2) (fun P => [P, P + 1]) rfl) 3))
            have e_563 : μ541.1 P 1 = μ528.1 P 1 := (F_543.1 P (ni hprP (fun P => P) (fun P => [26]) rfl) 1)
            have e_564 : μ541.1 (P + 2) 3 = μ502.1 (P + 2) 3 := ((F_543.1 (P + 2) (ni hprP (fun P => P + 2) (fun P => [26]) rfl) 3).trans (F_530.1 (P + 2) (ni hprP (fun P => P + 2) (fun P => [P, P + 1]) rfl) 3))
            have hpx_565 : μ541.1 26 11 = 0 → PXE μo μ541 P tt ((ee + c9) + (1 - 0)) r_529 1 := fun h0 => (hpx_537 (by have h9 : μ528.1 26 11 = μ502.1 26 11 := (F_530.1 26 (ni hprP (fun P => 26) (fun P => [P, P + 1]) rfl) 11); have h8 : μ541.1 26 11 = μ502.1 26 11 := (hs_547.trans (F_530.1 26 (ni hprP (fun P => 26) (fun P => [P, P + 1]) rfl) 11)); omega)).fr (K := [26]) (Fr.tr Fr.rf F_543 (by decide)) (npL_p (L := [26]) (by decide) hprP).1 (npL_p (L := [26]) (by decide) hprP).2.1
            exact ih _ _ _ _ _ _ _ (by omega) ⟨r_529, c9 + 1, r_542, i9 + 1, (Fr.tr (Fr.tr (Fr.tr FL354 F_503 (si hprP (fun P => [2, 3, 4, 23, 24, 26, P, P + 1, P + 2, (P + 2) + 1, (P + 2) + 2, (P + 2) + 3]) (fun P => [2, 3, 4, 23, 24, 26, P, P + 1, P + 2, (P + 2) + 1, (P + 2) + 2, (P + 2) + 3]) rfl)) F_530 (si hprP (fun P => [P, P + 1]) (fun P => [2, 3, 4, 23, 24, 26, P, P + 1, P + 2, (P + 2) + 1, (P + 2) + 2, (P + 2) + 3]) rfl)) F_543 (si hprP (fun P => [26]) (fun P => [2, 3, 4, 23, 24, 26, P, P + 1, P + 2, (P + 2) + 1, (P + 2) + 2, (P + 2) + 3]) rfl)), (by omega), (by omega), (by omega), (by omega), (by omega), (by omega), (by omega), (by omega), (by omega), hp_545, (by omega), (by omega), (by omega), (by omega), (by omega), (fun h0 => (hpx_565 h0).e (by omega)), ((F_543.1 23 (by decide) 2).trans ((F_530.1 23 (ni hprP (fun P => 23) (fun P => [P, P + 1]) rfl) 2).trans (hs_511.trans hi_372))), ((F_543.1 23 (by decide) 5).trans ((F_530.1 23 (ni hprP (fun P => 23) (fun P => [P, P + 1]) rfl) 5).trans (hs_512.trans hi_373))), ((F_543.1 23 (by decide) 6).trans ((F_530.1 23 (ni hprP (fun P => 23) (fun P => [P, P + 1]) rfl) 6).trans (hs_513.trans hi_374))), ((F_543.1 23 (by decide) 7).trans ((F_530.1 23 (ni hprP (fun P => 23) (fun P => [P, P + 1]) rfl) 7).trans (hs_514.trans hi_375))), ((F_543.1 23 (by decide) 8).trans ((F_530.1 23 (ni hprP (fun P => 23) (fun P => [P, P + 1]) rfl) 8).trans (hs_515.trans hi_376))), ((F_543.1 23 (by decide) 10).trans ((F_530.1 23 (ni hprP (fun P => 23) (fun P => [P, P + 1]) rfl) 10).trans (hs_517.trans hi_377))), (hs_548.trans ((F_530.1 26 (ni hprP (fun P => 26) (fun P => [P, P + 1]) rfl) 6).trans (hs_518.trans hi_378))), ((F_543.1 P (ni hprP (fun P => P) (fun P => [26]) rfl) 7).trans (hs_534.trans (hs_519.trans hi_379))), hI_544, rfl, lv_sub hl [0, 1, 2, 3, 4, 5, 6, 7, 8, 9] rfl⟩ G
          · refine lv_aload_n hx hb dX7_arguments_68 rfl (lv_at hl 5 rfl) ?_
            refine lv_iconst (v := iv 2) hx hb dX7_arguments_69 rfl ?_
            refine lv_aload_n hx hb dX7_arguments_70 rfl (lv_at hl 5 rfl) ?_
            refine xa_getr G fd_X7 (a := 23) (x := 26) 0 rfl (by decide) rfl (wm 2 17 rfl rfl) ⟨rfl, rfl, rfl⟩ dX7_arguments_71 rfl (G.sk 23 rfl) (by decide) rfl ?_
            refine xa_getN G fd_X10 (host := "FourTongues") (a := 26) 13 rfl (by decide) (by decide) ⟨rfl, rfl, rfl⟩ dX7_arguments_74 rfl (v := .int (iv (μL353.1 26 13))) (by rw [show μL353.1 26 13 = μL353.1 26 13 from rfl]; rfl) ?_
            have hr_566 : -2147483648 ≤ μL353.1 26 13 ∧ μL353.1 26 13 ≤ 2147483647 := by have h9 := G.hr (a := 26) (k := 13) rfl; exact h9
            refine xc_vV G (b := 23) (rest := []) (As := [.int (iv 2), .int (iv (μL353.1 26 13))]) (c_X7_tellFault ω l μL353 2 (μL353.1 26 13) (by unfold ir; omega) (by unfold ir; omega) hi_380 (by omega)) (wm 3 177 rfl rfl) (wm 3 179 rfl rfl) (wm 0 12 rfl rfl) rfl rfl (by decide) rfl (wm 1 12 rfl rfl) (wm 3 180 rfl rfl) (by decide) hR ⟨nfr hF (by decide), nlo hLo (by decide)⟩ (n := 2) rfl rfl (Nat.le_of_ble_eq_true rfl) hl.1 dX7_arguments_77 (fun μ567 ρ d0 H locs hp G => ?_)
            obtain ⟨F_568, hI_569⟩ := hp
            refine lv_aload_n hx hb dX7_arguments_80 rfl (lv_at hl 5 rfl) ?_
            refine lv_iconst (v := iv 0) hx hb dX7_arguments_81 rfl ?_
            have hpx_570 : μ567.1 26 11 = 0 → PXE μo μ567 P tt (ee + c9) f9 1 := fun h0 => (hi_371 (by have h9 : μL353.1 26 11 = μL353.1 26 11 := rfl; have h8 : μ567.1 26 11 = μL353.1 26 11 := (F_568.1 26 (by decide) 11); omega)).fr (K := [24]) (Fr.tr Fr.rf F_568 (by decide)) (npL_p (L := [24]) (by decide) hprP).1 (npL_p (L := [24]) (by decide) hprP).2.1
            have e_571 : μ567.1 23 2 = P := ((F_568.1 23 (by decide) 2).trans hi_372)
            have e_572 : μ567.1 23 8 = tt := ((F_568.1 23 (by decide) 8).trans hi_376)
            have htk_573 : TK μ567 := hi_365.fr (K := [24]) (Fr.tr Fr.rf F_568 (by decide)) (by decide) (by decide)
            have hk_574 := hi_380.pr (p := P) hprP
            unfold pk at hk_574
            have hc_575 : 16 ≤ μL353.2.1 (P + 1) ∧ μL353.2.1 (P + 1) ≤ 73024 := hi_380.rm.1 _ hprP.cap
            have e_576 : μ567.1 P 1 = μL353.1 P 1 := (F_568.1 P (ni hprP (fun P => P) (fun P => [24]) rfl) 1)
            have hn_577 : -1 ≤ μL353.1 26 10 ∧ μL353.1 26 10 ≤ 3000 := hi_380.nm.2.2.2.2.2.2.2.2.2.2.2.2
            have e_578 : μ567.1 26 10 = μL353.1 26 10 := (F_568.1 26 (by decide) 10)
            have e_579 : μ567.1 26 11 = μL353.1 26 11 := (F_568.1 26 (by decide) 11)
            have hk_580 := hi_380.row (r := P + 2) (hprP.row)
            unfold rk at hk_580
            have e_581 : μ567.1 (P + 2) 3 = μL353.1 (P + 2) 3 := (F_568.1 (P + 2) (ni hprP (fun P => P + 2) (fun P => [24]) rfl) 3)
            have e_582 : μ567.1 P 1 = μL353.1 P 1 := (F_568.1 P (ni hprP (fun P => P) (fun P => [24]) rfl) 1)
            have e_583 : μ567.1 23 9 = μL353.1 23 9 := (F_568.1 23 (by decide) 9)
            have e_584 : μ567.1 23 9 = μL353.1 23 9 := (F_568.1 23 (by decide) 9)
            have e_585 : μ567.1 26 11 = μL353.1 26 11 := (F_568.1 26 (by decide) 11)
            have e_586 : μ567.1 23 9 = μL353.1 23 9 := (F_568.1 23 (by decide) 9)
            have e_587 : μ567.1 26 11 = μL353.1 26 11 := (F_568.1 26 (by decide) 11)
            have e_588 : μ567.1 26 11 = μL353.1 26 11 := (F_568.1 26 (by decide) 11)
            have e_589 : μ567.1 26 10 = μL353.1 26 10 := (F_568.1 26 (by decide) 10)
            have e_590 : μ567.1 P 1 = μL353.1 P 1 := (F_568.1 P (ni hprP (fun P => P) (fun P => [24]) rfl) 1)
            have e_591 : μ567.1 P 1 = μL353.1 P 1 := (F_568.1 P (ni hprP (fun P => P) (fun P => [24]) rfl) 1)
            have e_592 : μ567.1 26 10 = μL353.1 26 10 := (F_568.1 26 (by decide) 10)
            have e_593 : μ567.1 26 11 = μL353.1 26 11 := (F_568.1 26 (by decide) 11)
            have e_594 : μ567.1 (P + 2) 3 = μL353.1 (P + 2) 3 := (F_568.1 (P + 2) (ni hprP (fun P => P + 2) (fun P => [24]) rfl) 3)
            have e_595 : μ567.1 P 1 = μL353.1 P 1 := (F_568.1 P (ni hprP (fun P => P) (fun P => [24]) rfl) 1)
            have e_596 : μ567.1 (P + 2) 3 = μL353.1 (P + 2) 3 := (F_568.1 (P + 2) (ni hprP (fun P => P + 2) (fun P => [24]) rfl) 3)
            refine xc_vV G (b := 23) (rest := []) (As := [.int (iv 0)]) (((fun (_ : Om) (_ : Launch) => hE)) ω l μ567 0 P tt (by omega) hI_569 (by omega) (by omega) htk_573 (by omega) (by omega) (by omega) (by omega) (by omega) (fun _ => Or.inl (by omega))) (wm 4 3 rfl rfl) (wm 4 5 rfl rfl) (wm 0 24 rfl rfl) rfl rfl (by decide) rfl (wm 1 12 rfl rfl) (wm 4 6 rfl rfl) (by decide) hR ⟨sfr (F := F) (a := 0) (by decide), slo (L := Lo) (m := 3) (a := 0) (by decide)⟩ (n := 1) rfl rfl (Nat.le_of_ble_eq_true rfl) hl.1 dX7_arguments_82 (fun μ597 ρ d0 H locs hp G => ?_)
            obtain ⟨F_598, hI_599, hp_600, hp_601, hp_602, hp_603, hp_604, hp_605, hs_606, hs_607, hs_608, hs_609, hs_610, hs_611, hs_612, hs_613, hs_614⟩ := hp
            have hn_615 : -1 ≤ μ597.1 26 10 ∧ μ597.1 26 10 ≤ 3000 := hI_599.nm.2.2.2.2.2.2.2.2.2.2.2.2
            have hk_616 := hI_599.pr (p := P) hprP
            unfold pk at hk_616
            have hc_617 : 16 ≤ μ597.2.1 (P + 1) ∧ μ597.2.1 (P + 1) ≤ 73024 := hI_599.rm.1 _ hprP.cap
            have hk_618 := hI_599.row (r := P + 2) (hprP.row)
            unfold rk at hk_618
            have htb_619 := hp_600.b
            have hpx_620 : μ597.1 26 11 = 0 → PXE μo μ597 P tt ((ee + c9) + (1 - 0)) f9 1 := fun h0 => (PXE.app (hpx_570 (by have h9 : μ567.1 26 11 = μL353.1 26 11 := (F_568.1 26 (by decide) 11); have h8 : μ597.1 26 11 = μ597.1 26 11 := rfl; omega)) (hp_605 h0)).e (by omega)
            refine lv_aload_n hx hb dX7_arguments_85 rfl (lv_at hl 5 rfl) ?_
            refine lv_iload hx hb dX7_arguments_86 (lv_at hl 3 rfl) ?_
            refine lv_iload hx hb dX7_arguments_88 (lv_at hl 4 rfl) ?_
            refine lv_iload hx hb dX7_arguments_90 (lv_at hl 2 rfl) ?_
            refine xb_iadd hx hb dX7_arguments_92 ?_
            have e_621 : μ597.1 23 2 = P := (hs_606.trans ((F_568.1 23 (by decide) 2).trans hi_372))
            have e_622 : μ597.1 23 8 = tt := (hs_610.trans ((F_568.1 23 (by decide) 8).trans hi_376))
            refine xc_iV G (b := 23) (rest := []) (As := [.int (iv f9), .int (iv (0 + c9))]) (c_X7_ifFails ω l μ597 f9 (0 + c9) μo ((ee + c9) + (1 - 0)) (1) P tt (by unfold ir; omega) (by unfold ir; omega) hI_599 (by omega) (by omega) (by omega) hpx_620 (by omega) (by omega)) (wm 4 23 rfl rfl) (wm 4 25 rfl rfl) (wm 0 29 rfl rfl) rfl rfl (by decide) rfl (wm 1 12 rfl rfl) (wm 4 26 rfl rfl) (by decide) hR ⟨nfr hF (by decide), nlo hLo (by decide)⟩ (n := 2) rfl rfl (Nat.le_of_ble_eq_true rfl) hl.1 dX7_arguments_93 (fun r_624 μ623 ρ d0 H locs hr_r_624 hp G => ?_)
            have hr_r_624 : -2147483648 ≤ r_624 ∧ r_624 ≤ 2147483647 := hr_r_624
            obtain ⟨F_625, hI_626, hp_627, hp_628, hs_629⟩ := hp
            have hk_630 := hI_626.pr (p := P) hprP
            unfold pk at hk_630
            have hc_631 : 16 ≤ μ623.2.1 (P + 1) ∧ μ623.2.1 (P + 1) ≤ 73024 := hI_626.rm.1 _ hprP.cap
            have hpx_632 : μ623.1 26 11 = 0 → PXE μo μ623 P tt ((ee + c9) + (1 - 0)) r_624 1 := fun h0 => hp_627 (by have h9 : μ597.1 26 11 = μ597.1 26 11 := rfl; have h8 : μ623.1 26 11 = μ597.1 26 11 := (F_625.1 26 (ni hprP (fun P => 26) (fun P => [P, P + 1]) rfl) 11); omega)
            clear hp_627
            refine lv_istore (lv' := [(7, .int (iv r_624)), (10, .int (iv i9)), (9, .int (iv m9)), (8, .int (iv c9)), (6, .int (iv 0)), (0, .ref (oP ω 23)), (1, .int (iv x1)), (2, .int (iv x2)), (3, .long (jv x3)), (5, .int (iv x4))]) hx hb dX7_arguments_96 hl (by decide) rfl (fun ls hl => ?_)
            refine lv_iinc (v := iv (c9 + 1)) (lv' := [(8, .int (iv (c9 + 1))), (7, .int (iv r_624)), (10, .int (iv i9)), (9, .int (iv m9)), (6, .int (iv 0)), (0, .ref (oP ω 23)), (1, .int (iv x1)), (2, .int (iv x2)), (3, .long (jv x3)), (5, .int (iv x4))]) hx hb dX7_arguments_98 hl (k := 3) rfl (by rw [show Int32.ofInt 1 = iv 1 from rfl, iv_add]) (by decide) rfl (fun ls hl => ?_)
            refine lv_aload_n hx hb dX7_arguments_101 rfl (lv_at hl 5 rfl) ?_
            refine lv_bipush (v := iv 44) hx hb dX7_arguments_102 rfl ?_
            have htk_633 : TK μ623 := hp_600.fr (K := [P, P + 1]) (Fr.tr Fr.rf F_625 (si hprP (fun P => [P, P + 1]) (fun P => [P, P + 1]) rfl)) (ni hprP (fun P => 26) (fun P => [P, P + 1]) rfl) (ni hprP (fun P => 28) (fun P => [P, P + 1]) rfl)
            have e_634 : μ623.1 26 10 = μ597.1 26 10 := (F_625.1 26 (ni hprP (fun P => 26) (fun P => [P, P + 1]) rfl) 10)
            have e_635 : μ623.1 26 11 = μ597.1 26 11 := (F_625.1 26 (ni hprP (fun P => 26) (fun P => [P, P + 1]) rfl) 11)
            refine xc_iV G (b := 23) (rest := []) (As := [.int (iv 44)]) (c_X7_took_b ω l μ623 44 (by unfold ir; omega) hI_626 htk_633 (by omega)) (wm 3 160 rfl rfl) (wm 3 162 rfl rfl) (wm 0 9 rfl rfl) rfl rfl (by decide) rfl (wm 1 12 rfl rfl) (wm 3 163 rfl rfl) (by decide) hR ⟨nfr hF (by decide), nlo hLo (by decide)⟩ (n := 1) rfl rfl (Nat.le_of_ble_eq_true rfl) hl.1 dX7_arguments_104 (fun r_637 μ636 ρ d0 H locs hr_r_637 hp G => ?_)
            have hr_r_637 : -2147483648 ≤ r_637 ∧ r_637 ≤ 2147483647 := hr_r_637
            obtain ⟨F_638, hI_639, hp_640, hp_641, hs_642, hs_643, hs_644, hs_645, hs_646⟩ := hp
            have hn_647 : -1 ≤ μ636.1 26 10 ∧ μ636.1 26 10 ≤ 3000 := hI_639.nm.2.2.2.2.2.2.2.2.2.2.2.2
            have htb_648 := hp_640.b
            refine lv_istore (lv' := [(9, .int (iv r_637)), (8, .int (iv (c9 + 1))), (7, .int (iv r_624)), (10, .int (iv i9)), (6, .int (iv 0)), (0, .ref (oP ω 23)), (1, .int (iv x1)), (2, .int (iv x2)), (3, .long (jv x3)), (5, .int (iv x4))]) hx hb dX7_arguments_107 hl (by decide) rfl (fun ls hl => ?_)
            refine lv_iinc (v := iv (i9 + 1)) (lv' := [(10, .int (iv (i9 + 1))), (9, .int (iv r_637)), (8, .int (iv (c9 + 1))), (7, .int (iv r_624)), (6, .int (iv 0)), (0, .ref (oP ω 23)), (1, .int (iv x1)), (2, .int (iv x2)), (3, .long (jv x3)), (5, .int (iv x4))]) hx hb dX7_arguments_109 hl (k := 3) rfl (by rw [show Int32.ofInt 1 = iv 1 from rfl, iv_add]) (by decide) rfl (fun ls hl => ?_)
            refine lv_goto (tgt := 48) hx hb dX7_arguments_112 (by decide) ?_
            have e_649 : μ636.1 23 9 = μL353.1 23 9 := ((F_638.1 23 (by decide) 9).trans ((F_625.1 23 (ni hprP (fun P => 23) (fun P => [P, P + 1]) rfl) 9).trans (hs_611.trans (F_568.1 23 (by decide) 9))))
            have e_650 : μ636.1 23 9 = μL353.1 23 9 := ((F_638.1 23 (by decide) 9).trans ((F_625.1 23 (ni hprP (fun P => 23) (fun P => [P, P + 1]) rfl) 9).trans (hs_611.trans (F_568.1 23 (by decide) 9))))
            have e_651 : μ636.1 26 11 = μ597.1 26 11 := (hs_642.trans (F_625.1 26 (ni hprP (fun P => 26) (fun P => [P, P + 1]) rfl) 11))
            have e_652 : μ636.1 26 11 = μ597.1 26 11 := (hs_642.trans (F_625.1 26 (ni hprP (fun P => 26) (fun P => [P, P + 1]) rfl) 11))
            have e_653 : μ636.1 P 1 = μ623.1 P 1 := (F_638.1 P (ni hprP (fun P => P) (fun P => [26]) rfl) 1)
            have e_654 : μ636.1 P 1 = μ623.1 P 1 := (F_638.1 P (ni hprP (fun P => P) (fun P => [26]) rfl) 1)
            have e_655 : μ636.1 26 11 = μ597.1 26 11 := (hs_642.trans (F_625.1 26 (ni hprP (fun P => 26) (fun P => [P, P + 1]) rfl) 11))
            have e_656 : μ636.1 P 1 = μ623.1 P 1 := (F_638.1 P (ni hprP (fun P => P) (fun P => [26]) rfl) 1)
            have e_657 : μ636.1 (P + 2) 3 = μ597.1 (P + 2) 3 := ((F_638.1 (P + 2) (ni hprP (fun P => P + 2) (fun P => [26]) rfl) 3).trans (F_625.1 (P + 2) (ni hprP (fun P => P + 2) (fun P => [P, P + 1]) rfl) 3))
            have e_658 : μ636.1 P 1 = μ623.1 P 1 := (F_638.1 P (ni hprP (fun P => P) (fun P => [26]) rfl) 1)
            have e_659 : μ636.1 (P + 2) 3 = μ597.1 (P + 2) 3 := ((F_638.1 (P + 2) (ni hprP (fun P => P + 2) (fun P => [26]) rfl) 3).trans (F_625.1 (P + 2) (ni hprP (fun P => P + 2) (fun P => [P, P + 1]) rfl) 3))
            have hpx_660 : μ636.1 26 11 = 0 → PXE μo μ636 P tt ((ee + c9) + (1 - 0)) r_624 1 := fun h0 => (hpx_632 (by have h9 : μ623.1 26 11 = μ597.1 26 11 := (F_625.1 26 (ni hprP (fun P => 26) (fun P => [P, P + 1]) rfl) 11); have h8 : μ636.1 26 11 = μ597.1 26 11 := (hs_642.trans (F_625.1 26 (ni hprP (fun P => 26) (fun P => [P, P + 1]) rfl) 11)); omega)).fr (K := [26]) (Fr.tr Fr.rf F_638 (by decide)) (npL_p (L := [26]) (by decide) hprP).1 (npL_p (L := [26]) (by decide) hprP).2.1
            exact ih _ _ _ _ _ _ _ (by omega) ⟨r_624, c9 + 1, r_637, i9 + 1, (Fr.tr (Fr.tr (Fr.tr (Fr.tr FL354 F_568 (si hprP (fun P => [24]) (fun P => [2, 3, 4, 23, 24, 26, P, P + 1, P + 2, (P + 2) + 1, (P + 2) + 2, (P + 2) + 3]) rfl)) F_598 (si hprP (fun P => [2, 3, 4, 23, 24, 26, P, P + 1, P + 2, (P + 2) + 1, (P + 2) + 2, (P + 2) + 3]) (fun P => [2, 3, 4, 23, 24, 26, P, P + 1, P + 2, (P + 2) + 1, (P + 2) + 2, (P + 2) + 3]) rfl)) F_625 (si hprP (fun P => [P, P + 1]) (fun P => [2, 3, 4, 23, 24, 26, P, P + 1, P + 2, (P + 2) + 1, (P + 2) + 2, (P + 2) + 3]) rfl)) F_638 (si hprP (fun P => [26]) (fun P => [2, 3, 4, 23, 24, 26, P, P + 1, P + 2, (P + 2) + 1, (P + 2) + 2, (P + 2) + 3]) rfl)), (by omega), (by omega), (by omega), (by omega), (by omega), (by omega), (by omega), (by omega), (by omega), hp_640, (by omega), (by omega), (by omega), (by omega), (by omega), (fun h0 => (hpx_660 h0).e (by omega)), ((F_638.1 23 (by decide) 2).trans ((F_625.1 23 (ni hprP (fun P => 23) (fun P => [P, P + 1]) rfl) 2).trans (hs_606.trans ((F_568.1 23 (by decide) 2).trans hi_372)))), ((F_638.1 23 (by decide) 5).trans ((F_625.1 23 (ni hprP (fun P => 23) (fun P => [P, P + 1]) rfl) 5).trans (hs_607.trans ((F_568.1 23 (by decide) 5).trans hi_373)))), ((F_638.1 23 (by decide) 6).trans ((F_625.1 23 (ni hprP (fun P => 23) (fun P => [P, P + 1]) rfl) 6).trans (hs_608.trans ((F_568.1 23 (by decide) 6).trans hi_374)))), ((F_638.1 23 (by decide) 7).trans ((F_625.1 23 (ni hprP (fun P => 23) (fun P => [P, P + 1]) rfl) 7).trans (hs_609.trans ((F_568.1 23 (by decide) 7).trans hi_375)))), ((F_638.1 23 (by decide) 8).trans ((F_625.1 23 (ni hprP (fun P => 23) (fun P => [P, P + 1]) rfl) 8).trans (hs_610.trans ((F_568.1 23 (by decide) 8).trans hi_376)))), ((F_638.1 23 (by decide) 10).trans ((F_625.1 23 (ni hprP (fun P => 23) (fun P => [P, P + 1]) rfl) 10).trans (hs_612.trans ((F_568.1 23 (by decide) 10).trans hi_377)))), (hs_643.trans ((F_625.1 26 (ni hprP (fun P => 26) (fun P => [P, P + 1]) rfl) 6).trans (hs_613.trans ((F_568.1 26 (by decide) 6).trans hi_378)))), ((F_638.1 P (ni hprP (fun P => P) (fun P => [26]) rfl) 7).trans (hs_629.trans (hs_614.trans ((F_568.1 P (ni hprP (fun P => P) (fun P => [24]) rfl) 7).trans hi_379)))), hI_639, rfl, lv_sub hl [0, 1, 2, 3, 4, 5, 6, 7, 8, 9] rfl⟩ G
  · refine lv_iconst (v := iv 1) hx hb dX7_arguments_6 rfl ?_
    refine lv_goto (tgt := 11) hx hb dX7_arguments_7 (by decide) ?_
    refine lv_istore (lv' := [(6, .int (iv 1)), (0, .ref (oP ω 23)), (1, .int (iv x1)), (2, .int (iv x2)), (3, .long (jv x3)), (5, .int (iv x4))]) hx hb dX7_arguments_11 hl (by decide) rfl (fun ls hl => ?_)
    refine lv_iload hx hb dX7_arguments_13 (lv_at hl 5 rfl) ?_
    refine lv_istore (lv' := [(7, .int (iv x4)), (6, .int (iv 1)), (0, .ref (oP ω 23)), (1, .int (iv x1)), (2, .int (iv x2)), (3, .long (jv x3)), (5, .int (iv x4))]) hx hb dX7_arguments_15 hl (by decide) rfl (fun ls hl => ?_)
    refine lv_iconst (v := iv 0) hx hb dX7_arguments_17 rfl ?_
    refine lv_istore (lv' := [(8, .int (iv 0)), (7, .int (iv x4)), (6, .int (iv 1)), (0, .ref (oP ω 23)), (1, .int (iv x1)), (2, .int (iv x2)), (3, .long (jv x3)), (5, .int (iv x4))]) hx hb dX7_arguments_18 hl (by decide) rfl (fun ls hl => ?_)
    refine lv_aload_n hx hb dX7_arguments_20 rfl (lv_at hl 3 rfl) ?_
    refine lv_bipush (v := iv 40) hx hb dX7_arguments_21 rfl ?_
    have hn_661 : -1 ≤ μ.1 26 10 ∧ μ.1 26 10 ≤ 3000 := hI.nm.2.2.2.2.2.2.2.2.2.2.2.2
    refine xc_vV G (b := 23) (rest := []) (As := [.int (iv 40)]) (c_X7_needOpen_b ω l μ 40 (by unfold ir; omega) hI hTK (by omega) (by omega)) (wm 3 197 rfl rfl) (wm 3 199 rfl rfl) (wm 0 14 rfl rfl) rfl rfl (by decide) rfl (wm 1 12 rfl rfl) (wm 3 200 rfl rfl) (by decide) hR ⟨nfr hF (by decide), nlo hLo (by decide)⟩ (n := 1) rfl rfl (Nat.le_of_ble_eq_true rfl) hl.1 dX7_arguments_23 (fun μ662 ρ d0 H locs hp G => ?_)
    obtain ⟨F_663, hI_664, hp_665, hp_666, hp_667, hp_668, hs_669, hs_670, hs_671, hs_672, hs_673, hs_674, hs_675, hs_676, hs_677, hs_678, hs_679⟩ := hp
    have hn_680 : -1 ≤ μ662.1 26 10 ∧ μ662.1 26 10 ≤ 3000 := hI_664.nm.2.2.2.2.2.2.2.2.2.2.2.2
    have htb_681 := hp_665.b
    refine lv_aload_n hx hb dX7_arguments_26 rfl (lv_at hl 3 rfl) ?_
    refine xa_getr G fd_X7 (a := 23) (x := 26) 0 rfl (by decide) rfl (wm 2 17 rfl rfl) ⟨rfl, rfl, rfl⟩ dX7_arguments_27 rfl (G.sk 23 rfl) (by decide) rfl ?_
    refine xa_getN G fd_X10 (host := "FourTongues") (a := 26) 12 rfl (by decide) (by decide) ⟨rfl, rfl, rfl⟩ dX7_arguments_30 rfl (v := .int (iv (μ662.1 26 12))) (by rw [show μ662.1 26 12 = μ662.1 26 12 from rfl]; rfl) ?_
    have hr_682 : -2147483648 ≤ μ662.1 26 12 ∧ μ662.1 26 12 ≤ 2147483647 := by have h9 := G.hr (a := 26) (k := 12) rfl; exact h9
    refine lv_bipush (v := iv 41) hx hb dX7_arguments_33 rfl ?_
    refine xb_icmp_eq (tgt := 42) hx hb (by unfold ir; omega) (by unfold ir; omega) dX7_arguments_35 (by decide) (fun c_35 => ?_) (fun c_35 => ?_)
    · refine lv_iconst (v := iv 0) hx hb dX7_arguments_42 rfl ?_
      refine lv_istore (lv' := [(9, .int (iv 0)), (8, .int (iv 0)), (7, .int (iv x4)), (6, .int (iv 1)), (0, .ref (oP ω 23)), (1, .int (iv x1)), (2, .int (iv x2)), (3, .long (jv x3)), (5, .int (iv x4))]) hx hb dX7_arguments_43 hl (by decide) rfl (fun ls hl => ?_)
      refine lv_iconst (v := iv 0) hx hb dX7_arguments_45 rfl ?_
      refine lv_istore (lv' := [(10, .int (iv 0)), (9, .int (iv 0)), (8, .int (iv 0)), (7, .int (iv x4)), (6, .int (iv 1)), (0, .ref (oP ω 23)), (1, .int (iv x1)), (2, .int (iv x2)), (3, .long (jv x3)), (5, .int (iv x4))]) hx hb dX7_arguments_46 hl (by decide) rfl (fun ls hl => ?_)
      have e_683 : μ662.1 23 9 = μ.1 23 9 + 1 := hs_669
      have e_684 : μ662.1 23 9 = μ.1 23 9 + 1 := hs_669
      have e_685 : μ662.1 P 1 = μ.1 P 1 := (F_663.1 P (ni hprP (fun P => P) (fun P => [26, 23]) rfl) 1)
      have e_686 : μ662.1 P 1 = μ.1 P 1 := (F_663.1 P (ni hprP (fun P => P) (fun P => [26, 23]) rfl) 1)
      have e_687 : μ662.1 P 1 = μ.1 P 1 := (F_663.1 P (ni hprP (fun P => P) (fun P => [26, 23]) rfl) 1)
      have e_688 : μ662.1 (P + 2) 3 = μ.1 (P + 2) 3 := (F_663.1 (P + 2) (ni hprP (fun P => P + 2) (fun P => [26, 23]) rfl) 3)
      have e_689 : μ662.1 P 1 = μ.1 P 1 := (F_663.1 P (ni hprP (fun P => P) (fun P => [26, 23]) rfl) 1)
      have e_690 : μ662.1 (P + 2) 3 = μ.1 (P + 2) 3 := (F_663.1 (P + 2) (ni hprP (fun P => P + 2) (fun P => [26, 23]) rfl) 3)
      have hk_691 := hI.row (r := P + 2) (hprP.row)
      unfold rk at hk_691
      have hpx_692 : μ662.1 26 11 = 0 → PXE μo μ662 P tt ee x4 1 := fun h0 => (hpx (by have h9 : μ.1 26 11 = μ.1 26 11 := rfl; have h8 : μ662.1 26 11 = μ662.1 26 11 := rfl; omega)).fr (K := [26, 23]) (Fr.tr Fr.rf F_663 (by decide)) (npL_p (L := [26, 23]) (by decide) hprP).1 (npL_p (L := [26, 23]) (by decide) hprP).2.1
      refine xl (fun n_9 μ' ls => ∃ (f9 : Int), ∃ (c9 : Int), ∃ (m9 : Int), ∃ (i9 : Int), (Fr [2, 3, 4, 23, 24, 26, P, P + 1, P + 2, (P + 2) + 1, (P + 2) + 2, (P + 2) + 3] μ662 μ') ∧ (-2147483648 ≤ f9 ∧ f9 ≤ 2147483647) ∧ (-2147483648 ≤ c9 ∧ c9 ≤ 2147483647) ∧ (-2147483648 ≤ m9 ∧ m9 ≤ 2147483647) ∧ (-2147483648 ≤ i9 ∧ i9 ≤ 2147483647) ∧ (0 ≤ c9 ∧ c9 ≤ i9) ∧ (μ'.1 23 9 = μ.1 23 9 + 1) ∧ (μ'.1 23 9 ≤ 8 + μ'.1 26 11) ∧ (i9 ≤ 3000) ∧ (0 ≤ m9 ∧ m9 ≤ 1) ∧ (TK μ') ∧ (μ.1 26 11 ≤ μ'.1 26 11) ∧ (μ.1 26 10 ≤ μ'.1 26 10) ∧ (μ.1 P 1 ≤ μ'.1 P 1 ∧ μ'.1 P 1 ≤ μ.1 P 1 + 2 * (μ'.1 26 10 - μ.1 26 10) + (- 2 + 3 * μ'.1 26 11)) ∧ (μ'.1 P 1 ≤ μ.1 P 1 + 2 * (μ'.1 26 10 - μ.1 26 10) + (1 - m9)) ∧ (μ'.1 (P + 2) 3 - μ.1 (P + 2) 3 ≤ μ'.1 P 1 - μ.1 P 1 ∧ μ.1 (P + 2) 3 ≤ μ'.1 (P + 2) 3) ∧ (μ'.1 26 11 = 0 → PXE μo μ' P tt (ee + c9) f9 1) ∧ (μ'.1 23 2 = P) ∧ (μ'.1 23 5 = μ.1 23 5) ∧ (μ'.1 23 6 = μ.1 23 6) ∧ (μ'.1 23 7 = μ.1 23 7) ∧ (μ'.1 23 8 = tt) ∧ (μ'.1 23 10 = μ.1 23 10) ∧ (μ'.1 26 6 = μ.1 26 6) ∧ (μ'.1 P 7 = μ.1 P 7) ∧ (IC μ') ∧ n_9 = Int.toNat (3000 - i9) ∧ lv_has ls 11 [(10, .int (iv i9)), (9, .int (iv m9)), (8, .int (iv c9)), (7, .int (iv f9)), (6, .int (iv 1)), (0, .ref (oP ω 23)), (1, .int (iv x1)), (2, .int (iv x2)), (3, .long (jv x3)), (5, .int (iv x4))]) (fun n_9 ρ μL693 d0 H locs ls hI_l G ih => ?_) _ _ _ _ _ _ _ ⟨x4, 0, 0, 0, Fr.rf, (by omega), (by omega), (by omega), (by omega), (by omega), (by omega), (by omega), (by omega), (by omega), hp_665, (by omega), (by omega), (by omega), (by omega), (by omega), (fun h0 => (hpx_692 h0).e (by omega)), (hs_674.trans hP.symm), hs_675, hs_676, hs_677, (hs_678.trans htt.symm), hs_679, hs_670, (F_663.1 P (ni hprP (fun P => P) (fun P => [26, 23]) rfl) 7), hI_664, rfl, lv_sub hl [0, 1, 2, 3, 4, 5, 6, 7, 8, 9] rfl⟩ G
      obtain ⟨f9, c9, m9, i9, FL694, hi_696, hi_697, hi_698, hi_699, hi_700, hi_701, hi_702, hi_703, hi_704, hi_705, hi_706, hi_707, hi_708, hi_709, hi_710, hi_711, hi_712, hi_713, hi_714, hi_715, hi_716, hi_717, hi_718, hi_719, hi_720, hn695, hl⟩ := hI_l
      have htb_721 := hi_705.b
      refine lv_iload hx hb dX7_arguments_48 (lv_at hl 0 rfl) ?_
      refine lv_sipush (v := iv 3000) hx hb dX7_arguments_50 rfl ?_
      refine xb_icmp_ge (tgt := 115) hx hb (by unfold ir; omega) (by unfold ir; omega) dX7_arguments_53 (by decide) (fun c_53 => ?_) (fun c_53 => ?_)
      · refine lv_aload_n hx hb dX7_arguments_115 rfl (lv_at hl 5 rfl) ?_
        refine lv_bipush (v := iv 41) hx hb dX7_arguments_116 rfl ?_
        have hn_722 : -1 ≤ μL693.1 26 10 ∧ μL693.1 26 10 ≤ 3000 := hi_720.nm.2.2.2.2.2.2.2.2.2.2.2.2
        refine xc_vV G (b := 23) (rest := []) (As := [.int (iv 41)]) (c_X7_needClosed_b ω l μL693 41 (by unfold ir; omega) hi_720 hi_705 (by omega) (by omega)) (wm 3 214 rfl rfl) (wm 3 216 rfl rfl) (wm 0 18 rfl rfl) rfl rfl (by decide) rfl (wm 1 12 rfl rfl) (wm 3 217 rfl rfl) (by decide) hR ⟨nfr hF (by decide), nlo hLo (by decide)⟩ (n := 1) rfl rfl (Nat.le_of_ble_eq_true rfl) hl.1 dX7_arguments_118 (fun μ723 ρ d0 H locs hp G => ?_)
        obtain ⟨F_724, hI_725, hp_726, hp_727, hp_728, hs_729, hs_730, hs_731, hs_732, hs_733, hs_734, hs_735, hs_736, hs_737, hs_738, hs_739⟩ := hp
        have hn_740 : -1 ≤ μ723.1 26 10 ∧ μ723.1 26 10 ≤ 3000 := hI_725.nm.2.2.2.2.2.2.2.2.2.2.2.2
        have htb_741 := hp_726.b
        refine lv_aload_n hx hb dX7_arguments_121 rfl (lv_at hl 5 rfl) ?_
        refine xa_getr G fd_X7 (a := 23) (x := P) 2 rfl (by decide) rfl (wm 2 19 rfl rfl) ⟨rfl, rfl, rfl⟩ dX7_arguments_122 rfl (hs_734.trans hi_712) (by omega) (hprP.hq ω ρ) ?_
        refine lv_iconst (v := iv 0) hx hb dX7_arguments_125 rfl ?_
        refine lv_lload_n hx hb dX7_arguments_126 rfl (lv_at hl 8 rfl) ?_
        refine lv_dconst0 hx hb dX7_arguments_127 ?_
        refine xb_topd (fun dd_742 he_dd_742 => ?_)
        have hpx_743 : μ723.1 26 11 = 0 → PXE μo μ723 P tt (ee + c9) f9 1 := fun h0 => (hi_711 (by have h9 : μL693.1 26 11 = μL693.1 26 11 := rfl; have h8 : μ723.1 26 11 = μ723.1 26 11 := rfl; omega)).fr (K := [26, 23]) (Fr.tr Fr.rf F_724 (by decide)) (npL_p (L := [26, 23]) (by decide) hprP).1 (npL_p (L := [26, 23]) (by decide) hprP).2.1
        have hk_744 := hi_720.row (r := P + 2) (hprP.row)
        unfold rk at hk_744
        have e_745 : μ723.1 (P + 2) 3 = μL693.1 (P + 2) 3 := (F_724.1 (P + 2) (ni hprP (fun P => P + 2) (fun P => [26, 23]) rfl) 3)
        refine xc_iV G (b := P) (rest := []) (As := [.int (iv 0), .long (jv x3), .double (dv dd_742)]) (c_X8_addConstant ω l μ723 P 0 x3 dd_742 (μL693.1 (P + 2) 3) hprP (by unfold ir; omega) hx3 hI_725 (by omega) (by omega)) (wm 4 67 rfl rfl) (wm 4 68 rfl rfl) (wm 4 69 rfl rfl) hprP.ly rfl (by decide) (hprP.hq ω ρ) (wm 1 9 rfl rfl) (wm 4 70 rfl rfl) (by decide) hR ⟨nfr hF (by decide), nlo hLo (by decide)⟩ (n := 3) rfl rfl (Nat.le_of_ble_eq_true rfl) hl.1 dX7_arguments_128 (fun r_747 μ746 ρ d0 H locs hr_r_747 hp G => ?_)
        have hr_r_747 : -2147483648 ≤ r_747 ∧ r_747 ≤ 2147483647 := hr_r_747
        obtain ⟨F_748, hI_749, hp_750, hp_751⟩ := hp
        have hk_752 := hI_749.row (r := P + 2) (hprP.row)
        unfold rk at hk_752
        refine lv_istore (lv' := [(10, .int (iv r_747)), (9, .int (iv m9)), (8, .int (iv c9)), (7, .int (iv f9)), (6, .int (iv 1)), (0, .ref (oP ω 23)), (1, .int (iv x1)), (2, .int (iv x2)), (3, .long (jv x3)), (5, .int (iv x4))]) hx hb dX7_arguments_131 hl (by decide) rfl (fun ls hl => ?_)
        refine lv_aload_n hx hb dX7_arguments_133 rfl (lv_at hl 5 rfl) ?_
        refine lv_iload_n hx hb dX7_arguments_134 rfl (lv_at hl 6 rfl) ?_
        refine lv_iload hx hb dX7_arguments_135 (lv_at hl 2 rfl) ?_
        refine lv_iconst (v := iv 4) hx hb dX7_arguments_137 rfl ?_
        refine xb_imul hx hb dX7_arguments_138 ?_
        refine lv_iload_n hx hb dX7_arguments_139 rfl (lv_at hl 7 rfl) ?_
        refine xb_iadd hx hb dX7_arguments_140 ?_
        refine lv_iload hx hb dX7_arguments_141 (lv_at hl 0 rfl) ?_
        refine lv_iload hx hb dX7_arguments_143 (lv_at hl 3 rfl) ?_
        have hpx_753 : μ746.1 26 11 = 0 → PXE μo μ746 P tt (ee + c9) f9 1 := fun h0 => (hpx_743 (by have h9 : μ723.1 26 11 = μ723.1 26 11 := rfl; have h8 : μ746.1 26 11 = μ723.1 26 11 := (F_748.1 26 (ni hprP (fun P => 26) (fun P => [P + 2, (P + 2) + 1, (P + 2) + 2, (P + 2) + 3]) rfl) 11); omega)).fr (K := [P + 2, (P + 2) + 1, (P + 2) + 2, (P + 2) + 3]) (Fr.tr Fr.rf F_748 (si hprP (fun P => [P + 2, (P + 2) + 1, (P + 2) + 2, (P + 2) + 3]) (fun P => [P + 2, (P + 2) + 1, (P + 2) + 2, (P + 2) + 3]) rfl)) (ni hprP (fun P => P) (fun P => [P + 2, (P + 2) + 1, (P + 2) + 2, (P + 2) + 3]) rfl) (ni hprP (fun P => P + 1) (fun P => [P + 2, (P + 2) + 1, (P + 2) + 2, (P + 2) + 3]) rfl)
        have e_754 : μ746.1 23 2 = P := ((F_748.1 23 (ni hprP (fun P => 23) (fun P => [P + 2, (P + 2) + 1, (P + 2) + 2, (P + 2) + 3]) rfl) 2).trans (hs_734.trans hi_712))
        have e_755 : μ746.1 23 8 = tt := ((F_748.1 23 (ni hprP (fun P => 23) (fun P => [P + 2, (P + 2) + 1, (P + 2) + 2, (P + 2) + 3]) rfl) 8).trans (hs_738.trans hi_716))
        have hk_756 := hi_720.pr (p := P) hprP
        unfold pk at hk_756
        have hc_757 : 16 ≤ μL693.2.1 (P + 1) ∧ μL693.2.1 (P + 1) ≤ 73024 := hi_720.rm.1 _ hprP.cap
        have e_758 : μ746.1 P 1 = μL693.1 P 1 := ((F_748.1 P (ni hprP (fun P => P) (fun P => [P + 2, (P + 2) + 1, (P + 2) + 2, (P + 2) + 3]) rfl) 1).trans (F_724.1 P (ni hprP (fun P => P) (fun P => [26, 23]) rfl) 1))
        have e_759 : μ746.1 P 1 = μL693.1 P 1 := ((F_748.1 P (ni hprP (fun P => P) (fun P => [P + 2, (P + 2) + 1, (P + 2) + 2, (P + 2) + 3]) rfl) 1).trans (F_724.1 P (ni hprP (fun P => P) (fun P => [26, 23]) rfl) 1))
        refine xc_vV G (b := 23) (rest := []) (As := [.int (iv x1), .int (iv ((c9 * 4) + x2)), .int (iv r_747), .int (iv f9)]) (c_X7_endOfParts ω l μ746 x1 ((c9 * 4) + x2) r_747 f9 μo (ee + c9) (1) P tt (by unfold ir; omega) (by unfold ir; omega) (by unfold ir; omega) (by unfold ir; omega) hI_749 (by omega) (by omega) (by omega) hpx_753 (Or.inr ⟨by omega, by omega, by omega⟩) (by omega) (by by_cases q1 : x1 = 13; (rw [q1, ef13 (by omega) hx2b]; omega); (rw [show x1 = 14 by omega, ef14 (by omega) hx2b]; omega))) (wm 4 27 rfl rfl) (wm 4 29 rfl rfl) (wm 0 30 rfl rfl) rfl rfl (by decide) rfl (wm 1 12 rfl rfl) (wm 4 30 rfl rfl) (by decide) hR ⟨nfr hF (by decide), nlo hLo (by decide)⟩ (n := 4) rfl rfl (Nat.le_of_ble_eq_true rfl) hl.1 dX7_arguments_145 (fun μ760 ρ d0 H locs hp G => ?_)
        obtain ⟨F_761, hI_762, hp_763, hs_764, hs_765⟩ := hp
        have hpx_766 : μ760.1 26 11 = 0 → PXE μo μ760 P tt 1 (-1) 1 := fun h0 => PXE.of (hp_763 (by have h9 : μ746.1 26 11 = μ723.1 26 11 := (F_748.1 26 (ni hprP (fun P => 26) (fun P => [P + 2, (P + 2) + 1, (P + 2) + 2, (P + 2) + 3]) rfl) 11); have h8 : μ760.1 26 11 = μ723.1 26 11 := ((F_761.1 26 (ni hprP (fun P => 26) (fun P => [P, P + 1]) rfl) 11).trans (F_748.1 26 (ni hprP (fun P => 26) (fun P => [P + 2, (P + 2) + 1, (P + 2) + 2, (P + 2) + 3]) rfl) 11)); omega))
        clear hp_763
        have htk_767 : TK μ760 := hp_726.fr (K := [P, P + 1, P + 2, (P + 2) + 1, (P + 2) + 2, (P + 2) + 3]) (Fr.tr (Fr.tr Fr.rf F_748 (si hprP (fun P => [P + 2, (P + 2) + 1, (P + 2) + 2, (P + 2) + 3]) (fun P => [P, P + 1, P + 2, (P + 2) + 1, (P + 2) + 2, (P + 2) + 3]) rfl)) F_761 (si hprP (fun P => [P, P + 1]) (fun P => [P, P + 1, P + 2, (P + 2) + 1, (P + 2) + 2, (P + 2) + 3]) rfl)) (ni hprP (fun P => 26) (fun P => [P, P + 1, P + 2, (P + 2) + 1, (P + 2) + 2, (P + 2) + 3]) rfl) (ni hprP (fun P => 28) (fun P => [P, P + 1, P + 2, (P + 2) + 1, (P + 2) + 2, (P + 2) + 3]) rfl)
        have e_768 : μ760.1 26 11 = μ723.1 26 11 := ((F_761.1 26 (ni hprP (fun P => 26) (fun P => [P, P + 1]) rfl) 11).trans (F_748.1 26 (ni hprP (fun P => 26) (fun P => [P + 2, (P + 2) + 1, (P + 2) + 2, (P + 2) + 3]) rfl) 11))
        have e_769 : μ760.1 26 11 = μ723.1 26 11 := ((F_761.1 26 (ni hprP (fun P => 26) (fun P => [P, P + 1]) rfl) 11).trans (F_748.1 26 (ni hprP (fun P => 26) (fun P => [P + 2, (P + 2) + 1, (P + 2) + 2, (P + 2) + 3]) rfl) 11))
        have e_770 : μ760.1 26 10 = μ723.1 26 10 := ((F_761.1 26 (ni hprP (fun P => 26) (fun P => [P, P + 1]) rfl) 10).trans (F_748.1 26 (ni hprP (fun P => 26) (fun P => [P + 2, (P + 2) + 1, (P + 2) + 2, (P + 2) + 3]) rfl) 10))
        have e_771 : μ760.1 P 1 = μ746.1 P 1 + 1 := hs_764
        have e_772 : μ760.1 P 1 = μ746.1 P 1 + 1 := hs_764
        have e_773 : μ760.1 26 10 = μ723.1 26 10 := ((F_761.1 26 (ni hprP (fun P => 26) (fun P => [P, P + 1]) rfl) 10).trans (F_748.1 26 (ni hprP (fun P => 26) (fun P => [P + 2, (P + 2) + 1, (P + 2) + 2, (P + 2) + 3]) rfl) 10))
        have e_774 : μ760.1 26 11 = μ723.1 26 11 := ((F_761.1 26 (ni hprP (fun P => 26) (fun P => [P, P + 1]) rfl) 11).trans (F_748.1 26 (ni hprP (fun P => 26) (fun P => [P + 2, (P + 2) + 1, (P + 2) + 2, (P + 2) + 3]) rfl) 11))
        have e_775 : μ760.1 (P + 2) 3 = μ746.1 (P + 2) 3 := (F_761.1 (P + 2) (ni hprP (fun P => P + 2) (fun P => [P, P + 1]) rfl) 3)
        have e_776 : μ760.1 P 1 = μ746.1 P 1 + 1 := hs_764
        have e_777 : μ760.1 (P + 2) 3 = μ746.1 (P + 2) 3 := (F_761.1 (P + 2) (ni hprP (fun P => P + 2) (fun P => [P, P + 1]) rfl) 3)
        have e_778 : μ760.1 23 9 = μL693.1 23 9 - 1 := ((F_761.1 23 (ni hprP (fun P => 23) (fun P => [P, P + 1]) rfl) 9).trans ((F_748.1 23 (ni hprP (fun P => 23) (fun P => [P + 2, (P + 2) + 1, (P + 2) + 2, (P + 2) + 3]) rfl) 9).trans hs_729))
        exact xr_v G hret hlk dX7_arguments_148 ⟨(Fr.tr (Fr.tr (Fr.tr (Fr.tr (Fr.tr Fr.rf F_663 (si hprP (fun P => [26, 23]) (fun P => [2, 3, 4, 23, 24, 26, P, P + 1, P + 2, (P + 2) + 1, (P + 2) + 2, (P + 2) + 3]) rfl)) FL694 (si hprP (fun P => [2, 3, 4, 23, 24, 26, P, P + 1, P + 2, (P + 2) + 1, (P + 2) + 2, (P + 2) + 3]) (fun P => [2, 3, 4, 23, 24, 26, P, P + 1, P + 2, (P + 2) + 1, (P + 2) + 2, (P + 2) + 3]) rfl)) F_724 (si hprP (fun P => [26, 23]) (fun P => [2, 3, 4, 23, 24, 26, P, P + 1, P + 2, (P + 2) + 1, (P + 2) + 2, (P + 2) + 3]) rfl)) F_748 (si hprP (fun P => [P + 2, (P + 2) + 1, (P + 2) + 2, (P + 2) + 3]) (fun P => [2, 3, 4, 23, 24, 26, P, P + 1, P + 2, (P + 2) + 1, (P + 2) + 2, (P + 2) + 3]) rfl)) F_761 (si hprP (fun P => [P, P + 1]) (fun P => [2, 3, 4, 23, 24, 26, P, P + 1, P + 2, (P + 2) + 1, (P + 2) + 2, (P + 2) + 3]) rfl)), hI_762, htk_767, (by omega), (by omega), (by omega), (by omega), (fun h0 => (PXE.ex (hpx_766 h0)).e (by omega)), (((F_761.1 23 (ni hprP (fun P => 23) (fun P => [P, P + 1]) rfl) 2).trans ((F_748.1 23 (ni hprP (fun P => 23) (fun P => [P + 2, (P + 2) + 1, (P + 2) + 2, (P + 2) + 3]) rfl) 2).trans (hs_734.trans hi_712)))).trans hP, ((F_761.1 23 (ni hprP (fun P => 23) (fun P => [P, P + 1]) rfl) 5).trans ((F_748.1 23 (ni hprP (fun P => 23) (fun P => [P + 2, (P + 2) + 1, (P + 2) + 2, (P + 2) + 3]) rfl) 5).trans (hs_735.trans hi_713))), ((F_761.1 23 (ni hprP (fun P => 23) (fun P => [P, P + 1]) rfl) 6).trans ((F_748.1 23 (ni hprP (fun P => 23) (fun P => [P + 2, (P + 2) + 1, (P + 2) + 2, (P + 2) + 3]) rfl) 6).trans (hs_736.trans hi_714))), ((F_761.1 23 (ni hprP (fun P => 23) (fun P => [P, P + 1]) rfl) 7).trans ((F_748.1 23 (ni hprP (fun P => 23) (fun P => [P + 2, (P + 2) + 1, (P + 2) + 2, (P + 2) + 3]) rfl) 7).trans (hs_737.trans hi_715))), (((F_761.1 23 (ni hprP (fun P => 23) (fun P => [P, P + 1]) rfl) 8).trans ((F_748.1 23 (ni hprP (fun P => 23) (fun P => [P + 2, (P + 2) + 1, (P + 2) + 2, (P + 2) + 3]) rfl) 8).trans (hs_738.trans hi_716)))).trans htt, (by omega), ((F_761.1 23 (ni hprP (fun P => 23) (fun P => [P, P + 1]) rfl) 10).trans ((F_748.1 23 (ni hprP (fun P => 23) (fun P => [P + 2, (P + 2) + 1, (P + 2) + 2, (P + 2) + 3]) rfl) 10).trans (hs_739.trans hi_717))), ((F_761.1 26 (ni hprP (fun P => 26) (fun P => [P, P + 1]) rfl) 6).trans ((F_748.1 26 (ni hprP (fun P => 26) (fun P => [P + 2, (P + 2) + 1, (P + 2) + 2, (P + 2) + 3]) rfl) 6).trans (hs_730.trans hi_718))), (hs_765.trans ((F_748.1 P (ni hprP (fun P => P) (fun P => [P + 2, (P + 2) + 1, (P + 2) + 2, (P + 2) + 3]) rfl) 7).trans ((F_724.1 P (ni hprP (fun P => P) (fun P => [26, 23]) rfl) 7).trans hi_719)))⟩
      · refine lv_iload hx hb dX7_arguments_56 (lv_at hl 1 rfl) ?_
        refine xb_if_eq (tgt := 115) hx hb (by unfold ir; omega) dX7_arguments_58 (by decide) (fun c_58 => ?_) (fun c_58 => ?_)
        · refine lv_aload_n hx hb dX7_arguments_115 rfl (lv_at hl 5 rfl) ?_
          refine lv_bipush (v := iv 41) hx hb dX7_arguments_116 rfl ?_
          have hn_779 : -1 ≤ μL693.1 26 10 ∧ μL693.1 26 10 ≤ 3000 := hi_720.nm.2.2.2.2.2.2.2.2.2.2.2.2
          refine xc_vV G (b := 23) (rest := []) (As := [.int (iv 41)]) (c_X7_needClosed_b ω l μL693 41 (by unfold ir; omega) hi_720 hi_705 (by omega) (by omega)) (wm 3 214 rfl rfl) (wm 3 216 rfl rfl) (wm 0 18 rfl rfl) rfl rfl (by decide) rfl (wm 1 12 rfl rfl) (wm 3 217 rfl rfl) (by decide) hR ⟨nfr hF (by decide), nlo hLo (by decide)⟩ (n := 1) rfl rfl (Nat.le_of_ble_eq_true rfl) hl.1 dX7_arguments_118 (fun μ780 ρ d0 H locs hp G => ?_)
          obtain ⟨F_781, hI_782, hp_783, hp_784, hp_785, hs_786, hs_787, hs_788, hs_789, hs_790, hs_791, hs_792, hs_793, hs_794, hs_795, hs_796⟩ := hp
          have hn_797 : -1 ≤ μ780.1 26 10 ∧ μ780.1 26 10 ≤ 3000 := hI_782.nm.2.2.2.2.2.2.2.2.2.2.2.2
          have htb_798 := hp_783.b
          refine lv_aload_n hx hb dX7_arguments_121 rfl (lv_at hl 5 rfl) ?_
          refine xa_getr G fd_X7 (a := 23) (x := P) 2 rfl (by decide) rfl (wm 2 19 rfl rfl) ⟨rfl, rfl, rfl⟩ dX7_arguments_122 rfl (hs_791.trans hi_712) (by omega) (hprP.hq ω ρ) ?_
          refine lv_iconst (v := iv 0) hx hb dX7_arguments_125 rfl ?_
          refine lv_lload_n hx hb dX7_arguments_126 rfl (lv_at hl 8 rfl) ?_
          refine lv_dconst0 hx hb dX7_arguments_127 ?_
          refine xb_topd (fun dd_799 he_dd_799 => ?_)
          have hpx_800 : μ780.1 26 11 = 0 → PXE μo μ780 P tt (ee + c9) f9 1 := fun h0 => (hi_711 (by have h9 : μL693.1 26 11 = μL693.1 26 11 := rfl; have h8 : μ780.1 26 11 = μ780.1 26 11 := rfl; omega)).fr (K := [26, 23]) (Fr.tr Fr.rf F_781 (by decide)) (npL_p (L := [26, 23]) (by decide) hprP).1 (npL_p (L := [26, 23]) (by decide) hprP).2.1
          have hk_801 := hi_720.row (r := P + 2) (hprP.row)
          unfold rk at hk_801
          have e_802 : μ780.1 (P + 2) 3 = μL693.1 (P + 2) 3 := (F_781.1 (P + 2) (ni hprP (fun P => P + 2) (fun P => [26, 23]) rfl) 3)
          refine xc_iV G (b := P) (rest := []) (As := [.int (iv 0), .long (jv x3), .double (dv dd_799)]) (c_X8_addConstant ω l μ780 P 0 x3 dd_799 (μL693.1 (P + 2) 3) hprP (by unfold ir; omega) hx3 hI_782 (by omega) (by omega)) (wm 4 67 rfl rfl) (wm 4 68 rfl rfl) (wm 4 69 rfl rfl) hprP.ly rfl (by decide) (hprP.hq ω ρ) (wm 1 9 rfl rfl) (wm 4 70 rfl rfl) (by decide) hR ⟨nfr hF (by decide), nlo hLo (by decide)⟩ (n := 3) rfl rfl (Nat.le_of_ble_eq_true rfl) hl.1 dX7_arguments_128 (fun r_804 μ803 ρ d0 H locs hr_r_804 hp G => ?_)
          have hr_r_804 : -2147483648 ≤ r_804 ∧ r_804 ≤ 2147483647 := hr_r_804
          obtain ⟨F_805, hI_806, hp_807, hp_808⟩ := hp
          have hk_809 := hI_806.row (r := P + 2) (hprP.row)
          unfold rk at hk_809
          refine lv_istore (lv' := [(10, .int (iv r_804)), (9, .int (iv m9)), (8, .int (iv c9)), (7, .int (iv f9)), (6, .int (iv 1)), (0, .ref (oP ω 23)), (1, .int (iv x1)), (2, .int (iv x2)), (3, .long (jv x3)), (5, .int (iv x4))]) hx hb dX7_arguments_131 hl (by decide) rfl (fun ls hl => ?_)
          refine lv_aload_n hx hb dX7_arguments_133 rfl (lv_at hl 5 rfl) ?_
          refine lv_iload_n hx hb dX7_arguments_134 rfl (lv_at hl 6 rfl) ?_
          refine lv_iload hx hb dX7_arguments_135 (lv_at hl 2 rfl) ?_
          refine lv_iconst (v := iv 4) hx hb dX7_arguments_137 rfl ?_
          refine xb_imul hx hb dX7_arguments_138 ?_
          refine lv_iload_n hx hb dX7_arguments_139 rfl (lv_at hl 7 rfl) ?_
          refine xb_iadd hx hb dX7_arguments_140 ?_
          refine lv_iload hx hb dX7_arguments_141 (lv_at hl 0 rfl) ?_
          refine lv_iload hx hb dX7_arguments_143 (lv_at hl 3 rfl) ?_
          have hpx_810 : μ803.1 26 11 = 0 → PXE μo μ803 P tt (ee + c9) f9 1 := fun h0 => (hpx_800 (by have h9 : μ780.1 26 11 = μ780.1 26 11 := rfl; have h8 : μ803.1 26 11 = μ780.1 26 11 := (F_805.1 26 (ni hprP (fun P => 26) (fun P => [P + 2, (P + 2) + 1, (P + 2) + 2, (P + 2) + 3]) rfl) 11); omega)).fr (K := [P + 2, (P + 2) + 1, (P + 2) + 2, (P + 2) + 3]) (Fr.tr Fr.rf F_805 (si hprP (fun P => [P + 2, (P + 2) + 1, (P + 2) + 2, (P + 2) + 3]) (fun P => [P + 2, (P + 2) + 1, (P + 2) + 2, (P + 2) + 3]) rfl)) (ni hprP (fun P => P) (fun P => [P + 2, (P + 2) + 1, (P + 2) + 2, (P + 2) + 3]) rfl) (ni hprP (fun P => P + 1) (fun P => [P + 2, (P + 2) + 1, (P + 2) + 2, (P + 2) + 3]) rfl)
          have e_811 : μ803.1 23 2 = P := ((F_805.1 23 (ni hprP (fun P => 23) (fun P => [P + 2, (P + 2) + 1, (P + 2) + 2, (P + 2) + 3]) rfl) 2).trans (hs_791.trans hi_712))
          have e_812 : μ803.1 23 8 = tt := ((F_805.1 23 (ni hprP (fun P => 23) (fun P => [P + 2, (P + 2) + 1, (P + 2) + 2, (P + 2) + 3]) rfl) 8).trans (hs_795.trans hi_716))
          have hk_813 := hi_720.pr (p := P) hprP
          unfold pk at hk_813
          have hc_814 : 16 ≤ μL693.2.1 (P + 1) ∧ μL693.2.1 (P + 1) ≤ 73024 := hi_720.rm.1 _ hprP.cap
          have e_815 : μ803.1 P 1 = μL693.1 P 1 := ((F_805.1 P (ni hprP (fun P => P) (fun P => [P + 2, (P + 2) + 1, (P + 2) + 2, (P + 2) + 3]) rfl) 1).trans (F_781.1 P (ni hprP (fun P => P) (fun P => [26, 23]) rfl) 1))
          have e_816 : μ803.1 P 1 = μL693.1 P 1 := ((F_805.1 P (ni hprP (fun P => P) (fun P => [P + 2, (P + 2) + 1, (P + 2) + 2, (P + 2) + 3]) rfl) 1).trans (F_781.1 P (ni hprP (fun P => P) (fun P => [26, 23]) rfl) 1))
          refine xc_vV G (b := 23) (rest := []) (As := [.int (iv x1), .int (iv ((c9 * 4) + x2)), .int (iv r_804), .int (iv f9)]) (c_X7_endOfParts ω l μ803 x1 ((c9 * 4) + x2) r_804 f9 μo (ee + c9) (1) P tt (by unfold ir; omega) (by unfold ir; omega) (by unfold ir; omega) (by unfold ir; omega) hI_806 (by omega) (by omega) (by omega) hpx_810 (Or.inr ⟨by omega, by omega, by omega⟩) (by omega) (by by_cases q1 : x1 = 13; (rw [q1, ef13 (by omega) hx2b]; omega); (rw [show x1 = 14 by omega, ef14 (by omega) hx2b]; omega))) (wm 4 27 rfl rfl) (wm 4 29 rfl rfl) (wm 0 30 rfl rfl) rfl rfl (by decide) rfl (wm 1 12 rfl rfl) (wm 4 30 rfl rfl) (by decide) hR ⟨nfr hF (by decide), nlo hLo (by decide)⟩ (n := 4) rfl rfl (Nat.le_of_ble_eq_true rfl) hl.1 dX7_arguments_145 (fun μ817 ρ d0 H locs hp G => ?_)
          obtain ⟨F_818, hI_819, hp_820, hs_821, hs_822⟩ := hp
          have hpx_823 : μ817.1 26 11 = 0 → PXE μo μ817 P tt 1 (-1) 1 := fun h0 => PXE.of (hp_820 (by have h9 : μ803.1 26 11 = μ780.1 26 11 := (F_805.1 26 (ni hprP (fun P => 26) (fun P => [P + 2, (P + 2) + 1, (P + 2) + 2, (P + 2) + 3]) rfl) 11); have h8 : μ817.1 26 11 = μ780.1 26 11 := ((F_818.1 26 (ni hprP (fun P => 26) (fun P => [P, P + 1]) rfl) 11).trans (F_805.1 26 (ni hprP (fun P => 26) (fun P => [P + 2, (P + 2) + 1, (P + 2) + 2, (P + 2) + 3]) rfl) 11)); omega))
          clear hp_820
          have htk_824 : TK μ817 := hp_783.fr (K := [P, P + 1, P + 2, (P + 2) + 1, (P + 2) + 2, (P + 2) + 3]) (Fr.tr (Fr.tr Fr.rf F_805 (si hprP (fun P => [P + 2, (P + 2) + 1, (P + 2) + 2, (P + 2) + 3]) (fun P => [P, P + 1, P + 2, (P + 2) + 1, (P + 2) + 2, (P + 2) + 3]) rfl)) F_818 (si hprP (fun P => [P, P + 1]) (fun P => [P, P + 1, P + 2, (P + 2) + 1, (P + 2) + 2, (P + 2) + 3]) rfl)) (ni hprP (fun P => 26) (fun P => [P, P + 1, P + 2, (P + 2) + 1, (P + 2) + 2, (P + 2) + 3]) rfl) (ni hprP (fun P => 28) (fun P => [P, P + 1, P + 2, (P + 2) + 1, (P + 2) + 2, (P + 2) + 3]) rfl)
          have e_825 : μ817.1 26 11 = μ780.1 26 11 := ((F_818.1 26 (ni hprP (fun P => 26) (fun P => [P, P + 1]) rfl) 11).trans (F_805.1 26 (ni hprP (fun P => 26) (fun P => [P + 2, (P + 2) + 1, (P + 2) + 2, (P + 2) + 3]) rfl) 11))
          have e_826 : μ817.1 26 11 = μ780.1 26 11 := ((F_818.1 26 (ni hprP (fun P => 26) (fun P => [P, P + 1]) rfl) 11).trans (F_805.1 26 (ni hprP (fun P => 26) (fun P => [P + 2, (P + 2) + 1, (P + 2) + 2, (P + 2) + 3]) rfl) 11))
          have e_827 : μ817.1 26 10 = μ780.1 26 10 := ((F_818.1 26 (ni hprP (fun P => 26) (fun P => [P, P + 1]) rfl) 10).trans (F_805.1 26 (ni hprP (fun P => 26) (fun P => [P + 2, (P + 2) + 1, (P + 2) + 2, (P + 2) + 3]) rfl) 10))
          have e_828 : μ817.1 P 1 = μ803.1 P 1 + 1 := hs_821
          have e_829 : μ817.1 P 1 = μ803.1 P 1 + 1 := hs_821
          have e_830 : μ817.1 26 10 = μ780.1 26 10 := ((F_818.1 26 (ni hprP (fun P => 26) (fun P => [P, P + 1]) rfl) 10).trans (F_805.1 26 (ni hprP (fun P => 26) (fun P => [P + 2, (P + 2) + 1, (P + 2) + 2, (P + 2) + 3]) rfl) 10))
          have e_831 : μ817.1 26 11 = μ780.1 26 11 := ((F_818.1 26 (ni hprP (fun P => 26) (fun P => [P, P + 1]) rfl) 11).trans (F_805.1 26 (ni hprP (fun P => 26) (fun P => [P + 2, (P + 2) + 1, (P + 2) + 2, (P + 2) + 3]) rfl) 11))
          have e_832 : μ817.1 (P + 2) 3 = μ803.1 (P + 2) 3 := (F_818.1 (P + 2) (ni hprP (fun P => P + 2) (fun P => [P, P + 1]) rfl) 3)
          have e_833 : μ817.1 P 1 = μ803.1 P 1 + 1 := hs_821
          have e_834 : μ817.1 (P + 2) 3 = μ803.1 (P + 2) 3 := (F_818.1 (P + 2) (ni hprP (fun P => P + 2) (fun P => [P, P + 1]) rfl) 3)
          have e_835 : μ817.1 23 9 = μL693.1 23 9 - 1 := ((F_818.1 23 (ni hprP (fun P => 23) (fun P => [P, P + 1]) rfl) 9).trans ((F_805.1 23 (ni hprP (fun P => 23) (fun P => [P + 2, (P + 2) + 1, (P + 2) + 2, (P + 2) + 3]) rfl) 9).trans hs_786))
          exact xr_v G hret hlk dX7_arguments_148 ⟨(Fr.tr (Fr.tr (Fr.tr (Fr.tr (Fr.tr Fr.rf F_663 (si hprP (fun P => [26, 23]) (fun P => [2, 3, 4, 23, 24, 26, P, P + 1, P + 2, (P + 2) + 1, (P + 2) + 2, (P + 2) + 3]) rfl)) FL694 (si hprP (fun P => [2, 3, 4, 23, 24, 26, P, P + 1, P + 2, (P + 2) + 1, (P + 2) + 2, (P + 2) + 3]) (fun P => [2, 3, 4, 23, 24, 26, P, P + 1, P + 2, (P + 2) + 1, (P + 2) + 2, (P + 2) + 3]) rfl)) F_781 (si hprP (fun P => [26, 23]) (fun P => [2, 3, 4, 23, 24, 26, P, P + 1, P + 2, (P + 2) + 1, (P + 2) + 2, (P + 2) + 3]) rfl)) F_805 (si hprP (fun P => [P + 2, (P + 2) + 1, (P + 2) + 2, (P + 2) + 3]) (fun P => [2, 3, 4, 23, 24, 26, P, P + 1, P + 2, (P + 2) + 1, (P + 2) + 2, (P + 2) + 3]) rfl)) F_818 (si hprP (fun P => [P, P + 1]) (fun P => [2, 3, 4, 23, 24, 26, P, P + 1, P + 2, (P + 2) + 1, (P + 2) + 2, (P + 2) + 3]) rfl)), hI_819, htk_824, (by omega), (by omega), (by omega), (by omega), (fun h0 => (PXE.ex (hpx_823 h0)).e (by omega)), (((F_818.1 23 (ni hprP (fun P => 23) (fun P => [P, P + 1]) rfl) 2).trans ((F_805.1 23 (ni hprP (fun P => 23) (fun P => [P + 2, (P + 2) + 1, (P + 2) + 2, (P + 2) + 3]) rfl) 2).trans (hs_791.trans hi_712)))).trans hP, ((F_818.1 23 (ni hprP (fun P => 23) (fun P => [P, P + 1]) rfl) 5).trans ((F_805.1 23 (ni hprP (fun P => 23) (fun P => [P + 2, (P + 2) + 1, (P + 2) + 2, (P + 2) + 3]) rfl) 5).trans (hs_792.trans hi_713))), ((F_818.1 23 (ni hprP (fun P => 23) (fun P => [P, P + 1]) rfl) 6).trans ((F_805.1 23 (ni hprP (fun P => 23) (fun P => [P + 2, (P + 2) + 1, (P + 2) + 2, (P + 2) + 3]) rfl) 6).trans (hs_793.trans hi_714))), ((F_818.1 23 (ni hprP (fun P => 23) (fun P => [P, P + 1]) rfl) 7).trans ((F_805.1 23 (ni hprP (fun P => 23) (fun P => [P + 2, (P + 2) + 1, (P + 2) + 2, (P + 2) + 3]) rfl) 7).trans (hs_794.trans hi_715))), (((F_818.1 23 (ni hprP (fun P => 23) (fun P => [P, P + 1]) rfl) 8).trans ((F_805.1 23 (ni hprP (fun P => 23) (fun P => [P + 2, (P + 2) + 1, (P + 2) + 2, (P + 2) + 3]) rfl) 8).trans (hs_795.trans hi_716)))).trans htt, (by omega), ((F_818.1 23 (ni hprP (fun P => 23) (fun P => [P, P + 1]) rfl) 10).trans ((F_805.1 23 (ni hprP (fun P => 23) (fun P => [P + 2, (P + 2) + 1, (P + 2) + 2, (P + 2) + 3]) rfl) 10).trans (hs_796.trans hi_717))), ((F_818.1 26 (ni hprP (fun P => 26) (fun P => [P, P + 1]) rfl) 6).trans ((F_805.1 26 (ni hprP (fun P => 26) (fun P => [P + 2, (P + 2) + 1, (P + 2) + 2, (P + 2) + 3]) rfl) 6).trans (hs_787.trans hi_718))), (hs_822.trans ((F_805.1 P (ni hprP (fun P => P) (fun P => [P + 2, (P + 2) + 1, (P + 2) + 2, (P + 2) + 3]) rfl) 7).trans ((F_781.1 P (ni hprP (fun P => P) (fun P => [26, 23]) rfl) 7).trans hi_719)))⟩
        · refine lv_iload hx hb dX7_arguments_61 (lv_at hl 2 rfl) ?_
          refine lv_bipush (v := iv 8) hx hb dX7_arguments_63 rfl ?_
          refine xb_icmp_lt (tgt := 80) hx hb (by unfold ir; omega) (by unfold ir; omega) dX7_arguments_65 (by decide) (fun c_65 => ?_) (fun c_65 => ?_)
          · refine lv_aload_n hx hb dX7_arguments_80 rfl (lv_at hl 5 rfl) ?_
            refine lv_iconst (v := iv 0) hx hb dX7_arguments_81 rfl ?_
            have e_836 : μL693.1 23 2 = P := hi_712
            have e_837 : μL693.1 23 8 = tt := hi_716
            have hk_838 := hi_720.pr (p := P) hprP
            unfold pk at hk_838
            have hc_839 : 16 ≤ μL693.2.1 (P + 1) ∧ μL693.2.1 (P + 1) ≤ 73024 := hi_720.rm.1 _ hprP.cap
            have hn_840 : -1 ≤ μL693.1 26 10 ∧ μL693.1 26 10 ≤ 3000 := hi_720.nm.2.2.2.2.2.2.2.2.2.2.2.2
            have hk_841 := hi_720.row (r := P + 2) (hprP.row)
            unfold rk at hk_841
            refine xc_vV G (b := 23) (rest := []) (As := [.int (iv 0)]) (((fun (_ : Om) (_ : Launch) => hE)) ω l μL693 0 P tt (by omega) hi_720 (by omega) (by omega) hi_705 (by omega) (by omega) (by omega) (by omega) (by omega) (fun _ => Or.inl (by omega))) (wm 4 3 rfl rfl) (wm 4 5 rfl rfl) (wm 0 24 rfl rfl) rfl rfl (by decide) rfl (wm 1 12 rfl rfl) (wm 4 6 rfl rfl) (by decide) hR ⟨sfr (F := F) (a := 0) (by decide), slo (L := Lo) (m := 3) (a := 0) (by decide)⟩ (n := 1) rfl rfl (Nat.le_of_ble_eq_true rfl) hl.1 dX7_arguments_82 (fun μ842 ρ d0 H locs hp G => ?_)
            obtain ⟨F_843, hI_844, hp_845, hp_846, hp_847, hp_848, hp_849, hp_850, hs_851, hs_852, hs_853, hs_854, hs_855, hs_856, hs_857, hs_858, hs_859⟩ := hp
            have hn_860 : -1 ≤ μ842.1 26 10 ∧ μ842.1 26 10 ≤ 3000 := hI_844.nm.2.2.2.2.2.2.2.2.2.2.2.2
            have hk_861 := hI_844.pr (p := P) hprP
            unfold pk at hk_861
            have hc_862 : 16 ≤ μ842.2.1 (P + 1) ∧ μ842.2.1 (P + 1) ≤ 73024 := hI_844.rm.1 _ hprP.cap
            have hk_863 := hI_844.row (r := P + 2) (hprP.row)
            unfold rk at hk_863
            have htb_864 := hp_845.b
            have hpx_865 : μ842.1 26 11 = 0 → PXE μo μ842 P tt ((ee + c9) + (1 - 0)) f9 1 := fun h0 => (PXE.app (hi_711 (by have h9 : μL693.1 26 11 = μL693.1 26 11 := rfl; have h8 : μ842.1 26 11 = μ842.1 26 11 := rfl; omega)) (hp_850 h0)).e (by omega)
            refine lv_aload_n hx hb dX7_arguments_85 rfl (lv_at hl 5 rfl) ?_
            refine lv_iload hx hb dX7_arguments_86 (lv_at hl 3 rfl) ?_
            refine lv_iload hx hb dX7_arguments_88 (lv_at hl 4 rfl) ?_
            refine lv_iload hx hb dX7_arguments_90 (lv_at hl 2 rfl) ?_
            refine xb_iadd hx hb dX7_arguments_92 ?_
            have e_866 : μ842.1 23 2 = P := (hs_851.trans hi_712)
            have e_867 : μ842.1 23 8 = tt := (hs_855.trans hi_716)
            refine xc_iV G (b := 23) (rest := []) (As := [.int (iv f9), .int (iv (1 + c9))]) (c_X7_ifFails ω l μ842 f9 (1 + c9) μo ((ee + c9) + (1 - 0)) (1) P tt (by unfold ir; omega) (by unfold ir; omega) hI_844 (by omega) (by omega) (by omega) hpx_865 (by omega) (by omega)) (wm 4 23 rfl rfl) (wm 4 25 rfl rfl) (wm 0 29 rfl rfl) rfl rfl (by decide) rfl (wm 1 12 rfl rfl) (wm 4 26 rfl rfl) (by decide) hR ⟨nfr hF (by decide), nlo hLo (by decide)⟩ (n := 2) rfl rfl (Nat.le_of_ble_eq_true rfl) hl.1 dX7_arguments_93 (fun r_869 μ868 ρ d0 H locs hr_r_869 hp G => ?_)
            have hr_r_869 : -2147483648 ≤ r_869 ∧ r_869 ≤ 2147483647 := hr_r_869
            obtain ⟨F_870, hI_871, hp_872, hp_873, hs_874⟩ := hp
            have hk_875 := hI_871.pr (p := P) hprP
            unfold pk at hk_875
            have hc_876 : 16 ≤ μ868.2.1 (P + 1) ∧ μ868.2.1 (P + 1) ≤ 73024 := hI_871.rm.1 _ hprP.cap
            have hpx_877 : μ868.1 26 11 = 0 → PXE μo μ868 P tt ((ee + c9) + (1 - 0)) r_869 1 := fun h0 => hp_872 (by have h9 : μ842.1 26 11 = μ842.1 26 11 := rfl; have h8 : μ868.1 26 11 = μ842.1 26 11 := (F_870.1 26 (ni hprP (fun P => 26) (fun P => [P, P + 1]) rfl) 11); omega)
            clear hp_872
            refine lv_istore (lv' := [(7, .int (iv r_869)), (10, .int (iv i9)), (9, .int (iv m9)), (8, .int (iv c9)), (6, .int (iv 1)), (0, .ref (oP ω 23)), (1, .int (iv x1)), (2, .int (iv x2)), (3, .long (jv x3)), (5, .int (iv x4))]) hx hb dX7_arguments_96 hl (by decide) rfl (fun ls hl => ?_)
            refine lv_iinc (v := iv (c9 + 1)) (lv' := [(8, .int (iv (c9 + 1))), (7, .int (iv r_869)), (10, .int (iv i9)), (9, .int (iv m9)), (6, .int (iv 1)), (0, .ref (oP ω 23)), (1, .int (iv x1)), (2, .int (iv x2)), (3, .long (jv x3)), (5, .int (iv x4))]) hx hb dX7_arguments_98 hl (k := 3) rfl (by rw [show Int32.ofInt 1 = iv 1 from rfl, iv_add]) (by decide) rfl (fun ls hl => ?_)
            refine lv_aload_n hx hb dX7_arguments_101 rfl (lv_at hl 5 rfl) ?_
            refine lv_bipush (v := iv 44) hx hb dX7_arguments_102 rfl ?_
            have htk_878 : TK μ868 := hp_845.fr (K := [P, P + 1]) (Fr.tr Fr.rf F_870 (si hprP (fun P => [P, P + 1]) (fun P => [P, P + 1]) rfl)) (ni hprP (fun P => 26) (fun P => [P, P + 1]) rfl) (ni hprP (fun P => 28) (fun P => [P, P + 1]) rfl)
            have e_879 : μ868.1 26 10 = μ842.1 26 10 := (F_870.1 26 (ni hprP (fun P => 26) (fun P => [P, P + 1]) rfl) 10)
            have e_880 : μ868.1 26 11 = μ842.1 26 11 := (F_870.1 26 (ni hprP (fun P => 26) (fun P => [P, P + 1]) rfl) 11)
            refine xc_iV G (b := 23) (rest := []) (As := [.int (iv 44)]) (c_X7_took_b ω l μ868 44 (by unfold ir; omega) hI_871 htk_878 (by omega)) (wm 3 160 rfl rfl) (wm 3 162 rfl rfl) (wm 0 9 rfl rfl) rfl rfl (by decide) rfl (wm 1 12 rfl rfl) (wm 3 163 rfl rfl) (by decide) hR ⟨nfr hF (by decide), nlo hLo (by decide)⟩ (n := 1) rfl rfl (Nat.le_of_ble_eq_true rfl) hl.1 dX7_arguments_104 (fun r_882 μ881 ρ d0 H locs hr_r_882 hp G => ?_)
            have hr_r_882 : -2147483648 ≤ r_882 ∧ r_882 ≤ 2147483647 := hr_r_882
            obtain ⟨F_883, hI_884, hp_885, hp_886, hs_887, hs_888, hs_889, hs_890, hs_891⟩ := hp
            have hn_892 : -1 ≤ μ881.1 26 10 ∧ μ881.1 26 10 ≤ 3000 := hI_884.nm.2.2.2.2.2.2.2.2.2.2.2.2
            have htb_893 := hp_885.b
            refine lv_istore (lv' := [(9, .int (iv r_882)), (8, .int (iv (c9 + 1))), (7, .int (iv r_869)), (10, .int (iv i9)), (6, .int (iv 1)), (0, .ref (oP ω 23)), (1, .int (iv x1)), (2, .int (iv x2)), (3, .long (jv x3)), (5, .int (iv x4))]) hx hb dX7_arguments_107 hl (by decide) rfl (fun ls hl => ?_)
            refine lv_iinc (v := iv (i9 + 1)) (lv' := [(10, .int (iv (i9 + 1))), (9, .int (iv r_882)), (8, .int (iv (c9 + 1))), (7, .int (iv r_869)), (6, .int (iv 1)), (0, .ref (oP ω 23)), (1, .int (iv x1)), (2, .int (iv x2)), (3, .long (jv x3)), (5, .int (iv x4))]) hx hb dX7_arguments_109 hl (k := 3) rfl (by rw [show Int32.ofInt 1 = iv 1 from rfl, iv_add]) (by decide) rfl (fun ls hl => ?_)
            refine lv_goto (tgt := 48) hx hb dX7_arguments_112 (by decide) ?_
            have e_894 : μ881.1 23 9 = μL693.1 23 9 := ((F_883.1 23 (by decide) 9).trans ((F_870.1 23 (ni hprP (fun P => 23) (fun P => [P, P + 1]) rfl) 9).trans hs_856))
            have e_895 : μ881.1 23 9 = μL693.1 23 9 := ((F_883.1 23 (by decide) 9).trans ((F_870.1 23 (ni hprP (fun P => 23) (fun P => [P, P + 1]) rfl) 9).trans hs_856))
            have e_896 : μ881.1 26 11 = μ842.1 26 11 := (hs_887.trans (F_870.1 26 (ni hprP (fun P => 26) (fun P => [P, P + 1]) rfl) 11))
            have e_897 : μ881.1 26 11 = μ842.1 26 11 := (hs_887.trans (F_870.1 26 (ni hprP (fun P => 26) (fun P => [P, P + 1]) rfl) 11))
            have e_898 : μ881.1 P 1 = μ868.1 P 1 := (F_883.1 P (ni hprP (fun P => P) (fun P => [26]) rfl) 1)
            have e_899 : μ881.1 P 1 = μ868.1 P 1 := (F_883.1 P (ni hprP (fun P => P) (fun P => [26]) rfl) 1)
            have e_900 : μ881.1 26 11 = μ842.1 26 11 := (hs_887.trans (F_870.1 26 (ni hprP (fun P => 26) (fun P => [P, P + 1]) rfl) 11))
            have e_901 : μ881.1 P 1 = μ868.1 P 1 := (F_883.1 P (ni hprP (fun P => P) (fun P => [26]) rfl) 1)
            have e_902 : μ881.1 (P + 2) 3 = μ842.1 (P + 2) 3 := ((F_883.1 (P + 2) (ni hprP (fun P => P + 2) (fun P => [26]) rfl) 3).trans (F_870.1 (P + 2) (ni hprP (fun P => P + 2) (fun P => [P, P + 1]) rfl) 3))
            have e_903 : μ881.1 P 1 = μ868.1 P 1 := (F_883.1 P (ni hprP (fun P => P) (fun P => [26]) rfl) 1)
            have e_904 : μ881.1 (P + 2) 3 = μ842.1 (P + 2) 3 := ((F_883.1 (P + 2) (ni hprP (fun P => P + 2) (fun P => [26]) rfl) 3).trans (F_870.1 (P + 2) (ni hprP (fun P => P + 2) (fun P => [P, P + 1]) rfl) 3))
            have hpx_905 : μ881.1 26 11 = 0 → PXE μo μ881 P tt ((ee + c9) + (1 - 0)) r_869 1 := fun h0 => (hpx_877 (by have h9 : μ868.1 26 11 = μ842.1 26 11 := (F_870.1 26 (ni hprP (fun P => 26) (fun P => [P, P + 1]) rfl) 11); have h8 : μ881.1 26 11 = μ842.1 26 11 := (hs_887.trans (F_870.1 26 (ni hprP (fun P => 26) (fun P => [P, P + 1]) rfl) 11)); omega)).fr (K := [26]) (Fr.tr Fr.rf F_883 (by decide)) (npL_p (L := [26]) (by decide) hprP).1 (npL_p (L := [26]) (by decide) hprP).2.1
            exact ih _ _ _ _ _ _ _ (by omega) ⟨r_869, c9 + 1, r_882, i9 + 1, (Fr.tr (Fr.tr (Fr.tr FL694 F_843 (si hprP (fun P => [2, 3, 4, 23, 24, 26, P, P + 1, P + 2, (P + 2) + 1, (P + 2) + 2, (P + 2) + 3]) (fun P => [2, 3, 4, 23, 24, 26, P, P + 1, P + 2, (P + 2) + 1, (P + 2) + 2, (P + 2) + 3]) rfl)) F_870 (si hprP (fun P => [P, P + 1]) (fun P => [2, 3, 4, 23, 24, 26, P, P + 1, P + 2, (P + 2) + 1, (P + 2) + 2, (P + 2) + 3]) rfl)) F_883 (si hprP (fun P => [26]) (fun P => [2, 3, 4, 23, 24, 26, P, P + 1, P + 2, (P + 2) + 1, (P + 2) + 2, (P + 2) + 3]) rfl)), (by omega), (by omega), (by omega), (by omega), (by omega), (by omega), (by omega), (by omega), (by omega), hp_885, (by omega), (by omega), (by omega), (by omega), (by omega), (fun h0 => (hpx_905 h0).e (by omega)), ((F_883.1 23 (by decide) 2).trans ((F_870.1 23 (ni hprP (fun P => 23) (fun P => [P, P + 1]) rfl) 2).trans (hs_851.trans hi_712))), ((F_883.1 23 (by decide) 5).trans ((F_870.1 23 (ni hprP (fun P => 23) (fun P => [P, P + 1]) rfl) 5).trans (hs_852.trans hi_713))), ((F_883.1 23 (by decide) 6).trans ((F_870.1 23 (ni hprP (fun P => 23) (fun P => [P, P + 1]) rfl) 6).trans (hs_853.trans hi_714))), ((F_883.1 23 (by decide) 7).trans ((F_870.1 23 (ni hprP (fun P => 23) (fun P => [P, P + 1]) rfl) 7).trans (hs_854.trans hi_715))), ((F_883.1 23 (by decide) 8).trans ((F_870.1 23 (ni hprP (fun P => 23) (fun P => [P, P + 1]) rfl) 8).trans (hs_855.trans hi_716))), ((F_883.1 23 (by decide) 10).trans ((F_870.1 23 (ni hprP (fun P => 23) (fun P => [P, P + 1]) rfl) 10).trans (hs_857.trans hi_717))), (hs_888.trans ((F_870.1 26 (ni hprP (fun P => 26) (fun P => [P, P + 1]) rfl) 6).trans (hs_858.trans hi_718))), ((F_883.1 P (ni hprP (fun P => P) (fun P => [26]) rfl) 7).trans (hs_874.trans (hs_859.trans hi_719))), hI_884, rfl, lv_sub hl [0, 1, 2, 3, 4, 5, 6, 7, 8, 9] rfl⟩ G
          · refine lv_aload_n hx hb dX7_arguments_68 rfl (lv_at hl 5 rfl) ?_
            refine lv_iconst (v := iv 2) hx hb dX7_arguments_69 rfl ?_
            refine lv_aload_n hx hb dX7_arguments_70 rfl (lv_at hl 5 rfl) ?_
            refine xa_getr G fd_X7 (a := 23) (x := 26) 0 rfl (by decide) rfl (wm 2 17 rfl rfl) ⟨rfl, rfl, rfl⟩ dX7_arguments_71 rfl (G.sk 23 rfl) (by decide) rfl ?_
            refine xa_getN G fd_X10 (host := "FourTongues") (a := 26) 13 rfl (by decide) (by decide) ⟨rfl, rfl, rfl⟩ dX7_arguments_74 rfl (v := .int (iv (μL693.1 26 13))) (by rw [show μL693.1 26 13 = μL693.1 26 13 from rfl]; rfl) ?_
            have hr_906 : -2147483648 ≤ μL693.1 26 13 ∧ μL693.1 26 13 ≤ 2147483647 := by have h9 := G.hr (a := 26) (k := 13) rfl; exact h9
            refine xc_vV G (b := 23) (rest := []) (As := [.int (iv 2), .int (iv (μL693.1 26 13))]) (c_X7_tellFault ω l μL693 2 (μL693.1 26 13) (by unfold ir; omega) (by unfold ir; omega) hi_720 (by omega)) (wm 3 177 rfl rfl) (wm 3 179 rfl rfl) (wm 0 12 rfl rfl) rfl rfl (by decide) rfl (wm 1 12 rfl rfl) (wm 3 180 rfl rfl) (by decide) hR ⟨nfr hF (by decide), nlo hLo (by decide)⟩ (n := 2) rfl rfl (Nat.le_of_ble_eq_true rfl) hl.1 dX7_arguments_77 (fun μ907 ρ d0 H locs hp G => ?_)
            obtain ⟨F_908, hI_909⟩ := hp
            refine lv_aload_n hx hb dX7_arguments_80 rfl (lv_at hl 5 rfl) ?_
            refine lv_iconst (v := iv 0) hx hb dX7_arguments_81 rfl ?_
            have hpx_910 : μ907.1 26 11 = 0 → PXE μo μ907 P tt (ee + c9) f9 1 := fun h0 => (hi_711 (by have h9 : μL693.1 26 11 = μL693.1 26 11 := rfl; have h8 : μ907.1 26 11 = μL693.1 26 11 := (F_908.1 26 (by decide) 11); omega)).fr (K := [24]) (Fr.tr Fr.rf F_908 (by decide)) (npL_p (L := [24]) (by decide) hprP).1 (npL_p (L := [24]) (by decide) hprP).2.1
            have e_911 : μ907.1 23 2 = P := ((F_908.1 23 (by decide) 2).trans hi_712)
            have e_912 : μ907.1 23 8 = tt := ((F_908.1 23 (by decide) 8).trans hi_716)
            have htk_913 : TK μ907 := hi_705.fr (K := [24]) (Fr.tr Fr.rf F_908 (by decide)) (by decide) (by decide)
            have hk_914 := hi_720.pr (p := P) hprP
            unfold pk at hk_914
            have hc_915 : 16 ≤ μL693.2.1 (P + 1) ∧ μL693.2.1 (P + 1) ≤ 73024 := hi_720.rm.1 _ hprP.cap
            have e_916 : μ907.1 P 1 = μL693.1 P 1 := (F_908.1 P (ni hprP (fun P => P) (fun P => [24]) rfl) 1)
            have hn_917 : -1 ≤ μL693.1 26 10 ∧ μL693.1 26 10 ≤ 3000 := hi_720.nm.2.2.2.2.2.2.2.2.2.2.2.2
            have e_918 : μ907.1 26 10 = μL693.1 26 10 := (F_908.1 26 (by decide) 10)
            have e_919 : μ907.1 26 11 = μL693.1 26 11 := (F_908.1 26 (by decide) 11)
            have hk_920 := hi_720.row (r := P + 2) (hprP.row)
            unfold rk at hk_920
            have e_921 : μ907.1 (P + 2) 3 = μL693.1 (P + 2) 3 := (F_908.1 (P + 2) (ni hprP (fun P => P + 2) (fun P => [24]) rfl) 3)
            have e_922 : μ907.1 P 1 = μL693.1 P 1 := (F_908.1 P (ni hprP (fun P => P) (fun P => [24]) rfl) 1)
            have e_923 : μ907.1 23 9 = μL693.1 23 9 := (F_908.1 23 (by decide) 9)
            have e_924 : μ907.1 23 9 = μL693.1 23 9 := (F_908.1 23 (by decide) 9)
            have e_925 : μ907.1 26 11 = μL693.1 26 11 := (F_908.1 26 (by decide) 11)
            have e_926 : μ907.1 23 9 = μL693.1 23 9 := (F_908.1 23 (by decide) 9)
            have e_927 : μ907.1 26 11 = μL693.1 26 11 := (F_908.1 26 (by decide) 11)
            have e_928 : μ907.1 26 11 = μL693.1 26 11 := (F_908.1 26 (by decide) 11)
            have e_929 : μ907.1 26 10 = μL693.1 26 10 := (F_908.1 26 (by decide) 10)
            have e_930 : μ907.1 P 1 = μL693.1 P 1 := (F_908.1 P (ni hprP (fun P => P) (fun P => [24]) rfl) 1)
            have e_931 : μ907.1 P 1 = μL693.1 P 1 := (F_908.1 P (ni hprP (fun P => P) (fun P => [24]) rfl) 1)
            have e_932 : μ907.1 26 10 = μL693.1 26 10 := (F_908.1 26 (by decide) 10)
            have e_933 : μ907.1 26 11 = μL693.1 26 11 := (F_908.1 26 (by decide) 11)
            have e_934 : μ907.1 (P + 2) 3 = μL693.1 (P + 2) 3 := (F_908.1 (P + 2) (ni hprP (fun P => P + 2) (fun P => [24]) rfl) 3)
            have e_935 : μ907.1 P 1 = μL693.1 P 1 := (F_908.1 P (ni hprP (fun P => P) (fun P => [24]) rfl) 1)
            have e_936 : μ907.1 (P + 2) 3 = μL693.1 (P + 2) 3 := (F_908.1 (P + 2) (ni hprP (fun P => P + 2) (fun P => [24]) rfl) 3)
            refine xc_vV G (b := 23) (rest := []) (As := [.int (iv 0)]) (((fun (_ : Om) (_ : Launch) => hE)) ω l μ907 0 P tt (by omega) hI_909 (by omega) (by omega) htk_913 (by omega) (by omega) (by omega) (by omega) (by omega) (fun _ => Or.inl (by omega))) (wm 4 3 rfl rfl) (wm 4 5 rfl rfl) (wm 0 24 rfl rfl) rfl rfl (by decide) rfl (wm 1 12 rfl rfl) (wm 4 6 rfl rfl) (by decide) hR ⟨sfr (F := F) (a := 0) (by decide), slo (L := Lo) (m := 3) (a := 0) (by decide)⟩ (n := 1) rfl rfl (Nat.le_of_ble_eq_true rfl) hl.1 dX7_arguments_82 (fun μ937 ρ d0 H locs hp G => ?_)
            obtain ⟨F_938, hI_939, hp_940, hp_941, hp_942, hp_943, hp_944, hp_945, hs_946, hs_947, hs_948, hs_949, hs_950, hs_951, hs_952, hs_953, hs_954⟩ := hp
            have hn_955 : -1 ≤ μ937.1 26 10 ∧ μ937.1 26 10 ≤ 3000 := hI_939.nm.2.2.2.2.2.2.2.2.2.2.2.2
            have hk_956 := hI_939.pr (p := P) hprP
            unfold pk at hk_956
            have hc_957 : 16 ≤ μ937.2.1 (P + 1) ∧ μ937.2.1 (P + 1) ≤ 73024 := hI_939.rm.1 _ hprP.cap
            have hk_958 := hI_939.row (r := P + 2) (hprP.row)
            unfold rk at hk_958
            have htb_959 := hp_940.b
            have hpx_960 : μ937.1 26 11 = 0 → PXE μo μ937 P tt ((ee + c9) + (1 - 0)) f9 1 := fun h0 => (PXE.app (hpx_910 (by have h9 : μ907.1 26 11 = μL693.1 26 11 := (F_908.1 26 (by decide) 11); have h8 : μ937.1 26 11 = μ937.1 26 11 := rfl; omega)) (hp_945 h0)).e (by omega)
            refine lv_aload_n hx hb dX7_arguments_85 rfl (lv_at hl 5 rfl) ?_
            refine lv_iload hx hb dX7_arguments_86 (lv_at hl 3 rfl) ?_
            refine lv_iload hx hb dX7_arguments_88 (lv_at hl 4 rfl) ?_
            refine lv_iload hx hb dX7_arguments_90 (lv_at hl 2 rfl) ?_
            refine xb_iadd hx hb dX7_arguments_92 ?_
            have e_961 : μ937.1 23 2 = P := (hs_946.trans ((F_908.1 23 (by decide) 2).trans hi_712))
            have e_962 : μ937.1 23 8 = tt := (hs_950.trans ((F_908.1 23 (by decide) 8).trans hi_716))
            refine xc_iV G (b := 23) (rest := []) (As := [.int (iv f9), .int (iv (1 + c9))]) (c_X7_ifFails ω l μ937 f9 (1 + c9) μo ((ee + c9) + (1 - 0)) (1) P tt (by unfold ir; omega) (by unfold ir; omega) hI_939 (by omega) (by omega) (by omega) hpx_960 (by omega) (by omega)) (wm 4 23 rfl rfl) (wm 4 25 rfl rfl) (wm 0 29 rfl rfl) rfl rfl (by decide) rfl (wm 1 12 rfl rfl) (wm 4 26 rfl rfl) (by decide) hR ⟨nfr hF (by decide), nlo hLo (by decide)⟩ (n := 2) rfl rfl (Nat.le_of_ble_eq_true rfl) hl.1 dX7_arguments_93 (fun r_964 μ963 ρ d0 H locs hr_r_964 hp G => ?_)
            have hr_r_964 : -2147483648 ≤ r_964 ∧ r_964 ≤ 2147483647 := hr_r_964
            obtain ⟨F_965, hI_966, hp_967, hp_968, hs_969⟩ := hp
            have hk_970 := hI_966.pr (p := P) hprP
            unfold pk at hk_970
            have hc_971 : 16 ≤ μ963.2.1 (P + 1) ∧ μ963.2.1 (P + 1) ≤ 73024 := hI_966.rm.1 _ hprP.cap
            have hpx_972 : μ963.1 26 11 = 0 → PXE μo μ963 P tt ((ee + c9) + (1 - 0)) r_964 1 := fun h0 => hp_967 (by have h9 : μ937.1 26 11 = μ937.1 26 11 := rfl; have h8 : μ963.1 26 11 = μ937.1 26 11 := (F_965.1 26 (ni hprP (fun P => 26) (fun P => [P, P + 1]) rfl) 11); omega)
            clear hp_967
            refine lv_istore (lv' := [(7, .int (iv r_964)), (10, .int (iv i9)), (9, .int (iv m9)), (8, .int (iv c9)), (6, .int (iv 1)), (0, .ref (oP ω 23)), (1, .int (iv x1)), (2, .int (iv x2)), (3, .long (jv x3)), (5, .int (iv x4))]) hx hb dX7_arguments_96 hl (by decide) rfl (fun ls hl => ?_)
            refine lv_iinc (v := iv (c9 + 1)) (lv' := [(8, .int (iv (c9 + 1))), (7, .int (iv r_964)), (10, .int (iv i9)), (9, .int (iv m9)), (6, .int (iv 1)), (0, .ref (oP ω 23)), (1, .int (iv x1)), (2, .int (iv x2)), (3, .long (jv x3)), (5, .int (iv x4))]) hx hb dX7_arguments_98 hl (k := 3) rfl (by rw [show Int32.ofInt 1 = iv 1 from rfl, iv_add]) (by decide) rfl (fun ls hl => ?_)
            refine lv_aload_n hx hb dX7_arguments_101 rfl (lv_at hl 5 rfl) ?_
            refine lv_bipush (v := iv 44) hx hb dX7_arguments_102 rfl ?_
            have htk_973 : TK μ963 := hp_940.fr (K := [P, P + 1]) (Fr.tr Fr.rf F_965 (si hprP (fun P => [P, P + 1]) (fun P => [P, P + 1]) rfl)) (ni hprP (fun P => 26) (fun P => [P, P + 1]) rfl) (ni hprP (fun P => 28) (fun P => [P, P + 1]) rfl)
            have e_974 : μ963.1 26 10 = μ937.1 26 10 := (F_965.1 26 (ni hprP (fun P => 26) (fun P => [P, P + 1]) rfl) 10)
            have e_975 : μ963.1 26 11 = μ937.1 26 11 := (F_965.1 26 (ni hprP (fun P => 26) (fun P => [P, P + 1]) rfl) 11)
            refine xc_iV G (b := 23) (rest := []) (As := [.int (iv 44)]) (c_X7_took_b ω l μ963 44 (by unfold ir; omega) hI_966 htk_973 (by omega)) (wm 3 160 rfl rfl) (wm 3 162 rfl rfl) (wm 0 9 rfl rfl) rfl rfl (by decide) rfl (wm 1 12 rfl rfl) (wm 3 163 rfl rfl) (by decide) hR ⟨nfr hF (by decide), nlo hLo (by decide)⟩ (n := 1) rfl rfl (Nat.le_of_ble_eq_true rfl) hl.1 dX7_arguments_104 (fun r_977 μ976 ρ d0 H locs hr_r_977 hp G => ?_)
            have hr_r_977 : -2147483648 ≤ r_977 ∧ r_977 ≤ 2147483647 := hr_r_977
            obtain ⟨F_978, hI_979, hp_980, hp_981, hs_982, hs_983, hs_984, hs_985, hs_986⟩ := hp
            have hn_987 : -1 ≤ μ976.1 26 10 ∧ μ976.1 26 10 ≤ 3000 := hI_979.nm.2.2.2.2.2.2.2.2.2.2.2.2
            have htb_988 := hp_980.b
            refine lv_istore (lv' := [(9, .int (iv r_977)), (8, .int (iv (c9 + 1))), (7, .int (iv r_964)), (10, .int (iv i9)), (6, .int (iv 1)), (0, .ref (oP ω 23)), (1, .int (iv x1)), (2, .int (iv x2)), (3, .long (jv x3)), (5, .int (iv x4))]) hx hb dX7_arguments_107 hl (by decide) rfl (fun ls hl => ?_)
            refine lv_iinc (v := iv (i9 + 1)) (lv' := [(10, .int (iv (i9 + 1))), (9, .int (iv r_977)), (8, .int (iv (c9 + 1))), (7, .int (iv r_964)), (6, .int (iv 1)), (0, .ref (oP ω 23)), (1, .int (iv x1)), (2, .int (iv x2)), (3, .long (jv x3)), (5, .int (iv x4))]) hx hb dX7_arguments_109 hl (k := 3) rfl (by rw [show Int32.ofInt 1 = iv 1 from rfl, iv_add]) (by decide) rfl (fun ls hl => ?_)
            refine lv_goto (tgt := 48) hx hb dX7_arguments_112 (by decide) ?_
            have e_989 : μ976.1 23 9 = μL693.1 23 9 := ((F_978.1 23 (by decide) 9).trans ((F_965.1 23 (ni hprP (fun P => 23) (fun P => [P, P + 1]) rfl) 9).trans (hs_951.trans (F_908.1 23 (by decide) 9))))
            have e_990 : μ976.1 23 9 = μL693.1 23 9 := ((F_978.1 23 (by decide) 9).trans ((F_965.1 23 (ni hprP (fun P => 23) (fun P => [P, P + 1]) rfl) 9).trans (hs_951.trans (F_908.1 23 (by decide) 9))))
            have e_991 : μ976.1 26 11 = μ937.1 26 11 := (hs_982.trans (F_965.1 26 (ni hprP (fun P => 26) (fun P => [P, P + 1]) rfl) 11))
            have e_992 : μ976.1 26 11 = μ937.1 26 11 := (hs_982.trans (F_965.1 26 (ni hprP (fun P => 26) (fun P => [P, P + 1]) rfl) 11))
            have e_993 : μ976.1 P 1 = μ963.1 P 1 := (F_978.1 P (ni hprP (fun P => P) (fun P => [26]) rfl) 1)
            have e_994 : μ976.1 P 1 = μ963.1 P 1 := (F_978.1 P (ni hprP (fun P => P) (fun P => [26]) rfl) 1)
            have e_995 : μ976.1 26 11 = μ937.1 26 11 := (hs_982.trans (F_965.1 26 (ni hprP (fun P => 26) (fun P => [P, P + 1]) rfl) 11))
            have e_996 : μ976.1 P 1 = μ963.1 P 1 := (F_978.1 P (ni hprP (fun P => P) (fun P => [26]) rfl) 1)
            have e_997 : μ976.1 (P + 2) 3 = μ937.1 (P + 2) 3 := ((F_978.1 (P + 2) (ni hprP (fun P => P + 2) (fun P => [26]) rfl) 3).trans (F_965.1 (P + 2) (ni hprP (fun P => P + 2) (fun P => [P, P + 1]) rfl) 3))
            have e_998 : μ976.1 P 1 = μ963.1 P 1 := (F_978.1 P (ni hprP (fun P => P) (fun P => [26]) rfl) 1)
            have e_999 : μ976.1 (P + 2) 3 = μ937.1 (P + 2) 3 := ((F_978.1 (P + 2) (ni hprP (fun P => P + 2) (fun P => [26]) rfl) 3).trans (F_965.1 (P + 2) (ni hprP (fun P => P + 2) (fun P => [P, P + 1]) rfl) 3))
            have hpx_1000 : μ976.1 26 11 = 0 → PXE μo μ976 P tt ((ee + c9) + (1 - 0)) r_964 1 := fun h0 => (hpx_972 (by have h9 : μ963.1 26 11 = μ937.1 26 11 := (F_965.1 26 (ni hprP (fun P => 26) (fun P => [P, P + 1]) rfl) 11); have h8 : μ976.1 26 11 = μ937.1 26 11 := (hs_982.trans (F_965.1 26 (ni hprP (fun P => 26) (fun P => [P, P + 1]) rfl) 11)); omega)).fr (K := [26]) (Fr.tr Fr.rf F_978 (by decide)) (npL_p (L := [26]) (by decide) hprP).1 (npL_p (L := [26]) (by decide) hprP).2.1
            exact ih _ _ _ _ _ _ _ (by omega) ⟨r_964, c9 + 1, r_977, i9 + 1, (Fr.tr (Fr.tr (Fr.tr (Fr.tr FL694 F_908 (si hprP (fun P => [24]) (fun P => [2, 3, 4, 23, 24, 26, P, P + 1, P + 2, (P + 2) + 1, (P + 2) + 2, (P + 2) + 3]) rfl)) F_938 (si hprP (fun P => [2, 3, 4, 23, 24, 26, P, P + 1, P + 2, (P + 2) + 1, (P + 2) + 2, (P + 2) + 3]) (fun P => [2, 3, 4, 23, 24, 26, P, P + 1, P + 2, (P + 2) + 1, (P + 2) + 2, (P + 2) + 3]) rfl)) F_965 (si hprP (fun P => [P, P + 1]) (fun P => [2, 3, 4, 23, 24, 26, P, P + 1, P + 2, (P + 2) + 1, (P + 2) + 2, (P + 2) + 3]) rfl)) F_978 (si hprP (fun P => [26]) (fun P => [2, 3, 4, 23, 24, 26, P, P + 1, P + 2, (P + 2) + 1, (P + 2) + 2, (P + 2) + 3]) rfl)), (by omega), (by omega), (by omega), (by omega), (by omega), (by omega), (by omega), (by omega), (by omega), hp_980, (by omega), (by omega), (by omega), (by omega), (by omega), (fun h0 => (hpx_1000 h0).e (by omega)), ((F_978.1 23 (by decide) 2).trans ((F_965.1 23 (ni hprP (fun P => 23) (fun P => [P, P + 1]) rfl) 2).trans (hs_946.trans ((F_908.1 23 (by decide) 2).trans hi_712)))), ((F_978.1 23 (by decide) 5).trans ((F_965.1 23 (ni hprP (fun P => 23) (fun P => [P, P + 1]) rfl) 5).trans (hs_947.trans ((F_908.1 23 (by decide) 5).trans hi_713)))), ((F_978.1 23 (by decide) 6).trans ((F_965.1 23 (ni hprP (fun P => 23) (fun P => [P, P + 1]) rfl) 6).trans (hs_948.trans ((F_908.1 23 (by decide) 6).trans hi_714)))), ((F_978.1 23 (by decide) 7).trans ((F_965.1 23 (ni hprP (fun P => 23) (fun P => [P, P + 1]) rfl) 7).trans (hs_949.trans ((F_908.1 23 (by decide) 7).trans hi_715)))), ((F_978.1 23 (by decide) 8).trans ((F_965.1 23 (ni hprP (fun P => 23) (fun P => [P, P + 1]) rfl) 8).trans (hs_950.trans ((F_908.1 23 (by decide) 8).trans hi_716)))), ((F_978.1 23 (by decide) 10).trans ((F_965.1 23 (ni hprP (fun P => 23) (fun P => [P, P + 1]) rfl) 10).trans (hs_952.trans ((F_908.1 23 (by decide) 10).trans hi_717)))), (hs_983.trans ((F_965.1 26 (ni hprP (fun P => 26) (fun P => [P, P + 1]) rfl) 6).trans (hs_953.trans ((F_908.1 26 (by decide) 6).trans hi_718)))), ((F_978.1 P (ni hprP (fun P => P) (fun P => [26]) rfl) 7).trans (hs_969.trans (hs_954.trans ((F_908.1 P (ni hprP (fun P => P) (fun P => [24]) rfl) 7).trans hi_719)))), hI_979, rfl, lv_sub hl [0, 1, 2, 3, 4, 5, 6, 7, 8, 9] rfl⟩ G
    · refine lv_iconst (v := iv 1) hx hb dX7_arguments_38 rfl ?_
      refine lv_goto (tgt := 43) hx hb dX7_arguments_39 (by decide) ?_
      refine lv_istore (lv' := [(9, .int (iv 1)), (8, .int (iv 0)), (7, .int (iv x4)), (6, .int (iv 1)), (0, .ref (oP ω 23)), (1, .int (iv x1)), (2, .int (iv x2)), (3, .long (jv x3)), (5, .int (iv x4))]) hx hb dX7_arguments_43 hl (by decide) rfl (fun ls hl => ?_)
      refine lv_iconst (v := iv 0) hx hb dX7_arguments_45 rfl ?_
      refine lv_istore (lv' := [(10, .int (iv 0)), (9, .int (iv 1)), (8, .int (iv 0)), (7, .int (iv x4)), (6, .int (iv 1)), (0, .ref (oP ω 23)), (1, .int (iv x1)), (2, .int (iv x2)), (3, .long (jv x3)), (5, .int (iv x4))]) hx hb dX7_arguments_46 hl (by decide) rfl (fun ls hl => ?_)
      have e_1001 : μ662.1 23 9 = μ.1 23 9 + 1 := hs_669
      have e_1002 : μ662.1 23 9 = μ.1 23 9 + 1 := hs_669
      have e_1003 : μ662.1 P 1 = μ.1 P 1 := (F_663.1 P (ni hprP (fun P => P) (fun P => [26, 23]) rfl) 1)
      have e_1004 : μ662.1 P 1 = μ.1 P 1 := (F_663.1 P (ni hprP (fun P => P) (fun P => [26, 23]) rfl) 1)
      have e_1005 : μ662.1 P 1 = μ.1 P 1 := (F_663.1 P (ni hprP (fun P => P) (fun P => [26, 23]) rfl) 1)
      have e_1006 : μ662.1 (P + 2) 3 = μ.1 (P + 2) 3 := (F_663.1 (P + 2) (ni hprP (fun P => P + 2) (fun P => [26, 23]) rfl) 3)
      have e_1007 : μ662.1 P 1 = μ.1 P 1 := (F_663.1 P (ni hprP (fun P => P) (fun P => [26, 23]) rfl) 1)
      have e_1008 : μ662.1 (P + 2) 3 = μ.1 (P + 2) 3 := (F_663.1 (P + 2) (ni hprP (fun P => P + 2) (fun P => [26, 23]) rfl) 3)
      have hk_1009 := hI.row (r := P + 2) (hprP.row)
      unfold rk at hk_1009
      have hpx_1010 : μ662.1 26 11 = 0 → PXE μo μ662 P tt ee x4 1 := fun h0 => (hpx (by have h9 : μ.1 26 11 = μ.1 26 11 := rfl; have h8 : μ662.1 26 11 = μ662.1 26 11 := rfl; omega)).fr (K := [26, 23]) (Fr.tr Fr.rf F_663 (by decide)) (npL_p (L := [26, 23]) (by decide) hprP).1 (npL_p (L := [26, 23]) (by decide) hprP).2.1
      refine xl (fun n_9 μ' ls => ∃ (f9 : Int), ∃ (c9 : Int), ∃ (m9 : Int), ∃ (i9 : Int), (Fr [2, 3, 4, 23, 24, 26, P, P + 1, P + 2, (P + 2) + 1, (P + 2) + 2, (P + 2) + 3] μ662 μ') ∧ (-2147483648 ≤ f9 ∧ f9 ≤ 2147483647) ∧ (-2147483648 ≤ c9 ∧ c9 ≤ 2147483647) ∧ (-2147483648 ≤ m9 ∧ m9 ≤ 2147483647) ∧ (-2147483648 ≤ i9 ∧ i9 ≤ 2147483647) ∧ (0 ≤ c9 ∧ c9 ≤ i9) ∧ (μ'.1 23 9 = μ.1 23 9 + 1) ∧ (μ'.1 23 9 ≤ 8 + μ'.1 26 11) ∧ (i9 ≤ 3000) ∧ (0 ≤ m9 ∧ m9 ≤ 1) ∧ (TK μ') ∧ (μ.1 26 11 ≤ μ'.1 26 11) ∧ (μ.1 26 10 ≤ μ'.1 26 10) ∧ (μ.1 P 1 ≤ μ'.1 P 1 ∧ μ'.1 P 1 ≤ μ.1 P 1 + 2 * (μ'.1 26 10 - μ.1 26 10) + (- 2 + 3 * μ'.1 26 11)) ∧ (μ'.1 P 1 ≤ μ.1 P 1 + 2 * (μ'.1 26 10 - μ.1 26 10) + (1 - m9)) ∧ (μ'.1 (P + 2) 3 - μ.1 (P + 2) 3 ≤ μ'.1 P 1 - μ.1 P 1 ∧ μ.1 (P + 2) 3 ≤ μ'.1 (P + 2) 3) ∧ (μ'.1 26 11 = 0 → PXE μo μ' P tt (ee + c9) f9 1) ∧ (μ'.1 23 2 = P) ∧ (μ'.1 23 5 = μ.1 23 5) ∧ (μ'.1 23 6 = μ.1 23 6) ∧ (μ'.1 23 7 = μ.1 23 7) ∧ (μ'.1 23 8 = tt) ∧ (μ'.1 23 10 = μ.1 23 10) ∧ (μ'.1 26 6 = μ.1 26 6) ∧ (μ'.1 P 7 = μ.1 P 7) ∧ (IC μ') ∧ n_9 = Int.toNat (3000 - i9) ∧ lv_has ls 11 [(10, .int (iv i9)), (9, .int (iv m9)), (8, .int (iv c9)), (7, .int (iv f9)), (6, .int (iv 1)), (0, .ref (oP ω 23)), (1, .int (iv x1)), (2, .int (iv x2)), (3, .long (jv x3)), (5, .int (iv x4))]) (fun n_9 ρ μL1011 d0 H locs ls hI_l G ih => ?_) _ _ _ _ _ _ _ ⟨x4, 0, 1, 0, Fr.rf, (by omega), (by omega), (by omega), (by omega), (by omega), (by omega), (by omega), (by omega), (by omega), hp_665, (by omega), (by omega), (by omega), (by omega), (by omega), (fun h0 => (hpx_1010 h0).e (by omega)), (hs_674.trans hP.symm), hs_675, hs_676, hs_677, (hs_678.trans htt.symm), hs_679, hs_670, (F_663.1 P (ni hprP (fun P => P) (fun P => [26, 23]) rfl) 7), hI_664, rfl, lv_sub hl [0, 1, 2, 3, 4, 5, 6, 7, 8, 9] rfl⟩ G
      obtain ⟨f9, c9, m9, i9, FL1012, hi_1014, hi_1015, hi_1016, hi_1017, hi_1018, hi_1019, hi_1020, hi_1021, hi_1022, hi_1023, hi_1024, hi_1025, hi_1026, hi_1027, hi_1028, hi_1029, hi_1030, hi_1031, hi_1032, hi_1033, hi_1034, hi_1035, hi_1036, hi_1037, hi_1038, hn1013, hl⟩ := hI_l
      have htb_1039 := hi_1023.b
      refine lv_iload hx hb dX7_arguments_48 (lv_at hl 0 rfl) ?_
      refine lv_sipush (v := iv 3000) hx hb dX7_arguments_50 rfl ?_
      refine xb_icmp_ge (tgt := 115) hx hb (by unfold ir; omega) (by unfold ir; omega) dX7_arguments_53 (by decide) (fun c_53 => ?_) (fun c_53 => ?_)
      · refine lv_aload_n hx hb dX7_arguments_115 rfl (lv_at hl 5 rfl) ?_
        refine lv_bipush (v := iv 41) hx hb dX7_arguments_116 rfl ?_
        have hn_1040 : -1 ≤ μL1011.1 26 10 ∧ μL1011.1 26 10 ≤ 3000 := hi_1038.nm.2.2.2.2.2.2.2.2.2.2.2.2
        refine xc_vV G (b := 23) (rest := []) (As := [.int (iv 41)]) (c_X7_needClosed_b ω l μL1011 41 (by unfold ir; omega) hi_1038 hi_1023 (by omega) (by omega)) (wm 3 214 rfl rfl) (wm 3 216 rfl rfl) (wm 0 18 rfl rfl) rfl rfl (by decide) rfl (wm 1 12 rfl rfl) (wm 3 217 rfl rfl) (by decide) hR ⟨nfr hF (by decide), nlo hLo (by decide)⟩ (n := 1) rfl rfl (Nat.le_of_ble_eq_true rfl) hl.1 dX7_arguments_118 (fun μ1041 ρ d0 H locs hp G => ?_)
        obtain ⟨F_1042, hI_1043, hp_1044, hp_1045, hp_1046, hs_1047, hs_1048, hs_1049, hs_1050, hs_1051, hs_1052, hs_1053, hs_1054, hs_1055, hs_1056, hs_1057⟩ := hp
        have hn_1058 : -1 ≤ μ1041.1 26 10 ∧ μ1041.1 26 10 ≤ 3000 := hI_1043.nm.2.2.2.2.2.2.2.2.2.2.2.2
        have htb_1059 := hp_1044.b
        refine lv_aload_n hx hb dX7_arguments_121 rfl (lv_at hl 5 rfl) ?_
        refine xa_getr G fd_X7 (a := 23) (x := P) 2 rfl (by decide) rfl (wm 2 19 rfl rfl) ⟨rfl, rfl, rfl⟩ dX7_arguments_122 rfl (hs_1052.trans hi_1030) (by omega) (hprP.hq ω ρ) ?_
        refine lv_iconst (v := iv 0) hx hb dX7_arguments_125 rfl ?_
        refine lv_lload_n hx hb dX7_arguments_126 rfl (lv_at hl 8 rfl) ?_
        refine lv_dconst0 hx hb dX7_arguments_127 ?_
        refine xb_topd (fun dd_1060 he_dd_1060 => ?_)
        have hpx_1061 : μ1041.1 26 11 = 0 → PXE μo μ1041 P tt (ee + c9) f9 1 := fun h0 => (hi_1029 (by have h9 : μL1011.1 26 11 = μL1011.1 26 11 := rfl; have h8 : μ1041.1 26 11 = μ1041.1 26 11 := rfl; omega)).fr (K := [26, 23]) (Fr.tr Fr.rf F_1042 (by decide)) (npL_p (L := [26, 23]) (by decide) hprP).1 (npL_p (L := [26, 23]) (by decide) hprP).2.1
        have hk_1062 := hi_1038.row (r := P + 2) (hprP.row)
        unfold rk at hk_1062
        have e_1063 : μ1041.1 (P + 2) 3 = μL1011.1 (P + 2) 3 := (F_1042.1 (P + 2) (ni hprP (fun P => P + 2) (fun P => [26, 23]) rfl) 3)
        refine xc_iV G (b := P) (rest := []) (As := [.int (iv 0), .long (jv x3), .double (dv dd_1060)]) (c_X8_addConstant ω l μ1041 P 0 x3 dd_1060 (μL1011.1 (P + 2) 3) hprP (by unfold ir; omega) hx3 hI_1043 (by omega) (by omega)) (wm 4 67 rfl rfl) (wm 4 68 rfl rfl) (wm 4 69 rfl rfl) hprP.ly rfl (by decide) (hprP.hq ω ρ) (wm 1 9 rfl rfl) (wm 4 70 rfl rfl) (by decide) hR ⟨nfr hF (by decide), nlo hLo (by decide)⟩ (n := 3) rfl rfl (Nat.le_of_ble_eq_true rfl) hl.1 dX7_arguments_128 (fun r_1065 μ1064 ρ d0 H locs hr_r_1065 hp G => ?_)
        have hr_r_1065 : -2147483648 ≤ r_1065 ∧ r_1065 ≤ 2147483647 := hr_r_1065
        obtain ⟨F_1066, hI_1067, hp_1068, hp_1069⟩ := hp
        have hk_1070 := hI_1067.row (r := P + 2) (hprP.row)
        unfold rk at hk_1070
        refine lv_istore (lv' := [(10, .int (iv r_1065)), (9, .int (iv m9)), (8, .int (iv c9)), (7, .int (iv f9)), (6, .int (iv 1)), (0, .ref (oP ω 23)), (1, .int (iv x1)), (2, .int (iv x2)), (3, .long (jv x3)), (5, .int (iv x4))]) hx hb dX7_arguments_131 hl (by decide) rfl (fun ls hl => ?_)
        refine lv_aload_n hx hb dX7_arguments_133 rfl (lv_at hl 5 rfl) ?_
        refine lv_iload_n hx hb dX7_arguments_134 rfl (lv_at hl 6 rfl) ?_
        refine lv_iload hx hb dX7_arguments_135 (lv_at hl 2 rfl) ?_
        refine lv_iconst (v := iv 4) hx hb dX7_arguments_137 rfl ?_
        refine xb_imul hx hb dX7_arguments_138 ?_
        refine lv_iload_n hx hb dX7_arguments_139 rfl (lv_at hl 7 rfl) ?_
        refine xb_iadd hx hb dX7_arguments_140 ?_
        refine lv_iload hx hb dX7_arguments_141 (lv_at hl 0 rfl) ?_
        refine lv_iload hx hb dX7_arguments_143 (lv_at hl 3 rfl) ?_
        have hpx_1071 : μ1064.1 26 11 = 0 → PXE μo μ1064 P tt (ee + c9) f9 1 := fun h0 => (hpx_1061 (by have h9 : μ1041.1 26 11 = μ1041.1 26 11 := rfl; have h8 : μ1064.1 26 11 = μ1041.1 26 11 := (F_1066.1 26 (ni hprP (fun P => 26) (fun P => [P + 2, (P + 2) + 1, (P + 2) + 2, (P + 2) + 3]) rfl) 11); omega)).fr (K := [P + 2, (P + 2) + 1, (P + 2) + 2, (P + 2) + 3]) (Fr.tr Fr.rf F_1066 (si hprP (fun P => [P + 2, (P + 2) + 1, (P + 2) + 2, (P + 2) + 3]) (fun P => [P + 2, (P + 2) + 1, (P + 2) + 2, (P + 2) + 3]) rfl)) (ni hprP (fun P => P) (fun P => [P + 2, (P + 2) + 1, (P + 2) + 2, (P + 2) + 3]) rfl) (ni hprP (fun P => P + 1) (fun P => [P + 2, (P + 2) + 1, (P + 2) + 2, (P + 2) + 3]) rfl)
        have e_1072 : μ1064.1 23 2 = P := ((F_1066.1 23 (ni hprP (fun P => 23) (fun P => [P + 2, (P + 2) + 1, (P + 2) + 2, (P + 2) + 3]) rfl) 2).trans (hs_1052.trans hi_1030))
        have e_1073 : μ1064.1 23 8 = tt := ((F_1066.1 23 (ni hprP (fun P => 23) (fun P => [P + 2, (P + 2) + 1, (P + 2) + 2, (P + 2) + 3]) rfl) 8).trans (hs_1056.trans hi_1034))
        have hk_1074 := hi_1038.pr (p := P) hprP
        unfold pk at hk_1074
        have hc_1075 : 16 ≤ μL1011.2.1 (P + 1) ∧ μL1011.2.1 (P + 1) ≤ 73024 := hi_1038.rm.1 _ hprP.cap
        have e_1076 : μ1064.1 P 1 = μL1011.1 P 1 := ((F_1066.1 P (ni hprP (fun P => P) (fun P => [P + 2, (P + 2) + 1, (P + 2) + 2, (P + 2) + 3]) rfl) 1).trans (F_1042.1 P (ni hprP (fun P => P) (fun P => [26, 23]) rfl) 1))
        have e_1077 : μ1064.1 P 1 = μL1011.1 P 1 := ((F_1066.1 P (ni hprP (fun P => P) (fun P => [P + 2, (P + 2) + 1, (P + 2) + 2, (P + 2) + 3]) rfl) 1).trans (F_1042.1 P (ni hprP (fun P => P) (fun P => [26, 23]) rfl) 1))
        refine xc_vV G (b := 23) (rest := []) (As := [.int (iv x1), .int (iv ((c9 * 4) + x2)), .int (iv r_1065), .int (iv f9)]) (c_X7_endOfParts ω l μ1064 x1 ((c9 * 4) + x2) r_1065 f9 μo (ee + c9) (1) P tt (by unfold ir; omega) (by unfold ir; omega) (by unfold ir; omega) (by unfold ir; omega) hI_1067 (by omega) (by omega) (by omega) hpx_1071 (Or.inr ⟨by omega, by omega, by omega⟩) (by omega) (by by_cases q1 : x1 = 13; (rw [q1, ef13 (by omega) hx2b]; omega); (rw [show x1 = 14 by omega, ef14 (by omega) hx2b]; omega))) (wm 4 27 rfl rfl) (wm 4 29 rfl rfl) (wm 0 30 rfl rfl) rfl rfl (by decide) rfl (wm 1 12 rfl rfl) (wm 4 30 rfl rfl) (by decide) hR ⟨nfr hF (by decide), nlo hLo (by decide)⟩ (n := 4) rfl rfl (Nat.le_of_ble_eq_true rfl) hl.1 dX7_arguments_145 (fun μ1078 ρ d0 H locs hp G => ?_)
        obtain ⟨F_1079, hI_1080, hp_1081, hs_1082, hs_1083⟩ := hp
        have hpx_1084 : μ1078.1 26 11 = 0 → PXE μo μ1078 P tt 1 (-1) 1 := fun h0 => PXE.of (hp_1081 (by have h9 : μ1064.1 26 11 = μ1041.1 26 11 := (F_1066.1 26 (ni hprP (fun P => 26) (fun P => [P + 2, (P + 2) + 1, (P + 2) + 2, (P + 2) + 3]) rfl) 11); have h8 : μ1078.1 26 11 = μ1041.1 26 11 := ((F_1079.1 26 (ni hprP (fun P => 26) (fun P => [P, P + 1]) rfl) 11).trans (F_1066.1 26 (ni hprP (fun P => 26) (fun P => [P + 2, (P + 2) + 1, (P + 2) + 2, (P + 2) + 3]) rfl) 11)); omega))
        clear hp_1081
        have htk_1085 : TK μ1078 := hp_1044.fr (K := [P, P + 1, P + 2, (P + 2) + 1, (P + 2) + 2, (P + 2) + 3]) (Fr.tr (Fr.tr Fr.rf F_1066 (si hprP (fun P => [P + 2, (P + 2) + 1, (P + 2) + 2, (P + 2) + 3]) (fun P => [P, P + 1, P + 2, (P + 2) + 1, (P + 2) + 2, (P + 2) + 3]) rfl)) F_1079 (si hprP (fun P => [P, P + 1]) (fun P => [P, P + 1, P + 2, (P + 2) + 1, (P + 2) + 2, (P + 2) + 3]) rfl)) (ni hprP (fun P => 26) (fun P => [P, P + 1, P + 2, (P + 2) + 1, (P + 2) + 2, (P + 2) + 3]) rfl) (ni hprP (fun P => 28) (fun P => [P, P + 1, P + 2, (P + 2) + 1, (P + 2) + 2, (P + 2) + 3]) rfl)
        have e_1086 : μ1078.1 26 11 = μ1041.1 26 11 := ((F_1079.1 26 (ni hprP (fun P => 26) (fun P => [P, P + 1]) rfl) 11).trans (F_1066.1 26 (ni hprP (fun P => 26) (fun P => [P + 2, (P + 2) + 1, (P + 2) + 2, (P + 2) + 3]) rfl) 11))
        have e_1087 : μ1078.1 26 11 = μ1041.1 26 11 := ((F_1079.1 26 (ni hprP (fun P => 26) (fun P => [P, P + 1]) rfl) 11).trans (F_1066.1 26 (ni hprP (fun P => 26) (fun P => [P + 2, (P + 2) + 1, (P + 2) + 2, (P + 2) + 3]) rfl) 11))
        have e_1088 : μ1078.1 26 10 = μ1041.1 26 10 := ((F_1079.1 26 (ni hprP (fun P => 26) (fun P => [P, P + 1]) rfl) 10).trans (F_1066.1 26 (ni hprP (fun P => 26) (fun P => [P + 2, (P + 2) + 1, (P + 2) + 2, (P + 2) + 3]) rfl) 10))
        have e_1089 : μ1078.1 P 1 = μ1064.1 P 1 + 1 := hs_1082
        have e_1090 : μ1078.1 P 1 = μ1064.1 P 1 + 1 := hs_1082
        have e_1091 : μ1078.1 26 10 = μ1041.1 26 10 := ((F_1079.1 26 (ni hprP (fun P => 26) (fun P => [P, P + 1]) rfl) 10).trans (F_1066.1 26 (ni hprP (fun P => 26) (fun P => [P + 2, (P + 2) + 1, (P + 2) + 2, (P + 2) + 3]) rfl) 10))
        have e_1092 : μ1078.1 26 11 = μ1041.1 26 11 := ((F_1079.1 26 (ni hprP (fun P => 26) (fun P => [P, P + 1]) rfl) 11).trans (F_1066.1 26 (ni hprP (fun P => 26) (fun P => [P + 2, (P + 2) + 1, (P + 2) + 2, (P + 2) + 3]) rfl) 11))
        have e_1093 : μ1078.1 (P + 2) 3 = μ1064.1 (P + 2) 3 := (F_1079.1 (P + 2) (ni hprP (fun P => P + 2) (fun P => [P, P + 1]) rfl) 3)
        have e_1094 : μ1078.1 P 1 = μ1064.1 P 1 + 1 := hs_1082
        have e_1095 : μ1078.1 (P + 2) 3 = μ1064.1 (P + 2) 3 := (F_1079.1 (P + 2) (ni hprP (fun P => P + 2) (fun P => [P, P + 1]) rfl) 3)
        have e_1096 : μ1078.1 23 9 = μL1011.1 23 9 - 1 := ((F_1079.1 23 (ni hprP (fun P => 23) (fun P => [P, P + 1]) rfl) 9).trans ((F_1066.1 23 (ni hprP (fun P => 23) (fun P => [P + 2, (P + 2) + 1, (P + 2) + 2, (P + 2) + 3]) rfl) 9).trans hs_1047))
        exact xr_v G hret hlk dX7_arguments_148 ⟨(Fr.tr (Fr.tr (Fr.tr (Fr.tr (Fr.tr Fr.rf F_663 (si hprP (fun P => [26, 23]) (fun P => [2, 3, 4, 23, 24, 26, P, P + 1, P + 2, (P + 2) + 1, (P + 2) + 2, (P + 2) + 3]) rfl)) FL1012 (si hprP (fun P => [2, 3, 4, 23, 24, 26, P, P + 1, P + 2, (P + 2) + 1, (P + 2) + 2, (P + 2) + 3]) (fun P => [2, 3, 4, 23, 24, 26, P, P + 1, P + 2, (P + 2) + 1, (P + 2) + 2, (P + 2) + 3]) rfl)) F_1042 (si hprP (fun P => [26, 23]) (fun P => [2, 3, 4, 23, 24, 26, P, P + 1, P + 2, (P + 2) + 1, (P + 2) + 2, (P + 2) + 3]) rfl)) F_1066 (si hprP (fun P => [P + 2, (P + 2) + 1, (P + 2) + 2, (P + 2) + 3]) (fun P => [2, 3, 4, 23, 24, 26, P, P + 1, P + 2, (P + 2) + 1, (P + 2) + 2, (P + 2) + 3]) rfl)) F_1079 (si hprP (fun P => [P, P + 1]) (fun P => [2, 3, 4, 23, 24, 26, P, P + 1, P + 2, (P + 2) + 1, (P + 2) + 2, (P + 2) + 3]) rfl)), hI_1080, htk_1085, (by omega), (by omega), (by omega), (by omega), (fun h0 => (PXE.ex (hpx_1084 h0)).e (by omega)), (((F_1079.1 23 (ni hprP (fun P => 23) (fun P => [P, P + 1]) rfl) 2).trans ((F_1066.1 23 (ni hprP (fun P => 23) (fun P => [P + 2, (P + 2) + 1, (P + 2) + 2, (P + 2) + 3]) rfl) 2).trans (hs_1052.trans hi_1030)))).trans hP, ((F_1079.1 23 (ni hprP (fun P => 23) (fun P => [P, P + 1]) rfl) 5).trans ((F_1066.1 23 (ni hprP (fun P => 23) (fun P => [P + 2, (P + 2) + 1, (P + 2) + 2, (P + 2) + 3]) rfl) 5).trans (hs_1053.trans hi_1031))), ((F_1079.1 23 (ni hprP (fun P => 23) (fun P => [P, P + 1]) rfl) 6).trans ((F_1066.1 23 (ni hprP (fun P => 23) (fun P => [P + 2, (P + 2) + 1, (P + 2) + 2, (P + 2) + 3]) rfl) 6).trans (hs_1054.trans hi_1032))), ((F_1079.1 23 (ni hprP (fun P => 23) (fun P => [P, P + 1]) rfl) 7).trans ((F_1066.1 23 (ni hprP (fun P => 23) (fun P => [P + 2, (P + 2) + 1, (P + 2) + 2, (P + 2) + 3]) rfl) 7).trans (hs_1055.trans hi_1033))), (((F_1079.1 23 (ni hprP (fun P => 23) (fun P => [P, P + 1]) rfl) 8).trans ((F_1066.1 23 (ni hprP (fun P => 23) (fun P => [P + 2, (P + 2) + 1, (P + 2) + 2, (P + 2) + 3]) rfl) 8).trans (hs_1056.trans hi_1034)))).trans htt, (by omega), ((F_1079.1 23 (ni hprP (fun P => 23) (fun P => [P, P + 1]) rfl) 10).trans ((F_1066.1 23 (ni hprP (fun P => 23) (fun P => [P + 2, (P + 2) + 1, (P + 2) + 2, (P + 2) + 3]) rfl) 10).trans (hs_1057.trans hi_1035))), ((F_1079.1 26 (ni hprP (fun P => 26) (fun P => [P, P + 1]) rfl) 6).trans ((F_1066.1 26 (ni hprP (fun P => 26) (fun P => [P + 2, (P + 2) + 1, (P + 2) + 2, (P + 2) + 3]) rfl) 6).trans (hs_1048.trans hi_1036))), (hs_1083.trans ((F_1066.1 P (ni hprP (fun P => P) (fun P => [P + 2, (P + 2) + 1, (P + 2) + 2, (P + 2) + 3]) rfl) 7).trans ((F_1042.1 P (ni hprP (fun P => P) (fun P => [26, 23]) rfl) 7).trans hi_1037)))⟩
      · refine lv_iload hx hb dX7_arguments_56 (lv_at hl 1 rfl) ?_
        refine xb_if_eq (tgt := 115) hx hb (by unfold ir; omega) dX7_arguments_58 (by decide) (fun c_58 => ?_) (fun c_58 => ?_)
        · refine lv_aload_n hx hb dX7_arguments_115 rfl (lv_at hl 5 rfl) ?_
          refine lv_bipush (v := iv 41) hx hb dX7_arguments_116 rfl ?_
          have hn_1097 : -1 ≤ μL1011.1 26 10 ∧ μL1011.1 26 10 ≤ 3000 := hi_1038.nm.2.2.2.2.2.2.2.2.2.2.2.2
          refine xc_vV G (b := 23) (rest := []) (As := [.int (iv 41)]) (c_X7_needClosed_b ω l μL1011 41 (by unfold ir; omega) hi_1038 hi_1023 (by omega) (by omega)) (wm 3 214 rfl rfl) (wm 3 216 rfl rfl) (wm 0 18 rfl rfl) rfl rfl (by decide) rfl (wm 1 12 rfl rfl) (wm 3 217 rfl rfl) (by decide) hR ⟨nfr hF (by decide), nlo hLo (by decide)⟩ (n := 1) rfl rfl (Nat.le_of_ble_eq_true rfl) hl.1 dX7_arguments_118 (fun μ1098 ρ d0 H locs hp G => ?_)
          obtain ⟨F_1099, hI_1100, hp_1101, hp_1102, hp_1103, hs_1104, hs_1105, hs_1106, hs_1107, hs_1108, hs_1109, hs_1110, hs_1111, hs_1112, hs_1113, hs_1114⟩ := hp
          have hn_1115 : -1 ≤ μ1098.1 26 10 ∧ μ1098.1 26 10 ≤ 3000 := hI_1100.nm.2.2.2.2.2.2.2.2.2.2.2.2
          have htb_1116 := hp_1101.b
          refine lv_aload_n hx hb dX7_arguments_121 rfl (lv_at hl 5 rfl) ?_
          refine xa_getr G fd_X7 (a := 23) (x := P) 2 rfl (by decide) rfl (wm 2 19 rfl rfl) ⟨rfl, rfl, rfl⟩ dX7_arguments_122 rfl (hs_1109.trans hi_1030) (by omega) (hprP.hq ω ρ) ?_
          refine lv_iconst (v := iv 0) hx hb dX7_arguments_125 rfl ?_
          refine lv_lload_n hx hb dX7_arguments_126 rfl (lv_at hl 8 rfl) ?_
          refine lv_dconst0 hx hb dX7_arguments_127 ?_
          refine xb_topd (fun dd_1117 he_dd_1117 => ?_)
          have hpx_1118 : μ1098.1 26 11 = 0 → PXE μo μ1098 P tt (ee + c9) f9 1 := fun h0 => (hi_1029 (by have h9 : μL1011.1 26 11 = μL1011.1 26 11 := rfl; have h8 : μ1098.1 26 11 = μ1098.1 26 11 := rfl; omega)).fr (K := [26, 23]) (Fr.tr Fr.rf F_1099 (by decide)) (npL_p (L := [26, 23]) (by decide) hprP).1 (npL_p (L := [26, 23]) (by decide) hprP).2.1
          have hk_1119 := hi_1038.row (r := P + 2) (hprP.row)
          unfold rk at hk_1119
          have e_1120 : μ1098.1 (P + 2) 3 = μL1011.1 (P + 2) 3 := (F_1099.1 (P + 2) (ni hprP (fun P => P + 2) (fun P => [26, 23]) rfl) 3)
          refine xc_iV G (b := P) (rest := []) (As := [.int (iv 0), .long (jv x3), .double (dv dd_1117)]) (c_X8_addConstant ω l μ1098 P 0 x3 dd_1117 (μL1011.1 (P + 2) 3) hprP (by unfold ir; omega) hx3 hI_1100 (by omega) (by omega)) (wm 4 67 rfl rfl) (wm 4 68 rfl rfl) (wm 4 69 rfl rfl) hprP.ly rfl (by decide) (hprP.hq ω ρ) (wm 1 9 rfl rfl) (wm 4 70 rfl rfl) (by decide) hR ⟨nfr hF (by decide), nlo hLo (by decide)⟩ (n := 3) rfl rfl (Nat.le_of_ble_eq_true rfl) hl.1 dX7_arguments_128 (fun r_1122 μ1121 ρ d0 H locs hr_r_1122 hp G => ?_)
          have hr_r_1122 : -2147483648 ≤ r_1122 ∧ r_1122 ≤ 2147483647 := hr_r_1122
          obtain ⟨F_1123, hI_1124, hp_1125, hp_1126⟩ := hp
          have hk_1127 := hI_1124.row (r := P + 2) (hprP.row)
          unfold rk at hk_1127
          refine lv_istore (lv' := [(10, .int (iv r_1122)), (9, .int (iv m9)), (8, .int (iv c9)), (7, .int (iv f9)), (6, .int (iv 1)), (0, .ref (oP ω 23)), (1, .int (iv x1)), (2, .int (iv x2)), (3, .long (jv x3)), (5, .int (iv x4))]) hx hb dX7_arguments_131 hl (by decide) rfl (fun ls hl => ?_)
          refine lv_aload_n hx hb dX7_arguments_133 rfl (lv_at hl 5 rfl) ?_
          refine lv_iload_n hx hb dX7_arguments_134 rfl (lv_at hl 6 rfl) ?_
          refine lv_iload hx hb dX7_arguments_135 (lv_at hl 2 rfl) ?_
          refine lv_iconst (v := iv 4) hx hb dX7_arguments_137 rfl ?_
          refine xb_imul hx hb dX7_arguments_138 ?_
          refine lv_iload_n hx hb dX7_arguments_139 rfl (lv_at hl 7 rfl) ?_
          refine xb_iadd hx hb dX7_arguments_140 ?_
          refine lv_iload hx hb dX7_arguments_141 (lv_at hl 0 rfl) ?_
          refine lv_iload hx hb dX7_arguments_143 (lv_at hl 3 rfl) ?_
          have hpx_1128 : μ1121.1 26 11 = 0 → PXE μo μ1121 P tt (ee + c9) f9 1 := fun h0 => (hpx_1118 (by have h9 : μ1098.1 26 11 = μ1098.1 26 11 := rfl; have h8 : μ1121.1 26 11 = μ1098.1 26 11 := (F_1123.1 26 (ni hprP (fun P => 26) (fun P => [P + 2, (P + 2) + 1, (P + 2) + 2, (P + 2) + 3]) rfl) 11); omega)).fr (K := [P + 2, (P + 2) + 1, (P + 2) + 2, (P + 2) + 3]) (Fr.tr Fr.rf F_1123 (si hprP (fun P => [P + 2, (P + 2) + 1, (P + 2) + 2, (P + 2) + 3]) (fun P => [P + 2, (P + 2) + 1, (P + 2) + 2, (P + 2) + 3]) rfl)) (ni hprP (fun P => P) (fun P => [P + 2, (P + 2) + 1, (P + 2) + 2, (P + 2) + 3]) rfl) (ni hprP (fun P => P + 1) (fun P => [P + 2, (P + 2) + 1, (P + 2) + 2, (P + 2) + 3]) rfl)
          have e_1129 : μ1121.1 23 2 = P := ((F_1123.1 23 (ni hprP (fun P => 23) (fun P => [P + 2, (P + 2) + 1, (P + 2) + 2, (P + 2) + 3]) rfl) 2).trans (hs_1109.trans hi_1030))
          have e_1130 : μ1121.1 23 8 = tt := ((F_1123.1 23 (ni hprP (fun P => 23) (fun P => [P + 2, (P + 2) + 1, (P + 2) + 2, (P + 2) + 3]) rfl) 8).trans (hs_1113.trans hi_1034))
          have hk_1131 := hi_1038.pr (p := P) hprP
          unfold pk at hk_1131
          have hc_1132 : 16 ≤ μL1011.2.1 (P + 1) ∧ μL1011.2.1 (P + 1) ≤ 73024 := hi_1038.rm.1 _ hprP.cap
          have e_1133 : μ1121.1 P 1 = μL1011.1 P 1 := ((F_1123.1 P (ni hprP (fun P => P) (fun P => [P + 2, (P + 2) + 1, (P + 2) + 2, (P + 2) + 3]) rfl) 1).trans (F_1099.1 P (ni hprP (fun P => P) (fun P => [26, 23]) rfl) 1))
          have e_1134 : μ1121.1 P 1 = μL1011.1 P 1 := ((F_1123.1 P (ni hprP (fun P => P) (fun P => [P + 2, (P + 2) + 1, (P + 2) + 2, (P + 2) + 3]) rfl) 1).trans (F_1099.1 P (ni hprP (fun P => P) (fun P => [26, 23]) rfl) 1))
          refine xc_vV G (b := 23) (rest := []) (As := [.int (iv x1), .int (iv ((c9 * 4) + x2)), .int (iv r_1122), .int (iv f9)]) (c_X7_endOfParts ω l μ1121 x1 ((c9 * 4) + x2) r_1122 f9 μo (ee + c9) (1) P tt (by unfold ir; omega) (by unfold ir; omega) (by unfold ir; omega) (by unfold ir; omega) hI_1124 (by omega) (by omega) (by omega) hpx_1128 (Or.inr ⟨by omega, by omega, by omega⟩) (by omega) (by by_cases q1 : x1 = 13; (rw [q1, ef13 (by omega) hx2b]; omega); (rw [show x1 = 14 by omega, ef14 (by omega) hx2b]; omega))) (wm 4 27 rfl rfl) (wm 4 29 rfl rfl) (wm 0 30 rfl rfl) rfl rfl (by decide) rfl (wm 1 12 rfl rfl) (wm 4 30 rfl rfl) (by decide) hR ⟨nfr hF (by decide), nlo hLo (by decide)⟩ (n := 4) rfl rfl (Nat.le_of_ble_eq_true rfl) hl.1 dX7_arguments_145 (fun μ1135 ρ d0 H locs hp G => ?_)
          obtain ⟨F_1136, hI_1137, hp_1138, hs_1139, hs_1140⟩ := hp
          have hpx_1141 : μ1135.1 26 11 = 0 → PXE μo μ1135 P tt 1 (-1) 1 := fun h0 => PXE.of (hp_1138 (by have h9 : μ1121.1 26 11 = μ1098.1 26 11 := (F_1123.1 26 (ni hprP (fun P => 26) (fun P => [P + 2, (P + 2) + 1, (P + 2) + 2, (P + 2) + 3]) rfl) 11); have h8 : μ1135.1 26 11 = μ1098.1 26 11 := ((F_1136.1 26 (ni hprP (fun P => 26) (fun P => [P, P + 1]) rfl) 11).trans (F_1123.1 26 (ni hprP (fun P => 26) (fun P => [P + 2, (P + 2) + 1, (P + 2) + 2, (P + 2) + 3]) rfl) 11)); omega))
          clear hp_1138
          have htk_1142 : TK μ1135 := hp_1101.fr (K := [P, P + 1, P + 2, (P + 2) + 1, (P + 2) + 2, (P + 2) + 3]) (Fr.tr (Fr.tr Fr.rf F_1123 (si hprP (fun P => [P + 2, (P + 2) + 1, (P + 2) + 2, (P + 2) + 3]) (fun P => [P, P + 1, P + 2, (P + 2) + 1, (P + 2) + 2, (P + 2) + 3]) rfl)) F_1136 (si hprP (fun P => [P, P + 1]) (fun P => [P, P + 1, P + 2, (P + 2) + 1, (P + 2) + 2, (P + 2) + 3]) rfl)) (ni hprP (fun P => 26) (fun P => [P, P + 1, P + 2, (P + 2) + 1, (P + 2) + 2, (P + 2) + 3]) rfl) (ni hprP (fun P => 28) (fun P => [P, P + 1, P + 2, (P + 2) + 1, (P + 2) + 2, (P + 2) + 3]) rfl)
          have e_1143 : μ1135.1 26 11 = μ1098.1 26 11 := ((F_1136.1 26 (ni hprP (fun P => 26) (fun P => [P, P + 1]) rfl) 11).trans (F_1123.1 26 (ni hprP (fun P => 26) (fun P => [P + 2, (P + 2) + 1, (P + 2) + 2, (P + 2) + 3]) rfl) 11))
          have e_1144 : μ1135.1 26 11 = μ1098.1 26 11 := ((F_1136.1 26 (ni hprP (fun P => 26) (fun P => [P, P + 1]) rfl) 11).trans (F_1123.1 26 (ni hprP (fun P => 26) (fun P => [P + 2, (P + 2) + 1, (P + 2) + 2, (P + 2) + 3]) rfl) 11))
          have e_1145 : μ1135.1 26 10 = μ1098.1 26 10 := ((F_1136.1 26 (ni hprP (fun P => 26) (fun P => [P, P + 1]) rfl) 10).trans (F_1123.1 26 (ni hprP (fun P => 26) (fun P => [P + 2, (P + 2) + 1, (P + 2) + 2, (P + 2) + 3]) rfl) 10))
          have e_1146 : μ1135.1 P 1 = μ1121.1 P 1 + 1 := hs_1139
          have e_1147 : μ1135.1 P 1 = μ1121.1 P 1 + 1 := hs_1139
          have e_1148 : μ1135.1 26 10 = μ1098.1 26 10 := ((F_1136.1 26 (ni hprP (fun P => 26) (fun P => [P, P + 1]) rfl) 10).trans (F_1123.1 26 (ni hprP (fun P => 26) (fun P => [P + 2, (P + 2) + 1, (P + 2) + 2, (P + 2) + 3]) rfl) 10))
          have e_1149 : μ1135.1 26 11 = μ1098.1 26 11 := ((F_1136.1 26 (ni hprP (fun P => 26) (fun P => [P, P + 1]) rfl) 11).trans (F_1123.1 26 (ni hprP (fun P => 26) (fun P => [P + 2, (P + 2) + 1, (P + 2) + 2, (P + 2) + 3]) rfl) 11))
          have e_1150 : μ1135.1 (P + 2) 3 = μ1121.1 (P + 2) 3 := (F_1136.1 (P + 2) (ni hprP (fun P => P + 2) (fun P => [P, P + 1]) rfl) 3)
          have e_1151 : μ1135.1 P 1 = μ1121.1 P 1 + 1 := hs_1139
          have e_1152 : μ1135.1 (P + 2) 3 = μ1121.1 (P + 2) 3 := (F_1136.1 (P + 2) (ni hprP (fun P => P + 2) (fun P => [P, P + 1]) rfl) 3)
          have e_1153 : μ1135.1 23 9 = μL1011.1 23 9 - 1 := ((F_1136.1 23 (ni hprP (fun P => 23) (fun P => [P, P + 1]) rfl) 9).trans ((F_1123.1 23 (ni hprP (fun P => 23) (fun P => [P + 2, (P + 2) + 1, (P + 2) + 2, (P + 2) + 3]) rfl) 9).trans hs_1104))
          exact xr_v G hret hlk dX7_arguments_148 ⟨(Fr.tr (Fr.tr (Fr.tr (Fr.tr (Fr.tr Fr.rf F_663 (si hprP (fun P => [26, 23]) (fun P => [2, 3, 4, 23, 24, 26, P, P + 1, P + 2, (P + 2) + 1, (P + 2) + 2, (P + 2) + 3]) rfl)) FL1012 (si hprP (fun P => [2, 3, 4, 23, 24, 26, P, P + 1, P + 2, (P + 2) + 1, (P + 2) + 2, (P + 2) + 3]) (fun P => [2, 3, 4, 23, 24, 26, P, P + 1, P + 2, (P + 2) + 1, (P + 2) + 2, (P + 2) + 3]) rfl)) F_1099 (si hprP (fun P => [26, 23]) (fun P => [2, 3, 4, 23, 24, 26, P, P + 1, P + 2, (P + 2) + 1, (P + 2) + 2, (P + 2) + 3]) rfl)) F_1123 (si hprP (fun P => [P + 2, (P + 2) + 1, (P + 2) + 2, (P + 2) + 3]) (fun P => [2, 3, 4, 23, 24, 26, P, P + 1, P + 2, (P + 2) + 1, (P + 2) + 2, (P + 2) + 3]) rfl)) F_1136 (si hprP (fun P => [P, P + 1]) (fun P => [2, 3, 4, 23, 24, 26, P, P + 1, P + 2, (P + 2) + 1, (P + 2) + 2, (P + 2) + 3]) rfl)), hI_1137, htk_1142, (by omega), (by omega), (by omega), (by omega), (fun h0 => (PXE.ex (hpx_1141 h0)).e (by omega)), (((F_1136.1 23 (ni hprP (fun P => 23) (fun P => [P, P + 1]) rfl) 2).trans ((F_1123.1 23 (ni hprP (fun P => 23) (fun P => [P + 2, (P + 2) + 1, (P + 2) + 2, (P + 2) + 3]) rfl) 2).trans (hs_1109.trans hi_1030)))).trans hP, ((F_1136.1 23 (ni hprP (fun P => 23) (fun P => [P, P + 1]) rfl) 5).trans ((F_1123.1 23 (ni hprP (fun P => 23) (fun P => [P + 2, (P + 2) + 1, (P + 2) + 2, (P + 2) + 3]) rfl) 5).trans (hs_1110.trans hi_1031))), ((F_1136.1 23 (ni hprP (fun P => 23) (fun P => [P, P + 1]) rfl) 6).trans ((F_1123.1 23 (ni hprP (fun P => 23) (fun P => [P + 2, (P + 2) + 1, (P + 2) + 2, (P + 2) + 3]) rfl) 6).trans (hs_1111.trans hi_1032))), ((F_1136.1 23 (ni hprP (fun P => 23) (fun P => [P, P + 1]) rfl) 7).trans ((F_1123.1 23 (ni hprP (fun P => 23) (fun P => [P + 2, (P + 2) + 1, (P + 2) + 2, (P + 2) + 3]) rfl) 7).trans (hs_1112.trans hi_1033))), (((F_1136.1 23 (ni hprP (fun P => 23) (fun P => [P, P + 1]) rfl) 8).trans ((F_1123.1 23 (ni hprP (fun P => 23) (fun P => [P + 2, (P + 2) + 1, (P + 2) + 2, (P + 2) + 3]) rfl) 8).trans (hs_1113.trans hi_1034)))).trans htt, (by omega), ((F_1136.1 23 (ni hprP (fun P => 23) (fun P => [P, P + 1]) rfl) 10).trans ((F_1123.1 23 (ni hprP (fun P => 23) (fun P => [P + 2, (P + 2) + 1, (P + 2) + 2, (P + 2) + 3]) rfl) 10).trans (hs_1114.trans hi_1035))), ((F_1136.1 26 (ni hprP (fun P => 26) (fun P => [P, P + 1]) rfl) 6).trans ((F_1123.1 26 (ni hprP (fun P => 26) (fun P => [P + 2, (P + 2) + 1, (P + 2) + 2, (P + 2) + 3]) rfl) 6).trans (hs_1105.trans hi_1036))), (hs_1140.trans ((F_1123.1 P (ni hprP (fun P => P) (fun P => [P + 2, (P + 2) + 1, (P + 2) + 2, (P + 2) + 3]) rfl) 7).trans ((F_1099.1 P (ni hprP (fun P => P) (fun P => [26, 23]) rfl) 7).trans hi_1037)))⟩
        · refine lv_iload hx hb dX7_arguments_61 (lv_at hl 2 rfl) ?_
          refine lv_bipush (v := iv 8) hx hb dX7_arguments_63 rfl ?_
          refine xb_icmp_lt (tgt := 80) hx hb (by unfold ir; omega) (by unfold ir; omega) dX7_arguments_65 (by decide) (fun c_65 => ?_) (fun c_65 => ?_)
          · refine lv_aload_n hx hb dX7_arguments_80 rfl (lv_at hl 5 rfl) ?_
            refine lv_iconst (v := iv 0) hx hb dX7_arguments_81 rfl ?_
            have e_1154 : μL1011.1 23 2 = P := hi_1030
            have e_1155 : μL1011.1 23 8 = tt := hi_1034
            have hk_1156 := hi_1038.pr (p := P) hprP
            unfold pk at hk_1156
            have hc_1157 : 16 ≤ μL1011.2.1 (P + 1) ∧ μL1011.2.1 (P + 1) ≤ 73024 := hi_1038.rm.1 _ hprP.cap
            have hn_1158 : -1 ≤ μL1011.1 26 10 ∧ μL1011.1 26 10 ≤ 3000 := hi_1038.nm.2.2.2.2.2.2.2.2.2.2.2.2
            have hk_1159 := hi_1038.row (r := P + 2) (hprP.row)
            unfold rk at hk_1159
            refine xc_vV G (b := 23) (rest := []) (As := [.int (iv 0)]) (((fun (_ : Om) (_ : Launch) => hE)) ω l μL1011 0 P tt (by omega) hi_1038 (by omega) (by omega) hi_1023 (by omega) (by omega) (by omega) (by omega) (by omega) (fun _ => Or.inl (by omega))) (wm 4 3 rfl rfl) (wm 4 5 rfl rfl) (wm 0 24 rfl rfl) rfl rfl (by decide) rfl (wm 1 12 rfl rfl) (wm 4 6 rfl rfl) (by decide) hR ⟨sfr (F := F) (a := 0) (by decide), slo (L := Lo) (m := 3) (a := 0) (by decide)⟩ (n := 1) rfl rfl (Nat.le_of_ble_eq_true rfl) hl.1 dX7_arguments_82 (fun μ1160 ρ d0 H locs hp G => ?_)
            obtain ⟨F_1161, hI_1162, hp_1163, hp_1164, hp_1165, hp_1166, hp_1167, hp_1168, hs_1169, hs_1170, hs_1171, hs_1172, hs_1173, hs_1174, hs_1175, hs_1176, hs_1177⟩ := hp
            have hn_1178 : -1 ≤ μ1160.1 26 10 ∧ μ1160.1 26 10 ≤ 3000 := hI_1162.nm.2.2.2.2.2.2.2.2.2.2.2.2
            have hk_1179 := hI_1162.pr (p := P) hprP
            unfold pk at hk_1179
            have hc_1180 : 16 ≤ μ1160.2.1 (P + 1) ∧ μ1160.2.1 (P + 1) ≤ 73024 := hI_1162.rm.1 _ hprP.cap
            have hk_1181 := hI_1162.row (r := P + 2) (hprP.row)
            unfold rk at hk_1181
            have htb_1182 := hp_1163.b
            have hpx_1183 : μ1160.1 26 11 = 0 → PXE μo μ1160 P tt ((ee + c9) + (1 - 0)) f9 1 := fun h0 => (PXE.app (hi_1029 (by have h9 : μL1011.1 26 11 = μL1011.1 26 11 := rfl; have h8 : μ1160.1 26 11 = μ1160.1 26 11 := rfl; omega)) (hp_1168 h0)).e (by omega)
            refine lv_aload_n hx hb dX7_arguments_85 rfl (lv_at hl 5 rfl) ?_
            refine lv_iload hx hb dX7_arguments_86 (lv_at hl 3 rfl) ?_
            refine lv_iload hx hb dX7_arguments_88 (lv_at hl 4 rfl) ?_
            refine lv_iload hx hb dX7_arguments_90 (lv_at hl 2 rfl) ?_
            refine xb_iadd hx hb dX7_arguments_92 ?_
            have e_1184 : μ1160.1 23 2 = P := (hs_1169.trans hi_1030)
            have e_1185 : μ1160.1 23 8 = tt := (hs_1173.trans hi_1034)
            refine xc_iV G (b := 23) (rest := []) (As := [.int (iv f9), .int (iv (1 + c9))]) (c_X7_ifFails ω l μ1160 f9 (1 + c9) μo ((ee + c9) + (1 - 0)) (1) P tt (by unfold ir; omega) (by unfold ir; omega) hI_1162 (by omega) (by omega) (by omega) hpx_1183 (by omega) (by omega)) (wm 4 23 rfl rfl) (wm 4 25 rfl rfl) (wm 0 29 rfl rfl) rfl rfl (by decide) rfl (wm 1 12 rfl rfl) (wm 4 26 rfl rfl) (by decide) hR ⟨nfr hF (by decide), nlo hLo (by decide)⟩ (n := 2) rfl rfl (Nat.le_of_ble_eq_true rfl) hl.1 dX7_arguments_93 (fun r_1187 μ1186 ρ d0 H locs hr_r_1187 hp G => ?_)
            have hr_r_1187 : -2147483648 ≤ r_1187 ∧ r_1187 ≤ 2147483647 := hr_r_1187
            obtain ⟨F_1188, hI_1189, hp_1190, hp_1191, hs_1192⟩ := hp
            have hk_1193 := hI_1189.pr (p := P) hprP
            unfold pk at hk_1193
            have hc_1194 : 16 ≤ μ1186.2.1 (P + 1) ∧ μ1186.2.1 (P + 1) ≤ 73024 := hI_1189.rm.1 _ hprP.cap
            have hpx_1195 : μ1186.1 26 11 = 0 → PXE μo μ1186 P tt ((ee + c9) + (1 - 0)) r_1187 1 := fun h0 => hp_1190 (by have h9 : μ1160.1 26 11 = μ1160.1 26 11 := rfl; have h8 : μ1186.1 26 11 = μ1160.1 26 11 := (F_1188.1 26 (ni hprP (fun P => 26) (fun P => [P, P + 1]) rfl) 11); omega)
            clear hp_1190
            refine lv_istore (lv' := [(7, .int (iv r_1187)), (10, .int (iv i9)), (9, .int (iv m9)), (8, .int (iv c9)), (6, .int (iv 1)), (0, .ref (oP ω 23)), (1, .int (iv x1)), (2, .int (iv x2)), (3, .long (jv x3)), (5, .int (iv x4))]) hx hb dX7_arguments_96 hl (by decide) rfl (fun ls hl => ?_)
            refine lv_iinc (v := iv (c9 + 1)) (lv' := [(8, .int (iv (c9 + 1))), (7, .int (iv r_1187)), (10, .int (iv i9)), (9, .int (iv m9)), (6, .int (iv 1)), (0, .ref (oP ω 23)), (1, .int (iv x1)), (2, .int (iv x2)), (3, .long (jv x3)), (5, .int (iv x4))]) hx hb dX7_arguments_98 hl (k := 3) rfl (by rw [show Int32.ofInt 1 = iv 1 from rfl, iv_add]) (by decide) rfl (fun ls hl => ?_)
            refine lv_aload_n hx hb dX7_arguments_101 rfl (lv_at hl 5 rfl) ?_
            refine lv_bipush (v := iv 44) hx hb dX7_arguments_102 rfl ?_
            have htk_1196 : TK μ1186 := hp_1163.fr (K := [P, P + 1]) (Fr.tr Fr.rf F_1188 (si hprP (fun P => [P, P + 1]) (fun P => [P, P + 1]) rfl)) (ni hprP (fun P => 26) (fun P => [P, P + 1]) rfl) (ni hprP (fun P => 28) (fun P => [P, P + 1]) rfl)
            have e_1197 : μ1186.1 26 10 = μ1160.1 26 10 := (F_1188.1 26 (ni hprP (fun P => 26) (fun P => [P, P + 1]) rfl) 10)
            have e_1198 : μ1186.1 26 11 = μ1160.1 26 11 := (F_1188.1 26 (ni hprP (fun P => 26) (fun P => [P, P + 1]) rfl) 11)
            refine xc_iV G (b := 23) (rest := []) (As := [.int (iv 44)]) (c_X7_took_b ω l μ1186 44 (by unfold ir; omega) hI_1189 htk_1196 (by omega)) (wm 3 160 rfl rfl) (wm 3 162 rfl rfl) (wm 0 9 rfl rfl) rfl rfl (by decide) rfl (wm 1 12 rfl rfl) (wm 3 163 rfl rfl) (by decide) hR ⟨nfr hF (by decide), nlo hLo (by decide)⟩ (n := 1) rfl rfl (Nat.le_of_ble_eq_true rfl) hl.1 dX7_arguments_104 (fun r_1200 μ1199 ρ d0 H locs hr_r_1200 hp G => ?_)
            have hr_r_1200 : -2147483648 ≤ r_1200 ∧ r_1200 ≤ 2147483647 := hr_r_1200
            obtain ⟨F_1201, hI_1202, hp_1203, hp_1204, hs_1205, hs_1206, hs_1207, hs_1208, hs_1209⟩ := hp
            have hn_1210 : -1 ≤ μ1199.1 26 10 ∧ μ1199.1 26 10 ≤ 3000 := hI_1202.nm.2.2.2.2.2.2.2.2.2.2.2.2
            have htb_1211 := hp_1203.b
            refine lv_istore (lv' := [(9, .int (iv r_1200)), (8, .int (iv (c9 + 1))), (7, .int (iv r_1187)), (10, .int (iv i9)), (6, .int (iv 1)), (0, .ref (oP ω 23)), (1, .int (iv x1)), (2, .int (iv x2)), (3, .long (jv x3)), (5, .int (iv x4))]) hx hb dX7_arguments_107 hl (by decide) rfl (fun ls hl => ?_)
            refine lv_iinc (v := iv (i9 + 1)) (lv' := [(10, .int (iv (i9 + 1))), (9, .int (iv r_1200)), (8, .int (iv (c9 + 1))), (7, .int (iv r_1187)), (6, .int (iv 1)), (0, .ref (oP ω 23)), (1, .int (iv x1)), (2, .int (iv x2)), (3, .long (jv x3)), (5, .int (iv x4))]) hx hb dX7_arguments_109 hl (k := 3) rfl (by rw [show Int32.ofInt 1 = iv 1 from rfl, iv_add]) (by decide) rfl (fun ls hl => ?_)
            refine lv_goto (tgt := 48) hx hb dX7_arguments_112 (by decide) ?_
            have e_1212 : μ1199.1 23 9 = μL1011.1 23 9 := ((F_1201.1 23 (by decide) 9).trans ((F_1188.1 23 (ni hprP (fun P => 23) (fun P => [P, P + 1]) rfl) 9).trans hs_1174))
            have e_1213 : μ1199.1 23 9 = μL1011.1 23 9 := ((F_1201.1 23 (by decide) 9).trans ((F_1188.1 23 (ni hprP (fun P => 23) (fun P => [P, P + 1]) rfl) 9).trans hs_1174))
            have e_1214 : μ1199.1 26 11 = μ1160.1 26 11 := (hs_1205.trans (F_1188.1 26 (ni hprP (fun P => 26) (fun P => [P, P + 1]) rfl) 11))
            have e_1215 : μ1199.1 26 11 = μ1160.1 26 11 := (hs_1205.trans (F_1188.1 26 (ni hprP (fun P => 26) (fun P => [P, P + 1]) rfl) 11))
            have e_1216 : μ1199.1 P 1 = μ1186.1 P 1 := (F_1201.1 P (ni hprP (fun P => P) (fun P => [26]) rfl) 1)
            have e_1217 : μ1199.1 P 1 = μ1186.1 P 1 := (F_1201.1 P (ni hprP (fun P => P) (fun P => [26]) rfl) 1)
            have e_1218 : μ1199.1 26 11 = μ1160.1 26 11 := (hs_1205.trans (F_1188.1 26 (ni hprP (fun P => 26) (fun P => [P, P + 1]) rfl) 11))
            have e_1219 : μ1199.1 P 1 = μ1186.1 P 1 := (F_1201.1 P (ni hprP (fun P => P) (fun P => [26]) rfl) 1)
            have e_1220 : μ1199.1 (P + 2) 3 = μ1160.1 (P + 2) 3 := ((F_1201.1 (P + 2) (ni hprP (fun P => P + 2) (fun P => [26]) rfl) 3).trans (F_1188.1 (P + 2) (ni hprP (fun P => P + 2) (fun P => [P, P + 1]) rfl) 3))
            have e_1221 : μ1199.1 P 1 = μ1186.1 P 1 := (F_1201.1 P (ni hprP (fun P => P) (fun P => [26]) rfl) 1)
            have e_1222 : μ1199.1 (P + 2) 3 = μ1160.1 (P + 2) 3 := ((F_1201.1 (P + 2) (ni hprP (fun P => P + 2) (fun P => [26]) rfl) 3).trans (F_1188.1 (P + 2) (ni hprP (fun P => P + 2) (fun P => [P, P + 1]) rfl) 3))
            have hpx_1223 : μ1199.1 26 11 = 0 → PXE μo μ1199 P tt ((ee + c9) + (1 - 0)) r_1187 1 := fun h0 => (hpx_1195 (by have h9 : μ1186.1 26 11 = μ1160.1 26 11 := (F_1188.1 26 (ni hprP (fun P => 26) (fun P => [P, P + 1]) rfl) 11); have h8 : μ1199.1 26 11 = μ1160.1 26 11 := (hs_1205.trans (F_1188.1 26 (ni hprP (fun P => 26) (fun P => [P, P + 1]) rfl) 11)); omega)).fr (K := [26]) (Fr.tr Fr.rf F_1201 (by decide)) (npL_p (L := [26]) (by decide) hprP).1 (npL_p (L := [26]) (by decide) hprP).2.1
            exact ih _ _ _ _ _ _ _ (by omega) ⟨r_1187, c9 + 1, r_1200, i9 + 1, (Fr.tr (Fr.tr (Fr.tr FL1012 F_1161 (si hprP (fun P => [2, 3, 4, 23, 24, 26, P, P + 1, P + 2, (P + 2) + 1, (P + 2) + 2, (P + 2) + 3]) (fun P => [2, 3, 4, 23, 24, 26, P, P + 1, P + 2, (P + 2) + 1, (P + 2) + 2, (P + 2) + 3]) rfl)) F_1188 (si hprP (fun P => [P, P + 1]) (fun P => [2, 3, 4, 23, 24, 26, P, P + 1, P + 2, (P + 2) + 1, (P + 2) + 2, (P + 2) + 3]) rfl)) F_1201 (si hprP (fun P => [26]) (fun P => [2, 3, 4, 23, 24, 26, P, P + 1, P + 2, (P + 2) + 1, (P + 2) + 2, (P + 2) + 3]) rfl)), (by omega), (by omega), (by omega), (by omega), (by omega), (by omega), (by omega), (by omega), (by omega), hp_1203, (by omega), (by omega), (by omega), (by omega), (by omega), (fun h0 => (hpx_1223 h0).e (by omega)), ((F_1201.1 23 (by decide) 2).trans ((F_1188.1 23 (ni hprP (fun P => 23) (fun P => [P, P + 1]) rfl) 2).trans (hs_1169.trans hi_1030))), ((F_1201.1 23 (by decide) 5).trans ((F_1188.1 23 (ni hprP (fun P => 23) (fun P => [P, P + 1]) rfl) 5).trans (hs_1170.trans hi_1031))), ((F_1201.1 23 (by decide) 6).trans ((F_1188.1 23 (ni hprP (fun P => 23) (fun P => [P, P + 1]) rfl) 6).trans (hs_1171.trans hi_1032))), ((F_1201.1 23 (by decide) 7).trans ((F_1188.1 23 (ni hprP (fun P => 23) (fun P => [P, P + 1]) rfl) 7).trans (hs_1172.trans hi_1033))), ((F_1201.1 23 (by decide) 8).trans ((F_1188.1 23 (ni hprP (fun P => 23) (fun P => [P, P + 1]) rfl) 8).trans (hs_1173.trans hi_1034))), ((F_1201.1 23 (by decide) 10).trans ((F_1188.1 23 (ni hprP (fun P => 23) (fun P => [P, P + 1]) rfl) 10).trans (hs_1175.trans hi_1035))), (hs_1206.trans ((F_1188.1 26 (ni hprP (fun P => 26) (fun P => [P, P + 1]) rfl) 6).trans (hs_1176.trans hi_1036))), ((F_1201.1 P (ni hprP (fun P => P) (fun P => [26]) rfl) 7).trans (hs_1192.trans (hs_1177.trans hi_1037))), hI_1202, rfl, lv_sub hl [0, 1, 2, 3, 4, 5, 6, 7, 8, 9] rfl⟩ G
          · refine lv_aload_n hx hb dX7_arguments_68 rfl (lv_at hl 5 rfl) ?_
            refine lv_iconst (v := iv 2) hx hb dX7_arguments_69 rfl ?_
            refine lv_aload_n hx hb dX7_arguments_70 rfl (lv_at hl 5 rfl) ?_
            refine xa_getr G fd_X7 (a := 23) (x := 26) 0 rfl (by decide) rfl (wm 2 17 rfl rfl) ⟨rfl, rfl, rfl⟩ dX7_arguments_71 rfl (G.sk 23 rfl) (by decide) rfl ?_
            refine xa_getN G fd_X10 (host := "FourTongues") (a := 26) 13 rfl (by decide) (by decide) ⟨rfl, rfl, rfl⟩ dX7_arguments_74 rfl (v := .int (iv (μL1011.1 26 13))) (by rw [show μL1011.1 26 13 = μL1011.1 26 13 from rfl]; rfl) ?_
            have hr_1224 : -2147483648 ≤ μL1011.1 26 13 ∧ μL1011.1 26 13 ≤ 2147483647 := by have h9 := G.hr (a := 26) (k := 13) rfl; exact h9
            refine xc_vV G (b := 23) (rest := []) (As := [.int (iv 2), .int (iv (μL1011.1 26 13))]) (c_X7_tellFault ω l μL1011 2 (μL1011.1 26 13) (by unfold ir; omega) (by unfold ir; omega) hi_1038 (by omega)) (wm 3 177 rfl rfl) (wm 3 179 rfl rfl) (wm 0 12 rfl rfl) rfl rfl (by decide) rfl (wm 1 12 rfl rfl) (wm 3 180 rfl rfl) (by decide) hR ⟨nfr hF (by decide), nlo hLo (by decide)⟩ (n := 2) rfl rfl (Nat.le_of_ble_eq_true rfl) hl.1 dX7_arguments_77 (fun μ1225 ρ d0 H locs hp G => ?_)
            obtain ⟨F_1226, hI_1227⟩ := hp
            refine lv_aload_n hx hb dX7_arguments_80 rfl (lv_at hl 5 rfl) ?_
            refine lv_iconst (v := iv 0) hx hb dX7_arguments_81 rfl ?_
            have hpx_1228 : μ1225.1 26 11 = 0 → PXE μo μ1225 P tt (ee + c9) f9 1 := fun h0 => (hi_1029 (by have h9 : μL1011.1 26 11 = μL1011.1 26 11 := rfl; have h8 : μ1225.1 26 11 = μL1011.1 26 11 := (F_1226.1 26 (by decide) 11); omega)).fr (K := [24]) (Fr.tr Fr.rf F_1226 (by decide)) (npL_p (L := [24]) (by decide) hprP).1 (npL_p (L := [24]) (by decide) hprP).2.1
            have e_1229 : μ1225.1 23 2 = P := ((F_1226.1 23 (by decide) 2).trans hi_1030)
            have e_1230 : μ1225.1 23 8 = tt := ((F_1226.1 23 (by decide) 8).trans hi_1034)
            have htk_1231 : TK μ1225 := hi_1023.fr (K := [24]) (Fr.tr Fr.rf F_1226 (by decide)) (by decide) (by decide)
            have hk_1232 := hi_1038.pr (p := P) hprP
            unfold pk at hk_1232
            have hc_1233 : 16 ≤ μL1011.2.1 (P + 1) ∧ μL1011.2.1 (P + 1) ≤ 73024 := hi_1038.rm.1 _ hprP.cap
            have e_1234 : μ1225.1 P 1 = μL1011.1 P 1 := (F_1226.1 P (ni hprP (fun P => P) (fun P => [24]) rfl) 1)
            have hn_1235 : -1 ≤ μL1011.1 26 10 ∧ μL1011.1 26 10 ≤ 3000 := hi_1038.nm.2.2.2.2.2.2.2.2.2.2.2.2
            have e_1236 : μ1225.1 26 10 = μL1011.1 26 10 := (F_1226.1 26 (by decide) 10)
            have e_1237 : μ1225.1 26 11 = μL1011.1 26 11 := (F_1226.1 26 (by decide) 11)
            have hk_1238 := hi_1038.row (r := P + 2) (hprP.row)
            unfold rk at hk_1238
            have e_1239 : μ1225.1 (P + 2) 3 = μL1011.1 (P + 2) 3 := (F_1226.1 (P + 2) (ni hprP (fun P => P + 2) (fun P => [24]) rfl) 3)
            have e_1240 : μ1225.1 P 1 = μL1011.1 P 1 := (F_1226.1 P (ni hprP (fun P => P) (fun P => [24]) rfl) 1)
            have e_1241 : μ1225.1 23 9 = μL1011.1 23 9 := (F_1226.1 23 (by decide) 9)
            have e_1242 : μ1225.1 23 9 = μL1011.1 23 9 := (F_1226.1 23 (by decide) 9)
            have e_1243 : μ1225.1 26 11 = μL1011.1 26 11 := (F_1226.1 26 (by decide) 11)
            have e_1244 : μ1225.1 23 9 = μL1011.1 23 9 := (F_1226.1 23 (by decide) 9)
            have e_1245 : μ1225.1 26 11 = μL1011.1 26 11 := (F_1226.1 26 (by decide) 11)
            have e_1246 : μ1225.1 26 11 = μL1011.1 26 11 := (F_1226.1 26 (by decide) 11)
            have e_1247 : μ1225.1 26 10 = μL1011.1 26 10 := (F_1226.1 26 (by decide) 10)
            have e_1248 : μ1225.1 P 1 = μL1011.1 P 1 := (F_1226.1 P (ni hprP (fun P => P) (fun P => [24]) rfl) 1)
            have e_1249 : μ1225.1 P 1 = μL1011.1 P 1 := (F_1226.1 P (ni hprP (fun P => P) (fun P => [24]) rfl) 1)
            have e_1250 : μ1225.1 26 10 = μL1011.1 26 10 := (F_1226.1 26 (by decide) 10)
            have e_1251 : μ1225.1 26 11 = μL1011.1 26 11 := (F_1226.1 26 (by decide) 11)
            have e_1252 : μ1225.1 (P + 2) 3 = μL1011.1 (P + 2) 3 := (F_1226.1 (P + 2) (ni hprP (fun P => P + 2) (fun P => [24]) rfl) 3)
            have e_1253 : μ1225.1 P 1 = μL1011.1 P 1 := (F_1226.1 P (ni hprP (fun P => P) (fun P => [24]) rfl) 1)
            have e_1254 : μ1225.1 (P + 2) 3 = μL1011.1 (P + 2) 3 := (F_1226.1 (P + 2) (ni hprP (fun P => P + 2) (fun P => [24]) rfl) 3)
            refine xc_vV G (b := 23) (rest := []) (As := [.int (iv 0)]) (((fun (_ : Om) (_ : Launch) => hE)) ω l μ1225 0 P tt (by omega) hI_1227 (by omega) (by omega) htk_1231 (by omega) (by omega) (by omega) (by omega) (by omega) (fun _ => Or.inl (by omega))) (wm 4 3 rfl rfl) (wm 4 5 rfl rfl) (wm 0 24 rfl rfl) rfl rfl (by decide) rfl (wm 1 12 rfl rfl) (wm 4 6 rfl rfl) (by decide) hR ⟨sfr (F := F) (a := 0) (by decide), slo (L := Lo) (m := 3) (a := 0) (by decide)⟩ (n := 1) rfl rfl (Nat.le_of_ble_eq_true rfl) hl.1 dX7_arguments_82 (fun μ1255 ρ d0 H locs hp G => ?_)
            obtain ⟨F_1256, hI_1257, hp_1258, hp_1259, hp_1260, hp_1261, hp_1262, hp_1263, hs_1264, hs_1265, hs_1266, hs_1267, hs_1268, hs_1269, hs_1270, hs_1271, hs_1272⟩ := hp
            have hn_1273 : -1 ≤ μ1255.1 26 10 ∧ μ1255.1 26 10 ≤ 3000 := hI_1257.nm.2.2.2.2.2.2.2.2.2.2.2.2
            have hk_1274 := hI_1257.pr (p := P) hprP
            unfold pk at hk_1274
            have hc_1275 : 16 ≤ μ1255.2.1 (P + 1) ∧ μ1255.2.1 (P + 1) ≤ 73024 := hI_1257.rm.1 _ hprP.cap
            have hk_1276 := hI_1257.row (r := P + 2) (hprP.row)
            unfold rk at hk_1276
            have htb_1277 := hp_1258.b
            have hpx_1278 : μ1255.1 26 11 = 0 → PXE μo μ1255 P tt ((ee + c9) + (1 - 0)) f9 1 := fun h0 => (PXE.app (hpx_1228 (by have h9 : μ1225.1 26 11 = μL1011.1 26 11 := (F_1226.1 26 (by decide) 11); have h8 : μ1255.1 26 11 = μ1255.1 26 11 := rfl; omega)) (hp_1263 h0)).e (by omega)
            refine lv_aload_n hx hb dX7_arguments_85 rfl (lv_at hl 5 rfl) ?_
            refine lv_iload hx hb dX7_arguments_86 (lv_at hl 3 rfl) ?_
            refine lv_iload hx hb dX7_arguments_88 (lv_at hl 4 rfl) ?_
            refine lv_iload hx hb dX7_arguments_90 (lv_at hl 2 rfl) ?_
            refine xb_iadd hx hb dX7_arguments_92 ?_
            have e_1279 : μ1255.1 23 2 = P := (hs_1264.trans ((F_1226.1 23 (by decide) 2).trans hi_1030))
            have e_1280 : μ1255.1 23 8 = tt := (hs_1268.trans ((F_1226.1 23 (by decide) 8).trans hi_1034))
            refine xc_iV G (b := 23) (rest := []) (As := [.int (iv f9), .int (iv (1 + c9))]) (c_X7_ifFails ω l μ1255 f9 (1 + c9) μo ((ee + c9) + (1 - 0)) (1) P tt (by unfold ir; omega) (by unfold ir; omega) hI_1257 (by omega) (by omega) (by omega) hpx_1278 (by omega) (by omega)) (wm 4 23 rfl rfl) (wm 4 25 rfl rfl) (wm 0 29 rfl rfl) rfl rfl (by decide) rfl (wm 1 12 rfl rfl) (wm 4 26 rfl rfl) (by decide) hR ⟨nfr hF (by decide), nlo hLo (by decide)⟩ (n := 2) rfl rfl (Nat.le_of_ble_eq_true rfl) hl.1 dX7_arguments_93 (fun r_1282 μ1281 ρ d0 H locs hr_r_1282 hp G => ?_)
            have hr_r_1282 : -2147483648 ≤ r_1282 ∧ r_1282 ≤ 2147483647 := hr_r_1282
            obtain ⟨F_1283, hI_1284, hp_1285, hp_1286, hs_1287⟩ := hp
            have hk_1288 := hI_1284.pr (p := P) hprP
            unfold pk at hk_1288
            have hc_1289 : 16 ≤ μ1281.2.1 (P + 1) ∧ μ1281.2.1 (P + 1) ≤ 73024 := hI_1284.rm.1 _ hprP.cap
            have hpx_1290 : μ1281.1 26 11 = 0 → PXE μo μ1281 P tt ((ee + c9) + (1 - 0)) r_1282 1 := fun h0 => hp_1285 (by have h9 : μ1255.1 26 11 = μ1255.1 26 11 := rfl; have h8 : μ1281.1 26 11 = μ1255.1 26 11 := (F_1283.1 26 (ni hprP (fun P => 26) (fun P => [P, P + 1]) rfl) 11); omega)
            clear hp_1285
            refine lv_istore (lv' := [(7, .int (iv r_1282)), (10, .int (iv i9)), (9, .int (iv m9)), (8, .int (iv c9)), (6, .int (iv 1)), (0, .ref (oP ω 23)), (1, .int (iv x1)), (2, .int (iv x2)), (3, .long (jv x3)), (5, .int (iv x4))]) hx hb dX7_arguments_96 hl (by decide) rfl (fun ls hl => ?_)
            refine lv_iinc (v := iv (c9 + 1)) (lv' := [(8, .int (iv (c9 + 1))), (7, .int (iv r_1282)), (10, .int (iv i9)), (9, .int (iv m9)), (6, .int (iv 1)), (0, .ref (oP ω 23)), (1, .int (iv x1)), (2, .int (iv x2)), (3, .long (jv x3)), (5, .int (iv x4))]) hx hb dX7_arguments_98 hl (k := 3) rfl (by rw [show Int32.ofInt 1 = iv 1 from rfl, iv_add]) (by decide) rfl (fun ls hl => ?_)
            refine lv_aload_n hx hb dX7_arguments_101 rfl (lv_at hl 5 rfl) ?_
            refine lv_bipush (v := iv 44) hx hb dX7_arguments_102 rfl ?_
            have htk_1291 : TK μ1281 := hp_1258.fr (K := [P, P + 1]) (Fr.tr Fr.rf F_1283 (si hprP (fun P => [P, P + 1]) (fun P => [P, P + 1]) rfl)) (ni hprP (fun P => 26) (fun P => [P, P + 1]) rfl) (ni hprP (fun P => 28) (fun P => [P, P + 1]) rfl)
            have e_1292 : μ1281.1 26 10 = μ1255.1 26 10 := (F_1283.1 26 (ni hprP (fun P => 26) (fun P => [P, P + 1]) rfl) 10)
            have e_1293 : μ1281.1 26 11 = μ1255.1 26 11 := (F_1283.1 26 (ni hprP (fun P => 26) (fun P => [P, P + 1]) rfl) 11)
            refine xc_iV G (b := 23) (rest := []) (As := [.int (iv 44)]) (c_X7_took_b ω l μ1281 44 (by unfold ir; omega) hI_1284 htk_1291 (by omega)) (wm 3 160 rfl rfl) (wm 3 162 rfl rfl) (wm 0 9 rfl rfl) rfl rfl (by decide) rfl (wm 1 12 rfl rfl) (wm 3 163 rfl rfl) (by decide) hR ⟨nfr hF (by decide), nlo hLo (by decide)⟩ (n := 1) rfl rfl (Nat.le_of_ble_eq_true rfl) hl.1 dX7_arguments_104 (fun r_1295 μ1294 ρ d0 H locs hr_r_1295 hp G => ?_)
            have hr_r_1295 : -2147483648 ≤ r_1295 ∧ r_1295 ≤ 2147483647 := hr_r_1295
            obtain ⟨F_1296, hI_1297, hp_1298, hp_1299, hs_1300, hs_1301, hs_1302, hs_1303, hs_1304⟩ := hp
            have hn_1305 : -1 ≤ μ1294.1 26 10 ∧ μ1294.1 26 10 ≤ 3000 := hI_1297.nm.2.2.2.2.2.2.2.2.2.2.2.2
            have htb_1306 := hp_1298.b
            refine lv_istore (lv' := [(9, .int (iv r_1295)), (8, .int (iv (c9 + 1))), (7, .int (iv r_1282)), (10, .int (iv i9)), (6, .int (iv 1)), (0, .ref (oP ω 23)), (1, .int (iv x1)), (2, .int (iv x2)), (3, .long (jv x3)), (5, .int (iv x4))]) hx hb dX7_arguments_107 hl (by decide) rfl (fun ls hl => ?_)
            refine lv_iinc (v := iv (i9 + 1)) (lv' := [(10, .int (iv (i9 + 1))), (9, .int (iv r_1295)), (8, .int (iv (c9 + 1))), (7, .int (iv r_1282)), (6, .int (iv 1)), (0, .ref (oP ω 23)), (1, .int (iv x1)), (2, .int (iv x2)), (3, .long (jv x3)), (5, .int (iv x4))]) hx hb dX7_arguments_109 hl (k := 3) rfl (by rw [show Int32.ofInt 1 = iv 1 from rfl, iv_add]) (by decide) rfl (fun ls hl => ?_)
            refine lv_goto (tgt := 48) hx hb dX7_arguments_112 (by decide) ?_
            have e_1307 : μ1294.1 23 9 = μL1011.1 23 9 := ((F_1296.1 23 (by decide) 9).trans ((F_1283.1 23 (ni hprP (fun P => 23) (fun P => [P, P + 1]) rfl) 9).trans (hs_1269.trans (F_1226.1 23 (by decide) 9))))
            have e_1308 : μ1294.1 23 9 = μL1011.1 23 9 := ((F_1296.1 23 (by decide) 9).trans ((F_1283.1 23 (ni hprP (fun P => 23) (fun P => [P, P + 1]) rfl) 9).trans (hs_1269.trans (F_1226.1 23 (by decide) 9))))
            have e_1309 : μ1294.1 26 11 = μ1255.1 26 11 := (hs_1300.trans (F_1283.1 26 (ni hprP (fun P => 26) (fun P => [P, P + 1]) rfl) 11))
            have e_1310 : μ1294.1 26 11 = μ1255.1 26 11 := (hs_1300.trans (F_1283.1 26 (ni hprP (fun P => 26) (fun P => [P, P + 1]) rfl) 11))
            have e_1311 : μ1294.1 P 1 = μ1281.1 P 1 := (F_1296.1 P (ni hprP (fun P => P) (fun P => [26]) rfl) 1)
            have e_1312 : μ1294.1 P 1 = μ1281.1 P 1 := (F_1296.1 P (ni hprP (fun P => P) (fun P => [26]) rfl) 1)
            have e_1313 : μ1294.1 26 11 = μ1255.1 26 11 := (hs_1300.trans (F_1283.1 26 (ni hprP (fun P => 26) (fun P => [P, P + 1]) rfl) 11))
            have e_1314 : μ1294.1 P 1 = μ1281.1 P 1 := (F_1296.1 P (ni hprP (fun P => P) (fun P => [26]) rfl) 1)
            have e_1315 : μ1294.1 (P + 2) 3 = μ1255.1 (P + 2) 3 := ((F_1296.1 (P + 2) (ni hprP (fun P => P + 2) (fun P => [26]) rfl) 3).trans (F_1283.1 (P + 2) (ni hprP (fun P => P + 2) (fun P => [P, P + 1]) rfl) 3))
            have e_1316 : μ1294.1 P 1 = μ1281.1 P 1 := (F_1296.1 P (ni hprP (fun P => P) (fun P => [26]) rfl) 1)
            have e_1317 : μ1294.1 (P + 2) 3 = μ1255.1 (P + 2) 3 := ((F_1296.1 (P + 2) (ni hprP (fun P => P + 2) (fun P => [26]) rfl) 3).trans (F_1283.1 (P + 2) (ni hprP (fun P => P + 2) (fun P => [P, P + 1]) rfl) 3))
            have hpx_1318 : μ1294.1 26 11 = 0 → PXE μo μ1294 P tt ((ee + c9) + (1 - 0)) r_1282 1 := fun h0 => (hpx_1290 (by have h9 : μ1281.1 26 11 = μ1255.1 26 11 := (F_1283.1 26 (ni hprP (fun P => 26) (fun P => [P, P + 1]) rfl) 11); have h8 : μ1294.1 26 11 = μ1255.1 26 11 := (hs_1300.trans (F_1283.1 26 (ni hprP (fun P => 26) (fun P => [P, P + 1]) rfl) 11)); omega)).fr (K := [26]) (Fr.tr Fr.rf F_1296 (by decide)) (npL_p (L := [26]) (by decide) hprP).1 (npL_p (L := [26]) (by decide) hprP).2.1
            exact ih _ _ _ _ _ _ _ (by omega) ⟨r_1282, c9 + 1, r_1295, i9 + 1, (Fr.tr (Fr.tr (Fr.tr (Fr.tr FL1012 F_1226 (si hprP (fun P => [24]) (fun P => [2, 3, 4, 23, 24, 26, P, P + 1, P + 2, (P + 2) + 1, (P + 2) + 2, (P + 2) + 3]) rfl)) F_1256 (si hprP (fun P => [2, 3, 4, 23, 24, 26, P, P + 1, P + 2, (P + 2) + 1, (P + 2) + 2, (P + 2) + 3]) (fun P => [2, 3, 4, 23, 24, 26, P, P + 1, P + 2, (P + 2) + 1, (P + 2) + 2, (P + 2) + 3]) rfl)) F_1283 (si hprP (fun P => [P, P + 1]) (fun P => [2, 3, 4, 23, 24, 26, P, P + 1, P + 2, (P + 2) + 1, (P + 2) + 2, (P + 2) + 3]) rfl)) F_1296 (si hprP (fun P => [26]) (fun P => [2, 3, 4, 23, 24, 26, P, P + 1, P + 2, (P + 2) + 1, (P + 2) + 2, (P + 2) + 3]) rfl)), (by omega), (by omega), (by omega), (by omega), (by omega), (by omega), (by omega), (by omega), (by omega), hp_1298, (by omega), (by omega), (by omega), (by omega), (by omega), (fun h0 => (hpx_1318 h0).e (by omega)), ((F_1296.1 23 (by decide) 2).trans ((F_1283.1 23 (ni hprP (fun P => 23) (fun P => [P, P + 1]) rfl) 2).trans (hs_1264.trans ((F_1226.1 23 (by decide) 2).trans hi_1030)))), ((F_1296.1 23 (by decide) 5).trans ((F_1283.1 23 (ni hprP (fun P => 23) (fun P => [P, P + 1]) rfl) 5).trans (hs_1265.trans ((F_1226.1 23 (by decide) 5).trans hi_1031)))), ((F_1296.1 23 (by decide) 6).trans ((F_1283.1 23 (ni hprP (fun P => 23) (fun P => [P, P + 1]) rfl) 6).trans (hs_1266.trans ((F_1226.1 23 (by decide) 6).trans hi_1032)))), ((F_1296.1 23 (by decide) 7).trans ((F_1283.1 23 (ni hprP (fun P => 23) (fun P => [P, P + 1]) rfl) 7).trans (hs_1267.trans ((F_1226.1 23 (by decide) 7).trans hi_1033)))), ((F_1296.1 23 (by decide) 8).trans ((F_1283.1 23 (ni hprP (fun P => 23) (fun P => [P, P + 1]) rfl) 8).trans (hs_1268.trans ((F_1226.1 23 (by decide) 8).trans hi_1034)))), ((F_1296.1 23 (by decide) 10).trans ((F_1283.1 23 (ni hprP (fun P => 23) (fun P => [P, P + 1]) rfl) 10).trans (hs_1270.trans ((F_1226.1 23 (by decide) 10).trans hi_1035)))), (hs_1301.trans ((F_1283.1 26 (ni hprP (fun P => 26) (fun P => [P, P + 1]) rfl) 6).trans (hs_1271.trans ((F_1226.1 26 (by decide) 6).trans hi_1036)))), ((F_1296.1 P (ni hprP (fun P => P) (fun P => [26]) rfl) 7).trans (hs_1287.trans (hs_1272.trans ((F_1226.1 P (ni hprP (fun P => P) (fun P => [24]) rfl) 7).trans hi_1037)))), hI_1297, rfl, lv_sub hl [0, 1, 2, 3, 4, 5, 6, 7, 8, 9] rfl⟩ G
