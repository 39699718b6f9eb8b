abbrev cX7_arguments : ByteArray := prog_9_method_54_code
def yX7_arguments : MethodName := ⟨RX7, "arguments", "(IIJI)V"⟩
theorem dX7_arguments_0 : decode cX7_arguments 0 = .ok (.iload_n 1, 1) := by decide +kernel
theorem dX7_arguments_1 : decode cX7_arguments 1 = .ok (.bipush 14, 2) := by decide +kernel
theorem dX7_arguments_3 : decode cX7_arguments 3 = .ok (.if_icmp .ne 7, 3) := by decide +kernel
theorem dX7_arguments_6 : decode cX7_arguments 6 = .ok (.iconst 1, 1) := by decide +kernel
theorem dX7_arguments_7 : decode cX7_arguments 7 = .ok (.goto 4, 3) := by decide +kernel
theorem dX7_arguments_10 : decode cX7_arguments 10 = .ok (.iconst 0, 1) := by decide +kernel
theorem dX7_arguments_11 : decode cX7_arguments 11 = .ok (.istore 6, 2) := by decide +kernel
theorem dX7_arguments_13 : decode cX7_arguments 13 = .ok (.iload 5, 2) := by decide +kernel
theorem dX7_arguments_15 : decode cX7_arguments 15 = .ok (.istore 7, 2) := by decide +kernel
theorem dX7_arguments_17 : decode cX7_arguments 17 = .ok (.iconst 0, 1) := by decide +kernel
theorem dX7_arguments_18 : decode cX7_arguments 18 = .ok (.istore 8, 2) := by decide +kernel
theorem dX7_arguments_20 : decode cX7_arguments 20 = .ok (.aload_n 0, 1) := by decide +kernel
theorem dX7_arguments_21 : decode cX7_arguments 21 = .ok (.bipush 40, 2) := by decide +kernel
theorem dX7_arguments_23 : decode cX7_arguments 23 = .ok (.invokevirtual 164, 3) := by decide +kernel
theorem dX7_arguments_26 : decode cX7_arguments 26 = .ok (.aload_n 0, 1) := by decide +kernel
theorem dX7_arguments_27 : decode cX7_arguments 27 = .ok (.getfield 43, 3) := by decide +kernel
theorem dX7_arguments_30 : decode cX7_arguments 30 = .ok (.getfield 80, 3) := by decide +kernel
theorem dX7_arguments_33 : decode cX7_arguments 33 = .ok (.bipush 41, 2) := by decide +kernel
theorem dX7_arguments_35 : decode cX7_arguments 35 = .ok (.if_icmp .eq 7, 3) := by decide +kernel
theorem dX7_arguments_38 : decode cX7_arguments 38 = .ok (.iconst 1, 1) := by decide +kernel
theorem dX7_arguments_39 : decode cX7_arguments 39 = .ok (.goto 4, 3) := by decide +kernel
theorem dX7_arguments_42 : decode cX7_arguments 42 = .ok (.iconst 0, 1) := by decide +kernel
theorem dX7_arguments_43 : decode cX7_arguments 43 = .ok (.istore 9, 2) := by decide +kernel
theorem dX7_arguments_45 : decode cX7_arguments 45 = .ok (.iconst 0, 1) := by decide +kernel
theorem dX7_arguments_46 : decode cX7_arguments 46 = .ok (.istore 10, 2) := by decide +kernel
theorem dX7_arguments_48 : decode cX7_arguments 48 = .ok (.iload 10, 2) := by decide +kernel
theorem dX7_arguments_50 : decode cX7_arguments 50 = .ok (.sipush 3000, 3) := by decide +kernel
theorem dX7_arguments_53 : decode cX7_arguments 53 = .ok (.if_icmp .ge 62, 3) := by decide +kernel
theorem dX7_arguments_56 : decode cX7_arguments 56 = .ok (.iload 9, 2) := by decide +kernel
theorem dX7_arguments_58 : decode cX7_arguments 58 = .ok (.ifCond .eq 57, 3) := by decide +kernel
theorem dX7_arguments_61 : decode cX7_arguments 61 = .ok (.iload 8, 2) := by decide +kernel
theorem dX7_arguments_63 : decode cX7_arguments 63 = .ok (.bipush 8, 2) := by decide +kernel
theorem dX7_arguments_65 : decode cX7_arguments 65 = .ok (.if_icmp .lt 15, 3) := by decide +kernel
theorem dX7_arguments_68 : decode cX7_arguments 68 = .ok (.aload_n 0, 1) := by decide +kernel
theorem dX7_arguments_69 : decode cX7_arguments 69 = .ok (.iconst 2, 1) := by decide +kernel
theorem dX7_arguments_70 : decode cX7_arguments 70 = .ok (.aload_n 0, 1) := by decide +kernel
theorem dX7_arguments_71 : decode cX7_arguments 71 = .ok (.getfield 43, 3) := by decide +kernel
theorem dX7_arguments_74 : decode cX7_arguments 74 = .ok (.getfield 96, 3) := by decide +kernel
theorem dX7_arguments_77 : decode cX7_arguments 77 = .ok (.invokevirtual 127, 3) := by decide +kernel
theorem dX7_arguments_80 : decode cX7_arguments 80 = .ok (.aload_n 0, 1) := by decide +kernel
theorem dX7_arguments_81 : decode cX7_arguments 81 = .ok (.iconst 0, 1) := by decide +kernel
theorem dX7_arguments_82 : decode cX7_arguments 82 = .ok (.invokevirtual 216, 3) := by decide +kernel
theorem dX7_arguments_85 : decode cX7_arguments 85 = .ok (.aload_n 0, 1) := by decide +kernel
theorem dX7_arguments_86 : decode cX7_arguments 86 = .ok (.iload 7, 2) := by decide +kernel
theorem dX7_arguments_88 : decode cX7_arguments 88 = .ok (.iload 6, 2) := by decide +kernel
theorem dX7_arguments_90 : decode cX7_arguments 90 = .ok (.iload 8, 2) := by decide +kernel
theorem dX7_arguments_92 : decode cX7_arguments 92 = .ok (.iadd, 1) := by decide +kernel
theorem dX7_arguments_93 : decode cX7_arguments 93 = .ok (.invokevirtual 273, 3) := by decide +kernel
theorem dX7_arguments_96 : decode cX7_arguments 96 = .ok (.istore 7, 2) := by decide +kernel
theorem dX7_arguments_98 : decode cX7_arguments 98 = .ok (.iinc 8 1, 3) := by decide +kernel
theorem dX7_arguments_101 : decode cX7_arguments 101 = .ok (.aload_n 0, 1) := by decide +kernel
theorem dX7_arguments_102 : decode cX7_arguments 102 = .ok (.bipush 44, 2) := by decide +kernel
theorem dX7_arguments_104 : decode cX7_arguments 104 = .ok (.invokevirtual 83, 3) := by decide +kernel
theorem dX7_arguments_107 : decode cX7_arguments 107 = .ok (.istore 9, 2) := by decide +kernel
theorem dX7_arguments_109 : decode cX7_arguments 109 = .ok (.iinc 10 1, 3) := by decide +kernel
theorem dX7_arguments_112 : decode cX7_arguments 112 = .ok (.goto (-64), 3) := by decide +kernel
theorem dX7_arguments_115 : decode cX7_arguments 115 = .ok (.aload_n 0, 1) := by decide +kernel
theorem dX7_arguments_116 : decode cX7_arguments 116 = .ok (.bipush 41, 2) := by decide +kernel
theorem dX7_arguments_118 : decode cX7_arguments 118 = .ok (.invokevirtual 170, 3) := by decide +kernel
theorem dX7_arguments_121 : decode cX7_arguments 121 = .ok (.aload_n 0, 1) := by decide +kernel
theorem dX7_arguments_122 : decode cX7_arguments 122 = .ok (.getfield 51, 3) := by decide +kernel
theorem dX7_arguments_125 : decode cX7_arguments 125 = .ok (.iconst 0, 1) := by decide +kernel
theorem dX7_arguments_126 : decode cX7_arguments 126 = .ok (.lload_n 3, 1) := by decide +kernel
theorem dX7_arguments_127 : decode cX7_arguments 127 = .ok (.dconst 0, 1) := by decide +kernel
theorem dX7_arguments_128 : decode cX7_arguments 128 = .ok (.invokevirtual 310, 3) := by decide +kernel
theorem dX7_arguments_131 : decode cX7_arguments 131 = .ok (.istore 10, 2) := by decide +kernel
theorem dX7_arguments_133 : decode cX7_arguments 133 = .ok (.aload_n 0, 1) := by decide +kernel
theorem dX7_arguments_134 : decode cX7_arguments 134 = .ok (.iload_n 1, 1) := by decide +kernel
theorem dX7_arguments_135 : decode cX7_arguments 135 = .ok (.iload 8, 2) := by decide +kernel
theorem dX7_arguments_137 : decode cX7_arguments 137 = .ok (.iconst 4, 1) := by decide +kernel
theorem dX7_arguments_138 : decode cX7_arguments 138 = .ok (.imul, 1) := by decide +kernel
theorem dX7_arguments_139 : decode cX7_arguments 139 = .ok (.iload_n 2, 1) := by decide +kernel
theorem dX7_arguments_140 : decode cX7_arguments 140 = .ok (.iadd, 1) := by decide +kernel
theorem dX7_arguments_141 : decode cX7_arguments 141 = .ok (.iload 10, 2) := by decide +kernel
theorem dX7_arguments_143 : decode cX7_arguments 143 = .ok (.iload 7, 2) := by decide +kernel
theorem dX7_arguments_145 : decode cX7_arguments 145 = .ok (.invokevirtual 230, 3) := by decide +kernel
theorem dX7_arguments_148 : decode cX7_arguments 148 = .ok (.return_, 1) := by decide +kernel
theorem ef13 {c x : Int} (h : 0 ≤ c) (hx : 0 ≤ x ∧ x ≤ 3) : eff 13 (c * 4 + x) = 1 - c := by
  show 1 - (c * 4 + x).tdiv 4 = 1 - c
  rw [Int.tdiv_eq_ediv_of_nonneg (by omega)]
  omega
theorem ef14 {c x : Int} (h : 0 ≤ c) (hx : 0 ≤ x ∧ x ≤ 3) : eff 14 (c * 4 + x) = - c := by
  show - (c * 4 + x).tdiv 4 = - c
  rw [Int.tdiv_eq_ediv_of_nonneg (by omega)]
  omega
set_option maxHeartbeats 4000000 in
set_option maxRecDepth 100000 in
theorem c_X7_arguments (ω : Om) (l : Launch) (μ : M3) (x1 : Int) (x2 : Int) (x3 : Int) (x4 : Int) (F : Nat) (Lo : Nat) (kf : Int) (μo : M3) (e : Int) (w : Int) (P : Int) (tt : Int) (hx1 : ir x1) (hx2 : ir x2) (hx3 : jr x3) (hx4 : ir x4) (hI : IC μ) (hP : P = μ.1 23 2) (htt : tt = μ.1 23 8) (hF : 60 ≤ F) (hLo : 2000 ≤ Lo) (hE : ∀ (μ : M3) (x1 : Int) (P : Int) (tt : Int) (hx1 : x1 = 0 ∨ x1 = 1) (hI : IC μ) (hP : P = μ.1 23 2) (htt : tt = μ.1 23 8) (hTK : TK μ) (hB : μ.1 P 1 ≤ 2 * μ.1 26 10 + 100 + 40 * μ.1 26 11) (hKc : μ.1 (P + 2) 3 ≤ μ.1 P 1) (hdp : 0 ≤ μ.1 23 9 ∧ μ.1 23 9 ≤ 8 + μ.1 26 11) (hfu : (μ.1 26 11 = 1 ∧ 0 ≤ (kf - 1)) ∨ 9 ≤ μ.1 23 9 + (kf - 1)) (hbg : x1 = 0 ∨ μ.1 26 11 ≠ 0 ∨ 2 ≤ hs μ P (μ.1 P 1)), CtV ω l yX7_expression cX7_expression 3 (F + 0) (Lo + 0) [.ref (oP ω 23), .int (iv x1)] μ (fun (μ' : M3) => (Fr [2, 3, 4, 23, 24, 26, P, P + 1, P + 2, (P + 2) + 1, (P + 2) + 2, (P + 2) + 3] μ μ') ∧ (IC μ') ∧ (TK μ') ∧ (μ.1 26 11 ≤ μ'.1 26 11) ∧ (μ.1 26 10 ≤ μ'.1 26 10) ∧ (μ.1 P 1 ≤ μ'.1 P 1 ∧ μ'.1 P 1 ≤ μ.1 P 1 + 2 * (μ'.1 26 10 - μ.1 26 10) + (- 1 + 3 * μ'.1 26 11 - 2 * μ.1 26 11 + x1)) ∧ (μ'.1 (P + 2) 3 - μ.1 (P + 2) 3 ≤ μ'.1 P 1 - μ.1 P 1 ∧ μ.1 (P + 2) 3 ≤ μ'.1 (P + 2) 3) ∧ (μ'.1 26 11 = 0 → EX μ μ' P tt (1 - x1) 0) ∧ (μ'.1 23 2 = μ.1 23 2) ∧ (μ'.1 23 5 = μ.1 23 5) ∧ (μ'.1 23 6 = μ.1 23 6) ∧ (μ'.1 23 7 = μ.1 23 7) ∧ (μ'.1 23 8 = μ.1 23 8) ∧ (μ'.1 23 9 = μ.1 23 9) ∧ (μ'.1 23 10 = μ.1 23 10) ∧ (μ'.1 26 6 = μ.1 26 6) ∧ (μ'.1 P 7 = μ.1 P 7))) (hU : ∀ (μ : M3) (x1 : Int) (P : Int) (tt : Int) (hx1 : x1 = 0 ∨ x1 = 1) (hI : IC μ) (hP : P = μ.1 23 2) (htt : tt = μ.1 23 8) (hTK : TK μ) (hB : μ.1 P 1 ≤ 2 * μ.1 26 10 + 100 + 40 * μ.1 26 11) (hKc : μ.1 (P + 2) 3 ≤ μ.1 P 1) (hdp : 0 ≤ μ.1 23 9 ∧ μ.1 23 9 ≤ 8 + μ.1 26 11) (hfu : (μ.1 26 11 = 1 ∧ 0 ≤ (kf - 1)) ∨ 9 ≤ μ.1 23 9 + (kf - 1)) (hbg : x1 = 0 ∨ μ.1 26 11 ≠ 0 ∨ 2 ≤ hs μ P (μ.1 P 1)), CtV ω l yX7_unary cX7_unary 2 (F + 0) (Lo + 0) [.ref (oP ω 23), .int (iv x1)] μ (fun (μ' : M3) => (Fr [2, 3, 4, 23, 24, 26, P, P + 1, P + 2, (P + 2) + 1, (P + 2) + 2, (P + 2) + 3] μ μ') ∧ (IC μ') ∧ (TK μ') ∧ (μ.1 26 11 ≤ μ'.1 26 11) ∧ (μ.1 26 10 ≤ μ'.1 26 10) ∧ (μ.1 P 1 ≤ μ'.1 P 1 ∧ μ'.1 P 1 ≤ μ.1 P 1 + 2 * (μ'.1 26 10 - μ.1 26 10) + (- 1 + 3 * μ'.1 26 11 - 2 * μ.1 26 11 + x1)) ∧ (μ'.1 (P + 2) 3 - μ.1 (P + 2) 3 ≤ μ'.1 P 1 - μ.1 P 1 ∧ μ.1 (P + 2) 3 ≤ μ'.1 (P + 2) 3) ∧ (μ'.1 26 11 = 0 → EX μ μ' P tt (1 - x1) 0) ∧ (μ'.1 23 2 = μ.1 23 2) ∧ (μ'.1 23 5 = μ.1 23 5) ∧ (μ'.1 23 6 = μ.1 23 6) ∧ (μ'.1 23 7 = μ.1 23 7) ∧ (μ'.1 23 8 = μ.1 23 8) ∧ (μ'.1 23 9 = μ.1 23 9) ∧ (μ'.1 23 10 = μ.1 23 10) ∧ (μ'.1 26 6 = μ.1 26 6) ∧ (μ'.1 P 7 = μ.1 P 7))) (hTK : TK μ) (hB : μ.1 P 1 ≤ 2 * μ.1 26 10 + 100 + 40 * μ.1 26 11) (hKc : μ.1 (P + 2) 3 ≤ μ.1 P 1) (hdp : 0 ≤ μ.1 23 9 ∧ μ.1 23 9 ≤ 8) (hfu : 9 ≤ μ.1 23 9 + kf) (heo : (x1 = 13 ∧ e = 0) ∨ (x1 = 14 ∧ e = 1)) (hx2b : 0 ≤ x2 ∧ x2 ≤ 3) (hpx : μ.1 26 11 = 0 → PXE μo μ P tt e x4 w) (hw1 : w = 1) : CtV ω l yX7_arguments cX7_arguments 11 (F + 1) (Lo + 22) [.ref (oP ω 23), .int (iv x1), .int (iv x2), .long (jv x3), .int (iv x4)] μ (fun (μ' : M3) => (Fr [2, 3, 4, 23, 24, 26, P, P + 1, P + 2, (P + 2) + 1, (P + 2) + 2, (P + 2) + 3] μ μ') ∧ (IC μ') ∧ (TK μ') ∧ (μ.1 26 11 ≤ μ'.1 26 11) ∧ (μ.1 26 10 ≤ μ'.1 26 10) ∧ (μ.1 P 1 ≤ μ'.1 P 1 ∧ μ'.1 P 1 ≤ μ.1 P 1 + 2 * (μ'.1 26 10 - μ.1 26 10) + (- 1 + 3 * μ'.1 26 11)) ∧ (μ'.1 (P + 2) 3 - μ.1 (P + 2) 3 ≤ μ'.1 P 1 - μ.1 P 1 ∧ μ.1 (P + 2) 3 ≤ μ'.1 (P + 2) 3) ∧ (μ'.1 26 11 = 0 → EX μo μ' P tt 1 0) ∧ (μ'.1 23 2 = μ.1 23 2) ∧ (μ'.1 23 5 = μ.1 23 5) ∧ (μ'.1 23 6 = μ.1 23 6) ∧ (μ'.1 23 7 = μ.1 23 7) ∧ (μ'.1 23 8 = μ.1 23 8) ∧ (μ'.1 23 9 = μ.1 23 9) ∧ (μ'.1 23 10 = μ.1 23 10) ∧ (μ'.1 26 6 = μ.1 26 6) ∧ (μ'.1 P 7 = μ.1 P 7)) := by
  refine CtV.go (by decide) (Nat.le_of_ble_eq_true rfl) (fun ρ p e s m below meth c R ls G hR hret hlk hl => ?_)
  have hx := G.1.1
  have hb := G.1.2.1
  have hl : lv_has ls 11 [(0, .ref (oP ω 23)), (1, .int (iv x1)), (2, .int (iv x2)), (3, .long (jv x3)), (5, .int (iv x4))] := hl
  generalize s.drawn = d0 at G ⊢
  have hr_x1 : -2147483648 ≤ x1 ∧ x1 ≤ 2147483647 := hx1
  have hr_x2 : -2147483648 ≤ x2 ∧ x2 ≤ 2147483647 := hx2
  have hr_x4 : -2147483648 ≤ x4 ∧ x4 ≤ 2147483647 := hx4
  have hTKb := hTK.b
  have hprP : isPr P := by have h9 := G.sr0.2.2.2.2.2; rw [← hP] at h9; exact h9
  have hprP_d : 13 ≤ P ∧ P ≤ 101 := by rcases hprP with h9 | h9 | h9 | h9 | h9 <;> omega
  have hk_1 := hI.pr (p := P) hprP
  unfold pk at hk_1
  have hc_2 : 16 ≤ μ.2.1 (P + 1) ∧ μ.2.1 (P + 1) ≤ 73024 := hI.rm.1 _ hprP.cap
  subst hw1
  refine lv_iload_n hx hb dX7_arguments_0 rfl (lv_at hl 1 rfl) ?_
  refine lv_bipush (v := iv 14) hx hb dX7_arguments_1 rfl ?_
  refine xb_icmp_ne (tgt := 10) hx hb (by unfold ir; omega) (by unfold ir; omega) dX7_arguments_3 (by decide) (fun c_3 => ?_) (fun c_3 => ?_)
  · refine lv_iconst (v := iv 0) hx hb dX7_arguments_10 rfl ?_
    refine lv_istore (lv' := [(6, .int (iv 0)), (0, .ref (oP ω 23)), (1, .int (iv x1)), (2, .int (iv x2)), (3, .long (jv x3)), (5, .int (iv x4))]) hx hb dX7_arguments_11 hl (by decide) rfl (fun ls hl => ?_)
    refine lv_iload hx hb dX7_arguments_13 (lv_at hl 5 rfl) ?_
    refine lv_istore (lv' := [(7, .int (iv x4)), (6, .int (iv 0)), (0, .ref (oP ω 23)), (1, .int (iv x1)), (2, .int (iv x2)), (3, .long (jv x3)), (5, .int (iv x4))]) hx hb dX7_arguments_15 hl (by decide) rfl (fun ls hl => ?_)
    refine lv_iconst (v := iv 0) hx hb dX7_arguments_17 rfl ?_
    refine lv_istore (lv' := [(8, .int (iv 0)), (7, .int (iv x4)), (6, .int (iv 0)), (0, .ref (oP ω 23)), (1, .int (iv x1)), (2, .int (iv x2)), (3, .long (jv x3)), (5, .int (iv x4))]) hx hb dX7_arguments_18 hl (by decide) rfl (fun ls hl => ?_)
    refine lv_aload_n hx hb dX7_arguments_20 rfl (lv_at hl 3 rfl) ?_
    refine lv_bipush (v := iv 40) hx hb dX7_arguments_21 rfl ?_
    have hn_3 : -1 ≤ μ.1 26 10 ∧ μ.1 26 10 ≤ 3000 := hI.nm.2.2.2.2.2.2.2.2.2.2.2.2
    have hn_4 : 0 ≤ μ.1 26 6 ∧ μ.1 26 6 ≤ 3001 := hI.nm.2.2.2.2.2.2.2.2.2.1
    have hn_5 : 0 ≤ μ.1 26 7 ∧ μ.1 26 7 ≤ 3000 := hI.nm.2.2.2.2.2.2.2.2.2.2.1
    have hn_6 : 0 ≤ μ.1 26 9 ∧ μ.1 26 9 ≤ 3000 := hI.nm.2.2.2.2.2.2.2.2.2.2.2.1
    have e_7 : μ.1 23 2 = P := hP.symm
    have hn_8 : 0 ≤ μ.1 23 5 ∧ μ.1 23 5 ≤ 1000 := hI.nm.2.2.2.2.2.2.2.2.1
    have e_9 : μ.1 23 8 = tt := htt.symm
    refine xc_vV G (b := 23) (rest := []) (As := [.int (iv 40)]) (c_X7_needOpen ω l μ 40 (by unfold ir; omega) hI hTK (by omega) (by omega)) (wm 3 197 rfl rfl) (wm 3 199 rfl rfl) (wm 0 14 rfl rfl) rfl rfl (by decide) rfl (wm 1 12 rfl rfl) (wm 3 200 rfl rfl) (by decide) hR ⟨nfr hF (by decide), nlo hLo (by decide)⟩ (n := 1) rfl rfl (Nat.le_of_ble_eq_true rfl) hl.1 dX7_arguments_23 (fun μ10 ρ d0 H locs hp G => ?_)
    obtain ⟨F_11, hI_12, hp_13, hp_14, hp_15, hp_16, hs_17, hs_18, hs_19, hs_20, hs_21, hs_22, hs_23, hs_24, hs_25, hs_26, hs_27⟩ := hp
    have hn_28 : -1 ≤ μ10.1 26 10 ∧ μ10.1 26 10 ≤ 3000 := hI_12.nm.2.2.2.2.2.2.2.2.2.2.2.2
    have htb_29 := hp_13.b
    refine lv_aload_n hx hb dX7_arguments_26 rfl (lv_at hl 3 rfl) ?_
    refine xa_getr G fd_X7 (a := 23) (x := 26) 0 rfl (by decide) rfl (wm 2 17 rfl rfl) ⟨rfl, rfl, rfl⟩ dX7_arguments_27 rfl (G.sk 23 rfl) (by decide) rfl ?_
    refine xa_getN G fd_X10 (host := "FourTongues") (a := 26) 12 rfl (by decide) (by decide) ⟨rfl, rfl, rfl⟩ dX7_arguments_30 rfl (v := .int (iv (μ10.1 26 12))) (by rw [show μ10.1 26 12 = μ10.1 26 12 from rfl]; rfl) ?_
    have hr_30 : -2147483648 ≤ μ10.1 26 12 ∧ μ10.1 26 12 ≤ 2147483647 := by have h9 := G.hr (a := 26) (k := 12) rfl; exact h9
    refine lv_bipush (v := iv 41) hx hb dX7_arguments_33 rfl ?_
    refine xb_icmp_eq (tgt := 42) hx hb (by unfold ir; omega) (by unfold ir; omega) dX7_arguments_35 (by decide) (fun c_35 => ?_) (fun c_35 => ?_)
    · refine lv_iconst (v := iv 0) hx hb dX7_arguments_42 rfl ?_
      refine lv_istore (lv' := [(9, .int (iv 0)), (8, .int (iv 0)), (7, .int (iv x4)), (6, .int (iv 0)), (0, .ref (oP ω 23)), (1, .int (iv x1)), (2, .int (iv x2)), (3, .long (jv x3)), (5, .int (iv x4))]) hx hb dX7_arguments_43 hl (by decide) rfl (fun ls hl => ?_)
      refine lv_iconst (v := iv 0) hx hb dX7_arguments_45 rfl ?_
      refine lv_istore (lv' := [(10, .int (iv 0)), (9, .int (iv 0)), (8, .int (iv 0)), (7, .int (iv x4)), (6, .int (iv 0)), (0, .ref (oP ω 23)), (1, .int (iv x1)), (2, .int (iv x2)), (3, .long (jv x3)), (5, .int (iv x4))]) hx hb dX7_arguments_46 hl (by decide) rfl (fun ls hl => ?_)
      have e_31 : μ10.1 P 1 = μ.1 P 1 := (F_11.1 P (ni hprP (fun P => P) (fun P => [26, 23]) rfl) 1)
      have e_32 : μ10.1 P 1 = μ.1 P 1 := (F_11.1 P (ni hprP (fun P => P) (fun P => [26, 23]) rfl) 1)
      have e_33 : μ10.1 P 1 = μ.1 P 1 := (F_11.1 P (ni hprP (fun P => P) (fun P => [26, 23]) rfl) 1)
      have e_34 : μ10.1 (P + 2) 3 = μ.1 (P + 2) 3 := (F_11.1 (P + 2) (ni hprP (fun P => P + 2) (fun P => [26, 23]) rfl) 3)
      have e_35 : μ10.1 P 1 = μ.1 P 1 := (F_11.1 P (ni hprP (fun P => P) (fun P => [26, 23]) rfl) 1)
      have e_36 : μ10.1 (P + 2) 3 = μ.1 (P + 2) 3 := (F_11.1 (P + 2) (ni hprP (fun P => P + 2) (fun P => [26, 23]) rfl) 3)
      have hk_37 := hI.row (r := P + 2) (hprP.row)
      unfold rk at hk_37
      have hpx_38 : μ10.1 26 11 = 0 → PXE μo μ10 P tt e x4 1 := fun h0 => (hpx (by have h9 : μ.1 26 11 = μ.1 26 11 := rfl; have h8 : μ10.1 26 11 = μ10.1 26 11 := rfl; omega)).fr (K := [26, 23]) (Fr.tr Fr.rf F_11 (by decide)) (npL_p (L := [26, 23]) (by decide) hprP).1 (npL_p (L := [26, 23]) (by decide) hprP).2.1
      refine xl (fun n_9 μ' ls => ∃ (f9 : Int), ∃ (c9 : Int), ∃ (m9 : Int), ∃ (i9 : Int), (Fr [2, 3, 4, 23, 24, 26, P, P + 1, P + 2, (P + 2) + 1, (P + 2) + 2, (P + 2) + 3] μ10 μ') ∧ (-2147483648 ≤ f9 ∧ f9 ≤ 2147483647) ∧ (-2147483648 ≤ c9 ∧ c9 ≤ 2147483647) ∧ (-2147483648 ≤ m9 ∧ m9 ≤ 2147483647) ∧ (-2147483648 ≤ i9 ∧ i9 ≤ 2147483647) ∧ (0 ≤ c9 ∧ c9 ≤ i9) ∧ (i9 ≤ 3000) ∧ (m9 = 0 ∨ m9 = 1) ∧ (TK μ') ∧ (μ.1 26 11 ≤ μ'.1 26 11) ∧ (μ.1 26 10 ≤ μ'.1 26 10) ∧ (μ.1 P 1 ≤ μ'.1 P 1 ∧ μ'.1 P 1 ≤ μ.1 P 1 + 2 * (μ'.1 26 10 - μ.1 26 10) + (- 2 + 3 * μ'.1 26 11)) ∧ (μ'.1 P 1 ≤ μ.1 P 1 + 2 * (μ'.1 26 10 - μ.1 26 10) + (1 - m9)) ∧ (μ'.1 (P + 2) 3 - μ.1 (P + 2) 3 ≤ μ'.1 P 1 - μ.1 P 1 ∧ μ.1 (P + 2) 3 ≤ μ'.1 (P + 2) 3) ∧ (μ'.1 26 11 = 0 → PXE μo μ' P tt (e + c9) f9 1) ∧ (μ'.1 2 4 = μ.1 2 4) ∧ (μ'.1 23 2 = P) ∧ (μ'.1 23 5 = μ.1 23 5) ∧ (μ'.1 23 6 = μ.1 23 6) ∧ (μ'.1 23 7 = μ.1 23 7) ∧ (μ'.1 23 8 = tt) ∧ (μ'.1 23 10 = μ.1 23 10) ∧ (μ'.1 26 6 = μ.1 26 6) ∧ (μ'.1 26 7 = μ.1 26 7) ∧ (μ'.1 26 8 = μ.1 26 8) ∧ (μ'.1 26 9 = μ.1 26 9) ∧ (μ'.1 P 7 = μ.1 P 7) ∧ (IC μ') ∧ n_9 = Int.toNat (3000 - i9) ∧ lv_has ls 11 [(10, .int (iv i9)), (9, .int (iv m9)), (8, .int (iv c9)), (7, .int (iv f9)), (6, .int (iv 0)), (0, .ref (oP ω 23)), (1, .int (iv x1)), (2, .int (iv x2)), (3, .long (jv x3)), (5, .int (iv x4))]) (fun n_9 ρ μL39 d0 H locs ls hI_l G ih => ?_) _ _ _ _ _ _ _ ⟨x4, 0, 0, 0, Fr.rf, (by omega), (by omega), (by omega), (by omega), (by omega), (by omega), (by omega), hp_13, (by omega), (by omega), (by omega), (by omega), (by omega), (fun h0 => (hpx_38 h0).e (by omega)), (F_11.1 2 (by decide) 4), (hs_22.trans hP.symm), hs_23, hs_24, hs_25, (hs_26.trans htt.symm), hs_27, hs_18, hs_19, hs_20, hs_21, (F_11.1 P (ni hprP (fun P => P) (fun P => [26, 23]) rfl) 7), hI_12, rfl, lv_sub hl [0, 1, 2, 3, 4, 5, 6, 7, 8, 9] rfl⟩ G
      obtain ⟨f9, c9, m9, i9, FL40, hi_42, hi_43, hi_44, hi_45, hi_46, hi_47, hi_48, hi_49, hi_50, hi_51, hi_52, hi_53, hi_54, hi_55, hi_56, hi_57, hi_58, hi_59, hi_60, hi_61, hi_62, hi_63, hi_64, hi_65, hi_66, hi_67, hi_68, hn41, hl⟩ := hI_l
      have htb_69 := hi_49.b
      refine lv_iload hx hb dX7_arguments_48 (lv_at hl 0 rfl) ?_
      refine lv_sipush (v := iv 3000) hx hb dX7_arguments_50 rfl ?_
      refine xb_icmp_ge (tgt := 115) hx hb (by unfold ir; omega) (by unfold ir; omega) dX7_arguments_53 (by decide) (fun c_53 => ?_) (fun c_53 => ?_)
      · refine lv_aload_n hx hb dX7_arguments_115 rfl (lv_at hl 5 rfl) ?_
        refine lv_bipush (v := iv 41) hx hb dX7_arguments_116 rfl ?_
        have hn_70 : -1 ≤ μL39.1 26 10 ∧ μL39.1 26 10 ≤ 3000 := hi_68.nm.2.2.2.2.2.2.2.2.2.2.2.2
        have e_71 : μL39.1 26 6 = μ.1 26 6 := hi_63
        have e_72 : μL39.1 26 7 = μ.1 26 7 := hi_64
        have e_73 : μL39.1 26 8 = μ.1 26 8 := hi_65
        have e_74 : μL39.1 26 9 = μ.1 26 9 := hi_66
        have e_75 : μL39.1 23 2 = P := hi_57
        have e_76 : μL39.1 23 5 = μ.1 23 5 := hi_58
        have e_77 : μL39.1 23 6 = μ.1 23 6 := hi_59
        have e_78 : μL39.1 23 7 = μ.1 23 7 := hi_60
        have e_79 : μL39.1 23 8 = tt := hi_61
        have e_80 : μL39.1 23 10 = μ.1 23 10 := hi_62
        refine xc_vV G (b := 23) (rest := []) (As := [.int (iv 41)]) (c_X7_needClosed ω l μL39 41 (by unfold ir; omega) hi_68 hi_49 (by omega) (by omega)) (wm 3 214 rfl rfl) (wm 3 216 rfl rfl) (wm 0 18 rfl rfl) rfl rfl (by decide) rfl (wm 1 12 rfl rfl) (wm 3 217 rfl rfl) (by decide) hR ⟨nfr hF (by decide), nlo hLo (by decide)⟩ (n := 1) rfl rfl (Nat.le_of_ble_eq_true rfl) hl.1 dX7_arguments_118 (fun μ81 ρ d0 H locs hp G => ?_)
        obtain ⟨F_82, hI_83, hp_84, hp_85, hp_86, hs_87, hs_88, hs_89, hs_90, hs_91, hs_92, hs_93, hs_94, hs_95, hs_96, hs_97⟩ := hp
        have hn_98 : -1 ≤ μ81.1 26 10 ∧ μ81.1 26 10 ≤ 3000 := hI_83.nm.2.2.2.2.2.2.2.2.2.2.2.2
        have htb_99 := hp_84.b
        refine lv_aload_n hx hb dX7_arguments_121 rfl (lv_at hl 5 rfl) ?_
        refine xa_getr G fd_X7 (a := 23) (x := P) 2 rfl (by decide) rfl (wm 2 19 rfl rfl) ⟨rfl, rfl, rfl⟩ dX7_arguments_122 rfl (hs_92.trans hi_57) (by omega) (hprP.hq ω ρ) ?_
        refine lv_iconst (v := iv 0) hx hb dX7_arguments_125 rfl ?_
        refine lv_lload_n hx hb dX7_arguments_126 rfl (lv_at hl 8 rfl) ?_
        refine lv_dconst0 hx hb dX7_arguments_127 ?_
        refine xb_topd (fun dd_100 he_dd_100 => ?_)
        have hpx_101 : μ81.1 26 11 = 0 → PXE μo μ81 P tt (e + c9) f9 1 := fun h0 => (hi_55 (by have h9 : μL39.1 26 11 = μL39.1 26 11 := rfl; have h8 : μ81.1 26 11 = μ81.1 26 11 := rfl; omega)).fr (K := [26, 23]) (Fr.tr Fr.rf F_82 (by decide)) (npL_p (L := [26, 23]) (by decide) hprP).1 (npL_p (L := [26, 23]) (by decide) hprP).2.1
        have hk_102 := hi_68.row (r := P + 2) (hprP.row)
        unfold rk at hk_102
        have e_103 : μ81.1 (P + 2) 3 = μL39.1 (P + 2) 3 := (F_82.1 (P + 2) (ni hprP (fun P => P + 2) (fun P => [26, 23]) rfl) 3)
        refine xc_iV G (b := P) (rest := []) (As := [.int (iv 0), .long (jv x3), .double (dv dd_100)]) (c_X8_addConstant ω l μ81 P 0 x3 dd_100 (μL39.1 (P + 2) 3) hprP (by unfold ir; omega) hx3 hI_83 (by omega) (by omega)) (wm 4 67 rfl rfl) (wm 4 68 rfl rfl) (wm 4 69 rfl rfl) hprP.ly rfl (by decide) (hprP.hq ω ρ) (wm 1 9 rfl rfl) (wm 4 70 rfl rfl) (by decide) hR ⟨nfr hF (by decide), nlo hLo (by decide)⟩ (n := 3) rfl rfl (Nat.le_of_ble_eq_true rfl) hl.1 dX7_arguments_128 (fun r_105 μ104 ρ d0 H locs hr_r_105 hp G => ?_)
        have hr_r_105 : -2147483648 ≤ r_105 ∧ r_105 ≤ 2147483647 := hr_r_105
        obtain ⟨F_106, hI_107, hp_108, hp_109⟩ := hp
        have hk_110 := hI_107.row (r := P + 2) (hprP.row)
        unfold rk at hk_110
        refine lv_istore (lv' := [(10, .int (iv r_105)), (9, .int (iv m9)), (8, .int (iv c9)), (7, .int (iv f9)), (6, .int (iv 0)), (0, .ref (oP ω 23)), (1, .int (iv x1)), (2, .int (iv x2)), (3, .long (jv x3)), (5, .int (iv x4))]) hx hb dX7_arguments_131 hl (by decide) rfl (fun ls hl => ?_)
        refine lv_aload_n hx hb dX7_arguments_133 rfl (lv_at hl 5 rfl) ?_
        refine lv_iload_n hx hb dX7_arguments_134 rfl (lv_at hl 6 rfl) ?_
        refine lv_iload hx hb dX7_arguments_135 (lv_at hl 2 rfl) ?_
        refine lv_iconst (v := iv 4) hx hb dX7_arguments_137 rfl ?_
        refine xb_imul hx hb dX7_arguments_138 ?_
        refine lv_iload_n hx hb dX7_arguments_139 rfl (lv_at hl 7 rfl) ?_
        refine xb_iadd hx hb dX7_arguments_140 ?_
        refine lv_iload hx hb dX7_arguments_141 (lv_at hl 0 rfl) ?_
        refine lv_iload hx hb dX7_arguments_143 (lv_at hl 3 rfl) ?_
        have hpx_111 : μ104.1 26 11 = 0 → PXE μo μ104 P tt (e + c9) f9 1 := fun h0 => (hpx_101 (by have h9 : μ81.1 26 11 = μ81.1 26 11 := rfl; have h8 : μ104.1 26 11 = μ81.1 26 11 := (F_106.1 26 (ni hprP (fun P => 26) (fun P => [P + 2, (P + 2) + 1, (P + 2) + 2, (P + 2) + 3]) rfl) 11); omega)).fr (K := [P + 2, (P + 2) + 1, (P + 2) + 2, (P + 2) + 3]) (Fr.tr Fr.rf F_106 (si hprP (fun P => [P + 2, (P + 2) + 1, (P + 2) + 2, (P + 2) + 3]) (fun P => [P + 2, (P + 2) + 1, (P + 2) + 2, (P + 2) + 3]) rfl)) (ni hprP (fun P => P) (fun P => [P + 2, (P + 2) + 1, (P + 2) + 2, (P + 2) + 3]) rfl) (ni hprP (fun P => P + 1) (fun P => [P + 2, (P + 2) + 1, (P + 2) + 2, (P + 2) + 3]) rfl)
        have e_112 : μ104.1 23 2 = P := ((F_106.1 23 (ni hprP (fun P => 23) (fun P => [P + 2, (P + 2) + 1, (P + 2) + 2, (P + 2) + 3]) rfl) 2).trans (hs_92.trans hi_57))
        have e_113 : μ104.1 23 8 = tt := ((F_106.1 23 (ni hprP (fun P => 23) (fun P => [P + 2, (P + 2) + 1, (P + 2) + 2, (P + 2) + 3]) rfl) 8).trans (hs_96.trans hi_61))
        have hk_114 := hi_68.pr (p := P) hprP
        unfold pk at hk_114
        have hc_115 : 16 ≤ μL39.2.1 (P + 1) ∧ μL39.2.1 (P + 1) ≤ 73024 := hi_68.rm.1 _ hprP.cap
        have e_116 : μ104.1 P 1 = μL39.1 P 1 := ((F_106.1 P (ni hprP (fun P => P) (fun P => [P + 2, (P + 2) + 1, (P + 2) + 2, (P + 2) + 3]) rfl) 1).trans (F_82.1 P (ni hprP (fun P => P) (fun P => [26, 23]) rfl) 1))
        have e_117 : μ104.1 P 1 = μL39.1 P 1 := ((F_106.1 P (ni hprP (fun P => P) (fun P => [P + 2, (P + 2) + 1, (P + 2) + 2, (P + 2) + 3]) rfl) 1).trans (F_82.1 P (ni hprP (fun P => P) (fun P => [26, 23]) rfl) 1))
        have e_118 : μ104.1 P 7 = μ.1 P 7 := ((F_106.1 P (ni hprP (fun P => P) (fun P => [P + 2, (P + 2) + 1, (P + 2) + 2, (P + 2) + 3]) rfl) 7).trans ((F_82.1 P (ni hprP (fun P => P) (fun P => [26, 23]) rfl) 7).trans hi_67))
        refine xc_vV G (b := 23) (rest := []) (As := [.int (iv x1), .int (iv ((c9 * 4) + x2)), .int (iv r_105), .int (iv f9)]) (c_X7_endOfParts ω l μ104 x1 ((c9 * 4) + x2) r_105 f9 μo (e + c9) (1) P tt (by unfold ir; omega) (by unfold ir; omega) (by unfold ir; omega) (by unfold ir; omega) hI_107 (by omega) (by omega) (by omega) hpx_111 (Or.inr ⟨by omega, by omega, by omega⟩) (by omega) (by rcases heo with ⟨q1, q2⟩ | ⟨q1, q2⟩; (rw [q1, ef13 (by omega) hx2b]; omega); (rw [q1, ef14 (by omega) hx2b]; omega))) (wm 4 27 rfl rfl) (wm 4 29 rfl rfl) (wm 0 30 rfl rfl) rfl rfl (by decide) rfl (wm 1 12 rfl rfl) (wm 4 30 rfl rfl) (by decide) hR ⟨nfr hF (by decide), nlo hLo (by decide)⟩ (n := 4) rfl rfl (Nat.le_of_ble_eq_true rfl) hl.1 dX7_arguments_145 (fun μ119 ρ d0 H locs hp G => ?_)
        obtain ⟨F_120, hI_121, hp_122, hs_123, hs_124⟩ := hp
        have hpx_125 : μ119.1 26 11 = 0 → PXE μo μ119 P tt 1 (-1) 1 := fun h0 => PXE.of (hp_122 (by have h9 : μ104.1 26 11 = μ81.1 26 11 := (F_106.1 26 (ni hprP (fun P => 26) (fun P => [P + 2, (P + 2) + 1, (P + 2) + 2, (P + 2) + 3]) rfl) 11); have h8 : μ119.1 26 11 = μ81.1 26 11 := ((F_120.1 26 (ni hprP (fun P => 26) (fun P => [P, P + 1]) rfl) 11).trans (F_106.1 26 (ni hprP (fun P => 26) (fun P => [P + 2, (P + 2) + 1, (P + 2) + 2, (P + 2) + 3]) rfl) 11)); omega))
        clear hp_122
        have htk_126 : TK μ119 := hp_84.fr (K := [P, P + 1, P + 2, (P + 2) + 1, (P + 2) + 2, (P + 2) + 3]) (Fr.tr (Fr.tr Fr.rf F_106 (si hprP (fun P => [P + 2, (P + 2) + 1, (P + 2) + 2, (P + 2) + 3]) (fun P => [P, P + 1, P + 2, (P + 2) + 1, (P + 2) + 2, (P + 2) + 3]) rfl)) F_120 (si hprP (fun P => [P, P + 1]) (fun P => [P, P + 1, P + 2, (P + 2) + 1, (P + 2) + 2, (P + 2) + 3]) rfl)) (ni hprP (fun P => 26) (fun P => [P, P + 1, P + 2, (P + 2) + 1, (P + 2) + 2, (P + 2) + 3]) rfl) (ni hprP (fun P => 28) (fun P => [P, P + 1, P + 2, (P + 2) + 1, (P + 2) + 2, (P + 2) + 3]) rfl)
        have e_127 : μ119.1 26 11 = μ81.1 26 11 := ((F_120.1 26 (ni hprP (fun P => 26) (fun P => [P, P + 1]) rfl) 11).trans (F_106.1 26 (ni hprP (fun P => 26) (fun P => [P + 2, (P + 2) + 1, (P + 2) + 2, (P + 2) + 3]) rfl) 11))
        have e_128 : μ119.1 26 11 = μ81.1 26 11 := ((F_120.1 26 (ni hprP (fun P => 26) (fun P => [P, P + 1]) rfl) 11).trans (F_106.1 26 (ni hprP (fun P => 26) (fun P => [P + 2, (P + 2) + 1, (P + 2) + 2, (P + 2) + 3]) rfl) 11))
        have e_129 : μ119.1 26 10 = μ81.1 26 10 := ((F_120.1 26 (ni hprP (fun P => 26) (fun P => [P, P + 1]) rfl) 10).trans (F_106.1 26 (ni hprP (fun P => 26) (fun P => [P + 2, (P + 2) + 1, (P + 2) + 2, (P + 2) + 3]) rfl) 10))
        have e_130 : μ119.1 P 1 = μ104.1 P 1 + 1 := hs_123
        have e_131 : μ119.1 P 1 = μ104.1 P 1 + 1 := hs_123
        have e_132 : μ119.1 26 10 = μ81.1 26 10 := ((F_120.1 26 (ni hprP (fun P => 26) (fun P => [P, P + 1]) rfl) 10).trans (F_106.1 26 (ni hprP (fun P => 26) (fun P => [P + 2, (P + 2) + 1, (P + 2) + 2, (P + 2) + 3]) rfl) 10))
        have e_133 : μ119.1 26 11 = μ81.1 26 11 := ((F_120.1 26 (ni hprP (fun P => 26) (fun P => [P, P + 1]) rfl) 11).trans (F_106.1 26 (ni hprP (fun P => 26) (fun P => [P + 2, (P + 2) + 1, (P + 2) + 2, (P + 2) + 3]) rfl) 11))
        have e_134 : μ119.1 (P + 2) 3 = μ104.1 (P + 2) 3 := (F_120.1 (P + 2) (ni hprP (fun P => P + 2) (fun P => [P, P + 1]) rfl) 3)
        have e_135 : μ119.1 P 1 = μ104.1 P 1 + 1 := hs_123
        have e_136 : μ119.1 (P + 2) 3 = μ104.1 (P + 2) 3 := (F_120.1 (P + 2) (ni hprP (fun P => P + 2) (fun P => [P, P + 1]) rfl) 3)
        have e_137 : μ119.1 23 2 = P := ((F_120.1 23 (ni hprP (fun P => 23) (fun P => [P, P + 1]) rfl) 2).trans ((F_106.1 23 (ni hprP (fun P => 23) (fun P => [P + 2, (P + 2) + 1, (P + 2) + 2, (P + 2) + 3]) rfl) 2).trans (hs_92.trans hi_57)))
        have e_138 : μ119.1 23 5 = μ.1 23 5 := ((F_120.1 23 (ni hprP (fun P => 23) (fun P => [P, P + 1]) rfl) 5).trans ((F_106.1 23 (ni hprP (fun P => 23) (fun P => [P + 2, (P + 2) + 1, (P + 2) + 2, (P + 2) + 3]) rfl) 5).trans (hs_93.trans hi_58)))
        have e_139 : μ119.1 23 6 = μ.1 23 6 := ((F_120.1 23 (ni hprP (fun P => 23) (fun P => [P, P + 1]) rfl) 6).trans ((F_106.1 23 (ni hprP (fun P => 23) (fun P => [P + 2, (P + 2) + 1, (P + 2) + 2, (P + 2) + 3]) rfl) 6).trans (hs_94.trans hi_59)))
        have e_140 : μ119.1 23 7 = μ.1 23 7 := ((F_120.1 23 (ni hprP (fun P => 23) (fun P => [P, P + 1]) rfl) 7).trans ((F_106.1 23 (ni hprP (fun P => 23) (fun P => [P + 2, (P + 2) + 1, (P + 2) + 2, (P + 2) + 3]) rfl) 7).trans (hs_95.trans hi_60)))
        have e_141 : μ119.1 23 8 = tt := ((F_120.1 23 (ni hprP (fun P => 23) (fun P => [P, P + 1]) rfl) 8).trans ((F_106.1 23 (ni hprP (fun P => 23) (fun P => [P + 2, (P + 2) + 1, (P + 2) + 2, (P + 2) + 3]) rfl) 8).trans (hs_96.trans hi_61)))
        have e_142 : μ119.1 23 9 = μL39.1 23 9 - 1 := ((F_120.1 23 (ni hprP (fun P => 23) (fun P => [P, P + 1]) rfl) 9).trans ((F_106.1 23 (ni hprP (fun P => 23) (fun P => [P + 2, (P + 2) + 1, (P + 2) + 2, (P + 2) + 3]) rfl) 9).trans hs_87))
        have e_143 : μ119.1 23 10 = μ.1 23 10 := ((F_120.1 23 (ni hprP (fun P => 23) (fun P => [P, P + 1]) rfl) 10).trans ((F_106.1 23 (ni hprP (fun P => 23) (fun P => [P + 2, (P + 2) + 1, (P + 2) + 2, (P + 2) + 3]) rfl) 10).trans (hs_97.trans hi_62)))
        have e_144 : μ119.1 26 6 = μ.1 26 6 := ((F_120.1 26 (ni hprP (fun P => 26) (fun P => [P, P + 1]) rfl) 6).trans ((F_106.1 26 (ni hprP (fun P => 26) (fun P => [P + 2, (P + 2) + 1, (P + 2) + 2, (P + 2) + 3]) rfl) 6).trans (hs_88.trans hi_63)))
        have e_145 : μ119.1 P 7 = μ.1 P 7 := (hs_124.trans ((F_106.1 P (ni hprP (fun P => P) (fun P => [P + 2, (P + 2) + 1, (P + 2) + 2, (P + 2) + 3]) rfl) 7).trans ((F_82.1 P (ni hprP (fun P => P) (fun P => [26, 23]) rfl) 7).trans hi_67)))
        exact xr_v G hret hlk dX7_arguments_148 ⟨(Fr.tr (Fr.tr (Fr.tr (Fr.tr (Fr.tr Fr.rf F_11 (si hprP (fun P => [26, 23]) (fun P => [2, 3, 4, 23, 24, 26, P, P + 1, P + 2, (P + 2) + 1, (P + 2) + 2, (P + 2) + 3]) rfl)) FL40 (si hprP (fun P => [2, 3, 4, 23, 24, 26, P, P + 1, P + 2, (P + 2) + 1, (P + 2) + 2, (P + 2) + 3]) (fun P => [2, 3, 4, 23, 24, 26, P, P + 1, P + 2, (P + 2) + 1, (P + 2) + 2, (P + 2) + 3]) rfl)) F_82 (si hprP (fun P => [26, 23]) (fun P => [2, 3, 4, 23, 24, 26, P, P + 1, P + 2, (P + 2) + 1, (P + 2) + 2, (P + 2) + 3]) rfl)) F_106 (si hprP (fun P => [P + 2, (P + 2) + 1, (P + 2) + 2, (P + 2) + 3]) (fun P => [2, 3, 4, 23, 24, 26, P, P + 1, P + 2, (P + 2) + 1, (P + 2) + 2, (P + 2) + 3]) rfl)) F_120 (si hprP (fun P => [P, P + 1]) (fun P => [2, 3, 4, 23, 24, 26, P, P + 1, P + 2, (P + 2) + 1, (P + 2) + 2, (P + 2) + 3]) rfl)), hI_121, htk_126, (by omega), (by omega), (by omega), (by omega), (fun h0 => (PXE.ex (hpx_125 h0)).e (by omega)), (by omega), (by omega), (by omega), (by omega), (by omega), (by omega), (by omega), (by omega), (by omega)⟩
      · refine lv_iload hx hb dX7_arguments_56 (lv_at hl 1 rfl) ?_
        refine xb_if_eq (tgt := 115) hx hb (by unfold ir; omega) dX7_arguments_58 (by decide) (fun c_58 => ?_) (fun c_58 => ?_)
        · refine lv_aload_n hx hb dX7_arguments_115 rfl (lv_at hl 5 rfl) ?_
          refine lv_bipush (v := iv 41) hx hb dX7_arguments_116 rfl ?_
          have hn_146 : -1 ≤ μL39.1 26 10 ∧ μL39.1 26 10 ≤ 3000 := hi_68.nm.2.2.2.2.2.2.2.2.2.2.2.2
          have e_147 : μL39.1 26 6 = μ.1 26 6 := hi_63
          have e_148 : μL39.1 26 7 = μ.1 26 7 := hi_64
          have e_149 : μL39.1 26 8 = μ.1 26 8 := hi_65
          have e_150 : μL39.1 26 9 = μ.1 26 9 := hi_66
          have e_151 : μL39.1 23 2 = P := hi_57
          have e_152 : μL39.1 23 5 = μ.1 23 5 := hi_58
          have e_153 : μL39.1 23 6 = μ.1 23 6 := hi_59
          have e_154 : μL39.1 23 7 = μ.1 23 7 := hi_60
          have e_155 : μL39.1 23 8 = tt := hi_61
          have e_156 : μL39.1 23 10 = μ.1 23 10 := hi_62
          refine xc_vV G (b := 23) (rest := []) (As := [.int (iv 41)]) (c_X7_needClosed ω l μL39 41 (by unfold ir; omega) hi_68 hi_49 (by omega) (by omega)) (wm 3 214 rfl rfl) (wm 3 216 rfl rfl) (wm 0 18 rfl rfl) rfl rfl (by decide) rfl (wm 1 12 rfl rfl) (wm 3 217 rfl rfl) (by decide) hR ⟨nfr hF (by decide), nlo hLo (by decide)⟩ (n := 1) rfl rfl (Nat.le_of_ble_eq_true rfl) hl.1 dX7_arguments_118 (fun μ157 ρ d0 H locs hp G => ?_)
          obtain ⟨F_158, hI_159, hp_160, hp_161, hp_162, hs_163, hs_164, hs_165, hs_166, hs_167, hs_168, hs_169, hs_170, hs_171, hs_172, hs_173⟩ := hp
          have hn_174 : -1 ≤ μ157.1 26 10 ∧ μ157.1 26 10 ≤ 3000 := hI_159.nm.2.2.2.2.2.2.2.2.2.2.2.2
          have htb_175 := hp_160.b
          refine lv_aload_n hx hb dX7_arguments_121 rfl (lv_at hl 5 rfl) ?_
          refine xa_getr G fd_X7 (a := 23) (x := P) 2 rfl (by decide) rfl (wm 2 19 rfl rfl) ⟨rfl, rfl, rfl⟩ dX7_arguments_122 rfl (hs_168.trans hi_57) (by omega) (hprP.hq ω ρ) ?_
          refine lv_iconst (v := iv 0) hx hb dX7_arguments_125 rfl ?_
          refine lv_lload_n hx hb dX7_arguments_126 rfl (lv_at hl 8 rfl) ?_
          refine lv_dconst0 hx hb dX7_arguments_127 ?_
          refine xb_topd (fun dd_176 he_dd_176 => ?_)
          have hpx_177 : μ157.1 26 11 = 0 → PXE μo μ157 P tt (e + c9) f9 1 := fun h0 => (hi_55 (by have h9 : μL39.1 26 11 = μL39.1 26 11 := rfl; have h8 : μ157.1 26 11 = μ157.1 26 11 := rfl; omega)).fr (K := [26, 23]) (Fr.tr Fr.rf F_158 (by decide)) (npL_p (L := [26, 23]) (by decide) hprP).1 (npL_p (L := [26, 23]) (by decide) hprP).2.1
          have hk_178 := hi_68.row (r := P + 2) (hprP.row)
          unfold rk at hk_178
          have e_179 : μ157.1 (P + 2) 3 = μL39.1 (P + 2) 3 := (F_158.1 (P + 2) (ni hprP (fun P => P + 2) (fun P => [26, 23]) rfl) 3)
          refine xc_iV G (b := P) (rest := []) (As := [.int (iv 0), .long (jv x3), .double (dv dd_176)]) (c_X8_addConstant ω l μ157 P 0 x3 dd_176 (μL39.1 (P + 2) 3) hprP (by unfold ir; omega) hx3 hI_159 (by omega) (by omega)) (wm 4 67 rfl rfl) (wm 4 68 rfl rfl) (wm 4 69 rfl rfl) hprP.ly rfl (by decide) (hprP.hq ω ρ) (wm 1 9 rfl rfl) (wm 4 70 rfl rfl) (by decide) hR ⟨nfr hF (by decide), nlo hLo (by decide)⟩ (n := 3) rfl rfl (Nat.le_of_ble_eq_true rfl) hl.1 dX7_arguments_128 (fun r_181 μ180 ρ d0 H locs hr_r_181 hp G => ?_)
          have hr_r_181 : -2147483648 ≤ r_181 ∧ r_181 ≤ 2147483647 := hr_r_181
          obtain ⟨F_182, hI_183, hp_184, hp_185⟩ := hp
          have hk_186 := hI_183.row (r := P + 2) (hprP.row)
          unfold rk at hk_186
          refine lv_istore (lv' := [(10, .int (iv r_181)), (9, .int (iv m9)), (8, .int (iv c9)), (7, .int (iv f9)), (6, .int (iv 0)), (0, .ref (oP ω 23)), (1, .int (iv x1)), (2, .int (iv x2)), (3, .long (jv x3)), (5, .int (iv x4))]) hx hb dX7_arguments_131 hl (by decide) rfl (fun ls hl => ?_)
          refine lv_aload_n hx hb dX7_arguments_133 rfl (lv_at hl 5 rfl) ?_
          refine lv_iload_n hx hb dX7_arguments_134 rfl (lv_at hl 6 rfl) ?_
          refine lv_iload hx hb dX7_arguments_135 (lv_at hl 2 rfl) ?_
          refine lv_iconst (v := iv 4) hx hb dX7_arguments_137 rfl ?_
          refine xb_imul hx hb dX7_arguments_138 ?_
          refine lv_iload_n hx hb dX7_arguments_139 rfl (lv_at hl 7 rfl) ?_
          refine xb_iadd hx hb dX7_arguments_140 ?_
          refine lv_iload hx hb dX7_arguments_141 (lv_at hl 0 rfl) ?_
          refine lv_iload hx hb dX7_arguments_143 (lv_at hl 3 rfl) ?_
          have hpx_187 : μ180.1 26 11 = 0 → PXE μo μ180 P tt (e + c9) f9 1 := fun h0 => (hpx_177 (by have h9 : μ157.1 26 11 = μ157.1 26 11 := rfl; have h8 : μ180.1 26 11 = μ157.1 26 11 := (F_182.1 26 (ni hprP (fun P => 26) (fun P => [P + 2, (P + 2) + 1, (P + 2) + 2, (P + 2) + 3]) rfl) 11); omega)).fr (K := [P + 2, (P + 2) + 1, (P + 2) + 2, (P + 2) + 3]) (Fr.tr Fr.rf F_182 (si hprP (fun P => [P + 2, (P + 2) + 1, (P + 2) + 2, (P + 2) + 3]) (fun P => [P + 2, (P + 2) + 1, (P + 2) + 2, (P + 2) + 3]) rfl)) (ni hprP (fun P => P) (fun P => [P + 2, (P + 2) + 1, (P + 2) + 2, (P + 2) + 3]) rfl) (ni hprP (fun P => P + 1) (fun P => [P + 2, (P + 2) + 1, (P + 2) + 2, (P + 2) + 3]) rfl)
          have e_188 : μ180.1 23 2 = P := ((F_182.1 23 (ni hprP (fun P => 23) (fun P => [P + 2, (P + 2) + 1, (P + 2) + 2, (P + 2) + 3]) rfl) 2).trans (hs_168.trans hi_57))
          have e_189 : μ180.1 23 8 = tt := ((F_182.1 23 (ni hprP (fun P => 23) (fun P => [P + 2, (P + 2) + 1, (P + 2) + 2, (P + 2) + 3]) rfl) 8).trans (hs_172.trans hi_61))
          have hk_190 := hi_68.pr (p := P) hprP
          unfold pk at hk_190
          have hc_191 : 16 ≤ μL39.2.1 (P + 1) ∧ μL39.2.1 (P + 1) ≤ 73024 := hi_68.rm.1 _ hprP.cap
          have e_192 : μ180.1 P 1 = μL39.1 P 1 := ((F_182.1 P (ni hprP (fun P => P) (fun P => [P + 2, (P + 2) + 1, (P + 2) + 2, (P + 2) + 3]) rfl) 1).trans (F_158.1 P (ni hprP (fun P => P) (fun P => [26, 23]) rfl) 1))
          have e_193 : μ180.1 P 1 = μL39.1 P 1 := ((F_182.1 P (ni hprP (fun P => P) (fun P => [P + 2, (P + 2) + 1, (P + 2) + 2, (P + 2) + 3]) rfl) 1).trans (F_158.1 P (ni hprP (fun P => P) (fun P => [26, 23]) rfl) 1))
          have e_194 : μ180.1 P 7 = μ.1 P 7 := ((F_182.1 P (ni hprP (fun P => P) (fun P => [P + 2, (P + 2) + 1, (P + 2) + 2, (P + 2) + 3]) rfl) 7).trans ((F_158.1 P (ni hprP (fun P => P) (fun P => [26, 23]) rfl) 7).trans hi_67))
          refine xc_vV G (b := 23) (rest := []) (As := [.int (iv x1), .int (iv ((c9 * 4) + x2)), .int (iv r_181), .int (iv f9)]) (c_X7_endOfParts ω l μ180 x1 ((c9 * 4) + x2) r_181 f9 μo (e + c9) (1) P tt (by unfold ir; omega) (by unfold ir; omega) (by unfold ir; omega) (by unfold ir; omega) hI_183 (by omega) (by omega) (by omega) hpx_187 (Or.inr ⟨by omega, by omega, by omega⟩) (by omega) (by rcases heo with ⟨q1, q2⟩ | ⟨q1, q2⟩; (rw [q1, ef13 (by omega) hx2b]; omega); (rw [q1, ef14 (by omega) hx2b]; omega))) (wm 4 27 rfl rfl) (wm 4 29 rfl rfl) (wm 0 30 rfl rfl) rfl rfl (by decide) rfl (wm 1 12 rfl rfl) (wm 4 30 rfl rfl) (by decide) hR ⟨nfr hF (by decide), nlo hLo (by decide)⟩ (n := 4) rfl rfl (Nat.le_of_ble_eq_true rfl) hl.1 dX7_arguments_145 (fun μ195 ρ d0 H locs hp G => ?_)
          obtain ⟨F_196, hI_197, hp_198, hs_199, hs_200⟩ := hp
          have hpx_201 : μ195.1 26 11 = 0 → PXE μo μ195 P tt 1 (-1) 1 := fun h0 => PXE.of (hp_198 (by have h9 : μ180.1 26 11 = μ157.1 26 11 := (F_182.1 26 (ni hprP (fun P => 26) (fun P => [P + 2, (P + 2) + 1, (P + 2) + 2, (P + 2) + 3]) rfl) 11); have h8 : μ195.1 26 11 = μ157.1 26 11 := ((F_196.1 26 (ni hprP (fun P => 26) (fun P => [P, P + 1]) rfl) 11).trans (F_182.1 26 (ni hprP (fun P => 26) (fun P => [P + 2, (P + 2) + 1, (P + 2) + 2, (P + 2) + 3]) rfl) 11)); omega))
          clear hp_198
          have htk_202 : TK μ195 := hp_160.fr (K := [P, P + 1, P + 2, (P + 2) + 1, (P + 2) + 2, (P + 2) + 3]) (Fr.tr (Fr.tr Fr.rf F_182 (si hprP (fun P => [P + 2, (P + 2) + 1, (P + 2) + 2, (P + 2) + 3]) (fun P => [P, P + 1, P + 2, (P + 2) + 1, (P + 2) + 2, (P + 2) + 3]) rfl)) F_196 (si hprP (fun P => [P, P + 1]) (fun P => [P, P + 1, P + 2, (P + 2) + 1, (P + 2) + 2, (P + 2) + 3]) rfl)) (ni hprP (fun P => 26) (fun P => [P, P + 1, P + 2, (P + 2) + 1, (P + 2) + 2, (P + 2) + 3]) rfl) (ni hprP (fun P => 28) (fun P => [P, P + 1, P + 2, (P + 2) + 1, (P + 2) + 2, (P + 2) + 3]) rfl)
          have e_203 : μ195.1 26 11 = μ157.1 26 11 := ((F_196.1 26 (ni hprP (fun P => 26) (fun P => [P, P + 1]) rfl) 11).trans (F_182.1 26 (ni hprP (fun P => 26) (fun P => [P + 2, (P + 2) + 1, (P + 2) + 2, (P + 2) + 3]) rfl) 11))
          have e_204 : μ195.1 26 11 = μ157.1 26 11 := ((F_196.1 26 (ni hprP (fun P => 26) (fun P => [P, P + 1]) rfl) 11).trans (F_182.1 26 (ni hprP (fun P => 26) (fun P => [P + 2, (P + 2) + 1, (P + 2) + 2, (P + 2) + 3]) rfl) 11))
          have e_205 : μ195.1 26 10 = μ157.1 26 10 := ((F_196.1 26 (ni hprP (fun P => 26) (fun P => [P, P + 1]) rfl) 10).trans (F_182.1 26 (ni hprP (fun P => 26) (fun P => [P + 2, (P + 2) + 1, (P + 2) + 2, (P + 2) + 3]) rfl) 10))
          have e_206 : μ195.1 P 1 = μ180.1 P 1 + 1 := hs_199
          have e_207 : μ195.1 P 1 = μ180.1 P 1 + 1 := hs_199
          have e_208 : μ195.1 26 10 = μ157.1 26 10 := ((F_196.1 26 (ni hprP (fun P => 26) (fun P => [P, P + 1]) rfl) 10).trans (F_182.1 26 (ni hprP (fun P => 26) (fun P => [P + 2, (P + 2) + 1, (P + 2) + 2, (P + 2) + 3]) rfl) 10))
          have e_209 : μ195.1 26 11 = μ157.1 26 11 := ((F_196.1 26 (ni hprP (fun P => 26) (fun P => [P, P + 1]) rfl) 11).trans (F_182.1 26 (ni hprP (fun P => 26) (fun P => [P + 2, (P + 2) + 1, (P + 2) + 2, (P + 2) + 3]) rfl) 11))
          have e_210 : μ195.1 (P + 2) 3 = μ180.1 (P + 2) 3 := (F_196.1 (P + 2) (ni hprP (fun P => P + 2) (fun P => [P, P + 1]) rfl) 3)
          have e_211 : μ195.1 P 1 = μ180.1 P 1 + 1 := hs_199
          have e_212 : μ195.1 (P + 2) 3 = μ180.1 (P + 2) 3 := (F_196.1 (P + 2) (ni hprP (fun P => P + 2) (fun P => [P, P + 1]) rfl) 3)
          have e_213 : μ195.1 23 2 = P := ((F_196.1 23 (ni hprP (fun P => 23) (fun P => [P, P + 1]) rfl) 2).trans ((F_182.1 23 (ni hprP (fun P => 23) (fun P => [P + 2, (P + 2) + 1, (P + 2) + 2, (P + 2) + 3]) rfl) 2).trans (hs_168.trans hi_57)))
          have e_214 : μ195.1 23 5 = μ.1 23 5 := ((F_196.1 23 (ni hprP (fun P => 23) (fun P => [P, P + 1]) rfl) 5).trans ((F_182.1 23 (ni hprP (fun P => 23) (fun P => [P + 2, (P + 2) + 1, (P + 2) + 2, (P + 2) + 3]) rfl) 5).trans (hs_169.trans hi_58)))
          have e_215 : μ195.1 23 6 = μ.1 23 6 := ((F_196.1 23 (ni hprP (fun P => 23) (fun P => [P, P + 1]) rfl) 6).trans ((F_182.1 23 (ni hprP (fun P => 23) (fun P => [P + 2, (P + 2) + 1, (P + 2) + 2, (P + 2) + 3]) rfl) 6).trans (hs_170.trans hi_59)))
          have e_216 : μ195.1 23 7 = μ.1 23 7 := ((F_196.1 23 (ni hprP (fun P => 23) (fun P => [P, P + 1]) rfl) 7).trans ((F_182.1 23 (ni hprP (fun P => 23) (fun P => [P + 2, (P + 2) + 1, (P + 2) + 2, (P + 2) + 3]) rfl) 7).trans (hs_171.trans hi_60)))
          have e_217 : μ195.1 23 8 = tt := ((F_196.1 23 (ni hprP (fun P => 23) (fun P => [P, P + 1]) rfl) 8).trans ((F_182.1 23 (ni hprP (fun P => 23) (fun P => [P + 2, (P + 2) + 1, (P + 2) + 2, (P + 2) + 3]) rfl) 8).trans (hs_172.trans hi_61)))
          have e_218 : μ195.1 23 9 = μL39.1 23 9 - 1 := ((F_196.1 23 (ni hprP (fun P => 23) (fun P => [P, P + 1]) rfl) 9).trans ((F_182.1 23 (ni hprP (fun P => 23) (fun P => [P + 2, (P + 2) + 1, (P + 2) + 2, (P + 2) + 3]) rfl) 9).trans hs_163))
          have e_219 : μ195.1 23 10 = μ.1 23 10 := ((F_196.1 23 (ni hprP (fun P => 23) (fun P => [P, P + 1]) rfl) 10).trans ((F_182.1 23 (ni hprP (fun P => 23) (fun P => [P + 2, (P + 2) + 1, (P + 2) + 2, (P + 2) + 3]) rfl) 10).trans (hs_173.trans hi_62)))
          have e_220 : μ195.1 26 6 = μ.1 26 6 := ((F_196.1 26 (ni hprP (fun P => 26) (fun P => [P, P + 1]) rfl) 6).trans ((F_182.1 26 (ni hprP (fun P => 26) (fun P => [P + 2, (P + 2) + 1, (P + 2) + 2, (P + 2) + 3]) rfl) 6).trans (hs_164.trans hi_63)))
          have e_221 : μ195.1 P 7 = μ.1 P 7 := (hs_200.trans ((F_182.1 P (ni hprP (fun P => P) (fun P => [P + 2, (P + 2) + 1, (P + 2) + 2, (P + 2) + 3]) rfl) 7).trans ((F_158.1 P (ni hprP (fun P => P) (fun P => [26, 23]) rfl) 7).trans hi_67)))
          exact xr_v G hret hlk dX7_arguments_148 ⟨(Fr.tr (Fr.tr (Fr.tr (Fr.tr (Fr.tr Fr.rf F_11 (si hprP (fun P => [26, 23]) (fun P => [2, 3, 4, 23, 24, 26, P, P + 1, P + 2, (P + 2) + 1, (P + 2) + 2, (P + 2) + 3]) rfl)) FL40 (si hprP (fun P => [2, 3, 4, 23, 24, 26, P, P + 1, P + 2, (P + 2) + 1, (P + 2) + 2, (P + 2) + 3]) (fun P => [2, 3, 4, 23, 24, 26, P, P + 1, P + 2, (P + 2) + 1, (P + 2) + 2, (P + 2) + 3]) rfl)) F_158 (si hprP (fun P => [26, 23]) (fun P => [2, 3, 4, 23, 24, 26, P, P + 1, P + 2, (P + 2) + 1, (P + 2) + 2, (P + 2) + 3]) rfl)) F_182 (si hprP (fun P => [P + 2, (P + 2) + 1, (P + 2) + 2, (P + 2) + 3]) (fun P => [2, 3, 4, 23, 24, 26, P, P + 1, P + 2, (P + 2) + 1, (P + 2) + 2, (P + 2) + 3]) rfl)) F_196 (si hprP (fun P => [P, P + 1]) (fun P => [2, 3, 4, 23, 24, 26, P, P + 1, P + 2, (P + 2) + 1, (P + 2) + 2, (P + 2) + 3]) rfl)), hI_197, htk_202, (by omega), (by omega), (by omega), (by omega), (fun h0 => (PXE.ex (hpx_201 h0)).e (by omega)), (by omega), (by omega), (by omega), (by omega), (by omega), (by omega), (by omega), (by omega), (by omega)⟩
        · refine lv_iload hx hb dX7_arguments_61 (lv_at hl 2 rfl) ?_
          refine lv_bipush (v := iv 8) hx hb dX7_arguments_63 rfl ?_
          refine xb_icmp_lt (tgt := 80) hx hb (by unfold ir; omega) (by unfold ir; omega) dX7_arguments_65 (by decide) (fun c_65 => ?_) (fun c_65 => ?_)
          · refine lv_aload_n hx hb dX7_arguments_80 rfl (lv_at hl 5 rfl) ?_
            refine lv_iconst (v := iv 0) hx hb dX7_arguments_81 rfl ?_
            have e_222 : μL39.1 23 2 = P := hi_57
            have e_223 : μL39.1 23 8 = tt := hi_61
            have hk_224 := hi_68.pr (p := P) hprP
            unfold pk at hk_224
            have hc_225 : 16 ≤ μL39.2.1 (P + 1) ∧ μL39.2.1 (P + 1) ≤ 73024 := hi_68.rm.1 _ hprP.cap
            have hn_226 : -1 ≤ μL39.1 26 10 ∧ μL39.1 26 10 ≤ 3000 := hi_68.nm.2.2.2.2.2.2.2.2.2.2.2.2
            have hk_227 := hi_68.row (r := P + 2) (hprP.row)
            unfold rk at hk_227
            have e_228 : μL39.1 23 2 = P := hi_57
            have e_229 : μL39.1 23 5 = μ.1 23 5 := hi_58
            have e_230 : μL39.1 23 6 = μ.1 23 6 := hi_59
            have e_231 : μL39.1 23 7 = μ.1 23 7 := hi_60
            have e_232 : μL39.1 23 8 = tt := hi_61
            have e_233 : μL39.1 23 10 = μ.1 23 10 := hi_62
            have e_234 : μL39.1 26 6 = μ.1 26 6 := hi_63
            have e_235 : μL39.1 P 7 = μ.1 P 7 := hi_67
            refine xc_vV G (b := 23) (rest := []) (As := [.int (iv 0)]) (((fun (_ : Om) (_ : Launch) => hE)) ω l μL39 0 P tt (by omega) hi_68 (by omega) (by omega) hi_49 (by omega) (by omega) (by omega) (by omega) (by omega)) (wm 4 3 rfl rfl) (wm 4 5 rfl rfl) (wm 0 24 rfl rfl) rfl rfl (by decide) rfl (wm 1 12 rfl rfl) (wm 4 6 rfl rfl) (by decide) hR ⟨sfr (F := F) (a := 0) (by decide), slo (L := Lo) (m := 3) (a := 0) (by decide)⟩ (n := 1) rfl rfl (Nat.le_of_ble_eq_true rfl) hl.1 dX7_arguments_82 (fun μ236 ρ d0 H locs hp G => ?_)
            obtain ⟨F_237, hI_238, hp_239, hp_240, hp_241, hp_242, hp_243, hp_244, hs_245, hs_246, hs_247, hs_248, hs_249, hs_250, hs_251, hs_252, hs_253⟩ := hp
            have hn_254 : -1 ≤ μ236.1 26 10 ∧ μ236.1 26 10 ≤ 3000 := hI_238.nm.2.2.2.2.2.2.2.2.2.2.2.2
            have hk_255 := hI_238.pr (p := P) hprP
            unfold pk at hk_255
            have hc_256 : 16 ≤ μ236.2.1 (P + 1) ∧ μ236.2.1 (P + 1) ≤ 73024 := hI_238.rm.1 _ hprP.cap
            have hk_257 := hI_238.row (r := P + 2) (hprP.row)
            unfold rk at hk_257
            have htb_258 := hp_239.b
            have hpx_259 : μ236.1 26 11 = 0 → PXE μo μ236 P tt ((e + c9) + (1 - 0)) f9 1 := fun h0 => (PXE.app (hi_55 (by have h9 : μL39.1 26 11 = μL39.1 26 11 := rfl; have h8 : μ236.1 26 11 = μ236.1 26 11 := rfl; omega)) (hp_244 h0)).e (by omega)
            refine lv_aload_n hx hb dX7_arguments_85 rfl (lv_at hl 5 rfl) ?_
            refine lv_iload hx hb dX7_arguments_86 (lv_at hl 3 rfl) ?_
            refine lv_iload hx hb dX7_arguments_88 (lv_at hl 4 rfl) ?_
            refine lv_iload hx hb dX7_arguments_90 (lv_at hl 2 rfl) ?_
            refine xb_iadd hx hb dX7_arguments_92 ?_
            have e_260 : μ236.1 23 2 = P := (hs_245.trans hi_57)
            have e_261 : μ236.1 23 8 = tt := (hs_249.trans hi_61)
            have e_262 : μ236.1 P 7 = μ.1 P 7 := (hs_253.trans hi_67)
            refine xc_iV G (b := 23) (rest := []) (As := [.int (iv f9), .int (iv (0 + c9))]) (c_X7_ifFails ω l μ236 f9 (0 + c9) μo ((e + c9) + (1 - 0)) (1) P tt (by unfold ir; omega) (by unfold ir; omega) hI_238 (by omega) (by omega) (by omega) hpx_259 (by omega) (by omega)) (wm 4 23 rfl rfl) (wm 4 25 rfl rfl) (wm 0 29 rfl rfl) rfl rfl (by decide) rfl (wm 1 12 rfl rfl) (wm 4 26 rfl rfl) (by decide) hR ⟨nfr hF (by decide), nlo hLo (by decide)⟩ (n := 2) rfl rfl (Nat.le_of_ble_eq_true rfl) hl.1 dX7_arguments_93 (fun r_264 μ263 ρ d0 H locs hr_r_264 hp G => ?_)
            have hr_r_264 : -2147483648 ≤ r_264 ∧ r_264 ≤ 2147483647 := hr_r_264
            obtain ⟨F_265, hI_266, hp_267, hp_268, hs_269⟩ := hp
            have hk_270 := hI_266.pr (p := P) hprP
            unfold pk at hk_270
            have hc_271 : 16 ≤ μ263.2.1 (P + 1) ∧ μ263.2.1 (P + 1) ≤ 73024 := hI_266.rm.1 _ hprP.cap
            have hpx_272 : μ263.1 26 11 = 0 → PXE μo μ263 P tt ((e + c9) + (1 - 0)) r_264 1 := fun h0 => hp_267 (by have h9 : μ236.1 26 11 = μ236.1 26 11 := rfl; have h8 : μ263.1 26 11 = μ236.1 26 11 := (F_265.1 26 (ni hprP (fun P => 26) (fun P => [P, P + 1]) rfl) 11); omega)
            clear hp_267
            refine lv_istore (lv' := [(7, .int (iv r_264)), (10, .int (iv i9)), (9, .int (iv m9)), (8, .int (iv c9)), (6, .int (iv 0)), (0, .ref (oP ω 23)), (1, .int (iv x1)), (2, .int (iv x2)), (3, .long (jv x3)), (5, .int (iv x4))]) hx hb dX7_arguments_96 hl (by decide) rfl (fun ls hl => ?_)
            refine lv_iinc (v := iv (c9 + 1)) (lv' := [(8, .int (iv (c9 + 1))), (7, .int (iv r_264)), (10, .int (iv i9)), (9, .int (iv m9)), (6, .int (iv 0)), (0, .ref (oP ω 23)), (1, .int (iv x1)), (2, .int (iv x2)), (3, .long (jv x3)), (5, .int (iv x4))]) hx hb dX7_arguments_98 hl (k := 3) rfl (by rw [show Int32.ofInt 1 = iv 1 from rfl, iv_add]) (by decide) rfl (fun ls hl => ?_)
            refine lv_aload_n hx hb dX7_arguments_101 rfl (lv_at hl 5 rfl) ?_
            refine lv_bipush (v := iv 44) hx hb dX7_arguments_102 rfl ?_
            have htk_273 : TK μ263 := hp_239.fr (K := [P, P + 1]) (Fr.tr Fr.rf F_265 (si hprP (fun P => [P, P + 1]) (fun P => [P, P + 1]) rfl)) (ni hprP (fun P => 26) (fun P => [P, P + 1]) rfl) (ni hprP (fun P => 28) (fun P => [P, P + 1]) rfl)
            have e_274 : μ263.1 26 12 = μ236.1 26 12 := (F_265.1 26 (ni hprP (fun P => 26) (fun P => [P, P + 1]) rfl) 12)
            have e_275 : μ263.1 26 10 = μ236.1 26 10 := (F_265.1 26 (ni hprP (fun P => 26) (fun P => [P, P + 1]) rfl) 10)
            have e_276 : μ263.1 26 11 = μ236.1 26 11 := (F_265.1 26 (ni hprP (fun P => 26) (fun P => [P, P + 1]) rfl) 11)
            have e_277 : μ263.1 26 12 = μ236.1 26 12 := (F_265.1 26 (ni hprP (fun P => 26) (fun P => [P, P + 1]) rfl) 12)
            have e_278 : μ263.1 26 10 = μ236.1 26 10 := (F_265.1 26 (ni hprP (fun P => 26) (fun P => [P, P + 1]) rfl) 10)
            have e_279 : μ263.1 26 12 = μ236.1 26 12 := (F_265.1 26 (ni hprP (fun P => 26) (fun P => [P, P + 1]) rfl) 12)
            have e_280 : μ263.1 26 11 = μ236.1 26 11 := (F_265.1 26 (ni hprP (fun P => 26) (fun P => [P, P + 1]) rfl) 11)
            have e_281 : μ263.1 26 6 = μ.1 26 6 := ((F_265.1 26 (ni hprP (fun P => 26) (fun P => [P, P + 1]) rfl) 6).trans (hs_252.trans hi_63))
            have hn_282 : 0 ≤ μ236.1 26 7 ∧ μ236.1 26 7 ≤ 3000 := hI_238.nm.2.2.2.2.2.2.2.2.2.2.1
            have e_283 : μ263.1 26 7 = μ236.1 26 7 := (F_265.1 26 (ni hprP (fun P => 26) (fun P => [P, P + 1]) rfl) 7)
            have e_284 : μ263.1 26 8 = μ236.1 26 8 := (F_265.1 26 (ni hprP (fun P => 26) (fun P => [P, P + 1]) rfl) 8)
            have hn_285 : 0 ≤ μ236.1 26 9 ∧ μ236.1 26 9 ≤ 3000 := hI_238.nm.2.2.2.2.2.2.2.2.2.2.2.1
            have e_286 : μ263.1 26 9 = μ236.1 26 9 := (F_265.1 26 (ni hprP (fun P => 26) (fun P => [P, P + 1]) rfl) 9)
            refine xc_iV G (b := 23) (rest := []) (As := [.int (iv 44)]) (c_X7_took ω l μ263 44 (by unfold ir; omega) hI_266 htk_273 (by omega)) (wm 3 160 rfl rfl) (wm 3 162 rfl rfl) (wm 0 9 rfl rfl) rfl rfl (by decide) rfl (wm 1 12 rfl rfl) (wm 3 163 rfl rfl) (by decide) hR ⟨nfr hF (by decide), nlo hLo (by decide)⟩ (n := 1) rfl rfl (Nat.le_of_ble_eq_true rfl) hl.1 dX7_arguments_104 (fun r_288 μ287 ρ d0 H locs hr_r_288 hp G => ?_)
            have hr_r_288 : -2147483648 ≤ r_288 ∧ r_288 ≤ 2147483647 := hr_r_288
            obtain ⟨F_289, hI_290, hp_291, hp_292, hs_293, hs_294, hs_295, hs_296, hs_297⟩ := hp
            have hn_298 : -1 ≤ μ287.1 26 10 ∧ μ287.1 26 10 ≤ 3000 := hI_290.nm.2.2.2.2.2.2.2.2.2.2.2.2
            have htb_299 := hp_291.b
            refine lv_istore (lv' := [(9, .int (iv r_288)), (8, .int (iv (c9 + 1))), (7, .int (iv r_264)), (10, .int (iv i9)), (6, .int (iv 0)), (0, .ref (oP ω 23)), (1, .int (iv x1)), (2, .int (iv x2)), (3, .long (jv x3)), (5, .int (iv x4))]) hx hb dX7_arguments_107 hl (by decide) rfl (fun ls hl => ?_)
            refine lv_iinc (v := iv (i9 + 1)) (lv' := [(10, .int (iv (i9 + 1))), (9, .int (iv r_288)), (8, .int (iv (c9 + 1))), (7, .int (iv r_264)), (6, .int (iv 0)), (0, .ref (oP ω 23)), (1, .int (iv x1)), (2, .int (iv x2)), (3, .long (jv x3)), (5, .int (iv x4))]) hx hb dX7_arguments_109 hl (k := 3) rfl (by rw [show Int32.ofInt 1 = iv 1 from rfl, iv_add]) (by decide) rfl (fun ls hl => ?_)
            refine lv_goto (tgt := 48) hx hb dX7_arguments_112 (by decide) ?_
            have e_300 : μ287.1 26 11 = μ236.1 26 11 := (hs_293.trans (F_265.1 26 (ni hprP (fun P => 26) (fun P => [P, P + 1]) rfl) 11))
            have e_301 : μ287.1 P 1 = μ263.1 P 1 := (F_289.1 P (ni hprP (fun P => P) (fun P => [26]) rfl) 1)
            have e_302 : μ287.1 P 1 = μ263.1 P 1 := (F_289.1 P (ni hprP (fun P => P) (fun P => [26]) rfl) 1)
            have e_303 : μ287.1 26 11 = μ236.1 26 11 := (hs_293.trans (F_265.1 26 (ni hprP (fun P => 26) (fun P => [P, P + 1]) rfl) 11))
            have e_304 : μ287.1 P 1 = μ263.1 P 1 := (F_289.1 P (ni hprP (fun P => P) (fun P => [26]) rfl) 1)
            have e_305 : μ287.1 (P + 2) 3 = μ236.1 (P + 2) 3 := ((F_289.1 (P + 2) (ni hprP (fun P => P + 2) (fun P => [26]) rfl) 3).trans (F_265.1 (P + 2) (ni hprP (fun P => P + 2) (fun P => [P, P + 1]) rfl) 3))
            have e_306 : μ287.1 P 1 = μ263.1 P 1 := (F_289.1 P (ni hprP (fun P => P) (fun P => [26]) rfl) 1)
            have e_307 : μ287.1 (P + 2) 3 = μ236.1 (P + 2) 3 := ((F_289.1 (P + 2) (ni hprP (fun P => P + 2) (fun P => [26]) rfl) 3).trans (F_265.1 (P + 2) (ni hprP (fun P => P + 2) (fun P => [P, P + 1]) rfl) 3))
            have hpx_308 : μ287.1 26 11 = 0 → PXE μo μ287 P tt ((e + c9) + (1 - 0)) r_264 1 := fun h0 => (hpx_272 (by have h9 : μ263.1 26 11 = μ236.1 26 11 := (F_265.1 26 (ni hprP (fun P => 26) (fun P => [P, P + 1]) rfl) 11); have h8 : μ287.1 26 11 = μ236.1 26 11 := (hs_293.trans (F_265.1 26 (ni hprP (fun P => 26) (fun P => [P, P + 1]) rfl) 11)); omega)).fr (K := [26]) (Fr.tr Fr.rf F_289 (by decide)) (npL_p (L := [26]) (by decide) hprP).1 (npL_p (L := [26]) (by decide) hprP).2.1
            have e_309 : μ287.1 2 4 = μ236.1 2 4 := ((F_289.1 2 (by decide) 4).trans (F_265.1 2 (ni hprP (fun P => 2) (fun P => [P, P + 1]) rfl) 4))
            have e_310 : μ287.1 26 7 = μ236.1 26 7 := (hs_295.trans (F_265.1 26 (ni hprP (fun P => 26) (fun P => [P, P + 1]) rfl) 7))
            have e_311 : μ287.1 26 8 = μ236.1 26 8 := (hs_296.trans (F_265.1 26 (ni hprP (fun P => 26) (fun P => [P, P + 1]) rfl) 8))
            have e_312 : μ287.1 26 9 = μ236.1 26 9 := (hs_297.trans (F_265.1 26 (ni hprP (fun P => 26) (fun P => [P, P + 1]) rfl) 9))
            exact ih _ _ _ _ _ _ _ (by omega) ⟨r_264, c9 + 1, r_288, i9 + 1, (Fr.tr (Fr.tr (Fr.tr FL40 F_237 (si hprP (fun P => [2, 3, 4, 23, 24, 26, P, P + 1, P + 2, (P + 2) + 1, (P + 2) + 2, (P + 2) + 3]) (fun P => [2, 3, 4, 23, 24, 26, P, P + 1, P + 2, (P + 2) + 1, (P + 2) + 2, (P + 2) + 3]) rfl)) F_265 (si hprP (fun P => [P, P + 1]) (fun P => [2, 3, 4, 23, 24, 26, P, P + 1, P + 2, (P + 2) + 1, (P + 2) + 2, (P + 2) + 3]) rfl)) F_289 (si hprP (fun P => [26]) (fun P => [2, 3, 4, 23, 24, 26, P, P + 1, P + 2, (P + 2) + 1, (P + 2) + 2, (P + 2) + 3]) rfl)), (by omega), (by omega), (by omega), (by omega), (by omega), (by omega), (by omega), hp_291, (by omega), (by omega), (by omega), (by omega), (by omega), (fun h0 => (hpx_308 h0).e (by omega)), (by omega), ((F_289.1 23 (by decide) 2).trans ((F_265.1 23 (ni hprP (fun P => 23) (fun P => [P, P + 1]) rfl) 2).trans (hs_245.trans hi_57))), ((F_289.1 23 (by decide) 5).trans ((F_265.1 23 (ni hprP (fun P => 23) (fun P => [P, P + 1]) rfl) 5).trans (hs_246.trans hi_58))), ((F_289.1 23 (by decide) 6).trans ((F_265.1 23 (ni hprP (fun P => 23) (fun P => [P, P + 1]) rfl) 6).trans (hs_247.trans hi_59))), ((F_289.1 23 (by decide) 7).trans ((F_265.1 23 (ni hprP (fun P => 23) (fun P => [P, P + 1]) rfl) 7).trans (hs_248.trans hi_60))), ((F_289.1 23 (by decide) 8).trans ((F_265.1 23 (ni hprP (fun P => 23) (fun P => [P, P + 1]) rfl) 8).trans (hs_249.trans hi_61))), ((F_289.1 23 (by decide) 10).trans ((F_265.1 23 (ni hprP (fun P => 23) (fun P => [P, P + 1]) rfl) 10).trans (hs_251.trans hi_62))), (hs_294.trans ((F_265.1 26 (ni hprP (fun P => 26) (fun P => [P, P + 1]) rfl) 6).trans (hs_252.trans hi_63))), (by omega), (by omega), (by omega), ((F_289.1 P (ni hprP (fun P => P) (fun P => [26]) rfl) 7).trans (hs_269.trans (hs_253.trans hi_67))), hI_290, rfl, lv_sub hl [0, 1, 2, 3, 4, 5, 6, 7, 8, 9] rfl⟩ G
          · refine lv_aload_n hx hb dX7_arguments_68 rfl (lv_at hl 5 rfl) ?_
            refine lv_iconst (v := iv 2) hx hb dX7_arguments_69 rfl ?_
            refine lv_aload_n hx hb dX7_arguments_70 rfl (lv_at hl 5 rfl) ?_
            refine xa_getr G fd_X7 (a := 23) (x := 26) 0 rfl (by decide) rfl (wm 2 17 rfl rfl) ⟨rfl, rfl, rfl⟩ dX7_arguments_71 rfl (G.sk 23 rfl) (by decide) rfl ?_
            refine xa_getN G fd_X10 (host := "FourTongues") (a := 26) 13 rfl (by decide) (by decide) ⟨rfl, rfl, rfl⟩ dX7_arguments_74 rfl (v := .int (iv (μL39.1 26 13))) (by rw [show μL39.1 26 13 = μL39.1 26 13 from rfl]; rfl) ?_
            have hr_313 : -2147483648 ≤ μL39.1 26 13 ∧ μL39.1 26 13 ≤ 2147483647 := by have h9 := G.hr (a := 26) (k := 13) rfl; exact h9
            refine xc_vV G (b := 23) (rest := []) (As := [.int (iv 2), .int (iv (μL39.1 26 13))]) (c_X7_tellFault ω l μL39 2 (μL39.1 26 13) (by unfold ir; omega) (by unfold ir; omega) hi_68 (by omega)) (wm 3 177 rfl rfl) (wm 3 179 rfl rfl) (wm 0 12 rfl rfl) rfl rfl (by decide) rfl (wm 1 12 rfl rfl) (wm 3 180 rfl rfl) (by decide) hR ⟨nfr hF (by decide), nlo hLo (by decide)⟩ (n := 2) rfl rfl (Nat.le_of_ble_eq_true rfl) hl.1 dX7_arguments_77 (fun μ314 ρ d0 H locs hp G => ?_)
            obtain ⟨F_315, hI_316⟩ := hp
            refine lv_aload_n hx hb dX7_arguments_80 rfl (lv_at hl 5 rfl) ?_
            refine lv_iconst (v := iv 0) hx hb dX7_arguments_81 rfl ?_
            have hpx_317 : μ314.1 26 11 = 0 → PXE μo μ314 P tt (e + c9) f9 1 := fun h0 => (hi_55 (by have h9 : μL39.1 26 11 = μL39.1 26 11 := rfl; have h8 : μ314.1 26 11 = μL39.1 26 11 := (F_315.1 26 (by decide) 11); omega)).fr (K := [24]) (Fr.tr Fr.rf F_315 (by decide)) (npL_p (L := [24]) (by decide) hprP).1 (npL_p (L := [24]) (by decide) hprP).2.1
            have e_318 : μ314.1 23 2 = P := ((F_315.1 23 (by decide) 2).trans hi_57)
            have e_319 : μ314.1 23 8 = tt := ((F_315.1 23 (by decide) 8).trans hi_61)
            have htk_320 : TK μ314 := hi_49.fr (K := [24]) (Fr.tr Fr.rf F_315 (by decide)) (by decide) (by decide)
            have hk_321 := hi_68.pr (p := P) hprP
            unfold pk at hk_321
            have hc_322 : 16 ≤ μL39.2.1 (P + 1) ∧ μL39.2.1 (P + 1) ≤ 73024 := hi_68.rm.1 _ hprP.cap
            have e_323 : μ314.1 P 1 = μL39.1 P 1 := (F_315.1 P (ni hprP (fun P => P) (fun P => [24]) rfl) 1)
            have hn_324 : -1 ≤ μL39.1 26 10 ∧ μL39.1 26 10 ≤ 3000 := hi_68.nm.2.2.2.2.2.2.2.2.2.2.2.2
            have e_325 : μ314.1 26 10 = μL39.1 26 10 := (F_315.1 26 (by decide) 10)
            have e_326 : μ314.1 26 11 = μL39.1 26 11 := (F_315.1 26 (by decide) 11)
            have hk_327 := hi_68.row (r := P + 2) (hprP.row)
            unfold rk at hk_327
            have e_328 : μ314.1 (P + 2) 3 = μL39.1 (P + 2) 3 := (F_315.1 (P + 2) (ni hprP (fun P => P + 2) (fun P => [24]) rfl) 3)
            have e_329 : μ314.1 P 1 = μL39.1 P 1 := (F_315.1 P (ni hprP (fun P => P) (fun P => [24]) rfl) 1)
            have e_330 : μ314.1 23 9 = μL39.1 23 9 := (F_315.1 23 (by decide) 9)
            have e_331 : μ314.1 23 9 = μL39.1 23 9 := (F_315.1 23 (by decide) 9)
            have e_332 : μ314.1 26 11 = μL39.1 26 11 := (F_315.1 26 (by decide) 11)
            have e_333 : μ314.1 26 11 = μL39.1 26 11 := (F_315.1 26 (by decide) 11)
            have e_334 : μ314.1 23 9 = μL39.1 23 9 := (F_315.1 23 (by decide) 9)
            have e_335 : μ314.1 26 11 = μL39.1 26 11 := (F_315.1 26 (by decide) 11)
            have e_336 : μ314.1 P 1 = μL39.1 P 1 := (F_315.1 P (ni hprP (fun P => P) (fun P => [24]) rfl) 1)
            have e_337 : μ314.1 26 11 = μL39.1 26 11 := (F_315.1 26 (by decide) 11)
            have e_338 : μ314.1 26 10 = μL39.1 26 10 := (F_315.1 26 (by decide) 10)
            have e_339 : μ314.1 P 1 = μL39.1 P 1 := (F_315.1 P (ni hprP (fun P => P) (fun P => [24]) rfl) 1)
            have e_340 : μ314.1 P 1 = μL39.1 P 1 := (F_315.1 P (ni hprP (fun P => P) (fun P => [24]) rfl) 1)
            have e_341 : μ314.1 26 10 = μL39.1 26 10 := (F_315.1 26 (by decide) 10)
            have e_342 : μ314.1 26 11 = μL39.1 26 11 := (F_315.1 26 (by decide) 11)
            have e_343 : μ314.1 (P + 2) 3 = μL39.1 (P + 2) 3 := (F_315.1 (P + 2) (ni hprP (fun P => P + 2) (fun P => [24]) rfl) 3)
            have e_344 : μ314.1 P 1 = μL39.1 P 1 := (F_315.1 P (ni hprP (fun P => P) (fun P => [24]) rfl) 1)
            have e_345 : μ314.1 (P + 2) 3 = μL39.1 (P + 2) 3 := (F_315.1 (P + 2) (ni hprP (fun P => P + 2) (fun P => [24]) rfl) 3)
            have e_346 : μ314.1 23 2 = P := ((F_315.1 23 (by decide) 2).trans hi_57)
            have e_347 : μ314.1 23 5 = μ.1 23 5 := ((F_315.1 23 (by decide) 5).trans hi_58)
            have e_348 : μ314.1 23 6 = μ.1 23 6 := ((F_315.1 23 (by decide) 6).trans hi_59)
            have e_349 : μ314.1 23 7 = μ.1 23 7 := ((F_315.1 23 (by decide) 7).trans hi_60)
            have e_350 : μ314.1 23 8 = tt := ((F_315.1 23 (by decide) 8).trans hi_61)
            have e_351 : μ314.1 23 9 = μL39.1 23 9 := (F_315.1 23 (by decide) 9)
            have e_352 : μ314.1 23 10 = μ.1 23 10 := ((F_315.1 23 (by decide) 10).trans hi_62)
            have e_353 : μ314.1 26 6 = μ.1 26 6 := ((F_315.1 26 (by decide) 6).trans hi_63)
            have e_354 : μ314.1 P 7 = μ.1 P 7 := ((F_315.1 P (ni hprP (fun P => P) (fun P => [24]) rfl) 7).trans hi_67)
            refine xc_vV G (b := 23) (rest := []) (As := [.int (iv 0)]) (((fun (_ : Om) (_ : Launch) => hE)) ω l μ314 0 P tt (by omega) hI_316 (by omega) (by omega) htk_320 (by omega) (by omega) (by omega) (by omega) (by omega)) (wm 4 3 rfl rfl) (wm 4 5 rfl rfl) (wm 0 24 rfl rfl) rfl rfl (by decide) rfl (wm 1 12 rfl rfl) (wm 4 6 rfl rfl) (by decide) hR ⟨sfr (F := F) (a := 0) (by decide), slo (L := Lo) (m := 3) (a := 0) (by decide)⟩ (n := 1) rfl rfl (Nat.le_of_ble_eq_true rfl) hl.1 dX7_arguments_82 (fun μ355 ρ d0 H locs hp G => ?_)
            obtain ⟨F_356, hI_357, hp_358, hp_359, hp_360, hp_361, hp_362, hp_363, hs_364, hs_365, hs_366, hs_367, hs_368, hs_369, hs_370, hs_371, hs_372⟩ := hp
            have hn_373 : -1 ≤ μ355.1 26 10 ∧ μ355.1 26 10 ≤ 3000 := hI_357.nm.2.2.2.2.2.2.2.2.2.2.2.2
            have hk_374 := hI_357.pr (p := P) hprP
            unfold pk at hk_374
            have hc_375 : 16 ≤ μ355.2.1 (P + 1) ∧ μ355.2.1 (P + 1) ≤ 73024 := hI_357.rm.1 _ hprP.cap
            have hk_376 := hI_357.row (r := P + 2) (hprP.row)
            unfold rk at hk_376
            have htb_377 := hp_358.b
            have hpx_378 : μ355.1 26 11 = 0 → PXE μo μ355 P tt ((e + c9) + (1 - 0)) f9 1 := fun h0 => (PXE.app (hpx_317 (by have h9 : μ314.1 26 11 = μL39.1 26 11 := (F_315.1 26 (by decide) 11); have h8 : μ355.1 26 11 = μ355.1 26 11 := rfl; omega)) (hp_363 h0)).e (by omega)
            refine lv_aload_n hx hb dX7_arguments_85 rfl (lv_at hl 5 rfl) ?_
            refine lv_iload hx hb dX7_arguments_86 (lv_at hl 3 rfl) ?_
            refine lv_iload hx hb dX7_arguments_88 (lv_at hl 4 rfl) ?_
            refine lv_iload hx hb dX7_arguments_90 (lv_at hl 2 rfl) ?_
            refine xb_iadd hx hb dX7_arguments_92 ?_
            have e_379 : μ355.1 23 2 = P := (hs_364.trans ((F_315.1 23 (by decide) 2).trans hi_57))
            have e_380 : μ355.1 23 8 = tt := (hs_368.trans ((F_315.1 23 (by decide) 8).trans hi_61))
            have e_381 : μ355.1 P 7 = μ.1 P 7 := (hs_372.trans ((F_315.1 P (ni hprP (fun P => P) (fun P => [24]) rfl) 7).trans hi_67))
            refine xc_iV G (b := 23) (rest := []) (As := [.int (iv f9), .int (iv (0 + c9))]) (c_X7_ifFails ω l μ355 f9 (0 + c9) μo ((e + c9) + (1 - 0)) (1) P tt (by unfold ir; omega) (by unfold ir; omega) hI_357 (by omega) (by omega) (by omega) hpx_378 (by omega) (by omega)) (wm 4 23 rfl rfl) (wm 4 25 rfl rfl) (wm 0 29 rfl rfl) rfl rfl (by decide) rfl (wm 1 12 rfl rfl) (wm 4 26 rfl rfl) (by decide) hR ⟨nfr hF (by decide), nlo hLo (by decide)⟩ (n := 2) rfl rfl (Nat.le_of_ble_eq_true rfl) hl.1 dX7_arguments_93 (fun r_383 μ382 ρ d0 H locs hr_r_383 hp G => ?_)
            have hr_r_383 : -2147483648 ≤ r_383 ∧ r_383 ≤ 2147483647 := hr_r_383
            obtain ⟨F_384, hI_385, hp_386, hp_387, hs_388⟩ := hp
            have hk_389 := hI_385.pr (p := P) hprP
            unfold pk at hk_389
            have hc_390 : 16 ≤ μ382.2.1 (P + 1) ∧ μ382.2.1 (P + 1) ≤ 73024 := hI_385.rm.1 _ hprP.cap
            have hpx_391 : μ382.1 26 11 = 0 → PXE μo μ382 P tt ((e + c9) + (1 - 0)) r_383 1 := fun h0 => hp_386 (by have h9 : μ355.1 26 11 = μ355.1 26 11 := rfl; have h8 : μ382.1 26 11 = μ355.1 26 11 := (F_384.1 26 (ni hprP (fun P => 26) (fun P => [P, P + 1]) rfl) 11); omega)
            clear hp_386
            refine lv_istore (lv' := [(7, .int (iv r_383)), (10, .int (iv i9)), (9, .int (iv m9)), (8, .int (iv c9)), (6, .int (iv 0)), (0, .ref (oP ω 23)), (1, .int (iv x1)), (2, .int (iv x2)), (3, .long (jv x3)), (5, .int (iv x4))]) hx hb dX7_arguments_96 hl (by decide) rfl (fun ls hl => ?_)
            refine lv_iinc (v := iv (c9 + 1)) (lv' := [(8, .int (iv (c9 + 1))), (7, .int (iv r_383)), (10, .int (iv i9)), (9, .int (iv m9)), (6, .int (iv 0)), (0, .ref (oP ω 23)), (1, .int (iv x1)), (2, .int (iv x2)), (3, .long (jv x3)), (5, .int (iv x4))]) hx hb dX7_arguments_98 hl (k := 3) rfl (by rw [show Int32.ofInt 1 = iv 1 from rfl, iv_add]) (by decide) rfl (fun ls hl => ?_)
            refine lv_aload_n hx hb dX7_arguments_101 rfl (lv_at hl 5 rfl) ?_
            refine lv_bipush (v := iv 44) hx hb dX7_arguments_102 rfl ?_
            have htk_392 : TK μ382 := hp_358.fr (K := [P, P + 1]) (Fr.tr Fr.rf F_384 (si hprP (fun P => [P, P + 1]) (fun P => [P, P + 1]) rfl)) (ni hprP (fun P => 26) (fun P => [P, P + 1]) rfl) (ni hprP (fun P => 28) (fun P => [P, P + 1]) rfl)
            have e_393 : μ382.1 26 12 = μ355.1 26 12 := (F_384.1 26 (ni hprP (fun P => 26) (fun P => [P, P + 1]) rfl) 12)
            have e_394 : μ382.1 26 10 = μ355.1 26 10 := (F_384.1 26 (ni hprP (fun P => 26) (fun P => [P, P + 1]) rfl) 10)
            have e_395 : μ382.1 26 11 = μ355.1 26 11 := (F_384.1 26 (ni hprP (fun P => 26) (fun P => [P, P + 1]) rfl) 11)
            have e_396 : μ382.1 26 12 = μ355.1 26 12 := (F_384.1 26 (ni hprP (fun P => 26) (fun P => [P, P + 1]) rfl) 12)
            have e_397 : μ382.1 26 10 = μ355.1 26 10 := (F_384.1 26 (ni hprP (fun P => 26) (fun P => [P, P + 1]) rfl) 10)
            have e_398 : μ382.1 26 12 = μ355.1 26 12 := (F_384.1 26 (ni hprP (fun P => 26) (fun P => [P, P + 1]) rfl) 12)
            have e_399 : μ382.1 26 11 = μ355.1 26 11 := (F_384.1 26 (ni hprP (fun P => 26) (fun P => [P, P + 1]) rfl) 11)
            have e_400 : μ382.1 26 6 = μ.1 26 6 := ((F_384.1 26 (ni hprP (fun P => 26) (fun P => [P, P + 1]) rfl) 6).trans (hs_371.trans ((F_315.1 26 (by decide) 6).trans hi_63)))
            have hn_401 : 0 ≤ μ355.1 26 7 ∧ μ355.1 26 7 ≤ 3000 := hI_357.nm.2.2.2.2.2.2.2.2.2.2.1
            have e_402 : μ382.1 26 7 = μ355.1 26 7 := (F_384.1 26 (ni hprP (fun P => 26) (fun P => [P, P + 1]) rfl) 7)
            have e_403 : μ382.1 26 8 = μ355.1 26 8 := (F_384.1 26 (ni hprP (fun P => 26) (fun P => [P, P + 1]) rfl) 8)
            have hn_404 : 0 ≤ μ355.1 26 9 ∧ μ355.1 26 9 ≤ 3000 := hI_357.nm.2.2.2.2.2.2.2.2.2.2.2.1
            have e_405 : μ382.1 26 9 = μ355.1 26 9 := (F_384.1 26 (ni hprP (fun P => 26) (fun P => [P, P + 1]) rfl) 9)
            refine xc_iV G (b := 23) (rest := []) (As := [.int (iv 44)]) (c_X7_took ω l μ382 44 (by unfold ir; omega) hI_385 htk_392 (by omega)) (wm 3 160 rfl rfl) (wm 3 162 rfl rfl) (wm 0 9 rfl rfl) rfl rfl (by decide) rfl (wm 1 12 rfl rfl) (wm 3 163 rfl rfl) (by decide) hR ⟨nfr hF (by decide), nlo hLo (by decide)⟩ (n := 1) rfl rfl (Nat.le_of_ble_eq_true rfl) hl.1 dX7_arguments_104 (fun r_407 μ406 ρ d0 H locs hr_r_407 hp G => ?_)
            have hr_r_407 : -2147483648 ≤ r_407 ∧ r_407 ≤ 2147483647 := hr_r_407
            obtain ⟨F_408, hI_409, hp_410, hp_411, hs_412, hs_413, hs_414, hs_415, hs_416⟩ := hp
            have hn_417 : -1 ≤ μ406.1 26 10 ∧ μ406.1 26 10 ≤ 3000 := hI_409.nm.2.2.2.2.2.2.2.2.2.2.2.2
            have htb_418 := hp_410.b
            refine lv_istore (lv' := [(9, .int (iv r_407)), (8, .int (iv (c9 + 1))), (7, .int (iv r_383)), (10, .int (iv i9)), (6, .int (iv 0)), (0, .ref (oP ω 23)), (1, .int (iv x1)), (2, .int (iv x2)), (3, .long (jv x3)), (5, .int (iv x4))]) hx hb dX7_arguments_107 hl (by decide) rfl (fun ls hl => ?_)
            refine lv_iinc (v := iv (i9 + 1)) (lv' := [(10, .int (iv (i9 + 1))), (9, .int (iv r_407)), (8, .int (iv (c9 + 1))), (7, .int (iv r_383)), (6, .int (iv 0)), (0, .ref (oP ω 23)), (1, .int (iv x1)), (2, .int (iv x2)), (3, .long (jv x3)), (5, .int (iv x4))]) hx hb dX7_arguments_109 hl (k := 3) rfl (by rw [show Int32.ofInt 1 = iv 1 from rfl, iv_add]) (by decide) rfl (fun ls hl => ?_)
            refine lv_goto (tgt := 48) hx hb dX7_arguments_112 (by decide) ?_
            have e_419 : μ406.1 26 11 = μ355.1 26 11 := (hs_412.trans (F_384.1 26 (ni hprP (fun P => 26) (fun P => [P, P + 1]) rfl) 11))
            have e_420 : μ406.1 P 1 = μ382.1 P 1 := (F_408.1 P (ni hprP (fun P => P) (fun P => [26]) rfl) 1)
            have e_421 : μ406.1 P 1 = μ382.1 P 1 := (F_408.1 P (ni hprP (fun P => P) (fun P => [26]) rfl) 1)
            have e_422 : μ406.1 26 11 = μ355.1 26 11 := (hs_412.trans (F_384.1 26 (ni hprP (fun P => 26) (fun P => [P, P + 1]) rfl) 11))
            have e_423 : μ406.1 P 1 = μ382.1 P 1 := (F_408.1 P (ni hprP (fun P => P) (fun P => [26]) rfl) 1)
            have e_424 : μ406.1 (P + 2) 3 = μ355.1 (P + 2) 3 := ((F_408.1 (P + 2) (ni hprP (fun P => P + 2) (fun P => [26]) rfl) 3).trans (F_384.1 (P + 2) (ni hprP (fun P => P + 2) (fun P => [P, P + 1]) rfl) 3))
            have e_425 : μ406.1 P 1 = μ382.1 P 1 := (F_408.1 P (ni hprP (fun P => P) (fun P => [26]) rfl) 1)
            have e_426 : μ406.1 (P + 2) 3 = μ355.1 (P + 2) 3 := ((F_408.1 (P + 2) (ni hprP (fun P => P + 2) (fun P => [26]) rfl) 3).trans (F_384.1 (P + 2) (ni hprP (fun P => P + 2) (fun P => [P, P + 1]) rfl) 3))
            have hpx_427 : μ406.1 26 11 = 0 → PXE μo μ406 P tt ((e + c9) + (1 - 0)) r_383 1 := fun h0 => (hpx_391 (by have h9 : μ382.1 26 11 = μ355.1 26 11 := (F_384.1 26 (ni hprP (fun P => 26) (fun P => [P, P + 1]) rfl) 11); have h8 : μ406.1 26 11 = μ355.1 26 11 := (hs_412.trans (F_384.1 26 (ni hprP (fun P => 26) (fun P => [P, P + 1]) rfl) 11)); omega)).fr (K := [26]) (Fr.tr Fr.rf F_408 (by decide)) (npL_p (L := [26]) (by decide) hprP).1 (npL_p (L := [26]) (by decide) hprP).2.1
            have e_428 : μ406.1 2 4 = μ355.1 2 4 := ((F_408.1 2 (by decide) 4).trans (F_384.1 2 (ni hprP (fun P => 2) (fun P => [P, P + 1]) rfl) 4))
            have e_429 : μ406.1 26 7 = μ355.1 26 7 := (hs_414.trans (F_384.1 26 (ni hprP (fun P => 26) (fun P => [P, P + 1]) rfl) 7))
            have e_430 : μ406.1 26 8 = μ355.1 26 8 := (hs_415.trans (F_384.1 26 (ni hprP (fun P => 26) (fun P => [P, P + 1]) rfl) 8))
            have e_431 : μ406.1 26 9 = μ355.1 26 9 := (hs_416.trans (F_384.1 26 (ni hprP (fun P => 26) (fun P => [P, P + 1]) rfl) 9))
            exact ih _ _ _ _ _ _ _ (by omega) ⟨r_383, c9 + 1, r_407, i9 + 1, (Fr.tr (Fr.tr (Fr.tr (Fr.tr FL40 F_315 (si hprP (fun P => [24]) (fun P => [2, 3, 4, 23, 24, 26, P, P + 1, P + 2, (P + 2) + 1, (P + 2) + 2, (P + 2) + 3]) rfl)) F_356 (si hprP (fun P => [2, 3, 4, 23, 24, 26, P, P + 1, P + 2, (P + 2) + 1, (P + 2) + 2, (P + 2) + 3]) (fun P => [2, 3, 4, 23, 24, 26, P, P + 1, P + 2, (P + 2) + 1, (P + 2) + 2, (P + 2) + 3]) rfl)) F_384 (si hprP (fun P => [P, P + 1]) (fun P => [2, 3, 4, 23, 24, 26, P, P + 1, P + 2, (P + 2) + 1, (P + 2) + 2, (P + 2) + 3]) rfl)) F_408 (si hprP (fun P => [26]) (fun P => [2, 3, 4, 23, 24, 26, P, P + 1, P + 2, (P + 2) + 1, (P + 2) + 2, (P + 2) + 3]) rfl)), (by omega), (by omega), (by omega), (by omega), (by omega), (by omega), (by omega), hp_410, (by omega), (by omega), (by omega), (by omega), (by omega), (fun h0 => (hpx_427 h0).e (by omega)), (by omega), ((F_408.1 23 (by decide) 2).trans ((F_384.1 23 (ni hprP (fun P => 23) (fun P => [P, P + 1]) rfl) 2).trans (hs_364.trans ((F_315.1 23 (by decide) 2).trans hi_57)))), ((F_408.1 23 (by decide) 5).trans ((F_384.1 23 (ni hprP (fun P => 23) (fun P => [P, P + 1]) rfl) 5).trans (hs_365.trans ((F_315.1 23 (by decide) 5).trans hi_58)))), ((F_408.1 23 (by decide) 6).trans ((F_384.1 23 (ni hprP (fun P => 23) (fun P => [P, P + 1]) rfl) 6).trans (hs_366.trans ((F_315.1 23 (by decide) 6).trans hi_59)))), ((F_408.1 23 (by decide) 7).trans ((F_384.1 23 (ni hprP (fun P => 23) (fun P => [P, P + 1]) rfl) 7).trans (hs_367.trans ((F_315.1 23 (by decide) 7).trans hi_60)))), ((F_408.1 23 (by decide) 8).trans ((F_384.1 23 (ni hprP (fun P => 23) (fun P => [P, P + 1]) rfl) 8).trans (hs_368.trans ((F_315.1 23 (by decide) 8).trans hi_61)))), ((F_408.1 23 (by decide) 10).trans ((F_384.1 23 (ni hprP (fun P => 23) (fun P => [P, P + 1]) rfl) 10).trans (hs_370.trans ((F_315.1 23 (by decide) 10).trans hi_62)))), (hs_413.trans ((F_384.1 26 (ni hprP (fun P => 26) (fun P => [P, P + 1]) rfl) 6).trans (hs_371.trans ((F_315.1 26 (by decide) 6).trans hi_63)))), (by omega), (by omega), (by omega), ((F_408.1 P (ni hprP (fun P => P) (fun P => [26]) rfl) 7).trans (hs_388.trans (hs_372.trans ((F_315.1 P (ni hprP (fun P => P) (fun P => [24]) rfl) 7).trans hi_67)))), hI_409, rfl, lv_sub hl [0, 1, 2, 3, 4, 5, 6, 7, 8, 9] rfl⟩ G
    · refine lv_iconst (v := iv 1) hx hb dX7_arguments_38 rfl ?_
      refine lv_goto (tgt := 43) hx hb dX7_arguments_39 (by decide) ?_
      refine lv_istore (lv' := [(9, .int (iv 1)), (8, .int (iv 0)), (7, .int (iv x4)), (6, .int (iv 0)), (0, .ref (oP ω 23)), (1, .int (iv x1)), (2, .int (iv x2)), (3, .long (jv x3)), (5, .int (iv x4))]) hx hb dX7_arguments_43 hl (by decide) rfl (fun ls hl => ?_)
      refine lv_iconst (v := iv 0) hx hb dX7_arguments_45 rfl ?_
      refine lv_istore (lv' := [(10, .int (iv 0)), (9, .int (iv 1)), (8, .int (iv 0)), (7, .int (iv x4)), (6, .int (iv 0)), (0, .ref (oP ω 23)), (1, .int (iv x1)), (2, .int (iv x2)), (3, .long (jv x3)), (5, .int (iv x4))]) hx hb dX7_arguments_46 hl (by decide) rfl (fun ls hl => ?_)
      have e_432 : μ10.1 P 1 = μ.1 P 1 := (F_11.1 P (ni hprP (fun P => P) (fun P => [26, 23]) rfl) 1)
      have e_433 : μ10.1 P 1 = μ.1 P 1 := (F_11.1 P (ni hprP (fun P => P) (fun P => [26, 23]) rfl) 1)
      have e_434 : μ10.1 P 1 = μ.1 P 1 := (F_11.1 P (ni hprP (fun P => P) (fun P => [26, 23]) rfl) 1)
      have e_435 : μ10.1 (P + 2) 3 = μ.1 (P + 2) 3 := (F_11.1 (P + 2) (ni hprP (fun P => P + 2) (fun P => [26, 23]) rfl) 3)
      have e_436 : μ10.1 P 1 = μ.1 P 1 := (F_11.1 P (ni hprP (fun P => P) (fun P => [26, 23]) rfl) 1)
      have e_437 : μ10.1 (P + 2) 3 = μ.1 (P + 2) 3 := (F_11.1 (P + 2) (ni hprP (fun P => P + 2) (fun P => [26, 23]) rfl) 3)
      have hk_438 := hI.row (r := P + 2) (hprP.row)
      unfold rk at hk_438
      have hpx_439 : μ10.1 26 11 = 0 → PXE μo μ10 P tt e x4 1 := fun h0 => (hpx (by have h9 : μ.1 26 11 = μ.1 26 11 := rfl; have h8 : μ10.1 26 11 = μ10.1 26 11 := rfl; omega)).fr (K := [26, 23]) (Fr.tr Fr.rf F_11 (by decide)) (npL_p (L := [26, 23]) (by decide) hprP).1 (npL_p (L := [26, 23]) (by decide) hprP).2.1
      refine xl (fun n_9 μ' ls => ∃ (f9 : Int), ∃ (c9 : Int), ∃ (m9 : Int), ∃ (i9 : Int), (Fr [2, 3, 4, 23, 24, 26, P, P + 1, P + 2, (P + 2) + 1, (P + 2) + 2, (P + 2) + 3] μ10 μ') ∧ (-2147483648 ≤ f9 ∧ f9 ≤ 2147483647) ∧ (-2147483648 ≤ c9 ∧ c9 ≤ 2147483647) ∧ (-2147483648 ≤ m9 ∧ m9 ≤ 2147483647) ∧ (-2147483648 ≤ i9 ∧ i9 ≤ 2147483647) ∧ (0 ≤ c9 ∧ c9 ≤ i9) ∧ (i9 ≤ 3000) ∧ (m9 = 0 ∨ m9 = 1) ∧ (TK μ') ∧ (μ.1 26 11 ≤ μ'.1 26 11) ∧ (μ.1 26 10 ≤ μ'.1 26 10) ∧ (μ.1 P 1 ≤ μ'.1 P 1 ∧ μ'.1 P 1 ≤ μ.1 P 1 + 2 * (μ'.1 26 10 - μ.1 26 10) + (- 2 + 3 * μ'.1 26 11)) ∧ (μ'.1 P 1 ≤ μ.1 P 1 + 2 * (μ'.1 26 10 - μ.1 26 10) + (1 - m9)) ∧ (μ'.1 (P + 2) 3 - μ.1 (P + 2) 3 ≤ μ'.1 P 1 - μ.1 P 1 ∧ μ.1 (P + 2) 3 ≤ μ'.1 (P + 2) 3) ∧ (μ'.1 26 11 = 0 → PXE μo μ' P tt (e + c9) f9 1) ∧ (μ'.1 2 4 = μ.1 2 4) ∧ (μ'.1 23 2 = P) ∧ (μ'.1 23 5 = μ.1 23 5) ∧ (μ'.1 23 6 = μ.1 23 6) ∧ (μ'.1 23 7 = μ.1 23 7) ∧ (μ'.1 23 8 = tt) ∧ (μ'.1 23 10 = μ.1 23 10) ∧ (μ'.1 26 6 = μ.1 26 6) ∧ (μ'.1 26 7 = μ.1 26 7) ∧ (μ'.1 26 8 = μ.1 26 8) ∧ (μ'.1 26 9 = μ.1 26 9) ∧ (μ'.1 P 7 = μ.1 P 7) ∧ (IC μ') ∧ n_9 = Int.toNat (3000 - i9) ∧ lv_has ls 11 [(10, .int (iv i9)), (9, .int (iv m9)), (8, .int (iv c9)), (7, .int (iv f9)), (6, .int (iv 0)), (0, .ref (oP ω 23)), (1, .int (iv x1)), (2, .int (iv x2)), (3, .long (jv x3)), (5, .int (iv x4))]) (fun n_9 ρ μL440 d0 H locs ls hI_l G ih => ?_) _ _ _ _ _ _ _ ⟨x4, 0, 1, 0, Fr.rf, (by omega), (by omega), (by omega), (by omega), (by omega), (by omega), (by omega), hp_13, (by omega), (by omega), (by omega), (by omega), (by omega), (fun h0 => (hpx_439 h0).e (by omega)), (F_11.1 2 (by decide) 4), (hs_22.trans hP.symm), hs_23, hs_24, hs_25, (hs_26.trans htt.symm), hs_27, hs_18, hs_19, hs_20, hs_21, (F_11.1 P (ni hprP (fun P => P) (fun P => [26, 23]) rfl) 7), hI_12, rfl, lv_sub hl [0, 1, 2, 3, 4, 5, 6, 7, 8, 9] rfl⟩ G
      obtain ⟨f9, c9, m9, i9, FL441, hi_443, hi_444, hi_445, hi_446, hi_447, hi_448, hi_449, hi_450, hi_451, hi_452, hi_453, hi_454, hi_455, hi_456, hi_457, hi_458, hi_459, hi_460, hi_461, hi_462, hi_463, hi_464, hi_465, hi_466, hi_467, hi_468, hi_469, hn442, hl⟩ := hI_l
      have htb_470 := hi_450.b
      refine lv_iload hx hb dX7_arguments_48 (lv_at hl 0 rfl) ?_
      refine lv_sipush (v := iv 3000) hx hb dX7_arguments_50 rfl ?_
      refine xb_icmp_ge (tgt := 115) hx hb (by unfold ir; omega) (by unfold ir; omega) dX7_arguments_53 (by decide) (fun c_53 => ?_) (fun c_53 => ?_)
      · refine lv_aload_n hx hb dX7_arguments_115 rfl (lv_at hl 5 rfl) ?_
        refine lv_bipush (v := iv 41) hx hb dX7_arguments_116 rfl ?_
        have hn_471 : -1 ≤ μL440.1 26 10 ∧ μL440.1 26 10 ≤ 3000 := hi_469.nm.2.2.2.2.2.2.2.2.2.2.2.2
        have e_472 : μL440.1 26 6 = μ.1 26 6 := hi_464
        have e_473 : μL440.1 26 7 = μ.1 26 7 := hi_465
        have e_474 : μL440.1 26 8 = μ.1 26 8 := hi_466
        have e_475 : μL440.1 26 9 = μ.1 26 9 := hi_467
        have e_476 : μL440.1 23 2 = P := hi_458
        have e_477 : μL440.1 23 5 = μ.1 23 5 := hi_459
        have e_478 : μL440.1 23 6 = μ.1 23 6 := hi_460
        have e_479 : μL440.1 23 7 = μ.1 23 7 := hi_461
        have e_480 : μL440.1 23 8 = tt := hi_462
        have e_481 : μL440.1 23 10 = μ.1 23 10 := hi_463
        refine xc_vV G (b := 23) (rest := []) (As := [.int (iv 41)]) (c_X7_needClosed ω l μL440 41 (by unfold ir; omega) hi_469 hi_450 (by omega) (by omega)) (wm 3 214 rfl rfl) (wm 3 216 rfl rfl) (wm 0 18 rfl rfl) rfl rfl (by decide) rfl (wm 1 12 rfl rfl) (wm 3 217 rfl rfl) (by decide) hR ⟨nfr hF (by decide), nlo hLo (by decide)⟩ (n := 1) rfl rfl (Nat.le_of_ble_eq_true rfl) hl.1 dX7_arguments_118 (fun μ482 ρ d0 H locs hp G => ?_)
        obtain ⟨F_483, hI_484, hp_485, hp_486, hp_487, hs_488, hs_489, hs_490, hs_491, hs_492, hs_493, hs_494, hs_495, hs_496, hs_497, hs_498⟩ := hp
        have hn_499 : -1 ≤ μ482.1 26 10 ∧ μ482.1 26 10 ≤ 3000 := hI_484.nm.2.2.2.2.2.2.2.2.2.2.2.2
        have htb_500 := hp_485.b
        refine lv_aload_n hx hb dX7_arguments_121 rfl (lv_at hl 5 rfl) ?_
        refine xa_getr G fd_X7 (a := 23) (x := P) 2 rfl (by decide) rfl (wm 2 19 rfl rfl) ⟨rfl, rfl, rfl⟩ dX7_arguments_122 rfl (hs_493.trans hi_458) (by omega) (hprP.hq ω ρ) ?_
        refine lv_iconst (v := iv 0) hx hb dX7_arguments_125 rfl ?_
        refine lv_lload_n hx hb dX7_arguments_126 rfl (lv_at hl 8 rfl) ?_
        refine lv_dconst0 hx hb dX7_arguments_127 ?_
        refine xb_topd (fun dd_501 he_dd_501 => ?_)
        have hpx_502 : μ482.1 26 11 = 0 → PXE μo μ482 P tt (e + c9) f9 1 := fun h0 => (hi_456 (by have h9 : μL440.1 26 11 = μL440.1 26 11 := rfl; have h8 : μ482.1 26 11 = μ482.1 26 11 := rfl; omega)).fr (K := [26, 23]) (Fr.tr Fr.rf F_483 (by decide)) (npL_p (L := [26, 23]) (by decide) hprP).1 (npL_p (L := [26, 23]) (by decide) hprP).2.1
        have hk_503 := hi_469.row (r := P + 2) (hprP.row)
        unfold rk at hk_503
        have e_504 : μ482.1 (P + 2) 3 = μL440.1 (P + 2) 3 := (F_483.1 (P + 2) (ni hprP (fun P => P + 2) (fun P => [26, 23]) rfl) 3)
        refine xc_iV G (b := P) (rest := []) (As := [.int (iv 0), .long (jv x3), .double (dv dd_501)]) (c_X8_addConstant ω l μ482 P 0 x3 dd_501 (μL440.1 (P + 2) 3) hprP (by unfold ir; omega) hx3 hI_484 (by omega) (by omega)) (wm 4 67 rfl rfl) (wm 4 68 rfl rfl) (wm 4 69 rfl rfl) hprP.ly rfl (by decide) (hprP.hq ω ρ) (wm 1 9 rfl rfl) (wm 4 70 rfl rfl) (by decide) hR ⟨nfr hF (by decide), nlo hLo (by decide)⟩ (n := 3) rfl rfl (Nat.le_of_ble_eq_true rfl) hl.1 dX7_arguments_128 (fun r_506 μ505 ρ d0 H locs hr_r_506 hp G => ?_)
        have hr_r_506 : -2147483648 ≤ r_506 ∧ r_506 ≤ 2147483647 := hr_r_506
        obtain ⟨F_507, hI_508, hp_509, hp_510⟩ := hp
        have hk_511 := hI_508.row (r := P + 2) (hprP.row)
        unfold rk at hk_511
        refine lv_istore (lv' := [(10, .int (iv r_506)), (9, .int (iv m9)), (8, .int (iv c9)), (7, .int (iv f9)), (6, .int (iv 0)), (0, .ref (oP ω 23)), (1, .int (iv x1)), (2, .int (iv x2)), (3, .long (jv x3)), (5, .int (iv x4))]) hx hb dX7_arguments_131 hl (by decide) rfl (fun ls hl => ?_)
        refine lv_aload_n hx hb dX7_arguments_133 rfl (lv_at hl 5 rfl) ?_
        refine lv_iload_n hx hb dX7_arguments_134 rfl (lv_at hl 6 rfl) ?_
        refine lv_iload hx hb dX7_arguments_135 (lv_at hl 2 rfl) ?_
        refine lv_iconst (v := iv 4) hx hb dX7_arguments_137 rfl ?_
        refine xb_imul hx hb dX7_arguments_138 ?_
        refine lv_iload_n hx hb dX7_arguments_139 rfl (lv_at hl 7 rfl) ?_
        refine xb_iadd hx hb dX7_arguments_140 ?_
        refine lv_iload hx hb dX7_arguments_141 (lv_at hl 0 rfl) ?_
        refine lv_iload hx hb dX7_arguments_143 (lv_at hl 3 rfl) ?_
        have hpx_512 : μ505.1 26 11 = 0 → PXE μo μ505 P tt (e + c9) f9 1 := fun h0 => (hpx_502 (by have h9 : μ482.1 26 11 = μ482.1 26 11 := rfl; have h8 : μ505.1 26 11 = μ482.1 26 11 := (F_507.1 26 (ni hprP (fun P => 26) (fun P => [P + 2, (P + 2) + 1, (P + 2) + 2, (P + 2) + 3]) rfl) 11); omega)).fr (K := [P + 2, (P + 2) + 1, (P + 2) + 2, (P + 2) + 3]) (Fr.tr Fr.rf F_507 (si hprP (fun P => [P + 2, (P + 2) + 1, (P + 2) + 2, (P + 2) + 3]) (fun P => [P + 2, (P + 2) + 1, (P + 2) + 2, (P + 2) + 3]) rfl)) (ni hprP (fun P => P) (fun P => [P + 2, (P + 2) + 1, (P + 2) + 2, (P + 2) + 3]) rfl) (ni hprP (fun P => P + 1) (fun P => [P + 2, (P + 2) + 1, (P + 2) + 2, (P + 2) + 3]) rfl)
        have e_513 : μ505.1 23 2 = P := ((F_507.1 23 (ni hprP (fun P => 23) (fun P => [P + 2, (P + 2) + 1, (P + 2) + 2, (P + 2) + 3]) rfl) 2).trans (hs_493.trans hi_458))
        have e_514 : μ505.1 23 8 = tt := ((F_507.1 23 (ni hprP (fun P => 23) (fun P => [P + 2, (P + 2) + 1, (P + 2) + 2, (P + 2) + 3]) rfl) 8).trans (hs_497.trans hi_462))
        have hk_515 := hi_469.pr (p := P) hprP
        unfold pk at hk_515
        have hc_516 : 16 ≤ μL440.2.1 (P + 1) ∧ μL440.2.1 (P + 1) ≤ 73024 := hi_469.rm.1 _ hprP.cap
        have e_517 : μ505.1 P 1 = μL440.1 P 1 := ((F_507.1 P (ni hprP (fun P => P) (fun P => [P + 2, (P + 2) + 1, (P + 2) + 2, (P + 2) + 3]) rfl) 1).trans (F_483.1 P (ni hprP (fun P => P) (fun P => [26, 23]) rfl) 1))
        have e_518 : μ505.1 P 1 = μL440.1 P 1 := ((F_507.1 P (ni hprP (fun P => P) (fun P => [P + 2, (P + 2) + 1, (P + 2) + 2, (P + 2) + 3]) rfl) 1).trans (F_483.1 P (ni hprP (fun P => P) (fun P => [26, 23]) rfl) 1))
        have e_519 : μ505.1 P 7 = μ.1 P 7 := ((F_507.1 P (ni hprP (fun P => P) (fun P => [P + 2, (P + 2) + 1, (P + 2) + 2, (P + 2) + 3]) rfl) 7).trans ((F_483.1 P (ni hprP (fun P => P) (fun P => [26, 23]) rfl) 7).trans hi_468))
        refine xc_vV G (b := 23) (rest := []) (As := [.int (iv x1), .int (iv ((c9 * 4) + x2)), .int (iv r_506), .int (iv f9)]) (c_X7_endOfParts ω l μ505 x1 ((c9 * 4) + x2) r_506 f9 μo (e + c9) (1) P tt (by unfold ir; omega) (by unfold ir; omega) (by unfold ir; omega) (by unfold ir; omega) hI_508 (by omega) (by omega) (by omega) hpx_512 (Or.inr ⟨by omega, by omega, by omega⟩) (by omega) (by rcases heo with ⟨q1, q2⟩ | ⟨q1, q2⟩; (rw [q1, ef13 (by omega) hx2b]; omega); (rw [q1, ef14 (by omega) hx2b]; omega))) (wm 4 27 rfl rfl) (wm 4 29 rfl rfl) (wm 0 30 rfl rfl) rfl rfl (by decide) rfl (wm 1 12 rfl rfl) (wm 4 30 rfl rfl) (by decide) hR ⟨nfr hF (by decide), nlo hLo (by decide)⟩ (n := 4) rfl rfl (Nat.le_of_ble_eq_true rfl) hl.1 dX7_arguments_145 (fun μ520 ρ d0 H locs hp G => ?_)
        obtain ⟨F_521, hI_522, hp_523, hs_524, hs_525⟩ := hp
        have hpx_526 : μ520.1 26 11 = 0 → PXE μo μ520 P tt 1 (-1) 1 := fun h0 => PXE.of (hp_523 (by have h9 : μ505.1 26 11 = μ482.1 26 11 := (F_507.1 26 (ni hprP (fun P => 26) (fun P => [P + 2, (P + 2) + 1, (P + 2) + 2, (P + 2) + 3]) rfl) 11); have h8 : μ520.1 26 11 = μ482.1 26 11 := ((F_521.1 26 (ni hprP (fun P => 26) (fun P => [P, P + 1]) rfl) 11).trans (F_507.1 26 (ni hprP (fun P => 26) (fun P => [P + 2, (P + 2) + 1, (P + 2) + 2, (P + 2) + 3]) rfl) 11)); omega))
        clear hp_523
        have htk_527 : TK μ520 := hp_485.fr (K := [P, P + 1, P + 2, (P + 2) + 1, (P + 2) + 2, (P + 2) + 3]) (Fr.tr (Fr.tr Fr.rf F_507 (si hprP (fun P => [P + 2, (P + 2) + 1, (P + 2) + 2, (P + 2) + 3]) (fun P => [P, P + 1, P + 2, (P + 2) + 1, (P + 2) + 2, (P + 2) + 3]) rfl)) F_521 (si hprP (fun P => [P, P + 1]) (fun P => [P, P + 1, P + 2, (P + 2) + 1, (P + 2) + 2, (P + 2) + 3]) rfl)) (ni hprP (fun P => 26) (fun P => [P, P + 1, P + 2, (P + 2) + 1, (P + 2) + 2, (P + 2) + 3]) rfl) (ni hprP (fun P => 28) (fun P => [P, P + 1, P + 2, (P + 2) + 1, (P + 2) + 2, (P + 2) + 3]) rfl)
        have e_528 : μ520.1 26 11 = μ482.1 26 11 := ((F_521.1 26 (ni hprP (fun P => 26) (fun P => [P, P + 1]) rfl) 11).trans (F_507.1 26 (ni hprP (fun P => 26) (fun P => [P + 2, (P + 2) + 1, (P + 2) + 2, (P + 2) + 3]) rfl) 11))
        have e_529 : μ520.1 26 11 = μ482.1 26 11 := ((F_521.1 26 (ni hprP (fun P => 26) (fun P => [P, P + 1]) rfl) 11).trans (F_507.1 26 (ni hprP (fun P => 26) (fun P => [P + 2, (P + 2) + 1, (P + 2) + 2, (P + 2) + 3]) rfl) 11))
        have e_530 : μ520.1 26 10 = μ482.1 26 10 := ((F_521.1 26 (ni hprP (fun P => 26) (fun P => [P, P + 1]) rfl) 10).trans (F_507.1 26 (ni hprP (fun P => 26) (fun P => [P + 2, (P + 2) + 1, (P + 2) + 2, (P + 2) + 3]) rfl) 10))
        have e_531 : μ520.1 P 1 = μ505.1 P 1 + 1 := hs_524
        have e_532 : μ520.1 P 1 = μ505.1 P 1 + 1 := hs_524
        have e_533 : μ520.1 26 10 = μ482.1 26 10 := ((F_521.1 26 (ni hprP (fun P => 26) (fun P => [P, P + 1]) rfl) 10).trans (F_507.1 26 (ni hprP (fun P => 26) (fun P => [P + 2, (P + 2) + 1, (P + 2) + 2, (P + 2) + 3]) rfl) 10))
        have e_534 : μ520.1 26 11 = μ482.1 26 11 := ((F_521.1 26 (ni hprP (fun P => 26) (fun P => [P, P + 1]) rfl) 11).trans (F_507.1 26 (ni hprP (fun P => 26) (fun P => [P + 2, (P + 2) + 1, (P + 2) + 2, (P + 2) + 3]) rfl) 11))
        have e_535 : μ520.1 (P + 2) 3 = μ505.1 (P + 2) 3 := (F_521.1 (P + 2) (ni hprP (fun P => P + 2) (fun P => [P, P + 1]) rfl) 3)
        have e_536 : μ520.1 P 1 = μ505.1 P 1 + 1 := hs_524
        have e_537 : μ520.1 (P + 2) 3 = μ505.1 (P + 2) 3 := (F_521.1 (P + 2) (ni hprP (fun P => P + 2) (fun P => [P, P + 1]) rfl) 3)
        have e_538 : μ520.1 23 2 = P := ((F_521.1 23 (ni hprP (fun P => 23) (fun P => [P, P + 1]) rfl) 2).trans ((F_507.1 23 (ni hprP (fun P => 23) (fun P => [P + 2, (P + 2) + 1, (P + 2) + 2, (P + 2) + 3]) rfl) 2).trans (hs_493.trans hi_458)))
        have e_539 : μ520.1 23 5 = μ.1 23 5 := ((F_521.1 23 (ni hprP (fun P => 23) (fun P => [P, P + 1]) rfl) 5).trans ((F_507.1 23 (ni hprP (fun P => 23) (fun P => [P + 2, (P + 2) + 1, (P + 2) + 2, (P + 2) + 3]) rfl) 5).trans (hs_494.trans hi_459)))
        have e_540 : μ520.1 23 6 = μ.1 23 6 := ((F_521.1 23 (ni hprP (fun P => 23) (fun P => [P, P + 1]) rfl) 6).trans ((F_507.1 23 (ni hprP (fun P => 23) (fun P => [P + 2, (P + 2) + 1, (P + 2) + 2, (P + 2) + 3]) rfl) 6).trans (hs_495.trans hi_460)))
        have e_541 : μ520.1 23 7 = μ.1 23 7 := ((F_521.1 23 (ni hprP (fun P => 23) (fun P => [P, P + 1]) rfl) 7).trans ((F_507.1 23 (ni hprP (fun P => 23) (fun P => [P + 2, (P + 2) + 1, (P + 2) + 2, (P + 2) + 3]) rfl) 7).trans (hs_496.trans hi_461)))
        have e_542 : μ520.1 23 8 = tt := ((F_521.1 23 (ni hprP (fun P => 23) (fun P => [P, P + 1]) rfl) 8).trans ((F_507.1 23 (ni hprP (fun P => 23) (fun P => [P + 2, (P + 2) + 1, (P + 2) + 2, (P + 2) + 3]) rfl) 8).trans (hs_497.trans hi_462)))
        have e_543 : μ520.1 23 9 = μL440.1 23 9 - 1 := ((F_521.1 23 (ni hprP (fun P => 23) (fun P => [P, P + 1]) rfl) 9).trans ((F_507.1 23 (ni hprP (fun P => 23) (fun P => [P + 2, (P + 2) + 1, (P + 2) + 2, (P + 2) + 3]) rfl) 9).trans hs_488))
        have e_544 : μ520.1 23 10 = μ.1 23 10 := ((F_521.1 23 (ni hprP (fun P => 23) (fun P => [P, P + 1]) rfl) 10).trans ((F_507.1 23 (ni hprP (fun P => 23) (fun P => [P + 2, (P + 2) + 1, (P + 2) + 2, (P + 2) + 3]) rfl) 10).trans (hs_498.trans hi_463)))
        have e_545 : μ520.1 26 6 = μ.1 26 6 := ((F_521.1 26 (ni hprP (fun P => 26) (fun P => [P, P + 1]) rfl) 6).trans ((F_507.1 26 (ni hprP (fun P => 26) (fun P => [P + 2, (P + 2) + 1, (P + 2) + 2, (P + 2) + 3]) rfl) 6).trans (hs_489.trans hi_464)))
        have e_546 : μ520.1 P 7 = μ.1 P 7 := (hs_525.trans ((F_507.1 P (ni hprP (fun P => P) (fun P => [P + 2, (P + 2) + 1, (P + 2) + 2, (P + 2) + 3]) rfl) 7).trans ((F_483.1 P (ni hprP (fun P => P) (fun P => [26, 23]) rfl) 7).trans hi_468)))
        exact xr_v G hret hlk dX7_arguments_148 ⟨(Fr.tr (Fr.tr (Fr.tr (Fr.tr (Fr.tr Fr.rf F_11 (si hprP (fun P => [26, 23]) (fun P => [2, 3, 4, 23, 24, 26, P, P + 1, P + 2, (P + 2) + 1, (P + 2) + 2, (P + 2) + 3]) rfl)) FL441 (si hprP (fun P => [2, 3, 4, 23, 24, 26, P, P + 1, P + 2, (P + 2) + 1, (P + 2) + 2, (P + 2) + 3]) (fun P => [2, 3, 4, 23, 24, 26, P, P + 1, P + 2, (P + 2) + 1, (P + 2) + 2, (P + 2) + 3]) rfl)) F_483 (si hprP (fun P => [26, 23]) (fun P => [2, 3, 4, 23, 24, 26, P, P + 1, P + 2, (P + 2) + 1, (P + 2) + 2, (P + 2) + 3]) rfl)) F_507 (si hprP (fun P => [P + 2, (P + 2) + 1, (P + 2) + 2, (P + 2) + 3]) (fun P => [2, 3, 4, 23, 24, 26, P, P + 1, P + 2, (P + 2) + 1, (P + 2) + 2, (P + 2) + 3]) rfl)) F_521 (si hprP (fun P => [P, P + 1]) (fun P => [2, 3, 4, 23, 24, 26, P, P + 1, P + 2, (P + 2) + 1, (P + 2) + 2, (P + 2) + 3]) rfl)), hI_522, htk_527, (by omega), (by omega), (by omega), (by omega), (fun h0 => (PXE.ex (hpx_526 h0)).e (by omega)), (by omega), (by omega), (by omega), (by omega), (by omega), (by omega), (by omega), (by omega), (by omega)⟩
      · refine lv_iload hx hb dX7_arguments_56 (lv_at hl 1 rfl) ?_
        refine xb_if_eq (tgt := 115) hx hb (by unfold ir; omega) dX7_arguments_58 (by decide) (fun c_58 => ?_) (fun c_58 => ?_)
        · refine lv_aload_n hx hb dX7_arguments_115 rfl (lv_at hl 5 rfl) ?_
          refine lv_bipush (v := iv 41) hx hb dX7_arguments_116 rfl ?_
          have hn_547 : -1 ≤ μL440.1 26 10 ∧ μL440.1 26 10 ≤ 3000 := hi_469.nm.2.2.2.2.2.2.2.2.2.2.2.2
          have e_548 : μL440.1 26 6 = μ.1 26 6 := hi_464
          have e_549 : μL440.1 26 7 = μ.1 26 7 := hi_465
          have e_550 : μL440.1 26 8 = μ.1 26 8 := hi_466
          have e_551 : μL440.1 26 9 = μ.1 26 9 := hi_467
          have e_552 : μL440.1 23 2 = P := hi_458
          have e_553 : μL440.1 23 5 = μ.1 23 5 := hi_459
          have e_554 : μL440.1 23 6 = μ.1 23 6 := hi_460
          have e_555 : μL440.1 23 7 = μ.1 23 7 := hi_461
          have e_556 : μL440.1 23 8 = tt := hi_462
          have e_557 : μL440.1 23 10 = μ.1 23 10 := hi_463
          refine xc_vV G (b := 23) (rest := []) (As := [.int (iv 41)]) (c_X7_needClosed ω l μL440 41 (by unfold ir; omega) hi_469 hi_450 (by omega) (by omega)) (wm 3 214 rfl rfl) (wm 3 216 rfl rfl) (wm 0 18 rfl rfl) rfl rfl (by decide) rfl (wm 1 12 rfl rfl) (wm 3 217 rfl rfl) (by decide) hR ⟨nfr hF (by decide), nlo hLo (by decide)⟩ (n := 1) rfl rfl (Nat.le_of_ble_eq_true rfl) hl.1 dX7_arguments_118 (fun μ558 ρ d0 H locs hp G => ?_)
          obtain ⟨F_559, hI_560, hp_561, hp_562, hp_563, hs_564, hs_565, hs_566, hs_567, hs_568, hs_569, hs_570, hs_571, hs_572, hs_573, hs_574⟩ := hp
          have hn_575 : -1 ≤ μ558.1 26 10 ∧ μ558.1 26 10 ≤ 3000 := hI_560.nm.2.2.2.2.2.2.2.2.2.2.2.2
          have htb_576 := hp_561.b
          refine lv_aload_n hx hb dX7_arguments_121 rfl (lv_at hl 5 rfl) ?_
          refine xa_getr G fd_X7 (a := 23) (x := P) 2 rfl (by decide) rfl (wm 2 19 rfl rfl) ⟨rfl, rfl, rfl⟩ dX7_arguments_122 rfl (hs_569.trans hi_458) (by omega) (hprP.hq ω ρ) ?_
          refine lv_iconst (v := iv 0) hx hb dX7_arguments_125 rfl ?_
          refine lv_lload_n hx hb dX7_arguments_126 rfl (lv_at hl 8 rfl) ?_
          refine lv_dconst0 hx hb dX7_arguments_127 ?_
          refine xb_topd (fun dd_577 he_dd_577 => ?_)
          have hpx_578 : μ558.1 26 11 = 0 → PXE μo μ558 P tt (e + c9) f9 1 := fun h0 => (hi_456 (by have h9 : μL440.1 26 11 = μL440.1 26 11 := rfl; have h8 : μ558.1 26 11 = μ558.1 26 11 := rfl; omega)).fr (K := [26, 23]) (Fr.tr Fr.rf F_559 (by decide)) (npL_p (L := [26, 23]) (by decide) hprP).1 (npL_p (L := [26, 23]) (by decide) hprP).2.1
          have hk_579 := hi_469.row (r := P + 2) (hprP.row)
          unfold rk at hk_579
          have e_580 : μ558.1 (P + 2) 3 = μL440.1 (P + 2) 3 := (F_559.1 (P + 2) (ni hprP (fun P => P + 2) (fun P => [26, 23]) rfl) 3)
          refine xc_iV G (b := P) (rest := []) (As := [.int (iv 0), .long (jv x3), .double (dv dd_577)]) (c_X8_addConstant ω l μ558 P 0 x3 dd_577 (μL440.1 (P + 2) 3) hprP (by unfold ir; omega) hx3 hI_560 (by omega) (by omega)) (wm 4 67 rfl rfl) (wm 4 68 rfl rfl) (wm 4 69 rfl rfl) hprP.ly rfl (by decide) (hprP.hq ω ρ) (wm 1 9 rfl rfl) (wm 4 70 rfl rfl) (by decide) hR ⟨nfr hF (by decide), nlo hLo (by decide)⟩ (n := 3) rfl rfl (Nat.le_of_ble_eq_true rfl) hl.1 dX7_arguments_128 (fun r_582 μ581 ρ d0 H locs hr_r_582 hp G => ?_)
          have hr_r_582 : -2147483648 ≤ r_582 ∧ r_582 ≤ 2147483647 := hr_r_582
          obtain ⟨F_583, hI_584, hp_585, hp_586⟩ := hp
          have hk_587 := hI_584.row (r := P + 2) (hprP.row)
          unfold rk at hk_587
          refine lv_istore (lv' := [(10, .int (iv r_582)), (9, .int (iv m9)), (8, .int (iv c9)), (7, .int (iv f9)), (6, .int (iv 0)), (0, .ref (oP ω 23)), (1, .int (iv x1)), (2, .int (iv x2)), (3, .long (jv x3)), (5, .int (iv x4))]) hx hb dX7_arguments_131 hl (by decide) rfl (fun ls hl => ?_)
          refine lv_aload_n hx hb dX7_arguments_133 rfl (lv_at hl 5 rfl) ?_
          refine lv_iload_n hx hb dX7_arguments_134 rfl (lv_at hl 6 rfl) ?_
          refine lv_iload hx hb dX7_arguments_135 (lv_at hl 2 rfl) ?_
          refine lv_iconst (v := iv 4) hx hb dX7_arguments_137 rfl ?_
          refine xb_imul hx hb dX7_arguments_138 ?_
          refine lv_iload_n hx hb dX7_arguments_139 rfl (lv_at hl 7 rfl) ?_
          refine xb_iadd hx hb dX7_arguments_140 ?_
          refine lv_iload hx hb dX7_arguments_141 (lv_at hl 0 rfl) ?_
          refine lv_iload hx hb dX7_arguments_143 (lv_at hl 3 rfl) ?_
          have hpx_588 : μ581.1 26 11 = 0 → PXE μo μ581 P tt (e + c9) f9 1 := fun h0 => (hpx_578 (by have h9 : μ558.1 26 11 = μ558.1 26 11 := rfl; have h8 : μ581.1 26 11 = μ558.1 26 11 := (F_583.1 26 (ni hprP (fun P => 26) (fun P => [P + 2, (P + 2) + 1, (P + 2) + 2, (P + 2) + 3]) rfl) 11); omega)).fr (K := [P + 2, (P + 2) + 1, (P + 2) + 2, (P + 2) + 3]) (Fr.tr Fr.rf F_583 (si hprP (fun P => [P + 2, (P + 2) + 1, (P + 2) + 2, (P + 2) + 3]) (fun P => [P + 2, (P + 2) + 1, (P + 2) + 2, (P + 2) + 3]) rfl)) (ni hprP (fun P => P) (fun P => [P + 2, (P + 2) + 1, (P + 2) + 2, (P + 2) + 3]) rfl) (ni hprP (fun P => P + 1) (fun P => [P + 2, (P + 2) + 1, (P + 2) + 2, (P + 2) + 3]) rfl)
          have e_589 : μ581.1 23 2 = P := ((F_583.1 23 (ni hprP (fun P => 23) (fun P => [P + 2, (P + 2) + 1, (P + 2) + 2, (P + 2) + 3]) rfl) 2).trans (hs_569.trans hi_458))
          have e_590 : μ581.1 23 8 = tt := ((F_583.1 23 (ni hprP (fun P => 23) (fun P => [P + 2, (P + 2) + 1, (P + 2) + 2, (P + 2) + 3]) rfl) 8).trans (hs_573.trans hi_462))
          have hk_591 := hi_469.pr (p := P) hprP
          unfold pk at hk_591
          have hc_592 : 16 ≤ μL440.2.1 (P + 1) ∧ μL440.2.1 (P + 1) ≤ 73024 := hi_469.rm.1 _ hprP.cap
          have e_593 : μ581.1 P 1 = μL440.1 P 1 := ((F_583.1 P (ni hprP (fun P => P) (fun P => [P + 2, (P + 2) + 1, (P + 2) + 2, (P + 2) + 3]) rfl) 1).trans (F_559.1 P (ni hprP (fun P => P) (fun P => [26, 23]) rfl) 1))
          have e_594 : μ581.1 P 1 = μL440.1 P 1 := ((F_583.1 P (ni hprP (fun P => P) (fun P => [P + 2, (P + 2) + 1, (P + 2) + 2, (P + 2) + 3]) rfl) 1).trans (F_559.1 P (ni hprP (fun P => P) (fun P => [26, 23]) rfl) 1))
          have e_595 : μ581.1 P 7 = μ.1 P 7 := ((F_583.1 P (ni hprP (fun P => P) (fun P => [P + 2, (P + 2) + 1, (P + 2) + 2, (P + 2) + 3]) rfl) 7).trans ((F_559.1 P (ni hprP (fun P => P) (fun P => [26, 23]) rfl) 7).trans hi_468))
          refine xc_vV G (b := 23) (rest := []) (As := [.int (iv x1), .int (iv ((c9 * 4) + x2)), .int (iv r_582), .int (iv f9)]) (c_X7_endOfParts ω l μ581 x1 ((c9 * 4) + x2) r_582 f9 μo (e + c9) (1) P tt (by unfold ir; omega) (by unfold ir; omega) (by unfold ir; omega) (by unfold ir; omega) hI_584 (by omega) (by omega) (by omega) hpx_588 (Or.inr ⟨by omega, by omega, by omega⟩) (by omega) (by rcases heo with ⟨q1, q2⟩ | ⟨q1, q2⟩; (rw [q1, ef13 (by omega) hx2b]; omega); (rw [q1, ef14 (by omega) hx2b]; omega))) (wm 4 27 rfl rfl) (wm 4 29 rfl rfl) (wm 0 30 rfl rfl) rfl rfl (by decide) rfl (wm 1 12 rfl rfl) (wm 4 30 rfl rfl) (by decide) hR ⟨nfr hF (by decide), nlo hLo (by decide)⟩ (n := 4) rfl rfl (Nat.le_of_ble_eq_true rfl) hl.1 dX7_arguments_145 (fun μ596 ρ d0 H locs hp G => ?_)
          obtain ⟨F_597, hI_598, hp_599, hs_600, hs_601⟩ := hp
          have hpx_602 : μ596.1 26 11 = 0 → PXE μo μ596 P tt 1 (-1) 1 := fun h0 => PXE.of (hp_599 (by have h9 : μ581.1 26 11 = μ558.1 26 11 := (F_583.1 26 (ni hprP (fun P => 26) (fun P => [P + 2, (P + 2) + 1, (P + 2) + 2, (P + 2) + 3]) rfl) 11); have h8 : μ596.1 26 11 = μ558.1 26 11 := ((F_597.1 26 (ni hprP (fun P => 26) (fun P => [P, P + 1]) rfl) 11).trans (F_583.1 26 (ni hprP (fun P => 26) (fun P => [P + 2, (P + 2) + 1, (P + 2) + 2, (P + 2) + 3]) rfl) 11)); omega))
          clear hp_599
          have htk_603 : TK μ596 := hp_561.fr (K := [P, P + 1, P + 2, (P + 2) + 1, (P + 2) + 2, (P + 2) + 3]) (Fr.tr (Fr.tr Fr.rf F_583 (si hprP (fun P => [P + 2, (P + 2) + 1, (P + 2) + 2, (P + 2) + 3]) (fun P => [P, P + 1, P + 2, (P + 2) + 1, (P + 2) + 2, (P + 2) + 3]) rfl)) F_597 (si hprP (fun P => [P, P + 1]) (fun P => [P, P + 1, P + 2, (P + 2) + 1, (P + 2) + 2, (P + 2) + 3]) rfl)) (ni hprP (fun P => 26) (fun P => [P, P + 1, P + 2, (P + 2) + 1, (P + 2) + 2, (P + 2) + 3]) rfl) (ni hprP (fun P => 28) (fun P => [P, P + 1, P + 2, (P + 2) + 1, (P + 2) + 2, (P + 2) + 3]) rfl)
          have e_604 : μ596.1 26 11 = μ558.1 26 11 := ((F_597.1 26 (ni hprP (fun P => 26) (fun P => [P, P + 1]) rfl) 11).trans (F_583.1 26 (ni hprP (fun P => 26) (fun P => [P + 2, (P + 2) + 1, (P + 2) + 2, (P + 2) + 3]) rfl) 11))
          have e_605 : μ596.1 26 11 = μ558.1 26 11 := ((F_597.1 26 (ni hprP (fun P => 26) (fun P => [P, P + 1]) rfl) 11).trans (F_583.1 26 (ni hprP (fun P => 26) (fun P => [P + 2, (P + 2) + 1, (P + 2) + 2, (P + 2) + 3]) rfl) 11))
          have e_606 : μ596.1 26 10 = μ558.1 26 10 := ((F_597.1 26 (ni hprP (fun P => 26) (fun P => [P, P + 1]) rfl) 10).trans (F_583.1 26 (ni hprP (fun P => 26) (fun P => [P + 2, (P + 2) + 1, (P + 2) + 2, (P + 2) + 3]) rfl) 10))
          have e_607 : μ596.1 P 1 = μ581.1 P 1 + 1 := hs_600
          have e_608 : μ596.1 P 1 = μ581.1 P 1 + 1 := hs_600
          have e_609 : μ596.1 26 10 = μ558.1 26 10 := ((F_597.1 26 (ni hprP (fun P => 26) (fun P => [P, P + 1]) rfl) 10).trans (F_583.1 26 (ni hprP (fun P => 26) (fun P => [P + 2, (P + 2) + 1, (P + 2) + 2, (P + 2) + 3]) rfl) 10))
          have e_610 : μ596.1 26 11 = μ558.1 26 11 := ((F_597.1 26 (ni hprP (fun P => 26) (fun P => [P, P + 1]) rfl) 11).trans (F_583.1 26 (ni hprP (fun P => 26) (fun P => [P + 2, (P + 2) + 1, (P + 2) + 2, (P + 2) + 3]) rfl) 11))
          have e_611 : μ596.1 (P + 2) 3 = μ581.1 (P + 2) 3 := (F_597.1 (P + 2) (ni hprP (fun P => P + 2) (fun P => [P, P + 1]) rfl) 3)
          have e_612 : μ596.1 P 1 = μ581.1 P 1 + 1 := hs_600
          have e_613 : μ596.1 (P + 2) 3 = μ581.1 (P + 2) 3 := (F_597.1 (P + 2) (ni hprP (fun P => P + 2) (fun P => [P, P + 1]) rfl) 3)
          have e_614 : μ596.1 23 2 = P := ((F_597.1 23 (ni hprP (fun P => 23) (fun P => [P, P + 1]) rfl) 2).trans ((F_583.1 23 (ni hprP (fun P => 23) (fun P => [P + 2, (P + 2) + 1, (P + 2) + 2, (P + 2) + 3]) rfl) 2).trans (hs_569.trans hi_458)))
          have e_615 : μ596.1 23 5 = μ.1 23 5 := ((F_597.1 23 (ni hprP (fun P => 23) (fun P => [P, P + 1]) rfl) 5).trans ((F_583.1 23 (ni hprP (fun P => 23) (fun P => [P + 2, (P + 2) + 1, (P + 2) + 2, (P + 2) + 3]) rfl) 5).trans (hs_570.trans hi_459)))
          have e_616 : μ596.1 23 6 = μ.1 23 6 := ((F_597.1 23 (ni hprP (fun P => 23) (fun P => [P, P + 1]) rfl) 6).trans ((F_583.1 23 (ni hprP (fun P => 23) (fun P => [P + 2, (P + 2) + 1, (P + 2) + 2, (P + 2) + 3]) rfl) 6).trans (hs_571.trans hi_460)))
          have e_617 : μ596.1 23 7 = μ.1 23 7 := ((F_597.1 23 (ni hprP (fun P => 23) (fun P => [P, P + 1]) rfl) 7).trans ((F_583.1 23 (ni hprP (fun P => 23) (fun P => [P + 2, (P + 2) + 1, (P + 2) + 2, (P + 2) + 3]) rfl) 7).trans (hs_572.trans hi_461)))
          have e_618 : μ596.1 23 8 = tt := ((F_597.1 23 (ni hprP (fun P => 23) (fun P => [P, P + 1]) rfl) 8).trans ((F_583.1 23 (ni hprP (fun P => 23) (fun P => [P + 2, (P + 2) + 1, (P + 2) + 2, (P + 2) + 3]) rfl) 8).trans (hs_573.trans hi_462)))
          have e_619 : μ596.1 23 9 = μL440.1 23 9 - 1 := ((F_597.1 23 (ni hprP (fun P => 23) (fun P => [P, P + 1]) rfl) 9).trans ((F_583.1 23 (ni hprP (fun P => 23) (fun P => [P + 2, (P + 2) + 1, (P + 2) + 2, (P + 2) + 3]) rfl) 9).trans hs_564))
          have e_620 : μ596.1 23 10 = μ.1 23 10 := ((F_597.1 23 (ni hprP (fun P => 23) (fun P => [P, P + 1]) rfl) 10).trans ((F_583.1 23 (ni hprP (fun P => 23) (fun P => [P + 2, (P + 2) + 1, (P + 2) + 2, (P + 2) + 3]) rfl) 10).trans (hs_574.trans hi_463)))
          have e_621 : μ596.1 26 6 = μ.1 26 6 := ((F_597.1 26 (ni hprP (fun P => 26) (fun P => [P, P + 1]) rfl) 6).trans ((F_583.1 26 (ni hprP (fun P => 26) (fun P => [P + 2, (P + 2) + 1, (P + 2) + 2, (P + 2) + 3]) rfl) 6).trans (hs_565.trans hi_464)))
          have e_622 : μ596.1 P 7 = μ.1 P 7 := (hs_601.trans ((F_583.1 P (ni hprP (fun P => P) (fun P => [P + 2, (P + 2) + 1, (P + 2) + 2, (P + 2) + 3]) rfl) 7).trans ((F_559.1 P (ni hprP (fun P => P) (fun P => [26, 23]) rfl) 7).trans hi_468)))
          exact xr_v G hret hlk dX7_arguments_148 ⟨(Fr.tr (Fr.tr (Fr.tr (Fr.tr (Fr.tr Fr.rf F_11 (si hprP (fun P => [26, 23]) (fun P => [2, 3, 4, 23, 24, 26, P, P + 1, P + 2, (P + 2) + 1, (P + 2) + 2, (P + 2) + 3]) rfl)) FL441 (si hprP (fun P => [2, 3, 4, 23, 24, 26, P, P + 1, P + 2, (P + 2) + 1, (P + 2) + 2, (P + 2) + 3]) (fun P => [2, 3, 4, 23, 24, 26, P, P + 1, P + 2, (P + 2) + 1, (P + 2) + 2, (P + 2) + 3]) rfl)) F_559 (si hprP (fun P => [26, 23]) (fun P => [2, 3, 4, 23, 24, 26, P, P + 1, P + 2, (P + 2) + 1, (P + 2) + 2, (P + 2) + 3]) rfl)) F_583 (si hprP (fun P => [P + 2, (P + 2) + 1, (P + 2) + 2, (P + 2) + 3]) (fun P => [2, 3, 4, 23, 24, 26, P, P + 1, P + 2, (P + 2) + 1, (P + 2) + 2, (P + 2) + 3]) rfl)) F_597 (si hprP (fun P => [P, P + 1]) (fun P => [2, 3, 4, 23, 24, 26, P, P + 1, P + 2, (P + 2) + 1, (P + 2) + 2, (P + 2) + 3]) rfl)), hI_598, htk_603, (by omega), (by omega), (by omega), (by omega), (fun h0 => (PXE.ex (hpx_602 h0)).e (by omega)), (by omega), (by omega), (by omega), (by omega), (by omega), (by omega), (by omega), (by omega), (by omega)⟩
        · refine lv_iload hx hb dX7_arguments_61 (lv_at hl 2 rfl) ?_
          refine lv_bipush (v := iv 8) hx hb dX7_arguments_63 rfl ?_
          refine xb_icmp_lt (tgt := 80) hx hb (by unfold ir; omega) (by unfold ir; omega) dX7_arguments_65 (by decide) (fun c_65 => ?_) (fun c_65 => ?_)
          · refine lv_aload_n hx hb dX7_arguments_80 rfl (lv_at hl 5 rfl) ?_
            refine lv_iconst (v := iv 0) hx hb dX7_arguments_81 rfl ?_
            have e_623 : μL440.1 23 2 = P := hi_458
            have e_624 : μL440.1 23 8 = tt := hi_462
            have hk_625 := hi_469.pr (p := P) hprP
            unfold pk at hk_625
            have hc_626 : 16 ≤ μL440.2.1 (P + 1) ∧ μL440.2.1 (P + 1) ≤ 73024 := hi_469.rm.1 _ hprP.cap
            have hn_627 : -1 ≤ μL440.1 26 10 ∧ μL440.1 26 10 ≤ 3000 := hi_469.nm.2.2.2.2.2.2.2.2.2.2.2.2
            have hk_628 := hi_469.row (r := P + 2) (hprP.row)
            unfold rk at hk_628
            have e_629 : μL440.1 23 2 = P := hi_458
            have e_630 : μL440.1 23 5 = μ.1 23 5 := hi_459
            have e_631 : μL440.1 23 6 = μ.1 23 6 := hi_460
            have e_632 : μL440.1 23 7 = μ.1 23 7 := hi_461
            have e_633 : μL440.1 23 8 = tt := hi_462
            have e_634 : μL440.1 23 10 = μ.1 23 10 := hi_463
            have e_635 : μL440.1 26 6 = μ.1 26 6 := hi_464
            have e_636 : μL440.1 P 7 = μ.1 P 7 := hi_468
            refine xc_vV G (b := 23) (rest := []) (As := [.int (iv 0)]) (((fun (_ : Om) (_ : Launch) => hE)) ω l μL440 0 P tt (by omega) hi_469 (by omega) (by omega) hi_450 (by omega) (by omega) (by omega) (by omega) (by omega)) (wm 4 3 rfl rfl) (wm 4 5 rfl rfl) (wm 0 24 rfl rfl) rfl rfl (by decide) rfl (wm 1 12 rfl rfl) (wm 4 6 rfl rfl) (by decide) hR ⟨sfr (F := F) (a := 0) (by decide), slo (L := Lo) (m := 3) (a := 0) (by decide)⟩ (n := 1) rfl rfl (Nat.le_of_ble_eq_true rfl) hl.1 dX7_arguments_82 (fun μ637 ρ d0 H locs hp G => ?_)
            obtain ⟨F_638, hI_639, hp_640, hp_641, hp_642, hp_643, hp_644, hp_645, hs_646, hs_647, hs_648, hs_649, hs_650, hs_651, hs_652, hs_653, hs_654⟩ := hp
            have hn_655 : -1 ≤ μ637.1 26 10 ∧ μ637.1 26 10 ≤ 3000 := hI_639.nm.2.2.2.2.2.2.2.2.2.2.2.2
            have hk_656 := hI_639.pr (p := P) hprP
            unfold pk at hk_656
            have hc_657 : 16 ≤ μ637.2.1 (P + 1) ∧ μ637.2.1 (P + 1) ≤ 73024 := hI_639.rm.1 _ hprP.cap
            have hk_658 := hI_639.row (r := P + 2) (hprP.row)
            unfold rk at hk_658
            have htb_659 := hp_640.b
            have hpx_660 : μ637.1 26 11 = 0 → PXE μo μ637 P tt ((e + c9) + (1 - 0)) f9 1 := fun h0 => (PXE.app (hi_456 (by have h9 : μL440.1 26 11 = μL440.1 26 11 := rfl; have h8 : μ637.1 26 11 = μ637.1 26 11 := rfl; omega)) (hp_645 h0)).e (by omega)
            refine lv_aload_n hx hb dX7_arguments_85 rfl (lv_at hl 5 rfl) ?_
            refine lv_iload hx hb dX7_arguments_86 (lv_at hl 3 rfl) ?_
            refine lv_iload hx hb dX7_arguments_88 (lv_at hl 4 rfl) ?_
            refine lv_iload hx hb dX7_arguments_90 (lv_at hl 2 rfl) ?_
            refine xb_iadd hx hb dX7_arguments_92 ?_
            have e_661 : μ637.1 23 2 = P := (hs_646.trans hi_458)
            have e_662 : μ637.1 23 8 = tt := (hs_650.trans hi_462)
            have e_663 : μ637.1 P 7 = μ.1 P 7 := (hs_654.trans hi_468)
            refine xc_iV G (b := 23) (rest := []) (As := [.int (iv f9), .int (iv (0 + c9))]) (c_X7_ifFails ω l μ637 f9 (0 + c9) μo ((e + c9) + (1 - 0)) (1) P tt (by unfold ir; omega) (by unfold ir; omega) hI_639 (by omega) (by omega) (by omega) hpx_660 (by omega) (by omega)) (wm 4 23 rfl rfl) (wm 4 25 rfl rfl) (wm 0 29 rfl rfl) rfl rfl (by decide) rfl (wm 1 12 rfl rfl) (wm 4 26 rfl rfl) (by decide) hR ⟨nfr hF (by decide), nlo hLo (by decide)⟩ (n := 2) rfl rfl (Nat.le_of_ble_eq_true rfl) hl.1 dX7_arguments_93 (fun r_665 μ664 ρ d0 H locs hr_r_665 hp G => ?_)
            have hr_r_665 : -2147483648 ≤ r_665 ∧ r_665 ≤ 2147483647 := hr_r_665
            obtain ⟨F_666, hI_667, hp_668, hp_669, hs_670⟩ := hp
            have hk_671 := hI_667.pr (p := P) hprP
            unfold pk at hk_671
            have hc_672 : 16 ≤ μ664.2.1 (P + 1) ∧ μ664.2.1 (P + 1) ≤ 73024 := hI_667.rm.1 _ hprP.cap
            have hpx_673 : μ664.1 26 11 = 0 → PXE μo μ664 P tt ((e + c9) + (1 - 0)) r_665 1 := fun h0 => hp_668 (by have h9 : μ637.1 26 11 = μ637.1 26 11 := rfl; have h8 : μ664.1 26 11 = μ637.1 26 11 := (F_666.1 26 (ni hprP (fun P => 26) (fun P => [P, P + 1]) rfl) 11); omega)
            clear hp_668
            refine lv_istore (lv' := [(7, .int (iv r_665)), (10, .int (iv i9)), (9, .int (iv m9)), (8, .int (iv c9)), (6, .int (iv 0)), (0, .ref (oP ω 23)), (1, .int (iv x1)), (2, .int (iv x2)), (3, .long (jv x3)), (5, .int (iv x4))]) hx hb dX7_arguments_96 hl (by decide) rfl (fun ls hl => ?_)
            refine lv_iinc (v := iv (c9 + 1)) (lv' := [(8, .int (iv (c9 + 1))), (7, .int (iv r_665)), (10, .int (iv i9)), (9, .int (iv m9)), (6, .int (iv 0)), (0, .ref (oP ω 23)), (1, .int (iv x1)), (2, .int (iv x2)), (3, .long (jv x3)), (5, .int (iv x4))]) hx hb dX7_arguments_98 hl (k := 3) rfl (by rw [show Int32.ofInt 1 = iv 1 from rfl, iv_add]) (by decide) rfl (fun ls hl => ?_)
            refine lv_aload_n hx hb dX7_arguments_101 rfl (lv_at hl 5 rfl) ?_
            refine lv_bipush (v := iv 44) hx hb dX7_arguments_102 rfl ?_
            have htk_674 : TK μ664 := hp_640.fr (K := [P, P + 1]) (Fr.tr Fr.rf F_666 (si hprP (fun P => [P, P + 1]) (fun P => [P, P + 1]) rfl)) (ni hprP (fun P => 26) (fun P => [P, P + 1]) rfl) (ni hprP (fun P => 28) (fun P => [P, P + 1]) rfl)
            have e_675 : μ664.1 26 12 = μ637.1 26 12 := (F_666.1 26 (ni hprP (fun P => 26) (fun P => [P, P + 1]) rfl) 12)
            have e_676 : μ664.1 26 10 = μ637.1 26 10 := (F_666.1 26 (ni hprP (fun P => 26) (fun P => [P, P + 1]) rfl) 10)
            have e_677 : μ664.1 26 11 = μ637.1 26 11 := (F_666.1 26 (ni hprP (fun P => 26) (fun P => [P, P + 1]) rfl) 11)
            have e_678 : μ664.1 26 12 = μ637.1 26 12 := (F_666.1 26 (ni hprP (fun P => 26) (fun P => [P, P + 1]) rfl) 12)
            have e_679 : μ664.1 26 10 = μ637.1 26 10 := (F_666.1 26 (ni hprP (fun P => 26) (fun P => [P, P + 1]) rfl) 10)
            have e_680 : μ664.1 26 12 = μ637.1 26 12 := (F_666.1 26 (ni hprP (fun P => 26) (fun P => [P, P + 1]) rfl) 12)
            have e_681 : μ664.1 26 11 = μ637.1 26 11 := (F_666.1 26 (ni hprP (fun P => 26) (fun P => [P, P + 1]) rfl) 11)
            have e_682 : μ664.1 26 6 = μ.1 26 6 := ((F_666.1 26 (ni hprP (fun P => 26) (fun P => [P, P + 1]) rfl) 6).trans (hs_653.trans hi_464))
            have hn_683 : 0 ≤ μ637.1 26 7 ∧ μ637.1 26 7 ≤ 3000 := hI_639.nm.2.2.2.2.2.2.2.2.2.2.1
            have e_684 : μ664.1 26 7 = μ637.1 26 7 := (F_666.1 26 (ni hprP (fun P => 26) (fun P => [P, P + 1]) rfl) 7)
            have e_685 : μ664.1 26 8 = μ637.1 26 8 := (F_666.1 26 (ni hprP (fun P => 26) (fun P => [P, P + 1]) rfl) 8)
            have hn_686 : 0 ≤ μ637.1 26 9 ∧ μ637.1 26 9 ≤ 3000 := hI_639.nm.2.2.2.2.2.2.2.2.2.2.2.1
            have e_687 : μ664.1 26 9 = μ637.1 26 9 := (F_666.1 26 (ni hprP (fun P => 26) (fun P => [P, P + 1]) rfl) 9)
            refine xc_iV G (b := 23) (rest := []) (As := [.int (iv 44)]) (c_X7_took ω l μ664 44 (by unfold ir; omega) hI_667 htk_674 (by omega)) (wm 3 160 rfl rfl) (wm 3 162 rfl rfl) (wm 0 9 rfl rfl) rfl rfl (by decide) rfl (wm 1 12 rfl rfl) (wm 3 163 rfl rfl) (by decide) hR ⟨nfr hF (by decide), nlo hLo (by decide)⟩ (n := 1) rfl rfl (Nat.le_of_ble_eq_true rfl) hl.1 dX7_arguments_104 (fun r_689 μ688 ρ d0 H locs hr_r_689 hp G => ?_)
            have hr_r_689 : -2147483648 ≤ r_689 ∧ r_689 ≤ 2147483647 := hr_r_689
            obtain ⟨F_690, hI_691, hp_692, hp_693, hs_694, hs_695, hs_696, hs_697, hs_698⟩ := hp
            have hn_699 : -1 ≤ μ688.1 26 10 ∧ μ688.1 26 10 ≤ 3000 := hI_691.nm.2.2.2.2.2.2.2.2.2.2.2.2
            have htb_700 := hp_692.b
            refine lv_istore (lv' := [(9, .int (iv r_689)), (8, .int (iv (c9 + 1))), (7, .int (iv r_665)), (10, .int (iv i9)), (6, .int (iv 0)), (0, .ref (oP ω 23)), (1, .int (iv x1)), (2, .int (iv x2)), (3, .long (jv x3)), (5, .int (iv x4))]) hx hb dX7_arguments_107 hl (by decide) rfl (fun ls hl => ?_)
            refine lv_iinc (v := iv (i9 + 1)) (lv' := [(10, .int (iv (i9 + 1))), (9, .int (iv r_689)), (8, .int (iv (c9 + 1))), (7, .int (iv r_665)), (6, .int (iv 0)), (0, .ref (oP ω 23)), (1, .int (iv x1)), (2, .int (iv x2)), (3, .long (jv x3)), (5, .int (iv x4))]) hx hb dX7_arguments_109 hl (k := 3) rfl (by rw [show Int32.ofInt 1 = iv 1 from rfl, iv_add]) (by decide) rfl (fun ls hl => ?_)
            refine lv_goto (tgt := 48) hx hb dX7_arguments_112 (by decide) ?_
            have e_701 : μ688.1 26 11 = μ637.1 26 11 := (hs_694.trans (F_666.1 26 (ni hprP (fun P => 26) (fun P => [P, P + 1]) rfl) 11))
            have e_702 : μ688.1 P 1 = μ664.1 P 1 := (F_690.1 P (ni hprP (fun P => P) (fun P => [26]) rfl) 1)
            have e_703 : μ688.1 P 1 = μ664.1 P 1 := (F_690.1 P (ni hprP (fun P => P) (fun P => [26]) rfl) 1)
            have e_704 : μ688.1 26 11 = μ637.1 26 11 := (hs_694.trans (F_666.1 26 (ni hprP (fun P => 26) (fun P => [P, P + 1]) rfl) 11))
            have e_705 : μ688.1 P 1 = μ664.1 P 1 := (F_690.1 P (ni hprP (fun P => P) (fun P => [26]) rfl) 1)
            have e_706 : μ688.1 (P + 2) 3 = μ637.1 (P + 2) 3 := ((F_690.1 (P + 2) (ni hprP (fun P => P + 2) (fun P => [26]) rfl) 3).trans (F_666.1 (P + 2) (ni hprP (fun P => P + 2) (fun P => [P, P + 1]) rfl) 3))
            have e_707 : μ688.1 P 1 = μ664.1 P 1 := (F_690.1 P (ni hprP (fun P => P) (fun P => [26]) rfl) 1)
            have e_708 : μ688.1 (P + 2) 3 = μ637.1 (P + 2) 3 := ((F_690.1 (P + 2) (ni hprP (fun P => P + 2) (fun P => [26]) rfl) 3).trans (F_666.1 (P + 2) (ni hprP (fun P => P + 2) (fun P => [P, P + 1]) rfl) 3))
            have hpx_709 : μ688.1 26 11 = 0 → PXE μo μ688 P tt ((e + c9) + (1 - 0)) r_665 1 := fun h0 => (hpx_673 (by have h9 : μ664.1 26 11 = μ637.1 26 11 := (F_666.1 26 (ni hprP (fun P => 26) (fun P => [P, P + 1]) rfl) 11); have h8 : μ688.1 26 11 = μ637.1 26 11 := (hs_694.trans (F_666.1 26 (ni hprP (fun P => 26) (fun P => [P, P + 1]) rfl) 11)); omega)).fr (K := [26]) (Fr.tr Fr.rf F_690 (by decide)) (npL_p (L := [26]) (by decide) hprP).1 (npL_p (L := [26]) (by decide) hprP).2.1
            have e_710 : μ688.1 2 4 = μ637.1 2 4 := ((F_690.1 2 (by decide) 4).trans (F_666.1 2 (ni hprP (fun P => 2) (fun P => [P, P + 1]) rfl) 4))
            have e_711 : μ688.1 26 7 = μ637.1 26 7 := (hs_696.trans (F_666.1 26 (ni hprP (fun P => 26) (fun P => [P, P + 1]) rfl) 7))
            have e_712 : μ688.1 26 8 = μ637.1 26 8 := (hs_697.trans (F_666.1 26 (ni hprP (fun P => 26) (fun P => [P, P + 1]) rfl) 8))
            have e_713 : μ688.1 26 9 = μ637.1 26 9 := (hs_698.trans (F_666.1 26 (ni hprP (fun P => 26) (fun P => [P, P + 1]) rfl) 9))
            exact ih _ _ _ _ _ _ _ (by omega) ⟨r_665, c9 + 1, r_689, i9 + 1, (Fr.tr (Fr.tr (Fr.tr FL441 F_638 (si hprP (fun P => [2, 3, 4, 23, 24, 26, P, P + 1, P + 2, (P + 2) + 1, (P + 2) + 2, (P + 2) + 3]) (fun P => [2, 3, 4, 23, 24, 26, P, P + 1, P + 2, (P + 2) + 1, (P + 2) + 2, (P + 2) + 3]) rfl)) F_666 (si hprP (fun P => [P, P + 1]) (fun P => [2, 3, 4, 23, 24, 26, P, P + 1, P + 2, (P + 2) + 1, (P + 2) + 2, (P + 2) + 3]) rfl)) F_690 (si hprP (fun P => [26]) (fun P => [2, 3, 4, 23, 24, 26, P, P + 1, P + 2, (P + 2) + 1, (P + 2) + 2, (P + 2) + 3]) rfl)), (by omega), (by omega), (by omega), (by omega), (by omega), (by omega), (by omega), hp_692, (by omega), (by omega), (by omega), (by omega), (by omega), (fun h0 => (hpx_709 h0).e (by omega)), (by omega), ((F_690.1 23 (by decide) 2).trans ((F_666.1 23 (ni hprP (fun P => 23) (fun P => [P, P + 1]) rfl) 2).trans (hs_646.trans hi_458))), ((F_690.1 23 (by decide) 5).trans ((F_666.1 23 (ni hprP (fun P => 23) (fun P => [P, P + 1]) rfl) 5).trans (hs_647.trans hi_459))), ((F_690.1 23 (by decide) 6).trans ((F_666.1 23 (ni hprP (fun P => 23) (fun P => [P, P + 1]) rfl) 6).trans (hs_648.trans hi_460))), ((F_690.1 23 (by decide) 7).trans ((F_666.1 23 (ni hprP (fun P => 23) (fun P => [P, P + 1]) rfl) 7).trans (hs_649.trans hi_461))), ((F_690.1 23 (by decide) 8).trans ((F_666.1 23 (ni hprP (fun P => 23) (fun P => [P, P + 1]) rfl) 8).trans (hs_650.trans hi_462))), ((F_690.1 23 (by decide) 10).trans ((F_666.1 23 (ni hprP (fun P => 23) (fun P => [P, P + 1]) rfl) 10).trans (hs_652.trans hi_463))), (hs_695.trans ((F_666.1 26 (ni hprP (fun P => 26) (fun P => [P, P + 1]) rfl) 6).trans (hs_653.trans hi_464))), (by omega), (by omega), (by omega), ((F_690.1 P (ni hprP (fun P => P) (fun P => [26]) rfl) 7).trans (hs_670.trans (hs_654.trans hi_468))), hI_691, rfl, lv_sub hl [0, 1, 2, 3, 4, 5, 6, 7, 8, 9] rfl⟩ G
          · refine lv_aload_n hx hb dX7_arguments_68 rfl (lv_at hl 5 rfl) ?_
            refine lv_iconst (v := iv 2) hx hb dX7_arguments_69 rfl ?_
            refine lv_aload_n hx hb dX7_arguments_70 rfl (lv_at hl 5 rfl) ?_
            refine xa_getr G fd_X7 (a := 23) (x := 26) 0 rfl (by decide) rfl (wm 2 17 rfl rfl) ⟨rfl, rfl, rfl⟩ dX7_arguments_71 rfl (G.sk 23 rfl) (by decide) rfl ?_
            refine xa_getN G fd_X10 (host := "FourTongues") (a := 26) 13 rfl (by decide) (by decide) ⟨rfl, rfl, rfl⟩ dX7_arguments_74 rfl (v := .int (iv (μL440.1 26 13))) (by rw [show μL440.1 26 13 = μL440.1 26 13 from rfl]; rfl) ?_
            have hr_714 : -2147483648 ≤ μL440.1 26 13 ∧ μL440.1 26 13 ≤ 2147483647 := by have h9 := G.hr (a := 26) (k := 13) rfl; exact h9
            refine xc_vV G (b := 23) (rest := []) (As := [.int (iv 2), .int (iv (μL440.1 26 13))]) (c_X7_tellFault ω l μL440 2 (μL440.1 26 13) (by unfold ir; omega) (by unfold ir; omega) hi_469 (by omega)) (wm 3 177 rfl rfl) (wm 3 179 rfl rfl) (wm 0 12 rfl rfl) rfl rfl (by decide) rfl (wm 1 12 rfl rfl) (wm 3 180 rfl rfl) (by decide) hR ⟨nfr hF (by decide), nlo hLo (by decide)⟩ (n := 2) rfl rfl (Nat.le_of_ble_eq_true rfl) hl.1 dX7_arguments_77 (fun μ715 ρ d0 H locs hp G => ?_)
            obtain ⟨F_716, hI_717⟩ := hp
            refine lv_aload_n hx hb dX7_arguments_80 rfl (lv_at hl 5 rfl) ?_
            refine lv_iconst (v := iv 0) hx hb dX7_arguments_81 rfl ?_
            have hpx_718 : μ715.1 26 11 = 0 → PXE μo μ715 P tt (e + c9) f9 1 := fun h0 => (hi_456 (by have h9 : μL440.1 26 11 = μL440.1 26 11 := rfl; have h8 : μ715.1 26 11 = μL440.1 26 11 := (F_716.1 26 (by decide) 11); omega)).fr (K := [24]) (Fr.tr Fr.rf F_716 (by decide)) (npL_p (L := [24]) (by decide) hprP).1 (npL_p (L := [24]) (by decide) hprP).2.1
            have e_719 : μ715.1 23 2 = P := ((F_716.1 23 (by decide) 2).trans hi_458)
            have e_720 : μ715.1 23 8 = tt := ((F_716.1 23 (by decide) 8).trans hi_462)
            have htk_721 : TK μ715 := hi_450.fr (K := [24]) (Fr.tr Fr.rf F_716 (by decide)) (by decide) (by decide)
            have hk_722 := hi_469.pr (p := P) hprP
            unfold pk at hk_722
            have hc_723 : 16 ≤ μL440.2.1 (P + 1) ∧ μL440.2.1 (P + 1) ≤ 73024 := hi_469.rm.1 _ hprP.cap
            have e_724 : μ715.1 P 1 = μL440.1 P 1 := (F_716.1 P (ni hprP (fun P => P) (fun P => [24]) rfl) 1)
            have hn_725 : -1 ≤ μL440.1 26 10 ∧ μL440.1 26 10 ≤ 3000 := hi_469.nm.2.2.2.2.2.2.2.2.2.2.2.2
            have e_726 : μ715.1 26 10 = μL440.1 26 10 := (F_716.1 26 (by decide) 10)
            have e_727 : μ715.1 26 11 = μL440.1 26 11 := (F_716.1 26 (by decide) 11)
            have hk_728 := hi_469.row (r := P + 2) (hprP.row)
            unfold rk at hk_728
            have e_729 : μ715.1 (P + 2) 3 = μL440.1 (P + 2) 3 := (F_716.1 (P + 2) (ni hprP (fun P => P + 2) (fun P => [24]) rfl) 3)
            have e_730 : μ715.1 P 1 = μL440.1 P 1 := (F_716.1 P (ni hprP (fun P => P) (fun P => [24]) rfl) 1)
            have e_731 : μ715.1 23 9 = μL440.1 23 9 := (F_716.1 23 (by decide) 9)
            have e_732 : μ715.1 23 9 = μL440.1 23 9 := (F_716.1 23 (by decide) 9)
            have e_733 : μ715.1 26 11 = μL440.1 26 11 := (F_716.1 26 (by decide) 11)
            have e_734 : μ715.1 26 11 = μL440.1 26 11 := (F_716.1 26 (by decide) 11)
            have e_735 : μ715.1 23 9 = μL440.1 23 9 := (F_716.1 23 (by decide) 9)
            have e_736 : μ715.1 26 11 = μL440.1 26 11 := (F_716.1 26 (by decide) 11)
            have e_737 : μ715.1 P 1 = μL440.1 P 1 := (F_716.1 P (ni hprP (fun P => P) (fun P => [24]) rfl) 1)
            have e_738 : μ715.1 26 11 = μL440.1 26 11 := (F_716.1 26 (by decide) 11)
            have e_739 : μ715.1 26 10 = μL440.1 26 10 := (F_716.1 26 (by decide) 10)
            have e_740 : μ715.1 P 1 = μL440.1 P 1 := (F_716.1 P (ni hprP (fun P => P) (fun P => [24]) rfl) 1)
            have e_741 : μ715.1 P 1 = μL440.1 P 1 := (F_716.1 P (ni hprP (fun P => P) (fun P => [24]) rfl) 1)
            have e_742 : μ715.1 26 10 = μL440.1 26 10 := (F_716.1 26 (by decide) 10)
            have e_743 : μ715.1 26 11 = μL440.1 26 11 := (F_716.1 26 (by decide) 11)
            have e_744 : μ715.1 (P + 2) 3 = μL440.1 (P + 2) 3 := (F_716.1 (P + 2) (ni hprP (fun P => P + 2) (fun P => [24]) rfl) 3)
            have e_745 : μ715.1 P 1 = μL440.1 P 1 := (F_716.1 P (ni hprP (fun P => P) (fun P => [24]) rfl) 1)
            have e_746 : μ715.1 (P + 2) 3 = μL440.1 (P + 2) 3 := (F_716.1 (P + 2) (ni hprP (fun P => P + 2) (fun P => [24]) rfl) 3)
            have e_747 : μ715.1 23 2 = P := ((F_716.1 23 (by decide) 2).trans hi_458)
            have e_748 : μ715.1 23 5 = μ.1 23 5 := ((F_716.1 23 (by decide) 5).trans hi_459)
            have e_749 : μ715.1 23 6 = μ.1 23 6 := ((F_716.1 23 (by decide) 6).trans hi_460)
            have e_750 : μ715.1 23 7 = μ.1 23 7 := ((F_716.1 23 (by decide) 7).trans hi_461)
            have e_751 : μ715.1 23 8 = tt := ((F_716.1 23 (by decide) 8).trans hi_462)
            have e_752 : μ715.1 23 9 = μL440.1 23 9 := (F_716.1 23 (by decide) 9)
            have e_753 : μ715.1 23 10 = μ.1 23 10 := ((F_716.1 23 (by decide) 10).trans hi_463)
            have e_754 : μ715.1 26 6 = μ.1 26 6 := ((F_716.1 26 (by decide) 6).trans hi_464)
            have e_755 : μ715.1 P 7 = μ.1 P 7 := ((F_716.1 P (ni hprP (fun P => P) (fun P => [24]) rfl) 7).trans hi_468)
            refine xc_vV G (b := 23) (rest := []) (As := [.int (iv 0)]) (((fun (_ : Om) (_ : Launch) => hE)) ω l μ715 0 P tt (by omega) hI_717 (by omega) (by omega) htk_721 (by omega) (by omega) (by omega) (by omega) (by omega)) (wm 4 3 rfl rfl) (wm 4 5 rfl rfl) (wm 0 24 rfl rfl) rfl rfl (by decide) rfl (wm 1 12 rfl rfl) (wm 4 6 rfl rfl) (by decide) hR ⟨sfr (F := F) (a := 0) (by decide), slo (L := Lo) (m := 3) (a := 0) (by decide)⟩ (n := 1) rfl rfl (Nat.le_of_ble_eq_true rfl) hl.1 dX7_arguments_82 (fun μ756 ρ d0 H locs hp G => ?_)
            obtain ⟨F_757, hI_758, hp_759, hp_760, hp_761, hp_762, hp_763, hp_764, hs_765, hs_766, hs_767, hs_768, hs_769, hs_770, hs_771, hs_772, hs_773⟩ := hp
            have hn_774 : -1 ≤ μ756.1 26 10 ∧ μ756.1 26 10 ≤ 3000 := hI_758.nm.2.2.2.2.2.2.2.2.2.2.2.2
            have hk_775 := hI_758.pr (p := P) hprP
            unfold pk at hk_775
            have hc_776 : 16 ≤ μ756.2.1 (P + 1) ∧ μ756.2.1 (P + 1) ≤ 73024 := hI_758.rm.1 _ hprP.cap
            have hk_777 := hI_758.row (r := P + 2) (hprP.row)
            unfold rk at hk_777
            have htb_778 := hp_759.b
            have hpx_779 : μ756.1 26 11 = 0 → PXE μo μ756 P tt ((e + c9) + (1 - 0)) f9 1 := fun h0 => (PXE.app (hpx_718 (by have h9 : μ715.1 26 11 = μL440.1 26 11 := (F_716.1 26 (by decide) 11); have h8 : μ756.1 26 11 = μ756.1 26 11 := rfl; omega)) (hp_764 h0)).e (by omega)
            refine lv_aload_n hx hb dX7_arguments_85 rfl (lv_at hl 5 rfl) ?_
            refine lv_iload hx hb dX7_arguments_86 (lv_at hl 3 rfl) ?_
            refine lv_iload hx hb dX7_arguments_88 (lv_at hl 4 rfl) ?_
            refine lv_iload hx hb dX7_arguments_90 (lv_at hl 2 rfl) ?_
            refine xb_iadd hx hb dX7_arguments_92 ?_
            have e_780 : μ756.1 23 2 = P := (hs_765.trans ((F_716.1 23 (by decide) 2).trans hi_458))
            have e_781 : μ756.1 23 8 = tt := (hs_769.trans ((F_716.1 23 (by decide) 8).trans hi_462))
            have e_782 : μ756.1 P 7 = μ.1 P 7 := (hs_773.trans ((F_716.1 P (ni hprP (fun P => P) (fun P => [24]) rfl) 7).trans hi_468))
            refine xc_iV G (b := 23) (rest := []) (As := [.int (iv f9), .int (iv (0 + c9))]) (c_X7_ifFails ω l μ756 f9 (0 + c9) μo ((e + c9) + (1 - 0)) (1) P tt (by unfold ir; omega) (by unfold ir; omega) hI_758 (by omega) (by omega) (by omega) hpx_779 (by omega) (by omega)) (wm 4 23 rfl rfl) (wm 4 25 rfl rfl) (wm 0 29 rfl rfl) rfl rfl (by decide) rfl (wm 1 12 rfl rfl) (wm 4 26 rfl rfl) (by decide) hR ⟨nfr hF (by decide), nlo hLo (by decide)⟩ (n := 2) rfl rfl (Nat.le_of_ble_eq_true rfl) hl.1 dX7_arguments_93 (fun r_784 μ783 ρ d0 H locs hr_r_784 hp G => ?_)
            have hr_r_784 : -2147483648 ≤ r_784 ∧ r_784 ≤ 2147483647 := hr_r_784
            obtain ⟨F_785, hI_786, hp_787, hp_788, hs_789⟩ := hp
            have hk_790 := hI_786.pr (p := P) hprP
            unfold pk at hk_790
            have hc_791 : 16 ≤ μ783.2.1 (P + 1) ∧ μ783.2.1 (P + 1) ≤ 73024 := hI_786.rm.1 _ hprP.cap
            have hpx_792 : μ783.1 26 11 = 0 → PXE μo μ783 P tt ((e + c9) + (1 - 0)) r_784 1 := fun h0 => hp_787 (by have h9 : μ756.1 26 11 = μ756.1 26 11 := rfl; have h8 : μ783.1 26 11 = μ756.1 26 11 := (F_785.1 26 (ni hprP (fun P => 26) (fun P => [P, P + 1]) rfl) 11); omega)
            clear hp_787
            refine lv_istore (lv' := [(7, .int (iv r_784)), (10, .int (iv i9)), (9, .int (iv m9)), (8, .int (iv c9)), (6, .int (iv 0)), (0, .ref (oP ω 23)), (1, .int (iv x1)), (2, .int (iv x2)), (3, .long (jv x3)), (5, .int (iv x4))]) hx hb dX7_arguments_96 hl (by decide) rfl (fun ls hl => ?_)
            refine lv_iinc (v := iv (c9 + 1)) (lv' := [(8, .int (iv (c9 + 1))), (7, .int (iv r_784)), (10, .int (iv i9)), (9, .int (iv m9)), (6, .int (iv 0)), (0, .ref (oP ω 23)), (1, .int (iv x1)), (2, .int (iv x2)), (3, .long (jv x3)), (5, .int (iv x4))]) hx hb dX7_arguments_98 hl (k := 3) rfl (by rw [show Int32.ofInt 1 = iv 1 from rfl, iv_add]) (by decide) rfl (fun ls hl => ?_)
            refine lv_aload_n hx hb dX7_arguments_101 rfl (lv_at hl 5 rfl) ?_
            refine lv_bipush (v := iv 44) hx hb dX7_arguments_102 rfl ?_
            have htk_793 : TK μ783 := hp_759.fr (K := [P, P + 1]) (Fr.tr Fr.rf F_785 (si hprP (fun P => [P, P + 1]) (fun P => [P, P + 1]) rfl)) (ni hprP (fun P => 26) (fun P => [P, P + 1]) rfl) (ni hprP (fun P => 28) (fun P => [P, P + 1]) rfl)
            have e_794 : μ783.1 26 12 = μ756.1 26 12 := (F_785.1 26 (ni hprP (fun P => 26) (fun P => [P, P + 1]) rfl) 12)
            have e_795 : μ783.1 26 10 = μ756.1 26 10 := (F_785.1 26 (ni hprP (fun P => 26) (fun P => [P, P + 1]) rfl) 10)
            have e_796 : μ783.1 26 11 = μ756.1 26 11 := (F_785.1 26 (ni hprP (fun P => 26) (fun P => [P, P + 1]) rfl) 11)
            have e_797 : μ783.1 26 12 = μ756.1 26 12 := (F_785.1 26 (ni hprP (fun P => 26) (fun P => [P, P + 1]) rfl) 12)
            have e_798 : μ783.1 26 10 = μ756.1 26 10 := (F_785.1 26 (ni hprP (fun P => 26) (fun P => [P, P + 1]) rfl) 10)
            have e_799 : μ783.1 26 12 = μ756.1 26 12 := (F_785.1 26 (ni hprP (fun P => 26) (fun P => [P, P + 1]) rfl) 12)
            have e_800 : μ783.1 26 11 = μ756.1 26 11 := (F_785.1 26 (ni hprP (fun P => 26) (fun P => [P, P + 1]) rfl) 11)
            have e_801 : μ783.1 26 6 = μ.1 26 6 := ((F_785.1 26 (ni hprP (fun P => 26) (fun P => [P, P + 1]) rfl) 6).trans (hs_772.trans ((F_716.1 26 (by decide) 6).trans hi_464)))
            have hn_802 : 0 ≤ μ756.1 26 7 ∧ μ756.1 26 7 ≤ 3000 := hI_758.nm.2.2.2.2.2.2.2.2.2.2.1
            have e_803 : μ783.1 26 7 = μ756.1 26 7 := (F_785.1 26 (ni hprP (fun P => 26) (fun P => [P, P + 1]) rfl) 7)
            have e_804 : μ783.1 26 8 = μ756.1 26 8 := (F_785.1 26 (ni hprP (fun P => 26) (fun P => [P, P + 1]) rfl) 8)
            have hn_805 : 0 ≤ μ756.1 26 9 ∧ μ756.1 26 9 ≤ 3000 := hI_758.nm.2.2.2.2.2.2.2.2.2.2.2.1
            have e_806 : μ783.1 26 9 = μ756.1 26 9 := (F_785.1 26 (ni hprP (fun P => 26) (fun P => [P, P + 1]) rfl) 9)
            refine xc_iV G (b := 23) (rest := []) (As := [.int (iv 44)]) (c_X7_took ω l μ783 44 (by unfold ir; omega) hI_786 htk_793 (by omega)) (wm 3 160 rfl rfl) (wm 3 162 rfl rfl) (wm 0 9 rfl rfl) rfl rfl (by decide) rfl (wm 1 12 rfl rfl) (wm 3 163 rfl rfl) (by decide) hR ⟨nfr hF (by decide), nlo hLo (by decide)⟩ (n := 1) rfl rfl (Nat.le_of_ble_eq_true rfl) hl.1 dX7_arguments_104 (fun r_808 μ807 ρ d0 H locs hr_r_808 hp G => ?_)
            have hr_r_808 : -2147483648 ≤ r_808 ∧ r_808 ≤ 2147483647 := hr_r_808
            obtain ⟨F_809, hI_810, hp_811, hp_812, hs_813, hs_814, hs_815, hs_816, hs_817⟩ := hp
            have hn_818 : -1 ≤ μ807.1 26 10 ∧ μ807.1 26 10 ≤ 3000 := hI_810.nm.2.2.2.2.2.2.2.2.2.2.2.2
            have htb_819 := hp_811.b
            refine lv_istore (lv' := [(9, .int (iv r_808)), (8, .int (iv (c9 + 1))), (7, .int (iv r_784)), (10, .int (iv i9)), (6, .int (iv 0)), (0, .ref (oP ω 23)), (1, .int (iv x1)), (2, .int (iv x2)), (3, .long (jv x3)), (5, .int (iv x4))]) hx hb dX7_arguments_107 hl (by decide) rfl (fun ls hl => ?_)
            refine lv_iinc (v := iv (i9 + 1)) (lv' := [(10, .int (iv (i9 + 1))), (9, .int (iv r_808)), (8, .int (iv (c9 + 1))), (7, .int (iv r_784)), (6, .int (iv 0)), (0, .ref (oP ω 23)), (1, .int (iv x1)), (2, .int (iv x2)), (3, .long (jv x3)), (5, .int (iv x4))]) hx hb dX7_arguments_109 hl (k := 3) rfl (by rw [show Int32.ofInt 1 = iv 1 from rfl, iv_add]) (by decide) rfl (fun ls hl => ?_)
            refine lv_goto (tgt := 48) hx hb dX7_arguments_112 (by decide) ?_
            have e_820 : μ807.1 26 11 = μ756.1 26 11 := (hs_813.trans (F_785.1 26 (ni hprP (fun P => 26) (fun P => [P, P + 1]) rfl) 11))
            have e_821 : μ807.1 P 1 = μ783.1 P 1 := (F_809.1 P (ni hprP (fun P => P) (fun P => [26]) rfl) 1)
            have e_822 : μ807.1 P 1 = μ783.1 P 1 := (F_809.1 P (ni hprP (fun P => P) (fun P => [26]) rfl) 1)
            have e_823 : μ807.1 26 11 = μ756.1 26 11 := (hs_813.trans (F_785.1 26 (ni hprP (fun P => 26) (fun P => [P, P + 1]) rfl) 11))
            have e_824 : μ807.1 P 1 = μ783.1 P 1 := (F_809.1 P (ni hprP (fun P => P) (fun P => [26]) rfl) 1)
            have e_825 : μ807.1 (P + 2) 3 = μ756.1 (P + 2) 3 := ((F_809.1 (P + 2) (ni hprP (fun P => P + 2) (fun P => [26]) rfl) 3).trans (F_785.1 (P + 2) (ni hprP (fun P => P + 2) (fun P => [P, P + 1]) rfl) 3))
            have e_826 : μ807.1 P 1 = μ783.1 P 1 := (F_809.1 P (ni hprP (fun P => P) (fun P => [26]) rfl) 1)
            have e_827 : μ807.1 (P + 2) 3 = μ756.1 (P + 2) 3 := ((F_809.1 (P + 2) (ni hprP (fun P => P + 2) (fun P => [26]) rfl) 3).trans (F_785.1 (P + 2) (ni hprP (fun P => P + 2) (fun P => [P, P + 1]) rfl) 3))
            have hpx_828 : μ807.1 26 11 = 0 → PXE μo μ807 P tt ((e + c9) + (1 - 0)) r_784 1 := fun h0 => (hpx_792 (by have h9 : μ783.1 26 11 = μ756.1 26 11 := (F_785.1 26 (ni hprP (fun P => 26) (fun P => [P, P + 1]) rfl) 11); have h8 : μ807.1 26 11 = μ756.1 26 11 := (hs_813.trans (F_785.1 26 (ni hprP (fun P => 26) (fun P => [P, P + 1]) rfl) 11)); omega)).fr (K := [26]) (Fr.tr Fr.rf F_809 (by decide)) (npL_p (L := [26]) (by decide) hprP).1 (npL_p (L := [26]) (by decide) hprP).2.1
            have e_829 : μ807.1 2 4 = μ756.1 2 4 := ((F_809.1 2 (by decide) 4).trans (F_785.1 2 (ni hprP (fun P => 2) (fun P => [P, P + 1]) rfl) 4))
            have e_830 : μ807.1 26 7 = μ756.1 26 7 := (hs_815.trans (F_785.1 26 (ni hprP (fun P => 26) (fun P => [P, P + 1]) rfl) 7))
            have e_831 : μ807.1 26 8 = μ756.1 26 8 := (hs_816.trans (F_785.1 26 (ni hprP (fun P => 26) (fun P => [P, P + 1]) rfl) 8))
            have e_832 : μ807.1 26 9 = μ756.1 26 9 := (hs_817.trans (F_785.1 26 (ni hprP (fun P => 26) (fun P => [P, P + 1]) rfl) 9))
            exact ih _ _ _ _ _ _ _ (by omega) ⟨r_784, c9 + 1, r_808, i9 + 1, (Fr.tr (Fr.tr (Fr.tr (Fr.tr FL441 F_716 (si hprP (fun P => [24]) (fun P => [2, 3, 4, 23, 24, 26, P, P + 1, P + 2, (P + 2) + 1, (P + 2) + 2, (P + 2) + 3]) rfl)) F_757 (si hprP (fun P => [2, 3, 4, 23, 24, 26, P, P + 1, P + 2, (P + 2) + 1, (P + 2) + 2, (P + 2) + 3]) (fun P => [2, 3, 4, 23, 24, 26, P, P + 1, P + 2, (P + 2) + 1, (P + 2) + 2, (P + 2) + 3]) rfl)) F_785 (si hprP (fun P => [P, P + 1]) (fun P => [2, 3, 4, 23, 24, 26, P, P + 1, P + 2, (P + 2) + 1, (P + 2) + 2, (P + 2) + 3]) rfl)) F_809 (si hprP (fun P => [26]) (fun P => [2, 3, 4, 23, 24, 26, P, P + 1, P + 2, (P + 2) + 1, (P + 2) + 2, (P + 2) + 3]) rfl)), (by omega), (by omega), (by omega), (by omega), (by omega), (by omega), (by omega), hp_811, (by omega), (by omega), (by omega), (by omega), (by omega), (fun h0 => (hpx_828 h0).e (by omega)), (by omega), ((F_809.1 23 (by decide) 2).trans ((F_785.1 23 (ni hprP (fun P => 23) (fun P => [P, P + 1]) rfl) 2).trans (hs_765.trans ((F_716.1 23 (by decide) 2).trans hi_458)))), ((F_809.1 23 (by decide) 5).trans ((F_785.1 23 (ni hprP (fun P => 23) (fun P => [P, P + 1]) rfl) 5).trans (hs_766.trans ((F_716.1 23 (by decide) 5).trans hi_459)))), ((F_809.1 23 (by decide) 6).trans ((F_785.1 23 (ni hprP (fun P => 23) (fun P => [P, P + 1]) rfl) 6).trans (hs_767.trans ((F_716.1 23 (by decide) 6).trans hi_460)))), ((F_809.1 23 (by decide) 7).trans ((F_785.1 23 (ni hprP (fun P => 23) (fun P => [P, P + 1]) rfl) 7).trans (hs_768.trans ((F_716.1 23 (by decide) 7).trans hi_461)))), ((F_809.1 23 (by decide) 8).trans ((F_785.1 23 (ni hprP (fun P => 23) (fun P => [P, P + 1]) rfl) 8).trans (hs_769.trans ((F_716.1 23 (by decide) 8).trans hi_462)))), ((F_809.1 23 (by decide) 10).trans ((F_785.1 23 (ni hprP (fun P => 23) (fun P => [P, P + 1]) rfl) 10).trans (hs_771.trans ((F_716.1 23 (by decide) 10).trans hi_463)))), (hs_814.trans ((F_785.1 26 (ni hprP (fun P => 26) (fun P => [P, P + 1]) rfl) 6).trans (hs_772.trans ((F_716.1 26 (by decide) 6).trans hi_464)))), (by omega), (by omega), (by omega), ((F_809.1 P (ni hprP (fun P => P) (fun P => [26]) rfl) 7).trans (hs_789.trans (hs_773.trans ((F_716.1 P (ni hprP (fun P => P) (fun P => [24]) rfl) 7).trans hi_468)))), hI_810, rfl, lv_sub hl [0, 1, 2, 3, 4, 5, 6, 7, 8, 9] rfl⟩ G
  · refine lv_iconst (v := iv 1) hx hb dX7_arguments_6 rfl ?_
    refine lv_goto (tgt := 11) hx hb dX7_arguments_7 (by decide) ?_
    refine lv_istore (lv' := [(6, .int (iv 1)), (0, .ref (oP ω 23)), (1, .int (iv x1)), (2, .int (iv x2)), (3, .long (jv x3)), (5, .int (iv x4))]) hx hb dX7_arguments_11 hl (by decide) rfl (fun ls hl => ?_)
    refine lv_iload hx hb dX7_arguments_13 (lv_at hl 5 rfl) ?_
    refine lv_istore (lv' := [(7, .int (iv x4)), (6, .int (iv 1)), (0, .ref (oP ω 23)), (1, .int (iv x1)), (2, .int (iv x2)), (3, .long (jv x3)), (5, .int (iv x4))]) hx hb dX7_arguments_15 hl (by decide) rfl (fun ls hl => ?_)
    refine lv_iconst (v := iv 0) hx hb dX7_arguments_17 rfl ?_
    refine lv_istore (lv' := [(8, .int (iv 0)), (7, .int (iv x4)), (6, .int (iv 1)), (0, .ref (oP ω 23)), (1, .int (iv x1)), (2, .int (iv x2)), (3, .long (jv x3)), (5, .int (iv x4))]) hx hb dX7_arguments_18 hl (by decide) rfl (fun ls hl => ?_)
    refine lv_aload_n hx hb dX7_arguments_20 rfl (lv_at hl 3 rfl) ?_
    refine lv_bipush (v := iv 40) hx hb dX7_arguments_21 rfl ?_
    have hn_833 : -1 ≤ μ.1 26 10 ∧ μ.1 26 10 ≤ 3000 := hI.nm.2.2.2.2.2.2.2.2.2.2.2.2
    have hn_834 : 0 ≤ μ.1 26 6 ∧ μ.1 26 6 ≤ 3001 := hI.nm.2.2.2.2.2.2.2.2.2.1
    have hn_835 : 0 ≤ μ.1 26 7 ∧ μ.1 26 7 ≤ 3000 := hI.nm.2.2.2.2.2.2.2.2.2.2.1
    have hn_836 : 0 ≤ μ.1 26 9 ∧ μ.1 26 9 ≤ 3000 := hI.nm.2.2.2.2.2.2.2.2.2.2.2.1
    have e_837 : μ.1 23 2 = P := hP.symm
    have hn_838 : 0 ≤ μ.1 23 5 ∧ μ.1 23 5 ≤ 1000 := hI.nm.2.2.2.2.2.2.2.2.1
    have e_839 : μ.1 23 8 = tt := htt.symm
    refine xc_vV G (b := 23) (rest := []) (As := [.int (iv 40)]) (c_X7_needOpen ω l μ 40 (by unfold ir; omega) hI hTK (by omega) (by omega)) (wm 3 197 rfl rfl) (wm 3 199 rfl rfl) (wm 0 14 rfl rfl) rfl rfl (by decide) rfl (wm 1 12 rfl rfl) (wm 3 200 rfl rfl) (by decide) hR ⟨nfr hF (by decide), nlo hLo (by decide)⟩ (n := 1) rfl rfl (Nat.le_of_ble_eq_true rfl) hl.1 dX7_arguments_23 (fun μ840 ρ d0 H locs hp G => ?_)
    obtain ⟨F_841, hI_842, hp_843, hp_844, hp_845, hp_846, hs_847, hs_848, hs_849, hs_850, hs_851, hs_852, hs_853, hs_854, hs_855, hs_856, hs_857⟩ := hp
    have hn_858 : -1 ≤ μ840.1 26 10 ∧ μ840.1 26 10 ≤ 3000 := hI_842.nm.2.2.2.2.2.2.2.2.2.2.2.2
    have htb_859 := hp_843.b
    refine lv_aload_n hx hb dX7_arguments_26 rfl (lv_at hl 3 rfl) ?_
    refine xa_getr G fd_X7 (a := 23) (x := 26) 0 rfl (by decide) rfl (wm 2 17 rfl rfl) ⟨rfl, rfl, rfl⟩ dX7_arguments_27 rfl (G.sk 23 rfl) (by decide) rfl ?_
    refine xa_getN G fd_X10 (host := "FourTongues") (a := 26) 12 rfl (by decide) (by decide) ⟨rfl, rfl, rfl⟩ dX7_arguments_30 rfl (v := .int (iv (μ840.1 26 12))) (by rw [show μ840.1 26 12 = μ840.1 26 12 from rfl]; rfl) ?_
    have hr_860 : -2147483648 ≤ μ840.1 26 12 ∧ μ840.1 26 12 ≤ 2147483647 := by have h9 := G.hr (a := 26) (k := 12) rfl; exact h9
    refine lv_bipush (v := iv 41) hx hb dX7_arguments_33 rfl ?_
    refine xb_icmp_eq (tgt := 42) hx hb (by unfold ir; omega) (by unfold ir; omega) dX7_arguments_35 (by decide) (fun c_35 => ?_) (fun c_35 => ?_)
    · refine lv_iconst (v := iv 0) hx hb dX7_arguments_42 rfl ?_
      refine lv_istore (lv' := [(9, .int (iv 0)), (8, .int (iv 0)), (7, .int (iv x4)), (6, .int (iv 1)), (0, .ref (oP ω 23)), (1, .int (iv x1)), (2, .int (iv x2)), (3, .long (jv x3)), (5, .int (iv x4))]) hx hb dX7_arguments_43 hl (by decide) rfl (fun ls hl => ?_)
      refine lv_iconst (v := iv 0) hx hb dX7_arguments_45 rfl ?_
      refine lv_istore (lv' := [(10, .int (iv 0)), (9, .int (iv 0)), (8, .int (iv 0)), (7, .int (iv x4)), (6, .int (iv 1)), (0, .ref (oP ω 23)), (1, .int (iv x1)), (2, .int (iv x2)), (3, .long (jv x3)), (5, .int (iv x4))]) hx hb dX7_arguments_46 hl (by decide) rfl (fun ls hl => ?_)
      have e_861 : μ840.1 P 1 = μ.1 P 1 := (F_841.1 P (ni hprP (fun P => P) (fun P => [26, 23]) rfl) 1)
      have e_862 : μ840.1 P 1 = μ.1 P 1 := (F_841.1 P (ni hprP (fun P => P) (fun P => [26, 23]) rfl) 1)
      have e_863 : μ840.1 P 1 = μ.1 P 1 := (F_841.1 P (ni hprP (fun P => P) (fun P => [26, 23]) rfl) 1)
      have e_864 : μ840.1 (P + 2) 3 = μ.1 (P + 2) 3 := (F_841.1 (P + 2) (ni hprP (fun P => P + 2) (fun P => [26, 23]) rfl) 3)
      have e_865 : μ840.1 P 1 = μ.1 P 1 := (F_841.1 P (ni hprP (fun P => P) (fun P => [26, 23]) rfl) 1)
      have e_866 : μ840.1 (P + 2) 3 = μ.1 (P + 2) 3 := (F_841.1 (P + 2) (ni hprP (fun P => P + 2) (fun P => [26, 23]) rfl) 3)
      have hk_867 := hI.row (r := P + 2) (hprP.row)
      unfold rk at hk_867
      have hpx_868 : μ840.1 26 11 = 0 → PXE μo μ840 P tt e x4 1 := fun h0 => (hpx (by have h9 : μ.1 26 11 = μ.1 26 11 := rfl; have h8 : μ840.1 26 11 = μ840.1 26 11 := rfl; omega)).fr (K := [26, 23]) (Fr.tr Fr.rf F_841 (by decide)) (npL_p (L := [26, 23]) (by decide) hprP).1 (npL_p (L := [26, 23]) (by decide) hprP).2.1
      refine xl (fun n_9 μ' ls => ∃ (f9 : Int), ∃ (c9 : Int), ∃ (m9 : Int), ∃ (i9 : Int), (Fr [2, 3, 4, 23, 24, 26, P, P + 1, P + 2, (P + 2) + 1, (P + 2) + 2, (P + 2) + 3] μ840 μ') ∧ (-2147483648 ≤ f9 ∧ f9 ≤ 2147483647) ∧ (-2147483648 ≤ c9 ∧ c9 ≤ 2147483647) ∧ (-2147483648 ≤ m9 ∧ m9 ≤ 2147483647) ∧ (-2147483648 ≤ i9 ∧ i9 ≤ 2147483647) ∧ (0 ≤ c9 ∧ c9 ≤ i9) ∧ (i9 ≤ 3000) ∧ (m9 = 0 ∨ m9 = 1) ∧ (TK μ') ∧ (μ.1 26 11 ≤ μ'.1 26 11) ∧ (μ.1 26 10 ≤ μ'.1 26 10) ∧ (μ.1 P 1 ≤ μ'.1 P 1 ∧ μ'.1 P 1 ≤ μ.1 P 1 + 2 * (μ'.1 26 10 - μ.1 26 10) + (- 2 + 3 * μ'.1 26 11)) ∧ (μ'.1 P 1 ≤ μ.1 P 1 + 2 * (μ'.1 26 10 - μ.1 26 10) + (1 - m9)) ∧ (μ'.1 (P + 2) 3 - μ.1 (P + 2) 3 ≤ μ'.1 P 1 - μ.1 P 1 ∧ μ.1 (P + 2) 3 ≤ μ'.1 (P + 2) 3) ∧ (μ'.1 26 11 = 0 → PXE μo μ' P tt (e + c9) f9 1) ∧ (μ'.1 2 4 = μ.1 2 4) ∧ (μ'.1 23 2 = P) ∧ (μ'.1 23 5 = μ.1 23 5) ∧ (μ'.1 23 6 = μ.1 23 6) ∧ (μ'.1 23 7 = μ.1 23 7) ∧ (μ'.1 23 8 = tt) ∧ (μ'.1 23 10 = μ.1 23 10) ∧ (μ'.1 26 6 = μ.1 26 6) ∧ (μ'.1 26 7 = μ.1 26 7) ∧ (μ'.1 26 8 = μ.1 26 8) ∧ (μ'.1 26 9 = μ.1 26 9) ∧ (μ'.1 P 7 = μ.1 P 7) ∧ (IC μ') ∧ n_9 = Int.toNat (3000 - i9) ∧ lv_has ls 11 [(10, .int (iv i9)), (9, .int (iv m9)), (8, .int (iv c9)), (7, .int (iv f9)), (6, .int (iv 1)), (0, .ref (oP ω 23)), (1, .int (iv x1)), (2, .int (iv x2)), (3, .long (jv x3)), (5, .int (iv x4))]) (fun n_9 ρ μL869 d0 H locs ls hI_l G ih => ?_) _ _ _ _ _ _ _ ⟨x4, 0, 0, 0, Fr.rf, (by omega), (by omega), (by omega), (by omega), (by omega), (by omega), (by omega), hp_843, (by omega), (by omega), (by omega), (by omega), (by omega), (fun h0 => (hpx_868 h0).e (by omega)), (F_841.1 2 (by decide) 4), (hs_852.trans hP.symm), hs_853, hs_854, hs_855, (hs_856.trans htt.symm), hs_857, hs_848, hs_849, hs_850, hs_851, (F_841.1 P (ni hprP (fun P => P) (fun P => [26, 23]) rfl) 7), hI_842, rfl, lv_sub hl [0, 1, 2, 3, 4, 5, 6, 7, 8, 9] rfl⟩ G
      obtain ⟨f9, c9, m9, i9, FL870, hi_872, hi_873, hi_874, hi_875, hi_876, hi_877, hi_878, hi_879, hi_880, hi_881, hi_882, hi_883, hi_884, hi_885, hi_886, hi_887, hi_888, hi_889, hi_890, hi_891, hi_892, hi_893, hi_894, hi_895, hi_896, hi_897, hi_898, hn871, hl⟩ := hI_l
      have htb_899 := hi_879.b
      refine lv_iload hx hb dX7_arguments_48 (lv_at hl 0 rfl) ?_
      refine lv_sipush (v := iv 3000) hx hb dX7_arguments_50 rfl ?_
      refine xb_icmp_ge (tgt := 115) hx hb (by unfold ir; omega) (by unfold ir; omega) dX7_arguments_53 (by decide) (fun c_53 => ?_) (fun c_53 => ?_)
      · refine lv_aload_n hx hb dX7_arguments_115 rfl (lv_at hl 5 rfl) ?_
        refine lv_bipush (v := iv 41) hx hb dX7_arguments_116 rfl ?_
        have hn_900 : -1 ≤ μL869.1 26 10 ∧ μL869.1 26 10 ≤ 3000 := hi_898.nm.2.2.2.2.2.2.2.2.2.2.2.2
        have e_901 : μL869.1 26 6 = μ.1 26 6 := hi_893
        have e_902 : μL869.1 26 7 = μ.1 26 7 := hi_894
        have e_903 : μL869.1 26 8 = μ.1 26 8 := hi_895
        have e_904 : μL869.1 26 9 = μ.1 26 9 := hi_896
        have e_905 : μL869.1 23 2 = P := hi_887
        have e_906 : μL869.1 23 5 = μ.1 23 5 := hi_888
        have e_907 : μL869.1 23 6 = μ.1 23 6 := hi_889
        have e_908 : μL869.1 23 7 = μ.1 23 7 := hi_890
        have e_909 : μL869.1 23 8 = tt := hi_891
        have e_910 : μL869.1 23 10 = μ.1 23 10 := hi_892
        refine xc_vV G (b := 23) (rest := []) (As := [.int (iv 41)]) (c_X7_needClosed ω l μL869 41 (by unfold ir; omega) hi_898 hi_879 (by omega) (by omega)) (wm 3 214 rfl rfl) (wm 3 216 rfl rfl) (wm 0 18 rfl rfl) rfl rfl (by decide) rfl (wm 1 12 rfl rfl) (wm 3 217 rfl rfl) (by decide) hR ⟨nfr hF (by decide), nlo hLo (by decide)⟩ (n := 1) rfl rfl (Nat.le_of_ble_eq_true rfl) hl.1 dX7_arguments_118 (fun μ911 ρ d0 H locs hp G => ?_)
        obtain ⟨F_912, hI_913, hp_914, hp_915, hp_916, hs_917, hs_918, hs_919, hs_920, hs_921, hs_922, hs_923, hs_924, hs_925, hs_926, hs_927⟩ := hp
        have hn_928 : -1 ≤ μ911.1 26 10 ∧ μ911.1 26 10 ≤ 3000 := hI_913.nm.2.2.2.2.2.2.2.2.2.2.2.2
        have htb_929 := hp_914.b
        refine lv_aload_n hx hb dX7_arguments_121 rfl (lv_at hl 5 rfl) ?_
        refine xa_getr G fd_X7 (a := 23) (x := P) 2 rfl (by decide) rfl (wm 2 19 rfl rfl) ⟨rfl, rfl, rfl⟩ dX7_arguments_122 rfl (hs_922.trans hi_887) (by omega) (hprP.hq ω ρ) ?_
        refine lv_iconst (v := iv 0) hx hb dX7_arguments_125 rfl ?_
        refine lv_lload_n hx hb dX7_arguments_126 rfl (lv_at hl 8 rfl) ?_
        refine lv_dconst0 hx hb dX7_arguments_127 ?_
        refine xb_topd (fun dd_930 he_dd_930 => ?_)
        have hpx_931 : μ911.1 26 11 = 0 → PXE μo μ911 P tt (e + c9) f9 1 := fun h0 => (hi_885 (by have h9 : μL869.1 26 11 = μL869.1 26 11 := rfl; have h8 : μ911.1 26 11 = μ911.1 26 11 := rfl; omega)).fr (K := [26, 23]) (Fr.tr Fr.rf F_912 (by decide)) (npL_p (L := [26, 23]) (by decide) hprP).1 (npL_p (L := [26, 23]) (by decide) hprP).2.1
        have hk_932 := hi_898.row (r := P + 2) (hprP.row)
        unfold rk at hk_932
        have e_933 : μ911.1 (P + 2) 3 = μL869.1 (P + 2) 3 := (F_912.1 (P + 2) (ni hprP (fun P => P + 2) (fun P => [26, 23]) rfl) 3)
        refine xc_iV G (b := P) (rest := []) (As := [.int (iv 0), .long (jv x3), .double (dv dd_930)]) (c_X8_addConstant ω l μ911 P 0 x3 dd_930 (μL869.1 (P + 2) 3) hprP (by unfold ir; omega) hx3 hI_913 (by omega) (by omega)) (wm 4 67 rfl rfl) (wm 4 68 rfl rfl) (wm 4 69 rfl rfl) hprP.ly rfl (by decide) (hprP.hq ω ρ) (wm 1 9 rfl rfl) (wm 4 70 rfl rfl) (by decide) hR ⟨nfr hF (by decide), nlo hLo (by decide)⟩ (n := 3) rfl rfl (Nat.le_of_ble_eq_true rfl) hl.1 dX7_arguments_128 (fun r_935 μ934 ρ d0 H locs hr_r_935 hp G => ?_)
        have hr_r_935 : -2147483648 ≤ r_935 ∧ r_935 ≤ 2147483647 := hr_r_935
        obtain ⟨F_936, hI_937, hp_938, hp_939⟩ := hp
        have hk_940 := hI_937.row (r := P + 2) (hprP.row)
        unfold rk at hk_940
        refine lv_istore (lv' := [(10, .int (iv r_935)), (9, .int (iv m9)), (8, .int (iv c9)), (7, .int (iv f9)), (6, .int (iv 1)), (0, .ref (oP ω 23)), (1, .int (iv x1)), (2, .int (iv x2)), (3, .long (jv x3)), (5, .int (iv x4))]) hx hb dX7_arguments_131 hl (by decide) rfl (fun ls hl => ?_)
        refine lv_aload_n hx hb dX7_arguments_133 rfl (lv_at hl 5 rfl) ?_
        refine lv_iload_n hx hb dX7_arguments_134 rfl (lv_at hl 6 rfl) ?_
        refine lv_iload hx hb dX7_arguments_135 (lv_at hl 2 rfl) ?_
        refine lv_iconst (v := iv 4) hx hb dX7_arguments_137 rfl ?_
        refine xb_imul hx hb dX7_arguments_138 ?_
        refine lv_iload_n hx hb dX7_arguments_139 rfl (lv_at hl 7 rfl) ?_
        refine xb_iadd hx hb dX7_arguments_140 ?_
        refine lv_iload hx hb dX7_arguments_141 (lv_at hl 0 rfl) ?_
        refine lv_iload hx hb dX7_arguments_143 (lv_at hl 3 rfl) ?_
        have hpx_941 : μ934.1 26 11 = 0 → PXE μo μ934 P tt (e + c9) f9 1 := fun h0 => (hpx_931 (by have h9 : μ911.1 26 11 = μ911.1 26 11 := rfl; have h8 : μ934.1 26 11 = μ911.1 26 11 := (F_936.1 26 (ni hprP (fun P => 26) (fun P => [P + 2, (P + 2) + 1, (P + 2) + 2, (P + 2) + 3]) rfl) 11); omega)).fr (K := [P + 2, (P + 2) + 1, (P + 2) + 2, (P + 2) + 3]) (Fr.tr Fr.rf F_936 (si hprP (fun P => [P + 2, (P + 2) + 1, (P + 2) + 2, (P + 2) + 3]) (fun P => [P + 2, (P + 2) + 1, (P + 2) + 2, (P + 2) + 3]) rfl)) (ni hprP (fun P => P) (fun P => [P + 2, (P + 2) + 1, (P + 2) + 2, (P + 2) + 3]) rfl) (ni hprP (fun P => P + 1) (fun P => [P + 2, (P + 2) + 1, (P + 2) + 2, (P + 2) + 3]) rfl)
        have e_942 : μ934.1 23 2 = P := ((F_936.1 23 (ni hprP (fun P => 23) (fun P => [P + 2, (P + 2) + 1, (P + 2) + 2, (P + 2) + 3]) rfl) 2).trans (hs_922.trans hi_887))
        have e_943 : μ934.1 23 8 = tt := ((F_936.1 23 (ni hprP (fun P => 23) (fun P => [P + 2, (P + 2) + 1, (P + 2) + 2, (P + 2) + 3]) rfl) 8).trans (hs_926.trans hi_891))
        have hk_944 := hi_898.pr (p := P) hprP
        unfold pk at hk_944
        have hc_945 : 16 ≤ μL869.2.1 (P + 1) ∧ μL869.2.1 (P + 1) ≤ 73024 := hi_898.rm.1 _ hprP.cap
        have e_946 : μ934.1 P 1 = μL869.1 P 1 := ((F_936.1 P (ni hprP (fun P => P) (fun P => [P + 2, (P + 2) + 1, (P + 2) + 2, (P + 2) + 3]) rfl) 1).trans (F_912.1 P (ni hprP (fun P => P) (fun P => [26, 23]) rfl) 1))
        have e_947 : μ934.1 P 1 = μL869.1 P 1 := ((F_936.1 P (ni hprP (fun P => P) (fun P => [P + 2, (P + 2) + 1, (P + 2) + 2, (P + 2) + 3]) rfl) 1).trans (F_912.1 P (ni hprP (fun P => P) (fun P => [26, 23]) rfl) 1))
        have e_948 : μ934.1 P 7 = μ.1 P 7 := ((F_936.1 P (ni hprP (fun P => P) (fun P => [P + 2, (P + 2) + 1, (P + 2) + 2, (P + 2) + 3]) rfl) 7).trans ((F_912.1 P (ni hprP (fun P => P) (fun P => [26, 23]) rfl) 7).trans hi_897))
        refine xc_vV G (b := 23) (rest := []) (As := [.int (iv x1), .int (iv ((c9 * 4) + x2)), .int (iv r_935), .int (iv f9)]) (c_X7_endOfParts ω l μ934 x1 ((c9 * 4) + x2) r_935 f9 μo (e + c9) (1) P tt (by unfold ir; omega) (by unfold ir; omega) (by unfold ir; omega) (by unfold ir; omega) hI_937 (by omega) (by omega) (by omega) hpx_941 (Or.inr ⟨by omega, by omega, by omega⟩) (by omega) (by rcases heo with ⟨q1, q2⟩ | ⟨q1, q2⟩; (rw [q1, ef13 (by omega) hx2b]; omega); (rw [q1, ef14 (by omega) hx2b]; omega))) (wm 4 27 rfl rfl) (wm 4 29 rfl rfl) (wm 0 30 rfl rfl) rfl rfl (by decide) rfl (wm 1 12 rfl rfl) (wm 4 30 rfl rfl) (by decide) hR ⟨nfr hF (by decide), nlo hLo (by decide)⟩ (n := 4) rfl rfl (Nat.le_of_ble_eq_true rfl) hl.1 dX7_arguments_145 (fun μ949 ρ d0 H locs hp G => ?_)
        obtain ⟨F_950, hI_951, hp_952, hs_953, hs_954⟩ := hp
        have hpx_955 : μ949.1 26 11 = 0 → PXE μo μ949 P tt 1 (-1) 1 := fun h0 => PXE.of (hp_952 (by have h9 : μ934.1 26 11 = μ911.1 26 11 := (F_936.1 26 (ni hprP (fun P => 26) (fun P => [P + 2, (P + 2) + 1, (P + 2) + 2, (P + 2) + 3]) rfl) 11); have h8 : μ949.1 26 11 = μ911.1 26 11 := ((F_950.1 26 (ni hprP (fun P => 26) (fun P => [P, P + 1]) rfl) 11).trans (F_936.1 26 (ni hprP (fun P => 26) (fun P => [P + 2, (P + 2) + 1, (P + 2) + 2, (P + 2) + 3]) rfl) 11)); omega))
        clear hp_952
        have htk_956 : TK μ949 := hp_914.fr (K := [P, P + 1, P + 2, (P + 2) + 1, (P + 2) + 2, (P + 2) + 3]) (Fr.tr (Fr.tr Fr.rf F_936 (si hprP (fun P => [P + 2, (P + 2) + 1, (P + 2) + 2, (P + 2) + 3]) (fun P => [P, P + 1, P + 2, (P + 2) + 1, (P + 2) + 2, (P + 2) + 3]) rfl)) F_950 (si hprP (fun P => [P, P + 1]) (fun P => [P, P + 1, P + 2, (P + 2) + 1, (P + 2) + 2, (P + 2) + 3]) rfl)) (ni hprP (fun P => 26) (fun P => [P, P + 1, P + 2, (P + 2) + 1, (P + 2) + 2, (P + 2) + 3]) rfl) (ni hprP (fun P => 28) (fun P => [P, P + 1, P + 2, (P + 2) + 1, (P + 2) + 2, (P + 2) + 3]) rfl)
        have e_957 : μ949.1 26 11 = μ911.1 26 11 := ((F_950.1 26 (ni hprP (fun P => 26) (fun P => [P, P + 1]) rfl) 11).trans (F_936.1 26 (ni hprP (fun P => 26) (fun P => [P + 2, (P + 2) + 1, (P + 2) + 2, (P + 2) + 3]) rfl) 11))
        have e_958 : μ949.1 26 11 = μ911.1 26 11 := ((F_950.1 26 (ni hprP (fun P => 26) (fun P => [P, P + 1]) rfl) 11).trans (F_936.1 26 (ni hprP (fun P => 26) (fun P => [P + 2, (P + 2) + 1, (P + 2) + 2, (P + 2) + 3]) rfl) 11))
        have e_959 : μ949.1 26 10 = μ911.1 26 10 := ((F_950.1 26 (ni hprP (fun P => 26) (fun P => [P, P + 1]) rfl) 10).trans (F_936.1 26 (ni hprP (fun P => 26) (fun P => [P + 2, (P + 2) + 1, (P + 2) + 2, (P + 2) + 3]) rfl) 10))
        have e_960 : μ949.1 P 1 = μ934.1 P 1 + 1 := hs_953
        have e_961 : μ949.1 P 1 = μ934.1 P 1 + 1 := hs_953
        have e_962 : μ949.1 26 10 = μ911.1 26 10 := ((F_950.1 26 (ni hprP (fun P => 26) (fun P => [P, P + 1]) rfl) 10).trans (F_936.1 26 (ni hprP (fun P => 26) (fun P => [P + 2, (P + 2) + 1, (P + 2) + 2, (P + 2) + 3]) rfl) 10))
        have e_963 : μ949.1 26 11 = μ911.1 26 11 := ((F_950.1 26 (ni hprP (fun P => 26) (fun P => [P, P + 1]) rfl) 11).trans (F_936.1 26 (ni hprP (fun P => 26) (fun P => [P + 2, (P + 2) + 1, (P + 2) + 2, (P + 2) + 3]) rfl) 11))
        have e_964 : μ949.1 (P + 2) 3 = μ934.1 (P + 2) 3 := (F_950.1 (P + 2) (ni hprP (fun P => P + 2) (fun P => [P, P + 1]) rfl) 3)
        have e_965 : μ949.1 P 1 = μ934.1 P 1 + 1 := hs_953
        have e_966 : μ949.1 (P + 2) 3 = μ934.1 (P + 2) 3 := (F_950.1 (P + 2) (ni hprP (fun P => P + 2) (fun P => [P, P + 1]) rfl) 3)
        have e_967 : μ949.1 23 2 = P := ((F_950.1 23 (ni hprP (fun P => 23) (fun P => [P, P + 1]) rfl) 2).trans ((F_936.1 23 (ni hprP (fun P => 23) (fun P => [P + 2, (P + 2) + 1, (P + 2) + 2, (P + 2) + 3]) rfl) 2).trans (hs_922.trans hi_887)))
        have e_968 : μ949.1 23 5 = μ.1 23 5 := ((F_950.1 23 (ni hprP (fun P => 23) (fun P => [P, P + 1]) rfl) 5).trans ((F_936.1 23 (ni hprP (fun P => 23) (fun P => [P + 2, (P + 2) + 1, (P + 2) + 2, (P + 2) + 3]) rfl) 5).trans (hs_923.trans hi_888)))
        have e_969 : μ949.1 23 6 = μ.1 23 6 := ((F_950.1 23 (ni hprP (fun P => 23) (fun P => [P, P + 1]) rfl) 6).trans ((F_936.1 23 (ni hprP (fun P => 23) (fun P => [P + 2, (P + 2) + 1, (P + 2) + 2, (P + 2) + 3]) rfl) 6).trans (hs_924.trans hi_889)))
        have e_970 : μ949.1 23 7 = μ.1 23 7 := ((F_950.1 23 (ni hprP (fun P => 23) (fun P => [P, P + 1]) rfl) 7).trans ((F_936.1 23 (ni hprP (fun P => 23) (fun P => [P + 2, (P + 2) + 1, (P + 2) + 2, (P + 2) + 3]) rfl) 7).trans (hs_925.trans hi_890)))
        have e_971 : μ949.1 23 8 = tt := ((F_950.1 23 (ni hprP (fun P => 23) (fun P => [P, P + 1]) rfl) 8).trans ((F_936.1 23 (ni hprP (fun P => 23) (fun P => [P + 2, (P + 2) + 1, (P + 2) + 2, (P + 2) + 3]) rfl) 8).trans (hs_926.trans hi_891)))
        have e_972 : μ949.1 23 9 = μL869.1 23 9 - 1 := ((F_950.1 23 (ni hprP (fun P => 23) (fun P => [P, P + 1]) rfl) 9).trans ((F_936.1 23 (ni hprP (fun P => 23) (fun P => [P + 2, (P + 2) + 1, (P + 2) + 2, (P + 2) + 3]) rfl) 9).trans hs_917))
        have e_973 : μ949.1 23 10 = μ.1 23 10 := ((F_950.1 23 (ni hprP (fun P => 23) (fun P => [P, P + 1]) rfl) 10).trans ((F_936.1 23 (ni hprP (fun P => 23) (fun P => [P + 2, (P + 2) + 1, (P + 2) + 2, (P + 2) + 3]) rfl) 10).trans (hs_927.trans hi_892)))
        have e_974 : μ949.1 26 6 = μ.1 26 6 := ((F_950.1 26 (ni hprP (fun P => 26) (fun P => [P, P + 1]) rfl) 6).trans ((F_936.1 26 (ni hprP (fun P => 26) (fun P => [P + 2, (P + 2) + 1, (P + 2) + 2, (P + 2) + 3]) rfl) 6).trans (hs_918.trans hi_893)))
        have e_975 : μ949.1 P 7 = μ.1 P 7 := (hs_954.trans ((F_936.1 P (ni hprP (fun P => P) (fun P => [P + 2, (P + 2) + 1, (P + 2) + 2, (P + 2) + 3]) rfl) 7).trans ((F_912.1 P (ni hprP (fun P => P) (fun P => [26, 23]) rfl) 7).trans hi_897)))
        exact xr_v G hret hlk dX7_arguments_148 ⟨(Fr.tr (Fr.tr (Fr.tr (Fr.tr (Fr.tr Fr.rf F_841 (si hprP (fun P => [26, 23]) (fun P => [2, 3, 4, 23, 24, 26, P, P + 1, P + 2, (P + 2) + 1, (P + 2) + 2, (P + 2) + 3]) rfl)) FL870 (si hprP (fun P => [2, 3, 4, 23, 24, 26, P, P + 1, P + 2, (P + 2) + 1, (P + 2) + 2, (P + 2) + 3]) (fun P => [2, 3, 4, 23, 24, 26, P, P + 1, P + 2, (P + 2) + 1, (P + 2) + 2, (P + 2) + 3]) rfl)) F_912 (si hprP (fun P => [26, 23]) (fun P => [2, 3, 4, 23, 24, 26, P, P + 1, P + 2, (P + 2) + 1, (P + 2) + 2, (P + 2) + 3]) rfl)) F_936 (si hprP (fun P => [P + 2, (P + 2) + 1, (P + 2) + 2, (P + 2) + 3]) (fun P => [2, 3, 4, 23, 24, 26, P, P + 1, P + 2, (P + 2) + 1, (P + 2) + 2, (P + 2) + 3]) rfl)) F_950 (si hprP (fun P => [P, P + 1]) (fun P => [2, 3, 4, 23, 24, 26, P, P + 1, P + 2, (P + 2) + 1, (P + 2) + 2, (P + 2) + 3]) rfl)), hI_951, htk_956, (by omega), (by omega), (by omega), (by omega), (fun h0 => (PXE.ex (hpx_955 h0)).e (by omega)), (by omega), (by omega), (by omega), (by omega), (by omega), (by omega), (by omega), (by omega), (by omega)⟩
      · refine lv_iload hx hb dX7_arguments_56 (lv_at hl 1 rfl) ?_
        refine xb_if_eq (tgt := 115) hx hb (by unfold ir; omega) dX7_arguments_58 (by decide) (fun c_58 => ?_) (fun c_58 => ?_)
        · refine lv_aload_n hx hb dX7_arguments_115 rfl (lv_at hl 5 rfl) ?_
          refine lv_bipush (v := iv 41) hx hb dX7_arguments_116 rfl ?_
          have hn_976 : -1 ≤ μL869.1 26 10 ∧ μL869.1 26 10 ≤ 3000 := hi_898.nm.2.2.2.2.2.2.2.2.2.2.2.2
          have e_977 : μL869.1 26 6 = μ.1 26 6 := hi_893
          have e_978 : μL869.1 26 7 = μ.1 26 7 := hi_894
          have e_979 : μL869.1 26 8 = μ.1 26 8 := hi_895
          have e_980 : μL869.1 26 9 = μ.1 26 9 := hi_896
          have e_981 : μL869.1 23 2 = P := hi_887
          have e_982 : μL869.1 23 5 = μ.1 23 5 := hi_888
          have e_983 : μL869.1 23 6 = μ.1 23 6 := hi_889
          have e_984 : μL869.1 23 7 = μ.1 23 7 := hi_890
          have e_985 : μL869.1 23 8 = tt := hi_891
          have e_986 : μL869.1 23 10 = μ.1 23 10 := hi_892
          refine xc_vV G (b := 23) (rest := []) (As := [.int (iv 41)]) (c_X7_needClosed ω l μL869 41 (by unfold ir; omega) hi_898 hi_879 (by omega) (by omega)) (wm 3 214 rfl rfl) (wm 3 216 rfl rfl) (wm 0 18 rfl rfl) rfl rfl (by decide) rfl (wm 1 12 rfl rfl) (wm 3 217 rfl rfl) (by decide) hR ⟨nfr hF (by decide), nlo hLo (by decide)⟩ (n := 1) rfl rfl (Nat.le_of_ble_eq_true rfl) hl.1 dX7_arguments_118 (fun μ987 ρ d0 H locs hp G => ?_)
          obtain ⟨F_988, hI_989, hp_990, hp_991, hp_992, hs_993, hs_994, hs_995, hs_996, hs_997, hs_998, hs_999, hs_1000, hs_1001, hs_1002, hs_1003⟩ := hp
          have hn_1004 : -1 ≤ μ987.1 26 10 ∧ μ987.1 26 10 ≤ 3000 := hI_989.nm.2.2.2.2.2.2.2.2.2.2.2.2
          have htb_1005 := hp_990.b
          refine lv_aload_n hx hb dX7_arguments_121 rfl (lv_at hl 5 rfl) ?_
          refine xa_getr G fd_X7 (a := 23) (x := P) 2 rfl (by decide) rfl (wm 2 19 rfl rfl) ⟨rfl, rfl, rfl⟩ dX7_arguments_122 rfl (hs_998.trans hi_887) (by omega) (hprP.hq ω ρ) ?_
          refine lv_iconst (v := iv 0) hx hb dX7_arguments_125 rfl ?_
          refine lv_lload_n hx hb dX7_arguments_126 rfl (lv_at hl 8 rfl) ?_
          refine lv_dconst0 hx hb dX7_arguments_127 ?_
          refine xb_topd (fun dd_1006 he_dd_1006 => ?_)
          have hpx_1007 : μ987.1 26 11 = 0 → PXE μo μ987 P tt (e + c9) f9 1 := fun h0 => (hi_885 (by have h9 : μL869.1 26 11 = μL869.1 26 11 := rfl; have h8 : μ987.1 26 11 = μ987.1 26 11 := rfl; omega)).fr (K := [26, 23]) (Fr.tr Fr.rf F_988 (by decide)) (npL_p (L := [26, 23]) (by decide) hprP).1 (npL_p (L := [26, 23]) (by decide) hprP).2.1
          have hk_1008 := hi_898.row (r := P + 2) (hprP.row)
          unfold rk at hk_1008
          have e_1009 : μ987.1 (P + 2) 3 = μL869.1 (P + 2) 3 := (F_988.1 (P + 2) (ni hprP (fun P => P + 2) (fun P => [26, 23]) rfl) 3)
          refine xc_iV G (b := P) (rest := []) (As := [.int (iv 0), .long (jv x3), .double (dv dd_1006)]) (c_X8_addConstant ω l μ987 P 0 x3 dd_1006 (μL869.1 (P + 2) 3) hprP (by unfold ir; omega) hx3 hI_989 (by omega) (by omega)) (wm 4 67 rfl rfl) (wm 4 68 rfl rfl) (wm 4 69 rfl rfl) hprP.ly rfl (by decide) (hprP.hq ω ρ) (wm 1 9 rfl rfl) (wm 4 70 rfl rfl) (by decide) hR ⟨nfr hF (by decide), nlo hLo (by decide)⟩ (n := 3) rfl rfl (Nat.le_of_ble_eq_true rfl) hl.1 dX7_arguments_128 (fun r_1011 μ1010 ρ d0 H locs hr_r_1011 hp G => ?_)
          have hr_r_1011 : -2147483648 ≤ r_1011 ∧ r_1011 ≤ 2147483647 := hr_r_1011
          obtain ⟨F_1012, hI_1013, hp_1014, hp_1015⟩ := hp
          have hk_1016 := hI_1013.row (r := P + 2) (hprP.row)
          unfold rk at hk_1016
          refine lv_istore (lv' := [(10, .int (iv r_1011)), (9, .int (iv m9)), (8, .int (iv c9)), (7, .int (iv f9)), (6, .int (iv 1)), (0, .ref (oP ω 23)), (1, .int (iv x1)), (2, .int (iv x2)), (3, .long (jv x3)), (5, .int (iv x4))]) hx hb dX7_arguments_131 hl (by decide) rfl (fun ls hl => ?_)
          refine lv_aload_n hx hb dX7_arguments_133 rfl (lv_at hl 5 rfl) ?_
          refine lv_iload_n hx hb dX7_arguments_134 rfl (lv_at hl 6 rfl) ?_
          refine lv_iload hx hb dX7_arguments_135 (lv_at hl 2 rfl) ?_
          refine lv_iconst (v := iv 4) hx hb dX7_arguments_137 rfl ?_
          refine xb_imul hx hb dX7_arguments_138 ?_
          refine lv_iload_n hx hb dX7_arguments_139 rfl (lv_at hl 7 rfl) ?_
          refine xb_iadd hx hb dX7_arguments_140 ?_
          refine lv_iload hx hb dX7_arguments_141 (lv_at hl 0 rfl) ?_
          refine lv_iload hx hb dX7_arguments_143 (lv_at hl 3 rfl) ?_
          have hpx_1017 : μ1010.1 26 11 = 0 → PXE μo μ1010 P tt (e + c9) f9 1 := fun h0 => (hpx_1007 (by have h9 : μ987.1 26 11 = μ987.1 26 11 := rfl; have h8 : μ1010.1 26 11 = μ987.1 26 11 := (F_1012.1 26 (ni hprP (fun P => 26) (fun P => [P + 2, (P + 2) + 1, (P + 2) + 2, (P + 2) + 3]) rfl) 11); omega)).fr (K := [P + 2, (P + 2) + 1, (P + 2) + 2, (P + 2) + 3]) (Fr.tr Fr.rf F_1012 (si hprP (fun P => [P + 2, (P + 2) + 1, (P + 2) + 2, (P + 2) + 3]) (fun P => [P + 2, (P + 2) + 1, (P + 2) + 2, (P + 2) + 3]) rfl)) (ni hprP (fun P => P) (fun P => [P + 2, (P + 2) + 1, (P + 2) + 2, (P + 2) + 3]) rfl) (ni hprP (fun P => P + 1) (fun P => [P + 2, (P + 2) + 1, (P + 2) + 2, (P + 2) + 3]) rfl)
          have e_1018 : μ1010.1 23 2 = P := ((F_1012.1 23 (ni hprP (fun P => 23) (fun P => [P + 2, (P + 2) + 1, (P + 2) + 2, (P + 2) + 3]) rfl) 2).trans (hs_998.trans hi_887))
          have e_1019 : μ1010.1 23 8 = tt := ((F_1012.1 23 (ni hprP (fun P => 23) (fun P => [P + 2, (P + 2) + 1, (P + 2) + 2, (P + 2) + 3]) rfl) 8).trans (hs_1002.trans hi_891))
          have hk_1020 := hi_898.pr (p := P) hprP
          unfold pk at hk_1020
          have hc_1021 : 16 ≤ μL869.2.1 (P + 1) ∧ μL869.2.1 (P + 1) ≤ 73024 := hi_898.rm.1 _ hprP.cap
          have e_1022 : μ1010.1 P 1 = μL869.1 P 1 := ((F_1012.1 P (ni hprP (fun P => P) (fun P => [P + 2, (P + 2) + 1, (P + 2) + 2, (P + 2) + 3]) rfl) 1).trans (F_988.1 P (ni hprP (fun P => P) (fun P => [26, 23]) rfl) 1))
          have e_1023 : μ1010.1 P 1 = μL869.1 P 1 := ((F_1012.1 P (ni hprP (fun P => P) (fun P => [P + 2, (P + 2) + 1, (P + 2) + 2, (P + 2) + 3]) rfl) 1).trans (F_988.1 P (ni hprP (fun P => P) (fun P => [26, 23]) rfl) 1))
          have e_1024 : μ1010.1 P 7 = μ.1 P 7 := ((F_1012.1 P (ni hprP (fun P => P) (fun P => [P + 2, (P + 2) + 1, (P + 2) + 2, (P + 2) + 3]) rfl) 7).trans ((F_988.1 P (ni hprP (fun P => P) (fun P => [26, 23]) rfl) 7).trans hi_897))
          refine xc_vV G (b := 23) (rest := []) (As := [.int (iv x1), .int (iv ((c9 * 4) + x2)), .int (iv r_1011), .int (iv f9)]) (c_X7_endOfParts ω l μ1010 x1 ((c9 * 4) + x2) r_1011 f9 μo (e + c9) (1) P tt (by unfold ir; omega) (by unfold ir; omega) (by unfold ir; omega) (by unfold ir; omega) hI_1013 (by omega) (by omega) (by omega) hpx_1017 (Or.inr ⟨by omega, by omega, by omega⟩) (by omega) (by rcases heo with ⟨q1, q2⟩ | ⟨q1, q2⟩; (rw [q1, ef13 (by omega) hx2b]; omega); (rw [q1, ef14 (by omega) hx2b]; omega))) (wm 4 27 rfl rfl) (wm 4 29 rfl rfl) (wm 0 30 rfl rfl) rfl rfl (by decide) rfl (wm 1 12 rfl rfl) (wm 4 30 rfl rfl) (by decide) hR ⟨nfr hF (by decide), nlo hLo (by decide)⟩ (n := 4) rfl rfl (Nat.le_of_ble_eq_true rfl) hl.1 dX7_arguments_145 (fun μ1025 ρ d0 H locs hp G => ?_)
          obtain ⟨F_1026, hI_1027, hp_1028, hs_1029, hs_1030⟩ := hp
          have hpx_1031 : μ1025.1 26 11 = 0 → PXE μo μ1025 P tt 1 (-1) 1 := fun h0 => PXE.of (hp_1028 (by have h9 : μ1010.1 26 11 = μ987.1 26 11 := (F_1012.1 26 (ni hprP (fun P => 26) (fun P => [P + 2, (P + 2) + 1, (P + 2) + 2, (P + 2) + 3]) rfl) 11); have h8 : μ1025.1 26 11 = μ987.1 26 11 := ((F_1026.1 26 (ni hprP (fun P => 26) (fun P => [P, P + 1]) rfl) 11).trans (F_1012.1 26 (ni hprP (fun P => 26) (fun P => [P + 2, (P + 2) + 1, (P + 2) + 2, (P + 2) + 3]) rfl) 11)); omega))
          clear hp_1028
          have htk_1032 : TK μ1025 := hp_990.fr (K := [P, P + 1, P + 2, (P + 2) + 1, (P + 2) + 2, (P + 2) + 3]) (Fr.tr (Fr.tr Fr.rf F_1012 (si hprP (fun P => [P + 2, (P + 2) + 1, (P + 2) + 2, (P + 2) + 3]) (fun P => [P, P + 1, P + 2, (P + 2) + 1, (P + 2) + 2, (P + 2) + 3]) rfl)) F_1026 (si hprP (fun P => [P, P + 1]) (fun P => [P, P + 1, P + 2, (P + 2) + 1, (P + 2) + 2, (P + 2) + 3]) rfl)) (ni hprP (fun P => 26) (fun P => [P, P + 1, P + 2, (P + 2) + 1, (P + 2) + 2, (P + 2) + 3]) rfl) (ni hprP (fun P => 28) (fun P => [P, P + 1, P + 2, (P + 2) + 1, (P + 2) + 2, (P + 2) + 3]) rfl)
          have e_1033 : μ1025.1 26 11 = μ987.1 26 11 := ((F_1026.1 26 (ni hprP (fun P => 26) (fun P => [P, P + 1]) rfl) 11).trans (F_1012.1 26 (ni hprP (fun P => 26) (fun P => [P + 2, (P + 2) + 1, (P + 2) + 2, (P + 2) + 3]) rfl) 11))
          have e_1034 : μ1025.1 26 11 = μ987.1 26 11 := ((F_1026.1 26 (ni hprP (fun P => 26) (fun P => [P, P + 1]) rfl) 11).trans (F_1012.1 26 (ni hprP (fun P => 26) (fun P => [P + 2, (P + 2) + 1, (P + 2) + 2, (P + 2) + 3]) rfl) 11))
          have e_1035 : μ1025.1 26 10 = μ987.1 26 10 := ((F_1026.1 26 (ni hprP (fun P => 26) (fun P => [P, P + 1]) rfl) 10).trans (F_1012.1 26 (ni hprP (fun P => 26) (fun P => [P + 2, (P + 2) + 1, (P + 2) + 2, (P + 2) + 3]) rfl) 10))
          have e_1036 : μ1025.1 P 1 = μ1010.1 P 1 + 1 := hs_1029
          have e_1037 : μ1025.1 P 1 = μ1010.1 P 1 + 1 := hs_1029
          have e_1038 : μ1025.1 26 10 = μ987.1 26 10 := ((F_1026.1 26 (ni hprP (fun P => 26) (fun P => [P, P + 1]) rfl) 10).trans (F_1012.1 26 (ni hprP (fun P => 26) (fun P => [P + 2, (P + 2) + 1, (P + 2) + 2, (P + 2) + 3]) rfl) 10))
          have e_1039 : μ1025.1 26 11 = μ987.1 26 11 := ((F_1026.1 26 (ni hprP (fun P => 26) (fun P => [P, P + 1]) rfl) 11).trans (F_1012.1 26 (ni hprP (fun P => 26) (fun P => [P + 2, (P + 2) + 1, (P + 2) + 2, (P + 2) + 3]) rfl) 11))
          have e_1040 : μ1025.1 (P + 2) 3 = μ1010.1 (P + 2) 3 := (F_1026.1 (P + 2) (ni hprP (fun P => P + 2) (fun P => [P, P + 1]) rfl) 3)
          have e_1041 : μ1025.1 P 1 = μ1010.1 P 1 + 1 := hs_1029
          have e_1042 : μ1025.1 (P + 2) 3 = μ1010.1 (P + 2) 3 := (F_1026.1 (P + 2) (ni hprP (fun P => P + 2) (fun P => [P, P + 1]) rfl) 3)
          have e_1043 : μ1025.1 23 2 = P := ((F_1026.1 23 (ni hprP (fun P => 23) (fun P => [P, P + 1]) rfl) 2).trans ((F_1012.1 23 (ni hprP (fun P => 23) (fun P => [P + 2, (P + 2) + 1, (P + 2) + 2, (P + 2) + 3]) rfl) 2).trans (hs_998.trans hi_887)))
          have e_1044 : μ1025.1 23 5 = μ.1 23 5 := ((F_1026.1 23 (ni hprP (fun P => 23) (fun P => [P, P + 1]) rfl) 5).trans ((F_1012.1 23 (ni hprP (fun P => 23) (fun P => [P + 2, (P + 2) + 1, (P + 2) + 2, (P + 2) + 3]) rfl) 5).trans (hs_999.trans hi_888)))
          have e_1045 : μ1025.1 23 6 = μ.1 23 6 := ((F_1026.1 23 (ni hprP (fun P => 23) (fun P => [P, P + 1]) rfl) 6).trans ((F_1012.1 23 (ni hprP (fun P => 23) (fun P => [P + 2, (P + 2) + 1, (P + 2) + 2, (P + 2) + 3]) rfl) 6).trans (hs_1000.trans hi_889)))
          have e_1046 : μ1025.1 23 7 = μ.1 23 7 := ((F_1026.1 23 (ni hprP (fun P => 23) (fun P => [P, P + 1]) rfl) 7).trans ((F_1012.1 23 (ni hprP (fun P => 23) (fun P => [P + 2, (P + 2) + 1, (P + 2) + 2, (P + 2) + 3]) rfl) 7).trans (hs_1001.trans hi_890)))
          have e_1047 : μ1025.1 23 8 = tt := ((F_1026.1 23 (ni hprP (fun P => 23) (fun P => [P, P + 1]) rfl) 8).trans ((F_1012.1 23 (ni hprP (fun P => 23) (fun P => [P + 2, (P + 2) + 1, (P + 2) + 2, (P + 2) + 3]) rfl) 8).trans (hs_1002.trans hi_891)))
          have e_1048 : μ1025.1 23 9 = μL869.1 23 9 - 1 := ((F_1026.1 23 (ni hprP (fun P => 23) (fun P => [P, P + 1]) rfl) 9).trans ((F_1012.1 23 (ni hprP (fun P => 23) (fun P => [P + 2, (P + 2) + 1, (P + 2) + 2, (P + 2) + 3]) rfl) 9).trans hs_993))
          have e_1049 : μ1025.1 23 10 = μ.1 23 10 := ((F_1026.1 23 (ni hprP (fun P => 23) (fun P => [P, P + 1]) rfl) 10).trans ((F_1012.1 23 (ni hprP (fun P => 23) (fun P => [P + 2, (P + 2) + 1, (P + 2) + 2, (P + 2) + 3]) rfl) 10).trans (hs_1003.trans hi_892)))
          have e_1050 : μ1025.1 26 6 = μ.1 26 6 := ((F_1026.1 26 (ni hprP (fun P => 26) (fun P => [P, P + 1]) rfl) 6).trans ((F_1012.1 26 (ni hprP (fun P => 26) (fun P => [P + 2, (P + 2) + 1, (P + 2) + 2, (P + 2) + 3]) rfl) 6).trans (hs_994.trans hi_893)))
          have e_1051 : μ1025.1 P 7 = μ.1 P 7 := (hs_1030.trans ((F_1012.1 P (ni hprP (fun P => P) (fun P => [P + 2, (P + 2) + 1, (P + 2) + 2, (P + 2) + 3]) rfl) 7).trans ((F_988.1 P (ni hprP (fun P => P) (fun P => [26, 23]) rfl) 7).trans hi_897)))
          exact xr_v G hret hlk dX7_arguments_148 ⟨(Fr.tr (Fr.tr (Fr.tr (Fr.tr (Fr.tr Fr.rf F_841 (si hprP (fun P => [26, 23]) (fun P => [2, 3, 4, 23, 24, 26, P, P + 1, P + 2, (P + 2) + 1, (P + 2) + 2, (P + 2) + 3]) rfl)) FL870 (si hprP (fun P => [2, 3, 4, 23, 24, 26, P, P + 1, P + 2, (P + 2) + 1, (P + 2) + 2, (P + 2) + 3]) (fun P => [2, 3, 4, 23, 24, 26, P, P + 1, P + 2, (P + 2) + 1, (P + 2) + 2, (P + 2) + 3]) rfl)) F_988 (si hprP (fun P => [26, 23]) (fun P => [2, 3, 4, 23, 24, 26, P, P + 1, P + 2, (P + 2) + 1, (P + 2) + 2, (P + 2) + 3]) rfl)) F_1012 (si hprP (fun P => [P + 2, (P + 2) + 1, (P + 2) + 2, (P + 2) + 3]) (fun P => [2, 3, 4, 23, 24, 26, P, P + 1, P + 2, (P + 2) + 1, (P + 2) + 2, (P + 2) + 3]) rfl)) F_1026 (si hprP (fun P => [P, P + 1]) (fun P => [2, 3, 4, 23, 24, 26, P, P + 1, P + 2, (P + 2) + 1, (P + 2) + 2, (P + 2) + 3]) rfl)), hI_1027, htk_1032, (by omega), (by omega), (by omega), (by omega), (fun h0 => (PXE.ex (hpx_1031 h0)).e (by omega)), (by omega), (by omega), (by omega), (by omega), (by omega), (by omega), (by omega), (by omega), (by omega)⟩
        · refine lv_iload hx hb dX7_arguments_61 (lv_at hl 2 rfl) ?_
          refine lv_bipush (v := iv 8) hx hb dX7_arguments_63 rfl ?_
          refine xb_icmp_lt (tgt := 80) hx hb (by unfold ir; omega) (by unfold ir; omega) dX7_arguments_65 (by decide) (fun c_65 => ?_) (fun c_65 => ?_)
          · refine lv_aload_n hx hb dX7_arguments_80 rfl (lv_at hl 5 rfl) ?_
            refine lv_iconst (v := iv 0) hx hb dX7_arguments_81 rfl ?_
            have e_1052 : μL869.1 23 2 = P := hi_887
            have e_1053 : μL869.1 23 8 = tt := hi_891
            have hk_1054 := hi_898.pr (p := P) hprP
            unfold pk at hk_1054
            have hc_1055 : 16 ≤ μL869.2.1 (P + 1) ∧ μL869.2.1 (P + 1) ≤ 73024 := hi_898.rm.1 _ hprP.cap
            have hn_1056 : -1 ≤ μL869.1 26 10 ∧ μL869.1 26 10 ≤ 3000 := hi_898.nm.2.2.2.2.2.2.2.2.2.2.2.2
            have hk_1057 := hi_898.row (r := P + 2) (hprP.row)
            unfold rk at hk_1057
            have e_1058 : μL869.1 23 2 = P := hi_887
            have e_1059 : μL869.1 23 5 = μ.1 23 5 := hi_888
            have e_1060 : μL869.1 23 6 = μ.1 23 6 := hi_889
            have e_1061 : μL869.1 23 7 = μ.1 23 7 := hi_890
            have e_1062 : μL869.1 23 8 = tt := hi_891
            have e_1063 : μL869.1 23 10 = μ.1 23 10 := hi_892
            have e_1064 : μL869.1 26 6 = μ.1 26 6 := hi_893
            have e_1065 : μL869.1 P 7 = μ.1 P 7 := hi_897
            refine xc_vV G (b := 23) (rest := []) (As := [.int (iv 0)]) (((fun (_ : Om) (_ : Launch) => hE)) ω l μL869 0 P tt (by omega) hi_898 (by omega) (by omega) hi_879 (by omega) (by omega) (by omega) (by omega) (by omega)) (wm 4 3 rfl rfl) (wm 4 5 rfl rfl) (wm 0 24 rfl rfl) rfl rfl (by decide) rfl (wm 1 12 rfl rfl) (wm 4 6 rfl rfl) (by decide) hR ⟨sfr (F := F) (a := 0) (by decide), slo (L := Lo) (m := 3) (a := 0) (by decide)⟩ (n := 1) rfl rfl (Nat.le_of_ble_eq_true rfl) hl.1 dX7_arguments_82 (fun μ1066 ρ d0 H locs hp G => ?_)
            obtain ⟨F_1067, hI_1068, hp_1069, hp_1070, hp_1071, hp_1072, hp_1073, hp_1074, hs_1075, hs_1076, hs_1077, hs_1078, hs_1079, hs_1080, hs_1081, hs_1082, hs_1083⟩ := hp
            have hn_1084 : -1 ≤ μ1066.1 26 10 ∧ μ1066.1 26 10 ≤ 3000 := hI_1068.nm.2.2.2.2.2.2.2.2.2.2.2.2
            have hk_1085 := hI_1068.pr (p := P) hprP
            unfold pk at hk_1085
            have hc_1086 : 16 ≤ μ1066.2.1 (P + 1) ∧ μ1066.2.1 (P + 1) ≤ 73024 := hI_1068.rm.1 _ hprP.cap
            have hk_1087 := hI_1068.row (r := P + 2) (hprP.row)
            unfold rk at hk_1087
            have htb_1088 := hp_1069.b
            have hpx_1089 : μ1066.1 26 11 = 0 → PXE μo μ1066 P tt ((e + c9) + (1 - 0)) f9 1 := fun h0 => (PXE.app (hi_885 (by have h9 : μL869.1 26 11 = μL869.1 26 11 := rfl; have h8 : μ1066.1 26 11 = μ1066.1 26 11 := rfl; omega)) (hp_1074 h0)).e (by omega)
            refine lv_aload_n hx hb dX7_arguments_85 rfl (lv_at hl 5 rfl) ?_
            refine lv_iload hx hb dX7_arguments_86 (lv_at hl 3 rfl) ?_
            refine lv_iload hx hb dX7_arguments_88 (lv_at hl 4 rfl) ?_
            refine lv_iload hx hb dX7_arguments_90 (lv_at hl 2 rfl) ?_
            refine xb_iadd hx hb dX7_arguments_92 ?_
            have e_1090 : μ1066.1 23 2 = P := (hs_1075.trans hi_887)
            have e_1091 : μ1066.1 23 8 = tt := (hs_1079.trans hi_891)
            have e_1092 : μ1066.1 P 7 = μ.1 P 7 := (hs_1083.trans hi_897)
            refine xc_iV G (b := 23) (rest := []) (As := [.int (iv f9), .int (iv (1 + c9))]) (c_X7_ifFails ω l μ1066 f9 (1 + c9) μo ((e + c9) + (1 - 0)) (1) P tt (by unfold ir; omega) (by unfold ir; omega) hI_1068 (by omega) (by omega) (by omega) hpx_1089 (by omega) (by omega)) (wm 4 23 rfl rfl) (wm 4 25 rfl rfl) (wm 0 29 rfl rfl) rfl rfl (by decide) rfl (wm 1 12 rfl rfl) (wm 4 26 rfl rfl) (by decide) hR ⟨nfr hF (by decide), nlo hLo (by decide)⟩ (n := 2) rfl rfl (Nat.le_of_ble_eq_true rfl) hl.1 dX7_arguments_93 (fun r_1094 μ1093 ρ d0 H locs hr_r_1094 hp G => ?_)
            have hr_r_1094 : -2147483648 ≤ r_1094 ∧ r_1094 ≤ 2147483647 := hr_r_1094
            obtain ⟨F_1095, hI_1096, hp_1097, hp_1098, hs_1099⟩ := hp
            have hk_1100 := hI_1096.pr (p := P) hprP
            unfold pk at hk_1100
            have hc_1101 : 16 ≤ μ1093.2.1 (P + 1) ∧ μ1093.2.1 (P + 1) ≤ 73024 := hI_1096.rm.1 _ hprP.cap
            have hpx_1102 : μ1093.1 26 11 = 0 → PXE μo μ1093 P tt ((e + c9) + (1 - 0)) r_1094 1 := fun h0 => hp_1097 (by have h9 : μ1066.1 26 11 = μ1066.1 26 11 := rfl; have h8 : μ1093.1 26 11 = μ1066.1 26 11 := (F_1095.1 26 (ni hprP (fun P => 26) (fun P => [P, P + 1]) rfl) 11); omega)
            clear hp_1097
            refine lv_istore (lv' := [(7, .int (iv r_1094)), (10, .int (iv i9)), (9, .int (iv m9)), (8, .int (iv c9)), (6, .int (iv 1)), (0, .ref (oP ω 23)), (1, .int (iv x1)), (2, .int (iv x2)), (3, .long (jv x3)), (5, .int (iv x4))]) hx hb dX7_arguments_96 hl (by decide) rfl (fun ls hl => ?_)
            refine lv_iinc (v := iv (c9 + 1)) (lv' := [(8, .int (iv (c9 + 1))), (7, .int (iv r_1094)), (10, .int (iv i9)), (9, .int (iv m9)), (6, .int (iv 1)), (0, .ref (oP ω 23)), (1, .int (iv x1)), (2, .int (iv x2)), (3, .long (jv x3)), (5, .int (iv x4))]) hx hb dX7_arguments_98 hl (k := 3) rfl (by rw [show Int32.ofInt 1 = iv 1 from rfl, iv_add]) (by decide) rfl (fun ls hl => ?_)
            refine lv_aload_n hx hb dX7_arguments_101 rfl (lv_at hl 5 rfl) ?_
            refine lv_bipush (v := iv 44) hx hb dX7_arguments_102 rfl ?_
            have htk_1103 : TK μ1093 := hp_1069.fr (K := [P, P + 1]) (Fr.tr Fr.rf F_1095 (si hprP (fun P => [P, P + 1]) (fun P => [P, P + 1]) rfl)) (ni hprP (fun P => 26) (fun P => [P, P + 1]) rfl) (ni hprP (fun P => 28) (fun P => [P, P + 1]) rfl)
            have e_1104 : μ1093.1 26 12 = μ1066.1 26 12 := (F_1095.1 26 (ni hprP (fun P => 26) (fun P => [P, P + 1]) rfl) 12)
            have e_1105 : μ1093.1 26 10 = μ1066.1 26 10 := (F_1095.1 26 (ni hprP (fun P => 26) (fun P => [P, P + 1]) rfl) 10)
            have e_1106 : μ1093.1 26 11 = μ1066.1 26 11 := (F_1095.1 26 (ni hprP (fun P => 26) (fun P => [P, P + 1]) rfl) 11)
            have e_1107 : μ1093.1 26 12 = μ1066.1 26 12 := (F_1095.1 26 (ni hprP (fun P => 26) (fun P => [P, P + 1]) rfl) 12)
            have e_1108 : μ1093.1 26 10 = μ1066.1 26 10 := (F_1095.1 26 (ni hprP (fun P => 26) (fun P => [P, P + 1]) rfl) 10)
            have e_1109 : μ1093.1 26 12 = μ1066.1 26 12 := (F_1095.1 26 (ni hprP (fun P => 26) (fun P => [P, P + 1]) rfl) 12)
            have e_1110 : μ1093.1 26 11 = μ1066.1 26 11 := (F_1095.1 26 (ni hprP (fun P => 26) (fun P => [P, P + 1]) rfl) 11)
            have e_1111 : μ1093.1 26 6 = μ.1 26 6 := ((F_1095.1 26 (ni hprP (fun P => 26) (fun P => [P, P + 1]) rfl) 6).trans (hs_1082.trans hi_893))
            have hn_1112 : 0 ≤ μ1066.1 26 7 ∧ μ1066.1 26 7 ≤ 3000 := hI_1068.nm.2.2.2.2.2.2.2.2.2.2.1
            have e_1113 : μ1093.1 26 7 = μ1066.1 26 7 := (F_1095.1 26 (ni hprP (fun P => 26) (fun P => [P, P + 1]) rfl) 7)
            have e_1114 : μ1093.1 26 8 = μ1066.1 26 8 := (F_1095.1 26 (ni hprP (fun P => 26) (fun P => [P, P + 1]) rfl) 8)
            have hn_1115 : 0 ≤ μ1066.1 26 9 ∧ μ1066.1 26 9 ≤ 3000 := hI_1068.nm.2.2.2.2.2.2.2.2.2.2.2.1
            have e_1116 : μ1093.1 26 9 = μ1066.1 26 9 := (F_1095.1 26 (ni hprP (fun P => 26) (fun P => [P, P + 1]) rfl) 9)
            refine xc_iV G (b := 23) (rest := []) (As := [.int (iv 44)]) (c_X7_took ω l μ1093 44 (by unfold ir; omega) hI_1096 htk_1103 (by omega)) (wm 3 160 rfl rfl) (wm 3 162 rfl rfl) (wm 0 9 rfl rfl) rfl rfl (by decide) rfl (wm 1 12 rfl rfl) (wm 3 163 rfl rfl) (by decide) hR ⟨nfr hF (by decide), nlo hLo (by decide)⟩ (n := 1) rfl rfl (Nat.le_of_ble_eq_true rfl) hl.1 dX7_arguments_104 (fun r_1118 μ1117 ρ d0 H locs hr_r_1118 hp G => ?_)
            have hr_r_1118 : -2147483648 ≤ r_1118 ∧ r_1118 ≤ 2147483647 := hr_r_1118
            obtain ⟨F_1119, hI_1120, hp_1121, hp_1122, hs_1123, hs_1124, hs_1125, hs_1126, hs_1127⟩ := hp
            have hn_1128 : -1 ≤ μ1117.1 26 10 ∧ μ1117.1 26 10 ≤ 3000 := hI_1120.nm.2.2.2.2.2.2.2.2.2.2.2.2
            have htb_1129 := hp_1121.b
            refine lv_istore (lv' := [(9, .int (iv r_1118)), (8, .int (iv (c9 + 1))), (7, .int (iv r_1094)), (10, .int (iv i9)), (6, .int (iv 1)), (0, .ref (oP ω 23)), (1, .int (iv x1)), (2, .int (iv x2)), (3, .long (jv x3)), (5, .int (iv x4))]) hx hb dX7_arguments_107 hl (by decide) rfl (fun ls hl => ?_)
            refine lv_iinc (v := iv (i9 + 1)) (lv' := [(10, .int (iv (i9 + 1))), (9, .int (iv r_1118)), (8, .int (iv (c9 + 1))), (7, .int (iv r_1094)), (6, .int (iv 1)), (0, .ref (oP ω 23)), (1, .int (iv x1)), (2, .int (iv x2)), (3, .long (jv x3)), (5, .int (iv x4))]) hx hb dX7_arguments_109 hl (k := 3) rfl (by rw [show Int32.ofInt 1 = iv 1 from rfl, iv_add]) (by decide) rfl (fun ls hl => ?_)
            refine lv_goto (tgt := 48) hx hb dX7_arguments_112 (by decide) ?_
            have e_1130 : μ1117.1 26 11 = μ1066.1 26 11 := (hs_1123.trans (F_1095.1 26 (ni hprP (fun P => 26) (fun P => [P, P + 1]) rfl) 11))
            have e_1131 : μ1117.1 P 1 = μ1093.1 P 1 := (F_1119.1 P (ni hprP (fun P => P) (fun P => [26]) rfl) 1)
            have e_1132 : μ1117.1 P 1 = μ1093.1 P 1 := (F_1119.1 P (ni hprP (fun P => P) (fun P => [26]) rfl) 1)
            have e_1133 : μ1117.1 26 11 = μ1066.1 26 11 := (hs_1123.trans (F_1095.1 26 (ni hprP (fun P => 26) (fun P => [P, P + 1]) rfl) 11))
            have e_1134 : μ1117.1 P 1 = μ1093.1 P 1 := (F_1119.1 P (ni hprP (fun P => P) (fun P => [26]) rfl) 1)
            have e_1135 : μ1117.1 (P + 2) 3 = μ1066.1 (P + 2) 3 := ((F_1119.1 (P + 2) (ni hprP (fun P => P + 2) (fun P => [26]) rfl) 3).trans (F_1095.1 (P + 2) (ni hprP (fun P => P + 2) (fun P => [P, P + 1]) rfl) 3))
            have e_1136 : μ1117.1 P 1 = μ1093.1 P 1 := (F_1119.1 P (ni hprP (fun P => P) (fun P => [26]) rfl) 1)
            have e_1137 : μ1117.1 (P + 2) 3 = μ1066.1 (P + 2) 3 := ((F_1119.1 (P + 2) (ni hprP (fun P => P + 2) (fun P => [26]) rfl) 3).trans (F_1095.1 (P + 2) (ni hprP (fun P => P + 2) (fun P => [P, P + 1]) rfl) 3))
            have hpx_1138 : μ1117.1 26 11 = 0 → PXE μo μ1117 P tt ((e + c9) + (1 - 0)) r_1094 1 := fun h0 => (hpx_1102 (by have h9 : μ1093.1 26 11 = μ1066.1 26 11 := (F_1095.1 26 (ni hprP (fun P => 26) (fun P => [P, P + 1]) rfl) 11); have h8 : μ1117.1 26 11 = μ1066.1 26 11 := (hs_1123.trans (F_1095.1 26 (ni hprP (fun P => 26) (fun P => [P, P + 1]) rfl) 11)); omega)).fr (K := [26]) (Fr.tr Fr.rf F_1119 (by decide)) (npL_p (L := [26]) (by decide) hprP).1 (npL_p (L := [26]) (by decide) hprP).2.1
            have e_1139 : μ1117.1 2 4 = μ1066.1 2 4 := ((F_1119.1 2 (by decide) 4).trans (F_1095.1 2 (ni hprP (fun P => 2) (fun P => [P, P + 1]) rfl) 4))
            have e_1140 : μ1117.1 26 7 = μ1066.1 26 7 := (hs_1125.trans (F_1095.1 26 (ni hprP (fun P => 26) (fun P => [P, P + 1]) rfl) 7))
            have e_1141 : μ1117.1 26 8 = μ1066.1 26 8 := (hs_1126.trans (F_1095.1 26 (ni hprP (fun P => 26) (fun P => [P, P + 1]) rfl) 8))
            have e_1142 : μ1117.1 26 9 = μ1066.1 26 9 := (hs_1127.trans (F_1095.1 26 (ni hprP (fun P => 26) (fun P => [P, P + 1]) rfl) 9))
            exact ih _ _ _ _ _ _ _ (by omega) ⟨r_1094, c9 + 1, r_1118, i9 + 1, (Fr.tr (Fr.tr (Fr.tr FL870 F_1067 (si hprP (fun P => [2, 3, 4, 23, 24, 26, P, P + 1, P + 2, (P + 2) + 1, (P + 2) + 2, (P + 2) + 3]) (fun P => [2, 3, 4, 23, 24, 26, P, P + 1, P + 2, (P + 2) + 1, (P + 2) + 2, (P + 2) + 3]) rfl)) F_1095 (si hprP (fun P => [P, P + 1]) (fun P => [2, 3, 4, 23, 24, 26, P, P + 1, P + 2, (P + 2) + 1, (P + 2) + 2, (P + 2) + 3]) rfl)) F_1119 (si hprP (fun P => [26]) (fun P => [2, 3, 4, 23, 24, 26, P, P + 1, P + 2, (P + 2) + 1, (P + 2) + 2, (P + 2) + 3]) rfl)), (by omega), (by omega), (by omega), (by omega), (by omega), (by omega), (by omega), hp_1121, (by omega), (by omega), (by omega), (by omega), (by omega), (fun h0 => (hpx_1138 h0).e (by omega)), (by omega), ((F_1119.1 23 (by decide) 2).trans ((F_1095.1 23 (ni hprP (fun P => 23) (fun P => [P, P + 1]) rfl) 2).trans (hs_1075.trans hi_887))), ((F_1119.1 23 (by decide) 5).trans ((F_1095.1 23 (ni hprP (fun P => 23) (fun P => [P, P + 1]) rfl) 5).trans (hs_1076.trans hi_888))), ((F_1119.1 23 (by decide) 6).trans ((F_1095.1 23 (ni hprP (fun P => 23) (fun P => [P, P + 1]) rfl) 6).trans (hs_1077.trans hi_889))), ((F_1119.1 23 (by decide) 7).trans ((F_1095.1 23 (ni hprP (fun P => 23) (fun P => [P, P + 1]) rfl) 7).trans (hs_1078.trans hi_890))), ((F_1119.1 23 (by decide) 8).trans ((F_1095.1 23 (ni hprP (fun P => 23) (fun P => [P, P + 1]) rfl) 8).trans (hs_1079.trans hi_891))), ((F_1119.1 23 (by decide) 10).trans ((F_1095.1 23 (ni hprP (fun P => 23) (fun P => [P, P + 1]) rfl) 10).trans (hs_1081.trans hi_892))), (hs_1124.trans ((F_1095.1 26 (ni hprP (fun P => 26) (fun P => [P, P + 1]) rfl) 6).trans (hs_1082.trans hi_893))), (by omega), (by omega), (by omega), ((F_1119.1 P (ni hprP (fun P => P) (fun P => [26]) rfl) 7).trans (hs_1099.trans (hs_1083.trans hi_897))), hI_1120, rfl, lv_sub hl [0, 1, 2, 3, 4, 5, 6, 7, 8, 9] rfl⟩ G
          · refine lv_aload_n hx hb dX7_arguments_68 rfl (lv_at hl 5 rfl) ?_
            refine lv_iconst (v := iv 2) hx hb dX7_arguments_69 rfl ?_
            refine lv_aload_n hx hb dX7_arguments_70 rfl (lv_at hl 5 rfl) ?_
            refine xa_getr G fd_X7 (a := 23) (x := 26) 0 rfl (by decide) rfl (wm 2 17 rfl rfl) ⟨rfl, rfl, rfl⟩ dX7_arguments_71 rfl (G.sk 23 rfl) (by decide) rfl ?_
            refine xa_getN G fd_X10 (host := "FourTongues") (a := 26) 13 rfl (by decide) (by decide) ⟨rfl, rfl, rfl⟩ dX7_arguments_74 rfl (v := .int (iv (μL869.1 26 13))) (by rw [show μL869.1 26 13 = μL869.1 26 13 from rfl]; rfl) ?_
            have hr_1143 : -2147483648 ≤ μL869.1 26 13 ∧ μL869.1 26 13 ≤ 2147483647 := by have h9 := G.hr (a := 26) (k := 13) rfl; exact h9
            refine xc_vV G (b := 23) (rest := []) (As := [.int (iv 2), .int (iv (μL869.1 26 13))]) (c_X7_tellFault ω l μL869 2 (μL869.1 26 13) (by unfold ir; omega) (by unfold ir; omega) hi_898 (by omega)) (wm 3 177 rfl rfl) (wm 3 179 rfl rfl) (wm 0 12 rfl rfl) rfl rfl (by decide) rfl (wm 1 12 rfl rfl) (wm 3 180 rfl rfl) (by decide) hR ⟨nfr hF (by decide), nlo hLo (by decide)⟩ (n := 2) rfl rfl (Nat.le_of_ble_eq_true rfl) hl.1 dX7_arguments_77 (fun μ1144 ρ d0 H locs hp G => ?_)
            obtain ⟨F_1145, hI_1146⟩ := hp
            refine lv_aload_n hx hb dX7_arguments_80 rfl (lv_at hl 5 rfl) ?_
            refine lv_iconst (v := iv 0) hx hb dX7_arguments_81 rfl ?_
            have hpx_1147 : μ1144.1 26 11 = 0 → PXE μo μ1144 P tt (e + c9) f9 1 := fun h0 => (hi_885 (by have h9 : μL869.1 26 11 = μL869.1 26 11 := rfl; have h8 : μ1144.1 26 11 = μL869.1 26 11 := (F_1145.1 26 (by decide) 11); omega)).fr (K := [24]) (Fr.tr Fr.rf F_1145 (by decide)) (npL_p (L := [24]) (by decide) hprP).1 (npL_p (L := [24]) (by decide) hprP).2.1
            have e_1148 : μ1144.1 23 2 = P := ((F_1145.1 23 (by decide) 2).trans hi_887)
            have e_1149 : μ1144.1 23 8 = tt := ((F_1145.1 23 (by decide) 8).trans hi_891)
            have htk_1150 : TK μ1144 := hi_879.fr (K := [24]) (Fr.tr Fr.rf F_1145 (by decide)) (by decide) (by decide)
            have hk_1151 := hi_898.pr (p := P) hprP
            unfold pk at hk_1151
            have hc_1152 : 16 ≤ μL869.2.1 (P + 1) ∧ μL869.2.1 (P + 1) ≤ 73024 := hi_898.rm.1 _ hprP.cap
            have e_1153 : μ1144.1 P 1 = μL869.1 P 1 := (F_1145.1 P (ni hprP (fun P => P) (fun P => [24]) rfl) 1)
            have hn_1154 : -1 ≤ μL869.1 26 10 ∧ μL869.1 26 10 ≤ 3000 := hi_898.nm.2.2.2.2.2.2.2.2.2.2.2.2
            have e_1155 : μ1144.1 26 10 = μL869.1 26 10 := (F_1145.1 26 (by decide) 10)
            have e_1156 : μ1144.1 26 11 = μL869.1 26 11 := (F_1145.1 26 (by decide) 11)
            have hk_1157 := hi_898.row (r := P + 2) (hprP.row)
            unfold rk at hk_1157
            have e_1158 : μ1144.1 (P + 2) 3 = μL869.1 (P + 2) 3 := (F_1145.1 (P + 2) (ni hprP (fun P => P + 2) (fun P => [24]) rfl) 3)
            have e_1159 : μ1144.1 P 1 = μL869.1 P 1 := (F_1145.1 P (ni hprP (fun P => P) (fun P => [24]) rfl) 1)
            have e_1160 : μ1144.1 23 9 = μL869.1 23 9 := (F_1145.1 23 (by decide) 9)
            have e_1161 : μ1144.1 23 9 = μL869.1 23 9 := (F_1145.1 23 (by decide) 9)
            have e_1162 : μ1144.1 26 11 = μL869.1 26 11 := (F_1145.1 26 (by decide) 11)
            have e_1163 : μ1144.1 26 11 = μL869.1 26 11 := (F_1145.1 26 (by decide) 11)
            have e_1164 : μ1144.1 23 9 = μL869.1 23 9 := (F_1145.1 23 (by decide) 9)
            have e_1165 : μ1144.1 26 11 = μL869.1 26 11 := (F_1145.1 26 (by decide) 11)
            have e_1166 : μ1144.1 P 1 = μL869.1 P 1 := (F_1145.1 P (ni hprP (fun P => P) (fun P => [24]) rfl) 1)
            have e_1167 : μ1144.1 26 11 = μL869.1 26 11 := (F_1145.1 26 (by decide) 11)
            have e_1168 : μ1144.1 26 10 = μL869.1 26 10 := (F_1145.1 26 (by decide) 10)
            have e_1169 : μ1144.1 P 1 = μL869.1 P 1 := (F_1145.1 P (ni hprP (fun P => P) (fun P => [24]) rfl) 1)
            have e_1170 : μ1144.1 P 1 = μL869.1 P 1 := (F_1145.1 P (ni hprP (fun P => P) (fun P => [24]) rfl) 1)
            have e_1171 : μ1144.1 26 10 = μL869.1 26 10 := (F_1145.1 26 (by decide) 10)
            have e_1172 : μ1144.1 26 11 = μL869.1 26 11 := (F_1145.1 26 (by decide) 11)
            have e_1173 : μ1144.1 (P + 2) 3 = μL869.1 (P + 2) 3 := (F_1145.1 (P + 2) (ni hprP (fun P => P + 2) (fun P => [24]) rfl) 3)
            have e_1174 : μ1144.1 P 1 = μL869.1 P 1 := (F_1145.1 P (ni hprP (fun P => P) (fun P => [24]) rfl) 1)
            have e_1175 : μ1144.1 (P + 2) 3 = μL869.1 (P + 2) 3 := (F_1145.1 (P + 2) (ni hprP (fun P => P + 2) (fun P => [24]) rfl) 3)
            have e_1176 : μ1144.1 23 2 = P := ((F_1145.1 23 (by decide) 2).trans hi_887)
            have e_1177 : μ1144.1 23 5 = μ.1 23 5 := ((F_1145.1 23 (by decide) 5).trans hi_888)
            have e_1178 : μ1144.1 23 6 = μ.1 23 6 := ((F_1145.1 23 (by decide) 6).trans hi_889)
            have e_1179 : μ1144.1 23 7 = μ.1 23 7 := ((F_1145.1 23 (by decide) 7).trans hi_890)
            have e_1180 : μ1144.1 23 8 = tt := ((F_1145.1 23 (by decide) 8).trans hi_891)
            have e_1181 : μ1144.1 23 9 = μL869.1 23 9 := (F_1145.1 23 (by decide) 9)
            have e_1182 : μ1144.1 23 10 = μ.1 23 10 := ((F_1145.1 23 (by decide) 10).trans hi_892)
            have e_1183 : μ1144.1 26 6 = μ.1 26 6 := ((F_1145.1 26 (by decide) 6).trans hi_893)
            have e_1184 : μ1144.1 P 7 = μ.1 P 7 := ((F_1145.1 P (ni hprP (fun P => P) (fun P => [24]) rfl) 7).trans hi_897)
            refine xc_vV G (b := 23) (rest := []) (As := [.int (iv 0)]) (((fun (_ : Om) (_ : Launch) => hE)) ω l μ1144 0 P tt (by omega) hI_1146 (by omega) (by omega) htk_1150 (by omega) (by omega) (by omega) (by omega) (by omega)) (wm 4 3 rfl rfl) (wm 4 5 rfl rfl) (wm 0 24 rfl rfl) rfl rfl (by decide) rfl (wm 1 12 rfl rfl) (wm 4 6 rfl rfl) (by decide) hR ⟨sfr (F := F) (a := 0) (by decide), slo (L := Lo) (m := 3) (a := 0) (by decide)⟩ (n := 1) rfl rfl (Nat.le_of_ble_eq_true rfl) hl.1 dX7_arguments_82 (fun μ1185 ρ d0 H locs hp G => ?_)
            obtain ⟨F_1186, hI_1187, hp_1188, hp_1189, hp_1190, hp_1191, hp_1192, hp_1193, hs_1194, hs_1195, hs_1196, hs_1197, hs_1198, hs_1199, hs_1200, hs_1201, hs_1202⟩ := hp
            have hn_1203 : -1 ≤ μ1185.1 26 10 ∧ μ1185.1 26 10 ≤ 3000 := hI_1187.nm.2.2.2.2.2.2.2.2.2.2.2.2
            have hk_1204 := hI_1187.pr (p := P) hprP
            unfold pk at hk_1204
            have hc_1205 : 16 ≤ μ1185.2.1 (P + 1) ∧ μ1185.2.1 (P + 1) ≤ 73024 := hI_1187.rm.1 _ hprP.cap
            have hk_1206 := hI_1187.row (r := P + 2) (hprP.row)
            unfold rk at hk_1206
            have htb_1207 := hp_1188.b
            have hpx_1208 : μ1185.1 26 11 = 0 → PXE μo μ1185 P tt ((e + c9) + (1 - 0)) f9 1 := fun h0 => (PXE.app (hpx_1147 (by have h9 : μ1144.1 26 11 = μL869.1 26 11 := (F_1145.1 26 (by decide) 11); have h8 : μ1185.1 26 11 = μ1185.1 26 11 := rfl; omega)) (hp_1193 h0)).e (by omega)
            refine lv_aload_n hx hb dX7_arguments_85 rfl (lv_at hl 5 rfl) ?_
            refine lv_iload hx hb dX7_arguments_86 (lv_at hl 3 rfl) ?_
            refine lv_iload hx hb dX7_arguments_88 (lv_at hl 4 rfl) ?_
            refine lv_iload hx hb dX7_arguments_90 (lv_at hl 2 rfl) ?_
            refine xb_iadd hx hb dX7_arguments_92 ?_
            have e_1209 : μ1185.1 23 2 = P := (hs_1194.trans ((F_1145.1 23 (by decide) 2).trans hi_887))
            have e_1210 : μ1185.1 23 8 = tt := (hs_1198.trans ((F_1145.1 23 (by decide) 8).trans hi_891))
            have e_1211 : μ1185.1 P 7 = μ.1 P 7 := (hs_1202.trans ((F_1145.1 P (ni hprP (fun P => P) (fun P => [24]) rfl) 7).trans hi_897))
            refine xc_iV G (b := 23) (rest := []) (As := [.int (iv f9), .int (iv (1 + c9))]) (c_X7_ifFails ω l μ1185 f9 (1 + c9) μo ((e + c9) + (1 - 0)) (1) P tt (by unfold ir; omega) (by unfold ir; omega) hI_1187 (by omega) (by omega) (by omega) hpx_1208 (by omega) (by omega)) (wm 4 23 rfl rfl) (wm 4 25 rfl rfl) (wm 0 29 rfl rfl) rfl rfl (by decide) rfl (wm 1 12 rfl rfl) (wm 4 26 rfl rfl) (by decide) hR ⟨nfr hF (by decide), nlo hLo (by decide)⟩ (n := 2) rfl rfl (Nat.le_of_ble_eq_true rfl) hl.1 dX7_arguments_93 (fun r_1213 μ1212 ρ d0 H locs hr_r_1213 hp G => ?_)
            have hr_r_1213 : -2147483648 ≤ r_1213 ∧ r_1213 ≤ 2147483647 := hr_r_1213
            obtain ⟨F_1214, hI_1215, hp_1216, hp_1217, hs_1218⟩ := hp
            have hk_1219 := hI_1215.pr (p := P) hprP
            unfold pk at hk_1219
            have hc_1220 : 16 ≤ μ1212.2.1 (P + 1) ∧ μ1212.2.1 (P + 1) ≤ 73024 := hI_1215.rm.1 _ hprP.cap
            have hpx_1221 : μ1212.1 26 11 = 0 → PXE μo μ1212 P tt ((e + c9) + (1 - 0)) r_1213 1 := fun h0 => hp_1216 (by have h9 : μ1185.1 26 11 = μ1185.1 26 11 := rfl; have h8 : μ1212.1 26 11 = μ1185.1 26 11 := (F_1214.1 26 (ni hprP (fun P => 26) (fun P => [P, P + 1]) rfl) 11); omega)
            clear hp_1216
            refine lv_istore (lv' := [(7, .int (iv r_1213)), (10, .int (iv i9)), (9, .int (iv m9)), (8, .int (iv c9)), (6, .int (iv 1)), (0, .ref (oP ω 23)), (1, .int (iv x1)), (2, .int (iv x2)), (3, .long (jv x3)), (5, .int (iv x4))]) hx hb dX7_arguments_96 hl (by decide) rfl (fun ls hl => ?_)
            refine lv_iinc (v := iv (c9 + 1)) (lv' := [(8, .int (iv (c9 + 1))), (7, .int (iv r_1213)), (10, .int (iv i9)), (9, .int (iv m9)), (6, .int (iv 1)), (0, .ref (oP ω 23)), (1, .int (iv x1)), (2, .int (iv x2)), (3, .long (jv x3)), (5, .int (iv x4))]) hx hb dX7_arguments_98 hl (k := 3) rfl (by rw [show Int32.ofInt 1 = iv 1 from rfl, iv_add]) (by decide) rfl (fun ls hl => ?_)
            refine lv_aload_n hx hb dX7_arguments_101 rfl (lv_at hl 5 rfl) ?_
            refine lv_bipush (v := iv 44) hx hb dX7_arguments_102 rfl ?_
            have htk_1222 : TK μ1212 := hp_1188.fr (K := [P, P + 1]) (Fr.tr Fr.rf F_1214 (si hprP (fun P => [P, P + 1]) (fun P => [P, P + 1]) rfl)) (ni hprP (fun P => 26) (fun P => [P, P + 1]) rfl) (ni hprP (fun P => 28) (fun P => [P, P + 1]) rfl)
            have e_1223 : μ1212.1 26 12 = μ1185.1 26 12 := (F_1214.1 26 (ni hprP (fun P => 26) (fun P => [P, P + 1]) rfl) 12)
            have e_1224 : μ1212.1 26 10 = μ1185.1 26 10 := (F_1214.1 26 (ni hprP (fun P => 26) (fun P => [P, P + 1]) rfl) 10)
            have e_1225 : μ1212.1 26 11 = μ1185.1 26 11 := (F_1214.1 26 (ni hprP (fun P => 26) (fun P => [P, P + 1]) rfl) 11)
            have e_1226 : μ1212.1 26 12 = μ1185.1 26 12 := (F_1214.1 26 (ni hprP (fun P => 26) (fun P => [P, P + 1]) rfl) 12)
            have e_1227 : μ1212.1 26 10 = μ1185.1 26 10 := (F_1214.1 26 (ni hprP (fun P => 26) (fun P => [P, P + 1]) rfl) 10)
            have e_1228 : μ1212.1 26 12 = μ1185.1 26 12 := (F_1214.1 26 (ni hprP (fun P => 26) (fun P => [P, P + 1]) rfl) 12)
            have e_1229 : μ1212.1 26 11 = μ1185.1 26 11 := (F_1214.1 26 (ni hprP (fun P => 26) (fun P => [P, P + 1]) rfl) 11)
            have e_1230 : μ1212.1 26 6 = μ.1 26 6 := ((F_1214.1 26 (ni hprP (fun P => 26) (fun P => [P, P + 1]) rfl) 6).trans (hs_1201.trans ((F_1145.1 26 (by decide) 6).trans hi_893)))
            have hn_1231 : 0 ≤ μ1185.1 26 7 ∧ μ1185.1 26 7 ≤ 3000 := hI_1187.nm.2.2.2.2.2.2.2.2.2.2.1
            have e_1232 : μ1212.1 26 7 = μ1185.1 26 7 := (F_1214.1 26 (ni hprP (fun P => 26) (fun P => [P, P + 1]) rfl) 7)
            have e_1233 : μ1212.1 26 8 = μ1185.1 26 8 := (F_1214.1 26 (ni hprP (fun P => 26) (fun P => [P, P + 1]) rfl) 8)
            have hn_1234 : 0 ≤ μ1185.1 26 9 ∧ μ1185.1 26 9 ≤ 3000 := hI_1187.nm.2.2.2.2.2.2.2.2.2.2.2.1
            have e_1235 : μ1212.1 26 9 = μ1185.1 26 9 := (F_1214.1 26 (ni hprP (fun P => 26) (fun P => [P, P + 1]) rfl) 9)
            refine xc_iV G (b := 23) (rest := []) (As := [.int (iv 44)]) (c_X7_took ω l μ1212 44 (by unfold ir; omega) hI_1215 htk_1222 (by omega)) (wm 3 160 rfl rfl) (wm 3 162 rfl rfl) (wm 0 9 rfl rfl) rfl rfl (by decide) rfl (wm 1 12 rfl rfl) (wm 3 163 rfl rfl) (by decide) hR ⟨nfr hF (by decide), nlo hLo (by decide)⟩ (n := 1) rfl rfl (Nat.le_of_ble_eq_true rfl) hl.1 dX7_arguments_104 (fun r_1237 μ1236 ρ d0 H locs hr_r_1237 hp G => ?_)
            have hr_r_1237 : -2147483648 ≤ r_1237 ∧ r_1237 ≤ 2147483647 := hr_r_1237
            obtain ⟨F_1238, hI_1239, hp_1240, hp_1241, hs_1242, hs_1243, hs_1244, hs_1245, hs_1246⟩ := hp
            have hn_1247 : -1 ≤ μ1236.1 26 10 ∧ μ1236.1 26 10 ≤ 3000 := hI_1239.nm.2.2.2.2.2.2.2.2.2.2.2.2
            have htb_1248 := hp_1240.b
            refine lv_istore (lv' := [(9, .int (iv r_1237)), (8, .int (iv (c9 + 1))), (7, .int (iv r_1213)), (10, .int (iv i9)), (6, .int (iv 1)), (0, .ref (oP ω 23)), (1, .int (iv x1)), (2, .int (iv x2)), (3, .long (jv x3)), (5, .int (iv x4))]) hx hb dX7_arguments_107 hl (by decide) rfl (fun ls hl => ?_)
            refine lv_iinc (v := iv (i9 + 1)) (lv' := [(10, .int (iv (i9 + 1))), (9, .int (iv r_1237)), (8, .int (iv (c9 + 1))), (7, .int (iv r_1213)), (6, .int (iv 1)), (0, .ref (oP ω 23)), (1, .int (iv x1)), (2, .int (iv x2)), (3, .long (jv x3)), (5, .int (iv x4))]) hx hb dX7_arguments_109 hl (k := 3) rfl (by rw [show Int32.ofInt 1 = iv 1 from rfl, iv_add]) (by decide) rfl (fun ls hl => ?_)
            refine lv_goto (tgt := 48) hx hb dX7_arguments_112 (by decide) ?_
            have e_1249 : μ1236.1 26 11 = μ1185.1 26 11 := (hs_1242.trans (F_1214.1 26 (ni hprP (fun P => 26) (fun P => [P, P + 1]) rfl) 11))
            have e_1250 : μ1236.1 P 1 = μ1212.1 P 1 := (F_1238.1 P (ni hprP (fun P => P) (fun P => [26]) rfl) 1)
            have e_1251 : μ1236.1 P 1 = μ1212.1 P 1 := (F_1238.1 P (ni hprP (fun P => P) (fun P => [26]) rfl) 1)
            have e_1252 : μ1236.1 26 11 = μ1185.1 26 11 := (hs_1242.trans (F_1214.1 26 (ni hprP (fun P => 26) (fun P => [P, P + 1]) rfl) 11))
            have e_1253 : μ1236.1 P 1 = μ1212.1 P 1 := (F_1238.1 P (ni hprP (fun P => P) (fun P => [26]) rfl) 1)
            have e_1254 : μ1236.1 (P + 2) 3 = μ1185.1 (P + 2) 3 := ((F_1238.1 (P + 2) (ni hprP (fun P => P + 2) (fun P => [26]) rfl) 3).trans (F_1214.1 (P + 2) (ni hprP (fun P => P + 2) (fun P => [P, P + 1]) rfl) 3))
            have e_1255 : μ1236.1 P 1 = μ1212.1 P 1 := (F_1238.1 P (ni hprP (fun P => P) (fun P => [26]) rfl) 1)
            have e_1256 : μ1236.1 (P + 2) 3 = μ1185.1 (P + 2) 3 := ((F_1238.1 (P + 2) (ni hprP (fun P => P + 2) (fun P => [26]) rfl) 3).trans (F_1214.1 (P + 2) (ni hprP (fun P => P + 2) (fun P => [P, P + 1]) rfl) 3))
            have hpx_1257 : μ1236.1 26 11 = 0 → PXE μo μ1236 P tt ((e + c9) + (1 - 0)) r_1213 1 := fun h0 => (hpx_1221 (by have h9 : μ1212.1 26 11 = μ1185.1 26 11 := (F_1214.1 26 (ni hprP (fun P => 26) (fun P => [P, P + 1]) rfl) 11); have h8 : μ1236.1 26 11 = μ1185.1 26 11 := (hs_1242.trans (F_1214.1 26 (ni hprP (fun P => 26) (fun P => [P, P + 1]) rfl) 11)); omega)).fr (K := [26]) (Fr.tr Fr.rf F_1238 (by decide)) (npL_p (L := [26]) (by decide) hprP).1 (npL_p (L := [26]) (by decide) hprP).2.1
            have e_1258 : μ1236.1 2 4 = μ1185.1 2 4 := ((F_1238.1 2 (by decide) 4).trans (F_1214.1 2 (ni hprP (fun P => 2) (fun P => [P, P + 1]) rfl) 4))
            have e_1259 : μ1236.1 26 7 = μ1185.1 26 7 := (hs_1244.trans (F_1214.1 26 (ni hprP (fun P => 26) (fun P => [P, P + 1]) rfl) 7))
            have e_1260 : μ1236.1 26 8 = μ1185.1 26 8 := (hs_1245.trans (F_1214.1 26 (ni hprP (fun P => 26) (fun P => [P, P + 1]) rfl) 8))
            have e_1261 : μ1236.1 26 9 = μ1185.1 26 9 := (hs_1246.trans (F_1214.1 26 (ni hprP (fun P => 26) (fun P => [P, P + 1]) rfl) 9))
            exact ih _ _ _ _ _ _ _ (by omega) ⟨r_1213, c9 + 1, r_1237, i9 + 1, (Fr.tr (Fr.tr (Fr.tr (Fr.tr FL870 F_1145 (si hprP (fun P => [24]) (fun P => [2, 3, 4, 23, 24, 26, P, P + 1, P + 2, (P + 2) + 1, (P + 2) + 2, (P + 2) + 3]) rfl)) F_1186 (si hprP (fun P => [2, 3, 4, 23, 24, 26, P, P + 1, P + 2, (P + 2) + 1, (P + 2) + 2, (P + 2) + 3]) (fun P => [2, 3, 4, 23, 24, 26, P, P + 1, P + 2, (P + 2) + 1, (P + 2) + 2, (P + 2) + 3]) rfl)) F_1214 (si hprP (fun P => [P, P + 1]) (fun P => [2, 3, 4, 23, 24, 26, P, P + 1, P + 2, (P + 2) + 1, (P + 2) + 2, (P + 2) + 3]) rfl)) F_1238 (si hprP (fun P => [26]) (fun P => [2, 3, 4, 23, 24, 26, P, P + 1, P + 2, (P + 2) + 1, (P + 2) + 2, (P + 2) + 3]) rfl)), (by omega), (by omega), (by omega), (by omega), (by omega), (by omega), (by omega), hp_1240, (by omega), (by omega), (by omega), (by omega), (by omega), (fun h0 => (hpx_1257 h0).e (by omega)), (by omega), ((F_1238.1 23 (by decide) 2).trans ((F_1214.1 23 (ni hprP (fun P => 23) (fun P => [P, P + 1]) rfl) 2).trans (hs_1194.trans ((F_1145.1 23 (by decide) 2).trans hi_887)))), ((F_1238.1 23 (by decide) 5).trans ((F_1214.1 23 (ni hprP (fun P => 23) (fun P => [P, P + 1]) rfl) 5).trans (hs_1195.trans ((F_1145.1 23 (by decide) 5).trans hi_888)))), ((F_1238.1 23 (by decide) 6).trans ((F_1214.1 23 (ni hprP (fun P => 23) (fun P => [P, P + 1]) rfl) 6).trans (hs_1196.trans ((F_1145.1 23 (by decide) 6).trans hi_889)))), ((F_1238.1 23 (by decide) 7).trans ((F_1214.1 23 (ni hprP (fun P => 23) (fun P => [P, P + 1]) rfl) 7).trans (hs_1197.trans ((F_1145.1 23 (by decide) 7).trans hi_890)))), ((F_1238.1 23 (by decide) 8).trans ((F_1214.1 23 (ni hprP (fun P => 23) (fun P => [P, P + 1]) rfl) 8).trans (hs_1198.trans ((F_1145.1 23 (by decide) 8).trans hi_891)))), ((F_1238.1 23 (by decide) 10).trans ((F_1214.1 23 (ni hprP (fun P => 23) (fun P => [P, P + 1]) rfl) 10).trans (hs_1200.trans ((F_1145.1 23 (by decide) 10).trans hi_892)))), (hs_1243.trans ((F_1214.1 26 (ni hprP (fun P => 26) (fun P => [P, P + 1]) rfl) 6).trans (hs_1201.trans ((F_1145.1 26 (by decide) 6).trans hi_893)))), (by omega), (by omega), (by omega), ((F_1238.1 P (ni hprP (fun P => P) (fun P => [26]) rfl) 7).trans (hs_1218.trans (hs_1202.trans ((F_1145.1 P (ni hprP (fun P => P) (fun P => [24]) rfl) 7).trans hi_897)))), hI_1239, rfl, lv_sub hl [0, 1, 2, 3, 4, 5, 6, 7, 8, 9] rfl⟩ G
    · refine lv_iconst (v := iv 1) hx hb dX7_arguments_38 rfl ?_
      refine lv_goto (tgt := 43) hx hb dX7_arguments_39 (by decide) ?_
      refine lv_istore (lv' := [(9, .int (iv 1)), (8, .int (iv 0)), (7, .int (iv x4)), (6, .int (iv 1)), (0, .ref (oP ω 23)), (1, .int (iv x1)), (2, .int (iv x2)), (3, .long (jv x3)), (5, .int (iv x4))]) hx hb dX7_arguments_43 hl (by decide) rfl (fun ls hl => ?_)
      refine lv_iconst (v := iv 0) hx hb dX7_arguments_45 rfl ?_
      refine lv_istore (lv' := [(10, .int (iv 0)), (9, .int (iv 1)), (8, .int (iv 0)), (7, .int (iv x4)), (6, .int (iv 1)), (0, .ref (oP ω 23)), (1, .int (iv x1)), (2, .int (iv x2)), (3, .long (jv x3)), (5, .int (iv x4))]) hx hb dX7_arguments_46 hl (by decide) rfl (fun ls hl => ?_)
      have e_1262 : μ840.1 P 1 = μ.1 P 1 := (F_841.1 P (ni hprP (fun P => P) (fun P => [26, 23]) rfl) 1)
      have e_1263 : μ840.1 P 1 = μ.1 P 1 := (F_841.1 P (ni hprP (fun P => P) (fun P => [26, 23]) rfl) 1)
      have e_1264 : μ840.1 P 1 = μ.1 P 1 := (F_841.1 P (ni hprP (fun P => P) (fun P => [26, 23]) rfl) 1)
      have e_1265 : μ840.1 (P + 2) 3 = μ.1 (P + 2) 3 := (F_841.1 (P + 2) (ni hprP (fun P => P + 2) (fun P => [26, 23]) rfl) 3)
      have e_1266 : μ840.1 P 1 = μ.1 P 1 := (F_841.1 P (ni hprP (fun P => P) (fun P => [26, 23]) rfl) 1)
      have e_1267 : μ840.1 (P + 2) 3 = μ.1 (P + 2) 3 := (F_841.1 (P + 2) (ni hprP (fun P => P + 2) (fun P => [26, 23]) rfl) 3)
      have hk_1268 := hI.row (r := P + 2) (hprP.row)
      unfold rk at hk_1268
      have hpx_1269 : μ840.1 26 11 = 0 → PXE μo μ840 P tt e x4 1 := fun h0 => (hpx (by have h9 : μ.1 26 11 = μ.1 26 11 := rfl; have h8 : μ840.1 26 11 = μ840.1 26 11 := rfl; omega)).fr (K := [26, 23]) (Fr.tr Fr.rf F_841 (by decide)) (npL_p (L := [26, 23]) (by decide) hprP).1 (npL_p (L := [26, 23]) (by decide) hprP).2.1
      refine xl (fun n_9 μ' ls => ∃ (f9 : Int), ∃ (c9 : Int), ∃ (m9 : Int), ∃ (i9 : Int), (Fr [2, 3, 4, 23, 24, 26, P, P + 1, P + 2, (P + 2) + 1, (P + 2) + 2, (P + 2) + 3] μ840 μ') ∧ (-2147483648 ≤ f9 ∧ f9 ≤ 2147483647) ∧ (-2147483648 ≤ c9 ∧ c9 ≤ 2147483647) ∧ (-2147483648 ≤ m9 ∧ m9 ≤ 2147483647) ∧ (-2147483648 ≤ i9 ∧ i9 ≤ 2147483647) ∧ (0 ≤ c9 ∧ c9 ≤ i9) ∧ (i9 ≤ 3000) ∧ (m9 = 0 ∨ m9 = 1) ∧ (TK μ') ∧ (μ.1 26 11 ≤ μ'.1 26 11) ∧ (μ.1 26 10 ≤ μ'.1 26 10) ∧ (μ.1 P 1 ≤ μ'.1 P 1 ∧ μ'.1 P 1 ≤ μ.1 P 1 + 2 * (μ'.1 26 10 - μ.1 26 10) + (- 2 + 3 * μ'.1 26 11)) ∧ (μ'.1 P 1 ≤ μ.1 P 1 + 2 * (μ'.1 26 10 - μ.1 26 10) + (1 - m9)) ∧ (μ'.1 (P + 2) 3 - μ.1 (P + 2) 3 ≤ μ'.1 P 1 - μ.1 P 1 ∧ μ.1 (P + 2) 3 ≤ μ'.1 (P + 2) 3) ∧ (μ'.1 26 11 = 0 → PXE μo μ' P tt (e + c9) f9 1) ∧ (μ'.1 2 4 = μ.1 2 4) ∧ (μ'.1 23 2 = P) ∧ (μ'.1 23 5 = μ.1 23 5) ∧ (μ'.1 23 6 = μ.1 23 6) ∧ (μ'.1 23 7 = μ.1 23 7) ∧ (μ'.1 23 8 = tt) ∧ (μ'.1 23 10 = μ.1 23 10) ∧ (μ'.1 26 6 = μ.1 26 6) ∧ (μ'.1 26 7 = μ.1 26 7) ∧ (μ'.1 26 8 = μ.1 26 8) ∧ (μ'.1 26 9 = μ.1 26 9) ∧ (μ'.1 P 7 = μ.1 P 7) ∧ (IC μ') ∧ n_9 = Int.toNat (3000 - i9) ∧ lv_has ls 11 [(10, .int (iv i9)), (9, .int (iv m9)), (8, .int (iv c9)), (7, .int (iv f9)), (6, .int (iv 1)), (0, .ref (oP ω 23)), (1, .int (iv x1)), (2, .int (iv x2)), (3, .long (jv x3)), (5, .int (iv x4))]) (fun n_9 ρ μL1270 d0 H locs ls hI_l G ih => ?_) _ _ _ _ _ _ _ ⟨x4, 0, 1, 0, Fr.rf, (by omega), (by omega), (by omega), (by omega), (by omega), (by omega), (by omega), hp_843, (by omega), (by omega), (by omega), (by omega), (by omega), (fun h0 => (hpx_1269 h0).e (by omega)), (F_841.1 2 (by decide) 4), (hs_852.trans hP.symm), hs_853, hs_854, hs_855, (hs_856.trans htt.symm), hs_857, hs_848, hs_849, hs_850, hs_851, (F_841.1 P (ni hprP (fun P => P) (fun P => [26, 23]) rfl) 7), hI_842, rfl, lv_sub hl [0, 1, 2, 3, 4, 5, 6, 7, 8, 9] rfl⟩ G
      obtain ⟨f9, c9, m9, i9, FL1271, hi_1273, hi_1274, hi_1275, hi_1276, hi_1277, hi_1278, hi_1279, hi_1280, hi_1281, hi_1282, hi_1283, hi_1284, hi_1285, hi_1286, hi_1287, hi_1288, hi_1289, hi_1290, hi_1291, hi_1292, hi_1293, hi_1294, hi_1295, hi_1296, hi_1297, hi_1298, hi_1299, hn1272, hl⟩ := hI_l
      have htb_1300 := hi_1280.b
      refine lv_iload hx hb dX7_arguments_48 (lv_at hl 0 rfl) ?_
      refine lv_sipush (v := iv 3000) hx hb dX7_arguments_50 rfl ?_
      refine xb_icmp_ge (tgt := 115) hx hb (by unfold ir; omega) (by unfold ir; omega) dX7_arguments_53 (by decide) (fun c_53 => ?_) (fun c_53 => ?_)
      · refine lv_aload_n hx hb dX7_arguments_115 rfl (lv_at hl 5 rfl) ?_
        refine lv_bipush (v := iv 41) hx hb dX7_arguments_116 rfl ?_
        have hn_1301 : -1 ≤ μL1270.1 26 10 ∧ μL1270.1 26 10 ≤ 3000 := hi_1299.nm.2.2.2.2.2.2.2.2.2.2.2.2
        have e_1302 : μL1270.1 26 6 = μ.1 26 6 := hi_1294
        have e_1303 : μL1270.1 26 7 = μ.1 26 7 := hi_1295
        have e_1304 : μL1270.1 26 8 = μ.1 26 8 := hi_1296
        have e_1305 : μL1270.1 26 9 = μ.1 26 9 := hi_1297
        have e_1306 : μL1270.1 23 2 = P := hi_1288
        have e_1307 : μL1270.1 23 5 = μ.1 23 5 := hi_1289
        have e_1308 : μL1270.1 23 6 = μ.1 23 6 := hi_1290
        have e_1309 : μL1270.1 23 7 = μ.1 23 7 := hi_1291
        have e_1310 : μL1270.1 23 8 = tt := hi_1292
        have e_1311 : μL1270.1 23 10 = μ.1 23 10 := hi_1293
        refine xc_vV G (b := 23) (rest := []) (As := [.int (iv 41)]) (c_X7_needClosed ω l μL1270 41 (by unfold ir; omega) hi_1299 hi_1280 (by omega) (by omega)) (wm 3 214 rfl rfl) (wm 3 216 rfl rfl) (wm 0 18 rfl rfl) rfl rfl (by decide) rfl (wm 1 12 rfl rfl) (wm 3 217 rfl rfl) (by decide) hR ⟨nfr hF (by decide), nlo hLo (by decide)⟩ (n := 1) rfl rfl (Nat.le_of_ble_eq_true rfl) hl.1 dX7_arguments_118 (fun μ1312 ρ d0 H locs hp G => ?_)
        obtain ⟨F_1313, hI_1314, hp_1315, hp_1316, hp_1317, hs_1318, hs_1319, hs_1320, hs_1321, hs_1322, hs_1323, hs_1324, hs_1325, hs_1326, hs_1327, hs_1328⟩ := hp
        have hn_1329 : -1 ≤ μ1312.1 26 10 ∧ μ1312.1 26 10 ≤ 3000 := hI_1314.nm.2.2.2.2.2.2.2.2.2.2.2.2
        have htb_1330 := hp_1315.b
        refine lv_aload_n hx hb dX7_arguments_121 rfl (lv_at hl 5 rfl) ?_
        refine xa_getr G fd_X7 (a := 23) (x := P) 2 rfl (by decide) rfl (wm 2 19 rfl rfl) ⟨rfl, rfl, rfl⟩ dX7_arguments_122 rfl (hs_1323.trans hi_1288) (by omega) (hprP.hq ω ρ) ?_
        refine lv_iconst (v := iv 0) hx hb dX7_arguments_125 rfl ?_
        refine lv_lload_n hx hb dX7_arguments_126 rfl (lv_at hl 8 rfl) ?_
        refine lv_dconst0 hx hb dX7_arguments_127 ?_
        refine xb_topd (fun dd_1331 he_dd_1331 => ?_)
        have hpx_1332 : μ1312.1 26 11 = 0 → PXE μo μ1312 P tt (e + c9) f9 1 := fun h0 => (hi_1286 (by have h9 : μL1270.1 26 11 = μL1270.1 26 11 := rfl; have h8 : μ1312.1 26 11 = μ1312.1 26 11 := rfl; omega)).fr (K := [26, 23]) (Fr.tr Fr.rf F_1313 (by decide)) (npL_p (L := [26, 23]) (by decide) hprP).1 (npL_p (L := [26, 23]) (by decide) hprP).2.1
        have hk_1333 := hi_1299.row (r := P + 2) (hprP.row)
        unfold rk at hk_1333
        have e_1334 : μ1312.1 (P + 2) 3 = μL1270.1 (P + 2) 3 := (F_1313.1 (P + 2) (ni hprP (fun P => P + 2) (fun P => [26, 23]) rfl) 3)
        refine xc_iV G (b := P) (rest := []) (As := [.int (iv 0), .long (jv x3), .double (dv dd_1331)]) (c_X8_addConstant ω l μ1312 P 0 x3 dd_1331 (μL1270.1 (P + 2) 3) hprP (by unfold ir; omega) hx3 hI_1314 (by omega) (by omega)) (wm 4 67 rfl rfl) (wm 4 68 rfl rfl) (wm 4 69 rfl rfl) hprP.ly rfl (by decide) (hprP.hq ω ρ) (wm 1 9 rfl rfl) (wm 4 70 rfl rfl) (by decide) hR ⟨nfr hF (by decide), nlo hLo (by decide)⟩ (n := 3) rfl rfl (Nat.le_of_ble_eq_true rfl) hl.1 dX7_arguments_128 (fun r_1336 μ1335 ρ d0 H locs hr_r_1336 hp G => ?_)
        have hr_r_1336 : -2147483648 ≤ r_1336 ∧ r_1336 ≤ 2147483647 := hr_r_1336
        obtain ⟨F_1337, hI_1338, hp_1339, hp_1340⟩ := hp
        have hk_1341 := hI_1338.row (r := P + 2) (hprP.row)
        unfold rk at hk_1341
        refine lv_istore (lv' := [(10, .int (iv r_1336)), (9, .int (iv m9)), (8, .int (iv c9)), (7, .int (iv f9)), (6, .int (iv 1)), (0, .ref (oP ω 23)), (1, .int (iv x1)), (2, .int (iv x2)), (3, .long (jv x3)), (5, .int (iv x4))]) hx hb dX7_arguments_131 hl (by decide) rfl (fun ls hl => ?_)
        refine lv_aload_n hx hb dX7_arguments_133 rfl (lv_at hl 5 rfl) ?_
        refine lv_iload_n hx hb dX7_arguments_134 rfl (lv_at hl 6 rfl) ?_
        refine lv_iload hx hb dX7_arguments_135 (lv_at hl 2 rfl) ?_
        refine lv_iconst (v := iv 4) hx hb dX7_arguments_137 rfl ?_
        refine xb_imul hx hb dX7_arguments_138 ?_
        refine lv_iload_n hx hb dX7_arguments_139 rfl (lv_at hl 7 rfl) ?_
        refine xb_iadd hx hb dX7_arguments_140 ?_
        refine lv_iload hx hb dX7_arguments_141 (lv_at hl 0 rfl) ?_
        refine lv_iload hx hb dX7_arguments_143 (lv_at hl 3 rfl) ?_
        have hpx_1342 : μ1335.1 26 11 = 0 → PXE μo μ1335 P tt (e + c9) f9 1 := fun h0 => (hpx_1332 (by have h9 : μ1312.1 26 11 = μ1312.1 26 11 := rfl; have h8 : μ1335.1 26 11 = μ1312.1 26 11 := (F_1337.1 26 (ni hprP (fun P => 26) (fun P => [P + 2, (P + 2) + 1, (P + 2) + 2, (P + 2) + 3]) rfl) 11); omega)).fr (K := [P + 2, (P + 2) + 1, (P + 2) + 2, (P + 2) + 3]) (Fr.tr Fr.rf F_1337 (si hprP (fun P => [P + 2, (P + 2) + 1, (P + 2) + 2, (P + 2) + 3]) (fun P => [P + 2, (P + 2) + 1, (P + 2) + 2, (P + 2) + 3]) rfl)) (ni hprP (fun P => P) (fun P => [P + 2, (P + 2) + 1, (P + 2) + 2, (P + 2) + 3]) rfl) (ni hprP (fun P => P + 1) (fun P => [P + 2, (P + 2) + 1, (P + 2) + 2, (P + 2) + 3]) rfl)
        have e_1343 : μ1335.1 23 2 = P := ((F_1337.1 23 (ni hprP (fun P => 23) (fun P => [P + 2, (P + 2) + 1, (P + 2) + 2, (P + 2) + 3]) rfl) 2).trans (hs_1323.trans hi_1288))
        have e_1344 : μ1335.1 23 8 = tt := ((F_1337.1 23 (ni hprP (fun P => 23) (fun P => [P + 2, (P + 2) + 1, (P + 2) + 2, (P + 2) + 3]) rfl) 8).trans (hs_1327.trans hi_1292))
        have hk_1345 := hi_1299.pr (p := P) hprP
        unfold pk at hk_1345
        have hc_1346 : 16 ≤ μL1270.2.1 (P + 1) ∧ μL1270.2.1 (P + 1) ≤ 73024 := hi_1299.rm.1 _ hprP.cap
        have e_1347 : μ1335.1 P 1 = μL1270.1 P 1 := ((F_1337.1 P (ni hprP (fun P => P) (fun P => [P + 2, (P + 2) + 1, (P + 2) + 2, (P + 2) + 3]) rfl) 1).trans (F_1313.1 P (ni hprP (fun P => P) (fun P => [26, 23]) rfl) 1))
        have e_1348 : μ1335.1 P 1 = μL1270.1 P 1 := ((F_1337.1 P (ni hprP (fun P => P) (fun P => [P + 2, (P + 2) + 1, (P + 2) + 2, (P + 2) + 3]) rfl) 1).trans (F_1313.1 P (ni hprP (fun P => P) (fun P => [26, 23]) rfl) 1))
        have e_1349 : μ1335.1 P 7 = μ.1 P 7 := ((F_1337.1 P (ni hprP (fun P => P) (fun P => [P + 2, (P + 2) + 1, (P + 2) + 2, (P + 2) + 3]) rfl) 7).trans ((F_1313.1 P (ni hprP (fun P => P) (fun P => [26, 23]) rfl) 7).trans hi_1298))
        refine xc_vV G (b := 23) (rest := []) (As := [.int (iv x1), .int (iv ((c9 * 4) + x2)), .int (iv r_1336), .int (iv f9)]) (c_X7_endOfParts ω l μ1335 x1 ((c9 * 4) + x2) r_1336 f9 μo (e + c9) (1) P tt (by unfold ir; omega) (by unfold ir; omega) (by unfold ir; omega) (by unfold ir; omega) hI_1338 (by omega) (by omega) (by omega) hpx_1342 (Or.inr ⟨by omega, by omega, by omega⟩) (by omega) (by rcases heo with ⟨q1, q2⟩ | ⟨q1, q2⟩; (rw [q1, ef13 (by omega) hx2b]; omega); (rw [q1, ef14 (by omega) hx2b]; omega))) (wm 4 27 rfl rfl) (wm 4 29 rfl rfl) (wm 0 30 rfl rfl) rfl rfl (by decide) rfl (wm 1 12 rfl rfl) (wm 4 30 rfl rfl) (by decide) hR ⟨nfr hF (by decide), nlo hLo (by decide)⟩ (n := 4) rfl rfl (Nat.le_of_ble_eq_true rfl) hl.1 dX7_arguments_145 (fun μ1350 ρ d0 H locs hp G => ?_)
        obtain ⟨F_1351, hI_1352, hp_1353, hs_1354, hs_1355⟩ := hp
        have hpx_1356 : μ1350.1 26 11 = 0 → PXE μo μ1350 P tt 1 (-1) 1 := fun h0 => PXE.of (hp_1353 (by have h9 : μ1335.1 26 11 = μ1312.1 26 11 := (F_1337.1 26 (ni hprP (fun P => 26) (fun P => [P + 2, (P + 2) + 1, (P + 2) + 2, (P + 2) + 3]) rfl) 11); have h8 : μ1350.1 26 11 = μ1312.1 26 11 := ((F_1351.1 26 (ni hprP (fun P => 26) (fun P => [P, P + 1]) rfl) 11).trans (F_1337.1 26 (ni hprP (fun P => 26) (fun P => [P + 2, (P + 2) + 1, (P + 2) + 2, (P + 2) + 3]) rfl) 11)); omega))
        clear hp_1353
        have htk_1357 : TK μ1350 := hp_1315.fr (K := [P, P + 1, P + 2, (P + 2) + 1, (P + 2) + 2, (P + 2) + 3]) (Fr.tr (Fr.tr Fr.rf F_1337 (si hprP (fun P => [P + 2, (P + 2) + 1, (P + 2) + 2, (P + 2) + 3]) (fun P => [P, P + 1, P + 2, (P + 2) + 1, (P + 2) + 2, (P + 2) + 3]) rfl)) F_1351 (si hprP (fun P => [P, P + 1]) (fun P => [P, P + 1, P + 2, (P + 2) + 1, (P + 2) + 2, (P + 2) + 3]) rfl)) (ni hprP (fun P => 26) (fun P => [P, P + 1, P + 2, (P + 2) + 1, (P + 2) + 2, (P + 2) + 3]) rfl) (ni hprP (fun P => 28) (fun P => [P, P + 1, P + 2, (P + 2) + 1, (P + 2) + 2, (P + 2) + 3]) rfl)
        have e_1358 : μ1350.1 26 11 = μ1312.1 26 11 := ((F_1351.1 26 (ni hprP (fun P => 26) (fun P => [P, P + 1]) rfl) 11).trans (F_1337.1 26 (ni hprP (fun P => 26) (fun P => [P + 2, (P + 2) + 1, (P + 2) + 2, (P + 2) + 3]) rfl) 11))
        have e_1359 : μ1350.1 26 11 = μ1312.1 26 11 := ((F_1351.1 26 (ni hprP (fun P => 26) (fun P => [P, P + 1]) rfl) 11).trans (F_1337.1 26 (ni hprP (fun P => 26) (fun P => [P + 2, (P + 2) + 1, (P + 2) + 2, (P + 2) + 3]) rfl) 11))
        have e_1360 : μ1350.1 26 10 = μ1312.1 26 10 := ((F_1351.1 26 (ni hprP (fun P => 26) (fun P => [P, P + 1]) rfl) 10).trans (F_1337.1 26 (ni hprP (fun P => 26) (fun P => [P + 2, (P + 2) + 1, (P + 2) + 2, (P + 2) + 3]) rfl) 10))
        have e_1361 : μ1350.1 P 1 = μ1335.1 P 1 + 1 := hs_1354
        have e_1362 : μ1350.1 P 1 = μ1335.1 P 1 + 1 := hs_1354
        have e_1363 : μ1350.1 26 10 = μ1312.1 26 10 := ((F_1351.1 26 (ni hprP (fun P => 26) (fun P => [P, P + 1]) rfl) 10).trans (F_1337.1 26 (ni hprP (fun P => 26) (fun P => [P + 2, (P + 2) + 1, (P + 2) + 2, (P + 2) + 3]) rfl) 10))
        have e_1364 : μ1350.1 26 11 = μ1312.1 26 11 := ((F_1351.1 26 (ni hprP (fun P => 26) (fun P => [P, P + 1]) rfl) 11).trans (F_1337.1 26 (ni hprP (fun P => 26) (fun P => [P + 2, (P + 2) + 1, (P + 2) + 2, (P + 2) + 3]) rfl) 11))
        have e_1365 : μ1350.1 (P + 2) 3 = μ1335.1 (P + 2) 3 := (F_1351.1 (P + 2) (ni hprP (fun P => P + 2) (fun P => [P, P + 1]) rfl) 3)
        have e_1366 : μ1350.1 P 1 = μ1335.1 P 1 + 1 := hs_1354
        have e_1367 : μ1350.1 (P + 2) 3 = μ1335.1 (P + 2) 3 := (F_1351.1 (P + 2) (ni hprP (fun P => P + 2) (fun P => [P, P + 1]) rfl) 3)
        have e_1368 : μ1350.1 23 2 = P := ((F_1351.1 23 (ni hprP (fun P => 23) (fun P => [P, P + 1]) rfl) 2).trans ((F_1337.1 23 (ni hprP (fun P => 23) (fun P => [P + 2, (P + 2) + 1, (P + 2) + 2, (P + 2) + 3]) rfl) 2).trans (hs_1323.trans hi_1288)))
        have e_1369 : μ1350.1 23 5 = μ.1 23 5 := ((F_1351.1 23 (ni hprP (fun P => 23) (fun P => [P, P + 1]) rfl) 5).trans ((F_1337.1 23 (ni hprP (fun P => 23) (fun P => [P + 2, (P + 2) + 1, (P + 2) + 2, (P + 2) + 3]) rfl) 5).trans (hs_1324.trans hi_1289)))
        have e_1370 : μ1350.1 23 6 = μ.1 23 6 := ((F_1351.1 23 (ni hprP (fun P => 23) (fun P => [P, P + 1]) rfl) 6).trans ((F_1337.1 23 (ni hprP (fun P => 23) (fun P => [P + 2, (P + 2) + 1, (P + 2) + 2, (P + 2) + 3]) rfl) 6).trans (hs_1325.trans hi_1290)))
        have e_1371 : μ1350.1 23 7 = μ.1 23 7 := ((F_1351.1 23 (ni hprP (fun P => 23) (fun P => [P, P + 1]) rfl) 7).trans ((F_1337.1 23 (ni hprP (fun P => 23) (fun P => [P + 2, (P + 2) + 1, (P + 2) + 2, (P + 2) + 3]) rfl) 7).trans (hs_1326.trans hi_1291)))
        have e_1372 : μ1350.1 23 8 = tt := ((F_1351.1 23 (ni hprP (fun P => 23) (fun P => [P, P + 1]) rfl) 8).trans ((F_1337.1 23 (ni hprP (fun P => 23) (fun P => [P + 2, (P + 2) + 1, (P + 2) + 2, (P + 2) + 3]) rfl) 8).trans (hs_1327.trans hi_1292)))
        have e_1373 : μ1350.1 23 9 = μL1270.1 23 9 - 1 := ((F_1351.1 23 (ni hprP (fun P => 23) (fun P => [P, P + 1]) rfl) 9).trans ((F_1337.1 23 (ni hprP (fun P => 23) (fun P => [P + 2, (P + 2) + 1, (P + 2) + 2, (P + 2) + 3]) rfl) 9).trans hs_1318))
        have e_1374 : μ1350.1 23 10 = μ.1 23 10 := ((F_1351.1 23 (ni hprP (fun P => 23) (fun P => [P, P + 1]) rfl) 10).trans ((F_1337.1 23 (ni hprP (fun P => 23) (fun P => [P + 2, (P + 2) + 1, (P + 2) + 2, (P + 2) + 3]) rfl) 10).trans (hs_1328.trans hi_1293)))
        have e_1375 : μ1350.1 26 6 = μ.1 26 6 := ((F_1351.1 26 (ni hprP (fun P => 26) (fun P => [P, P + 1]) rfl) 6).trans ((F_1337.1 26 (ni hprP (fun P => 26) (fun P => [P + 2, (P + 2) + 1, (P + 2) + 2, (P + 2) + 3]) rfl) 6).trans (hs_1319.trans hi_1294)))
        have e_1376 : μ1350.1 P 7 = μ.1 P 7 := (hs_1355.trans ((F_1337.1 P (ni hprP (fun P => P) (fun P => [P + 2, (P + 2) + 1, (P + 2) + 2, (P + 2) + 3]) rfl) 7).trans ((F_1313.1 P (ni hprP (fun P => P) (fun P => [26, 23]) rfl) 7).trans hi_1298)))
        exact xr_v G hret hlk dX7_arguments_148 ⟨(Fr.tr (Fr.tr (Fr.tr (Fr.tr (Fr.tr Fr.rf F_841 (si hprP (fun P => [26, 23]) (fun P => [2, 3, 4, 23, 24, 26, P, P + 1, P + 2, (P + 2) + 1, (P + 2) + 2, (P + 2) + 3]) rfl)) FL1271 (si hprP (fun P => [2, 3, 4, 23, 24, 26, P, P + 1, P + 2, (P + 2) + 1, (P + 2) + 2, (P + 2) + 3]) (fun P => [2, 3, 4, 23, 24, 26, P, P + 1, P + 2, (P + 2) + 1, (P + 2) + 2, (P + 2) + 3]) rfl)) F_1313 (si hprP (fun P => [26, 23]) (fun P => [2, 3, 4, 23, 24, 26, P, P + 1, P + 2, (P + 2) + 1, (P + 2) + 2, (P + 2) + 3]) rfl)) F_1337 (si hprP (fun P => [P + 2, (P + 2) + 1, (P + 2) + 2, (P + 2) + 3]) (fun P => [2, 3, 4, 23, 24, 26, P, P + 1, P + 2, (P + 2) + 1, (P + 2) + 2, (P + 2) + 3]) rfl)) F_1351 (si hprP (fun P => [P, P + 1]) (fun P => [2, 3, 4, 23, 24, 26, P, P + 1, P + 2, (P + 2) + 1, (P + 2) + 2, (P + 2) + 3]) rfl)), hI_1352, htk_1357, (by omega), (by omega), (by omega), (by omega), (fun h0 => (PXE.ex (hpx_1356 h0)).e (by omega)), (by omega), (by omega), (by omega), (by omega), (by omega), (by omega), (by omega), (by omega), (by omega)⟩
      · refine lv_iload hx hb dX7_arguments_56 (lv_at hl 1 rfl) ?_
        refine xb_if_eq (tgt := 115) hx hb (by unfold ir; omega) dX7_arguments_58 (by decide) (fun c_58 => ?_) (fun c_58 => ?_)
        · refine lv_aload_n hx hb dX7_arguments_115 rfl (lv_at hl 5 rfl) ?_
          refine lv_bipush (v := iv 41) hx hb dX7_arguments_116 rfl ?_
          have hn_1377 : -1 ≤ μL1270.1 26 10 ∧ μL1270.1 26 10 ≤ 3000 := hi_1299.nm.2.2.2.2.2.2.2.2.2.2.2.2
          have e_1378 : μL1270.1 26 6 = μ.1 26 6 := hi_1294
          have e_1379 : μL1270.1 26 7 = μ.1 26 7 := hi_1295
          have e_1380 : μL1270.1 26 8 = μ.1 26 8 := hi_1296
          have e_1381 : μL1270.1 26 9 = μ.1 26 9 := hi_1297
          have e_1382 : μL1270.1 23 2 = P := hi_1288
          have e_1383 : μL1270.1 23 5 = μ.1 23 5 := hi_1289
          have e_1384 : μL1270.1 23 6 = μ.1 23 6 := hi_1290
          have e_1385 : μL1270.1 23 7 = μ.1 23 7 := hi_1291
          have e_1386 : μL1270.1 23 8 = tt := hi_1292
          have e_1387 : μL1270.1 23 10 = μ.1 23 10 := hi_1293
          refine xc_vV G (b := 23) (rest := []) (As := [.int (iv 41)]) (c_X7_needClosed ω l μL1270 41 (by unfold ir; omega) hi_1299 hi_1280 (by omega) (by omega)) (wm 3 214 rfl rfl) (wm 3 216 rfl rfl) (wm 0 18 rfl rfl) rfl rfl (by decide) rfl (wm 1 12 rfl rfl) (wm 3 217 rfl rfl) (by decide) hR ⟨nfr hF (by decide), nlo hLo (by decide)⟩ (n := 1) rfl rfl (Nat.le_of_ble_eq_true rfl) hl.1 dX7_arguments_118 (fun μ1388 ρ d0 H locs hp G => ?_)
          obtain ⟨F_1389, hI_1390, hp_1391, hp_1392, hp_1393, hs_1394, hs_1395, hs_1396, hs_1397, hs_1398, hs_1399, hs_1400, hs_1401, hs_1402, hs_1403, hs_1404⟩ := hp
          have hn_1405 : -1 ≤ μ1388.1 26 10 ∧ μ1388.1 26 10 ≤ 3000 := hI_1390.nm.2.2.2.2.2.2.2.2.2.2.2.2
          have htb_1406 := hp_1391.b
          refine lv_aload_n hx hb dX7_arguments_121 rfl (lv_at hl 5 rfl) ?_
          refine xa_getr G fd_X7 (a := 23) (x := P) 2 rfl (by decide) rfl (wm 2 19 rfl rfl) ⟨rfl, rfl, rfl⟩ dX7_arguments_122 rfl (hs_1399.trans hi_1288) (by omega) (hprP.hq ω ρ) ?_
          refine lv_iconst (v := iv 0) hx hb dX7_arguments_125 rfl ?_
          refine lv_lload_n hx hb dX7_arguments_126 rfl (lv_at hl 8 rfl) ?_
          refine lv_dconst0 hx hb dX7_arguments_127 ?_
          refine xb_topd (fun dd_1407 he_dd_1407 => ?_)
          have hpx_1408 : μ1388.1 26 11 = 0 → PXE μo μ1388 P tt (e + c9) f9 1 := fun h0 => (hi_1286 (by have h9 : μL1270.1 26 11 = μL1270.1 26 11 := rfl; have h8 : μ1388.1 26 11 = μ1388.1 26 11 := rfl; omega)).fr (K := [26, 23]) (Fr.tr Fr.rf F_1389 (by decide)) (npL_p (L := [26, 23]) (by decide) hprP).1 (npL_p (L := [26, 23]) (by decide) hprP).2.1
          have hk_1409 := hi_1299.row (r := P + 2) (hprP.row)
          unfold rk at hk_1409
          have e_1410 : μ1388.1 (P + 2) 3 = μL1270.1 (P + 2) 3 := (F_1389.1 (P + 2) (ni hprP (fun P => P + 2) (fun P => [26, 23]) rfl) 3)
          refine xc_iV G (b := P) (rest := []) (As := [.int (iv 0), .long (jv x3), .double (dv dd_1407)]) (c_X8_addConstant ω l μ1388 P 0 x3 dd_1407 (μL1270.1 (P + 2) 3) hprP (by unfold ir; omega) hx3 hI_1390 (by omega) (by omega)) (wm 4 67 rfl rfl) (wm 4 68 rfl rfl) (wm 4 69 rfl rfl) hprP.ly rfl (by decide) (hprP.hq ω ρ) (wm 1 9 rfl rfl) (wm 4 70 rfl rfl) (by decide) hR ⟨nfr hF (by decide), nlo hLo (by decide)⟩ (n := 3) rfl rfl (Nat.le_of_ble_eq_true rfl) hl.1 dX7_arguments_128 (fun r_1412 μ1411 ρ d0 H locs hr_r_1412 hp G => ?_)
          have hr_r_1412 : -2147483648 ≤ r_1412 ∧ r_1412 ≤ 2147483647 := hr_r_1412
          obtain ⟨F_1413, hI_1414, hp_1415, hp_1416⟩ := hp
          have hk_1417 := hI_1414.row (r := P + 2) (hprP.row)
          unfold rk at hk_1417
          refine lv_istore (lv' := [(10, .int (iv r_1412)), (9, .int (iv m9)), (8, .int (iv c9)), (7, .int (iv f9)), (6, .int (iv 1)), (0, .ref (oP ω 23)), (1, .int (iv x1)), (2, .int (iv x2)), (3, .long (jv x3)), (5, .int (iv x4))]) hx hb dX7_arguments_131 hl (by decide) rfl (fun ls hl => ?_)
          refine lv_aload_n hx hb dX7_arguments_133 rfl (lv_at hl 5 rfl) ?_
          refine lv_iload_n hx hb dX7_arguments_134 rfl (lv_at hl 6 rfl) ?_
          refine lv_iload hx hb dX7_arguments_135 (lv_at hl 2 rfl) ?_
          refine lv_iconst (v := iv 4) hx hb dX7_arguments_137 rfl ?_
          refine xb_imul hx hb dX7_arguments_138 ?_
          refine lv_iload_n hx hb dX7_arguments_139 rfl (lv_at hl 7 rfl) ?_
          refine xb_iadd hx hb dX7_arguments_140 ?_
          refine lv_iload hx hb dX7_arguments_141 (lv_at hl 0 rfl) ?_
          refine lv_iload hx hb dX7_arguments_143 (lv_at hl 3 rfl) ?_
          have hpx_1418 : μ1411.1 26 11 = 0 → PXE μo μ1411 P tt (e + c9) f9 1 := fun h0 => (hpx_1408 (by have h9 : μ1388.1 26 11 = μ1388.1 26 11 := rfl; have h8 : μ1411.1 26 11 = μ1388.1 26 11 := (F_1413.1 26 (ni hprP (fun P => 26) (fun P => [P + 2, (P + 2) + 1, (P + 2) + 2, (P + 2) + 3]) rfl) 11); omega)).fr (K := [P + 2, (P + 2) + 1, (P + 2) + 2, (P + 2) + 3]) (Fr.tr Fr.rf F_1413 (si hprP (fun P => [P + 2, (P + 2) + 1, (P + 2) + 2, (P + 2) + 3]) (fun P => [P + 2, (P + 2) + 1, (P + 2) + 2, (P + 2) + 3]) rfl)) (ni hprP (fun P => P) (fun P => [P + 2, (P + 2) + 1, (P + 2) + 2, (P + 2) + 3]) rfl) (ni hprP (fun P => P + 1) (fun P => [P + 2, (P + 2) + 1, (P + 2) + 2, (P + 2) + 3]) rfl)
          have e_1419 : μ1411.1 23 2 = P := ((F_1413.1 23 (ni hprP (fun P => 23) (fun P => [P + 2, (P + 2) + 1, (P + 2) + 2, (P + 2) + 3]) rfl) 2).trans (hs_1399.trans hi_1288))
          have e_1420 : μ1411.1 23 8 = tt := ((F_1413.1 23 (ni hprP (fun P => 23) (fun P => [P + 2, (P + 2) + 1, (P + 2) + 2, (P + 2) + 3]) rfl) 8).trans (hs_1403.trans hi_1292))
          have hk_1421 := hi_1299.pr (p := P) hprP
          unfold pk at hk_1421
          have hc_1422 : 16 ≤ μL1270.2.1 (P + 1) ∧ μL1270.2.1 (P + 1) ≤ 73024 := hi_1299.rm.1 _ hprP.cap
          have e_1423 : μ1411.1 P 1 = μL1270.1 P 1 := ((F_1413.1 P (ni hprP (fun P => P) (fun P => [P + 2, (P + 2) + 1, (P + 2) + 2, (P + 2) + 3]) rfl) 1).trans (F_1389.1 P (ni hprP (fun P => P) (fun P => [26, 23]) rfl) 1))
          have e_1424 : μ1411.1 P 1 = μL1270.1 P 1 := ((F_1413.1 P (ni hprP (fun P => P) (fun P => [P + 2, (P + 2) + 1, (P + 2) + 2, (P + 2) + 3]) rfl) 1).trans (F_1389.1 P (ni hprP (fun P => P) (fun P => [26, 23]) rfl) 1))
          have e_1425 : μ1411.1 P 7 = μ.1 P 7 := ((F_1413.1 P (ni hprP (fun P => P) (fun P => [P + 2, (P + 2) + 1, (P + 2) + 2, (P + 2) + 3]) rfl) 7).trans ((F_1389.1 P (ni hprP (fun P => P) (fun P => [26, 23]) rfl) 7).trans hi_1298))
          refine xc_vV G (b := 23) (rest := []) (As := [.int (iv x1), .int (iv ((c9 * 4) + x2)), .int (iv r_1412), .int (iv f9)]) (c_X7_endOfParts ω l μ1411 x1 ((c9 * 4) + x2) r_1412 f9 μo (e + c9) (1) P tt (by unfold ir; omega) (by unfold ir; omega) (by unfold ir; omega) (by unfold ir; omega) hI_1414 (by omega) (by omega) (by omega) hpx_1418 (Or.inr ⟨by omega, by omega, by omega⟩) (by omega) (by rcases heo with ⟨q1, q2⟩ | ⟨q1, q2⟩; (rw [q1, ef13 (by omega) hx2b]; omega); (rw [q1, ef14 (by omega) hx2b]; omega))) (wm 4 27 rfl rfl) (wm 4 29 rfl rfl) (wm 0 30 rfl rfl) rfl rfl (by decide) rfl (wm 1 12 rfl rfl) (wm 4 30 rfl rfl) (by decide) hR ⟨nfr hF (by decide), nlo hLo (by decide)⟩ (n := 4) rfl rfl (Nat.le_of_ble_eq_true rfl) hl.1 dX7_arguments_145 (fun μ1426 ρ d0 H locs hp G => ?_)
          obtain ⟨F_1427, hI_1428, hp_1429, hs_1430, hs_1431⟩ := hp
          have hpx_1432 : μ1426.1 26 11 = 0 → PXE μo μ1426 P tt 1 (-1) 1 := fun h0 => PXE.of (hp_1429 (by have h9 : μ1411.1 26 11 = μ1388.1 26 11 := (F_1413.1 26 (ni hprP (fun P => 26) (fun P => [P + 2, (P + 2) + 1, (P + 2) + 2, (P + 2) + 3]) rfl) 11); have h8 : μ1426.1 26 11 = μ1388.1 26 11 := ((F_1427.1 26 (ni hprP (fun P => 26) (fun P => [P, P + 1]) rfl) 11).trans (F_1413.1 26 (ni hprP (fun P => 26) (fun P => [P + 2, (P + 2) + 1, (P + 2) + 2, (P + 2) + 3]) rfl) 11)); omega))
          clear hp_1429
          have htk_1433 : TK μ1426 := hp_1391.fr (K := [P, P + 1, P + 2, (P + 2) + 1, (P + 2) + 2, (P + 2) + 3]) (Fr.tr (Fr.tr Fr.rf F_1413 (si hprP (fun P => [P + 2, (P + 2) + 1, (P + 2) + 2, (P + 2) + 3]) (fun P => [P, P + 1, P + 2, (P + 2) + 1, (P + 2) + 2, (P + 2) + 3]) rfl)) F_1427 (si hprP (fun P => [P, P + 1]) (fun P => [P, P + 1, P + 2, (P + 2) + 1, (P + 2) + 2, (P + 2) + 3]) rfl)) (ni hprP (fun P => 26) (fun P => [P, P + 1, P + 2, (P + 2) + 1, (P + 2) + 2, (P + 2) + 3]) rfl) (ni hprP (fun P => 28) (fun P => [P, P + 1, P + 2, (P + 2) + 1, (P + 2) + 2, (P + 2) + 3]) rfl)
          have e_1434 : μ1426.1 26 11 = μ1388.1 26 11 := ((F_1427.1 26 (ni hprP (fun P => 26) (fun P => [P, P + 1]) rfl) 11).trans (F_1413.1 26 (ni hprP (fun P => 26) (fun P => [P + 2, (P + 2) + 1, (P + 2) + 2, (P + 2) + 3]) rfl) 11))
          have e_1435 : μ1426.1 26 11 = μ1388.1 26 11 := ((F_1427.1 26 (ni hprP (fun P => 26) (fun P => [P, P + 1]) rfl) 11).trans (F_1413.1 26 (ni hprP (fun P => 26) (fun P => [P + 2, (P + 2) + 1, (P + 2) + 2, (P + 2) + 3]) rfl) 11))
          have e_1436 : μ1426.1 26 10 = μ1388.1 26 10 := ((F_1427.1 26 (ni hprP (fun P => 26) (fun P => [P, P + 1]) rfl) 10).trans (F_1413.1 26 (ni hprP (fun P => 26) (fun P => [P + 2, (P + 2) + 1, (P + 2) + 2, (P + 2) + 3]) rfl) 10))
          have e_1437 : μ1426.1 P 1 = μ1411.1 P 1 + 1 := hs_1430
          have e_1438 : μ1426.1 P 1 = μ1411.1 P 1 + 1 := hs_1430
          have e_1439 : μ1426.1 26 10 = μ1388.1 26 10 := ((F_1427.1 26 (ni hprP (fun P => 26) (fun P => [P, P + 1]) rfl) 10).trans (F_1413.1 26 (ni hprP (fun P => 26) (fun P => [P + 2, (P + 2) + 1, (P + 2) + 2, (P + 2) + 3]) rfl) 10))
          have e_1440 : μ1426.1 26 11 = μ1388.1 26 11 := ((F_1427.1 26 (ni hprP (fun P => 26) (fun P => [P, P + 1]) rfl) 11).trans (F_1413.1 26 (ni hprP (fun P => 26) (fun P => [P + 2, (P + 2) + 1, (P + 2) + 2, (P + 2) + 3]) rfl) 11))
          have e_1441 : μ1426.1 (P + 2) 3 = μ1411.1 (P + 2) 3 := (F_1427.1 (P + 2) (ni hprP (fun P => P + 2) (fun P => [P, P + 1]) rfl) 3)
          have e_1442 : μ1426.1 P 1 = μ1411.1 P 1 + 1 := hs_1430
          have e_1443 : μ1426.1 (P + 2) 3 = μ1411.1 (P + 2) 3 := (F_1427.1 (P + 2) (ni hprP (fun P => P + 2) (fun P => [P, P + 1]) rfl) 3)
          have e_1444 : μ1426.1 23 2 = P := ((F_1427.1 23 (ni hprP (fun P => 23) (fun P => [P, P + 1]) rfl) 2).trans ((F_1413.1 23 (ni hprP (fun P => 23) (fun P => [P + 2, (P + 2) + 1, (P + 2) + 2, (P + 2) + 3]) rfl) 2).trans (hs_1399.trans hi_1288)))
          have e_1445 : μ1426.1 23 5 = μ.1 23 5 := ((F_1427.1 23 (ni hprP (fun P => 23) (fun P => [P, P + 1]) rfl) 5).trans ((F_1413.1 23 (ni hprP (fun P => 23) (fun P => [P + 2, (P + 2) + 1, (P + 2) + 2, (P + 2) + 3]) rfl) 5).trans (hs_1400.trans hi_1289)))
          have e_1446 : μ1426.1 23 6 = μ.1 23 6 := ((F_1427.1 23 (ni hprP (fun P => 23) (fun P => [P, P + 1]) rfl) 6).trans ((F_1413.1 23 (ni hprP (fun P => 23) (fun P => [P + 2, (P + 2) + 1, (P + 2) + 2, (P + 2) + 3]) rfl) 6).trans (hs_1401.trans hi_1290)))
          have e_1447 : μ1426.1 23 7 = μ.1 23 7 := ((F_1427.1 23 (ni hprP (fun P => 23) (fun P => [P, P + 1]) rfl) 7).trans ((F_1413.1 23 (ni hprP (fun P => 23) (fun P => [P + 2, (P + 2) + 1, (P + 2) + 2, (P + 2) + 3]) rfl) 7).trans (hs_1402.trans hi_1291)))
          have e_1448 : μ1426.1 23 8 = tt := ((F_1427.1 23 (ni hprP (fun P => 23) (fun P => [P, P + 1]) rfl) 8).trans ((F_1413.1 23 (ni hprP (fun P => 23) (fun P => [P + 2, (P + 2) + 1, (P + 2) + 2, (P + 2) + 3]) rfl) 8).trans (hs_1403.trans hi_1292)))
          have e_1449 : μ1426.1 23 9 = μL1270.1 23 9 - 1 := ((F_1427.1 23 (ni hprP (fun P => 23) (fun P => [P, P + 1]) rfl) 9).trans ((F_1413.1 23 (ni hprP (fun P => 23) (fun P => [P + 2, (P + 2) + 1, (P + 2) + 2, (P + 2) + 3]) rfl) 9).trans hs_1394))
          have e_1450 : μ1426.1 23 10 = μ.1 23 10 := ((F_1427.1 23 (ni hprP (fun P => 23) (fun P => [P, P + 1]) rfl) 10).trans ((F_1413.1 23 (ni hprP (fun P => 23) (fun P => [P + 2, (P + 2) + 1, (P + 2) + 2, (P + 2) + 3]) rfl) 10).trans (hs_1404.trans hi_1293)))
          have e_1451 : μ1426.1 26 6 = μ.1 26 6 := ((F_1427.1 26 (ni hprP (fun P => 26) (fun P => [P, P + 1]) rfl) 6).trans ((F_1413.1 26 (ni hprP (fun P => 26) (fun P => [P + 2, (P + 2) + 1, (P + 2) + 2, (P + 2) + 3]) rfl) 6).trans (hs_1395.trans hi_1294)))
          have e_1452 : μ1426.1 P 7 = μ.1 P 7 := (hs_1431.trans ((F_1413.1 P (ni hprP (fun P => P) (fun P => [P + 2, (P + 2) + 1, (P + 2) + 2, (P + 2) + 3]) rfl) 7).trans ((F_1389.1 P (ni hprP (fun P => P) (fun P => [26, 23]) rfl) 7).trans hi_1298)))
          exact xr_v G hret hlk dX7_arguments_148 ⟨(Fr.tr (Fr.tr (Fr.tr (Fr.tr (Fr.tr Fr.rf F_841 (si hprP (fun P => [26, 23]) (fun P => [2, 3, 4, 23, 24, 26, P, P + 1, P + 2, (P + 2) + 1, (P + 2) + 2, (P + 2) + 3]) rfl)) FL1271 (si hprP (fun P => [2, 3, 4, 23, 24, 26, P, P + 1, P + 2, (P + 2) + 1, (P + 2) + 2, (P + 2) + 3]) (fun P => [2, 3, 4, 23, 24, 26, P, P + 1, P + 2, (P + 2) + 1, (P + 2) + 2, (P + 2) + 3]) rfl)) F_1389 (si hprP (fun P => [26, 23]) (fun P => [2, 3, 4, 23, 24, 26, P, P + 1, P + 2, (P + 2) + 1, (P + 2) + 2, (P + 2) + 3]) rfl)) F_1413 (si hprP (fun P => [P + 2, (P + 2) + 1, (P + 2) + 2, (P + 2) + 3]) (fun P => [2, 3, 4, 23, 24, 26, P, P + 1, P + 2, (P + 2) + 1, (P + 2) + 2, (P + 2) + 3]) rfl)) F_1427 (si hprP (fun P => [P, P + 1]) (fun P => [2, 3, 4, 23, 24, 26, P, P + 1, P + 2, (P + 2) + 1, (P + 2) + 2, (P + 2) + 3]) rfl)), hI_1428, htk_1433, (by omega), (by omega), (by omega), (by omega), (fun h0 => (PXE.ex (hpx_1432 h0)).e (by omega)), (by omega), (by omega), (by omega), (by omega), (by omega), (by omega), (by omega), (by omega), (by omega)⟩
        · refine lv_iload hx hb dX7_arguments_61 (lv_at hl 2 rfl) ?_
          refine lv_bipush (v := iv 8) hx hb dX7_arguments_63 rfl ?_
          refine xb_icmp_lt (tgt := 80) hx hb (by unfold ir; omega) (by unfold ir; omega) dX7_arguments_65 (by decide) (fun c_65 => ?_) (fun c_65 => ?_)
          · refine lv_aload_n hx hb dX7_arguments_80 rfl (lv_at hl 5 rfl) ?_
            refine lv_iconst (v := iv 0) hx hb dX7_arguments_81 rfl ?_
            have e_1453 : μL1270.1 23 2 = P := hi_1288
            have e_1454 : μL1270.1 23 8 = tt := hi_1292
            have hk_1455 := hi_1299.pr (p := P) hprP
            unfold pk at hk_1455
            have hc_1456 : 16 ≤ μL1270.2.1 (P + 1) ∧ μL1270.2.1 (P + 1) ≤ 73024 := hi_1299.rm.1 _ hprP.cap
            have hn_1457 : -1 ≤ μL1270.1 26 10 ∧ μL1270.1 26 10 ≤ 3000 := hi_1299.nm.2.2.2.2.2.2.2.2.2.2.2.2
            have hk_1458 := hi_1299.row (r := P + 2) (hprP.row)
            unfold rk at hk_1458
            have e_1459 : μL1270.1 23 2 = P := hi_1288
            have e_1460 : μL1270.1 23 5 = μ.1 23 5 := hi_1289
            have e_1461 : μL1270.1 23 6 = μ.1 23 6 := hi_1290
            have e_1462 : μL1270.1 23 7 = μ.1 23 7 := hi_1291
            have e_1463 : μL1270.1 23 8 = tt := hi_1292
            have e_1464 : μL1270.1 23 10 = μ.1 23 10 := hi_1293
            have e_1465 : μL1270.1 26 6 = μ.1 26 6 := hi_1294
            have e_1466 : μL1270.1 P 7 = μ.1 P 7 := hi_1298
            refine xc_vV G (b := 23) (rest := []) (As := [.int (iv 0)]) (((fun (_ : Om) (_ : Launch) => hE)) ω l μL1270 0 P tt (by omega) hi_1299 (by omega) (by omega) hi_1280 (by omega) (by omega) (by omega) (by omega) (by omega)) (wm 4 3 rfl rfl) (wm 4 5 rfl rfl) (wm 0 24 rfl rfl) rfl rfl (by decide) rfl (wm 1 12 rfl rfl) (wm 4 6 rfl rfl) (by decide) hR ⟨sfr (F := F) (a := 0) (by decide), slo (L := Lo) (m := 3) (a := 0) (by decide)⟩ (n := 1) rfl rfl (Nat.le_of_ble_eq_true rfl) hl.1 dX7_arguments_82 (fun μ1467 ρ d0 H locs hp G => ?_)
            obtain ⟨F_1468, hI_1469, hp_1470, hp_1471, hp_1472, hp_1473, hp_1474, hp_1475, hs_1476, hs_1477, hs_1478, hs_1479, hs_1480, hs_1481, hs_1482, hs_1483, hs_1484⟩ := hp
            have hn_1485 : -1 ≤ μ1467.1 26 10 ∧ μ1467.1 26 10 ≤ 3000 := hI_1469.nm.2.2.2.2.2.2.2.2.2.2.2.2
            have hk_1486 := hI_1469.pr (p := P) hprP
            unfold pk at hk_1486
            have hc_1487 : 16 ≤ μ1467.2.1 (P + 1) ∧ μ1467.2.1 (P + 1) ≤ 73024 := hI_1469.rm.1 _ hprP.cap
            have hk_1488 := hI_1469.row (r := P + 2) (hprP.row)
            unfold rk at hk_1488
            have htb_1489 := hp_1470.b
            have hpx_1490 : μ1467.1 26 11 = 0 → PXE μo μ1467 P tt ((e + c9) + (1 - 0)) f9 1 := fun h0 => (PXE.app (hi_1286 (by have h9 : μL1270.1 26 11 = μL1270.1 26 11 := rfl; have h8 : μ1467.1 26 11 = μ1467.1 26 11 := rfl; omega)) (hp_1475 h0)).e (by omega)
            refine lv_aload_n hx hb dX7_arguments_85 rfl (lv_at hl 5 rfl) ?_
            refine lv_iload hx hb dX7_arguments_86 (lv_at hl 3 rfl) ?_
            refine lv_iload hx hb dX7_arguments_88 (lv_at hl 4 rfl) ?_
            refine lv_iload hx hb dX7_arguments_90 (lv_at hl 2 rfl) ?_
            refine xb_iadd hx hb dX7_arguments_92 ?_
            have e_1491 : μ1467.1 23 2 = P := (hs_1476.trans hi_1288)
            have e_1492 : μ1467.1 23 8 = tt := (hs_1480.trans hi_1292)
            have e_1493 : μ1467.1 P 7 = μ.1 P 7 := (hs_1484.trans hi_1298)
            refine xc_iV G (b := 23) (rest := []) (As := [.int (iv f9), .int (iv (1 + c9))]) (c_X7_ifFails ω l μ1467 f9 (1 + c9) μo ((e + c9) + (1 - 0)) (1) P tt (by unfold ir; omega) (by unfold ir; omega) hI_1469 (by omega) (by omega) (by omega) hpx_1490 (by omega) (by omega)) (wm 4 23 rfl rfl) (wm 4 25 rfl rfl) (wm 0 29 rfl rfl) rfl rfl (by decide) rfl (wm 1 12 rfl rfl) (wm 4 26 rfl rfl) (by decide) hR ⟨nfr hF (by decide), nlo hLo (by decide)⟩ (n := 2) rfl rfl (Nat.le_of_ble_eq_true rfl) hl.1 dX7_arguments_93 (fun r_1495 μ1494 ρ d0 H locs hr_r_1495 hp G => ?_)
            have hr_r_1495 : -2147483648 ≤ r_1495 ∧ r_1495 ≤ 2147483647 := hr_r_1495
            obtain ⟨F_1496, hI_1497, hp_1498, hp_1499, hs_1500⟩ := hp
            have hk_1501 := hI_1497.pr (p := P) hprP
            unfold pk at hk_1501
            have hc_1502 : 16 ≤ μ1494.2.1 (P + 1) ∧ μ1494.2.1 (P + 1) ≤ 73024 := hI_1497.rm.1 _ hprP.cap
            have hpx_1503 : μ1494.1 26 11 = 0 → PXE μo μ1494 P tt ((e + c9) + (1 - 0)) r_1495 1 := fun h0 => hp_1498 (by have h9 : μ1467.1 26 11 = μ1467.1 26 11 := rfl; have h8 : μ1494.1 26 11 = μ1467.1 26 11 := (F_1496.1 26 (ni hprP (fun P => 26) (fun P => [P, P + 1]) rfl) 11); omega)
            clear hp_1498
            refine lv_istore (lv' := [(7, .int (iv r_1495)), (10, .int (iv i9)), (9, .int (iv m9)), (8, .int (iv c9)), (6, .int (iv 1)), (0, .ref (oP ω 23)), (1, .int (iv x1)), (2, .int (iv x2)), (3, .long (jv x3)), (5, .int (iv x4))]) hx hb dX7_arguments_96 hl (by decide) rfl (fun ls hl => ?_)
            refine lv_iinc (v := iv (c9 + 1)) (lv' := [(8, .int (iv (c9 + 1))), (7, .int (iv r_1495)), (10, .int (iv i9)), (9, .int (iv m9)), (6, .int (iv 1)), (0, .ref (oP ω 23)), (1, .int (iv x1)), (2, .int (iv x2)), (3, .long (jv x3)), (5, .int (iv x4))]) hx hb dX7_arguments_98 hl (k := 3) rfl (by rw [show Int32.ofInt 1 = iv 1 from rfl, iv_add]) (by decide) rfl (fun ls hl => ?_)
            refine lv_aload_n hx hb dX7_arguments_101 rfl (lv_at hl 5 rfl) ?_
            refine lv_bipush (v := iv 44) hx hb dX7_arguments_102 rfl ?_
            have htk_1504 : TK μ1494 := hp_1470.fr (K := [P, P + 1]) (Fr.tr Fr.rf F_1496 (si hprP (fun P => [P, P + 1]) (fun P => [P, P + 1]) rfl)) (ni hprP (fun P => 26) (fun P => [P, P + 1]) rfl) (ni hprP (fun P => 28) (fun P => [P, P + 1]) rfl)
            have e_1505 : μ1494.1 26 12 = μ1467.1 26 12 := (F_1496.1 26 (ni hprP (fun P => 26) (fun P => [P, P + 1]) rfl) 12)
            have e_1506 : μ1494.1 26 10 = μ1467.1 26 10 := (F_1496.1 26 (ni hprP (fun P => 26) (fun P => [P, P + 1]) rfl) 10)
            have e_1507 : μ1494.1 26 11 = μ1467.1 26 11 := (F_1496.1 26 (ni hprP (fun P => 26) (fun P => [P, P + 1]) rfl) 11)
            have e_1508 : μ1494.1 26 12 = μ1467.1 26 12 := (F_1496.1 26 (ni hprP (fun P => 26) (fun P => [P, P + 1]) rfl) 12)
            have e_1509 : μ1494.1 26 10 = μ1467.1 26 10 := (F_1496.1 26 (ni hprP (fun P => 26) (fun P => [P, P + 1]) rfl) 10)
            have e_1510 : μ1494.1 26 12 = μ1467.1 26 12 := (F_1496.1 26 (ni hprP (fun P => 26) (fun P => [P, P + 1]) rfl) 12)
            have e_1511 : μ1494.1 26 11 = μ1467.1 26 11 := (F_1496.1 26 (ni hprP (fun P => 26) (fun P => [P, P + 1]) rfl) 11)
            have e_1512 : μ1494.1 26 6 = μ.1 26 6 := ((F_1496.1 26 (ni hprP (fun P => 26) (fun P => [P, P + 1]) rfl) 6).trans (hs_1483.trans hi_1294))
            have hn_1513 : 0 ≤ μ1467.1 26 7 ∧ μ1467.1 26 7 ≤ 3000 := hI_1469.nm.2.2.2.2.2.2.2.2.2.2.1
            have e_1514 : μ1494.1 26 7 = μ1467.1 26 7 := (F_1496.1 26 (ni hprP (fun P => 26) (fun P => [P, P + 1]) rfl) 7)
            have e_1515 : μ1494.1 26 8 = μ1467.1 26 8 := (F_1496.1 26 (ni hprP (fun P => 26) (fun P => [P, P + 1]) rfl) 8)
            have hn_1516 : 0 ≤ μ1467.1 26 9 ∧ μ1467.1 26 9 ≤ 3000 := hI_1469.nm.2.2.2.2.2.2.2.2.2.2.2.1
            have e_1517 : μ1494.1 26 9 = μ1467.1 26 9 := (F_1496.1 26 (ni hprP (fun P => 26) (fun P => [P, P + 1]) rfl) 9)
            refine xc_iV G (b := 23) (rest := []) (As := [.int (iv 44)]) (c_X7_took ω l μ1494 44 (by unfold ir; omega) hI_1497 htk_1504 (by omega)) (wm 3 160 rfl rfl) (wm 3 162 rfl rfl) (wm 0 9 rfl rfl) rfl rfl (by decide) rfl (wm 1 12 rfl rfl) (wm 3 163 rfl rfl) (by decide) hR ⟨nfr hF (by decide), nlo hLo (by decide)⟩ (n := 1) rfl rfl (Nat.le_of_ble_eq_true rfl) hl.1 dX7_arguments_104 (fun r_1519 μ1518 ρ d0 H locs hr_r_1519 hp G => ?_)
            have hr_r_1519 : -2147483648 ≤ r_1519 ∧ r_1519 ≤ 2147483647 := hr_r_1519
            obtain ⟨F_1520, hI_1521, hp_1522, hp_1523, hs_1524, hs_1525, hs_1526, hs_1527, hs_1528⟩ := hp
            have hn_1529 : -1 ≤ μ1518.1 26 10 ∧ μ1518.1 26 10 ≤ 3000 := hI_1521.nm.2.2.2.2.2.2.2.2.2.2.2.2
            have htb_1530 := hp_1522.b
            refine lv_istore (lv' := [(9, .int (iv r_1519)), (8, .int (iv (c9 + 1))), (7, .int (iv r_1495)), (10, .int (iv i9)), (6, .int (iv 1)), (0, .ref (oP ω 23)), (1, .int (iv x1)), (2, .int (iv x2)), (3, .long (jv x3)), (5, .int (iv x4))]) hx hb dX7_arguments_107 hl (by decide) rfl (fun ls hl => ?_)
            refine lv_iinc (v := iv (i9 + 1)) (lv' := [(10, .int (iv (i9 + 1))), (9, .int (iv r_1519)), (8, .int (iv (c9 + 1))), (7, .int (iv r_1495)), (6, .int (iv 1)), (0, .ref (oP ω 23)), (1, .int (iv x1)), (2, .int (iv x2)), (3, .long (jv x3)), (5, .int (iv x4))]) hx hb dX7_arguments_109 hl (k := 3) rfl (by rw [show Int32.ofInt 1 = iv 1 from rfl, iv_add]) (by decide) rfl (fun ls hl => ?_)
            refine lv_goto (tgt := 48) hx hb dX7_arguments_112 (by decide) ?_
            have e_1531 : μ1518.1 26 11 = μ1467.1 26 11 := (hs_1524.trans (F_1496.1 26 (ni hprP (fun P => 26) (fun P => [P, P + 1]) rfl) 11))
            have e_1532 : μ1518.1 P 1 = μ1494.1 P 1 := (F_1520.1 P (ni hprP (fun P => P) (fun P => [26]) rfl) 1)
            have e_1533 : μ1518.1 P 1 = μ1494.1 P 1 := (F_1520.1 P (ni hprP (fun P => P) (fun P => [26]) rfl) 1)
            have e_1534 : μ1518.1 26 11 = μ1467.1 26 11 := (hs_1524.trans (F_1496.1 26 (ni hprP (fun P => 26) (fun P => [P, P + 1]) rfl) 11))
            have e_1535 : μ1518.1 P 1 = μ1494.1 P 1 := (F_1520.1 P (ni hprP (fun P => P) (fun P => [26]) rfl) 1)
            have e_1536 : μ1518.1 (P + 2) 3 = μ1467.1 (P + 2) 3 := ((F_1520.1 (P + 2) (ni hprP (fun P => P + 2) (fun P => [26]) rfl) 3).trans (F_1496.1 (P + 2) (ni hprP (fun P => P + 2) (fun P => [P, P + 1]) rfl) 3))
            have e_1537 : μ1518.1 P 1 = μ1494.1 P 1 := (F_1520.1 P (ni hprP (fun P => P) (fun P => [26]) rfl) 1)
            have e_1538 : μ1518.1 (P + 2) 3 = μ1467.1 (P + 2) 3 := ((F_1520.1 (P + 2) (ni hprP (fun P => P + 2) (fun P => [26]) rfl) 3).trans (F_1496.1 (P + 2) (ni hprP (fun P => P + 2) (fun P => [P, P + 1]) rfl) 3))
            have hpx_1539 : μ1518.1 26 11 = 0 → PXE μo μ1518 P tt ((e + c9) + (1 - 0)) r_1495 1 := fun h0 => (hpx_1503 (by have h9 : μ1494.1 26 11 = μ1467.1 26 11 := (F_1496.1 26 (ni hprP (fun P => 26) (fun P => [P, P + 1]) rfl) 11); have h8 : μ1518.1 26 11 = μ1467.1 26 11 := (hs_1524.trans (F_1496.1 26 (ni hprP (fun P => 26) (fun P => [P, P + 1]) rfl) 11)); omega)).fr (K := [26]) (Fr.tr Fr.rf F_1520 (by decide)) (npL_p (L := [26]) (by decide) hprP).1 (npL_p (L := [26]) (by decide) hprP).2.1
            have e_1540 : μ1518.1 2 4 = μ1467.1 2 4 := ((F_1520.1 2 (by decide) 4).trans (F_1496.1 2 (ni hprP (fun P => 2) (fun P => [P, P + 1]) rfl) 4))
            have e_1541 : μ1518.1 26 7 = μ1467.1 26 7 := (hs_1526.trans (F_1496.1 26 (ni hprP (fun P => 26) (fun P => [P, P + 1]) rfl) 7))
            have e_1542 : μ1518.1 26 8 = μ1467.1 26 8 := (hs_1527.trans (F_1496.1 26 (ni hprP (fun P => 26) (fun P => [P, P + 1]) rfl) 8))
            have e_1543 : μ1518.1 26 9 = μ1467.1 26 9 := (hs_1528.trans (F_1496.1 26 (ni hprP (fun P => 26) (fun P => [P, P + 1]) rfl) 9))
            exact ih _ _ _ _ _ _ _ (by omega) ⟨r_1495, c9 + 1, r_1519, i9 + 1, (Fr.tr (Fr.tr (Fr.tr FL1271 F_1468 (si hprP (fun P => [2, 3, 4, 23, 24, 26, P, P + 1, P + 2, (P + 2) + 1, (P + 2) + 2, (P + 2) + 3]) (fun P => [2, 3, 4, 23, 24, 26, P, P + 1, P + 2, (P + 2) + 1, (P + 2) + 2, (P + 2) + 3]) rfl)) F_1496 (si hprP (fun P => [P, P + 1]) (fun P => [2, 3, 4, 23, 24, 26, P, P + 1, P + 2, (P + 2) + 1, (P + 2) + 2, (P + 2) + 3]) rfl)) F_1520 (si hprP (fun P => [26]) (fun P => [2, 3, 4, 23, 24, 26, P, P + 1, P + 2, (P + 2) + 1, (P + 2) + 2, (P + 2) + 3]) rfl)), (by omega), (by omega), (by omega), (by omega), (by omega), (by omega), (by omega), hp_1522, (by omega), (by omega), (by omega), (by omega), (by omega), (fun h0 => (hpx_1539 h0).e (by omega)), (by omega), ((F_1520.1 23 (by decide) 2).trans ((F_1496.1 23 (ni hprP (fun P => 23) (fun P => [P, P + 1]) rfl) 2).trans (hs_1476.trans hi_1288))), ((F_1520.1 23 (by decide) 5).trans ((F_1496.1 23 (ni hprP (fun P => 23) (fun P => [P, P + 1]) rfl) 5).trans (hs_1477.trans hi_1289))), ((F_1520.1 23 (by decide) 6).trans ((F_1496.1 23 (ni hprP (fun P => 23) (fun P => [P, P + 1]) rfl) 6).trans (hs_1478.trans hi_1290))), ((F_1520.1 23 (by decide) 7).trans ((F_1496.1 23 (ni hprP (fun P => 23) (fun P => [P, P + 1]) rfl) 7).trans (hs_1479.trans hi_1291))), ((F_1520.1 23 (by decide) 8).trans ((F_1496.1 23 (ni hprP (fun P => 23) (fun P => [P, P + 1]) rfl) 8).trans (hs_1480.trans hi_1292))), ((F_1520.1 23 (by decide) 10).trans ((F_1496.1 23 (ni hprP (fun P => 23) (fun P => [P, P + 1]) rfl) 10).trans (hs_1482.trans hi_1293))), (hs_1525.trans ((F_1496.1 26 (ni hprP (fun P => 26) (fun P => [P, P + 1]) rfl) 6).trans (hs_1483.trans hi_1294))), (by omega), (by omega), (by omega), ((F_1520.1 P (ni hprP (fun P => P) (fun P => [26]) rfl) 7).trans (hs_1500.trans (hs_1484.trans hi_1298))), hI_1521, rfl, lv_sub hl [0, 1, 2, 3, 4, 5, 6, 7, 8, 9] rfl⟩ G
          · refine lv_aload_n hx hb dX7_arguments_68 rfl (lv_at hl 5 rfl) ?_
            refine lv_iconst (v := iv 2) hx hb dX7_arguments_69 rfl ?_
            refine lv_aload_n hx hb dX7_arguments_70 rfl (lv_at hl 5 rfl) ?_
            refine xa_getr G fd_X7 (a := 23) (x := 26) 0 rfl (by decide) rfl (wm 2 17 rfl rfl) ⟨rfl, rfl, rfl⟩ dX7_arguments_71 rfl (G.sk 23 rfl) (by decide) rfl ?_
            refine xa_getN G fd_X10 (host := "FourTongues") (a := 26) 13 rfl (by decide) (by decide) ⟨rfl, rfl, rfl⟩ dX7_arguments_74 rfl (v := .int (iv (μL1270.1 26 13))) (by rw [show μL1270.1 26 13 = μL1270.1 26 13 from rfl]; rfl) ?_
            have hr_1544 : -2147483648 ≤ μL1270.1 26 13 ∧ μL1270.1 26 13 ≤ 2147483647 := by have h9 := G.hr (a := 26) (k := 13) rfl; exact h9
            refine xc_vV G (b := 23) (rest := []) (As := [.int (iv 2), .int (iv (μL1270.1 26 13))]) (c_X7_tellFault ω l μL1270 2 (μL1270.1 26 13) (by unfold ir; omega) (by unfold ir; omega) hi_1299 (by omega)) (wm 3 177 rfl rfl) (wm 3 179 rfl rfl) (wm 0 12 rfl rfl) rfl rfl (by decide) rfl (wm 1 12 rfl rfl) (wm 3 180 rfl rfl) (by decide) hR ⟨nfr hF (by decide), nlo hLo (by decide)⟩ (n := 2) rfl rfl (Nat.le_of_ble_eq_true rfl) hl.1 dX7_arguments_77 (fun μ1545 ρ d0 H locs hp G => ?_)
            obtain ⟨F_1546, hI_1547⟩ := hp
            refine lv_aload_n hx hb dX7_arguments_80 rfl (lv_at hl 5 rfl) ?_
            refine lv_iconst (v := iv 0) hx hb dX7_arguments_81 rfl ?_
            have hpx_1548 : μ1545.1 26 11 = 0 → PXE μo μ1545 P tt (e + c9) f9 1 := fun h0 => (hi_1286 (by have h9 : μL1270.1 26 11 = μL1270.1 26 11 := rfl; have h8 : μ1545.1 26 11 = μL1270.1 26 11 := (F_1546.1 26 (by decide) 11); omega)).fr (K := [24]) (Fr.tr Fr.rf F_1546 (by decide)) (npL_p (L := [24]) (by decide) hprP).1 (npL_p (L := [24]) (by decide) hprP).2.1
            have e_1549 : μ1545.1 23 2 = P := ((F_1546.1 23 (by decide) 2).trans hi_1288)
            have e_1550 : μ1545.1 23 8 = tt := ((F_1546.1 23 (by decide) 8).trans hi_1292)
            have htk_1551 : TK μ1545 := hi_1280.fr (K := [24]) (Fr.tr Fr.rf F_1546 (by decide)) (by decide) (by decide)
            have hk_1552 := hi_1299.pr (p := P) hprP
            unfold pk at hk_1552
            have hc_1553 : 16 ≤ μL1270.2.1 (P + 1) ∧ μL1270.2.1 (P + 1) ≤ 73024 := hi_1299.rm.1 _ hprP.cap
            have e_1554 : μ1545.1 P 1 = μL1270.1 P 1 := (F_1546.1 P (ni hprP (fun P => P) (fun P => [24]) rfl) 1)
            have hn_1555 : -1 ≤ μL1270.1 26 10 ∧ μL1270.1 26 10 ≤ 3000 := hi_1299.nm.2.2.2.2.2.2.2.2.2.2.2.2
            have e_1556 : μ1545.1 26 10 = μL1270.1 26 10 := (F_1546.1 26 (by decide) 10)
            have e_1557 : μ1545.1 26 11 = μL1270.1 26 11 := (F_1546.1 26 (by decide) 11)
            have hk_1558 := hi_1299.row (r := P + 2) (hprP.row)
            unfold rk at hk_1558
            have e_1559 : μ1545.1 (P + 2) 3 = μL1270.1 (P + 2) 3 := (F_1546.1 (P + 2) (ni hprP (fun P => P + 2) (fun P => [24]) rfl) 3)
            have e_1560 : μ1545.1 P 1 = μL1270.1 P 1 := (F_1546.1 P (ni hprP (fun P => P) (fun P => [24]) rfl) 1)
            have e_1561 : μ1545.1 23 9 = μL1270.1 23 9 := (F_1546.1 23 (by decide) 9)
            have e_1562 : μ1545.1 23 9 = μL1270.1 23 9 := (F_1546.1 23 (by decide) 9)
            have e_1563 : μ1545.1 26 11 = μL1270.1 26 11 := (F_1546.1 26 (by decide) 11)
            have e_1564 : μ1545.1 26 11 = μL1270.1 26 11 := (F_1546.1 26 (by decide) 11)
            have e_1565 : μ1545.1 23 9 = μL1270.1 23 9 := (F_1546.1 23 (by decide) 9)
            have e_1566 : μ1545.1 26 11 = μL1270.1 26 11 := (F_1546.1 26 (by decide) 11)
            have e_1567 : μ1545.1 P 1 = μL1270.1 P 1 := (F_1546.1 P (ni hprP (fun P => P) (fun P => [24]) rfl) 1)
            have e_1568 : μ1545.1 26 11 = μL1270.1 26 11 := (F_1546.1 26 (by decide) 11)
            have e_1569 : μ1545.1 26 10 = μL1270.1 26 10 := (F_1546.1 26 (by decide) 10)
            have e_1570 : μ1545.1 P 1 = μL1270.1 P 1 := (F_1546.1 P (ni hprP (fun P => P) (fun P => [24]) rfl) 1)
            have e_1571 : μ1545.1 P 1 = μL1270.1 P 1 := (F_1546.1 P (ni hprP (fun P => P) (fun P => [24]) rfl) 1)
            have e_1572 : μ1545.1 26 10 = μL1270.1 26 10 := (F_1546.1 26 (by decide) 10)
            have e_1573 : μ1545.1 26 11 = μL1270.1 26 11 := (F_1546.1 26 (by decide) 11)
            have e_1574 : μ1545.1 (P + 2) 3 = μL1270.1 (P + 2) 3 := (F_1546.1 (P + 2) (ni hprP (fun P => P + 2) (fun P => [24]) rfl) 3)
            have e_1575 : μ1545.1 P 1 = μL1270.1 P 1 := (F_1546.1 P (ni hprP (fun P => P) (fun P => [24]) rfl) 1)
            have e_1576 : μ1545.1 (P + 2) 3 = μL1270.1 (P + 2) 3 := (F_1546.1 (P + 2) (ni hprP (fun P => P + 2) (fun P => [24]) rfl) 3)
            have e_1577 : μ1545.1 23 2 = P := ((F_1546.1 23 (by decide) 2).trans hi_1288)
            have e_1578 : μ1545.1 23 5 = μ.1 23 5 := ((F_1546.1 23 (by decide) 5).trans hi_1289)
            have e_1579 : μ1545.1 23 6 = μ.1 23 6 := ((F_1546.1 23 (by decide) 6).trans hi_1290)
            have e_1580 : μ1545.1 23 7 = μ.1 23 7 := ((F_1546.1 23 (by decide) 7).trans hi_1291)
            have e_1581 : μ1545.1 23 8 = tt := ((F_1546.1 23 (by decide) 8).trans hi_1292)
            have e_1582 : μ1545.1 23 9 = μL1270.1 23 9 := (F_1546.1 23 (by decide) 9)
            have e_1583 : μ1545.1 23 10 = μ.1 23 10 := ((F_1546.1 23 (by decide) 10).trans hi_1293)
            have e_1584 : μ1545.1 26 6 = μ.1 26 6 := ((F_1546.1 26 (by decide) 6).trans hi_1294)
            have e_1585 : μ1545.1 P 7 = μ.1 P 7 := ((F_1546.1 P (ni hprP (fun P => P) (fun P => [24]) rfl) 7).trans hi_1298)
            refine xc_vV G (b := 23) (rest := []) (As := [.int (iv 0)]) (((fun (_ : Om) (_ : Launch) => hE)) ω l μ1545 0 P tt (by omega) hI_1547 (by omega) (by omega) htk_1551 (by omega) (by omega) (by omega) (by omega) (by omega)) (wm 4 3 rfl rfl) (wm 4 5 rfl rfl) (wm 0 24 rfl rfl) rfl rfl (by decide) rfl (wm 1 12 rfl rfl) (wm 4 6 rfl rfl) (by decide) hR ⟨sfr (F := F) (a := 0) (by decide), slo (L := Lo) (m := 3) (a := 0) (by decide)⟩ (n := 1) rfl rfl (Nat.le_of_ble_eq_true rfl) hl.1 dX7_arguments_82 (fun μ1586 ρ d0 H locs hp G => ?_)
            obtain ⟨F_1587, hI_1588, hp_1589, hp_1590, hp_1591, hp_1592, hp_1593, hp_1594, hs_1595, hs_1596, hs_1597, hs_1598, hs_1599, hs_1600, hs_1601, hs_1602, hs_1603⟩ := hp
            have hn_1604 : -1 ≤ μ1586.1 26 10 ∧ μ1586.1 26 10 ≤ 3000 := hI_1588.nm.2.2.2.2.2.2.2.2.2.2.2.2
            have hk_1605 := hI_1588.pr (p := P) hprP
            unfold pk at hk_1605
            have hc_1606 : 16 ≤ μ1586.2.1 (P + 1) ∧ μ1586.2.1 (P + 1) ≤ 73024 := hI_1588.rm.1 _ hprP.cap
            have hk_1607 := hI_1588.row (r := P + 2) (hprP.row)
            unfold rk at hk_1607
            have htb_1608 := hp_1589.b
            have hpx_1609 : μ1586.1 26 11 = 0 → PXE μo μ1586 P tt ((e + c9) + (1 - 0)) f9 1 := fun h0 => (PXE.app (hpx_1548 (by have h9 : μ1545.1 26 11 = μL1270.1 26 11 := (F_1546.1 26 (by decide) 11); have h8 : μ1586.1 26 11 = μ1586.1 26 11 := rfl; omega)) (hp_1594 h0)).e (by omega)
            refine lv_aload_n hx hb dX7_arguments_85 rfl (lv_at hl 5 rfl) ?_
            refine lv_iload hx hb dX7_arguments_86 (lv_at hl 3 rfl) ?_
            refine lv_iload hx hb dX7_arguments_88 (lv_at hl 4 rfl) ?_
            refine lv_iload hx hb dX7_arguments_90 (lv_at hl 2 rfl) ?_
            refine xb_iadd hx hb dX7_arguments_92 ?_
            have e_1610 : μ1586.1 23 2 = P := (hs_1595.trans ((F_1546.1 23 (by decide) 2).trans hi_1288))
            have e_1611 : μ1586.1 23 8 = tt := (hs_1599.trans ((F_1546.1 23 (by decide) 8).trans hi_1292))
            have e_1612 : μ1586.1 P 7 = μ.1 P 7 := (hs_1603.trans ((F_1546.1 P (ni hprP (fun P => P) (fun P => [24]) rfl) 7).trans hi_1298))
            refine xc_iV G (b := 23) (rest := []) (As := [.int (iv f9), .int (iv (1 + c9))]) (c_X7_ifFails ω l μ1586 f9 (1 + c9) μo ((e + c9) + (1 - 0)) (1) P tt (by unfold ir; omega) (by unfold ir; omega) hI_1588 (by omega) (by omega) (by omega) hpx_1609 (by omega) (by omega)) (wm 4 23 rfl rfl) (wm 4 25 rfl rfl) (wm 0 29 rfl rfl) rfl rfl (by decide) rfl (wm 1 12 rfl rfl) (wm 4 26 rfl rfl) (by decide) hR ⟨nfr hF (by decide), nlo hLo (by decide)⟩ (n := 2) rfl rfl (Nat.le_of_ble_eq_true rfl) hl.1 dX7_arguments_93 (fun r_1614 μ1613 ρ d0 H locs hr_r_1614 hp G => ?_)
            have hr_r_1614 : -2147483648 ≤ r_1614 ∧ r_1614 ≤ 2147483647 := hr_r_1614
            obtain ⟨F_1615, hI_1616, hp_1617, hp_1618, hs_1619⟩ := hp
            have hk_1620 := hI_1616.pr (p := P) hprP
            unfold pk at hk_1620
            have hc_1621 : 16 ≤ μ1613.2.1 (P + 1) ∧ μ1613.2.1 (P + 1) ≤ 73024 := hI_1616.rm.1 _ hprP.cap
            have hpx_1622 : μ1613.1 26 11 = 0 → PXE μo μ1613 P tt ((e + c9) + (1 - 0)) r_1614 1 := fun h0 => hp_1617 (by have h9 : μ1586.1 26 11 = μ1586.1 26 11 := rfl; have h8 : μ1613.1 26 11 = μ1586.1 26 11 := (F_1615.1 26 (ni hprP (fun P => 26) (fun P => [P, P + 1]) rfl) 11); omega)
            clear hp_1617
            refine lv_istore (lv' := [(7, .int (iv r_1614)), (10, .int (iv i9)), (9, .int (iv m9)), (8, .int (iv c9)), (6, .int (iv 1)), (0, .ref (oP ω 23)), (1, .int (iv x1)), (2, .int (iv x2)), (3, .long (jv x3)), (5, .int (iv x4))]) hx hb dX7_arguments_96 hl (by decide) rfl (fun ls hl => ?_)
            refine lv_iinc (v := iv (c9 + 1)) (lv' := [(8, .int (iv (c9 + 1))), (7, .int (iv r_1614)), (10, .int (iv i9)), (9, .int (iv m9)), (6, .int (iv 1)), (0, .ref (oP ω 23)), (1, .int (iv x1)), (2, .int (iv x2)), (3, .long (jv x3)), (5, .int (iv x4))]) hx hb dX7_arguments_98 hl (k := 3) rfl (by rw [show Int32.ofInt 1 = iv 1 from rfl, iv_add]) (by decide) rfl (fun ls hl => ?_)
            refine lv_aload_n hx hb dX7_arguments_101 rfl (lv_at hl 5 rfl) ?_
            refine lv_bipush (v := iv 44) hx hb dX7_arguments_102 rfl ?_
            have htk_1623 : TK μ1613 := hp_1589.fr (K := [P, P + 1]) (Fr.tr Fr.rf F_1615 (si hprP (fun P => [P, P + 1]) (fun P => [P, P + 1]) rfl)) (ni hprP (fun P => 26) (fun P => [P, P + 1]) rfl) (ni hprP (fun P => 28) (fun P => [P, P + 1]) rfl)
            have e_1624 : μ1613.1 26 12 = μ1586.1 26 12 := (F_1615.1 26 (ni hprP (fun P => 26) (fun P => [P, P + 1]) rfl) 12)
            have e_1625 : μ1613.1 26 10 = μ1586.1 26 10 := (F_1615.1 26 (ni hprP (fun P => 26) (fun P => [P, P + 1]) rfl) 10)
            have e_1626 : μ1613.1 26 11 = μ1586.1 26 11 := (F_1615.1 26 (ni hprP (fun P => 26) (fun P => [P, P + 1]) rfl) 11)
            have e_1627 : μ1613.1 26 12 = μ1586.1 26 12 := (F_1615.1 26 (ni hprP (fun P => 26) (fun P => [P, P + 1]) rfl) 12)
            have e_1628 : μ1613.1 26 10 = μ1586.1 26 10 := (F_1615.1 26 (ni hprP (fun P => 26) (fun P => [P, P + 1]) rfl) 10)
            have e_1629 : μ1613.1 26 12 = μ1586.1 26 12 := (F_1615.1 26 (ni hprP (fun P => 26) (fun P => [P, P + 1]) rfl) 12)
            have e_1630 : μ1613.1 26 11 = μ1586.1 26 11 := (F_1615.1 26 (ni hprP (fun P => 26) (fun P => [P, P + 1]) rfl) 11)
            have e_1631 : μ1613.1 26 6 = μ.1 26 6 := ((F_1615.1 26 (ni hprP (fun P => 26) (fun P => [P, P + 1]) rfl) 6).trans (hs_1602.trans ((F_1546.1 26 (by decide) 6).trans hi_1294)))
            have hn_1632 : 0 ≤ μ1586.1 26 7 ∧ μ1586.1 26 7 ≤ 3000 := hI_1588.nm.2.2.2.2.2.2.2.2.2.2.1
            have e_1633 : μ1613.1 26 7 = μ1586.1 26 7 := (F_1615.1 26 (ni hprP (fun P => 26) (fun P => [P, P + 1]) rfl) 7)
            have e_1634 : μ1613.1 26 8 = μ1586.1 26 8 := (F_1615.1 26 (ni hprP (fun P => 26) (fun P => [P, P + 1]) rfl) 8)
            have hn_1635 : 0 ≤ μ1586.1 26 9 ∧ μ1586.1 26 9 ≤ 3000 := hI_1588.nm.2.2.2.2.2.2.2.2.2.2.2.1
            have e_1636 : μ1613.1 26 9 = μ1586.1 26 9 := (F_1615.1 26 (ni hprP (fun P => 26) (fun P => [P, P + 1]) rfl) 9)
            refine xc_iV G (b := 23) (rest := []) (As := [.int (iv 44)]) (c_X7_took ω l μ1613 44 (by unfold ir; omega) hI_1616 htk_1623 (by omega)) (wm 3 160 rfl rfl) (wm 3 162 rfl rfl) (wm 0 9 rfl rfl) rfl rfl (by decide) rfl (wm 1 12 rfl rfl) (wm 3 163 rfl rfl) (by decide) hR ⟨nfr hF (by decide), nlo hLo (by decide)⟩ (n := 1) rfl rfl (Nat.le_of_ble_eq_true rfl) hl.1 dX7_arguments_104 (fun r_1638 μ1637 ρ d0 H locs hr_r_1638 hp G => ?_)
            have hr_r_1638 : -2147483648 ≤ r_1638 ∧ r_1638 ≤ 2147483647 := hr_r_1638
            obtain ⟨F_1639, hI_1640, hp_1641, hp_1642, hs_1643, hs_1644, hs_1645, hs_1646, hs_1647⟩ := hp
            have hn_1648 : -1 ≤ μ1637.1 26 10 ∧ μ1637.1 26 10 ≤ 3000 := hI_1640.nm.2.2.2.2.2.2.2.2.2.2.2.2
            have htb_1649 := hp_1641.b
            refine lv_istore (lv' := [(9, .int (iv r_1638)), (8, .int (iv (c9 + 1))), (7, .int (iv r_1614)), (10, .int (iv i9)), (6, .int (iv 1)), (0, .ref (oP ω 23)), (1, .int (iv x1)), (2, .int (iv x2)), (3, .long (jv x3)), (5, .int (iv x4))]) hx hb dX7_arguments_107 hl (by decide) rfl (fun ls hl => ?_)
            refine lv_iinc (v := iv (i9 + 1)) (lv' := [(10, .int (iv (i9 + 1))), (9, .int (iv r_1638)), (8, .int (iv (c9 + 1))), (7, .int (iv r_1614)), (6, .int (iv 1)), (0, .ref (oP ω 23)), (1, .int (iv x1)), (2, .int (iv x2)), (3, .long (jv x3)), (5, .int (iv x4))]) hx hb dX7_arguments_109 hl (k := 3) rfl (by rw [show Int32.ofInt 1 = iv 1 from rfl, iv_add]) (by decide) rfl (fun ls hl => ?_)
            refine lv_goto (tgt := 48) hx hb dX7_arguments_112 (by decide) ?_
            have e_1650 : μ1637.1 26 11 = μ1586.1 26 11 := (hs_1643.trans (F_1615.1 26 (ni hprP (fun P => 26) (fun P => [P, P + 1]) rfl) 11))
            have e_1651 : μ1637.1 P 1 = μ1613.1 P 1 := (F_1639.1 P (ni hprP (fun P => P) (fun P => [26]) rfl) 1)
            have e_1652 : μ1637.1 P 1 = μ1613.1 P 1 := (F_1639.1 P (ni hprP (fun P => P) (fun P => [26]) rfl) 1)
            have e_1653 : μ1637.1 26 11 = μ1586.1 26 11 := (hs_1643.trans (F_1615.1 26 (ni hprP (fun P => 26) (fun P => [P, P + 1]) rfl) 11))
            have e_1654 : μ1637.1 P 1 = μ1613.1 P 1 := (F_1639.1 P (ni hprP (fun P => P) (fun P => [26]) rfl) 1)
            have e_1655 : μ1637.1 (P + 2) 3 = μ1586.1 (P + 2) 3 := ((F_1639.1 (P + 2) (ni hprP (fun P => P + 2) (fun P => [26]) rfl) 3).trans (F_1615.1 (P + 2) (ni hprP (fun P => P + 2) (fun P => [P, P + 1]) rfl) 3))
            have e_1656 : μ1637.1 P 1 = μ1613.1 P 1 := (F_1639.1 P (ni hprP (fun P => P) (fun P => [26]) rfl) 1)
            have e_1657 : μ1637.1 (P + 2) 3 = μ1586.1 (P + 2) 3 := ((F_1639.1 (P + 2) (ni hprP (fun P => P + 2) (fun P => [26]) rfl) 3).trans (F_1615.1 (P + 2) (ni hprP (fun P => P + 2) (fun P => [P, P + 1]) rfl) 3))
            have hpx_1658 : μ1637.1 26 11 = 0 → PXE μo μ1637 P tt ((e + c9) + (1 - 0)) r_1614 1 := fun h0 => (hpx_1622 (by have h9 : μ1613.1 26 11 = μ1586.1 26 11 := (F_1615.1 26 (ni hprP (fun P => 26) (fun P => [P, P + 1]) rfl) 11); have h8 : μ1637.1 26 11 = μ1586.1 26 11 := (hs_1643.trans (F_1615.1 26 (ni hprP (fun P => 26) (fun P => [P, P + 1]) rfl) 11)); omega)).fr (K := [26]) (Fr.tr Fr.rf F_1639 (by decide)) (npL_p (L := [26]) (by decide) hprP).1 (npL_p (L := [26]) (by decide) hprP).2.1
            have e_1659 : μ1637.1 2 4 = μ1586.1 2 4 := ((F_1639.1 2 (by decide) 4).trans (F_1615.1 2 (ni hprP (fun P => 2) (fun P => [P, P + 1]) rfl) 4))
            have e_1660 : μ1637.1 26 7 = μ1586.1 26 7 := (hs_1645.trans (F_1615.1 26 (ni hprP (fun P => 26) (fun P => [P, P + 1]) rfl) 7))
            have e_1661 : μ1637.1 26 8 = μ1586.1 26 8 := (hs_1646.trans (F_1615.1 26 (ni hprP (fun P => 26) (fun P => [P, P + 1]) rfl) 8))
            have e_1662 : μ1637.1 26 9 = μ1586.1 26 9 := (hs_1647.trans (F_1615.1 26 (ni hprP (fun P => 26) (fun P => [P, P + 1]) rfl) 9))
            exact ih _ _ _ _ _ _ _ (by omega) ⟨r_1614, c9 + 1, r_1638, i9 + 1, (Fr.tr (Fr.tr (Fr.tr (Fr.tr FL1271 F_1546 (si hprP (fun P => [24]) (fun P => [2, 3, 4, 23, 24, 26, P, P + 1, P + 2, (P + 2) + 1, (P + 2) + 2, (P + 2) + 3]) rfl)) F_1587 (si hprP (fun P => [2, 3, 4, 23, 24, 26, P, P + 1, P + 2, (P + 2) + 1, (P + 2) + 2, (P + 2) + 3]) (fun P => [2, 3, 4, 23, 24, 26, P, P + 1, P + 2, (P + 2) + 1, (P + 2) + 2, (P + 2) + 3]) rfl)) F_1615 (si hprP (fun P => [P, P + 1]) (fun P => [2, 3, 4, 23, 24, 26, P, P + 1, P + 2, (P + 2) + 1, (P + 2) + 2, (P + 2) + 3]) rfl)) F_1639 (si hprP (fun P => [26]) (fun P => [2, 3, 4, 23, 24, 26, P, P + 1, P + 2, (P + 2) + 1, (P + 2) + 2, (P + 2) + 3]) rfl)), (by omega), (by omega), (by omega), (by omega), (by omega), (by omega), (by omega), hp_1641, (by omega), (by omega), (by omega), (by omega), (by omega), (fun h0 => (hpx_1658 h0).e (by omega)), (by omega), ((F_1639.1 23 (by decide) 2).trans ((F_1615.1 23 (ni hprP (fun P => 23) (fun P => [P, P + 1]) rfl) 2).trans (hs_1595.trans ((F_1546.1 23 (by decide) 2).trans hi_1288)))), ((F_1639.1 23 (by decide) 5).trans ((F_1615.1 23 (ni hprP (fun P => 23) (fun P => [P, P + 1]) rfl) 5).trans (hs_1596.trans ((F_1546.1 23 (by decide) 5).trans hi_1289)))), ((F_1639.1 23 (by decide) 6).trans ((F_1615.1 23 (ni hprP (fun P => 23) (fun P => [P, P + 1]) rfl) 6).trans (hs_1597.trans ((F_1546.1 23 (by decide) 6).trans hi_1290)))), ((F_1639.1 23 (by decide) 7).trans ((F_1615.1 23 (ni hprP (fun P => 23) (fun P => [P, P + 1]) rfl) 7).trans (hs_1598.trans ((F_1546.1 23 (by decide) 7).trans hi_1291)))), ((F_1639.1 23 (by decide) 8).trans ((F_1615.1 23 (ni hprP (fun P => 23) (fun P => [P, P + 1]) rfl) 8).trans (hs_1599.trans ((F_1546.1 23 (by decide) 8).trans hi_1292)))), ((F_1639.1 23 (by decide) 10).trans ((F_1615.1 23 (ni hprP (fun P => 23) (fun P => [P, P + 1]) rfl) 10).trans (hs_1601.trans ((F_1546.1 23 (by decide) 10).trans hi_1293)))), (hs_1644.trans ((F_1615.1 26 (ni hprP (fun P => 26) (fun P => [P, P + 1]) rfl) 6).trans (hs_1602.trans ((F_1546.1 26 (by decide) 6).trans hi_1294)))), (by omega), (by omega), (by omega), ((F_1639.1 P (ni hprP (fun P => P) (fun P => [26]) rfl) 7).trans (hs_1619.trans (hs_1603.trans ((F_1546.1 P (ni hprP (fun P => P) (fun P => [24]) rfl) 7).trans hi_1298)))), hI_1640, rfl, lv_sub hl [0, 1, 2, 3, 4, 5, 6, 7, 8, 9] rfl⟩ G
