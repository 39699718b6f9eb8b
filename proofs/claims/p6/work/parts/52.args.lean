abbrev cX7_arguments : ByteArray := prog_9_method_54_code
def yX7_arguments : MethodName := ⟨RX7, "arguments", "(IIJI)V"⟩
theorem dX7_arguments_0 : decode cX7_arguments 0 = .ok (.iload_n 1, 1) := by decide +kernel
theorem dX7_arguments_1 : decode cX7_arguments 1 = .ok (.bipush 14, 2) := by decide +kernel
theorem dX7_arguments_3 : decode cX7_arguments 3 = .ok (.if_icmp .ne 7, 3) := by decide +kernel
theorem dX7_arguments_6 : decode cX7_arguments 6 = .ok (.iconst 1, 1) := by decide +kernel
theorem dX7_arguments_7 : decode cX7_arguments 7 = .ok (.goto 4, 3) := by decide +kernel
theorem dX7_arguments_10 : decode cX7_arguments 10 = .ok (.iconst 0, 1) := by decide +kernel
theorem dX7_arguments_11 : decode cX7_arguments 11 = .ok (.istore 6, 2) := by decide +kernel
theorem dX7_arguments_13 : decode cX7_arguments 13 = .ok (.iload 5, 2) := by decide +kernel
theorem dX7_arguments_15 : decode cX7_arguments 15 = .ok (.istore 7, 2) := by decide +kernel
theorem dX7_arguments_17 : decode cX7_arguments 17 = .ok (.iconst 0, 1) := by decide +kernel
theorem dX7_arguments_18 : decode cX7_arguments 18 = .ok (.istore 8, 2) := by decide +kernel
theorem dX7_arguments_20 : decode cX7_arguments 20 = .ok (.aload_n 0, 1) := by decide +kernel
theorem dX7_arguments_21 : decode cX7_arguments 21 = .ok (.bipush 40, 2) := by decide +kernel
theorem dX7_arguments_23 : decode cX7_arguments 23 = .ok (.invokevirtual 164, 3) := by decide +kernel
theorem dX7_arguments_26 : decode cX7_arguments 26 = .ok (.aload_n 0, 1) := by decide +kernel
theorem dX7_arguments_27 : decode cX7_arguments 27 = .ok (.getfield 43, 3) := by decide +kernel
theorem dX7_arguments_30 : decode cX7_arguments 30 = .ok (.getfield 80, 3) := by decide +kernel
theorem dX7_arguments_33 : decode cX7_arguments 33 = .ok (.bipush 41, 2) := by decide +kernel
theorem dX7_arguments_35 : decode cX7_arguments 35 = .ok (.if_icmp .eq 7, 3) := by decide +kernel
theorem dX7_arguments_38 : decode cX7_arguments 38 = .ok (.iconst 1, 1) := by decide +kernel
theorem dX7_arguments_39 : decode cX7_arguments 39 = .ok (.goto 4, 3) := by decide +kernel
theorem dX7_arguments_42 : decode cX7_arguments 42 = .ok (.iconst 0, 1) := by decide +kernel
theorem dX7_arguments_43 : decode cX7_arguments 43 = .ok (.istore 9, 2) := by decide +kernel
theorem dX7_arguments_45 : decode cX7_arguments 45 = .ok (.iconst 0, 1) := by decide +kernel
theorem dX7_arguments_46 : decode cX7_arguments 46 = .ok (.istore 10, 2) := by decide +kernel
theorem dX7_arguments_48 : decode cX7_arguments 48 = .ok (.iload 10, 2) := by decide +kernel
theorem dX7_arguments_50 : decode cX7_arguments 50 = .ok (.sipush 3000, 3) := by decide +kernel
theorem dX7_arguments_53 : decode cX7_arguments 53 = .ok (.if_icmp .ge 62, 3) := by decide +kernel
theorem dX7_arguments_56 : decode cX7_arguments 56 = .ok (.iload 9, 2) := by decide +kernel
theorem dX7_arguments_58 : decode cX7_arguments 58 = .ok (.ifCond .eq 57, 3) := by decide +kernel
theorem dX7_arguments_61 : decode cX7_arguments 61 = .ok (.iload 8, 2) := by decide +kernel
theorem dX7_arguments_63 : decode cX7_arguments 63 = .ok (.bipush 8, 2) := by decide +kernel
theorem dX7_arguments_65 : decode cX7_arguments 65 = .ok (.if_icmp .lt 15, 3) := by decide +kernel
theorem dX7_arguments_68 : decode cX7_arguments 68 = .ok (.aload_n 0, 1) := by decide +kernel
theorem dX7_arguments_69 : decode cX7_arguments 69 = .ok (.iconst 2, 1) := by decide +kernel
theorem dX7_arguments_70 : decode cX7_arguments 70 = .ok (.aload_n 0, 1) := by decide +kernel
theorem dX7_arguments_71 : decode cX7_arguments 71 = .ok (.getfield 43, 3) := by decide +kernel
theorem dX7_arguments_74 : decode cX7_arguments 74 = .ok (.getfield 96, 3) := by decide +kernel
theorem dX7_arguments_77 : decode cX7_arguments 77 = .ok (.invokevirtual 127, 3) := by decide +kernel
theorem dX7_arguments_80 : decode cX7_arguments 80 = .ok (.aload_n 0, 1) := by decide +kernel
theorem dX7_arguments_81 : decode cX7_arguments 81 = .ok (.iconst 0, 1) := by decide +kernel
theorem dX7_arguments_82 : decode cX7_arguments 82 = .ok (.invokevirtual 216, 3) := by decide +kernel
theorem dX7_arguments_85 : decode cX7_arguments 85 = .ok (.aload_n 0, 1) := by decide +kernel
theorem dX7_arguments_86 : decode cX7_arguments 86 = .ok (.iload 7, 2) := by decide +kernel
theorem dX7_arguments_88 : decode cX7_arguments 88 = .ok (.iload 6, 2) := by decide +kernel
theorem dX7_arguments_90 : decode cX7_arguments 90 = .ok (.iload 8, 2) := by decide +kernel
theorem dX7_arguments_92 : decode cX7_arguments 92 = .ok (.iadd, 1) := by decide +kernel
theorem dX7_arguments_93 : decode cX7_arguments 93 = .ok (.invokevirtual 273, 3) := by decide +kernel
theorem dX7_arguments_96 : decode cX7_arguments 96 = .ok (.istore 7, 2) := by decide +kernel
theorem dX7_arguments_98 : decode cX7_arguments 98 = .ok (.iinc 8 1, 3) := by decide +kernel
theorem dX7_arguments_101 : decode cX7_arguments 101 = .ok (.aload_n 0, 1) := by decide +kernel
theorem dX7_arguments_102 : decode cX7_arguments 102 = .ok (.bipush 44, 2) := by decide +kernel
theorem dX7_arguments_104 : decode cX7_arguments 104 = .ok (.invokevirtual 83, 3) := by decide +kernel
theorem dX7_arguments_107 : decode cX7_arguments 107 = .ok (.istore 9, 2) := by decide +kernel
theorem dX7_arguments_109 : decode cX7_arguments 109 = .ok (.iinc 10 1, 3) := by decide +kernel
theorem dX7_arguments_112 : decode cX7_arguments 112 = .ok (.goto (-64), 3) := by decide +kernel
theorem dX7_arguments_115 : decode cX7_arguments 115 = .ok (.aload_n 0, 1) := by decide +kernel
theorem dX7_arguments_116 : decode cX7_arguments 116 = .ok (.bipush 41, 2) := by decide +kernel
theorem dX7_arguments_118 : decode cX7_arguments 118 = .ok (.invokevirtual 170, 3) := by decide +kernel
theorem dX7_arguments_121 : decode cX7_arguments 121 = .ok (.aload_n 0, 1) := by decide +kernel
theorem dX7_arguments_122 : decode cX7_arguments 122 = .ok (.getfield 51, 3) := by decide +kernel
theorem dX7_arguments_125 : decode cX7_arguments 125 = .ok (.iconst 0, 1) := by decide +kernel
theorem dX7_arguments_126 : decode cX7_arguments 126 = .ok (.lload_n 3, 1) := by decide +kernel
theorem dX7_arguments_127 : decode cX7_arguments 127 = .ok (.dconst 0, 1) := by decide +kernel
theorem dX7_arguments_128 : decode cX7_arguments 128 = .ok (.invokevirtual 310, 3) := by decide +kernel
theorem dX7_arguments_131 : decode cX7_arguments 131 = .ok (.istore 10, 2) := by decide +kernel
theorem dX7_arguments_133 : decode cX7_arguments 133 = .ok (.aload_n 0, 1) := by decide +kernel
theorem dX7_arguments_134 : decode cX7_arguments 134 = .ok (.iload_n 1, 1) := by decide +kernel
theorem dX7_arguments_135 : decode cX7_arguments 135 = .ok (.iload 8, 2) := by decide +kernel
theorem dX7_arguments_137 : decode cX7_arguments 137 = .ok (.iconst 4, 1) := by decide +kernel
theorem dX7_arguments_138 : decode cX7_arguments 138 = .ok (.imul, 1) := by decide +kernel
theorem dX7_arguments_139 : decode cX7_arguments 139 = .ok (.iload_n 2, 1) := by decide +kernel
theorem dX7_arguments_140 : decode cX7_arguments 140 = .ok (.iadd, 1) := by decide +kernel
theorem dX7_arguments_141 : decode cX7_arguments 141 = .ok (.iload 10, 2) := by decide +kernel
theorem dX7_arguments_143 : decode cX7_arguments 143 = .ok (.iload 7, 2) := by decide +kernel
theorem dX7_arguments_145 : decode cX7_arguments 145 = .ok (.invokevirtual 230, 3) := by decide +kernel
theorem dX7_arguments_148 : decode cX7_arguments 148 = .ok (.return_, 1) := by decide +kernel
theorem ef13 {c x : Int} (h : 0 ≤ c) (hx : 0 ≤ x ∧ x ≤ 3) : eff 13 (c * 4 + x) = 1 - c := by
  show 1 - (c * 4 + x).tdiv 4 = 1 - c
  rw [Int.tdiv_eq_ediv_of_nonneg (by omega)]
  omega
theorem ef14 {c x : Int} (h : 0 ≤ c) (hx : 0 ≤ x ∧ x ≤ 3) : eff 14 (c * 4 + x) = - c := by
  show - (c * 4 + x).tdiv 4 = - c
  rw [Int.tdiv_eq_ediv_of_nonneg (by omega)]
  omega
set_option maxHeartbeats 4000000 in
set_option maxRecDepth 100000 in
theorem c_X7_arguments (ω : Om) (l : Launch) (μ : M3) (x1 : Int) (x2 : Int) (x3 : Int) (x4 : Int) (F : Nat) (Lo : Nat) (kf : Int) (μo : M3) (ee : Int) (ww : Int) (P : Int) (tt : Int) (hx1 : ir x1) (hx2 : ir x2) (hx3 : jr x3) (hx4 : ir x4) (hI : IC μ) (hP : P = μ.1 23 2) (htt : tt = μ.1 23 8) (hF : 60 ≤ F) (hLo : 2000 ≤ Lo) (hE : ∀ (μ : M3) (x1 : Int) (P : Int) (tt : Int) (hx1 : x1 = 0 ∨ x1 = 1) (hI : IC μ) (hP : P = μ.1 23 2) (htt : tt = μ.1 23 8) (hTK : TK μ) (hB : μ.1 P 1 ≤ 2 * μ.1 26 10 + 100 + 40 * μ.1 26 11) (hKc : μ.1 (P + 2) 3 ≤ μ.1 P 1) (ht3 : 0 ≤ tt ∧ tt ≤ 3) (hdp : 0 ≤ μ.1 23 9 ∧ μ.1 23 9 ≤ 8 + μ.1 26 11) (hfu : 0 ≤ (kf - 1) ∧ 9 ≤ μ.1 23 9 + (kf - 1) + 20 * μ.1 26 11) (hbg : ∀ _ : Unit, x1 = 0 ∨ μ.1 26 11 ≠ 0 ∨ 2 ≤ hs μ P (μ.1 P 1)), CtV ω l yX7_expression cX7_expression 3 (F + 0) (Lo + 0) [.ref (oP ω 23), .int (iv x1)] μ (fun (μ' : M3) => (Fr [2, 3, 4, 23, 24, 26, P, P + 1, P + 2, (P + 2) + 1, (P + 2) + 2, (P + 2) + 3] μ μ') ∧ (IC μ') ∧ (TK μ') ∧ (μ.1 26 11 ≤ μ'.1 26 11) ∧ (μ.1 26 10 ≤ μ'.1 26 10) ∧ (μ.1 P 1 ≤ μ'.1 P 1 ∧ μ'.1 P 1 ≤ μ.1 P 1 + 2 * (μ'.1 26 10 - μ.1 26 10) + (- 1 + 3 * μ'.1 26 11 - 2 * μ.1 26 11 + x1)) ∧ (μ'.1 (P + 2) 3 - μ.1 (P + 2) 3 ≤ μ'.1 P 1 - μ.1 P 1 ∧ μ.1 (P + 2) 3 ≤ μ'.1 (P + 2) 3) ∧ (μ'.1 26 11 = 0 → EX μ μ' P tt (1 - x1) 0) ∧ (μ'.1 23 2 = μ.1 23 2) ∧ (μ'.1 23 5 = μ.1 23 5) ∧ (μ'.1 23 6 = μ.1 23 6) ∧ (μ'.1 23 7 = μ.1 23 7) ∧ (μ'.1 23 8 = μ.1 23 8) ∧ (μ'.1 23 9 = μ.1 23 9) ∧ (μ'.1 23 10 = μ.1 23 10) ∧ (μ'.1 26 6 = μ.1 26 6) ∧ (μ'.1 P 7 = μ.1 P 7))) (hU : ∀ (μ : M3) (x1 : Int) (P : Int) (tt : Int) (hx1 : x1 = 0 ∨ x1 = 1) (hI : IC μ) (hP : P = μ.1 23 2) (htt : tt = μ.1 23 8) (hTK : TK μ) (hB : μ.1 P 1 ≤ 2 * μ.1 26 10 + 100 + 40 * μ.1 26 11) (hKc : μ.1 (P + 2) 3 ≤ μ.1 P 1) (ht3 : 0 ≤ tt ∧ tt ≤ 3) (hdp : 0 ≤ μ.1 23 9 ∧ μ.1 23 9 ≤ 8 + μ.1 26 11) (hfu : 0 ≤ (kf - 1) ∧ 9 ≤ μ.1 23 9 + (kf - 1) + 20 * μ.1 26 11) (hbg : ∀ _ : Unit, x1 = 0 ∨ μ.1 26 11 ≠ 0 ∨ 2 ≤ hs μ P (μ.1 P 1)), CtV ω l yX7_unary cX7_unary 2 (F + 0) (Lo + 0) [.ref (oP ω 23), .int (iv x1)] μ (fun (μ' : M3) => (Fr [2, 3, 4, 23, 24, 26, P, P + 1, P + 2, (P + 2) + 1, (P + 2) + 2, (P + 2) + 3] μ μ') ∧ (IC μ') ∧ (TK μ') ∧ (μ.1 26 11 ≤ μ'.1 26 11) ∧ (μ.1 26 10 ≤ μ'.1 26 10) ∧ (μ.1 P 1 ≤ μ'.1 P 1 ∧ μ'.1 P 1 ≤ μ.1 P 1 + 2 * (μ'.1 26 10 - μ.1 26 10) + (- 1 + 3 * μ'.1 26 11 - 2 * μ.1 26 11 + x1)) ∧ (μ'.1 (P + 2) 3 - μ.1 (P + 2) 3 ≤ μ'.1 P 1 - μ.1 P 1 ∧ μ.1 (P + 2) 3 ≤ μ'.1 (P + 2) 3) ∧ (μ'.1 26 11 = 0 → EX μ μ' P tt (1 - x1) 0) ∧ (μ'.1 23 2 = μ.1 23 2) ∧ (μ'.1 23 5 = μ.1 23 5) ∧ (μ'.1 23 6 = μ.1 23 6) ∧ (μ'.1 23 7 = μ.1 23 7) ∧ (μ'.1 23 8 = μ.1 23 8) ∧ (μ'.1 23 9 = μ.1 23 9) ∧ (μ'.1 23 10 = μ.1 23 10) ∧ (μ'.1 26 6 = μ.1 26 6) ∧ (μ'.1 P 7 = μ.1 P 7))) (hTK : TK μ) (hB : μ.1 P 1 ≤ 2 * μ.1 26 10 + 100 + 40 * μ.1 26 11) (hKc : μ.1 (P + 2) 3 ≤ μ.1 P 1) (ht3 : 0 ≤ tt ∧ tt ≤ 3) (hdp : 0 ≤ μ.1 23 9 ∧ μ.1 23 9 ≤ 8) (hfu : 9 ≤ μ.1 23 9 + kf) (heo : 13 ≤ x1 ∧ x1 ≤ 14 ∧ ee = x1 - 13) (hx2b : 0 ≤ x2 ∧ x2 ≤ 3) (hpx : μ.1 26 11 = 0 → PXE μo μ P tt ee x4 ww) (hw1 : ww = 1) : CtV ω l yX7_arguments cX7_arguments 11 (F + 1) (Lo + 22) [.ref (oP ω 23), .int (iv x1), .int (iv x2), .long (jv x3), .int (iv x4)] μ (fun (μ' : M3) => (Fr [2, 3, 4, 23, 24, 26, P, P + 1, P + 2, (P + 2) + 1, (P + 2) + 2, (P + 2) + 3] μ μ') ∧ (IC μ') ∧ (TK μ') ∧ (μ.1 26 11 ≤ μ'.1 26 11) ∧ (μ.1 26 10 ≤ μ'.1 26 10) ∧ (μ.1 P 1 ≤ μ'.1 P 1 ∧ μ'.1 P 1 ≤ μ.1 P 1 + 2 * (μ'.1 26 10 - μ.1 26 10) + (- 1 + 3 * μ'.1 26 11)) ∧ (μ'.1 (P + 2) 3 - μ.1 (P + 2) 3 ≤ μ'.1 P 1 - μ.1 P 1 ∧ μ.1 (P + 2) 3 ≤ μ'.1 (P + 2) 3) ∧ (μ'.1 26 11 = 0 → EX μo μ' P tt 1 0) ∧ (μ'.1 23 2 = μ.1 23 2) ∧ (μ'.1 23 5 = μ.1 23 5) ∧ (μ'.1 23 6 = μ.1 23 6) ∧ (μ'.1 23 7 = μ.1 23 7) ∧ (μ'.1 23 8 = μ.1 23 8) ∧ (μ'.1 23 9 = μ.1 23 9) ∧ (μ'.1 23 10 = μ.1 23 10) ∧ (μ'.1 26 6 = μ.1 26 6) ∧ (μ'.1 P 7 = μ.1 P 7)) := by
  refine CtV.go (by decide) (Nat.le_of_ble_eq_true rfl) (fun ρ p e s m below meth c R ls G hR hret hlk hl => ?_)
  have hx := G.1.1
  have hb := G.1.2.1
  have hl : lv_has ls 11 [(0, .ref (oP ω 23)), (1, .int (iv x1)), (2, .int (iv x2)), (3, .long (jv x3)), (5, .int (iv x4))] := hl
  generalize s.drawn = d0 at G ⊢
  have hr_x1 : -2147483648 ≤ x1 ∧ x1 ≤ 2147483647 := hx1
  have hr_x2 : -2147483648 ≤ x2 ∧ x2 ≤ 2147483647 := hx2
  have hr_x4 : -2147483648 ≤ x4 ∧ x4 ≤ 2147483647 := hx4
  have hTKb := hTK.b
  have hprP : isPr P := by have h9 := G.sr0.2.2.2.2.2; rw [← hP] at h9; exact h9
  have hprP_d : 13 ≤ P ∧ P ≤ 101 := by rcases hprP with h9 | h9 | h9 | h9 | h9 <;> omega
  have hk_1 := hI.pr (p := P) hprP
  unfold pk at hk_1
  have hc_2 : 16 ≤ μ.2.1 (P + 1) ∧ μ.2.1 (P + 1) ≤ 73024 := hI.rm.1 _ hprP.cap
  subst hw1
  refine xj (pc2 := 11) (st2 := fun v9 => [.int (iv v9)]) (C := fun v9 => v9 = x1 - 13) (fun v9 hv9 => ?_) (fun kont_11 => ?_)
  · skip
    have hr_v9 : -2147483648 ≤ v9 ∧ v9 ≤ 2147483647 := by omega
    refine lv_istore (lv' := [(6, .int (iv v9)), (0, .ref (oP ω 23)), (1, .int (iv x1)), (2, .int (iv x2)), (3, .long (jv x3)), (5, .int (iv x4))]) hx hb dX7_arguments_11 hl (by decide) rfl (fun ls hl => ?_)
    refine lv_iload hx hb dX7_arguments_13 (lv_at hl 5 rfl) ?_
    refine lv_istore (lv' := [(7, .int (iv x4)), (6, .int (iv v9)), (0, .ref (oP ω 23)), (1, .int (iv x1)), (2, .int (iv x2)), (3, .long (jv x3)), (5, .int (iv x4))]) hx hb dX7_arguments_15 hl (by decide) rfl (fun ls hl => ?_)
    refine lv_iconst (v := iv 0) hx hb dX7_arguments_17 rfl ?_
    refine lv_istore (lv' := [(8, .int (iv 0)), (7, .int (iv x4)), (6, .int (iv v9)), (0, .ref (oP ω 23)), (1, .int (iv x1)), (2, .int (iv x2)), (3, .long (jv x3)), (5, .int (iv x4))]) hx hb dX7_arguments_18 hl (by decide) rfl (fun ls hl => ?_)
    refine lv_aload_n hx hb dX7_arguments_20 rfl (lv_at hl 3 rfl) ?_
    refine lv_bipush (v := iv 40) hx hb dX7_arguments_21 rfl ?_
    have hn_3 : -1 ≤ μ.1 26 10 ∧ μ.1 26 10 ≤ 3000 := hI.nm.2.2.2.2.2.2.2.2.2.2.2.2
    refine xc_vV G (b := 23) (rest := []) (As := [.int (iv 40)]) (c_X7_needOpen_b ω l μ 40 (by unfold ir; omega) hI hTK (by omega) (by omega)) (wm 3 197 rfl rfl) (wm 3 199 rfl rfl) (wm 0 14 rfl rfl) rfl rfl (by decide) rfl (wm 1 12 rfl rfl) (wm 3 200 rfl rfl) (by decide) hR ⟨nfr hF (by decide), nlo hLo (by decide)⟩ (n := 1) rfl rfl (Nat.le_of_ble_eq_true rfl) hl.1 dX7_arguments_23 (fun μ4 ρ d0 H locs hp G => ?_)
    obtain ⟨F_5, hI_6, hp_7, hp_8, hp_9, hp_10, hs_11, hs_12, hs_13, hs_14, hs_15, hs_16, hs_17, hs_18, hs_19, hs_20, hs_21⟩ := hp
    have hn_22 : -1 ≤ μ4.1 26 10 ∧ μ4.1 26 10 ≤ 3000 := hI_6.nm.2.2.2.2.2.2.2.2.2.2.2.2
    have htb_23 := hp_7.b
    refine xj (pc2 := 43) (st2 := fun v9 => [.int (iv v9)]) (C := fun v9 => 0 ≤ v9 ∧ v9 ≤ 1) (fun v9 hv9 => ?_) (fun kont_43 => ?_)
    · skip
      have hr_v9 : -2147483648 ≤ v9 ∧ v9 ≤ 2147483647 := by omega
      refine lv_istore (lv' := [(9, .int (iv v9)), (8, .int (iv 0)), (7, .int (iv x4)), (6, .int (iv v9)), (0, .ref (oP ω 23)), (1, .int (iv x1)), (2, .int (iv x2)), (3, .long (jv x3)), (5, .int (iv x4))]) hx hb dX7_arguments_43 hl (by decide) rfl (fun ls hl => ?_)
      refine lv_iconst (v := iv 0) hx hb dX7_arguments_45 rfl ?_
      refine lv_istore (lv' := [(10, .int (iv 0)), (9, .int (iv v9)), (8, .int (iv 0)), (7, .int (iv x4)), (6, .int (iv v9)), (0, .ref (oP ω 23)), (1, .int (iv x1)), (2, .int (iv x2)), (3, .long (jv x3)), (5, .int (iv x4))]) hx hb dX7_arguments_46 hl (by decide) rfl (fun ls hl => ?_)
      have e_24 : μ4.1 23 9 = μ.1 23 9 + 1 := hs_11
      have e_25 : μ4.1 23 9 = μ.1 23 9 + 1 := hs_11
      have e_26 : μ4.1 P 1 = μ.1 P 1 := (F_5.1 P (ni hprP (fun P => P) (fun P => [26, 23]) rfl) 1)
      have e_27 : μ4.1 P 1 = μ.1 P 1 := (F_5.1 P (ni hprP (fun P => P) (fun P => [26, 23]) rfl) 1)
      have e_28 : μ4.1 P 1 = μ.1 P 1 := (F_5.1 P (ni hprP (fun P => P) (fun P => [26, 23]) rfl) 1)
      have e_29 : μ4.1 (P + 2) 3 = μ.1 (P + 2) 3 := (F_5.1 (P + 2) (ni hprP (fun P => P + 2) (fun P => [26, 23]) rfl) 3)
      have e_30 : μ4.1 P 1 = μ.1 P 1 := (F_5.1 P (ni hprP (fun P => P) (fun P => [26, 23]) rfl) 1)
      have e_31 : μ4.1 (P + 2) 3 = μ.1 (P + 2) 3 := (F_5.1 (P + 2) (ni hprP (fun P => P + 2) (fun P => [26, 23]) rfl) 3)
      have hk_32 := hI.row (r := P + 2) (hprP.row)
      unfold rk at hk_32
      have hpx_33 : μ4.1 26 11 = 0 → PXE μo μ4 P tt ee x4 1 := fun h0 => (hpx (by have h9 : μ.1 26 11 = μ.1 26 11 := rfl; have h8 : μ4.1 26 11 = μ4.1 26 11 := rfl; omega)).fr (K := [26, 23]) (Fr.tr Fr.rf F_5 (by decide)) (npL_p (L := [26, 23]) (by decide) hprP).1 (npL_p (L := [26, 23]) (by decide) hprP).2.1
      refine xl (fun n_9 μ' ls => ∃ (f9 : Int), ∃ (c9 : Int), ∃ (m9 : Int), ∃ (i9 : Int), (Fr [2, 3, 4, 23, 24, 26, P, P + 1, P + 2, (P + 2) + 1, (P + 2) + 2, (P + 2) + 3] μ4 μ') ∧ (-2147483648 ≤ f9 ∧ f9 ≤ 2147483647) ∧ (-2147483648 ≤ c9 ∧ c9 ≤ 2147483647) ∧ (-2147483648 ≤ m9 ∧ m9 ≤ 2147483647) ∧ (-2147483648 ≤ i9 ∧ i9 ≤ 2147483647) ∧ (0 ≤ c9 ∧ c9 ≤ i9) ∧ (μ'.1 23 9 = μ.1 23 9 + 1) ∧ (μ'.1 23 9 ≤ 8 + μ'.1 26 11) ∧ (i9 ≤ 3000) ∧ (0 ≤ m9 ∧ m9 ≤ 1) ∧ (TK μ') ∧ (μ.1 26 11 ≤ μ'.1 26 11) ∧ (μ.1 26 10 ≤ μ'.1 26 10) ∧ (μ.1 P 1 ≤ μ'.1 P 1 ∧ μ'.1 P 1 ≤ μ.1 P 1 + 2 * (μ'.1 26 10 - μ.1 26 10) + (- 2 + 3 * μ'.1 26 11)) ∧ (μ'.1 P 1 ≤ μ.1 P 1 + 2 * (μ'.1 26 10 - μ.1 26 10) + (1 - m9)) ∧ (μ'.1 (P + 2) 3 - μ.1 (P + 2) 3 ≤ μ'.1 P 1 - μ.1 P 1 ∧ μ.1 (P + 2) 3 ≤ μ'.1 (P + 2) 3) ∧ (μ'.1 26 11 = 0 → PXE μo μ' P tt (ee + c9) f9 1) ∧ (μ'.1 23 2 = P) ∧ (μ'.1 23 5 = μ.1 23 5) ∧ (μ'.1 23 6 = μ.1 23 6) ∧ (μ'.1 23 7 = μ.1 23 7) ∧ (μ'.1 23 8 = tt) ∧ (μ'.1 23 10 = μ.1 23 10) ∧ (μ'.1 26 6 = μ.1 26 6) ∧ (μ'.1 P 7 = μ.1 P 7) ∧ (IC μ') ∧ n_9 = Int.toNat (3000 - i9) ∧ lv_has ls 11 [(10, .int (iv i9)), (9, .int (iv m9)), (8, .int (iv c9)), (7, .int (iv f9)), (6, .int (iv v9)), (0, .ref (oP ω 23)), (1, .int (iv x1)), (2, .int (iv x2)), (3, .long (jv x3)), (5, .int (iv x4))]) (fun n_9 ρ μL34 d0 H locs ls hI_l G ih => ?_) _ _ _ _ _ _ _ ⟨x4, 0, v9, 0, Fr.rf, (by omega), (by omega), (by omega), (by omega), (by omega), (by omega), (by omega), (by omega), (by omega), hp_7, (by omega), (by omega), (by omega), (by omega), (by omega), (fun h0 => (hpx_33 h0).e (by omega)), (hs_16.trans hP.symm), hs_17, hs_18, hs_19, (hs_20.trans htt.symm), hs_21, hs_12, (F_5.1 P (ni hprP (fun P => P) (fun P => [26, 23]) rfl) 7), hI_6, rfl, lv_sub hl [0, 1, 2, 3, 4, 5, 6, 7, 8, 9] rfl⟩ G
      obtain ⟨f9, c9, m9, i9, FL35, hi_37, hi_38, hi_39, hi_40, hi_41, hi_42, hi_43, hi_44, hi_45, hi_46, hi_47, hi_48, hi_49, hi_50, hi_51, hi_52, hi_53, hi_54, hi_55, hi_56, hi_57, hi_58, hi_59, hi_60, hi_61, hn36, hl⟩ := hI_l
      have htb_62 := hi_46.b
      refine lv_iload hx hb dX7_arguments_48 (lv_at hl 0 rfl) ?_
      refine lv_sipush (v := iv 3000) hx hb dX7_arguments_50 rfl ?_
      refine xb_icmp_ge (tgt := 115) hx hb (by unfold ir; omega) (by unfold ir; omega) dX7_arguments_53 (by decide) (fun c_53 => ?_) (fun c_53 => ?_)
      · refine lv_aload_n hx hb dX7_arguments_115 rfl (lv_at hl 5 rfl) ?_
        refine lv_bipush (v := iv 41) hx hb dX7_arguments_116 rfl ?_
        have hn_63 : -1 ≤ μL34.1 26 10 ∧ μL34.1 26 10 ≤ 3000 := hi_61.nm.2.2.2.2.2.2.2.2.2.2.2.2
        refine xc_vV G (b := 23) (rest := []) (As := [.int (iv 41)]) (c_X7_needClosed_b ω l μL34 41 (by unfold ir; omega) hi_61 hi_46 (by omega) (by omega)) (wm 3 214 rfl rfl) (wm 3 216 rfl rfl) (wm 0 18 rfl rfl) rfl rfl (by decide) rfl (wm 1 12 rfl rfl) (wm 3 217 rfl rfl) (by decide) hR ⟨nfr hF (by decide), nlo hLo (by decide)⟩ (n := 1) rfl rfl (Nat.le_of_ble_eq_true rfl) hl.1 dX7_arguments_118 (fun μ64 ρ d0 H locs hp G => ?_)
        obtain ⟨F_65, hI_66, hp_67, hp_68, hp_69, hs_70, hs_71, hs_72, hs_73, hs_74, hs_75, hs_76, hs_77, hs_78, hs_79, hs_80⟩ := hp
        have hn_81 : -1 ≤ μ64.1 26 10 ∧ μ64.1 26 10 ≤ 3000 := hI_66.nm.2.2.2.2.2.2.2.2.2.2.2.2
        have htb_82 := hp_67.b
        refine lv_aload_n hx hb dX7_arguments_121 rfl (lv_at hl 5 rfl) ?_
        refine xa_getr G fd_X7 (a := 23) (x := P) 2 rfl (by decide) rfl (wm 2 19 rfl rfl) ⟨rfl, rfl, rfl⟩ dX7_arguments_122 rfl (hs_75.trans hi_53) (by omega) (hprP.hq ω ρ) ?_
        refine lv_iconst (v := iv 0) hx hb dX7_arguments_125 rfl ?_
        refine lv_lload_n hx hb dX7_arguments_126 rfl (lv_at hl 8 rfl) ?_
        refine lv_dconst0 hx hb dX7_arguments_127 ?_
        refine xb_topd (fun dd_83 he_dd_83 => ?_)
        have hpx_84 : μ64.1 26 11 = 0 → PXE μo μ64 P tt (ee + c9) f9 1 := fun h0 => (hi_52 (by have h9 : μL34.1 26 11 = μL34.1 26 11 := rfl; have h8 : μ64.1 26 11 = μ64.1 26 11 := rfl; omega)).fr (K := [26, 23]) (Fr.tr Fr.rf F_65 (by decide)) (npL_p (L := [26, 23]) (by decide) hprP).1 (npL_p (L := [26, 23]) (by decide) hprP).2.1
        have hk_85 := hi_61.row (r := P + 2) (hprP.row)
        unfold rk at hk_85
        have e_86 : μ64.1 (P + 2) 3 = μL34.1 (P + 2) 3 := (F_65.1 (P + 2) (ni hprP (fun P => P + 2) (fun P => [26, 23]) rfl) 3)
        refine xc_iV G (b := P) (rest := []) (As := [.int (iv 0), .long (jv x3), .double (dv dd_83)]) (c_X8_addConstant ω l μ64 P 0 x3 dd_83 (μL34.1 (P + 2) 3) hprP (by unfold ir; omega) hx3 hI_66 (by omega) (by omega)) (wm 4 67 rfl rfl) (wm 4 68 rfl rfl) (wm 4 69 rfl rfl) hprP.ly rfl (by decide) (hprP.hq ω ρ) (wm 1 9 rfl rfl) (wm 4 70 rfl rfl) (by decide) hR ⟨nfr hF (by decide), nlo hLo (by decide)⟩ (n := 3) rfl rfl (Nat.le_of_ble_eq_true rfl) hl.1 dX7_arguments_128 (fun r_88 μ87 ρ d0 H locs hr_r_88 hp G => ?_)
        have hr_r_88 : -2147483648 ≤ r_88 ∧ r_88 ≤ 2147483647 := hr_r_88
        obtain ⟨F_89, hI_90, hp_91, hp_92⟩ := hp
        have hk_93 := hI_90.row (r := P + 2) (hprP.row)
        unfold rk at hk_93
        refine lv_istore (lv' := [(10, .int (iv r_88)), (9, .int (iv m9)), (8, .int (iv c9)), (7, .int (iv f9)), (6, .int (iv v9)), (0, .ref (oP ω 23)), (1, .int (iv x1)), (2, .int (iv x2)), (3, .long (jv x3)), (5, .int (iv x4))]) hx hb dX7_arguments_131 hl (by decide) rfl (fun ls hl => ?_)
        refine lv_aload_n hx hb dX7_arguments_133 rfl (lv_at hl 5 rfl) ?_
        refine lv_iload_n hx hb dX7_arguments_134 rfl (lv_at hl 6 rfl) ?_
        refine lv_iload hx hb dX7_arguments_135 (lv_at hl 2 rfl) ?_
        refine lv_iconst (v := iv 4) hx hb dX7_arguments_137 rfl ?_
        refine xb_imul hx hb dX7_arguments_138 ?_
        refine lv_iload_n hx hb dX7_arguments_139 rfl (lv_at hl 7 rfl) ?_
        refine xb_iadd hx hb dX7_arguments_140 ?_
        refine lv_iload hx hb dX7_arguments_141 (lv_at hl 0 rfl) ?_
        refine lv_iload hx hb dX7_arguments_143 (lv_at hl 3 rfl) ?_
        have hpx_94 : μ87.1 26 11 = 0 → PXE μo μ87 P tt (ee + c9) f9 1 := fun h0 => (hpx_84 (by have h9 : μ64.1 26 11 = μ64.1 26 11 := rfl; have h8 : μ87.1 26 11 = μ64.1 26 11 := (F_89.1 26 (ni hprP (fun P => 26) (fun P => [P + 2, (P + 2) + 1, (P + 2) + 2, (P + 2) + 3]) rfl) 11); omega)).fr (K := [P + 2, (P + 2) + 1, (P + 2) + 2, (P + 2) + 3]) (Fr.tr Fr.rf F_89 (si hprP (fun P => [P + 2, (P + 2) + 1, (P + 2) + 2, (P + 2) + 3]) (fun P => [P + 2, (P + 2) + 1, (P + 2) + 2, (P + 2) + 3]) rfl)) (ni hprP (fun P => P) (fun P => [P + 2, (P + 2) + 1, (P + 2) + 2, (P + 2) + 3]) rfl) (ni hprP (fun P => P + 1) (fun P => [P + 2, (P + 2) + 1, (P + 2) + 2, (P + 2) + 3]) rfl)
        have e_95 : μ87.1 23 2 = P := ((F_89.1 23 (ni hprP (fun P => 23) (fun P => [P + 2, (P + 2) + 1, (P + 2) + 2, (P + 2) + 3]) rfl) 2).trans (hs_75.trans hi_53))
        have e_96 : μ87.1 23 8 = tt := ((F_89.1 23 (ni hprP (fun P => 23) (fun P => [P + 2, (P + 2) + 1, (P + 2) + 2, (P + 2) + 3]) rfl) 8).trans (hs_79.trans hi_57))
        have hk_97 := hi_61.pr (p := P) hprP
        unfold pk at hk_97
        have hc_98 : 16 ≤ μL34.2.1 (P + 1) ∧ μL34.2.1 (P + 1) ≤ 73024 := hi_61.rm.1 _ hprP.cap
        have e_99 : μ87.1 P 1 = μL34.1 P 1 := ((F_89.1 P (ni hprP (fun P => P) (fun P => [P + 2, (P + 2) + 1, (P + 2) + 2, (P + 2) + 3]) rfl) 1).trans (F_65.1 P (ni hprP (fun P => P) (fun P => [26, 23]) rfl) 1))
        have e_100 : μ87.1 P 1 = μL34.1 P 1 := ((F_89.1 P (ni hprP (fun P => P) (fun P => [P + 2, (P + 2) + 1, (P + 2) + 2, (P + 2) + 3]) rfl) 1).trans (F_65.1 P (ni hprP (fun P => P) (fun P => [26, 23]) rfl) 1))
        refine xc_vV G (b := 23) (rest := []) (As := [.int (iv x1), .int (iv ((c9 * 4) + x2)), .int (iv r_88), .int (iv f9)]) (c_X7_endOfParts ω l μ87 x1 ((c9 * 4) + x2) r_88 f9 μo (ee + c9) (1) P tt (by unfold ir; omega) (by unfold ir; omega) (by unfold ir; omega) (by unfold ir; omega) hI_90 (by omega) (by omega) (by omega) hpx_94 (Or.inr ⟨by omega, by omega, by omega⟩) (by omega) (by by_cases q1 : x1 = 13; (rw [q1, ef13 (by omega) hx2b]; omega); (rw [show x1 = 14 by omega, ef14 (by omega) hx2b]; omega))) (wm 4 27 rfl rfl) (wm 4 29 rfl rfl) (wm 0 30 rfl rfl) rfl rfl (by decide) rfl (wm 1 12 rfl rfl) (wm 4 30 rfl rfl) (by decide) hR ⟨nfr hF (by decide), nlo hLo (by decide)⟩ (n := 4) rfl rfl (Nat.le_of_ble_eq_true rfl) hl.1 dX7_arguments_145 (fun μ101 ρ d0 H locs hp G => ?_)
        obtain ⟨F_102, hI_103, hp_104, hs_105, hs_106⟩ := hp
        have hpx_107 : μ101.1 26 11 = 0 → PXE μo μ101 P tt 1 (-1) 1 := fun h0 => PXE.of (hp_104 (by have h9 : μ87.1 26 11 = μ64.1 26 11 := (F_89.1 26 (ni hprP (fun P => 26) (fun P => [P + 2, (P + 2) + 1, (P + 2) + 2, (P + 2) + 3]) rfl) 11); have h8 : μ101.1 26 11 = μ64.1 26 11 := ((F_102.1 26 (ni hprP (fun P => 26) (fun P => [P, P + 1]) rfl) 11).trans (F_89.1 26 (ni hprP (fun P => 26) (fun P => [P + 2, (P + 2) + 1, (P + 2) + 2, (P + 2) + 3]) rfl) 11)); omega))
        clear hp_104
        have htk_108 : TK μ101 := hp_67.fr (K := [P, P + 1, P + 2, (P + 2) + 1, (P + 2) + 2, (P + 2) + 3]) (Fr.tr (Fr.tr Fr.rf F_89 (si hprP (fun P => [P + 2, (P + 2) + 1, (P + 2) + 2, (P + 2) + 3]) (fun P => [P, P + 1, P + 2, (P + 2) + 1, (P + 2) + 2, (P + 2) + 3]) rfl)) F_102 (si hprP (fun P => [P, P + 1]) (fun P => [P, P + 1, P + 2, (P + 2) + 1, (P + 2) + 2, (P + 2) + 3]) rfl)) (ni hprP (fun P => 26) (fun P => [P, P + 1, P + 2, (P + 2) + 1, (P + 2) + 2, (P + 2) + 3]) rfl) (ni hprP (fun P => 28) (fun P => [P, P + 1, P + 2, (P + 2) + 1, (P + 2) + 2, (P + 2) + 3]) rfl)
        have e_109 : μ101.1 26 11 = μ64.1 26 11 := ((F_102.1 26 (ni hprP (fun P => 26) (fun P => [P, P + 1]) rfl) 11).trans (F_89.1 26 (ni hprP (fun P => 26) (fun P => [P + 2, (P + 2) + 1, (P + 2) + 2, (P + 2) + 3]) rfl) 11))
        have e_110 : μ101.1 26 11 = μ64.1 26 11 := ((F_102.1 26 (ni hprP (fun P => 26) (fun P => [P, P + 1]) rfl) 11).trans (F_89.1 26 (ni hprP (fun P => 26) (fun P => [P + 2, (P + 2) + 1, (P + 2) + 2, (P + 2) + 3]) rfl) 11))
        have e_111 : μ101.1 26 10 = μ64.1 26 10 := ((F_102.1 26 (ni hprP (fun P => 26) (fun P => [P, P + 1]) rfl) 10).trans (F_89.1 26 (ni hprP (fun P => 26) (fun P => [P + 2, (P + 2) + 1, (P + 2) + 2, (P + 2) + 3]) rfl) 10))
        have e_112 : μ101.1 P 1 = μ87.1 P 1 + 1 := hs_105
        have e_113 : μ101.1 P 1 = μ87.1 P 1 + 1 := hs_105
        have e_114 : μ101.1 26 10 = μ64.1 26 10 := ((F_102.1 26 (ni hprP (fun P => 26) (fun P => [P, P + 1]) rfl) 10).trans (F_89.1 26 (ni hprP (fun P => 26) (fun P => [P + 2, (P + 2) + 1, (P + 2) + 2, (P + 2) + 3]) rfl) 10))
        have e_115 : μ101.1 26 11 = μ64.1 26 11 := ((F_102.1 26 (ni hprP (fun P => 26) (fun P => [P, P + 1]) rfl) 11).trans (F_89.1 26 (ni hprP (fun P => 26) (fun P => [P + 2, (P + 2) + 1, (P + 2) + 2, (P + 2) + 3]) rfl) 11))
        have e_116 : μ101.1 (P + 2) 3 = μ87.1 (P + 2) 3 := (F_102.1 (P + 2) (ni hprP (fun P => P + 2) (fun P => [P, P + 1]) rfl) 3)
        have e_117 : μ101.1 P 1 = μ87.1 P 1 + 1 := hs_105
        have e_118 : μ101.1 (P + 2) 3 = μ87.1 (P + 2) 3 := (F_102.1 (P + 2) (ni hprP (fun P => P + 2) (fun P => [P, P + 1]) rfl) 3)
        have e_119 : μ101.1 23 9 = μL34.1 23 9 - 1 := ((F_102.1 23 (ni hprP (fun P => 23) (fun P => [P, P + 1]) rfl) 9).trans ((F_89.1 23 (ni hprP (fun P => 23) (fun P => [P + 2, (P + 2) + 1, (P + 2) + 2, (P + 2) + 3]) rfl) 9).trans hs_70))
        exact xr_v G hret hlk dX7_arguments_148 ⟨(Fr.tr (Fr.tr (Fr.tr (Fr.tr (Fr.tr Fr.rf F_5 (si hprP (fun P => [26, 23]) (fun P => [2, 3, 4, 23, 24, 26, P, P + 1, P + 2, (P + 2) + 1, (P + 2) + 2, (P + 2) + 3]) rfl)) FL35 (si hprP (fun P => [2, 3, 4, 23, 24, 26, P, P + 1, P + 2, (P + 2) + 1, (P + 2) + 2, (P + 2) + 3]) (fun P => [2, 3, 4, 23, 24, 26, P, P + 1, P + 2, (P + 2) + 1, (P + 2) + 2, (P + 2) + 3]) rfl)) F_65 (si hprP (fun P => [26, 23]) (fun P => [2, 3, 4, 23, 24, 26, P, P + 1, P + 2, (P + 2) + 1, (P + 2) + 2, (P + 2) + 3]) rfl)) F_89 (si hprP (fun P => [P + 2, (P + 2) + 1, (P + 2) + 2, (P + 2) + 3]) (fun P => [2, 3, 4, 23, 24, 26, P, P + 1, P + 2, (P + 2) + 1, (P + 2) + 2, (P + 2) + 3]) rfl)) F_102 (si hprP (fun P => [P, P + 1]) (fun P => [2, 3, 4, 23, 24, 26, P, P + 1, P + 2, (P + 2) + 1, (P + 2) + 2, (P + 2) + 3]) rfl)), hI_103, htk_108, (by omega), (by omega), (by omega), (by omega), (fun h0 => (PXE.ex (hpx_107 h0)).e (by omega)), (((F_102.1 23 (ni hprP (fun P => 23) (fun P => [P, P + 1]) rfl) 2).trans ((F_89.1 23 (ni hprP (fun P => 23) (fun P => [P + 2, (P + 2) + 1, (P + 2) + 2, (P + 2) + 3]) rfl) 2).trans (hs_75.trans hi_53)))).trans hP, ((F_102.1 23 (ni hprP (fun P => 23) (fun P => [P, P + 1]) rfl) 5).trans ((F_89.1 23 (ni hprP (fun P => 23) (fun P => [P + 2, (P + 2) + 1, (P + 2) + 2, (P + 2) + 3]) rfl) 5).trans (hs_76.trans hi_54))), ((F_102.1 23 (ni hprP (fun P => 23) (fun P => [P, P + 1]) rfl) 6).trans ((F_89.1 23 (ni hprP (fun P => 23) (fun P => [P + 2, (P + 2) + 1, (P + 2) + 2, (P + 2) + 3]) rfl) 6).trans (hs_77.trans hi_55))), ((F_102.1 23 (ni hprP (fun P => 23) (fun P => [P, P + 1]) rfl) 7).trans ((F_89.1 23 (ni hprP (fun P => 23) (fun P => [P + 2, (P + 2) + 1, (P + 2) + 2, (P + 2) + 3]) rfl) 7).trans (hs_78.trans hi_56))), (((F_102.1 23 (ni hprP (fun P => 23) (fun P => [P, P + 1]) rfl) 8).trans ((F_89.1 23 (ni hprP (fun P => 23) (fun P => [P + 2, (P + 2) + 1, (P + 2) + 2, (P + 2) + 3]) rfl) 8).trans (hs_79.trans hi_57)))).trans htt, (by omega), ((F_102.1 23 (ni hprP (fun P => 23) (fun P => [P, P + 1]) rfl) 10).trans ((F_89.1 23 (ni hprP (fun P => 23) (fun P => [P + 2, (P + 2) + 1, (P + 2) + 2, (P + 2) + 3]) rfl) 10).trans (hs_80.trans hi_58))), ((F_102.1 26 (ni hprP (fun P => 26) (fun P => [P, P + 1]) rfl) 6).trans ((F_89.1 26 (ni hprP (fun P => 26) (fun P => [P + 2, (P + 2) + 1, (P + 2) + 2, (P + 2) + 3]) rfl) 6).trans (hs_71.trans hi_59))), (hs_106.trans ((F_89.1 P (ni hprP (fun P => P) (fun P => [P + 2, (P + 2) + 1, (P + 2) + 2, (P + 2) + 3]) rfl) 7).trans ((F_65.1 P (ni hprP (fun P => P) (fun P => [26, 23]) rfl) 7).trans hi_60)))⟩
      · refine lv_iload hx hb dX7_arguments_56 (lv_at hl 1 rfl) ?_
        refine xb_if_eq (tgt := 115) hx hb (by unfold ir; omega) dX7_arguments_58 (by decide) (fun c_58 => ?_) (fun c_58 => ?_)
        · refine lv_aload_n hx hb dX7_arguments_115 rfl (lv_at hl 5 rfl) ?_
          refine lv_bipush (v := iv 41) hx hb dX7_arguments_116 rfl ?_
          have hn_120 : -1 ≤ μL34.1 26 10 ∧ μL34.1 26 10 ≤ 3000 := hi_61.nm.2.2.2.2.2.2.2.2.2.2.2.2
          refine xc_vV G (b := 23) (rest := []) (As := [.int (iv 41)]) (c_X7_needClosed_b ω l μL34 41 (by unfold ir; omega) hi_61 hi_46 (by omega) (by omega)) (wm 3 214 rfl rfl) (wm 3 216 rfl rfl) (wm 0 18 rfl rfl) rfl rfl (by decide) rfl (wm 1 12 rfl rfl) (wm 3 217 rfl rfl) (by decide) hR ⟨nfr hF (by decide), nlo hLo (by decide)⟩ (n := 1) rfl rfl (Nat.le_of_ble_eq_true rfl) hl.1 dX7_arguments_118 (fun μ121 ρ d0 H locs hp G => ?_)
          obtain ⟨F_122, hI_123, hp_124, hp_125, hp_126, hs_127, hs_128, hs_129, hs_130, hs_131, hs_132, hs_133, hs_134, hs_135, hs_136, hs_137⟩ := hp
          have hn_138 : -1 ≤ μ121.1 26 10 ∧ μ121.1 26 10 ≤ 3000 := hI_123.nm.2.2.2.2.2.2.2.2.2.2.2.2
          have htb_139 := hp_124.b
          refine lv_aload_n hx hb dX7_arguments_121 rfl (lv_at hl 5 rfl) ?_
          refine xa_getr G fd_X7 (a := 23) (x := P) 2 rfl (by decide) rfl (wm 2 19 rfl rfl) ⟨rfl, rfl, rfl⟩ dX7_arguments_122 rfl (hs_132.trans hi_53) (by omega) (hprP.hq ω ρ) ?_
          refine lv_iconst (v := iv 0) hx hb dX7_arguments_125 rfl ?_
          refine lv_lload_n hx hb dX7_arguments_126 rfl (lv_at hl 8 rfl) ?_
          refine lv_dconst0 hx hb dX7_arguments_127 ?_
          refine xb_topd (fun dd_140 he_dd_140 => ?_)
          have hpx_141 : μ121.1 26 11 = 0 → PXE μo μ121 P tt (ee + c9) f9 1 := fun h0 => (hi_52 (by have h9 : μL34.1 26 11 = μL34.1 26 11 := rfl; have h8 : μ121.1 26 11 = μ121.1 26 11 := rfl; omega)).fr (K := [26, 23]) (Fr.tr Fr.rf F_122 (by decide)) (npL_p (L := [26, 23]) (by decide) hprP).1 (npL_p (L := [26, 23]) (by decide) hprP).2.1
          have hk_142 := hi_61.row (r := P + 2) (hprP.row)
          unfold rk at hk_142
          have e_143 : μ121.1 (P + 2) 3 = μL34.1 (P + 2) 3 := (F_122.1 (P + 2) (ni hprP (fun P => P + 2) (fun P => [26, 23]) rfl) 3)
          refine xc_iV G (b := P) (rest := []) (As := [.int (iv 0), .long (jv x3), .double (dv dd_140)]) (c_X8_addConstant ω l μ121 P 0 x3 dd_140 (μL34.1 (P + 2) 3) hprP (by unfold ir; omega) hx3 hI_123 (by omega) (by omega)) (wm 4 67 rfl rfl) (wm 4 68 rfl rfl) (wm 4 69 rfl rfl) hprP.ly rfl (by decide) (hprP.hq ω ρ) (wm 1 9 rfl rfl) (wm 4 70 rfl rfl) (by decide) hR ⟨nfr hF (by decide), nlo hLo (by decide)⟩ (n := 3) rfl rfl (Nat.le_of_ble_eq_true rfl) hl.1 dX7_arguments_128 (fun r_145 μ144 ρ d0 H locs hr_r_145 hp G => ?_)
          have hr_r_145 : -2147483648 ≤ r_145 ∧ r_145 ≤ 2147483647 := hr_r_145
          obtain ⟨F_146, hI_147, hp_148, hp_149⟩ := hp
          have hk_150 := hI_147.row (r := P + 2) (hprP.row)
          unfold rk at hk_150
          refine lv_istore (lv' := [(10, .int (iv r_145)), (9, .int (iv m9)), (8, .int (iv c9)), (7, .int (iv f9)), (6, .int (iv v9)), (0, .ref (oP ω 23)), (1, .int (iv x1)), (2, .int (iv x2)), (3, .long (jv x3)), (5, .int (iv x4))]) hx hb dX7_arguments_131 hl (by decide) rfl (fun ls hl => ?_)
          refine lv_aload_n hx hb dX7_arguments_133 rfl (lv_at hl 5 rfl) ?_
          refine lv_iload_n hx hb dX7_arguments_134 rfl (lv_at hl 6 rfl) ?_
          refine lv_iload hx hb dX7_arguments_135 (lv_at hl 2 rfl) ?_
          refine lv_iconst (v := iv 4) hx hb dX7_arguments_137 rfl ?_
          refine xb_imul hx hb dX7_arguments_138 ?_
          refine lv_iload_n hx hb dX7_arguments_139 rfl (lv_at hl 7 rfl) ?_
          refine xb_iadd hx hb dX7_arguments_140 ?_
          refine lv_iload hx hb dX7_arguments_141 (lv_at hl 0 rfl) ?_
          refine lv_iload hx hb dX7_arguments_143 (lv_at hl 3 rfl) ?_
          have hpx_151 : μ144.1 26 11 = 0 → PXE μo μ144 P tt (ee + c9) f9 1 := fun h0 => (hpx_141 (by have h9 : μ121.1 26 11 = μ121.1 26 11 := rfl; have h8 : μ144.1 26 11 = μ121.1 26 11 := (F_146.1 26 (ni hprP (fun P => 26) (fun P => [P + 2, (P + 2) + 1, (P + 2) + 2, (P + 2) + 3]) rfl) 11); omega)).fr (K := [P + 2, (P + 2) + 1, (P + 2) + 2, (P + 2) + 3]) (Fr.tr Fr.rf F_146 (si hprP (fun P => [P + 2, (P + 2) + 1, (P + 2) + 2, (P + 2) + 3]) (fun P => [P + 2, (P + 2) + 1, (P + 2) + 2, (P + 2) + 3]) rfl)) (ni hprP (fun P => P) (fun P => [P + 2, (P + 2) + 1, (P + 2) + 2, (P + 2) + 3]) rfl) (ni hprP (fun P => P + 1) (fun P => [P + 2, (P + 2) + 1, (P + 2) + 2, (P + 2) + 3]) rfl)
          have e_152 : μ144.1 23 2 = P := ((F_146.1 23 (ni hprP (fun P => 23) (fun P => [P + 2, (P + 2) + 1, (P + 2) + 2, (P + 2) + 3]) rfl) 2).trans (hs_132.trans hi_53))
          have e_153 : μ144.1 23 8 = tt := ((F_146.1 23 (ni hprP (fun P => 23) (fun P => [P + 2, (P + 2) + 1, (P + 2) + 2, (P + 2) + 3]) rfl) 8).trans (hs_136.trans hi_57))
          have hk_154 := hi_61.pr (p := P) hprP
          unfold pk at hk_154
          have hc_155 : 16 ≤ μL34.2.1 (P + 1) ∧ μL34.2.1 (P + 1) ≤ 73024 := hi_61.rm.1 _ hprP.cap
          have e_156 : μ144.1 P 1 = μL34.1 P 1 := ((F_146.1 P (ni hprP (fun P => P) (fun P => [P + 2, (P + 2) + 1, (P + 2) + 2, (P + 2) + 3]) rfl) 1).trans (F_122.1 P (ni hprP (fun P => P) (fun P => [26, 23]) rfl) 1))
          have e_157 : μ144.1 P 1 = μL34.1 P 1 := ((F_146.1 P (ni hprP (fun P => P) (fun P => [P + 2, (P + 2) + 1, (P + 2) + 2, (P + 2) + 3]) rfl) 1).trans (F_122.1 P (ni hprP (fun P => P) (fun P => [26, 23]) rfl) 1))
          refine xc_vV G (b := 23) (rest := []) (As := [.int (iv x1), .int (iv ((c9 * 4) + x2)), .int (iv r_145), .int (iv f9)]) (c_X7_endOfParts ω l μ144 x1 ((c9 * 4) + x2) r_145 f9 μo (ee + c9) (1) P tt (by unfold ir; omega) (by unfold ir; omega) (by unfold ir; omega) (by unfold ir; omega) hI_147 (by omega) (by omega) (by omega) hpx_151 (Or.inr ⟨by omega, by omega, by omega⟩) (by omega) (by by_cases q1 : x1 = 13; (rw [q1, ef13 (by omega) hx2b]; omega); (rw [show x1 = 14 by omega, ef14 (by omega) hx2b]; omega))) (wm 4 27 rfl rfl) (wm 4 29 rfl rfl) (wm 0 30 rfl rfl) rfl rfl (by decide) rfl (wm 1 12 rfl rfl) (wm 4 30 rfl rfl) (by decide) hR ⟨nfr hF (by decide), nlo hLo (by decide)⟩ (n := 4) rfl rfl (Nat.le_of_ble_eq_true rfl) hl.1 dX7_arguments_145 (fun μ158 ρ d0 H locs hp G => ?_)
          obtain ⟨F_159, hI_160, hp_161, hs_162, hs_163⟩ := hp
          have hpx_164 : μ158.1 26 11 = 0 → PXE μo μ158 P tt 1 (-1) 1 := fun h0 => PXE.of (hp_161 (by have h9 : μ144.1 26 11 = μ121.1 26 11 := (F_146.1 26 (ni hprP (fun P => 26) (fun P => [P + 2, (P + 2) + 1, (P + 2) + 2, (P + 2) + 3]) rfl) 11); have h8 : μ158.1 26 11 = μ121.1 26 11 := ((F_159.1 26 (ni hprP (fun P => 26) (fun P => [P, P + 1]) rfl) 11).trans (F_146.1 26 (ni hprP (fun P => 26) (fun P => [P + 2, (P + 2) + 1, (P + 2) + 2, (P + 2) + 3]) rfl) 11)); omega))
          clear hp_161
          have htk_165 : TK μ158 := hp_124.fr (K := [P, P + 1, P + 2, (P + 2) + 1, (P + 2) + 2, (P + 2) + 3]) (Fr.tr (Fr.tr Fr.rf F_146 (si hprP (fun P => [P + 2, (P + 2) + 1, (P + 2) + 2, (P + 2) + 3]) (fun P => [P, P + 1, P + 2, (P + 2) + 1, (P + 2) + 2, (P + 2) + 3]) rfl)) F_159 (si hprP (fun P => [P, P + 1]) (fun P => [P, P + 1, P + 2, (P + 2) + 1, (P + 2) + 2, (P + 2) + 3]) rfl)) (ni hprP (fun P => 26) (fun P => [P, P + 1, P + 2, (P + 2) + 1, (P + 2) + 2, (P + 2) + 3]) rfl) (ni hprP (fun P => 28) (fun P => [P, P + 1, P + 2, (P + 2) + 1, (P + 2) + 2, (P + 2) + 3]) rfl)
          have e_166 : μ158.1 26 11 = μ121.1 26 11 := ((F_159.1 26 (ni hprP (fun P => 26) (fun P => [P, P + 1]) rfl) 11).trans (F_146.1 26 (ni hprP (fun P => 26) (fun P => [P + 2, (P + 2) + 1, (P + 2) + 2, (P + 2) + 3]) rfl) 11))
          have e_167 : μ158.1 26 11 = μ121.1 26 11 := ((F_159.1 26 (ni hprP (fun P => 26) (fun P => [P, P + 1]) rfl) 11).trans (F_146.1 26 (ni hprP (fun P => 26) (fun P => [P + 2, (P + 2) + 1, (P + 2) + 2, (P + 2) + 3]) rfl) 11))
          have e_168 : μ158.1 26 10 = μ121.1 26 10 := ((F_159.1 26 (ni hprP (fun P => 26) (fun P => [P, P + 1]) rfl) 10).trans (F_146.1 26 (ni hprP (fun P => 26) (fun P => [P + 2, (P + 2) + 1, (P + 2) + 2, (P + 2) + 3]) rfl) 10))
          have e_169 : μ158.1 P 1 = μ144.1 P 1 + 1 := hs_162
          have e_170 : μ158.1 P 1 = μ144.1 P 1 + 1 := hs_162
          have e_171 : μ158.1 26 10 = μ121.1 26 10 := ((F_159.1 26 (ni hprP (fun P => 26) (fun P => [P, P + 1]) rfl) 10).trans (F_146.1 26 (ni hprP (fun P => 26) (fun P => [P + 2, (P + 2) + 1, (P + 2) + 2, (P + 2) + 3]) rfl) 10))
          have e_172 : μ158.1 26 11 = μ121.1 26 11 := ((F_159.1 26 (ni hprP (fun P => 26) (fun P => [P, P + 1]) rfl) 11).trans (F_146.1 26 (ni hprP (fun P => 26) (fun P => [P + 2, (P + 2) + 1, (P + 2) + 2, (P + 2) + 3]) rfl) 11))
          have e_173 : μ158.1 (P + 2) 3 = μ144.1 (P + 2) 3 := (F_159.1 (P + 2) (ni hprP (fun P => P + 2) (fun P => [P, P + 1]) rfl) 3)
          have e_174 : μ158.1 P 1 = μ144.1 P 1 + 1 := hs_162
          have e_175 : μ158.1 (P + 2) 3 = μ144.1 (P + 2) 3 := (F_159.1 (P + 2) (ni hprP (fun P => P + 2) (fun P => [P, P + 1]) rfl) 3)
          have e_176 : μ158.1 23 9 = μL34.1 23 9 - 1 := ((F_159.1 23 (ni hprP (fun P => 23) (fun P => [P, P + 1]) rfl) 9).trans ((F_146.1 23 (ni hprP (fun P => 23) (fun P => [P + 2, (P + 2) + 1, (P + 2) + 2, (P + 2) + 3]) rfl) 9).trans hs_127))
          exact xr_v G hret hlk dX7_arguments_148 ⟨(Fr.tr (Fr.tr (Fr.tr (Fr.tr (Fr.tr Fr.rf F_5 (si hprP (fun P => [26, 23]) (fun P => [2, 3, 4, 23, 24, 26, P, P + 1, P + 2, (P + 2) + 1, (P + 2) + 2, (P + 2) + 3]) rfl)) FL35 (si hprP (fun P => [2, 3, 4, 23, 24, 26, P, P + 1, P + 2, (P + 2) + 1, (P + 2) + 2, (P + 2) + 3]) (fun P => [2, 3, 4, 23, 24, 26, P, P + 1, P + 2, (P + 2) + 1, (P + 2) + 2, (P + 2) + 3]) rfl)) F_122 (si hprP (fun P => [26, 23]) (fun P => [2, 3, 4, 23, 24, 26, P, P + 1, P + 2, (P + 2) + 1, (P + 2) + 2, (P + 2) + 3]) rfl)) F_146 (si hprP (fun P => [P + 2, (P + 2) + 1, (P + 2) + 2, (P + 2) + 3]) (fun P => [2, 3, 4, 23, 24, 26, P, P + 1, P + 2, (P + 2) + 1, (P + 2) + 2, (P + 2) + 3]) rfl)) F_159 (si hprP (fun P => [P, P + 1]) (fun P => [2, 3, 4, 23, 24, 26, P, P + 1, P + 2, (P + 2) + 1, (P + 2) + 2, (P + 2) + 3]) rfl)), hI_160, htk_165, (by omega), (by omega), (by omega), (by omega), (fun h0 => (PXE.ex (hpx_164 h0)).e (by omega)), (((F_159.1 23 (ni hprP (fun P => 23) (fun P => [P, P + 1]) rfl) 2).trans ((F_146.1 23 (ni hprP (fun P => 23) (fun P => [P + 2, (P + 2) + 1, (P + 2) + 2, (P + 2) + 3]) rfl) 2).trans (hs_132.trans hi_53)))).trans hP, ((F_159.1 23 (ni hprP (fun P => 23) (fun P => [P, P + 1]) rfl) 5).trans ((F_146.1 23 (ni hprP (fun P => 23) (fun P => [P + 2, (P + 2) + 1, (P + 2) + 2, (P + 2) + 3]) rfl) 5).trans (hs_133.trans hi_54))), ((F_159.1 23 (ni hprP (fun P => 23) (fun P => [P, P + 1]) rfl) 6).trans ((F_146.1 23 (ni hprP (fun P => 23) (fun P => [P + 2, (P + 2) + 1, (P + 2) + 2, (P + 2) + 3]) rfl) 6).trans (hs_134.trans hi_55))), ((F_159.1 23 (ni hprP (fun P => 23) (fun P => [P, P + 1]) rfl) 7).trans ((F_146.1 23 (ni hprP (fun P => 23) (fun P => [P + 2, (P + 2) + 1, (P + 2) + 2, (P + 2) + 3]) rfl) 7).trans (hs_135.trans hi_56))), (((F_159.1 23 (ni hprP (fun P => 23) (fun P => [P, P + 1]) rfl) 8).trans ((F_146.1 23 (ni hprP (fun P => 23) (fun P => [P + 2, (P + 2) + 1, (P + 2) + 2, (P + 2) + 3]) rfl) 8).trans (hs_136.trans hi_57)))).trans htt, (by omega), ((F_159.1 23 (ni hprP (fun P => 23) (fun P => [P, P + 1]) rfl) 10).trans ((F_146.1 23 (ni hprP (fun P => 23) (fun P => [P + 2, (P + 2) + 1, (P + 2) + 2, (P + 2) + 3]) rfl) 10).trans (hs_137.trans hi_58))), ((F_159.1 26 (ni hprP (fun P => 26) (fun P => [P, P + 1]) rfl) 6).trans ((F_146.1 26 (ni hprP (fun P => 26) (fun P => [P + 2, (P + 2) + 1, (P + 2) + 2, (P + 2) + 3]) rfl) 6).trans (hs_128.trans hi_59))), (hs_163.trans ((F_146.1 P (ni hprP (fun P => P) (fun P => [P + 2, (P + 2) + 1, (P + 2) + 2, (P + 2) + 3]) rfl) 7).trans ((F_122.1 P (ni hprP (fun P => P) (fun P => [26, 23]) rfl) 7).trans hi_60)))⟩
        · refine lv_iload hx hb dX7_arguments_61 (lv_at hl 2 rfl) ?_
          refine lv_bipush (v := iv 8) hx hb dX7_arguments_63 rfl ?_
          refine xb_icmp_lt (tgt := 80) hx hb (by unfold ir; omega) (by unfold ir; omega) dX7_arguments_65 (by decide) (fun c_65 => ?_) (fun c_65 => ?_)
          · refine lv_aload_n hx hb dX7_arguments_80 rfl (lv_at hl 5 rfl) ?_
            refine lv_iconst (v := iv 0) hx hb dX7_arguments_81 rfl ?_
            have e_177 : μL34.1 23 2 = P := hi_53
            have e_178 : μL34.1 23 8 = tt := hi_57
            have hk_179 := hi_61.pr (p := P) hprP
            unfold pk at hk_179
            have hc_180 : 16 ≤ μL34.2.1 (P + 1) ∧ μL34.2.1 (P + 1) ≤ 73024 := hi_61.rm.1 _ hprP.cap
            have hn_181 : -1 ≤ μL34.1 26 10 ∧ μL34.1 26 10 ≤ 3000 := hi_61.nm.2.2.2.2.2.2.2.2.2.2.2.2
            have hk_182 := hi_61.row (r := P + 2) (hprP.row)
            unfold rk at hk_182
            refine xc_vV G (b := 23) (rest := []) (As := [.int (iv 0)]) (((fun (_ : Om) (_ : Launch) => hE)) ω l μL34 0 P tt (by omega) hi_61 (by omega) (by omega) hi_46 (by omega) (by omega) (by omega) (by omega) (by omega) (fun _ => Or.inl (by omega))) (wm 4 3 rfl rfl) (wm 4 5 rfl rfl) (wm 0 24 rfl rfl) rfl rfl (by decide) rfl (wm 1 12 rfl rfl) (wm 4 6 rfl rfl) (by decide) hR ⟨sfr (F := F) (a := 0) (by decide), slo (L := Lo) (m := 3) (a := 0) (by decide)⟩ (n := 1) rfl rfl (Nat.le_of_ble_eq_true rfl) hl.1 dX7_arguments_82 (fun μ183 ρ d0 H locs hp G => ?_)
            obtain ⟨F_184, hI_185, hp_186, hp_187, hp_188, hp_189, hp_190, hp_191, hs_192, hs_193, hs_194, hs_195, hs_196, hs_197, hs_198, hs_199, hs_200⟩ := hp
            have hn_201 : -1 ≤ μ183.1 26 10 ∧ μ183.1 26 10 ≤ 3000 := hI_185.nm.2.2.2.2.2.2.2.2.2.2.2.2
            have hk_202 := hI_185.pr (p := P) hprP
            unfold pk at hk_202
            have hc_203 : 16 ≤ μ183.2.1 (P + 1) ∧ μ183.2.1 (P + 1) ≤ 73024 := hI_185.rm.1 _ hprP.cap
            have hk_204 := hI_185.row (r := P + 2) (hprP.row)
            unfold rk at hk_204
            have htb_205 := hp_186.b
            have hpx_206 : μ183.1 26 11 = 0 → PXE μo μ183 P tt ((ee + c9) + (1 - 0)) f9 1 := fun h0 => (PXE.app (hi_52 (by have h9 : μL34.1 26 11 = μL34.1 26 11 := rfl; have h8 : μ183.1 26 11 = μ183.1 26 11 := rfl; omega)) (hp_191 h0)).e (by omega)
            refine lv_aload_n hx hb dX7_arguments_85 rfl (lv_at hl 5 rfl) ?_
            refine lv_iload hx hb dX7_arguments_86 (lv_at hl 3 rfl) ?_
            refine lv_iload hx hb dX7_arguments_88 (lv_at hl 4 rfl) ?_
            refine lv_iload hx hb dX7_arguments_90 (lv_at hl 2 rfl) ?_
            refine xb_iadd hx hb dX7_arguments_92 ?_
            have e_207 : μ183.1 23 2 = P := (hs_192.trans hi_53)
            have e_208 : μ183.1 23 8 = tt := (hs_196.trans hi_57)
            refine xc_iV G (b := 23) (rest := []) (As := [.int (iv f9), .int (iv (v9 + c9))]) (c_X7_ifFails ω l μ183 f9 (v9 + c9) μo ((ee + c9) + (1 - 0)) (1) P tt (by unfold ir; omega) (by unfold ir; omega) hI_185 (by omega) (by omega) (by omega) hpx_206 (by omega) (by omega)) (wm 4 23 rfl rfl) (wm 4 25 rfl rfl) (wm 0 29 rfl rfl) rfl rfl (by decide) rfl (wm 1 12 rfl rfl) (wm 4 26 rfl rfl) (by decide) hR ⟨nfr hF (by decide), nlo hLo (by decide)⟩ (n := 2) rfl rfl (Nat.le_of_ble_eq_true rfl) hl.1 dX7_arguments_93 (fun r_210 μ209 ρ d0 H locs hr_r_210 hp G => ?_)
            have hr_r_210 : -2147483648 ≤ r_210 ∧ r_210 ≤ 2147483647 := hr_r_210
            obtain ⟨F_211, hI_212, hp_213, hp_214, hs_215⟩ := hp
            have hk_216 := hI_212.pr (p := P) hprP
            unfold pk at hk_216
            have hc_217 : 16 ≤ μ209.2.1 (P + 1) ∧ μ209.2.1 (P + 1) ≤ 73024 := hI_212.rm.1 _ hprP.cap
            have hpx_218 : μ209.1 26 11 = 0 → PXE μo μ209 P tt ((ee + c9) + (1 - 0)) r_210 1 := fun h0 => hp_213 (by have h9 : μ183.1 26 11 = μ183.1 26 11 := rfl; have h8 : μ209.1 26 11 = μ183.1 26 11 := (F_211.1 26 (ni hprP (fun P => 26) (fun P => [P, P + 1]) rfl) 11); omega)
            clear hp_213
            refine lv_istore (lv' := [(7, .int (iv r_210)), (10, .int (iv i9)), (9, .int (iv m9)), (8, .int (iv c9)), (6, .int (iv v9)), (0, .ref (oP ω 23)), (1, .int (iv x1)), (2, .int (iv x2)), (3, .long (jv x3)), (5, .int (iv x4))]) hx hb dX7_arguments_96 hl (by decide) rfl (fun ls hl => ?_)
            refine lv_iinc (v := iv (c9 + 1)) (lv' := [(8, .int (iv (c9 + 1))), (7, .int (iv r_210)), (10, .int (iv i9)), (9, .int (iv m9)), (6, .int (iv v9)), (0, .ref (oP ω 23)), (1, .int (iv x1)), (2, .int (iv x2)), (3, .long (jv x3)), (5, .int (iv x4))]) hx hb dX7_arguments_98 hl (k := 3) rfl (by rw [show Int32.ofInt 1 = iv 1 from rfl, iv_add]) (by decide) rfl (fun ls hl => ?_)
            refine lv_aload_n hx hb dX7_arguments_101 rfl (lv_at hl 5 rfl) ?_
            refine lv_bipush (v := iv 44) hx hb dX7_arguments_102 rfl ?_
            have htk_219 : TK μ209 := hp_186.fr (K := [P, P + 1]) (Fr.tr Fr.rf F_211 (si hprP (fun P => [P, P + 1]) (fun P => [P, P + 1]) rfl)) (ni hprP (fun P => 26) (fun P => [P, P + 1]) rfl) (ni hprP (fun P => 28) (fun P => [P, P + 1]) rfl)
            have e_220 : μ209.1 26 10 = μ183.1 26 10 := (F_211.1 26 (ni hprP (fun P => 26) (fun P => [P, P + 1]) rfl) 10)
            have e_221 : μ209.1 26 11 = μ183.1 26 11 := (F_211.1 26 (ni hprP (fun P => 26) (fun P => [P, P + 1]) rfl) 11)
            refine xc_iV G (b := 23) (rest := []) (As := [.int (iv 44)]) (c_X7_took_b ω l μ209 44 (by unfold ir; omega) hI_212 htk_219 (by omega)) (wm 3 160 rfl rfl) (wm 3 162 rfl rfl) (wm 0 9 rfl rfl) rfl rfl (by decide) rfl (wm 1 12 rfl rfl) (wm 3 163 rfl rfl) (by decide) hR ⟨nfr hF (by decide), nlo hLo (by decide)⟩ (n := 1) rfl rfl (Nat.le_of_ble_eq_true rfl) hl.1 dX7_arguments_104 (fun r_223 μ222 ρ d0 H locs hr_r_223 hp G => ?_)
            have hr_r_223 : -2147483648 ≤ r_223 ∧ r_223 ≤ 2147483647 := hr_r_223
            obtain ⟨F_224, hI_225, hp_226, hp_227, hp_228, hs_229, hs_230, hs_231, hs_232, hs_233⟩ := hp
            have hn_234 : -1 ≤ μ222.1 26 10 ∧ μ222.1 26 10 ≤ 3000 := hI_225.nm.2.2.2.2.2.2.2.2.2.2.2.2
            have htb_235 := hp_226.b
            refine lv_istore (lv' := [(9, .int (iv r_223)), (8, .int (iv (c9 + 1))), (7, .int (iv r_210)), (10, .int (iv i9)), (6, .int (iv v9)), (0, .ref (oP ω 23)), (1, .int (iv x1)), (2, .int (iv x2)), (3, .long (jv x3)), (5, .int (iv x4))]) hx hb dX7_arguments_107 hl (by decide) rfl (fun ls hl => ?_)
            refine lv_iinc (v := iv (i9 + 1)) (lv' := [(10, .int (iv (i9 + 1))), (9, .int (iv r_223)), (8, .int (iv (c9 + 1))), (7, .int (iv r_210)), (6, .int (iv v9)), (0, .ref (oP ω 23)), (1, .int (iv x1)), (2, .int (iv x2)), (3, .long (jv x3)), (5, .int (iv x4))]) hx hb dX7_arguments_109 hl (k := 3) rfl (by rw [show Int32.ofInt 1 = iv 1 from rfl, iv_add]) (by decide) rfl (fun ls hl => ?_)
            refine lv_goto (tgt := 48) hx hb dX7_arguments_112 (by decide) ?_
            have e_236 : μ222.1 23 9 = μL34.1 23 9 := ((F_224.1 23 (by decide) 9).trans ((F_211.1 23 (ni hprP (fun P => 23) (fun P => [P, P + 1]) rfl) 9).trans hs_197))
            have e_237 : μ222.1 23 9 = μL34.1 23 9 := ((F_224.1 23 (by decide) 9).trans ((F_211.1 23 (ni hprP (fun P => 23) (fun P => [P, P + 1]) rfl) 9).trans hs_197))
            have e_238 : μ222.1 26 11 = μ183.1 26 11 := (hs_229.trans (F_211.1 26 (ni hprP (fun P => 26) (fun P => [P, P + 1]) rfl) 11))
            have e_239 : μ222.1 26 11 = μ183.1 26 11 := (hs_229.trans (F_211.1 26 (ni hprP (fun P => 26) (fun P => [P, P + 1]) rfl) 11))
            have e_240 : μ222.1 P 1 = μ209.1 P 1 := (F_224.1 P (ni hprP (fun P => P) (fun P => [26]) rfl) 1)
            have e_241 : μ222.1 P 1 = μ209.1 P 1 := (F_224.1 P (ni hprP (fun P => P) (fun P => [26]) rfl) 1)
            have e_242 : μ222.1 26 11 = μ183.1 26 11 := (hs_229.trans (F_211.1 26 (ni hprP (fun P => 26) (fun P => [P, P + 1]) rfl) 11))
            have e_243 : μ222.1 P 1 = μ209.1 P 1 := (F_224.1 P (ni hprP (fun P => P) (fun P => [26]) rfl) 1)
            have e_244 : μ222.1 (P + 2) 3 = μ183.1 (P + 2) 3 := ((F_224.1 (P + 2) (ni hprP (fun P => P + 2) (fun P => [26]) rfl) 3).trans (F_211.1 (P + 2) (ni hprP (fun P => P + 2) (fun P => [P, P + 1]) rfl) 3))
            have e_245 : μ222.1 P 1 = μ209.1 P 1 := (F_224.1 P (ni hprP (fun P => P) (fun P => [26]) rfl) 1)
            have e_246 : μ222.1 (P + 2) 3 = μ183.1 (P + 2) 3 := ((F_224.1 (P + 2) (ni hprP (fun P => P + 2) (fun P => [26]) rfl) 3).trans (F_211.1 (P + 2) (ni hprP (fun P => P + 2) (fun P => [P, P + 1]) rfl) 3))
            have hpx_247 : μ222.1 26 11 = 0 → PXE μo μ222 P tt ((ee + c9) + (1 - 0)) r_210 1 := fun h0 => (hpx_218 (by have h9 : μ209.1 26 11 = μ183.1 26 11 := (F_211.1 26 (ni hprP (fun P => 26) (fun P => [P, P + 1]) rfl) 11); have h8 : μ222.1 26 11 = μ183.1 26 11 := (hs_229.trans (F_211.1 26 (ni hprP (fun P => 26) (fun P => [P, P + 1]) rfl) 11)); omega)).fr (K := [26]) (Fr.tr Fr.rf F_224 (by decide)) (npL_p (L := [26]) (by decide) hprP).1 (npL_p (L := [26]) (by decide) hprP).2.1
            exact ih _ _ _ _ _ _ _ (by omega) ⟨r_210, c9 + 1, r_223, i9 + 1, (Fr.tr (Fr.tr (Fr.tr FL35 F_184 (si hprP (fun P => [2, 3, 4, 23, 24, 26, P, P + 1, P + 2, (P + 2) + 1, (P + 2) + 2, (P + 2) + 3]) (fun P => [2, 3, 4, 23, 24, 26, P, P + 1, P + 2, (P + 2) + 1, (P + 2) + 2, (P + 2) + 3]) rfl)) F_211 (si hprP (fun P => [P, P + 1]) (fun P => [2, 3, 4, 23, 24, 26, P, P + 1, P + 2, (P + 2) + 1, (P + 2) + 2, (P + 2) + 3]) rfl)) F_224 (si hprP (fun P => [26]) (fun P => [2, 3, 4, 23, 24, 26, P, P + 1, P + 2, (P + 2) + 1, (P + 2) + 2, (P + 2) + 3]) rfl)), (by omega), (by omega), (by omega), (by omega), (by omega), (by omega), (by omega), (by omega), (by omega), hp_226, (by omega), (by omega), (by omega), (by omega), (by omega), (fun h0 => (hpx_247 h0).e (by omega)), ((F_224.1 23 (by decide) 2).trans ((F_211.1 23 (ni hprP (fun P => 23) (fun P => [P, P + 1]) rfl) 2).trans (hs_192.trans hi_53))), ((F_224.1 23 (by decide) 5).trans ((F_211.1 23 (ni hprP (fun P => 23) (fun P => [P, P + 1]) rfl) 5).trans (hs_193.trans hi_54))), ((F_224.1 23 (by decide) 6).trans ((F_211.1 23 (ni hprP (fun P => 23) (fun P => [P, P + 1]) rfl) 6).trans (hs_194.trans hi_55))), ((F_224.1 23 (by decide) 7).trans ((F_211.1 23 (ni hprP (fun P => 23) (fun P => [P, P + 1]) rfl) 7).trans (hs_195.trans hi_56))), ((F_224.1 23 (by decide) 8).trans ((F_211.1 23 (ni hprP (fun P => 23) (fun P => [P, P + 1]) rfl) 8).trans (hs_196.trans hi_57))), ((F_224.1 23 (by decide) 10).trans ((F_211.1 23 (ni hprP (fun P => 23) (fun P => [P, P + 1]) rfl) 10).trans (hs_198.trans hi_58))), (hs_230.trans ((F_211.1 26 (ni hprP (fun P => 26) (fun P => [P, P + 1]) rfl) 6).trans (hs_199.trans hi_59))), ((F_224.1 P (ni hprP (fun P => P) (fun P => [26]) rfl) 7).trans (hs_215.trans (hs_200.trans hi_60))), hI_225, rfl, lv_sub hl [0, 1, 2, 3, 4, 5, 6, 7, 8, 9] rfl⟩ G
          · refine lv_aload_n hx hb dX7_arguments_68 rfl (lv_at hl 5 rfl) ?_
            refine lv_iconst (v := iv 2) hx hb dX7_arguments_69 rfl ?_
            refine lv_aload_n hx hb dX7_arguments_70 rfl (lv_at hl 5 rfl) ?_
            refine xa_getr G fd_X7 (a := 23) (x := 26) 0 rfl (by decide) rfl (wm 2 17 rfl rfl) ⟨rfl, rfl, rfl⟩ dX7_arguments_71 rfl (G.sk 23 rfl) (by decide) rfl ?_
            refine xa_getN G fd_X10 (host := "FourTongues") (a := 26) 13 rfl (by decide) (by decide) ⟨rfl, rfl, rfl⟩ dX7_arguments_74 rfl (v := .int (iv (μL34.1 26 13))) (by rw [show μL34.1 26 13 = μL34.1 26 13 from rfl]; rfl) ?_
            have hr_248 : -2147483648 ≤ μL34.1 26 13 ∧ μL34.1 26 13 ≤ 2147483647 := by have h9 := G.hr (a := 26) (k := 13) rfl; exact h9
            refine xc_vV G (b := 23) (rest := []) (As := [.int (iv 2), .int (iv (μL34.1 26 13))]) (c_X7_tellFault ω l μL34 2 (μL34.1 26 13) (by unfold ir; omega) (by unfold ir; omega) hi_61 (by omega)) (wm 3 177 rfl rfl) (wm 3 179 rfl rfl) (wm 0 12 rfl rfl) rfl rfl (by decide) rfl (wm 1 12 rfl rfl) (wm 3 180 rfl rfl) (by decide) hR ⟨nfr hF (by decide), nlo hLo (by decide)⟩ (n := 2) rfl rfl (Nat.le_of_ble_eq_true rfl) hl.1 dX7_arguments_77 (fun μ249 ρ d0 H locs hp G => ?_)
            obtain ⟨F_250, hI_251⟩ := hp
            refine lv_aload_n hx hb dX7_arguments_80 rfl (lv_at hl 5 rfl) ?_
            refine lv_iconst (v := iv 0) hx hb dX7_arguments_81 rfl ?_
            have hpx_252 : μ249.1 26 11 = 0 → PXE μo μ249 P tt (ee + c9) f9 1 := fun h0 => (hi_52 (by have h9 : μL34.1 26 11 = μL34.1 26 11 := rfl; have h8 : μ249.1 26 11 = μL34.1 26 11 := (F_250.1 26 (by decide) 11); omega)).fr (K := [24]) (Fr.tr Fr.rf F_250 (by decide)) (npL_p (L := [24]) (by decide) hprP).1 (npL_p (L := [24]) (by decide) hprP).2.1
            have e_253 : μ249.1 23 2 = P := ((F_250.1 23 (by decide) 2).trans hi_53)
            have e_254 : μ249.1 23 8 = tt := ((F_250.1 23 (by decide) 8).trans hi_57)
            have htk_255 : TK μ249 := hi_46.fr (K := [24]) (Fr.tr Fr.rf F_250 (by decide)) (by decide) (by decide)
            have hk_256 := hi_61.pr (p := P) hprP
            unfold pk at hk_256
            have hc_257 : 16 ≤ μL34.2.1 (P + 1) ∧ μL34.2.1 (P + 1) ≤ 73024 := hi_61.rm.1 _ hprP.cap
            have e_258 : μ249.1 P 1 = μL34.1 P 1 := (F_250.1 P (ni hprP (fun P => P) (fun P => [24]) rfl) 1)
            have hn_259 : -1 ≤ μL34.1 26 10 ∧ μL34.1 26 10 ≤ 3000 := hi_61.nm.2.2.2.2.2.2.2.2.2.2.2.2
            have e_260 : μ249.1 26 10 = μL34.1 26 10 := (F_250.1 26 (by decide) 10)
            have e_261 : μ249.1 26 11 = μL34.1 26 11 := (F_250.1 26 (by decide) 11)
            have hk_262 := hi_61.row (r := P + 2) (hprP.row)
            unfold rk at hk_262
            have e_263 : μ249.1 (P + 2) 3 = μL34.1 (P + 2) 3 := (F_250.1 (P + 2) (ni hprP (fun P => P + 2) (fun P => [24]) rfl) 3)
            have e_264 : μ249.1 P 1 = μL34.1 P 1 := (F_250.1 P (ni hprP (fun P => P) (fun P => [24]) rfl) 1)
            have e_265 : μ249.1 23 9 = μL34.1 23 9 := (F_250.1 23 (by decide) 9)
            have e_266 : μ249.1 23 9 = μL34.1 23 9 := (F_250.1 23 (by decide) 9)
            have e_267 : μ249.1 26 11 = μL34.1 26 11 := (F_250.1 26 (by decide) 11)
            have e_268 : μ249.1 23 9 = μL34.1 23 9 := (F_250.1 23 (by decide) 9)
            have e_269 : μ249.1 26 11 = μL34.1 26 11 := (F_250.1 26 (by decide) 11)
            have e_270 : μ249.1 26 11 = μL34.1 26 11 := (F_250.1 26 (by decide) 11)
            have e_271 : μ249.1 26 10 = μL34.1 26 10 := (F_250.1 26 (by decide) 10)
            have e_272 : μ249.1 P 1 = μL34.1 P 1 := (F_250.1 P (ni hprP (fun P => P) (fun P => [24]) rfl) 1)
            have e_273 : μ249.1 P 1 = μL34.1 P 1 := (F_250.1 P (ni hprP (fun P => P) (fun P => [24]) rfl) 1)
            have e_274 : μ249.1 26 10 = μL34.1 26 10 := (F_250.1 26 (by decide) 10)
            have e_275 : μ249.1 26 11 = μL34.1 26 11 := (F_250.1 26 (by decide) 11)
            have e_276 : μ249.1 (P + 2) 3 = μL34.1 (P + 2) 3 := (F_250.1 (P + 2) (ni hprP (fun P => P + 2) (fun P => [24]) rfl) 3)
            have e_277 : μ249.1 P 1 = μL34.1 P 1 := (F_250.1 P (ni hprP (fun P => P) (fun P => [24]) rfl) 1)
            have e_278 : μ249.1 (P + 2) 3 = μL34.1 (P + 2) 3 := (F_250.1 (P + 2) (ni hprP (fun P => P + 2) (fun P => [24]) rfl) 3)
            refine xc_vV G (b := 23) (rest := []) (As := [.int (iv 0)]) (((fun (_ : Om) (_ : Launch) => hE)) ω l μ249 0 P tt (by omega) hI_251 (by omega) (by omega) htk_255 (by omega) (by omega) (by omega) (by omega) (by omega) (fun _ => Or.inl (by omega))) (wm 4 3 rfl rfl) (wm 4 5 rfl rfl) (wm 0 24 rfl rfl) rfl rfl (by decide) rfl (wm 1 12 rfl rfl) (wm 4 6 rfl rfl) (by decide) hR ⟨sfr (F := F) (a := 0) (by decide), slo (L := Lo) (m := 3) (a := 0) (by decide)⟩ (n := 1) rfl rfl (Nat.le_of_ble_eq_true rfl) hl.1 dX7_arguments_82 (fun μ279 ρ d0 H locs hp G => ?_)
            obtain ⟨F_280, hI_281, hp_282, hp_283, hp_284, hp_285, hp_286, hp_287, hs_288, hs_289, hs_290, hs_291, hs_292, hs_293, hs_294, hs_295, hs_296⟩ := hp
            have hn_297 : -1 ≤ μ279.1 26 10 ∧ μ279.1 26 10 ≤ 3000 := hI_281.nm.2.2.2.2.2.2.2.2.2.2.2.2
            have hk_298 := hI_281.pr (p := P) hprP
            unfold pk at hk_298
            have hc_299 : 16 ≤ μ279.2.1 (P + 1) ∧ μ279.2.1 (P + 1) ≤ 73024 := hI_281.rm.1 _ hprP.cap
            have hk_300 := hI_281.row (r := P + 2) (hprP.row)
            unfold rk at hk_300
            have htb_301 := hp_282.b
            have hpx_302 : μ279.1 26 11 = 0 → PXE μo μ279 P tt ((ee + c9) + (1 - 0)) f9 1 := fun h0 => (PXE.app (hpx_252 (by have h9 : μ249.1 26 11 = μL34.1 26 11 := (F_250.1 26 (by decide) 11); have h8 : μ279.1 26 11 = μ279.1 26 11 := rfl; omega)) (hp_287 h0)).e (by omega)
            refine lv_aload_n hx hb dX7_arguments_85 rfl (lv_at hl 5 rfl) ?_
            refine lv_iload hx hb dX7_arguments_86 (lv_at hl 3 rfl) ?_
            refine lv_iload hx hb dX7_arguments_88 (lv_at hl 4 rfl) ?_
            refine lv_iload hx hb dX7_arguments_90 (lv_at hl 2 rfl) ?_
            refine xb_iadd hx hb dX7_arguments_92 ?_
            have e_303 : μ279.1 23 2 = P := (hs_288.trans ((F_250.1 23 (by decide) 2).trans hi_53))
            have e_304 : μ279.1 23 8 = tt := (hs_292.trans ((F_250.1 23 (by decide) 8).trans hi_57))
            refine xc_iV G (b := 23) (rest := []) (As := [.int (iv f9), .int (iv (v9 + c9))]) (c_X7_ifFails ω l μ279 f9 (v9 + c9) μo ((ee + c9) + (1 - 0)) (1) P tt (by unfold ir; omega) (by unfold ir; omega) hI_281 (by omega) (by omega) (by omega) hpx_302 (by omega) (by omega)) (wm 4 23 rfl rfl) (wm 4 25 rfl rfl) (wm 0 29 rfl rfl) rfl rfl (by decide) rfl (wm 1 12 rfl rfl) (wm 4 26 rfl rfl) (by decide) hR ⟨nfr hF (by decide), nlo hLo (by decide)⟩ (n := 2) rfl rfl (Nat.le_of_ble_eq_true rfl) hl.1 dX7_arguments_93 (fun r_306 μ305 ρ d0 H locs hr_r_306 hp G => ?_)
            have hr_r_306 : -2147483648 ≤ r_306 ∧ r_306 ≤ 2147483647 := hr_r_306
            obtain ⟨F_307, hI_308, hp_309, hp_310, hs_311⟩ := hp
            have hk_312 := hI_308.pr (p := P) hprP
            unfold pk at hk_312
            have hc_313 : 16 ≤ μ305.2.1 (P + 1) ∧ μ305.2.1 (P + 1) ≤ 73024 := hI_308.rm.1 _ hprP.cap
            have hpx_314 : μ305.1 26 11 = 0 → PXE μo μ305 P tt ((ee + c9) + (1 - 0)) r_306 1 := fun h0 => hp_309 (by have h9 : μ279.1 26 11 = μ279.1 26 11 := rfl; have h8 : μ305.1 26 11 = μ279.1 26 11 := (F_307.1 26 (ni hprP (fun P => 26) (fun P => [P, P + 1]) rfl) 11); omega)
            clear hp_309
            refine lv_istore (lv' := [(7, .int (iv r_306)), (10, .int (iv i9)), (9, .int (iv m9)), (8, .int (iv c9)), (6, .int (iv v9)), (0, .ref (oP ω 23)), (1, .int (iv x1)), (2, .int (iv x2)), (3, .long (jv x3)), (5, .int (iv x4))]) hx hb dX7_arguments_96 hl (by decide) rfl (fun ls hl => ?_)
            refine lv_iinc (v := iv (c9 + 1)) (lv' := [(8, .int (iv (c9 + 1))), (7, .int (iv r_306)), (10, .int (iv i9)), (9, .int (iv m9)), (6, .int (iv v9)), (0, .ref (oP ω 23)), (1, .int (iv x1)), (2, .int (iv x2)), (3, .long (jv x3)), (5, .int (iv x4))]) hx hb dX7_arguments_98 hl (k := 3) rfl (by rw [show Int32.ofInt 1 = iv 1 from rfl, iv_add]) (by decide) rfl (fun ls hl => ?_)
            refine lv_aload_n hx hb dX7_arguments_101 rfl (lv_at hl 5 rfl) ?_
            refine lv_bipush (v := iv 44) hx hb dX7_arguments_102 rfl ?_
            have htk_315 : TK μ305 := hp_282.fr (K := [P, P + 1]) (Fr.tr Fr.rf F_307 (si hprP (fun P => [P, P + 1]) (fun P => [P, P + 1]) rfl)) (ni hprP (fun P => 26) (fun P => [P, P + 1]) rfl) (ni hprP (fun P => 28) (fun P => [P, P + 1]) rfl)
            have e_316 : μ305.1 26 10 = μ279.1 26 10 := (F_307.1 26 (ni hprP (fun P => 26) (fun P => [P, P + 1]) rfl) 10)
            have e_317 : μ305.1 26 11 = μ279.1 26 11 := (F_307.1 26 (ni hprP (fun P => 26) (fun P => [P, P + 1]) rfl) 11)
            refine xc_iV G (b := 23) (rest := []) (As := [.int (iv 44)]) (c_X7_took_b ω l μ305 44 (by unfold ir; omega) hI_308 htk_315 (by omega)) (wm 3 160 rfl rfl) (wm 3 162 rfl rfl) (wm 0 9 rfl rfl) rfl rfl (by decide) rfl (wm 1 12 rfl rfl) (wm 3 163 rfl rfl) (by decide) hR ⟨nfr hF (by decide), nlo hLo (by decide)⟩ (n := 1) rfl rfl (Nat.le_of_ble_eq_true rfl) hl.1 dX7_arguments_104 (fun r_319 μ318 ρ d0 H locs hr_r_319 hp G => ?_)
            have hr_r_319 : -2147483648 ≤ r_319 ∧ r_319 ≤ 2147483647 := hr_r_319
            obtain ⟨F_320, hI_321, hp_322, hp_323, hp_324, hs_325, hs_326, hs_327, hs_328, hs_329⟩ := hp
            have hn_330 : -1 ≤ μ318.1 26 10 ∧ μ318.1 26 10 ≤ 3000 := hI_321.nm.2.2.2.2.2.2.2.2.2.2.2.2
            have htb_331 := hp_322.b
            refine lv_istore (lv' := [(9, .int (iv r_319)), (8, .int (iv (c9 + 1))), (7, .int (iv r_306)), (10, .int (iv i9)), (6, .int (iv v9)), (0, .ref (oP ω 23)), (1, .int (iv x1)), (2, .int (iv x2)), (3, .long (jv x3)), (5, .int (iv x4))]) hx hb dX7_arguments_107 hl (by decide) rfl (fun ls hl => ?_)
            refine lv_iinc (v := iv (i9 + 1)) (lv' := [(10, .int (iv (i9 + 1))), (9, .int (iv r_319)), (8, .int (iv (c9 + 1))), (7, .int (iv r_306)), (6, .int (iv v9)), (0, .ref (oP ω 23)), (1, .int (iv x1)), (2, .int (iv x2)), (3, .long (jv x3)), (5, .int (iv x4))]) hx hb dX7_arguments_109 hl (k := 3) rfl (by rw [show Int32.ofInt 1 = iv 1 from rfl, iv_add]) (by decide) rfl (fun ls hl => ?_)
            refine lv_goto (tgt := 48) hx hb dX7_arguments_112 (by decide) ?_
            have e_332 : μ318.1 23 9 = μL34.1 23 9 := ((F_320.1 23 (by decide) 9).trans ((F_307.1 23 (ni hprP (fun P => 23) (fun P => [P, P + 1]) rfl) 9).trans (hs_293.trans (F_250.1 23 (by decide) 9))))
            have e_333 : μ318.1 23 9 = μL34.1 23 9 := ((F_320.1 23 (by decide) 9).trans ((F_307.1 23 (ni hprP (fun P => 23) (fun P => [P, P + 1]) rfl) 9).trans (hs_293.trans (F_250.1 23 (by decide) 9))))
            have e_334 : μ318.1 26 11 = μ279.1 26 11 := (hs_325.trans (F_307.1 26 (ni hprP (fun P => 26) (fun P => [P, P + 1]) rfl) 11))
            have e_335 : μ318.1 26 11 = μ279.1 26 11 := (hs_325.trans (F_307.1 26 (ni hprP (fun P => 26) (fun P => [P, P + 1]) rfl) 11))
            have e_336 : μ318.1 P 1 = μ305.1 P 1 := (F_320.1 P (ni hprP (fun P => P) (fun P => [26]) rfl) 1)
            have e_337 : μ318.1 P 1 = μ305.1 P 1 := (F_320.1 P (ni hprP (fun P => P) (fun P => [26]) rfl) 1)
            have e_338 : μ318.1 26 11 = μ279.1 26 11 := (hs_325.trans (F_307.1 26 (ni hprP (fun P => 26) (fun P => [P, P + 1]) rfl) 11))
            have e_339 : μ318.1 P 1 = μ305.1 P 1 := (F_320.1 P (ni hprP (fun P => P) (fun P => [26]) rfl) 1)
            have e_340 : μ318.1 (P + 2) 3 = μ279.1 (P + 2) 3 := ((F_320.1 (P + 2) (ni hprP (fun P => P + 2) (fun P => [26]) rfl) 3).trans (F_307.1 (P + 2) (ni hprP (fun P => P + 2) (fun P => [P, P + 1]) rfl) 3))
            have e_341 : μ318.1 P 1 = μ305.1 P 1 := (F_320.1 P (ni hprP (fun P => P) (fun P => [26]) rfl) 1)
            have e_342 : μ318.1 (P + 2) 3 = μ279.1 (P + 2) 3 := ((F_320.1 (P + 2) (ni hprP (fun P => P + 2) (fun P => [26]) rfl) 3).trans (F_307.1 (P + 2) (ni hprP (fun P => P + 2) (fun P => [P, P + 1]) rfl) 3))
            have hpx_343 : μ318.1 26 11 = 0 → PXE μo μ318 P tt ((ee + c9) + (1 - 0)) r_306 1 := fun h0 => (hpx_314 (by have h9 : μ305.1 26 11 = μ279.1 26 11 := (F_307.1 26 (ni hprP (fun P => 26) (fun P => [P, P + 1]) rfl) 11); have h8 : μ318.1 26 11 = μ279.1 26 11 := (hs_325.trans (F_307.1 26 (ni hprP (fun P => 26) (fun P => [P, P + 1]) rfl) 11)); omega)).fr (K := [26]) (Fr.tr Fr.rf F_320 (by decide)) (npL_p (L := [26]) (by decide) hprP).1 (npL_p (L := [26]) (by decide) hprP).2.1
            exact ih _ _ _ _ _ _ _ (by omega) ⟨r_306, c9 + 1, r_319, i9 + 1, (Fr.tr (Fr.tr (Fr.tr (Fr.tr FL35 F_250 (si hprP (fun P => [24]) (fun P => [2, 3, 4, 23, 24, 26, P, P + 1, P + 2, (P + 2) + 1, (P + 2) + 2, (P + 2) + 3]) rfl)) F_280 (si hprP (fun P => [2, 3, 4, 23, 24, 26, P, P + 1, P + 2, (P + 2) + 1, (P + 2) + 2, (P + 2) + 3]) (fun P => [2, 3, 4, 23, 24, 26, P, P + 1, P + 2, (P + 2) + 1, (P + 2) + 2, (P + 2) + 3]) rfl)) F_307 (si hprP (fun P => [P, P + 1]) (fun P => [2, 3, 4, 23, 24, 26, P, P + 1, P + 2, (P + 2) + 1, (P + 2) + 2, (P + 2) + 3]) rfl)) F_320 (si hprP (fun P => [26]) (fun P => [2, 3, 4, 23, 24, 26, P, P + 1, P + 2, (P + 2) + 1, (P + 2) + 2, (P + 2) + 3]) rfl)), (by omega), (by omega), (by omega), (by omega), (by omega), (by omega), (by omega), (by omega), (by omega), hp_322, (by omega), (by omega), (by omega), (by omega), (by omega), (fun h0 => (hpx_343 h0).e (by omega)), ((F_320.1 23 (by decide) 2).trans ((F_307.1 23 (ni hprP (fun P => 23) (fun P => [P, P + 1]) rfl) 2).trans (hs_288.trans ((F_250.1 23 (by decide) 2).trans hi_53)))), ((F_320.1 23 (by decide) 5).trans ((F_307.1 23 (ni hprP (fun P => 23) (fun P => [P, P + 1]) rfl) 5).trans (hs_289.trans ((F_250.1 23 (by decide) 5).trans hi_54)))), ((F_320.1 23 (by decide) 6).trans ((F_307.1 23 (ni hprP (fun P => 23) (fun P => [P, P + 1]) rfl) 6).trans (hs_290.trans ((F_250.1 23 (by decide) 6).trans hi_55)))), ((F_320.1 23 (by decide) 7).trans ((F_307.1 23 (ni hprP (fun P => 23) (fun P => [P, P + 1]) rfl) 7).trans (hs_291.trans ((F_250.1 23 (by decide) 7).trans hi_56)))), ((F_320.1 23 (by decide) 8).trans ((F_307.1 23 (ni hprP (fun P => 23) (fun P => [P, P + 1]) rfl) 8).trans (hs_292.trans ((F_250.1 23 (by decide) 8).trans hi_57)))), ((F_320.1 23 (by decide) 10).trans ((F_307.1 23 (ni hprP (fun P => 23) (fun P => [P, P + 1]) rfl) 10).trans (hs_294.trans ((F_250.1 23 (by decide) 10).trans hi_58)))), (hs_326.trans ((F_307.1 26 (ni hprP (fun P => 26) (fun P => [P, P + 1]) rfl) 6).trans (hs_295.trans ((F_250.1 26 (by decide) 6).trans hi_59)))), ((F_320.1 P (ni hprP (fun P => P) (fun P => [26]) rfl) 7).trans (hs_311.trans (hs_296.trans ((F_250.1 P (ni hprP (fun P => P) (fun P => [24]) rfl) 7).trans hi_60)))), hI_321, rfl, lv_sub hl [0, 1, 2, 3, 4, 5, 6, 7, 8, 9] rfl⟩ G
    · skip
      refine lv_aload_n hx hb dX7_arguments_26 rfl (lv_at hl 3 rfl) ?_
      refine xa_getr G fd_X7 (a := 23) (x := 26) 0 rfl (by decide) rfl (wm 2 17 rfl rfl) ⟨rfl, rfl, rfl⟩ dX7_arguments_27 rfl (G.sk 23 rfl) (by decide) rfl ?_
      refine xa_getN G fd_X10 (host := "FourTongues") (a := 26) 12 rfl (by decide) (by decide) ⟨rfl, rfl, rfl⟩ dX7_arguments_30 rfl (v := .int (iv (μ4.1 26 12))) (by rw [show μ4.1 26 12 = μ4.1 26 12 from rfl]; rfl) ?_
      have hr_344 : -2147483648 ≤ μ4.1 26 12 ∧ μ4.1 26 12 ≤ 2147483647 := by have h9 := G.hr (a := 26) (k := 12) rfl; exact h9
      refine lv_bipush (v := iv 41) hx hb dX7_arguments_33 rfl ?_
      refine xb_icmp_eq (tgt := 42) hx hb (by unfold ir; omega) (by unfold ir; omega) dX7_arguments_35 (by decide) (fun c_35 => ?_) (fun c_35 => ?_)
      · refine lv_iconst (v := iv 0) hx hb dX7_arguments_42 rfl ?_
        exact kont_43 0 (by omega)
      · refine lv_iconst (v := iv 1) hx hb dX7_arguments_38 rfl ?_
        refine lv_goto (tgt := 43) hx hb dX7_arguments_39 (by decide) ?_
        exact kont_43 1 (by omega)
  · skip
    refine lv_iload_n hx hb dX7_arguments_0 rfl (lv_at hl 1 rfl) ?_
    refine lv_bipush (v := iv 14) hx hb dX7_arguments_1 rfl ?_
    refine xb_icmp_ne (tgt := 10) hx hb (by unfold ir; omega) (by unfold ir; omega) dX7_arguments_3 (by decide) (fun c_3 => ?_) (fun c_3 => ?_)
    · refine lv_iconst (v := iv 0) hx hb dX7_arguments_10 rfl ?_
      exact kont_11 0 (by omega)
    · refine lv_iconst (v := iv 1) hx hb dX7_arguments_6 rfl ?_
      refine lv_goto (tgt := 11) hx hb dX7_arguments_7 (by decide) ?_
      exact kont_11 1 (by omega)
