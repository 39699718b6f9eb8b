abbrev cX7_withExpression : ByteArray := prog_9_method_24_code
def yX7_withExpression : MethodName := ⟨RX7, "withExpression", "(II)V"⟩
abbrev cX7_let : ByteArray := prog_9_method_25_code
def yX7_let : MethodName := ⟨RX7, "let", "()V"⟩
abbrev cX7_question : ByteArray := prog_9_method_30_code
def yX7_question : MethodName := ⟨RX7, "question", "()I"⟩
theorem dX7_withExpression_0 : decode cX7_withExpression 0 = .ok (.aload_n 0, 1) := by decide +kernel
theorem dX7_withExpression_1 : decode cX7_withExpression 1 = .ok (.iconst 0, 1) := by decide +kernel
theorem dX7_withExpression_2 : decode cX7_withExpression 2 = .ok (.invokevirtual 216, 3) := by decide +kernel
theorem dX7_withExpression_5 : decode cX7_withExpression 5 = .ok (.aload_n 0, 1) := by decide +kernel
theorem dX7_withExpression_6 : decode cX7_withExpression 6 = .ok (.bipush 59, 2) := by decide +kernel
theorem dX7_withExpression_8 : decode cX7_withExpression 8 = .ok (.invokevirtual 100, 3) := by decide +kernel
theorem dX7_withExpression_11 : decode cX7_withExpression 11 = .ok (.aload_n 0, 1) := by decide +kernel
theorem dX7_withExpression_12 : decode cX7_withExpression 12 = .ok (.iload_n 1, 1) := by decide +kernel
theorem dX7_withExpression_13 : decode cX7_withExpression 13 = .ok (.iload_n 2, 1) := by decide +kernel
theorem dX7_withExpression_14 : decode cX7_withExpression 14 = .ok (.iconst 0, 1) := by decide +kernel
theorem dX7_withExpression_15 : decode cX7_withExpression 15 = .ok (.invokevirtual 157, 3) := by decide +kernel
theorem dX7_withExpression_18 : decode cX7_withExpression 18 = .ok (.pop, 1) := by decide +kernel
theorem dX7_withExpression_19 : decode cX7_withExpression 19 = .ok (.return_, 1) := by decide +kernel
theorem dX7_let_0 : decode cX7_let 0 = .ok (.aload_n 0, 1) := by decide +kernel
theorem dX7_let_1 : decode cX7_let 1 = .ok (.getfield 43, 3) := by decide +kernel
theorem dX7_let_4 : decode cX7_let 4 = .ok (.getfield 133, 3) := by decide +kernel
theorem dX7_let_7 : decode cX7_let 7 = .ok (.lstore_n 1, 1) := by decide +kernel
theorem dX7_let_8 : decode cX7_let 8 = .ok (.aload_n 0, 1) := by decide +kernel
theorem dX7_let_9 : decode cX7_let 9 = .ok (.getfield 43, 3) := by decide +kernel
theorem dX7_let_12 : decode cX7_let 12 = .ok (.getfield 96, 3) := by decide +kernel
theorem dX7_let_15 : decode cX7_let 15 = .ok (.istore_n 3, 1) := by decide +kernel
theorem dX7_let_16 : decode cX7_let 16 = .ok (.aload_n 0, 1) := by decide +kernel
theorem dX7_let_17 : decode cX7_let 17 = .ok (.iconst 1, 1) := by decide +kernel
theorem dX7_let_18 : decode cX7_let 18 = .ok (.invokevirtual 100, 3) := by decide +kernel
theorem dX7_let_21 : decode cX7_let 21 = .ok (.aload_n 0, 1) := by decide +kernel
theorem dX7_let_22 : decode cX7_let 22 = .ok (.lload_n 1, 1) := by decide +kernel
theorem dX7_let_23 : decode cX7_let 23 = .ok (.invokevirtual 173, 3) := by decide +kernel
theorem dX7_let_26 : decode cX7_let 26 = .ok (.ifCond .ge 28, 3) := by decide +kernel
theorem dX7_let_29 : decode cX7_let 29 = .ok (.aload_n 0, 1) := by decide +kernel
theorem dX7_let_30 : decode cX7_let 30 = .ok (.dup, 1) := by decide +kernel
theorem dX7_let_31 : decode cX7_let 31 = .ok (.getfield 23, 3) := by decide +kernel
theorem dX7_let_34 : decode cX7_let 34 = .ok (.iconst 1, 1) := by decide +kernel
theorem dX7_let_35 : decode cX7_let 35 = .ok (.iadd, 1) := by decide +kernel
theorem dX7_let_36 : decode cX7_let 36 = .ok (.putfield 23, 3) := by decide +kernel
theorem dX7_let_39 : decode cX7_let 39 = .ok (.aload_n 0, 1) := by decide +kernel
theorem dX7_let_40 : decode cX7_let 40 = .ok (.getfield 23, 3) := by decide +kernel
theorem dX7_let_43 : decode cX7_let 43 = .ok (.bipush 12, 2) := by decide +kernel
theorem dX7_let_45 : decode cX7_let 45 = .ok (.if_icmp .le 9, 3) := by decide +kernel
theorem dX7_let_48 : decode cX7_let 48 = .ok (.aload_n 0, 1) := by decide +kernel
theorem dX7_let_49 : decode cX7_let 49 = .ok (.iconst 2, 1) := by decide +kernel
theorem dX7_let_50 : decode cX7_let 50 = .ok (.iload_n 3, 1) := by decide +kernel
theorem dX7_let_51 : decode cX7_let 51 = .ok (.invokevirtual 127, 3) := by decide +kernel
theorem dX7_let_54 : decode cX7_let 54 = .ok (.aload_n 0, 1) := by decide +kernel
theorem dX7_let_55 : decode cX7_let 55 = .ok (.lload_n 1, 1) := by decide +kernel
theorem dX7_let_56 : decode cX7_let 56 = .ok (.invokevirtual 176, 3) := by decide +kernel
theorem dX7_let_59 : decode cX7_let 59 = .ok (.istore 4, 2) := by decide +kernel
theorem dX7_let_61 : decode cX7_let 61 = .ok (.aload_n 0, 1) := by decide +kernel
theorem dX7_let_62 : decode cX7_let 62 = .ok (.bipush 61, 2) := by decide +kernel
theorem dX7_let_64 : decode cX7_let 64 = .ok (.invokevirtual 100, 3) := by decide +kernel
theorem dX7_let_67 : decode cX7_let 67 = .ok (.aload_n 0, 1) := by decide +kernel
theorem dX7_let_68 : decode cX7_let 68 = .ok (.iconst 5, 1) := by decide +kernel
theorem dX7_let_69 : decode cX7_let 69 = .ok (.iload 4, 2) := by decide +kernel
theorem dX7_let_71 : decode cX7_let 71 = .ok (.invokevirtual 191, 3) := by decide +kernel
theorem dX7_let_74 : decode cX7_let 74 = .ok (.return_, 1) := by decide +kernel
theorem dX7_question_0 : decode cX7_question 0 = .ok (.aload_n 0, 1) := by decide +kernel
theorem dX7_question_1 : decode cX7_question 1 = .ok (.bipush 40, 2) := by decide +kernel
theorem dX7_question_3 : decode cX7_question 3 = .ok (.invokevirtual 164, 3) := by decide +kernel
theorem dX7_question_6 : decode cX7_question 6 = .ok (.aload_n 0, 1) := by decide +kernel
theorem dX7_question_7 : decode cX7_question 7 = .ok (.iconst 0, 1) := by decide +kernel
theorem dX7_question_8 : decode cX7_question 8 = .ok (.invokevirtual 216, 3) := by decide +kernel
theorem dX7_question_11 : decode cX7_question 11 = .ok (.aload_n 0, 1) := by decide +kernel
theorem dX7_question_12 : decode cX7_question 12 = .ok (.bipush 41, 2) := by decide +kernel
theorem dX7_question_14 : decode cX7_question 14 = .ok (.invokevirtual 170, 3) := by decide +kernel
theorem dX7_question_17 : decode cX7_question 17 = .ok (.aload_n 0, 1) := by decide +kernel
theorem dX7_question_18 : decode cX7_question 18 = .ok (.bipush 20, 2) := by decide +kernel
theorem dX7_question_20 : decode cX7_question 20 = .ok (.iconst 0, 1) := by decide +kernel
theorem dX7_question_21 : decode cX7_question 21 = .ok (.iconst 0, 1) := by decide +kernel
theorem dX7_question_22 : decode cX7_question 22 = .ok (.invokevirtual 157, 3) := by decide +kernel
theorem dX7_question_25 : decode cX7_question 25 = .ok (.ireturn, 1) := by decide +kernel
def opw (o t : Int) : Prop := plain o ∨ ((o = 23 ∨ o = 24 ∨ o = 25) ∧ t ≠ 2)
theorem cef_w {o t u c : Int} (h : opw o t) : cef u o c = 0 := by
  unfold opw plain at h
  unfold cef
  rw [if_neg (by omega), if_neg (by omega)]
theorem def_w {o t u : Int} (h : opw o t) : def_ u o = 0 := by
  unfold opw plain at h
  unfold def_
  rw [if_neg (by omega), if_neg (by omega), if_neg (by omega), if_neg (by omega)]
theorem lcd0_w {μ : M3} {P t i a b o f s : Int} (h : opw o t) : lcd0 μ P t i a b o f s := by
  rcases h with h | ⟨h, h2⟩
  · exact lcd0.pln h
  · refine ⟨fun z => ?_, fun z => ?_, fun z => ?_, fun z => ?_, fun _ => h2, fun z => ?_, fun z => ?_, fun z => ?_, fun z => ?_, fun z => ?_⟩ <;> exact absurd z (by omega)
set_option maxHeartbeats 4000000 in
set_option maxRecDepth 100000 in
theorem c_X7_withExpression (ω : Om) (l : Launch) (μ : M3) (x1 : Int) (x2 : Int) (P : Int) (tt : Int) (hx1 : ir x1) (hx2 : ir x2) (hI : IC μ) (hP : P = μ.1 23 2) (htt : tt = μ.1 23 8) (hTK : TK μ) (hB : 2 * μ.1 P 1 ≤ 5 * μ.1 26 10 + 100 + 80 * μ.1 26 11) (hKc : μ.1 (P + 2) 3 ≤ μ.1 P 1) (ht3 : 0 ≤ tt ∧ tt ≤ 3) (hdp : 0 ≤ μ.1 23 9 ∧ μ.1 23 9 ≤ 8 + μ.1 26 11) (hop : opw x1 tt) (hsx : μ.1 26 11 = 0 → 1 ≤ hs μ P (μ.1 P 1) + 1 + eff x1 x2) : CtV ω l yX7_withExpression cX7_withExpression 3 151 4082 [.ref (oP ω 23), .int (iv x1), .int (iv x2)] μ (fun (μ' : M3) => (Fr [2, 3, 4, 23, 24, 26, P, P + 1, P + 2, (P + 2) + 1, (P + 2) + 2, (P + 2) + 3] μ μ') ∧ (IC μ') ∧ (TK μ') ∧ (μ.1 26 11 ≤ μ'.1 26 11) ∧ (μ.1 26 10 ≤ μ'.1 26 10) ∧ (μ.1 P 1 + 1 ≤ μ'.1 P 1 ∧ μ'.1 P 1 ≤ μ.1 P 1 + 2 * (μ'.1 26 10 - μ.1 26 10) + (- 2 + 5 * μ'.1 26 11 - 2 * μ.1 26 11)) ∧ (μ'.1 (P + 2) 3 - μ.1 (P + 2) 3 ≤ μ'.1 P 1 - μ.1 P 1 ∧ μ.1 (P + 2) 3 ≤ μ'.1 (P + 2) 3) ∧ (μ'.1 26 11 = 0 → EX μ μ' P tt (1 + eff x1 x2) 0) ∧ (μ'.1 23 2 = μ.1 23 2) ∧ (μ'.1 23 5 = μ.1 23 5) ∧ (μ'.1 23 6 = μ.1 23 6) ∧ (μ'.1 23 7 = μ.1 23 7) ∧ (μ'.1 23 8 = μ.1 23 8) ∧ (μ'.1 23 9 = μ.1 23 9) ∧ (μ'.1 23 10 = μ.1 23 10) ∧ (μ'.1 26 6 = μ.1 26 6) ∧ (μ'.1 P 7 = μ.1 P 7)) := by
  refine CtV.go (by decide) (Nat.le_of_ble_eq_true rfl) (fun ρ p e s m below meth c R ls G hR hret hlk hl => ?_)
  have hx := G.1.1
  have hb := G.1.2.1
  have hl : lv_has ls 3 [(0, .ref (oP ω 23)), (1, .int (iv x1)), (2, .int (iv x2))] := hl
  generalize s.drawn = d0 at G ⊢
  have hr_x1 : -2147483648 ≤ x1 ∧ x1 ≤ 2147483647 := hx1
  have hr_x2 : -2147483648 ≤ x2 ∧ x2 ≤ 2147483647 := hx2
  have hTKb := hTK.b
  have hprP : isPr P := by have h9 := G.sr0.2.2.2.2.2; rw [← hP] at h9; exact h9
  have hprP_d : 13 ≤ P ∧ P ≤ 101 := by rcases hprP with h9 | h9 | h9 | h9 | h9 <;> omega
  have hk_1 := hI.pr (p := P) hprP
  unfold pk at hk_1
  have hc_2 : 16 ≤ μ.2.1 (P + 1) ∧ μ.2.1 (P + 1) ≤ 73024 := hI.rm.1 _ hprP.cap
  have hnil : μ.1 26 11 = 0 → PXE μ μ P tt 0 (-1) 1 := fun _ => PXE.nil (by omega)
  refine lv_aload_n hx hb dX7_withExpression_0 rfl (lv_at hl 0 rfl) ?_
  refine lv_iconst (v := iv 0) hx hb dX7_withExpression_1 rfl ?_
  have e_3 : μ.1 23 2 = P := hP.symm
  have e_4 : μ.1 23 8 = tt := htt.symm
  have hn_5 : -1 ≤ μ.1 26 10 ∧ μ.1 26 10 ≤ 3000 := hI.nm.2.2.2.2.2.2.2.2.2.2.2.2
  have hk_6 := hI.row (r := P + 2) (hprP.row)
  unfold rk at hk_6
  have e_7 : μ.1 23 2 = P := hP.symm
  have hn_8 : 0 ≤ μ.1 23 5 ∧ μ.1 23 5 ≤ 1000 := hI.nm.2.2.2.2.2.2.2.2.1
  have e_9 : μ.1 23 8 = tt := htt.symm
  have hn_10 : 0 ≤ μ.1 26 6 ∧ μ.1 26 6 ≤ 3001 := hI.nm.2.2.2.2.2.2.2.2.2.1
  refine xc_vV G (b := 23) (rest := []) (As := [.int (iv 0)]) (c_X7_expression_a ω l μ 0 P tt (by omega) hI (by omega) (by omega) hTK (by omega) (by omega) (by omega) (by omega) (fun _ => Or.inl (by omega))) (wm 4 3 rfl rfl) (wm 4 5 rfl rfl) (wm 0 24 rfl rfl) rfl rfl (by decide) rfl (wm 1 12 rfl rfl) (wm 4 6 rfl rfl) (by decide) hR (by decide) (n := 1) rfl rfl (Nat.le_of_ble_eq_true rfl) hl.1 dX7_withExpression_2 (fun μ11 ρ d0 H locs hp G => ?_)
  obtain ⟨F_12, hI_13, hp_14, hp_15, hp_16, hp_17, hp_18, hp_19, hs_20, hs_21, hs_22, hs_23, hs_24, hs_25, hs_26, hs_27, hs_28⟩ := hp
  have hn_29 : -1 ≤ μ11.1 26 10 ∧ μ11.1 26 10 ≤ 3000 := hI_13.nm.2.2.2.2.2.2.2.2.2.2.2.2
  have hk_30 := hI_13.pr (p := P) hprP
  unfold pk at hk_30
  have hc_31 : 16 ≤ μ11.2.1 (P + 1) ∧ μ11.2.1 (P + 1) ≤ 73024 := hI_13.rm.1 _ hprP.cap
  have hk_32 := hI_13.row (r := P + 2) (hprP.row)
  unfold rk at hk_32
  have htb_33 := hp_14.b
  have hpx_34 : μ11.1 26 11 = 0 → PXE μ μ11 P tt (0 + (1 - 0)) (-1) 1 := fun h0 => (PXE.app (hnil (by have h9 : μ.1 26 11 = μ.1 26 11 := rfl; have h8 : μ11.1 26 11 = μ11.1 26 11 := rfl; omega)) (hp_19 h0)).e (by omega)
  refine lv_aload_n hx hb dX7_withExpression_5 rfl (lv_at hl 0 rfl) ?_
  refine lv_bipush (v := iv 59) hx hb dX7_withExpression_6 rfl ?_
  have e_35 : μ11.1 26 6 = μ.1 26 6 := hs_27
  have hn_36 : 0 ≤ μ11.1 26 7 ∧ μ11.1 26 7 ≤ 3000 := hI_13.nm.2.2.2.2.2.2.2.2.2.2.1
  have hn_37 : 0 ≤ μ11.1 26 9 ∧ μ11.1 26 9 ≤ 3000 := hI_13.nm.2.2.2.2.2.2.2.2.2.2.2.1
  refine xc_vV G (b := 23) (rest := []) (As := [.int (iv 59)]) (c_X7_need_b ω l μ11 59 (by unfold ir; omega) hI_13 hp_14 (by omega)) (wm 3 169 rfl rfl) (wm 3 171 rfl rfl) (wm 0 11 rfl rfl) rfl rfl (by decide) rfl (wm 1 12 rfl rfl) (wm 3 172 rfl rfl) (by decide) hR (by decide) (n := 1) rfl rfl (Nat.le_of_ble_eq_true rfl) hl.1 dX7_withExpression_8 (fun μ38 ρ d0 H locs hp G => ?_)
  obtain ⟨F_39, hI_40, hp_41, hp_42, hp_43, hs_44, hs_45, hs_46, hs_47⟩ := hp
  have hn_48 : -1 ≤ μ38.1 26 10 ∧ μ38.1 26 10 ≤ 3000 := hI_40.nm.2.2.2.2.2.2.2.2.2.2.2.2
  have htb_49 := hp_41.b
  refine lv_aload_n hx hb dX7_withExpression_11 rfl (lv_at hl 0 rfl) ?_
  refine lv_iload_n hx hb dX7_withExpression_12 rfl (lv_at hl 1 rfl) ?_
  refine lv_iload_n hx hb dX7_withExpression_13 rfl (lv_at hl 2 rfl) ?_
  refine lv_iconst (v := iv 0) hx hb dX7_withExpression_14 rfl ?_
  have hpx_50 : μ38.1 26 11 = 0 → PXE μ μ38 P tt (0 + (1 - 0)) (-1) 1 := fun h0 => (hpx_34 (by have h9 : μ11.1 26 11 = μ11.1 26 11 := rfl; have h8 : μ38.1 26 11 = μ38.1 26 11 := rfl; omega)).fr (K := [26]) (Fr.tr Fr.rf F_39 (by decide)) (npL_p (L := [26]) (by decide) hprP).1 (npL_p (L := [26]) (by decide) hprP).2.1
  have e_51 : μ38.1 23 2 = P := ((F_39.1 23 (by decide) 2).trans (hs_20.trans hP.symm))
  have e_52 : μ38.1 P 1 = μ11.1 P 1 := (F_39.1 P (ni hprP (fun P => P) (fun P => [26]) rfl) 1)
  have e_53 : μ38.1 P 1 = μ11.1 P 1 := (F_39.1 P (ni hprP (fun P => P) (fun P => [26]) rfl) 1)
  have e_54 : μ38.1 P 1 = μ11.1 P 1 := (F_39.1 P (ni hprP (fun P => P) (fun P => [26]) rfl) 1)
  have e_55 : μ38.1 P 7 = μ.1 P 7 := ((F_39.1 P (ni hprP (fun P => P) (fun P => [26]) rfl) 7).trans hs_28)
  refine xc_iV G (b := 23) (rest := []) (As := [.int (iv x1), .int (iv x2), .int (iv 0)]) (c_X7_add ω l μ38 x1 x2 0 P (by unfold ir; omega) (by unfold ir; omega) (by unfold ir; omega) hI_40 (by omega) (by omega)) (wm 3 226 rfl rfl) (wm 3 228 rfl rfl) (wm 0 21 rfl rfl) rfl rfl (by decide) rfl (wm 1 12 rfl rfl) (wm 3 229 rfl rfl) (by decide) hR (by decide) (n := 3) rfl rfl (Nat.le_of_ble_eq_true rfl) hl.1 dX7_withExpression_15 (fun r_57 μ56 ρ d0 H locs hr_r_57 hp G => ?_)
  have hr_r_57 : -2147483648 ≤ r_57 ∧ r_57 ≤ 2147483647 := hr_r_57
  obtain ⟨F_58, hI_59, hp_60, hp_61, hs_62, hs_63⟩ := hp
  have hpx_64 : μ56.1 26 11 = 0 → EX μ μ56 P tt (1 + eff x1 x2) 0 := fun h0 => by
    have hq := hpx_50 (by have h9 : μ38.1 26 11 = μ38.1 26 11 := rfl; have h8 : μ56.1 26 11 = μ38.1 26 11 := (F_58.1 26 (ni hprP (fun P => 26) (fun P => [P, P + 1]) rfl) 11); omega)
    have hex := PXE.ex hq
    have hh := hex.h
    have hs9 := hsx (by have h9 : μ56.1 26 11 = μ38.1 26 11 := (F_58.1 26 (ni hprP (fun P => 26) (fun P => [P, P + 1]) rfl) 11); omega)
    exact (EX.tr hex (EX.ad (e := eff x1 x2) hp_61 (by omega) rfl (by omega) (cef_w hop) (def_w hop) (fun i b => lcd0_w hop))).e (by omega)
  refine lv_pop hx hb dX7_withExpression_18 rfl ?_
  have e_65 : μ56.1 26 11 = μ38.1 26 11 := (F_58.1 26 (ni hprP (fun P => 26) (fun P => [P, P + 1]) rfl) 11)
  have htk_66 : TK μ56 := hp_41.fr (K := [P, P + 1]) (Fr.tr Fr.rf F_58 (si hprP (fun P => [P, P + 1]) (fun P => [P, P + 1]) rfl)) (ni hprP (fun P => 26) (fun P => [P, P + 1]) rfl) (ni hprP (fun P => 28) (fun P => [P, P + 1]) rfl) (ni hprP (fun P => 29) (fun P => [P, P + 1]) rfl)
  have e_67 : μ56.1 26 11 = μ38.1 26 11 := (F_58.1 26 (ni hprP (fun P => 26) (fun P => [P, P + 1]) rfl) 11)
  have e_68 : μ56.1 26 10 = μ38.1 26 10 := (F_58.1 26 (ni hprP (fun P => 26) (fun P => [P, P + 1]) rfl) 10)
  have e_69 : μ56.1 P 1 = μ38.1 P 1 + 1 := hs_62
  have e_70 : μ56.1 P 1 = μ38.1 P 1 + 1 := hs_62
  have e_71 : μ56.1 26 10 = μ38.1 26 10 := (F_58.1 26 (ni hprP (fun P => 26) (fun P => [P, P + 1]) rfl) 10)
  have e_72 : μ56.1 26 11 = μ38.1 26 11 := (F_58.1 26 (ni hprP (fun P => 26) (fun P => [P, P + 1]) rfl) 11)
  have e_73 : μ56.1 (P + 2) 3 = μ11.1 (P + 2) 3 := ((F_58.1 (P + 2) (ni hprP (fun P => P + 2) (fun P => [P, P + 1]) rfl) 3).trans (F_39.1 (P + 2) (ni hprP (fun P => P + 2) (fun P => [26]) rfl) 3))
  have e_74 : μ56.1 P 1 = μ38.1 P 1 + 1 := hs_62
  have e_75 : μ56.1 (P + 2) 3 = μ11.1 (P + 2) 3 := ((F_58.1 (P + 2) (ni hprP (fun P => P + 2) (fun P => [P, P + 1]) rfl) 3).trans (F_39.1 (P + 2) (ni hprP (fun P => P + 2) (fun P => [26]) rfl) 3))
  have e_76 : μ56.1 23 2 = P := ((F_58.1 23 (ni hprP (fun P => 23) (fun P => [P, P + 1]) rfl) 2).trans ((F_39.1 23 (by decide) 2).trans (hs_20.trans hP.symm)))
  have e_77 : μ56.1 23 5 = μ.1 23 5 := ((F_58.1 23 (ni hprP (fun P => 23) (fun P => [P, P + 1]) rfl) 5).trans ((F_39.1 23 (by decide) 5).trans hs_21))
  have e_78 : μ56.1 23 6 = μ.1 23 6 := ((F_58.1 23 (ni hprP (fun P => 23) (fun P => [P, P + 1]) rfl) 6).trans ((F_39.1 23 (by decide) 6).trans hs_22))
  have e_79 : μ56.1 23 7 = μ.1 23 7 := ((F_58.1 23 (ni hprP (fun P => 23) (fun P => [P, P + 1]) rfl) 7).trans ((F_39.1 23 (by decide) 7).trans hs_23))
  have e_80 : μ56.1 23 8 = tt := ((F_58.1 23 (ni hprP (fun P => 23) (fun P => [P, P + 1]) rfl) 8).trans ((F_39.1 23 (by decide) 8).trans (hs_24.trans htt.symm)))
  have e_81 : μ56.1 23 9 = μ.1 23 9 := ((F_58.1 23 (ni hprP (fun P => 23) (fun P => [P, P + 1]) rfl) 9).trans ((F_39.1 23 (by decide) 9).trans hs_25))
  have e_82 : μ56.1 23 10 = μ.1 23 10 := ((F_58.1 23 (ni hprP (fun P => 23) (fun P => [P, P + 1]) rfl) 10).trans ((F_39.1 23 (by decide) 10).trans hs_26))
  have e_83 : μ56.1 26 6 = μ.1 26 6 := ((F_58.1 26 (ni hprP (fun P => 26) (fun P => [P, P + 1]) rfl) 6).trans (hs_44.trans hs_27))
  have e_84 : μ56.1 P 7 = μ.1 P 7 := (hs_63.trans ((F_39.1 P (ni hprP (fun P => P) (fun P => [26]) rfl) 7).trans hs_28))
  exact xr_v G hret hlk dX7_withExpression_19 ⟨(Fr.tr (Fr.tr (Fr.tr Fr.rf F_12 (si hprP (fun P => [2, 3, 4, 23, 24, 26, P, P + 1, P + 2, (P + 2) + 1, (P + 2) + 2, (P + 2) + 3]) (fun P => [2, 3, 4, 23, 24, 26, P, P + 1, P + 2, (P + 2) + 1, (P + 2) + 2, (P + 2) + 3]) rfl)) F_39 (si hprP (fun P => [26]) (fun P => [2, 3, 4, 23, 24, 26, P, P + 1, P + 2, (P + 2) + 1, (P + 2) + 2, (P + 2) + 3]) rfl)) F_58 (si hprP (fun P => [P, P + 1]) (fun P => [2, 3, 4, 23, 24, 26, P, P + 1, P + 2, (P + 2) + 1, (P + 2) + 2, (P + 2) + 3]) rfl)), hI_59, htk_66, (by omega), (by omega), (by omega), (by omega), hpx_64, (by omega), (by omega), (by omega), (by omega), (by omega), (by omega), (by omega), (by omega), (by omega)⟩

set_option maxHeartbeats 4000000 in
set_option maxRecDepth 100000 in
theorem c_X7_question (ω : Om) (l : Launch) (μ : M3) (P : Int) (tt : Int) (hI : IC μ) (hP : P = μ.1 23 2) (htt : tt = μ.1 23 8) (hTK : TK μ) (hB : 2 * μ.1 P 1 ≤ 5 * μ.1 26 10 + 100 + 80 * μ.1 26 11) (hKc : μ.1 (P + 2) 3 ≤ μ.1 P 1) (ht3 : 0 ≤ tt ∧ tt ≤ 3) (hdp : 0 ≤ μ.1 23 9 ∧ μ.1 23 9 ≤ 8 + μ.1 26 11) (hd8 : μ.1 23 9 ≤ 8) : CtI ω l yX7_question cX7_question 1 .int 151 4082 [.ref (oP ω 23)] μ (fun (r : Int) (μ' : M3) => (Fr [2, 3, 4, 23, 24, 26, P, P + 1, P + 2, (P + 2) + 1, (P + 2) + 2, (P + 2) + 3] μ μ') ∧ (IC μ') ∧ (TK μ') ∧ (μ.1 26 11 ≤ μ'.1 26 11) ∧ (μ.1 26 10 ≤ μ'.1 26 10) ∧ (μ.1 P 1 + 1 ≤ μ'.1 P 1 ∧ μ'.1 P 1 ≤ μ.1 P 1 + 2 * (μ'.1 26 10 - μ.1 26 10) + (- 4 + 6 * μ'.1 26 11)) ∧ (μ'.1 (P + 2) 3 - μ.1 (P + 2) 3 ≤ μ'.1 P 1 - μ.1 P 1 ∧ μ.1 (P + 2) 3 ≤ μ'.1 (P + 2) 3) ∧ (μ'.1 26 11 = 0 → ∃ ν, EX μ ν P tt 1 0 ∧ AD ν μ' P 20 0 0 ∧ r = ν.1 P 1) ∧ (μ'.1 23 2 = μ.1 23 2) ∧ (μ'.1 23 5 = μ.1 23 5) ∧ (μ'.1 23 6 = μ.1 23 6) ∧ (μ'.1 23 7 = μ.1 23 7) ∧ (μ'.1 23 8 = μ.1 23 8) ∧ (μ'.1 23 9 = μ.1 23 9) ∧ (μ'.1 23 10 = μ.1 23 10) ∧ (μ'.1 26 6 = μ.1 26 6) ∧ (μ'.1 P 7 = μ.1 P 7)) := by
  refine CtI.go (by decide) (Nat.le_of_ble_eq_true rfl) (fun ρ p e s m below meth c R ls G hR hret hlk hl => ?_)
  have hx := G.1.1
  have hb := G.1.2.1
  have hl : lv_has ls 1 [(0, .ref (oP ω 23))] := hl
  generalize s.drawn = d0 at G ⊢
  have hTKb := hTK.b
  have hprP : isPr P := by have h9 := G.sr0.2.2.2.2.2; rw [← hP] at h9; exact h9
  have hprP_d : 13 ≤ P ∧ P ≤ 101 := by rcases hprP with h9 | h9 | h9 | h9 | h9 <;> omega
  have hk_1 := hI.pr (p := P) hprP
  unfold pk at hk_1
  have hc_2 : 16 ≤ μ.2.1 (P + 1) ∧ μ.2.1 (P + 1) ≤ 73024 := hI.rm.1 _ hprP.cap
  have hnil : μ.1 26 11 = 0 → PXE μ μ P tt 0 (-1) 1 := fun _ => PXE.nil (by omega)
  refine lv_aload_n hx hb dX7_question_0 rfl (lv_at hl 0 rfl) ?_
  refine lv_bipush (v := iv 40) hx hb dX7_question_1 rfl ?_
  have hn_3 : -1 ≤ μ.1 26 10 ∧ μ.1 26 10 ≤ 3000 := hI.nm.2.2.2.2.2.2.2.2.2.2.2.2
  have hn_4 : 0 ≤ μ.1 26 6 ∧ μ.1 26 6 ≤ 3001 := hI.nm.2.2.2.2.2.2.2.2.2.1
  have hn_5 : 0 ≤ μ.1 26 7 ∧ μ.1 26 7 ≤ 3000 := hI.nm.2.2.2.2.2.2.2.2.2.2.1
  have hn_6 : 0 ≤ μ.1 26 9 ∧ μ.1 26 9 ≤ 3000 := hI.nm.2.2.2.2.2.2.2.2.2.2.2.1
  have e_7 : μ.1 23 2 = P := hP.symm
  have hn_8 : 0 ≤ μ.1 23 5 ∧ μ.1 23 5 ≤ 1000 := hI.nm.2.2.2.2.2.2.2.2.1
  have e_9 : μ.1 23 8 = tt := htt.symm
  refine xc_vV G (b := 23) (rest := []) (As := [.int (iv 40)]) (c_X7_needOpen_b ω l μ 40 (by unfold ir; omega) hI hTK (by omega) (by omega)) (wm 3 197 rfl rfl) (wm 3 199 rfl rfl) (wm 0 14 rfl rfl) rfl rfl (by decide) rfl (wm 1 12 rfl rfl) (wm 3 200 rfl rfl) (by decide) hR (by decide) (n := 1) rfl rfl (Nat.le_of_ble_eq_true rfl) hl.1 dX7_question_3 (fun μ10 ρ d0 H locs hp G => ?_)
  obtain ⟨F_11, hI_12, hp_13, hp_14, hp_15, hp_16, hs_17, hs_18, hs_19, hs_20, hs_21, hs_22, hs_23, hs_24, hs_25, hs_26, hs_27⟩ := hp
  have hn_28 : -1 ≤ μ10.1 26 10 ∧ μ10.1 26 10 ≤ 3000 := hI_12.nm.2.2.2.2.2.2.2.2.2.2.2.2
  have htb_29 := hp_13.b
  refine lv_aload_n hx hb dX7_question_6 rfl (lv_at hl 0 rfl) ?_
  refine lv_iconst (v := iv 0) hx hb dX7_question_7 rfl ?_
  have hpx_30 : μ10.1 26 11 = 0 → PXE μ μ10 P tt 0 (-1) 1 := fun h0 => (hnil (by have h9 : μ.1 26 11 = μ.1 26 11 := rfl; have h8 : μ10.1 26 11 = μ10.1 26 11 := rfl; omega)).fr (K := [26, 23]) (Fr.tr Fr.rf F_11 (by decide)) (npL_p (L := [26, 23]) (by decide) hprP).1 (npL_p (L := [26, 23]) (by decide) hprP).2.1
  have e_31 : μ10.1 23 2 = P := (hs_22.trans hP.symm)
  have e_32 : μ10.1 23 8 = tt := (hs_26.trans htt.symm)
  have e_33 : μ10.1 P 1 = μ.1 P 1 := (F_11.1 P (ni hprP (fun P => P) (fun P => [26, 23]) rfl) 1)
  have hk_34 := hI.row (r := P + 2) (hprP.row)
  unfold rk at hk_34
  have e_35 : μ10.1 (P + 2) 3 = μ.1 (P + 2) 3 := (F_11.1 (P + 2) (ni hprP (fun P => P + 2) (fun P => [26, 23]) rfl) 3)
  have e_36 : μ10.1 P 1 = μ.1 P 1 := (F_11.1 P (ni hprP (fun P => P) (fun P => [26, 23]) rfl) 1)
  have e_37 : μ10.1 23 9 = μ.1 23 9 + 1 := hs_17
  have e_38 : μ10.1 23 9 = μ.1 23 9 + 1 := hs_17
  have e_39 : μ10.1 P 1 = μ.1 P 1 := (F_11.1 P (ni hprP (fun P => P) (fun P => [26, 23]) rfl) 1)
  have e_40 : μ10.1 P 1 = μ.1 P 1 := (F_11.1 P (ni hprP (fun P => P) (fun P => [26, 23]) rfl) 1)
  have e_41 : μ10.1 (P + 2) 3 = μ.1 (P + 2) 3 := (F_11.1 (P + 2) (ni hprP (fun P => P + 2) (fun P => [26, 23]) rfl) 3)
  have e_42 : μ10.1 P 1 = μ.1 P 1 := (F_11.1 P (ni hprP (fun P => P) (fun P => [26, 23]) rfl) 1)
  have e_43 : μ10.1 (P + 2) 3 = μ.1 (P + 2) 3 := (F_11.1 (P + 2) (ni hprP (fun P => P + 2) (fun P => [26, 23]) rfl) 3)
  have e_44 : μ10.1 23 2 = P := (hs_22.trans hP.symm)
  have e_45 : μ10.1 23 5 = μ.1 23 5 := hs_23
  have e_46 : μ10.1 23 6 = μ.1 23 6 := hs_24
  have e_47 : μ10.1 23 7 = μ.1 23 7 := hs_25
  have e_48 : μ10.1 23 8 = tt := (hs_26.trans htt.symm)
  have e_49 : μ10.1 23 9 = μ.1 23 9 + 1 := hs_17
  have e_50 : μ10.1 23 10 = μ.1 23 10 := hs_27
  have e_51 : μ10.1 26 6 = μ.1 26 6 := hs_18
  have e_52 : μ10.1 P 7 = μ.1 P 7 := (F_11.1 P (ni hprP (fun P => P) (fun P => [26, 23]) rfl) 7)
  refine xc_vV G (b := 23) (rest := []) (As := [.int (iv 0)]) (c_X7_expression_a ω l μ10 0 P tt (by omega) hI_12 (by omega) (by omega) hp_13 (by omega) (by omega) (by omega) (by omega) (fun _ => Or.inl (by omega))) (wm 4 3 rfl rfl) (wm 4 5 rfl rfl) (wm 0 24 rfl rfl) rfl rfl (by decide) rfl (wm 1 12 rfl rfl) (wm 4 6 rfl rfl) (by decide) hR (by decide) (n := 1) rfl rfl (Nat.le_of_ble_eq_true rfl) hl.1 dX7_question_8 (fun μ53 ρ d0 H locs hp G => ?_)
  obtain ⟨F_54, hI_55, hp_56, hp_57, hp_58, hp_59, hp_60, hp_61, hs_62, hs_63, hs_64, hs_65, hs_66, hs_67, hs_68, hs_69, hs_70⟩ := hp
  have hn_71 : -1 ≤ μ53.1 26 10 ∧ μ53.1 26 10 ≤ 3000 := hI_55.nm.2.2.2.2.2.2.2.2.2.2.2.2
  have hk_72 := hI_55.pr (p := P) hprP
  unfold pk at hk_72
  have hc_73 : 16 ≤ μ53.2.1 (P + 1) ∧ μ53.2.1 (P + 1) ≤ 73024 := hI_55.rm.1 _ hprP.cap
  have hk_74 := hI_55.row (r := P + 2) (hprP.row)
  unfold rk at hk_74
  have htb_75 := hp_56.b
  have hpx_76 : μ53.1 26 11 = 0 → PXE μ μ53 P tt (0 + (1 - 0)) (-1) 1 := fun h0 => (PXE.app (hpx_30 (by have h9 : μ10.1 26 11 = μ10.1 26 11 := rfl; have h8 : μ53.1 26 11 = μ53.1 26 11 := rfl; omega)) (hp_61 h0)).e (by omega)
  refine lv_aload_n hx hb dX7_question_11 rfl (lv_at hl 0 rfl) ?_
  refine lv_bipush (v := iv 41) hx hb dX7_question_12 rfl ?_
  have e_77 : μ53.1 23 9 = μ.1 23 9 + 1 := (hs_67.trans hs_17)
  have e_78 : μ53.1 23 9 = μ.1 23 9 + 1 := (hs_67.trans hs_17)
  have e_79 : μ53.1 23 9 = μ.1 23 9 + 1 := (hs_67.trans hs_17)
  have e_80 : μ53.1 26 6 = μ.1 26 6 := (hs_69.trans hs_18)
  have hn_81 : 0 ≤ μ53.1 26 7 ∧ μ53.1 26 7 ≤ 3000 := hI_55.nm.2.2.2.2.2.2.2.2.2.2.1
  have hn_82 : 0 ≤ μ53.1 26 9 ∧ μ53.1 26 9 ≤ 3000 := hI_55.nm.2.2.2.2.2.2.2.2.2.2.2.1
  have e_83 : μ53.1 23 2 = P := (hs_62.trans (hs_22.trans hP.symm))
  have e_84 : μ53.1 23 5 = μ.1 23 5 := (hs_63.trans hs_23)
  have e_85 : μ53.1 23 6 = μ.1 23 6 := (hs_64.trans hs_24)
  have e_86 : μ53.1 23 7 = μ.1 23 7 := (hs_65.trans hs_25)
  have e_87 : μ53.1 23 8 = tt := (hs_66.trans (hs_26.trans htt.symm))
  have e_88 : μ53.1 23 10 = μ.1 23 10 := (hs_68.trans hs_27)
  refine xc_vV G (b := 23) (rest := []) (As := [.int (iv 41)]) (c_X7_needClosed_b ω l μ53 41 (by unfold ir; omega) hI_55 hp_56 (by omega) (by omega)) (wm 3 214 rfl rfl) (wm 3 216 rfl rfl) (wm 0 18 rfl rfl) rfl rfl (by decide) rfl (wm 1 12 rfl rfl) (wm 3 217 rfl rfl) (by decide) hR (by decide) (n := 1) rfl rfl (Nat.le_of_ble_eq_true rfl) hl.1 dX7_question_14 (fun μ89 ρ d0 H locs hp G => ?_)
  obtain ⟨F_90, hI_91, hp_92, hp_93, hp_94, hs_95, hs_96, hs_97, hs_98, hs_99, hs_100, hs_101, hs_102, hs_103, hs_104, hs_105⟩ := hp
  have hn_106 : -1 ≤ μ89.1 26 10 ∧ μ89.1 26 10 ≤ 3000 := hI_91.nm.2.2.2.2.2.2.2.2.2.2.2.2
  have htb_107 := hp_92.b
  refine lv_aload_n hx hb dX7_question_17 rfl (lv_at hl 0 rfl) ?_
  refine lv_bipush (v := iv 20) hx hb dX7_question_18 rfl ?_
  refine lv_iconst (v := iv 0) hx hb dX7_question_20 rfl ?_
  refine lv_iconst (v := iv 0) hx hb dX7_question_21 rfl ?_
  have hpx_108 : μ89.1 26 11 = 0 → PXE μ μ89 P tt (0 + (1 - 0)) (-1) 1 := fun h0 => (hpx_76 (by have h9 : μ53.1 26 11 = μ53.1 26 11 := rfl; have h8 : μ89.1 26 11 = μ89.1 26 11 := rfl; omega)).fr (K := [26, 23]) (Fr.tr Fr.rf F_90 (by decide)) (npL_p (L := [26, 23]) (by decide) hprP).1 (npL_p (L := [26, 23]) (by decide) hprP).2.1
  have e_109 : μ89.1 23 2 = P := (hs_100.trans (hs_62.trans (hs_22.trans hP.symm)))
  have e_110 : μ89.1 P 1 = μ53.1 P 1 := (F_90.1 P (ni hprP (fun P => P) (fun P => [26, 23]) rfl) 1)
  have e_111 : μ89.1 P 1 = μ53.1 P 1 := (F_90.1 P (ni hprP (fun P => P) (fun P => [26, 23]) rfl) 1)
  have e_112 : μ89.1 P 1 = μ53.1 P 1 := (F_90.1 P (ni hprP (fun P => P) (fun P => [26, 23]) rfl) 1)
  have e_113 : μ89.1 P 7 = μ.1 P 7 := ((F_90.1 P (ni hprP (fun P => P) (fun P => [26, 23]) rfl) 7).trans (hs_70.trans (F_11.1 P (ni hprP (fun P => P) (fun P => [26, 23]) rfl) 7)))
  refine xc_iV G (b := 23) (rest := []) (As := [.int (iv 20), .int (iv 0), .int (iv 0)]) (c_X7_add ω l μ89 20 0 0 P (by unfold ir; omega) (by unfold ir; omega) (by unfold ir; omega) hI_91 (by omega) (by omega)) (wm 3 226 rfl rfl) (wm 3 228 rfl rfl) (wm 0 21 rfl rfl) rfl rfl (by decide) rfl (wm 1 12 rfl rfl) (wm 3 229 rfl rfl) (by decide) hR (by decide) (n := 3) rfl rfl (Nat.le_of_ble_eq_true rfl) hl.1 dX7_question_22 (fun r_115 μ114 ρ d0 H locs hr_r_115 hp G => ?_)
  have hr_r_115 : -2147483648 ≤ r_115 ∧ r_115 ≤ 2147483647 := hr_r_115
  obtain ⟨F_116, hI_117, hp_118, hp_119, hs_120, hs_121⟩ := hp
  have e_122 : μ114.1 26 11 = μ89.1 26 11 := (F_116.1 26 (ni hprP (fun P => 26) (fun P => [P, P + 1]) rfl) 11)
  have htk_123 : TK μ114 := hp_92.fr (K := [P, P + 1]) (Fr.tr Fr.rf F_116 (si hprP (fun P => [P, P + 1]) (fun P => [P, P + 1]) rfl)) (ni hprP (fun P => 26) (fun P => [P, P + 1]) rfl) (ni hprP (fun P => 28) (fun P => [P, P + 1]) rfl) (ni hprP (fun P => 29) (fun P => [P, P + 1]) rfl)
  have e_124 : μ114.1 26 11 = μ89.1 26 11 := (F_116.1 26 (ni hprP (fun P => 26) (fun P => [P, P + 1]) rfl) 11)
  have e_125 : μ114.1 26 10 = μ89.1 26 10 := (F_116.1 26 (ni hprP (fun P => 26) (fun P => [P, P + 1]) rfl) 10)
  have e_126 : μ114.1 P 1 = μ89.1 P 1 + 1 := hs_120
  have e_127 : μ114.1 P 1 = μ89.1 P 1 + 1 := hs_120
  have e_128 : μ114.1 26 10 = μ89.1 26 10 := (F_116.1 26 (ni hprP (fun P => 26) (fun P => [P, P + 1]) rfl) 10)
  have e_129 : μ114.1 26 11 = μ89.1 26 11 := (F_116.1 26 (ni hprP (fun P => 26) (fun P => [P, P + 1]) rfl) 11)
  have e_130 : μ114.1 (P + 2) 3 = μ53.1 (P + 2) 3 := ((F_116.1 (P + 2) (ni hprP (fun P => P + 2) (fun P => [P, P + 1]) rfl) 3).trans (F_90.1 (P + 2) (ni hprP (fun P => P + 2) (fun P => [26, 23]) rfl) 3))
  have e_131 : μ114.1 P 1 = μ89.1 P 1 + 1 := hs_120
  have e_132 : μ114.1 (P + 2) 3 = μ53.1 (P + 2) 3 := ((F_116.1 (P + 2) (ni hprP (fun P => P + 2) (fun P => [P, P + 1]) rfl) 3).trans (F_90.1 (P + 2) (ni hprP (fun P => P + 2) (fun P => [26, 23]) rfl) 3))
  have e_133 : μ114.1 23 2 = P := ((F_116.1 23 (ni hprP (fun P => 23) (fun P => [P, P + 1]) rfl) 2).trans (hs_100.trans (hs_62.trans (hs_22.trans hP.symm))))
  have e_134 : μ114.1 23 5 = μ.1 23 5 := ((F_116.1 23 (ni hprP (fun P => 23) (fun P => [P, P + 1]) rfl) 5).trans (hs_101.trans (hs_63.trans hs_23)))
  have e_135 : μ114.1 23 6 = μ.1 23 6 := ((F_116.1 23 (ni hprP (fun P => 23) (fun P => [P, P + 1]) rfl) 6).trans (hs_102.trans (hs_64.trans hs_24)))
  have e_136 : μ114.1 23 7 = μ.1 23 7 := ((F_116.1 23 (ni hprP (fun P => 23) (fun P => [P, P + 1]) rfl) 7).trans (hs_103.trans (hs_65.trans hs_25)))
  have e_137 : μ114.1 23 8 = tt := ((F_116.1 23 (ni hprP (fun P => 23) (fun P => [P, P + 1]) rfl) 8).trans (hs_104.trans (hs_66.trans (hs_26.trans htt.symm))))
  have e_138 : μ114.1 23 9 = μ53.1 23 9 - 1 := ((F_116.1 23 (ni hprP (fun P => 23) (fun P => [P, P + 1]) rfl) 9).trans hs_95)
  have e_139 : μ114.1 23 10 = μ.1 23 10 := ((F_116.1 23 (ni hprP (fun P => 23) (fun P => [P, P + 1]) rfl) 10).trans (hs_105.trans (hs_68.trans hs_27)))
  have e_140 : μ114.1 26 6 = μ.1 26 6 := ((F_116.1 26 (ni hprP (fun P => 26) (fun P => [P, P + 1]) rfl) 6).trans (hs_96.trans (hs_69.trans hs_18)))
  have e_141 : μ114.1 P 7 = μ.1 P 7 := (hs_121.trans ((F_90.1 P (ni hprP (fun P => P) (fun P => [26, 23]) rfl) 7).trans (hs_70.trans (F_11.1 P (ni hprP (fun P => P) (fun P => [26, 23]) rfl) 7))))
  exact xr_i G (x := r_115) hret hlk (by unfold ir; omega) rfl dX7_question_25 ⟨(Fr.tr (Fr.tr (Fr.tr (Fr.tr Fr.rf F_11 (si hprP (fun P => [26, 23]) (fun P => [2, 3, 4, 23, 24, 26, P, P + 1, P + 2, (P + 2) + 1, (P + 2) + 2, (P + 2) + 3]) rfl)) F_54 (si hprP (fun P => [2, 3, 4, 23, 24, 26, P, P + 1, P + 2, (P + 2) + 1, (P + 2) + 2, (P + 2) + 3]) (fun P => [2, 3, 4, 23, 24, 26, P, P + 1, P + 2, (P + 2) + 1, (P + 2) + 2, (P + 2) + 3]) rfl)) F_90 (si hprP (fun P => [26, 23]) (fun P => [2, 3, 4, 23, 24, 26, P, P + 1, P + 2, (P + 2) + 1, (P + 2) + 2, (P + 2) + 3]) rfl)) F_116 (si hprP (fun P => [P, P + 1]) (fun P => [2, 3, 4, 23, 24, 26, P, P + 1, P + 2, (P + 2) + 1, (P + 2) + 2, (P + 2) + 3]) rfl)), hI_117, htk_123, (by omega), (by omega), (by omega), (by omega), (fun h0 => ⟨μ89, (PXE.ex (hpx_108 (by have h9 : μ89.1 26 11 = μ89.1 26 11 := rfl; have h8 : μ114.1 26 11 = μ89.1 26 11 := (F_116.1 26 (ni hprP (fun P => 26) (fun P => [P, P + 1]) rfl) 11); omega))).e (by omega), hp_119, by have h9 : μ89.1 P 1 = μ53.1 P 1 := (F_90.1 P (ni hprP (fun P => P) (fun P => [26, 23]) rfl) 1); omega⟩), (by omega), (by omega), (by omega), (by omega), (by omega), (by omega), (by omega), (by omega), (by omega)⟩

set_option maxHeartbeats 4000000 in
set_option maxRecDepth 100000 in
theorem c_X7_let (ω : Om) (l : Launch) (μ : M3) (P : Int) (tt : Int) (hI : IC μ) (hP : P = μ.1 23 2) (htt : tt = μ.1 23 8) (hTK : TK μ) (hB : 2 * μ.1 P 1 ≤ 5 * μ.1 26 10 + 100 + 80 * μ.1 26 11) (hKc : μ.1 (P + 2) 3 ≤ μ.1 P 1) (ht3 : 0 ≤ tt ∧ tt ≤ 3) (hdp : 0 ≤ μ.1 23 9 ∧ μ.1 23 9 ≤ 8 + μ.1 26 11) : CtV ω l yX7_let cX7_let 5 152 4104 [.ref (oP ω 23)] μ (fun (μ' : M3) => (Fr [2, 3, 4, 23, 24, 25, 26, P, P + 1, P + 2, (P + 2) + 1, (P + 2) + 2, (P + 2) + 3] μ μ') ∧ (IC μ') ∧ (TK μ') ∧ (μ.1 26 11 ≤ μ'.1 26 11) ∧ (μ.1 26 10 ≤ μ'.1 26 10) ∧ (μ.1 P 1 + 1 ≤ μ'.1 P 1 ∧ μ'.1 P 1 ≤ μ.1 P 1 + 2 * (μ'.1 26 10 - μ.1 26 10) + (- 2 + 3 * μ'.1 26 11)) ∧ (μ'.1 (P + 2) 3 - μ.1 (P + 2) 3 ≤ μ'.1 P 1 - μ.1 P 1 ∧ μ.1 (P + 2) 3 ≤ μ'.1 (P + 2) 3) ∧ (μ'.1 26 11 = 0 → EX μ μ' P tt 0 0) ∧ (μ'.1 23 2 = μ.1 23 2) ∧ (μ'.1 23 7 = μ.1 23 7) ∧ (μ'.1 23 8 = μ.1 23 8) ∧ (μ'.1 23 9 = μ.1 23 9) ∧ (μ'.1 26 6 = μ.1 26 6) ∧ (μ'.1 P 7 = μ.1 P 7)) := by
  refine CtV.go (by decide) (Nat.le_of_ble_eq_true rfl) (fun ρ p e s m below meth c R ls G hR hret hlk hl => ?_)
  have hx := G.1.1
  have hb := G.1.2.1
  have hl : lv_has ls 5 [(0, .ref (oP ω 23))] := hl
  generalize s.drawn = d0 at G ⊢
  have hTKb := hTK.b
  have hprP : isPr P := by have h9 := G.sr0.2.2.2.2.2; rw [← hP] at h9; exact h9
  have hprP_d : 13 ≤ P ∧ P ≤ 101 := by rcases hprP with h9 | h9 | h9 | h9 | h9 <;> omega
  have hk_1 := hI.pr (p := P) hprP
  unfold pk at hk_1
  have hc_2 : 16 ≤ μ.2.1 (P + 1) ∧ μ.2.1 (P + 1) ≤ 73024 := hI.rm.1 _ hprP.cap
  have hnil : μ.1 26 11 = 0 → PXE μ μ P tt 0 (-1) 0 := fun _ => PXE.nil (by omega)
  have hn_3 : 0 ≤ μ.1 23 5 ∧ μ.1 23 5 ≤ 1000 := hI.nm.2.2.2.2.2.2.2.2.1
  refine lv_aload_n hx hb dX7_let_0 rfl (lv_at hl 0 rfl) ?_
  refine xa_getr G fd_X7 (a := 23) (x := 26) 0 rfl (by decide) rfl (wm 2 17 rfl rfl) ⟨rfl, rfl, rfl⟩ dX7_let_1 rfl (G.sk 23 rfl) (by decide) rfl ?_
  refine xa_getN G fd_X10 (host := "FourTongues") (a := 26) 14 rfl (by decide) (by decide) ⟨rfl, rfl, rfl⟩ dX7_let_4 rfl (v := .long (jv (μ.1 26 14))) (by rw [show μ.1 26 14 = μ.1 26 14 from rfl]; rfl) ?_
  have hj_4 : jr (μ.1 26 14) := by have h9 := G.hj (a := 26) (k := 14) rfl; exact h9
  refine lv_lstore_n (lv' := [(1, .long (jv (μ.1 26 14))), (0, .ref (oP ω 23))]) hx hb dX7_let_7 rfl hl (by decide) rfl (fun ls hl => ?_)
  refine lv_aload_n hx hb dX7_let_8 rfl (lv_at hl 1 rfl) ?_
  refine xa_getr G fd_X7 (a := 23) (x := 26) 0 rfl (by decide) rfl (wm 2 17 rfl rfl) ⟨rfl, rfl, rfl⟩ dX7_let_9 rfl (G.sk 23 rfl) (by decide) rfl ?_
  refine xa_getN G fd_X10 (host := "FourTongues") (a := 26) 13 rfl (by decide) (by decide) ⟨rfl, rfl, rfl⟩ dX7_let_12 rfl (v := .int (iv (μ.1 26 13))) (by rw [show μ.1 26 13 = μ.1 26 13 from rfl]; rfl) ?_
  have hr_5 : -2147483648 ≤ μ.1 26 13 ∧ μ.1 26 13 ≤ 2147483647 := by have h9 := G.hr (a := 26) (k := 13) rfl; exact h9
  refine lv_istore_n (lv' := [(3, .int (iv (μ.1 26 13))), (1, .long (jv (μ.1 26 14))), (0, .ref (oP ω 23))]) hx hb dX7_let_15 rfl hl (by decide) rfl (fun ls hl => ?_)
  refine lv_aload_n hx hb dX7_let_16 rfl (lv_at hl 2 rfl) ?_
  refine lv_iconst (v := iv 1) hx hb dX7_let_17 rfl ?_
  have hn_6 : -1 ≤ μ.1 26 10 ∧ μ.1 26 10 ≤ 3000 := hI.nm.2.2.2.2.2.2.2.2.2.2.2.2
  have hn_7 : 0 ≤ μ.1 26 6 ∧ μ.1 26 6 ≤ 3001 := hI.nm.2.2.2.2.2.2.2.2.2.1
  have hn_8 : 0 ≤ μ.1 26 7 ∧ μ.1 26 7 ≤ 3000 := hI.nm.2.2.2.2.2.2.2.2.2.2.1
  have hn_9 : 0 ≤ μ.1 26 9 ∧ μ.1 26 9 ≤ 3000 := hI.nm.2.2.2.2.2.2.2.2.2.2.2.1
  refine xc_vV G (b := 23) (rest := []) (As := [.int (iv 1)]) (c_X7_need_b ω l μ 1 (by unfold ir; omega) hI hTK (by omega)) (wm 3 169 rfl rfl) (wm 3 171 rfl rfl) (wm 0 11 rfl rfl) rfl rfl (by decide) rfl (wm 1 12 rfl rfl) (wm 3 172 rfl rfl) (by decide) hR (by decide) (n := 1) rfl rfl (Nat.le_of_ble_eq_true rfl) hl.1 dX7_let_18 (fun μ10 ρ d0 H locs hp G => ?_)
  obtain ⟨F_11, hI_12, hp_13, hp_14, hp_15, hs_16, hs_17, hs_18, hs_19⟩ := hp
  have hn_20 : -1 ≤ μ10.1 26 10 ∧ μ10.1 26 10 ≤ 3000 := hI_12.nm.2.2.2.2.2.2.2.2.2.2.2.2
  have htb_21 := hp_13.b
  refine lv_aload_n hx hb dX7_let_21 rfl (lv_at hl 2 rfl) ?_
  refine lv_lload_n hx hb dX7_let_22 rfl (lv_at hl 1 rfl) ?_
  have hpx_22 : μ10.1 26 11 = 0 → PXE μ μ10 P tt 0 (-1) 0 := fun h0 => (hnil (by have h9 : μ.1 26 11 = μ.1 26 11 := rfl; have h8 : μ10.1 26 11 = μ10.1 26 11 := rfl; omega)).fr (K := [26]) (Fr.tr Fr.rf F_11 (by decide)) (npL_p (L := [26]) (by decide) hprP).1 (npL_p (L := [26]) (by decide) hprP).2.1
  refine xc_iV G (b := 23) (rest := []) (As := [.long (jv (μ.1 26 14))]) (c_X7_variable ω l μ10 (μ.1 26 14) hj_4 hI_12) (wm 3 205 rfl rfl) (wm 3 207 rfl rfl) (wm 0 16 rfl rfl) rfl rfl (by decide) rfl (wm 1 12 rfl rfl) (wm 3 208 rfl rfl) (by decide) hR (by decide) (n := 1) rfl rfl (Nat.le_of_ble_eq_true rfl) hl.1 dX7_let_23 (fun r_24 μ23 ρ d0 H locs hr_r_24 hp G => ?_)
  have hr_r_24 : -2147483648 ≤ r_24 ∧ r_24 ≤ 2147483647 := hr_r_24
  obtain ⟨hsm_25, hp_26⟩ := hp
  have hsm_25 := Eq.symm hsm_25
  subst hsm_25
  refine xb_if_ge (tgt := 54) hx hb (by unfold ir; omega) dX7_let_26 (by decide) (fun c_26 => ?_) (fun c_26 => ?_)
  · refine lv_aload_n hx hb dX7_let_54 rfl (lv_at hl 2 rfl) ?_
    refine lv_lload_n hx hb dX7_let_55 rfl (lv_at hl 1 rfl) ?_
    have e_27 : μ10.1 23 2 = P := ((F_11.1 23 (by decide) 2).trans hP.symm)
    have e_28 : μ10.1 23 6 = μ.1 23 6 := (F_11.1 23 (by decide) 6)
    have e_29 : μ10.1 23 7 = μ.1 23 7 := (F_11.1 23 (by decide) 7)
    have e_30 : μ10.1 23 8 = tt := ((F_11.1 23 (by decide) 8).trans htt.symm)
    have e_31 : μ10.1 23 9 = μ.1 23 9 := (F_11.1 23 (by decide) 9)
    have e_32 : μ10.1 23 10 = μ.1 23 10 := (F_11.1 23 (by decide) 10)
    refine xc_iV G (b := 23) (rest := []) (As := [.long (jv (μ.1 26 14))]) (c_X7_declare ω l μ10 (μ.1 26 14) hj_4 hI_12) (wm 3 209 rfl rfl) (wm 3 211 rfl rfl) (wm 0 17 rfl rfl) rfl rfl (by decide) rfl (wm 1 12 rfl rfl) (wm 3 212 rfl rfl) (by decide) hR (by decide) (n := 1) rfl rfl (Nat.le_of_ble_eq_true rfl) hl.1 dX7_let_56 (fun r_34 μ33 ρ d0 H locs hr_r_34 hp G => ?_)
    have hr_r_34 : -2147483648 ≤ r_34 ∧ r_34 ≤ 2147483647 := hr_r_34
    obtain ⟨F_35, hI_36, hp_37, hs_38, hs_39, hs_40, hs_41, hs_42, hs_43⟩ := hp
    refine lv_istore (lv' := [(4, .int (iv r_34)), (3, .int (iv (μ.1 26 13))), (1, .long (jv (μ.1 26 14))), (0, .ref (oP ω 23))]) hx hb dX7_let_59 hl (by decide) rfl (fun ls hl => ?_)
    refine lv_aload_n hx hb dX7_let_61 rfl (lv_at hl 3 rfl) ?_
    refine lv_bipush (v := iv 61) hx hb dX7_let_62 rfl ?_
    have hpx_44 : μ33.1 26 11 = 0 → PXE μ μ33 P tt 0 (-1) 0 := fun h0 => (hpx_22 (by have h9 : μ10.1 26 11 = μ10.1 26 11 := rfl; have h8 : μ33.1 26 11 = μ10.1 26 11 := (F_35.1 26 (by decide) 11); omega)).fr (K := [25, 23]) (Fr.tr Fr.rf F_35 (by decide)) (npL_p (L := [25, 23]) (by decide) hprP).1 (npL_p (L := [25, 23]) (by decide) hprP).2.1
    have htk_45 : TK μ33 := hp_13.fr (K := [25, 23]) (Fr.tr Fr.rf F_35 (by decide)) (by decide) (by decide) (by decide)
    have e_46 : μ33.1 26 10 = μ10.1 26 10 := (F_35.1 26 (by decide) 10)
    have e_47 : μ33.1 26 11 = μ10.1 26 11 := (F_35.1 26 (by decide) 11)
    have e_48 : μ33.1 26 6 = μ.1 26 6 := ((F_35.1 26 (by decide) 6).trans hs_16)
    have e_49 : μ33.1 26 7 = μ.1 26 7 := ((F_35.1 26 (by decide) 7).trans hs_17)
    have e_50 : μ33.1 26 8 = μ.1 26 8 := ((F_35.1 26 (by decide) 8).trans hs_18)
    have e_51 : μ33.1 26 9 = μ.1 26 9 := ((F_35.1 26 (by decide) 9).trans hs_19)
    refine xc_vV G (b := 23) (rest := []) (As := [.int (iv 61)]) (c_X7_need_b ω l μ33 61 (by unfold ir; omega) hI_36 htk_45 (by omega)) (wm 3 169 rfl rfl) (wm 3 171 rfl rfl) (wm 0 11 rfl rfl) rfl rfl (by decide) rfl (wm 1 12 rfl rfl) (wm 3 172 rfl rfl) (by decide) hR (by decide) (n := 1) rfl rfl (Nat.le_of_ble_eq_true rfl) hl.1 dX7_let_64 (fun μ52 ρ d0 H locs hp G => ?_)
    obtain ⟨F_53, hI_54, hp_55, hp_56, hp_57, hs_58, hs_59, hs_60, hs_61⟩ := hp
    have hn_62 : -1 ≤ μ52.1 26 10 ∧ μ52.1 26 10 ≤ 3000 := hI_54.nm.2.2.2.2.2.2.2.2.2.2.2.2
    have htb_63 := hp_55.b
    refine lv_aload_n hx hb dX7_let_67 rfl (lv_at hl 3 rfl) ?_
    refine lv_iconst (v := iv 5) hx hb dX7_let_68 rfl ?_
    refine lv_iload hx hb dX7_let_69 (lv_at hl 0 rfl) ?_
    have hpx_64 : μ52.1 26 11 = 0 → PXE μ μ52 P tt 0 (-1) 0 := fun h0 => (hpx_44 (by have h9 : μ33.1 26 11 = μ10.1 26 11 := (F_35.1 26 (by decide) 11); have h8 : μ52.1 26 11 = μ52.1 26 11 := rfl; omega)).fr (K := [26]) (Fr.tr Fr.rf F_53 (by decide)) (npL_p (L := [26]) (by decide) hprP).1 (npL_p (L := [26]) (by decide) hprP).2.1
    have e_65 : μ52.1 23 2 = P := ((F_53.1 23 (by decide) 2).trans (hs_38.trans ((F_11.1 23 (by decide) 2).trans hP.symm)))
    have e_66 : μ52.1 23 8 = tt := ((F_53.1 23 (by decide) 8).trans (hs_41.trans ((F_11.1 23 (by decide) 8).trans htt.symm)))
    have e_67 : μ52.1 P 1 = μ.1 P 1 := ((F_53.1 P (ni hprP (fun P => P) (fun P => [26]) rfl) 1).trans ((F_35.1 P (ni hprP (fun P => P) (fun P => [25, 23]) rfl) 1).trans (F_11.1 P (ni hprP (fun P => P) (fun P => [26]) rfl) 1)))
    have hk_68 := hI.row (r := P + 2) (hprP.row)
    unfold rk at hk_68
    have e_69 : μ52.1 (P + 2) 3 = μ.1 (P + 2) 3 := ((F_53.1 (P + 2) (ni hprP (fun P => P + 2) (fun P => [26]) rfl) 3).trans ((F_35.1 (P + 2) (ni hprP (fun P => P + 2) (fun P => [25, 23]) rfl) 3).trans (F_11.1 (P + 2) (ni hprP (fun P => P + 2) (fun P => [26]) rfl) 3)))
    have e_70 : μ52.1 P 1 = μ.1 P 1 := ((F_53.1 P (ni hprP (fun P => P) (fun P => [26]) rfl) 1).trans ((F_35.1 P (ni hprP (fun P => P) (fun P => [25, 23]) rfl) 1).trans (F_11.1 P (ni hprP (fun P => P) (fun P => [26]) rfl) 1)))
    have e_71 : μ52.1 23 9 = μ.1 23 9 := ((F_53.1 23 (by decide) 9).trans (hs_42.trans (F_11.1 23 (by decide) 9)))
    have e_72 : μ52.1 23 9 = μ.1 23 9 := ((F_53.1 23 (by decide) 9).trans (hs_42.trans (F_11.1 23 (by decide) 9)))
    have e_73 : μ52.1 P 1 = μ.1 P 1 := ((F_53.1 P (ni hprP (fun P => P) (fun P => [26]) rfl) 1).trans ((F_35.1 P (ni hprP (fun P => P) (fun P => [25, 23]) rfl) 1).trans (F_11.1 P (ni hprP (fun P => P) (fun P => [26]) rfl) 1)))
    have e_74 : μ52.1 P 1 = μ.1 P 1 := ((F_53.1 P (ni hprP (fun P => P) (fun P => [26]) rfl) 1).trans ((F_35.1 P (ni hprP (fun P => P) (fun P => [25, 23]) rfl) 1).trans (F_11.1 P (ni hprP (fun P => P) (fun P => [26]) rfl) 1)))
    have e_75 : μ52.1 (P + 2) 3 = μ.1 (P + 2) 3 := ((F_53.1 (P + 2) (ni hprP (fun P => P + 2) (fun P => [26]) rfl) 3).trans ((F_35.1 (P + 2) (ni hprP (fun P => P + 2) (fun P => [25, 23]) rfl) 3).trans (F_11.1 (P + 2) (ni hprP (fun P => P + 2) (fun P => [26]) rfl) 3)))
    have e_76 : μ52.1 P 1 = μ.1 P 1 := ((F_53.1 P (ni hprP (fun P => P) (fun P => [26]) rfl) 1).trans ((F_35.1 P (ni hprP (fun P => P) (fun P => [25, 23]) rfl) 1).trans (F_11.1 P (ni hprP (fun P => P) (fun P => [26]) rfl) 1)))
    have e_77 : μ52.1 (P + 2) 3 = μ.1 (P + 2) 3 := ((F_53.1 (P + 2) (ni hprP (fun P => P + 2) (fun P => [26]) rfl) 3).trans ((F_35.1 (P + 2) (ni hprP (fun P => P + 2) (fun P => [25, 23]) rfl) 3).trans (F_11.1 (P + 2) (ni hprP (fun P => P + 2) (fun P => [26]) rfl) 3)))
    have e_78 : μ52.1 23 2 = P := ((F_53.1 23 (by decide) 2).trans (hs_38.trans ((F_11.1 23 (by decide) 2).trans hP.symm)))
    have hn_79 : 0 ≤ μ33.1 23 5 ∧ μ33.1 23 5 ≤ 1000 := hI_36.nm.2.2.2.2.2.2.2.2.1
    have e_80 : μ52.1 23 5 = μ33.1 23 5 := (F_53.1 23 (by decide) 5)
    have e_81 : μ52.1 23 6 = μ.1 23 6 := ((F_53.1 23 (by decide) 6).trans (hs_39.trans (F_11.1 23 (by decide) 6)))
    have e_82 : μ52.1 23 7 = μ.1 23 7 := ((F_53.1 23 (by decide) 7).trans (hs_40.trans (F_11.1 23 (by decide) 7)))
    have e_83 : μ52.1 23 8 = tt := ((F_53.1 23 (by decide) 8).trans (hs_41.trans ((F_11.1 23 (by decide) 8).trans htt.symm)))
    have e_84 : μ52.1 23 9 = μ.1 23 9 := ((F_53.1 23 (by decide) 9).trans (hs_42.trans (F_11.1 23 (by decide) 9)))
    have e_85 : μ52.1 23 10 = μ.1 23 10 := ((F_53.1 23 (by decide) 10).trans (hs_43.trans (F_11.1 23 (by decide) 10)))
    have e_86 : μ52.1 26 6 = μ.1 26 6 := (hs_58.trans ((F_35.1 26 (by decide) 6).trans hs_16))
    have e_87 : μ52.1 P 7 = μ.1 P 7 := ((F_53.1 P (ni hprP (fun P => P) (fun P => [26]) rfl) 7).trans ((F_35.1 P (ni hprP (fun P => P) (fun P => [25, 23]) rfl) 7).trans (F_11.1 P (ni hprP (fun P => P) (fun P => [26]) rfl) 7)))
    refine xc_vV G (b := 23) (rest := []) (As := [.int (iv 5), .int (iv r_34)]) (c_X7_withExpression ω l μ52 5 r_34 P tt (by unfold ir; omega) (by unfold ir; omega) hI_54 (by omega) (by omega) hp_55 (by omega) (by omega) (by omega) (by omega) (Or.inl (by unfold plain; omega)) (fun h0 => by rw [show eff 5 r_34 = -1 from rfl]; have h9 := (hpx_64 h0).h; omega)) (wm 3 239 rfl rfl) (wm 4 1 rfl rfl) (wm 0 23 rfl rfl) rfl rfl (by decide) rfl (wm 1 12 rfl rfl) (wm 4 2 rfl rfl) (by decide) hR (by decide) (n := 2) rfl rfl (Nat.le_of_ble_eq_true rfl) hl.1 dX7_let_71 (fun μ88 ρ d0 H locs hp G => ?_)
    obtain ⟨F_89, hI_90, hp_91, hp_92, hp_93, hp_94, hp_95, hp_96, hs_97, hs_98, hs_99, hs_100, hs_101, hs_102, hs_103, hs_104, hs_105⟩ := hp
    have hn_106 : -1 ≤ μ88.1 26 10 ∧ μ88.1 26 10 ≤ 3000 := hI_90.nm.2.2.2.2.2.2.2.2.2.2.2.2
    have hk_107 := hI_90.pr (p := P) hprP
    unfold pk at hk_107
    have hc_108 : 16 ≤ μ88.2.1 (P + 1) ∧ μ88.2.1 (P + 1) ≤ 73024 := hI_90.rm.1 _ hprP.cap
    have hk_109 := hI_90.row (r := P + 2) (hprP.row)
    unfold rk at hk_109
    have htb_110 := hp_91.b
    have hpx_111 : μ88.1 26 11 = 0 → PXE μ μ88 P tt (0 + (1 + eff 5 r_34)) (-1) 0 := fun h0 => (PXE.app (hpx_64 (by have h9 : μ52.1 26 11 = μ52.1 26 11 := rfl; have h8 : μ88.1 26 11 = μ88.1 26 11 := rfl; omega)) (hp_96 h0)).e (by omega)
    have hpx_112 : μ88.1 26 11 = 0 → PXE μ μ88 P tt (0 + (1 + -1)) (-1) 0 := hpx_111
    have e_113 : μ88.1 23 2 = P := (hs_97.trans ((F_53.1 23 (by decide) 2).trans (hs_38.trans ((F_11.1 23 (by decide) 2).trans hP.symm))))
    have e_114 : μ88.1 23 7 = μ.1 23 7 := (hs_100.trans ((F_53.1 23 (by decide) 7).trans (hs_40.trans (F_11.1 23 (by decide) 7))))
    have e_115 : μ88.1 23 8 = tt := (hs_101.trans ((F_53.1 23 (by decide) 8).trans (hs_41.trans ((F_11.1 23 (by decide) 8).trans htt.symm))))
    have e_116 : μ88.1 23 9 = μ.1 23 9 := (hs_102.trans ((F_53.1 23 (by decide) 9).trans (hs_42.trans (F_11.1 23 (by decide) 9))))
    have e_117 : μ88.1 26 6 = μ.1 26 6 := (hs_104.trans (hs_58.trans ((F_35.1 26 (by decide) 6).trans hs_16)))
    have e_118 : μ88.1 P 7 = μ.1 P 7 := (hs_105.trans ((F_53.1 P (ni hprP (fun P => P) (fun P => [26]) rfl) 7).trans ((F_35.1 P (ni hprP (fun P => P) (fun P => [25, 23]) rfl) 7).trans (F_11.1 P (ni hprP (fun P => P) (fun P => [26]) rfl) 7))))
    exact xr_v G hret hlk dX7_let_74 ⟨(Fr.tr (Fr.tr (Fr.tr (Fr.tr Fr.rf F_11 (si hprP (fun P => [26]) (fun P => [2, 3, 4, 23, 24, 25, 26, P, P + 1, P + 2, (P + 2) + 1, (P + 2) + 2, (P + 2) + 3]) rfl)) F_35 (si hprP (fun P => [25, 23]) (fun P => [2, 3, 4, 23, 24, 25, 26, P, P + 1, P + 2, (P + 2) + 1, (P + 2) + 2, (P + 2) + 3]) rfl)) F_53 (si hprP (fun P => [26]) (fun P => [2, 3, 4, 23, 24, 25, 26, P, P + 1, P + 2, (P + 2) + 1, (P + 2) + 2, (P + 2) + 3]) rfl)) F_89 (si hprP (fun P => [2, 3, 4, 23, 24, 26, P, P + 1, P + 2, (P + 2) + 1, (P + 2) + 2, (P + 2) + 3]) (fun P => [2, 3, 4, 23, 24, 25, 26, P, P + 1, P + 2, (P + 2) + 1, (P + 2) + 2, (P + 2) + 3]) rfl)), hI_90, hp_91, (by omega), (by omega), (by omega), (by omega), (fun h0 => (PXE.ex (hpx_112 h0)).e (by omega)), (by omega), (by omega), (by omega), (by omega), (by omega), (by omega)⟩
  · refine lv_aload_n hx hb dX7_let_29 rfl (lv_at hl 2 rfl) ?_
    refine lv_dup hx hb dX7_let_30 rfl ?_
    refine xa_geti G fd_X7 (a := 23) (x := μ.1 23 6) 6 rfl (by decide) rfl (wm 2 23 rfl rfl) ⟨rfl, rfl, rfl⟩ dX7_let_31 rfl (F_11.1 23 (by decide) 6) ?_
    have hr_119 : -2147483648 ≤ μ.1 23 6 ∧ μ.1 23 6 ≤ 2147483647 := by have h9 := G.hr (a := 23) (k := 6) rfl; rw [show μ10.1 23 6 = μ.1 23 6 from (F_11.1 23 (by decide) 6)] at h9; exact h9
    refine lv_iconst (v := iv 1) hx hb dX7_let_34 rfl ?_
    refine xb_iadd hx hb dX7_let_35 ?_
    refine xb_topi (fun y_120 hr_y_120 he_y_120 => ?_)
    have hr_y_120 : -2147483648 ≤ y_120 ∧ y_120 ≤ 2147483647 := hr_y_120
    refine xa_puti G fd_X7 (a := 23) (x := y_120) 6 (kz := 6) rfl rfl (by decide) rfl (by unfold ir; omega) (wm 2 23 rfl rfl) ⟨rfl, rfl, rfl, rfl⟩ rfl dX7_let_36 rfl (fun H locs G => ?_)
    refine lv_aload_n hx hb dX7_let_39 rfl (lv_at hl 2 rfl) ?_
    refine xa_geti G fd_X7 (a := 23) (x := y_120) 6 rfl (by decide) rfl (wm 2 23 rfl rfl) ⟨rfl, rfl, rfl⟩ dX7_let_40 rfl (sv_s _ _ _ _) ?_
    refine lv_bipush (v := iv 12) hx hb dX7_let_43 rfl ?_
    refine xb_icmp_le (tgt := 54) hx hb (by unfold ir; omega) (by unfold ir; omega) dX7_let_45 (by decide) (fun c_45 => ?_) (fun c_45 => ?_)
    · refine lv_aload_n hx hb dX7_let_54 rfl (lv_at hl 2 rfl) ?_
      refine lv_lload_n hx hb dX7_let_55 rfl (lv_at hl 1 rfl) ?_
      have hpx_121 : (sv μ10 23 6 y_120).1 26 11 = 0 → PXE μ (sv μ10 23 6 y_120) P tt 0 (-1) 0 := fun h0 => (hpx_22 (by have h9 : μ10.1 26 11 = μ10.1 26 11 := rfl; have h8 : (sv μ10 23 6 y_120).1 26 11 = μ10.1 26 11 := (sv_n _ (fun h9 => absurd h9.1 (by decide))); omega)).fr (K := [23]) (Fr.put Fr.rf (by decide)) (npL_p (L := [23]) (by decide) hprP).1 (npL_p (L := [23]) (by decide) hprP).2.1
      have hI_122 : IC (sv μ10 23 6 y_120) := (IC.put hI_12 (by decide +kernel))
      have e_123 : (sv μ10 23 6 y_120).1 23 2 = P := ((sv_n _ (by decide)).trans ((F_11.1 23 (by decide) 2).trans hP.symm))
      have e_124 : (sv μ10 23 6 y_120).1 23 6 = y_120 := (sv_s _ _ _ _)
      have e_125 : (sv μ10 23 6 y_120).1 23 7 = μ.1 23 7 := ((sv_n _ (by decide)).trans (F_11.1 23 (by decide) 7))
      have e_126 : (sv μ10 23 6 y_120).1 23 8 = tt := ((sv_n _ (by decide)).trans ((F_11.1 23 (by decide) 8).trans htt.symm))
      have e_127 : (sv μ10 23 6 y_120).1 23 9 = μ.1 23 9 := ((sv_n _ (by decide)).trans (F_11.1 23 (by decide) 9))
      have e_128 : (sv μ10 23 6 y_120).1 23 10 = μ.1 23 10 := ((sv_n _ (by decide)).trans (F_11.1 23 (by decide) 10))
      refine xc_iV G (b := 23) (rest := []) (As := [.long (jv (μ.1 26 14))]) (c_X7_declare ω l (sv μ10 23 6 y_120) (μ.1 26 14) hj_4 hI_122) (wm 3 209 rfl rfl) (wm 3 211 rfl rfl) (wm 0 17 rfl rfl) rfl rfl (by decide) rfl (wm 1 12 rfl rfl) (wm 3 212 rfl rfl) (by decide) hR (by decide) (n := 1) rfl rfl (Nat.le_of_ble_eq_true rfl) hl.1 dX7_let_56 (fun r_130 μ129 ρ d0 H locs hr_r_130 hp G => ?_)
      have hr_r_130 : -2147483648 ≤ r_130 ∧ r_130 ≤ 2147483647 := hr_r_130
      obtain ⟨F_131, hI_132, hp_133, hs_134, hs_135, hs_136, hs_137, hs_138, hs_139⟩ := hp
      refine lv_istore (lv' := [(4, .int (iv r_130)), (3, .int (iv (μ.1 26 13))), (1, .long (jv (μ.1 26 14))), (0, .ref (oP ω 23))]) hx hb dX7_let_59 hl (by decide) rfl (fun ls hl => ?_)
      refine lv_aload_n hx hb dX7_let_61 rfl (lv_at hl 3 rfl) ?_
      refine lv_bipush (v := iv 61) hx hb dX7_let_62 rfl ?_
      have hpx_140 : μ129.1 26 11 = 0 → PXE μ μ129 P tt 0 (-1) 0 := fun h0 => (hpx_121 (by have h9 : (sv μ10 23 6 y_120).1 26 11 = μ10.1 26 11 := (sv_n _ (fun h9 => absurd h9.1 (by decide))); have h8 : μ129.1 26 11 = μ10.1 26 11 := ((F_131.1 26 (by decide) 11).trans (sv_n _ (fun h9 => absurd h9.1 (by decide)))); omega)).fr (K := [25, 23]) (Fr.tr Fr.rf F_131 (by decide)) (npL_p (L := [25, 23]) (by decide) hprP).1 (npL_p (L := [25, 23]) (by decide) hprP).2.1
      have htk_141 : TK μ129 := hp_13.fr (K := [25, 23]) (Fr.tr (Fr.put Fr.rf (by decide)) F_131 (by decide)) (by decide) (by decide) (by decide)
      have e_142 : μ129.1 26 10 = μ10.1 26 10 := ((F_131.1 26 (by decide) 10).trans (sv_n _ (fun h9 => absurd h9.1 (by decide))))
      have e_143 : μ129.1 26 11 = μ10.1 26 11 := ((F_131.1 26 (by decide) 11).trans (sv_n _ (fun h9 => absurd h9.1 (by decide))))
      have e_144 : μ129.1 26 6 = μ.1 26 6 := ((F_131.1 26 (by decide) 6).trans ((sv_n _ (fun h9 => absurd h9.1 (by decide))).trans hs_16))
      have e_145 : μ129.1 26 7 = μ.1 26 7 := ((F_131.1 26 (by decide) 7).trans ((sv_n _ (fun h9 => absurd h9.1 (by decide))).trans hs_17))
      have e_146 : μ129.1 26 8 = μ.1 26 8 := ((F_131.1 26 (by decide) 8).trans ((sv_n _ (fun h9 => absurd h9.1 (by decide))).trans hs_18))
      have e_147 : μ129.1 26 9 = μ.1 26 9 := ((F_131.1 26 (by decide) 9).trans ((sv_n _ (fun h9 => absurd h9.1 (by decide))).trans hs_19))
      refine xc_vV G (b := 23) (rest := []) (As := [.int (iv 61)]) (c_X7_need_b ω l μ129 61 (by unfold ir; omega) hI_132 htk_141 (by omega)) (wm 3 169 rfl rfl) (wm 3 171 rfl rfl) (wm 0 11 rfl rfl) rfl rfl (by decide) rfl (wm 1 12 rfl rfl) (wm 3 172 rfl rfl) (by decide) hR (by decide) (n := 1) rfl rfl (Nat.le_of_ble_eq_true rfl) hl.1 dX7_let_64 (fun μ148 ρ d0 H locs hp G => ?_)
      obtain ⟨F_149, hI_150, hp_151, hp_152, hp_153, hs_154, hs_155, hs_156, hs_157⟩ := hp
      have hn_158 : -1 ≤ μ148.1 26 10 ∧ μ148.1 26 10 ≤ 3000 := hI_150.nm.2.2.2.2.2.2.2.2.2.2.2.2
      have htb_159 := hp_151.b
      refine lv_aload_n hx hb dX7_let_67 rfl (lv_at hl 3 rfl) ?_
      refine lv_iconst (v := iv 5) hx hb dX7_let_68 rfl ?_
      refine lv_iload hx hb dX7_let_69 (lv_at hl 0 rfl) ?_
      have hpx_160 : μ148.1 26 11 = 0 → PXE μ μ148 P tt 0 (-1) 0 := fun h0 => (hpx_140 (by have h9 : μ129.1 26 11 = μ10.1 26 11 := ((F_131.1 26 (by decide) 11).trans (sv_n _ (fun h9 => absurd h9.1 (by decide)))); have h8 : μ148.1 26 11 = μ148.1 26 11 := rfl; omega)).fr (K := [26]) (Fr.tr Fr.rf F_149 (by decide)) (npL_p (L := [26]) (by decide) hprP).1 (npL_p (L := [26]) (by decide) hprP).2.1
      have e_161 : μ148.1 23 2 = P := ((F_149.1 23 (by decide) 2).trans (hs_134.trans ((sv_n _ (by decide)).trans ((F_11.1 23 (by decide) 2).trans hP.symm))))
      have e_162 : μ148.1 23 8 = tt := ((F_149.1 23 (by decide) 8).trans (hs_137.trans ((sv_n _ (by decide)).trans ((F_11.1 23 (by decide) 8).trans htt.symm))))
      have e_163 : μ148.1 P 1 = μ.1 P 1 := ((F_149.1 P (ni hprP (fun P => P) (fun P => [26]) rfl) 1).trans ((F_131.1 P (ni hprP (fun P => P) (fun P => [25, 23]) rfl) 1).trans ((sv_n _ (by omega)).trans (F_11.1 P (ni hprP (fun P => P) (fun P => [26]) rfl) 1))))
      have hk_164 := hI.row (r := P + 2) (hprP.row)
      unfold rk at hk_164
      have e_165 : μ148.1 (P + 2) 3 = μ.1 (P + 2) 3 := ((F_149.1 (P + 2) (ni hprP (fun P => P + 2) (fun P => [26]) rfl) 3).trans ((F_131.1 (P + 2) (ni hprP (fun P => P + 2) (fun P => [25, 23]) rfl) 3).trans ((sv_n _ (by omega)).trans (F_11.1 (P + 2) (ni hprP (fun P => P + 2) (fun P => [26]) rfl) 3))))
      have e_166 : μ148.1 P 1 = μ.1 P 1 := ((F_149.1 P (ni hprP (fun P => P) (fun P => [26]) rfl) 1).trans ((F_131.1 P (ni hprP (fun P => P) (fun P => [25, 23]) rfl) 1).trans ((sv_n _ (by omega)).trans (F_11.1 P (ni hprP (fun P => P) (fun P => [26]) rfl) 1))))
      have e_167 : μ148.1 23 9 = μ.1 23 9 := ((F_149.1 23 (by decide) 9).trans (hs_138.trans ((sv_n _ (by decide)).trans (F_11.1 23 (by decide) 9))))
      have e_168 : μ148.1 23 9 = μ.1 23 9 := ((F_149.1 23 (by decide) 9).trans (hs_138.trans ((sv_n _ (by decide)).trans (F_11.1 23 (by decide) 9))))
      have e_169 : μ148.1 P 1 = μ.1 P 1 := ((F_149.1 P (ni hprP (fun P => P) (fun P => [26]) rfl) 1).trans ((F_131.1 P (ni hprP (fun P => P) (fun P => [25, 23]) rfl) 1).trans ((sv_n _ (by omega)).trans (F_11.1 P (ni hprP (fun P => P) (fun P => [26]) rfl) 1))))
      have e_170 : μ148.1 P 1 = μ.1 P 1 := ((F_149.1 P (ni hprP (fun P => P) (fun P => [26]) rfl) 1).trans ((F_131.1 P (ni hprP (fun P => P) (fun P => [25, 23]) rfl) 1).trans ((sv_n _ (by omega)).trans (F_11.1 P (ni hprP (fun P => P) (fun P => [26]) rfl) 1))))
      have e_171 : μ148.1 (P + 2) 3 = μ.1 (P + 2) 3 := ((F_149.1 (P + 2) (ni hprP (fun P => P + 2) (fun P => [26]) rfl) 3).trans ((F_131.1 (P + 2) (ni hprP (fun P => P + 2) (fun P => [25, 23]) rfl) 3).trans ((sv_n _ (by omega)).trans (F_11.1 (P + 2) (ni hprP (fun P => P + 2) (fun P => [26]) rfl) 3))))
      have e_172 : μ148.1 P 1 = μ.1 P 1 := ((F_149.1 P (ni hprP (fun P => P) (fun P => [26]) rfl) 1).trans ((F_131.1 P (ni hprP (fun P => P) (fun P => [25, 23]) rfl) 1).trans ((sv_n _ (by omega)).trans (F_11.1 P (ni hprP (fun P => P) (fun P => [26]) rfl) 1))))
      have e_173 : μ148.1 (P + 2) 3 = μ.1 (P + 2) 3 := ((F_149.1 (P + 2) (ni hprP (fun P => P + 2) (fun P => [26]) rfl) 3).trans ((F_131.1 (P + 2) (ni hprP (fun P => P + 2) (fun P => [25, 23]) rfl) 3).trans ((sv_n _ (by omega)).trans (F_11.1 (P + 2) (ni hprP (fun P => P + 2) (fun P => [26]) rfl) 3))))
      have e_174 : μ148.1 23 2 = P := ((F_149.1 23 (by decide) 2).trans (hs_134.trans ((sv_n _ (by decide)).trans ((F_11.1 23 (by decide) 2).trans hP.symm))))
      have hn_175 : 0 ≤ μ129.1 23 5 ∧ μ129.1 23 5 ≤ 1000 := hI_132.nm.2.2.2.2.2.2.2.2.1
      have e_176 : μ148.1 23 5 = μ129.1 23 5 := (F_149.1 23 (by decide) 5)
      have e_177 : μ148.1 23 6 = y_120 := ((F_149.1 23 (by decide) 6).trans (hs_135.trans (sv_s _ _ _ _)))
      have e_178 : μ148.1 23 7 = μ.1 23 7 := ((F_149.1 23 (by decide) 7).trans (hs_136.trans ((sv_n _ (by decide)).trans (F_11.1 23 (by decide) 7))))
      have e_179 : μ148.1 23 8 = tt := ((F_149.1 23 (by decide) 8).trans (hs_137.trans ((sv_n _ (by decide)).trans ((F_11.1 23 (by decide) 8).trans htt.symm))))
      have e_180 : μ148.1 23 9 = μ.1 23 9 := ((F_149.1 23 (by decide) 9).trans (hs_138.trans ((sv_n _ (by decide)).trans (F_11.1 23 (by decide) 9))))
      have e_181 : μ148.1 23 10 = μ.1 23 10 := ((F_149.1 23 (by decide) 10).trans (hs_139.trans ((sv_n _ (by decide)).trans (F_11.1 23 (by decide) 10))))
      have e_182 : μ148.1 26 6 = μ.1 26 6 := (hs_154.trans ((F_131.1 26 (by decide) 6).trans ((sv_n _ (fun h9 => absurd h9.1 (by decide))).trans hs_16)))
      have e_183 : μ148.1 P 7 = μ.1 P 7 := ((F_149.1 P (ni hprP (fun P => P) (fun P => [26]) rfl) 7).trans ((F_131.1 P (ni hprP (fun P => P) (fun P => [25, 23]) rfl) 7).trans ((sv_n _ (by omega)).trans (F_11.1 P (ni hprP (fun P => P) (fun P => [26]) rfl) 7))))
      refine xc_vV G (b := 23) (rest := []) (As := [.int (iv 5), .int (iv r_130)]) (c_X7_withExpression ω l μ148 5 r_130 P tt (by unfold ir; omega) (by unfold ir; omega) hI_150 (by omega) (by omega) hp_151 (by omega) (by omega) (by omega) (by omega) (Or.inl (by unfold plain; omega)) (fun h0 => by rw [show eff 5 r_130 = -1 from rfl]; have h9 := (hpx_160 h0).h; omega)) (wm 3 239 rfl rfl) (wm 4 1 rfl rfl) (wm 0 23 rfl rfl) rfl rfl (by decide) rfl (wm 1 12 rfl rfl) (wm 4 2 rfl rfl) (by decide) hR (by decide) (n := 2) rfl rfl (Nat.le_of_ble_eq_true rfl) hl.1 dX7_let_71 (fun μ184 ρ d0 H locs hp G => ?_)
      obtain ⟨F_185, hI_186, hp_187, hp_188, hp_189, hp_190, hp_191, hp_192, hs_193, hs_194, hs_195, hs_196, hs_197, hs_198, hs_199, hs_200, hs_201⟩ := hp
      have hn_202 : -1 ≤ μ184.1 26 10 ∧ μ184.1 26 10 ≤ 3000 := hI_186.nm.2.2.2.2.2.2.2.2.2.2.2.2
      have hk_203 := hI_186.pr (p := P) hprP
      unfold pk at hk_203
      have hc_204 : 16 ≤ μ184.2.1 (P + 1) ∧ μ184.2.1 (P + 1) ≤ 73024 := hI_186.rm.1 _ hprP.cap
      have hk_205 := hI_186.row (r := P + 2) (hprP.row)
      unfold rk at hk_205
      have htb_206 := hp_187.b
      have hpx_207 : μ184.1 26 11 = 0 → PXE μ μ184 P tt (0 + (1 + eff 5 r_130)) (-1) 0 := fun h0 => (PXE.app (hpx_160 (by have h9 : μ148.1 26 11 = μ148.1 26 11 := rfl; have h8 : μ184.1 26 11 = μ184.1 26 11 := rfl; omega)) (hp_192 h0)).e (by omega)
      have hpx_208 : μ184.1 26 11 = 0 → PXE μ μ184 P tt (0 + (1 + -1)) (-1) 0 := hpx_207
      have e_209 : μ184.1 23 2 = P := (hs_193.trans ((F_149.1 23 (by decide) 2).trans (hs_134.trans ((sv_n _ (by decide)).trans ((F_11.1 23 (by decide) 2).trans hP.symm)))))
      have e_210 : μ184.1 23 7 = μ.1 23 7 := (hs_196.trans ((F_149.1 23 (by decide) 7).trans (hs_136.trans ((sv_n _ (by decide)).trans (F_11.1 23 (by decide) 7)))))
      have e_211 : μ184.1 23 8 = tt := (hs_197.trans ((F_149.1 23 (by decide) 8).trans (hs_137.trans ((sv_n _ (by decide)).trans ((F_11.1 23 (by decide) 8).trans htt.symm)))))
      have e_212 : μ184.1 23 9 = μ.1 23 9 := (hs_198.trans ((F_149.1 23 (by decide) 9).trans (hs_138.trans ((sv_n _ (by decide)).trans (F_11.1 23 (by decide) 9)))))
      have e_213 : μ184.1 26 6 = μ.1 26 6 := (hs_200.trans (hs_154.trans ((F_131.1 26 (by decide) 6).trans ((sv_n _ (fun h9 => absurd h9.1 (by decide))).trans hs_16))))
      have e_214 : μ184.1 P 7 = μ.1 P 7 := (hs_201.trans ((F_149.1 P (ni hprP (fun P => P) (fun P => [26]) rfl) 7).trans ((F_131.1 P (ni hprP (fun P => P) (fun P => [25, 23]) rfl) 7).trans ((sv_n _ (by omega)).trans (F_11.1 P (ni hprP (fun P => P) (fun P => [26]) rfl) 7)))))
      exact xr_v G hret hlk dX7_let_74 ⟨(Fr.tr (Fr.tr (Fr.tr (Fr.put (Fr.tr Fr.rf F_11 (si hprP (fun P => [26]) (fun P => [2, 3, 4, 23, 24, 25, 26, P, P + 1, P + 2, (P + 2) + 1, (P + 2) + 2, (P + 2) + 3]) rfl)) (si hprP (fun P => [23]) (fun P => [2, 3, 4, 23, 24, 25, 26, P, P + 1, P + 2, (P + 2) + 1, (P + 2) + 2, (P + 2) + 3]) rfl 23 (List.mem_singleton.2 rfl))) F_131 (si hprP (fun P => [25, 23]) (fun P => [2, 3, 4, 23, 24, 25, 26, P, P + 1, P + 2, (P + 2) + 1, (P + 2) + 2, (P + 2) + 3]) rfl)) F_149 (si hprP (fun P => [26]) (fun P => [2, 3, 4, 23, 24, 25, 26, P, P + 1, P + 2, (P + 2) + 1, (P + 2) + 2, (P + 2) + 3]) rfl)) F_185 (si hprP (fun P => [2, 3, 4, 23, 24, 26, P, P + 1, P + 2, (P + 2) + 1, (P + 2) + 2, (P + 2) + 3]) (fun P => [2, 3, 4, 23, 24, 25, 26, P, P + 1, P + 2, (P + 2) + 1, (P + 2) + 2, (P + 2) + 3]) rfl)), hI_186, hp_187, (by omega), (by omega), (by omega), (by omega), (fun h0 => (PXE.ex (hpx_208 h0)).e (by omega)), (by omega), (by omega), (by omega), (by omega), (by omega), (by omega)⟩
    · refine lv_aload_n hx hb dX7_let_48 rfl (lv_at hl 2 rfl) ?_
      refine lv_iconst (v := iv 2) hx hb dX7_let_49 rfl ?_
      refine lv_iload_n hx hb dX7_let_50 rfl (lv_at hl 0 rfl) ?_
      have hpx_215 : (sv μ10 23 6 y_120).1 26 11 = 0 → PXE μ (sv μ10 23 6 y_120) P tt 0 (-1) 0 := fun h0 => (hpx_22 (by have h9 : μ10.1 26 11 = μ10.1 26 11 := rfl; have h8 : (sv μ10 23 6 y_120).1 26 11 = μ10.1 26 11 := (sv_n _ (fun h9 => absurd h9.1 (by decide))); omega)).fr (K := [23]) (Fr.put Fr.rf (by decide)) (npL_p (L := [23]) (by decide) hprP).1 (npL_p (L := [23]) (by decide) hprP).2.1
      have hI_216 : IC (sv μ10 23 6 y_120) := (IC.put hI_12 (by decide +kernel))
      refine xc_vV G (b := 23) (rest := []) (As := [.int (iv 2), .int (iv (μ.1 26 13))]) (c_X7_tellFault ω l (sv μ10 23 6 y_120) 2 (μ.1 26 13) (by unfold ir; omega) (by unfold ir; omega) hI_216 (by omega)) (wm 3 177 rfl rfl) (wm 3 179 rfl rfl) (wm 0 12 rfl rfl) rfl rfl (by decide) rfl (wm 1 12 rfl rfl) (wm 3 180 rfl rfl) (by decide) hR (by decide) (n := 2) rfl rfl (Nat.le_of_ble_eq_true rfl) hl.1 dX7_let_51 (fun μ217 ρ d0 H locs hp G => ?_)
      obtain ⟨F_218, hI_219⟩ := hp
      refine lv_aload_n hx hb dX7_let_54 rfl (lv_at hl 2 rfl) ?_
      refine lv_lload_n hx hb dX7_let_55 rfl (lv_at hl 1 rfl) ?_
      have hpx_220 : μ217.1 26 11 = 0 → PXE μ μ217 P tt 0 (-1) 0 := fun h0 => (hpx_215 (by have h9 : (sv μ10 23 6 y_120).1 26 11 = μ10.1 26 11 := (sv_n _ (fun h9 => absurd h9.1 (by decide))); have h8 : μ217.1 26 11 = μ10.1 26 11 := ((F_218.1 26 (by decide) 11).trans (sv_n _ (fun h9 => absurd h9.1 (by decide)))); omega)).fr (K := [24]) (Fr.tr Fr.rf F_218 (by decide)) (npL_p (L := [24]) (by decide) hprP).1 (npL_p (L := [24]) (by decide) hprP).2.1
      have e_221 : μ217.1 23 2 = P := ((F_218.1 23 (by decide) 2).trans ((sv_n _ (by decide)).trans ((F_11.1 23 (by decide) 2).trans hP.symm)))
      have e_222 : μ217.1 23 6 = y_120 := ((F_218.1 23 (by decide) 6).trans (sv_s _ _ _ _))
      have e_223 : μ217.1 23 7 = μ.1 23 7 := ((F_218.1 23 (by decide) 7).trans ((sv_n _ (by decide)).trans (F_11.1 23 (by decide) 7)))
      have e_224 : μ217.1 23 8 = tt := ((F_218.1 23 (by decide) 8).trans ((sv_n _ (by decide)).trans ((F_11.1 23 (by decide) 8).trans htt.symm)))
      have e_225 : μ217.1 23 9 = μ.1 23 9 := ((F_218.1 23 (by decide) 9).trans ((sv_n _ (by decide)).trans (F_11.1 23 (by decide) 9)))
      have e_226 : μ217.1 23 10 = μ.1 23 10 := ((F_218.1 23 (by decide) 10).trans ((sv_n _ (by decide)).trans (F_11.1 23 (by decide) 10)))
      refine xc_iV G (b := 23) (rest := []) (As := [.long (jv (μ.1 26 14))]) (c_X7_declare ω l μ217 (μ.1 26 14) hj_4 hI_219) (wm 3 209 rfl rfl) (wm 3 211 rfl rfl) (wm 0 17 rfl rfl) rfl rfl (by decide) rfl (wm 1 12 rfl rfl) (wm 3 212 rfl rfl) (by decide) hR (by decide) (n := 1) rfl rfl (Nat.le_of_ble_eq_true rfl) hl.1 dX7_let_56 (fun r_228 μ227 ρ d0 H locs hr_r_228 hp G => ?_)
      have hr_r_228 : -2147483648 ≤ r_228 ∧ r_228 ≤ 2147483647 := hr_r_228
      obtain ⟨F_229, hI_230, hp_231, hs_232, hs_233, hs_234, hs_235, hs_236, hs_237⟩ := hp
      refine lv_istore (lv' := [(4, .int (iv r_228)), (3, .int (iv (μ.1 26 13))), (1, .long (jv (μ.1 26 14))), (0, .ref (oP ω 23))]) hx hb dX7_let_59 hl (by decide) rfl (fun ls hl => ?_)
      refine lv_aload_n hx hb dX7_let_61 rfl (lv_at hl 3 rfl) ?_
      refine lv_bipush (v := iv 61) hx hb dX7_let_62 rfl ?_
      have hpx_238 : μ227.1 26 11 = 0 → PXE μ μ227 P tt 0 (-1) 0 := fun h0 => (hpx_220 (by have h9 : μ217.1 26 11 = μ10.1 26 11 := ((F_218.1 26 (by decide) 11).trans (sv_n _ (fun h9 => absurd h9.1 (by decide)))); have h8 : μ227.1 26 11 = μ10.1 26 11 := ((F_229.1 26 (by decide) 11).trans ((F_218.1 26 (by decide) 11).trans (sv_n _ (fun h9 => absurd h9.1 (by decide))))); omega)).fr (K := [25, 23]) (Fr.tr Fr.rf F_229 (by decide)) (npL_p (L := [25, 23]) (by decide) hprP).1 (npL_p (L := [25, 23]) (by decide) hprP).2.1
      have htk_239 : TK μ227 := hp_13.fr (K := [25, 23, 24]) (Fr.tr (Fr.tr (Fr.put Fr.rf (by decide)) F_218 (by decide)) F_229 (by decide)) (by decide) (by decide) (by decide)
      have e_240 : μ227.1 26 10 = μ10.1 26 10 := ((F_229.1 26 (by decide) 10).trans ((F_218.1 26 (by decide) 10).trans (sv_n _ (fun h9 => absurd h9.1 (by decide)))))
      have e_241 : μ227.1 26 11 = μ10.1 26 11 := ((F_229.1 26 (by decide) 11).trans ((F_218.1 26 (by decide) 11).trans (sv_n _ (fun h9 => absurd h9.1 (by decide)))))
      have e_242 : μ227.1 26 6 = μ.1 26 6 := ((F_229.1 26 (by decide) 6).trans ((F_218.1 26 (by decide) 6).trans ((sv_n _ (fun h9 => absurd h9.1 (by decide))).trans hs_16)))
      have e_243 : μ227.1 26 7 = μ.1 26 7 := ((F_229.1 26 (by decide) 7).trans ((F_218.1 26 (by decide) 7).trans ((sv_n _ (fun h9 => absurd h9.1 (by decide))).trans hs_17)))
      have e_244 : μ227.1 26 8 = μ.1 26 8 := ((F_229.1 26 (by decide) 8).trans ((F_218.1 26 (by decide) 8).trans ((sv_n _ (fun h9 => absurd h9.1 (by decide))).trans hs_18)))
      have e_245 : μ227.1 26 9 = μ.1 26 9 := ((F_229.1 26 (by decide) 9).trans ((F_218.1 26 (by decide) 9).trans ((sv_n _ (fun h9 => absurd h9.1 (by decide))).trans hs_19)))
      refine xc_vV G (b := 23) (rest := []) (As := [.int (iv 61)]) (c_X7_need_b ω l μ227 61 (by unfold ir; omega) hI_230 htk_239 (by omega)) (wm 3 169 rfl rfl) (wm 3 171 rfl rfl) (wm 0 11 rfl rfl) rfl rfl (by decide) rfl (wm 1 12 rfl rfl) (wm 3 172 rfl rfl) (by decide) hR (by decide) (n := 1) rfl rfl (Nat.le_of_ble_eq_true rfl) hl.1 dX7_let_64 (fun μ246 ρ d0 H locs hp G => ?_)
      obtain ⟨F_247, hI_248, hp_249, hp_250, hp_251, hs_252, hs_253, hs_254, hs_255⟩ := hp
      have hn_256 : -1 ≤ μ246.1 26 10 ∧ μ246.1 26 10 ≤ 3000 := hI_248.nm.2.2.2.2.2.2.2.2.2.2.2.2
      have htb_257 := hp_249.b
      refine lv_aload_n hx hb dX7_let_67 rfl (lv_at hl 3 rfl) ?_
      refine lv_iconst (v := iv 5) hx hb dX7_let_68 rfl ?_
      refine lv_iload hx hb dX7_let_69 (lv_at hl 0 rfl) ?_
      have hpx_258 : μ246.1 26 11 = 0 → PXE μ μ246 P tt 0 (-1) 0 := fun h0 => (hpx_238 (by have h9 : μ227.1 26 11 = μ10.1 26 11 := ((F_229.1 26 (by decide) 11).trans ((F_218.1 26 (by decide) 11).trans (sv_n _ (fun h9 => absurd h9.1 (by decide))))); have h8 : μ246.1 26 11 = μ246.1 26 11 := rfl; omega)).fr (K := [26]) (Fr.tr Fr.rf F_247 (by decide)) (npL_p (L := [26]) (by decide) hprP).1 (npL_p (L := [26]) (by decide) hprP).2.1
      have e_259 : μ246.1 23 2 = P := ((F_247.1 23 (by decide) 2).trans (hs_232.trans ((F_218.1 23 (by decide) 2).trans ((sv_n _ (by decide)).trans ((F_11.1 23 (by decide) 2).trans hP.symm)))))
      have e_260 : μ246.1 23 8 = tt := ((F_247.1 23 (by decide) 8).trans (hs_235.trans ((F_218.1 23 (by decide) 8).trans ((sv_n _ (by decide)).trans ((F_11.1 23 (by decide) 8).trans htt.symm)))))
      have e_261 : μ246.1 P 1 = μ.1 P 1 := ((F_247.1 P (ni hprP (fun P => P) (fun P => [26]) rfl) 1).trans ((F_229.1 P (ni hprP (fun P => P) (fun P => [25, 23]) rfl) 1).trans ((F_218.1 P (ni hprP (fun P => P) (fun P => [24]) rfl) 1).trans ((sv_n _ (by omega)).trans (F_11.1 P (ni hprP (fun P => P) (fun P => [26]) rfl) 1)))))
      have hk_262 := hI.row (r := P + 2) (hprP.row)
      unfold rk at hk_262
      have e_263 : μ246.1 (P + 2) 3 = μ.1 (P + 2) 3 := ((F_247.1 (P + 2) (ni hprP (fun P => P + 2) (fun P => [26]) rfl) 3).trans ((F_229.1 (P + 2) (ni hprP (fun P => P + 2) (fun P => [25, 23]) rfl) 3).trans ((F_218.1 (P + 2) (ni hprP (fun P => P + 2) (fun P => [24]) rfl) 3).trans ((sv_n _ (by omega)).trans (F_11.1 (P + 2) (ni hprP (fun P => P + 2) (fun P => [26]) rfl) 3)))))
      have e_264 : μ246.1 P 1 = μ.1 P 1 := ((F_247.1 P (ni hprP (fun P => P) (fun P => [26]) rfl) 1).trans ((F_229.1 P (ni hprP (fun P => P) (fun P => [25, 23]) rfl) 1).trans ((F_218.1 P (ni hprP (fun P => P) (fun P => [24]) rfl) 1).trans ((sv_n _ (by omega)).trans (F_11.1 P (ni hprP (fun P => P) (fun P => [26]) rfl) 1)))))
      have e_265 : μ246.1 23 9 = μ.1 23 9 := ((F_247.1 23 (by decide) 9).trans (hs_236.trans ((F_218.1 23 (by decide) 9).trans ((sv_n _ (by decide)).trans (F_11.1 23 (by decide) 9)))))
      have e_266 : μ246.1 23 9 = μ.1 23 9 := ((F_247.1 23 (by decide) 9).trans (hs_236.trans ((F_218.1 23 (by decide) 9).trans ((sv_n _ (by decide)).trans (F_11.1 23 (by decide) 9)))))
      have e_267 : μ246.1 P 1 = μ.1 P 1 := ((F_247.1 P (ni hprP (fun P => P) (fun P => [26]) rfl) 1).trans ((F_229.1 P (ni hprP (fun P => P) (fun P => [25, 23]) rfl) 1).trans ((F_218.1 P (ni hprP (fun P => P) (fun P => [24]) rfl) 1).trans ((sv_n _ (by omega)).trans (F_11.1 P (ni hprP (fun P => P) (fun P => [26]) rfl) 1)))))
      have e_268 : μ246.1 P 1 = μ.1 P 1 := ((F_247.1 P (ni hprP (fun P => P) (fun P => [26]) rfl) 1).trans ((F_229.1 P (ni hprP (fun P => P) (fun P => [25, 23]) rfl) 1).trans ((F_218.1 P (ni hprP (fun P => P) (fun P => [24]) rfl) 1).trans ((sv_n _ (by omega)).trans (F_11.1 P (ni hprP (fun P => P) (fun P => [26]) rfl) 1)))))
      have e_269 : μ246.1 (P + 2) 3 = μ.1 (P + 2) 3 := ((F_247.1 (P + 2) (ni hprP (fun P => P + 2) (fun P => [26]) rfl) 3).trans ((F_229.1 (P + 2) (ni hprP (fun P => P + 2) (fun P => [25, 23]) rfl) 3).trans ((F_218.1 (P + 2) (ni hprP (fun P => P + 2) (fun P => [24]) rfl) 3).trans ((sv_n _ (by omega)).trans (F_11.1 (P + 2) (ni hprP (fun P => P + 2) (fun P => [26]) rfl) 3)))))
      have e_270 : μ246.1 P 1 = μ.1 P 1 := ((F_247.1 P (ni hprP (fun P => P) (fun P => [26]) rfl) 1).trans ((F_229.1 P (ni hprP (fun P => P) (fun P => [25, 23]) rfl) 1).trans ((F_218.1 P (ni hprP (fun P => P) (fun P => [24]) rfl) 1).trans ((sv_n _ (by omega)).trans (F_11.1 P (ni hprP (fun P => P) (fun P => [26]) rfl) 1)))))
      have e_271 : μ246.1 (P + 2) 3 = μ.1 (P + 2) 3 := ((F_247.1 (P + 2) (ni hprP (fun P => P + 2) (fun P => [26]) rfl) 3).trans ((F_229.1 (P + 2) (ni hprP (fun P => P + 2) (fun P => [25, 23]) rfl) 3).trans ((F_218.1 (P + 2) (ni hprP (fun P => P + 2) (fun P => [24]) rfl) 3).trans ((sv_n _ (by omega)).trans (F_11.1 (P + 2) (ni hprP (fun P => P + 2) (fun P => [26]) rfl) 3)))))
      have e_272 : μ246.1 23 2 = P := ((F_247.1 23 (by decide) 2).trans (hs_232.trans ((F_218.1 23 (by decide) 2).trans ((sv_n _ (by decide)).trans ((F_11.1 23 (by decide) 2).trans hP.symm)))))
      have hn_273 : 0 ≤ μ227.1 23 5 ∧ μ227.1 23 5 ≤ 1000 := hI_230.nm.2.2.2.2.2.2.2.2.1
      have e_274 : μ246.1 23 5 = μ227.1 23 5 := (F_247.1 23 (by decide) 5)
      have e_275 : μ246.1 23 6 = y_120 := ((F_247.1 23 (by decide) 6).trans (hs_233.trans ((F_218.1 23 (by decide) 6).trans (sv_s _ _ _ _))))
      have e_276 : μ246.1 23 7 = μ.1 23 7 := ((F_247.1 23 (by decide) 7).trans (hs_234.trans ((F_218.1 23 (by decide) 7).trans ((sv_n _ (by decide)).trans (F_11.1 23 (by decide) 7)))))
      have e_277 : μ246.1 23 8 = tt := ((F_247.1 23 (by decide) 8).trans (hs_235.trans ((F_218.1 23 (by decide) 8).trans ((sv_n _ (by decide)).trans ((F_11.1 23 (by decide) 8).trans htt.symm)))))
      have e_278 : μ246.1 23 9 = μ.1 23 9 := ((F_247.1 23 (by decide) 9).trans (hs_236.trans ((F_218.1 23 (by decide) 9).trans ((sv_n _ (by decide)).trans (F_11.1 23 (by decide) 9)))))
      have e_279 : μ246.1 23 10 = μ.1 23 10 := ((F_247.1 23 (by decide) 10).trans (hs_237.trans ((F_218.1 23 (by decide) 10).trans ((sv_n _ (by decide)).trans (F_11.1 23 (by decide) 10)))))
      have e_280 : μ246.1 26 6 = μ.1 26 6 := (hs_252.trans ((F_229.1 26 (by decide) 6).trans ((F_218.1 26 (by decide) 6).trans ((sv_n _ (fun h9 => absurd h9.1 (by decide))).trans hs_16))))
      have e_281 : μ246.1 P 7 = μ.1 P 7 := ((F_247.1 P (ni hprP (fun P => P) (fun P => [26]) rfl) 7).trans ((F_229.1 P (ni hprP (fun P => P) (fun P => [25, 23]) rfl) 7).trans ((F_218.1 P (ni hprP (fun P => P) (fun P => [24]) rfl) 7).trans ((sv_n _ (by omega)).trans (F_11.1 P (ni hprP (fun P => P) (fun P => [26]) rfl) 7)))))
      refine xc_vV G (b := 23) (rest := []) (As := [.int (iv 5), .int (iv r_228)]) (c_X7_withExpression ω l μ246 5 r_228 P tt (by unfold ir; omega) (by unfold ir; omega) hI_248 (by omega) (by omega) hp_249 (by omega) (by omega) (by omega) (by omega) (Or.inl (by unfold plain; omega)) (fun h0 => by rw [show eff 5 r_228 = -1 from rfl]; have h9 := (hpx_258 h0).h; omega)) (wm 3 239 rfl rfl) (wm 4 1 rfl rfl) (wm 0 23 rfl rfl) rfl rfl (by decide) rfl (wm 1 12 rfl rfl) (wm 4 2 rfl rfl) (by decide) hR (by decide) (n := 2) rfl rfl (Nat.le_of_ble_eq_true rfl) hl.1 dX7_let_71 (fun μ282 ρ d0 H locs hp G => ?_)
      obtain ⟨F_283, hI_284, hp_285, hp_286, hp_287, hp_288, hp_289, hp_290, hs_291, hs_292, hs_293, hs_294, hs_295, hs_296, hs_297, hs_298, hs_299⟩ := hp
      have hn_300 : -1 ≤ μ282.1 26 10 ∧ μ282.1 26 10 ≤ 3000 := hI_284.nm.2.2.2.2.2.2.2.2.2.2.2.2
      have hk_301 := hI_284.pr (p := P) hprP
      unfold pk at hk_301
      have hc_302 : 16 ≤ μ282.2.1 (P + 1) ∧ μ282.2.1 (P + 1) ≤ 73024 := hI_284.rm.1 _ hprP.cap
      have hk_303 := hI_284.row (r := P + 2) (hprP.row)
      unfold rk at hk_303
      have htb_304 := hp_285.b
      have hpx_305 : μ282.1 26 11 = 0 → PXE μ μ282 P tt (0 + (1 + eff 5 r_228)) (-1) 0 := fun h0 => (PXE.app (hpx_258 (by have h9 : μ246.1 26 11 = μ246.1 26 11 := rfl; have h8 : μ282.1 26 11 = μ282.1 26 11 := rfl; omega)) (hp_290 h0)).e (by omega)
      have hpx_306 : μ282.1 26 11 = 0 → PXE μ μ282 P tt (0 + (1 + -1)) (-1) 0 := hpx_305
      have e_307 : μ282.1 23 2 = P := (hs_291.trans ((F_247.1 23 (by decide) 2).trans (hs_232.trans ((F_218.1 23 (by decide) 2).trans ((sv_n _ (by decide)).trans ((F_11.1 23 (by decide) 2).trans hP.symm))))))
      have e_308 : μ282.1 23 7 = μ.1 23 7 := (hs_294.trans ((F_247.1 23 (by decide) 7).trans (hs_234.trans ((F_218.1 23 (by decide) 7).trans ((sv_n _ (by decide)).trans (F_11.1 23 (by decide) 7))))))
      have e_309 : μ282.1 23 8 = tt := (hs_295.trans ((F_247.1 23 (by decide) 8).trans (hs_235.trans ((F_218.1 23 (by decide) 8).trans ((sv_n _ (by decide)).trans ((F_11.1 23 (by decide) 8).trans htt.symm))))))
      have e_310 : μ282.1 23 9 = μ.1 23 9 := (hs_296.trans ((F_247.1 23 (by decide) 9).trans (hs_236.trans ((F_218.1 23 (by decide) 9).trans ((sv_n _ (by decide)).trans (F_11.1 23 (by decide) 9))))))
      have e_311 : μ282.1 26 6 = μ.1 26 6 := (hs_298.trans (hs_252.trans ((F_229.1 26 (by decide) 6).trans ((F_218.1 26 (by decide) 6).trans ((sv_n _ (fun h9 => absurd h9.1 (by decide))).trans hs_16)))))
      have e_312 : μ282.1 P 7 = μ.1 P 7 := (hs_299.trans ((F_247.1 P (ni hprP (fun P => P) (fun P => [26]) rfl) 7).trans ((F_229.1 P (ni hprP (fun P => P) (fun P => [25, 23]) rfl) 7).trans ((F_218.1 P (ni hprP (fun P => P) (fun P => [24]) rfl) 7).trans ((sv_n _ (by omega)).trans (F_11.1 P (ni hprP (fun P => P) (fun P => [26]) rfl) 7))))))
      exact xr_v G hret hlk dX7_let_74 ⟨(Fr.tr (Fr.tr (Fr.tr (Fr.tr (Fr.put (Fr.tr Fr.rf F_11 (si hprP (fun P => [26]) (fun P => [2, 3, 4, 23, 24, 25, 26, P, P + 1, P + 2, (P + 2) + 1, (P + 2) + 2, (P + 2) + 3]) rfl)) (si hprP (fun P => [23]) (fun P => [2, 3, 4, 23, 24, 25, 26, P, P + 1, P + 2, (P + 2) + 1, (P + 2) + 2, (P + 2) + 3]) rfl 23 (List.mem_singleton.2 rfl))) F_218 (si hprP (fun P => [24]) (fun P => [2, 3, 4, 23, 24, 25, 26, P, P + 1, P + 2, (P + 2) + 1, (P + 2) + 2, (P + 2) + 3]) rfl)) F_229 (si hprP (fun P => [25, 23]) (fun P => [2, 3, 4, 23, 24, 25, 26, P, P + 1, P + 2, (P + 2) + 1, (P + 2) + 2, (P + 2) + 3]) rfl)) F_247 (si hprP (fun P => [26]) (fun P => [2, 3, 4, 23, 24, 25, 26, P, P + 1, P + 2, (P + 2) + 1, (P + 2) + 2, (P + 2) + 3]) rfl)) F_283 (si hprP (fun P => [2, 3, 4, 23, 24, 26, P, P + 1, P + 2, (P + 2) + 1, (P + 2) + 2, (P + 2) + 3]) (fun P => [2, 3, 4, 23, 24, 25, 26, P, P + 1, P + 2, (P + 2) + 1, (P + 2) + 2, (P + 2) + 3]) rfl)), hI_284, hp_285, (by omega), (by omega), (by omega), (by omega), (fun h0 => (PXE.ex (hpx_306 h0)).e (by omega)), (by omega), (by omega), (by omega), (by omega), (by omega), (by omega)⟩
