theorem dX7_expression_0 : decode cX7_expression 0 = .ok (.aload_n 0, 1) := by decide +kernel
theorem dX7_expression_1 : decode cX7_expression 1 = .ok (.iload_n 1, 1) := by decide +kernel
theorem dX7_expression_2 : decode cX7_expression 2 = .ok (.invokevirtual 267, 3) := by decide +kernel
theorem dX7_expression_5 : decode cX7_expression 5 = .ok (.aload_n 0, 1) := by decide +kernel
theorem dX7_expression_6 : decode cX7_expression 6 = .ok (.getfield 29, 3) := by decide +kernel
theorem dX7_expression_9 : decode cX7_expression 9 = .ok (.iconst 2, 1) := by decide +kernel
theorem dX7_expression_10 : decode cX7_expression 10 = .ok (.if_icmp .ne 59, 3) := by decide +kernel
theorem dX7_expression_13 : decode cX7_expression 13 = .ok (.aload_n 0, 1) := by decide +kernel
theorem dX7_expression_14 : decode cX7_expression 14 = .ok (.getfield 43, 3) := by decide +kernel
theorem dX7_expression_17 : decode cX7_expression 17 = .ok (.getfield 80, 3) := by decide +kernel
theorem dX7_expression_20 : decode cX7_expression 20 = .ok (.sipush 205, 3) := by decide +kernel
theorem dX7_expression_23 : decode cX7_expression 23 = .ok (.if_icmp .ne 46, 3) := by decide +kernel
theorem dX7_expression_26 : decode cX7_expression 26 = .ok (.aload_n 0, 1) := by decide +kernel
theorem dX7_expression_27 : decode cX7_expression 27 = .ok (.sipush 205, 3) := by decide +kernel
theorem dX7_expression_30 : decode cX7_expression 30 = .ok (.invokevirtual 164, 3) := by decide +kernel
theorem dX7_expression_33 : decode cX7_expression 33 = .ok (.aload_n 0, 1) := by decide +kernel
theorem dX7_expression_34 : decode cX7_expression 34 = .ok (.bipush 27, 2) := by decide +kernel
theorem dX7_expression_36 : decode cX7_expression 36 = .ok (.iconst 0, 1) := by decide +kernel
theorem dX7_expression_37 : decode cX7_expression 37 = .ok (.iconst 0, 1) := by decide +kernel
theorem dX7_expression_38 : decode cX7_expression 38 = .ok (.invokevirtual 157, 3) := by decide +kernel
theorem dX7_expression_41 : decode cX7_expression 41 = .ok (.istore_n 2, 1) := by decide +kernel
theorem dX7_expression_42 : decode cX7_expression 42 = .ok (.aload_n 0, 1) := by decide +kernel
theorem dX7_expression_43 : decode cX7_expression 43 = .ok (.iconst 0, 1) := by decide +kernel
theorem dX7_expression_44 : decode cX7_expression 44 = .ok (.invokevirtual 216, 3) := by decide +kernel
theorem dX7_expression_47 : decode cX7_expression 47 = .ok (.aload_n 0, 1) := by decide +kernel
theorem dX7_expression_48 : decode cX7_expression 48 = .ok (.dup, 1) := by decide +kernel
theorem dX7_expression_49 : decode cX7_expression 49 = .ok (.getfield 32, 3) := by decide +kernel
theorem dX7_expression_52 : decode cX7_expression 52 = .ok (.iconst 1, 1) := by decide +kernel
theorem dX7_expression_53 : decode cX7_expression 53 = .ok (.isub, 1) := by decide +kernel
theorem dX7_expression_54 : decode cX7_expression 54 = .ok (.putfield 32, 3) := by decide +kernel
theorem dX7_expression_57 : decode cX7_expression 57 = .ok (.aload_n 0, 1) := by decide +kernel
theorem dX7_expression_58 : decode cX7_expression 58 = .ok (.getfield 51, 3) := by decide +kernel
theorem dX7_expression_61 : decode cX7_expression 61 = .ok (.iload_n 2, 1) := by decide +kernel
theorem dX7_expression_62 : decode cX7_expression 62 = .ok (.aload_n 0, 1) := by decide +kernel
theorem dX7_expression_63 : decode cX7_expression 63 = .ok (.invokevirtual 244, 3) := by decide +kernel
theorem dX7_expression_66 : decode cX7_expression 66 = .ok (.invokevirtual 115, 3) := by decide +kernel
theorem dX7_expression_69 : decode cX7_expression 69 = .ok (.return_, 1) := by decide +kernel
/-- IF_WELL, and the expression that it may jump over -/
theorem EX.well {μo μ μ1 μ2 μ3 : M3} {P t e : Int} (h : EX μo μ P t e 0) (g : AD μ μ1 P 27 0 0) (k : EX μ1 μ2 P t 1 0) (m : MF μ2 μ3 P (μ.1 P 1) (μ2.1 P 1)) (h2 : 2 ≤ hs μ P (μ.1 P 1)) : EX μo μ3 P t e 0 := by
  have E1 := g.1
  have E2 := k.1
  have h0 : 0 ≤ μ.1 P 1 := by have := h.1.1; have := h.2.1.1; omega
  have q1 : cdp μ1 P (μ.1 P 1) 0 = 27 := g.2.2.1
  have l1 : μ1.1 P 1 = μ.1 P 1 + 1 := g.2.1
  have l2 : μ1.1 P 1 ≤ μ2.1 P 1 := E2.1
  have q2 : cdp μ2 P (μ.1 P 1) 0 = 27 := by rw [E2.2 _ 0 k0 (by omega)]; exact q1
  have hq : cdp μ2 P (μ.1 P 1) 0 ≠ 13 ∧ cdp μ2 P (μ.1 P 1) 0 ≠ 14 := by rw [q2]; decide
  have z := m.fo (t := t) hq
  have q3 : cdp μ3 P (μ.1 P 1) 0 = 27 := by rw [m.2.2.2 _ 0 k0 (fun w => absurd w.2 (by decide))]; exact q2
  have l3 : μ3.1 P 1 = μ2.1 P 1 := m.1
  -- the first part
  have s1 : Sg μ3 P t (μo.1 P 1) (μ.1 P 1) e 0 := SgX.kp h.2 ((E1.kp h.1.1 (Int.le_refl _)).tr ((E2.kp h.1.1 (by omega)).tr (m.kp hq (by omega))))
  -- the part that may be jumped over
  have s2 : Sg μ3 P t (μ.1 P 1 + 1) (μ2.1 P 1) 1 0 := by
    have := k.2
    rw [l1] at this
    exact SgX.kp this (m.kp hq (by omega))
  have e27 : eff (cdp μ3 P (μ.1 P 1) 0) (cdp μ3 P (μ.1 P 1) 1) = -1 := by rw [q3]; rfl
  have hh : hs μ3 P (μ.1 P 1) = hs μ P (μ.1 P 1) := by rw [(z _).1, (E2.fo (t := t) _ (by omega)).1, (E1.fo (t := t) _ (Int.le_refl _)).1]
  have one : SgX μ3 P t (μ.1 P 1) (μ.1 P 1 + 1) (-1) 0 (fun i => i = μ.1 P 1) := SgX.one h0 e27 (by omega) (by rw [q3]; rfl) (by rw [q3]; rfl) (Or.inl rfl)
  have s3 := SgX.app one s2
  have hT : hs μ3 P (μ2.1 P 1) = hs μ3 P (μ.1 P 1) := by have := s3.2.1; omega
  have s4 : Sg μ3 P t (μ.1 P 1) (μ2.1 P 1) 0 0 := by
    have s5 : SgX μ3 P t (μ.1 P 1) (μ2.1 P 1) 0 0 (fun i => i = μ.1 P 1) := s3.mn (Int.le_refl 0) (fun _ _ _ w => w.elim id (fun w => w.elim))
    refine s5.cl (fun i _ _ hi => ?_)
    rw [hi]
    unfold lcd
    rw [q3, m.2.2.1]
    refine ⟨fun q => absurd q (by decide), fun q => absurd q (by decide), fun q => absurd q (by decide), fun q => absurd q (by decide), fun q => absurd q (by decide), fun q => absurd q (by decide), fun _ => ⟨by omega, ⟨by omega, by omega, s5.2.2.1 (by omega)⟩, s5.2.2.2.1⟩, fun q => absurd q (by decide), fun q => absurd q (by decide), fun q => absurd q (by decide)⟩
  refine ⟨⟨by have := h.1.1; omega, fun i k hk hi => ?_⟩, ?_⟩
  · rw [m.2.2.2 i k hk (fun w => absurd w.1 (by have := h.1.1; omega)), E2.2 i k hk (by have := h.1.1; omega), E1.2 i k hk (by have := h.1.1; omega)]
    exact h.1.2 i k hk hi
  · rw [l3]
    have := Sg.app s1 s4
    rw [show e + 0 = e by omega] at this
    exact this
set_option maxHeartbeats 4000000 in
set_option maxRecDepth 100000 in
theorem c_X7_expression (ω : Om) (l : Launch) (μ : M3) (x1 : Int) (F : Nat) (Lo : Nat) (Fu : Nat) (Lu : Nat) (kf : Int) (P : Int) (tt : Int) (hx1 : x1 = 0 ∨ x1 = 1) (hI : IC μ) (hP : P = μ.1 23 2) (htt : tt = μ.1 23 8) (hF : 60 ≤ F) (hLo : 2000 ≤ Lo) (hFu : Fu ≤ F) (hLu : Lu ≤ Lo) (hE : ∀ (μ : M3) (x1 : Int) (P : Int) (tt : Int) (hx1 : x1 = 0 ∨ x1 = 1) (hI : IC μ) (hP : P = μ.1 23 2) (htt : tt = μ.1 23 8) (hTK : TK μ) (hB : 2 * μ.1 P 1 ≤ 5 * μ.1 26 10 + 200 + 80 * μ.1 26 11) (hKc : μ.1 (P + 2) 3 ≤ μ.1 P 1) (ht3 : 0 ≤ tt ∧ tt ≤ 3) (hdp : 0 ≤ μ.1 23 9 ∧ μ.1 23 9 ≤ 8 + μ.1 26 11) (hfu : 0 ≤ (kf - 1) ∧ 9 ≤ μ.1 23 9 + (kf - 1) + 20 * μ.1 26 11) (hbg : ∀ _ : Unit, x1 = 0 ∨ μ.1 26 11 ≠ 0 ∨ 2 ≤ hs μ P (μ.1 P 1)), CtV ω l yX7_expression cX7_expression 3 (F + 0) (Lo + 0) [.ref (oP ω 23), .int (iv x1)] μ (fun (μ' : M3) => (Fr [2, 3, 4, 23, 24, 26, P, P + 1, P + 2, (P + 2) + 1, (P + 2) + 2, (P + 2) + 3] μ μ') ∧ (IC μ') ∧ (TK μ') ∧ (μ.1 26 11 ≤ μ'.1 26 11) ∧ (μ.1 26 10 ≤ μ'.1 26 10) ∧ (μ.1 P 1 ≤ μ'.1 P 1 ∧ μ'.1 P 1 ≤ μ.1 P 1 + 2 * (μ'.1 26 10 - μ.1 26 10) + (- 1 + 3 * μ'.1 26 11 - 2 * μ.1 26 11 + x1)) ∧ (μ'.1 (P + 2) 3 - μ.1 (P + 2) 3 ≤ μ'.1 P 1 - μ.1 P 1 ∧ μ.1 (P + 2) 3 ≤ μ'.1 (P + 2) 3) ∧ (μ'.1 26 11 = 0 → EX μ μ' P tt (1 - x1) 0) ∧ (μ'.1 23 2 = μ.1 23 2) ∧ (μ'.1 23 5 = μ.1 23 5) ∧ (μ'.1 23 6 = μ.1 23 6) ∧ (μ'.1 23 7 = μ.1 23 7) ∧ (μ'.1 23 8 = μ.1 23 8) ∧ (μ'.1 23 9 = μ.1 23 9) ∧ (μ'.1 23 10 = μ.1 23 10) ∧ (μ'.1 26 6 = μ.1 26 6) ∧ (μ'.1 P 7 = μ.1 P 7))) (hU : ∀ (μ : M3) (x1 : Int) (P : Int) (tt : Int) (hx1 : x1 = 0 ∨ x1 = 1) (hI : IC μ) (hP : P = μ.1 23 2) (htt : tt = μ.1 23 8) (hTK : TK μ) (hB : 2 * μ.1 P 1 ≤ 5 * μ.1 26 10 + 200 + 80 * μ.1 26 11) (hKc : μ.1 (P + 2) 3 ≤ μ.1 P 1) (ht3 : 0 ≤ tt ∧ tt ≤ 3) (hdp : 0 ≤ μ.1 23 9 ∧ μ.1 23 9 ≤ 8 + μ.1 26 11) (hfu : 0 ≤ (kf - 1) ∧ 9 ≤ μ.1 23 9 + (kf - 1) + 20 * μ.1 26 11) (hbg : ∀ _ : Unit, x1 = 0 ∨ μ.1 26 11 ≠ 0 ∨ 2 ≤ hs μ P (μ.1 P 1)), CtV ω l yX7_unary cX7_unary 2 (Fu + 0) (Lu + 0) [.ref (oP ω 23), .int (iv x1)] μ (fun (μ' : M3) => (Fr [2, 3, 4, 23, 24, 26, P, P + 1, P + 2, (P + 2) + 1, (P + 2) + 2, (P + 2) + 3] μ μ') ∧ (IC μ') ∧ (TK μ') ∧ (μ.1 26 11 ≤ μ'.1 26 11) ∧ (μ.1 26 10 ≤ μ'.1 26 10) ∧ (μ.1 P 1 ≤ μ'.1 P 1 ∧ μ'.1 P 1 ≤ μ.1 P 1 + 2 * (μ'.1 26 10 - μ.1 26 10) + (- 1 + 3 * μ'.1 26 11 - 2 * μ.1 26 11 + x1)) ∧ (μ'.1 (P + 2) 3 - μ.1 (P + 2) 3 ≤ μ'.1 P 1 - μ.1 P 1 ∧ μ.1 (P + 2) 3 ≤ μ'.1 (P + 2) 3) ∧ (μ'.1 26 11 = 0 → EX μ μ' P tt (1 - x1) 0) ∧ (μ'.1 23 2 = μ.1 23 2) ∧ (μ'.1 23 5 = μ.1 23 5) ∧ (μ'.1 23 6 = μ.1 23 6) ∧ (μ'.1 23 7 = μ.1 23 7) ∧ (μ'.1 23 8 = μ.1 23 8) ∧ (μ'.1 23 9 = μ.1 23 9) ∧ (μ'.1 23 10 = μ.1 23 10) ∧ (μ'.1 26 6 = μ.1 26 6) ∧ (μ'.1 P 7 = μ.1 P 7))) (hTK : TK μ) (hB : 2 * μ.1 P 1 ≤ 5 * μ.1 26 10 + 200 + 80 * μ.1 26 11) (hKc : μ.1 (P + 2) 3 ≤ μ.1 P 1) (ht3 : 0 ≤ tt ∧ tt ≤ 3) (hdp : 0 ≤ μ.1 23 9 ∧ μ.1 23 9 ≤ 8 + μ.1 26 11) (hfu : 0 ≤ kf ∧ 9 ≤ μ.1 23 9 + kf + 20 * μ.1 26 11) (hbg : ∀ _ : Unit, x1 = 0 ∨ μ.1 26 11 ≠ 0 ∨ 2 ≤ hs μ P (μ.1 P 1)) : CtV ω l yX7_expression cX7_expression 3 (F + 9) (Lo + 206) [.ref (oP ω 23), .int (iv x1)] μ (fun (μ' : M3) => (Fr [2, 3, 4, 23, 24, 26, P, P + 1, P + 2, (P + 2) + 1, (P + 2) + 2, (P + 2) + 3] μ μ') ∧ (IC μ') ∧ (TK μ') ∧ (μ.1 26 11 ≤ μ'.1 26 11) ∧ (μ.1 26 10 ≤ μ'.1 26 10) ∧ (μ.1 P 1 ≤ μ'.1 P 1 ∧ μ'.1 P 1 ≤ μ.1 P 1 + 2 * (μ'.1 26 10 - μ.1 26 10) + (- 1 + 3 * μ'.1 26 11 - 2 * μ.1 26 11 + x1)) ∧ (μ'.1 (P + 2) 3 - μ.1 (P + 2) 3 ≤ μ'.1 P 1 - μ.1 P 1 ∧ μ.1 (P + 2) 3 ≤ μ'.1 (P + 2) 3) ∧ (μ'.1 26 11 = 0 → EX μ μ' P tt (1 - x1) 0) ∧ (μ'.1 23 2 = μ.1 23 2) ∧ (μ'.1 23 5 = μ.1 23 5) ∧ (μ'.1 23 6 = μ.1 23 6) ∧ (μ'.1 23 7 = μ.1 23 7) ∧ (μ'.1 23 8 = μ.1 23 8) ∧ (μ'.1 23 9 = μ.1 23 9) ∧ (μ'.1 23 10 = μ.1 23 10) ∧ (μ'.1 26 6 = μ.1 26 6) ∧ (μ'.1 P 7 = μ.1 P 7)) := by
  refine CtV.go (by decide) (Nat.le_of_ble_eq_true rfl) (fun ρ p e s m below meth c R ls G hR hret hlk hl => ?_)
  have hx := G.1.1
  have hb := G.1.2.1
  have hl : lv_has ls 3 [(0, .ref (oP ω 23)), (1, .int (iv x1))] := hl
  generalize s.drawn = d0 at G ⊢
  have hTKb := hTK.b
  have hprP : isPr P := by have h9 := G.sr0.2.2.2.2.2; rw [← hP] at h9; exact h9
  have hprP_d : 13 ≤ P ∧ P ≤ 101 := by rcases hprP with h9 | h9 | h9 | h9 | h9 <;> omega
  have hk_1 := hI.pr (p := P) hprP
  unfold pk at hk_1
  have hc_2 : 16 ≤ μ.2.1 (P + 1) ∧ μ.2.1 (P + 1) ≤ 73024 := hI.rm.1 _ hprP.cap
  have hx1l : 0 ≤ x1 ∧ x1 ≤ 1 := by omega
  clear hx1
  have hnil : μ.1 26 11 = 0 → PXE μ μ P tt 0 (-1) (1 - x1) := fun _ => PXE.nil (by omega)
  refine lv_aload_n hx hb dX7_expression_0 rfl (lv_at hl 0 rfl) ?_
  refine lv_iload_n hx hb dX7_expression_1 rfl (lv_at hl 1 rfl) ?_
  have e_3 : μ.1 23 2 = P := hP.symm
  have e_4 : μ.1 23 8 = tt := htt.symm
  have hn_5 : -1 ≤ μ.1 26 10 ∧ μ.1 26 10 ≤ 3000 := hI.nm.2.2.2.2.2.2.2.2.2.2.2.2
  have hk_6 := hI.row (r := P + 2) (hprP.row)
  unfold rk at hk_6
  refine xc_vV G (b := 23) (rest := []) (As := [.int (iv x1)]) (c_X7_comparison ω l μ x1 F Lo Fu Lu kf P tt (by omega) hI (by omega) (by omega) hF hLo hFu hLu hE hU hTK (by omega) (by omega) (by omega) (by omega) (by omega) hbg) (wm 4 7 rfl rfl) (wm 4 9 rfl rfl) (wm 0 25 rfl rfl) rfl rfl (by decide) rfl (wm 1 12 rfl rfl) (wm 4 10 rfl rfl) (by decide) hR ⟨sfr (F := F) (a := 8) (by decide), slo (L := Lo) (m := 4) (a := 183) (by decide)⟩ (n := 1) rfl rfl (Nat.le_of_ble_eq_true rfl) hl.1 dX7_expression_2 (fun μ7 ρ d0 H locs hp G => ?_)
  obtain ⟨F_8, hI_9, hp_10, hp_11, hp_12, hp_13, hp_14, hp_15, hs_16, hs_17, hs_18, hs_19, hs_20, hs_21, hs_22, hs_23, hs_24⟩ := hp
  have hn_25 : -1 ≤ μ7.1 26 10 ∧ μ7.1 26 10 ≤ 3000 := hI_9.nm.2.2.2.2.2.2.2.2.2.2.2.2
  have hk_26 := hI_9.pr (p := P) hprP
  unfold pk at hk_26
  have hc_27 : 16 ≤ μ7.2.1 (P + 1) ∧ μ7.2.1 (P + 1) ≤ 73024 := hI_9.rm.1 _ hprP.cap
  have hk_28 := hI_9.row (r := P + 2) (hprP.row)
  unfold rk at hk_28
  have htb_29 := hp_10.b
  have hpx_30 : μ7.1 26 11 = 0 → PXE μ μ7 P tt (0 + (1 - x1)) (-1) (1 - x1) := fun h0 => (PXE.app (hnil (by have h9 : μ.1 26 11 = μ.1 26 11 := rfl; have h8 : μ7.1 26 11 = μ7.1 26 11 := rfl; omega)) (hp_15 h0)).e (by omega)
  refine lv_aload_n hx hb dX7_expression_5 rfl (lv_at hl 0 rfl) ?_
  refine xa_geti G fd_X7 (a := 23) (x := tt) 8 rfl (by decide) rfl (wm 2 25 rfl rfl) ⟨rfl, rfl, rfl⟩ dX7_expression_6 rfl (hs_20.trans htt.symm) ?_
  have hr_31 : -2147483648 ≤ tt ∧ tt ≤ 2147483647 := by have h9 := G.hr (a := 23) (k := 8) rfl; rw [show μ7.1 23 8 = tt from (hs_20.trans htt.symm)] at h9; exact h9
  refine lv_iconst (v := iv 2) hx hb dX7_expression_9 rfl ?_
  refine xb_icmp_ne (tgt := 69) hx hb (by unfold ir; omega) (by unfold ir; omega) dX7_expression_10 (by decide) (fun c_10 => ?_) (fun c_10 => ?_)
  · exact xr_v G hret hlk dX7_expression_69 ⟨(Fr.tr Fr.rf F_8 (si hprP (fun P => [2, 3, 4, 23, 24, 26, P, P + 1, P + 2, (P + 2) + 1, (P + 2) + 2, (P + 2) + 3]) (fun P => [2, 3, 4, 23, 24, 26, P, P + 1, P + 2, (P + 2) + 1, (P + 2) + 2, (P + 2) + 3]) rfl)), hI_9, hp_10, (by omega), (by omega), (by omega), (by omega), (fun h0 => (PXE.ex (hpx_30 h0)).e (by omega)), ((hs_16.trans hP.symm)).trans hP, hs_17, hs_18, hs_19, ((hs_20.trans htt.symm)).trans htt, hs_21, hs_22, hs_23, hs_24⟩
  · refine lv_aload_n hx hb dX7_expression_13 rfl (lv_at hl 0 rfl) ?_
    refine xa_getr G fd_X7 (a := 23) (x := 26) 0 rfl (by decide) rfl (wm 2 17 rfl rfl) ⟨rfl, rfl, rfl⟩ dX7_expression_14 rfl (G.sk 23 rfl) (by decide) rfl ?_
    refine xa_getN G fd_X10 (host := "FourTongues") (a := 26) 12 rfl (by decide) (by decide) ⟨rfl, rfl, rfl⟩ dX7_expression_17 rfl (v := .int (iv (μ7.1 26 12))) (by rw [show μ7.1 26 12 = μ7.1 26 12 from rfl]; rfl) ?_
    have hr_32 : -2147483648 ≤ μ7.1 26 12 ∧ μ7.1 26 12 ≤ 2147483647 := by have h9 := G.hr (a := 26) (k := 12) rfl; exact h9
    refine lv_sipush (v := iv 205) hx hb dX7_expression_20 rfl ?_
    refine xb_icmp_ne (tgt := 69) hx hb (by unfold ir; omega) (by unfold ir; omega) dX7_expression_23 (by decide) (fun c_23 => ?_) (fun c_23 => ?_)
    · exact xr_v G hret hlk dX7_expression_69 ⟨(Fr.tr Fr.rf F_8 (si hprP (fun P => [2, 3, 4, 23, 24, 26, P, P + 1, P + 2, (P + 2) + 1, (P + 2) + 2, (P + 2) + 3]) (fun P => [2, 3, 4, 23, 24, 26, P, P + 1, P + 2, (P + 2) + 1, (P + 2) + 2, (P + 2) + 3]) rfl)), hI_9, hp_10, (by omega), (by omega), (by omega), (by omega), (fun h0 => (PXE.ex (hpx_30 h0)).e (by omega)), ((hs_16.trans hP.symm)).trans hP, hs_17, hs_18, hs_19, ((hs_20.trans htt.symm)).trans htt, hs_21, hs_22, hs_23, hs_24⟩
    · have hs0_ : μ7.1 26 11 = 0 := (hp_10).k.resolve_right (by omega)
      refine lv_aload_n hx hb dX7_expression_26 rfl (lv_at hl 0 rfl) ?_
      refine lv_sipush (v := iv 205) hx hb dX7_expression_27 rfl ?_
      have e_33 : μ7.1 23 9 = μ.1 23 9 := hs_21
      have e_34 : μ7.1 23 9 = μ.1 23 9 := hs_21
      have e_35 : μ7.1 23 9 = μ.1 23 9 := hs_21
      have e_36 : μ7.1 23 9 = μ.1 23 9 := hs_21
      refine xc_vV G (b := 23) (rest := []) (As := [.int (iv 205)]) (c_X7_needOpen_b ω l μ7 205 (by unfold ir; omega) hI_9 hp_10 (by omega) (by omega)) (wm 3 197 rfl rfl) (wm 3 199 rfl rfl) (wm 0 14 rfl rfl) rfl rfl (by decide) rfl (wm 1 12 rfl rfl) (wm 3 200 rfl rfl) (by decide) hR ⟨nfr hF (by decide), nlo hLo (by decide)⟩ (n := 1) rfl rfl (Nat.le_of_ble_eq_true rfl) hl.1 dX7_expression_30 (fun μ37 ρ d0 H locs hp G => ?_)
      obtain ⟨F_38, hI_39, hp_40, hp_41, hp_42, hp_43, hs_44, hs_45, hs_46, hs_47, hs_48, hs_49, hs_50, hs_51, hs_52, hs_53, hs_54⟩ := hp
      have hn_55 : -1 ≤ μ37.1 26 10 ∧ μ37.1 26 10 ≤ 3000 := hI_39.nm.2.2.2.2.2.2.2.2.2.2.2.2
      have htb_56 := hp_40.b
      refine lv_aload_n hx hb dX7_expression_33 rfl (lv_at hl 0 rfl) ?_
      refine lv_bipush (v := iv 27) hx hb dX7_expression_34 rfl ?_
      refine lv_iconst (v := iv 0) hx hb dX7_expression_36 rfl ?_
      refine lv_iconst (v := iv 0) hx hb dX7_expression_37 rfl ?_
      have hpx_57 : μ37.1 26 11 = 0 → PXE μ μ37 P tt (0 + (1 - x1)) (-1) (1 - x1) := fun h0 => (hpx_30 (by have h9 : μ7.1 26 11 = μ7.1 26 11 := rfl; have h8 : μ37.1 26 11 = μ37.1 26 11 := rfl; omega)).fr (K := [26, 23]) (Fr.tr Fr.rf F_38 (by decide)) (npL_p (L := [26, 23]) (by decide) hprP).1 (npL_p (L := [26, 23]) (by decide) hprP).2.1
      have e_58 : μ37.1 23 2 = P := (hs_49.trans (hs_16.trans hP.symm))
      have e_59 : μ37.1 P 1 = μ7.1 P 1 := (F_38.1 P (ni hprP (fun P => P) (fun P => [26, 23]) rfl) 1)
      have e_60 : μ37.1 P 1 = μ7.1 P 1 := (F_38.1 P (ni hprP (fun P => P) (fun P => [26, 23]) rfl) 1)
      have e_61 : μ37.1 P 1 = μ7.1 P 1 := (F_38.1 P (ni hprP (fun P => P) (fun P => [26, 23]) rfl) 1)
      refine xc_iV G (b := 23) (rest := []) (As := [.int (iv 27), .int (iv 0), .int (iv 0)]) (c_X7_add ω l μ37 27 0 0 P (by unfold ir; omega) (by unfold ir; omega) (by unfold ir; omega) hI_39 (by omega) (by omega)) (wm 3 226 rfl rfl) (wm 3 228 rfl rfl) (wm 0 21 rfl rfl) rfl rfl (by decide) rfl (wm 1 12 rfl rfl) (wm 3 229 rfl rfl) (by decide) hR ⟨nfr hF (by decide), nlo hLo (by decide)⟩ (n := 3) rfl rfl (Nat.le_of_ble_eq_true rfl) hl.1 dX7_expression_38 (fun r_63 μ62 ρ d0 H locs hr_r_63 hp G => ?_)
      have hr_r_63 : -2147483648 ≤ r_63 ∧ r_63 ≤ 2147483647 := hr_r_63
      obtain ⟨F_64, hI_65, hp_66, hp_67, hs_68, hs_69⟩ := hp
      refine lv_istore_n (lv' := [(2, .int (iv r_63)), (0, .ref (oP ω 23)), (1, .int (iv x1))]) hx hb dX7_expression_41 rfl hl (by decide) rfl (fun ls hl => ?_)
      refine lv_aload_n hx hb dX7_expression_42 rfl (lv_at hl 1 rfl) ?_
      refine lv_iconst (v := iv 0) hx hb dX7_expression_43 rfl ?_
      have e_70 : μ62.1 23 2 = P := ((F_64.1 23 (ni hprP (fun P => 23) (fun P => [P, P + 1]) rfl) 2).trans (hs_49.trans (hs_16.trans hP.symm)))
      have e_71 : μ62.1 23 8 = tt := ((F_64.1 23 (ni hprP (fun P => 23) (fun P => [P, P + 1]) rfl) 8).trans (hs_53.trans (hs_20.trans htt.symm)))
      have htk_72 : TK μ62 := hp_40.fr (K := [P, P + 1]) (Fr.tr Fr.rf F_64 (si hprP (fun P => [P, P + 1]) (fun P => [P, P + 1]) rfl)) (ni hprP (fun P => 26) (fun P => [P, P + 1]) rfl) (ni hprP (fun P => 28) (fun P => [P, P + 1]) rfl) (ni hprP (fun P => 29) (fun P => [P, P + 1]) rfl)
      have e_73 : μ62.1 P 1 = μ37.1 P 1 + 1 := hs_68
      have e_74 : μ62.1 26 10 = μ37.1 26 10 := (F_64.1 26 (ni hprP (fun P => 26) (fun P => [P, P + 1]) rfl) 10)
      have e_75 : μ62.1 26 11 = μ37.1 26 11 := (F_64.1 26 (ni hprP (fun P => 26) (fun P => [P, P + 1]) rfl) 11)
      have e_76 : μ62.1 (P + 2) 3 = μ7.1 (P + 2) 3 := ((F_64.1 (P + 2) (ni hprP (fun P => P + 2) (fun P => [P, P + 1]) rfl) 3).trans (F_38.1 (P + 2) (ni hprP (fun P => P + 2) (fun P => [26, 23]) rfl) 3))
      have e_77 : μ62.1 P 1 = μ37.1 P 1 + 1 := hs_68
      have e_78 : μ62.1 23 9 = μ7.1 23 9 + 1 := ((F_64.1 23 (ni hprP (fun P => 23) (fun P => [P, P + 1]) rfl) 9).trans hs_44)
      have e_79 : μ62.1 23 9 = μ7.1 23 9 + 1 := ((F_64.1 23 (ni hprP (fun P => 23) (fun P => [P, P + 1]) rfl) 9).trans hs_44)
      have e_80 : μ62.1 26 11 = μ37.1 26 11 := (F_64.1 26 (ni hprP (fun P => 26) (fun P => [P, P + 1]) rfl) 11)
      have e_81 : μ62.1 23 9 = μ7.1 23 9 + 1 := ((F_64.1 23 (ni hprP (fun P => 23) (fun P => [P, P + 1]) rfl) 9).trans hs_44)
      have e_82 : μ62.1 26 11 = μ37.1 26 11 := (F_64.1 26 (ni hprP (fun P => 26) (fun P => [P, P + 1]) rfl) 11)
      have e_83 : μ62.1 26 11 = μ37.1 26 11 := (F_64.1 26 (ni hprP (fun P => 26) (fun P => [P, P + 1]) rfl) 11)
      have e_84 : μ62.1 26 10 = μ37.1 26 10 := (F_64.1 26 (ni hprP (fun P => 26) (fun P => [P, P + 1]) rfl) 10)
      have e_85 : μ62.1 P 1 = μ37.1 P 1 + 1 := hs_68
      have e_86 : μ62.1 P 1 = μ37.1 P 1 + 1 := hs_68
      have e_87 : μ62.1 26 10 = μ37.1 26 10 := (F_64.1 26 (ni hprP (fun P => 26) (fun P => [P, P + 1]) rfl) 10)
      have e_88 : μ62.1 26 11 = μ37.1 26 11 := (F_64.1 26 (ni hprP (fun P => 26) (fun P => [P, P + 1]) rfl) 11)
      have e_89 : μ62.1 (P + 2) 3 = μ7.1 (P + 2) 3 := ((F_64.1 (P + 2) (ni hprP (fun P => P + 2) (fun P => [P, P + 1]) rfl) 3).trans (F_38.1 (P + 2) (ni hprP (fun P => P + 2) (fun P => [26, 23]) rfl) 3))
      have e_90 : μ62.1 P 1 = μ37.1 P 1 + 1 := hs_68
      have e_91 : μ62.1 (P + 2) 3 = μ7.1 (P + 2) 3 := ((F_64.1 (P + 2) (ni hprP (fun P => P + 2) (fun P => [P, P + 1]) rfl) 3).trans (F_38.1 (P + 2) (ni hprP (fun P => P + 2) (fun P => [26, 23]) rfl) 3))
      refine xc_vV G (b := 23) (rest := []) (As := [.int (iv 0)]) (((fun (_ : Om) (_ : Launch) => hE)) ω l μ62 0 P tt (by omega) hI_65 (by omega) (by omega) htk_72 (by omega) (by omega) (by omega) (by omega) (by omega) (fun _ => Or.inl (by omega))) (wm 4 3 rfl rfl) (wm 4 5 rfl rfl) (wm 0 24 rfl rfl) rfl rfl (by decide) rfl (wm 1 12 rfl rfl) (wm 4 6 rfl rfl) (by decide) hR ⟨sfr (F := F) (a := 0) (by decide), slo (L := Lo) (m := 3) (a := 0) (by decide)⟩ (n := 1) rfl rfl (Nat.le_of_ble_eq_true rfl) hl.1 dX7_expression_44 (fun μ92 ρ d0 H locs hp G => ?_)
      obtain ⟨F_93, hI_94, hp_95, hp_96, hp_97, hp_98, hp_99, hp_100, hs_101, hs_102, hs_103, hs_104, hs_105, hs_106, hs_107, hs_108, hs_109⟩ := hp
      have hn_110 : -1 ≤ μ92.1 26 10 ∧ μ92.1 26 10 ≤ 3000 := hI_94.nm.2.2.2.2.2.2.2.2.2.2.2.2
      have hk_111 := hI_94.pr (p := P) hprP
      unfold pk at hk_111
      have hc_112 : 16 ≤ μ92.2.1 (P + 1) ∧ μ92.2.1 (P + 1) ≤ 73024 := hI_94.rm.1 _ hprP.cap
      have hk_113 := hI_94.row (r := P + 2) (hprP.row)
      unfold rk at hk_113
      have htb_114 := hp_95.b
      refine lv_aload_n hx hb dX7_expression_47 rfl (lv_at hl 1 rfl) ?_
      refine lv_dup hx hb dX7_expression_48 rfl ?_
      refine xa_geti G fd_X7 (a := 23) (x := μ7.1 23 9 + 1) 9 rfl (by decide) rfl (wm 2 26 rfl rfl) ⟨rfl, rfl, rfl⟩ dX7_expression_49 rfl (hs_106.trans ((F_64.1 23 (ni hprP (fun P => 23) (fun P => [P, P + 1]) rfl) 9).trans hs_44)) ?_
      have hr_115 : -2147483648 ≤ μ7.1 23 9 + 1 ∧ μ7.1 23 9 + 1 ≤ 2147483647 := by have h9 := G.hr (a := 23) (k := 9) rfl; rw [show μ92.1 23 9 = μ7.1 23 9 + 1 from (hs_106.trans ((F_64.1 23 (ni hprP (fun P => 23) (fun P => [P, P + 1]) rfl) 9).trans hs_44))] at h9; exact h9
      refine lv_iconst (v := iv 1) hx hb dX7_expression_52 rfl ?_
      refine xb_isub hx hb dX7_expression_53 ?_
      refine xb_ti (y := μ7.1 23 9) (by omega) ?_
      refine xa_puti G fd_X7 (a := 23) (x := μ7.1 23 9) 9 (kz := 9) rfl rfl (by decide) rfl (by unfold ir; omega) (wm 2 26 rfl rfl) ⟨rfl, rfl, rfl, rfl⟩ rfl dX7_expression_54 rfl (fun H locs G => ?_)
      refine lv_aload_n hx hb dX7_expression_57 rfl (lv_at hl 1 rfl) ?_
      refine xa_getr G fd_X7 (a := 23) (x := P) 2 rfl (by decide) rfl (wm 2 19 rfl rfl) ⟨rfl, rfl, rfl⟩ dX7_expression_58 rfl ((sv_n _ (by decide)).trans (hs_101.trans ((F_64.1 23 (ni hprP (fun P => 23) (fun P => [P, P + 1]) rfl) 2).trans (hs_49.trans (hs_16.trans hP.symm))))) (by omega) (hprP.hq ω ρ) ?_
      refine lv_iload_n hx hb dX7_expression_61 rfl (lv_at hl 0 rfl) ?_
      refine lv_aload_n hx hb dX7_expression_62 rfl (lv_at hl 1 rfl) ?_
      have hI_116 : IC (sv μ92 23 9 (μ7.1 23 9)) := (IC.put hI_94 (by decide +kernel))
      have e_117 : (sv μ92 23 9 (μ7.1 23 9)).1 23 2 = P := ((sv_n _ (by decide)).trans (hs_101.trans ((F_64.1 23 (ni hprP (fun P => 23) (fun P => [P, P + 1]) rfl) 2).trans (hs_49.trans (hs_16.trans hP.symm)))))
      have e_118 : (sv μ92 23 9 (μ7.1 23 9)).1 P 1 = μ92.1 P 1 := (sv_n _ (by omega))
      refine xc_iV G (b := 23) (rest := [.int (iv r_63), .ref (oP ω P)]) (As := []) (c_X7_here ω l (sv μ92 23 9 (μ7.1 23 9)) P hI_116 (by omega)) (wm 4 31 rfl rfl) (wm 4 33 rfl rfl) (wm 0 31 rfl rfl) rfl rfl (by decide) rfl (wm 1 12 rfl rfl) (wm 4 34 rfl rfl) (by decide) hR ⟨nfr hF (by decide), nlo hLo (by decide)⟩ (n := 0) rfl rfl (Nat.le_of_ble_eq_true rfl) hl.1 dX7_expression_63 (fun r_120 μ119 ρ d0 H locs hr_r_120 hp G => ?_)
      have hr_r_120 : -2147483648 ≤ r_120 ∧ r_120 ≤ 2147483647 := hr_r_120
      obtain ⟨hsm_121, hp_122⟩ := hp
      have hsm_121 := Eq.symm hsm_121
      subst hsm_121
      have e_123 : (sv μ92 23 9 (μ7.1 23 9)).1 P 1 = μ92.1 P 1 := (sv_n _ (by omega))
      refine xc_vV G (b := P) (rest := []) (As := [.int (iv r_63), .int (iv r_120)]) (c_X8_setFirst ω l (sv μ92 23 9 (μ7.1 23 9)) P r_63 r_120 (μ92.1 P 1) hprP (by unfold ir; omega) (by unfold ir; omega) hI_116 (by omega)) (wm 4 51 rfl rfl) (wm 4 52 rfl rfl) (wm 4 53 rfl rfl) hprP.ly rfl (by decide) (hprP.hq ω ρ) (wm 1 9 rfl rfl) (wm 4 54 rfl rfl) (by decide) hR ⟨nfr hF (by decide), nlo hLo (by decide)⟩ (n := 2) rfl rfl (Nat.le_of_ble_eq_true rfl) hl.1 dX7_expression_66 (fun μ124 ρ d0 H locs hp G => ?_)
      obtain ⟨F_125, hI_126, hp_127, hp_128, ha_129⟩ := hp
      have htk_130 : TK μ124 := hp_95.fr (K := [P + 1, 23]) (Fr.tr (Fr.put Fr.rf (si hprP (fun P => [23]) (fun P => [P + 1, 23]) rfl 23 (List.mem_singleton.2 rfl))) F_125 (si hprP (fun P => [P + 1]) (fun P => [P + 1, 23]) rfl)) (ni hprP (fun P => 26) (fun P => [P + 1, 23]) rfl) (ni hprP (fun P => 28) (fun P => [P + 1, 23]) rfl) (ni hprP (fun P => 29) (fun P => [P + 1, 23]) rfl)
      have e_131 : μ124.1 26 11 = μ92.1 26 11 := ((F_125.1 26 (ni hprP (fun P => 26) (fun P => [P + 1]) rfl) 11).trans (sv_n _ (fun h9 => absurd h9.1 (by decide))))
      have hty_ : μ124.1 26 11 = 0 → EX μ μ124 P tt (1 - x1) 0 := by
        intro h0
        have ha2 : μ37.1 26 11 = μ37.1 26 11 := rfl
        have ha4 : μ92.1 26 11 = μ92.1 26 11 := rfl
        have ha5 : (sv μ92 23 9 (μ7.1 23 9)).1 26 11 = μ92.1 26 11 := (sv_n _ (fun h9 => absurd h9.1 (by decide)))
        have ha6 : μ124.1 26 11 = μ92.1 26 11 := ((F_125.1 26 (ni hprP (fun P => 26) (fun P => [P + 1]) rfl) 11).trans (sv_n _ (fun h9 => absurd h9.1 (by decide))))
        have hex := (PXE.ex (hpx_57 (by omega))).e (f := 1 - x1) (by omega)
        have hh2 := hex.h
        have hh1 := hs_1 (μ := μ) (P := P) (i := μ.1 P 1)
        have h2 : 2 ≤ hs μ37 P (μ37.1 P 1) := by
          rcases hbg () with q | q | q
          · omega
          · exact absurd (show μ.1 26 11 = 0 by omega) q
          · omega
        have hl2 : μ37.1 P 1 = μ7.1 P 1 := (F_38.1 P (ni hprP (fun P => P) (fun P => [26, 23]) rfl) 1)
        have hl5 : (sv μ92 23 9 (μ7.1 23 9)).1 P 1 = μ92.1 P 1 := (sv_n _ (by omega))
        have hl6 : μ124.1 P 1 = μ92.1 P 1 := ((F_125.1 P (ni hprP (fun P => P) (fun P => [P + 1]) rfl) 1).trans (sv_n _ (by omega)))
        have hF5 : Fr [23] μ92 (sv μ92 23 9 (μ7.1 23 9)) := (Fr.put Fr.rf (by decide))
        have hk5 := (((hp_100 (by omega)).e (f := 1) (by omega)).fr hF5 (npL_p (L := [23]) (by decide) hprP).1 (npL_p (L := [23]) (by decide) hprP).2.1)
        refine EX.well hex hp_67 hk5 ?_ h2
        rcases hp_128 with ⟨q1, q2, q3⟩ | ⟨q1, q2⟩
        · have hm := MF.of (μ := (sv μ92 23 9 (μ7.1 23 9))) (ν := μ124) (P := P) (by omega) ⟨q1, by omega⟩ q3 ha_129
          rw [show r_63 = μ37.1 P 1 by omega, show r_120 = (sv μ92 23 9 (μ7.1 23 9)).1 P 1 by omega] at hm
          exact hm
        · exfalso; omega
      have e_132 : μ124.1 26 11 = μ92.1 26 11 := ((F_125.1 26 (ni hprP (fun P => 26) (fun P => [P + 1]) rfl) 11).trans (sv_n _ (fun h9 => absurd h9.1 (by decide))))
      have e_133 : μ124.1 26 10 = μ92.1 26 10 := ((F_125.1 26 (ni hprP (fun P => 26) (fun P => [P + 1]) rfl) 10).trans (sv_n _ (fun h9 => absurd h9.1 (by decide))))
      have e_134 : μ124.1 P 1 = μ92.1 P 1 := ((F_125.1 P (ni hprP (fun P => P) (fun P => [P + 1]) rfl) 1).trans (sv_n _ (by omega)))
      have e_135 : μ124.1 P 1 = μ92.1 P 1 := ((F_125.1 P (ni hprP (fun P => P) (fun P => [P + 1]) rfl) 1).trans (sv_n _ (by omega)))
      have e_136 : μ124.1 26 10 = μ92.1 26 10 := ((F_125.1 26 (ni hprP (fun P => 26) (fun P => [P + 1]) rfl) 10).trans (sv_n _ (fun h9 => absurd h9.1 (by decide))))
      have e_137 : μ124.1 26 11 = μ92.1 26 11 := ((F_125.1 26 (ni hprP (fun P => 26) (fun P => [P + 1]) rfl) 11).trans (sv_n _ (fun h9 => absurd h9.1 (by decide))))
      have e_138 : μ124.1 (P + 2) 3 = μ92.1 (P + 2) 3 := ((F_125.1 (P + 2) (ni hprP (fun P => P + 2) (fun P => [P + 1]) rfl) 3).trans (sv_n _ (by omega)))
      have e_139 : μ124.1 P 1 = μ92.1 P 1 := ((F_125.1 P (ni hprP (fun P => P) (fun P => [P + 1]) rfl) 1).trans (sv_n _ (by omega)))
      have e_140 : μ124.1 (P + 2) 3 = μ92.1 (P + 2) 3 := ((F_125.1 (P + 2) (ni hprP (fun P => P + 2) (fun P => [P + 1]) rfl) 3).trans (sv_n _ (by omega)))
      have e_141 : μ124.1 23 9 = μ7.1 23 9 := ((F_125.1 23 (ni hprP (fun P => 23) (fun P => [P + 1]) rfl) 9).trans (sv_s _ _ _ _))
      exact xr_v G hret hlk dX7_expression_69 ⟨(Fr.tr (Fr.put (Fr.tr (Fr.tr (Fr.tr (Fr.tr Fr.rf F_8 (si hprP (fun P => [2, 3, 4, 23, 24, 26, P, P + 1, P + 2, (P + 2) + 1, (P + 2) + 2, (P + 2) + 3]) (fun P => [2, 3, 4, 23, 24, 26, P, P + 1, P + 2, (P + 2) + 1, (P + 2) + 2, (P + 2) + 3]) rfl)) F_38 (si hprP (fun P => [26, 23]) (fun P => [2, 3, 4, 23, 24, 26, P, P + 1, P + 2, (P + 2) + 1, (P + 2) + 2, (P + 2) + 3]) rfl)) F_64 (si hprP (fun P => [P, P + 1]) (fun P => [2, 3, 4, 23, 24, 26, P, P + 1, P + 2, (P + 2) + 1, (P + 2) + 2, (P + 2) + 3]) rfl)) F_93 (si hprP (fun P => [2, 3, 4, 23, 24, 26, P, P + 1, P + 2, (P + 2) + 1, (P + 2) + 2, (P + 2) + 3]) (fun P => [2, 3, 4, 23, 24, 26, P, P + 1, P + 2, (P + 2) + 1, (P + 2) + 2, (P + 2) + 3]) rfl)) (si hprP (fun P => [23]) (fun P => [2, 3, 4, 23, 24, 26, P, P + 1, P + 2, (P + 2) + 1, (P + 2) + 2, (P + 2) + 3]) rfl 23 (List.mem_singleton.2 rfl))) F_125 (si hprP (fun P => [P + 1]) (fun P => [2, 3, 4, 23, 24, 26, P, P + 1, P + 2, (P + 2) + 1, (P + 2) + 2, (P + 2) + 3]) rfl)), hI_126, htk_130, (by omega), (by omega), (by omega), (by omega), hty_, (((F_125.1 23 (ni hprP (fun P => 23) (fun P => [P + 1]) rfl) 2).trans ((sv_n _ (by decide)).trans (hs_101.trans ((F_64.1 23 (ni hprP (fun P => 23) (fun P => [P, P + 1]) rfl) 2).trans (hs_49.trans (hs_16.trans hP.symm))))))).trans hP, ((F_125.1 23 (ni hprP (fun P => 23) (fun P => [P + 1]) rfl) 5).trans ((sv_n _ (by decide)).trans (hs_102.trans ((F_64.1 23 (ni hprP (fun P => 23) (fun P => [P, P + 1]) rfl) 5).trans (hs_50.trans hs_17))))), ((F_125.1 23 (ni hprP (fun P => 23) (fun P => [P + 1]) rfl) 6).trans ((sv_n _ (by decide)).trans (hs_103.trans ((F_64.1 23 (ni hprP (fun P => 23) (fun P => [P, P + 1]) rfl) 6).trans (hs_51.trans hs_18))))), ((F_125.1 23 (ni hprP (fun P => 23) (fun P => [P + 1]) rfl) 7).trans ((sv_n _ (by decide)).trans (hs_104.trans ((F_64.1 23 (ni hprP (fun P => 23) (fun P => [P, P + 1]) rfl) 7).trans (hs_52.trans hs_19))))), (((F_125.1 23 (ni hprP (fun P => 23) (fun P => [P + 1]) rfl) 8).trans ((sv_n _ (by decide)).trans (hs_105.trans ((F_64.1 23 (ni hprP (fun P => 23) (fun P => [P, P + 1]) rfl) 8).trans (hs_53.trans (hs_20.trans htt.symm))))))).trans htt, (by omega), ((F_125.1 23 (ni hprP (fun P => 23) (fun P => [P + 1]) rfl) 10).trans ((sv_n _ (by decide)).trans (hs_107.trans ((F_64.1 23 (ni hprP (fun P => 23) (fun P => [P, P + 1]) rfl) 10).trans (hs_54.trans hs_22))))), ((F_125.1 26 (ni hprP (fun P => 26) (fun P => [P + 1]) rfl) 6).trans ((sv_n _ (fun h9 => absurd h9.1 (by decide))).trans (hs_108.trans ((F_64.1 26 (ni hprP (fun P => 26) (fun P => [P, P + 1]) rfl) 6).trans (hs_45.trans hs_23))))), ((F_125.1 P (ni hprP (fun P => P) (fun P => [P + 1]) rfl) 7).trans ((sv_n _ (by omega)).trans (hs_109.trans (hs_69.trans ((F_38.1 P (ni hprP (fun P => P) (fun P => [26, 23]) rfl) 7).trans hs_24)))))⟩
