abbrev cX4_carryOn : ByteArray := prog_6_method_24_code
def yX4_carryOn : MethodName := ⟨RX4, "carryOn", "()V"⟩
abbrev cX4_goOnBehindCall : ByteArray := prog_6_method_31_code
def yX4_goOnBehindCall : MethodName := ⟨RX4, "goOnBehindCall", "()V"⟩
theorem dX4_carryOn_0 : decode cX4_carryOn 0 = .ok (.aload_n 0, 1) := by decide +kernel
theorem dX4_carryOn_1 : decode cX4_carryOn 1 = .ok (.iconst 0, 1) := by decide +kernel
theorem dX4_carryOn_2 : decode cX4_carryOn 2 = .ok (.putfield 58, 3) := by decide +kernel
theorem dX4_carryOn_5 : decode cX4_carryOn 5 = .ok (.aload_n 0, 1) := by decide +kernel
theorem dX4_carryOn_6 : decode cX4_carryOn 6 = .ok (.aload_n 0, 1) := by decide +kernel
theorem dX4_carryOn_7 : decode cX4_carryOn 7 = .ok (.getfield 61, 3) := by decide +kernel
theorem dX4_carryOn_10 : decode cX4_carryOn 10 = .ok (.invokevirtual 297, 3) := by decide +kernel
theorem dX4_carryOn_13 : decode cX4_carryOn 13 = .ok (.ifCond .ne 11, 3) := by decide +kernel
theorem dX4_carryOn_16 : decode cX4_carryOn 16 = .ok (.aload_n 0, 1) := by decide +kernel
theorem dX4_carryOn_17 : decode cX4_carryOn 17 = .ok (.aload_n 0, 1) := by decide +kernel
theorem dX4_carryOn_18 : decode cX4_carryOn 18 = .ok (.getfield 61, 3) := by decide +kernel
theorem dX4_carryOn_21 : decode cX4_carryOn 21 = .ok (.invokevirtual 301, 3) := by decide +kernel
theorem dX4_carryOn_24 : decode cX4_carryOn 24 = .ok (.return_, 1) := by decide +kernel
theorem dX4_goOnBehindCall_0 : decode cX4_goOnBehindCall 0 = .ok (.aload_n 0, 1) := by decide +kernel
theorem dX4_goOnBehindCall_1 : decode cX4_goOnBehindCall 1 = .ok (.iconst 0, 1) := by decide +kernel
theorem dX4_goOnBehindCall_2 : decode cX4_goOnBehindCall 2 = .ok (.putfield 58, 3) := by decide +kernel
theorem dX4_goOnBehindCall_5 : decode cX4_goOnBehindCall 5 = .ok (.aload_n 0, 1) := by decide +kernel
theorem dX4_goOnBehindCall_6 : decode cX4_goOnBehindCall 6 = .ok (.getfield 47, 3) := by decide +kernel
theorem dX4_goOnBehindCall_9 : decode cX4_goOnBehindCall 9 = .ok (.bipush 9, 2) := by decide +kernel
theorem dX4_goOnBehindCall_11 : decode cX4_goOnBehindCall 11 = .ok (.aload_n 0, 1) := by decide +kernel
theorem dX4_goOnBehindCall_12 : decode cX4_goOnBehindCall 12 = .ok (.getfield 29, 3) := by decide +kernel
theorem dX4_goOnBehindCall_15 : decode cX4_goOnBehindCall 15 = .ok (.aload_n 0, 1) := by decide +kernel
theorem dX4_goOnBehindCall_16 : decode cX4_goOnBehindCall 16 = .ok (.getfield 61, 3) := by decide +kernel
theorem dX4_goOnBehindCall_19 : decode cX4_goOnBehindCall 19 = .ok (.iconst 1, 1) := by decide +kernel
theorem dX4_goOnBehindCall_20 : decode cX4_goOnBehindCall 20 = .ok (.invokevirtual 113, 3) := by decide +kernel
theorem dX4_goOnBehindCall_23 : decode cX4_goOnBehindCall 23 = .ok (.iastore, 1) := by decide +kernel
theorem dX4_goOnBehindCall_24 : decode cX4_goOnBehindCall 24 = .ok (.aload_n 0, 1) := by decide +kernel
theorem dX4_goOnBehindCall_25 : decode cX4_goOnBehindCall 25 = .ok (.aload_n 0, 1) := by decide +kernel
theorem dX4_goOnBehindCall_26 : decode cX4_goOnBehindCall 26 = .ok (.getfield 61, 3) := by decide +kernel
theorem dX4_goOnBehindCall_29 : decode cX4_goOnBehindCall 29 = .ok (.invokevirtual 297, 3) := by decide +kernel
theorem dX4_goOnBehindCall_32 : decode cX4_goOnBehindCall 32 = .ok (.ifCond .ne 13, 3) := by decide +kernel
theorem dX4_goOnBehindCall_35 : decode cX4_goOnBehindCall 35 = .ok (.aload_n 0, 1) := by decide +kernel
theorem dX4_goOnBehindCall_36 : decode cX4_goOnBehindCall 36 = .ok (.getfield 14, 3) := by decide +kernel
theorem dX4_goOnBehindCall_39 : decode cX4_goOnBehindCall 39 = .ok (.iconst 0, 1) := by decide +kernel
theorem dX4_goOnBehindCall_40 : decode cX4_goOnBehindCall 40 = .ok (.lconst 0, 1) := by decide +kernel
theorem dX4_goOnBehindCall_41 : decode cX4_goOnBehindCall 41 = .ok (.dconst 0, 1) := by decide +kernel
theorem dX4_goOnBehindCall_42 : decode cX4_goOnBehindCall 42 = .ok (.invokevirtual 161, 3) := by decide +kernel
theorem dX4_goOnBehindCall_45 : decode cX4_goOnBehindCall 45 = .ok (.return_, 1) := by decide +kernel
set_option maxHeartbeats 4000000 in
set_option maxRecDepth 100000 in
theorem c_X4_carryOn (ω : Om) (l : Launch) (μ : M3) (cr1 : Int → Int → Int) (S : Int) (P : Int) (g : Int) (y : Int) (n : Int) (hI : IC μ) (hS : S = μ.1 33 3) (hP : P = μ.1 32 10) (hg : g = μ.1 60 6) (hy : y = μ.1 45 4) (hn : n = μ.1 52 7) (hcc : ∀ q, ctc μ P (cr1 q)) (hgo : ∀ j, ofF μ 59 ≤ j → j < μ.1 60 6 → gok μ P cr1 j (μ.1 61 j) (μ.1 62 j)) (hgb : 0 ≤ ofF μ 59 ∧ ofF μ 59 ≤ μ.1 60 6) (hly : μ.1 45 4 + μ.1 60 6 ≤ 10010) (hfl : ofF μ 56 ≤ 239000) (hst : 0 ≤ μ.1 70 2 ∧ μ.1 70 2 ≤ 5000 ∧ 0 ≤ μ.1 70 8 ∧ μ.1 70 8 ≤ 80000 ∧ μ.1 45 1 ≤ μ.1 70 2) (h1n : 1 ≤ n) (hb2 : n ≤ 1 ∨ (0 ≤ μ.1 53 (n - 2) ∧ μ.1 53 (n - 2) ≤ 3 ∧ 0 ≤ μ.1 58 (n - 1) ∧ μ.1 58 (n - 1) ≤ 100000000 ∧ μ.1 57 (n - 1) ≤ 239000)) : CtV ω l yX4_carryOn cX4_carryOn 1 7 221 [.ref (oP ω 32)] μ (fun (μ' : M3) => (Fr [32, 45, 46, 51, 60, 66, 67, 68, 69, 33, 34, 35, 36, 61, 64, 65, 52, 70, 47, 48, 49, 50] μ μ') ∧ (IC μ') ∧ ((μ'.1 52 7 = n ∧ μ'.1 32 13 = 0 ∧ μ'.1 33 3 ≤ max (ofF μ 56) 0 + 1 ∧ ofF μ 59 ≤ μ'.1 60 6 ∧ μ'.1 32 10 = P) ∨ (n ≤ 1 ∧ μ'.1 32 13 = 4 ∧ μ'.1 52 7 = n) ∨ (2 ≤ n ∧ μ'.1 52 7 = n - 1 ∧ μ'.1 60 6 = ofF μ 59 ∧ μ'.1 32 12 = μ.1 58 (n - 1) + 1 ∧ ((μ'.1 33 3 = max (μ.1 57 (n - 1)) 0 + 1 ∧ μ'.1 32 13 = 0) ∨ (μ'.1 33 3 = max (μ.1 57 (n - 1)) 0 ∧ (μ'.1 32 13 = 1 ∨ μ'.1 32 13 = 2 ∨ μ'.1 32 13 = 4))))) ∧ (μ'.1 52 7 = n → μ'.1 32 13 = 0 → gtc (cr1 (μ'.1 60 6)) (μ'.1 32 12)) ∧ (μ'.1 52 7 = n - 1 → μ'.1 32 10 = μ.1 12 (μ.1 53 (n - 2))) ∧ (μ'.1 60 6 ≤ g ∧ μ'.1 45 4 + μ'.1 60 6 ≤ y + g) ∧ (∀ j, μ'.1 61 j = μ.1 61 j ∨ (μ'.1 61 j = 5 ∧ μ.1 61 j = 4)) ∧ (μ.1 70 2 ≤ μ'.1 70 2 ∧ μ'.1 70 2 ≤ 5000 ∧ 0 ≤ μ'.1 70 8 ∧ μ'.1 70 8 ≤ 80000 ∧ μ'.1 45 1 ≤ μ'.1 70 2) ∧ (μ'.1 32 13 ≠ 2 ∨ μ.1 53 (n - 2) = 1) ∧ (μ'.1 32 16 = μ.1 32 16) ∧ (μ'.1 70 1 = μ.1 70 1) ∧ (μ'.1 70 3 = μ.1 70 3) ∧ (μ'.1 70 4 = μ.1 70 4) ∧ (μ'.1 70 5 = μ.1 70 5) ∧ (μ'.1 70 7 = μ.1 70 7)) := by
  refine CtV.go (by decide) (Nat.le_of_ble_eq_true rfl) (fun ρ p e s m below meth c R ls G hR hret hlk hl => ?_)
  have hx := G.1.1
  have hb := G.1.2.1
  have hl : lv_has ls 1 [(0, .ref (oP ω 32))] := hl
  generalize s.drawn = d0 at G ⊢
  have hk_1 := hI.row (r := 33) (by unfold isRow; decide)
  unfold rk at hk_1
  simp only [Int.reduceAdd] at hk_1
  have hbr_33 : BR 33 = 240100 := rfl
  have hn_2 : 0 ≤ μ.1 60 6 ∧ μ.1 60 6 ≤ 400 := hI.nm.2.2.2.2.2.1
  have hn_3 : 0 ≤ μ.1 45 4 ∧ 2 * μ.1 45 4 ≤ μ.2.1 51 := hI.nm.2.2.2.2.2.2.2.1
  have hn_4 : 0 ≤ μ.1 52 7 ∧ μ.1 52 7 ≤ 24 := hI.nm.2.2.2.2.1
  have hk_5 := hI.row (r := 37) (by unfold isRow; decide)
  unfold rk at hk_5
  simp only [Int.reduceAdd] at hk_5
  have hbr_37 : BR 37 = 20410 := rfl
  have hprP : isPr P := by have h9 := G.sr0.2.2.2.2.1; rw [← hP] at h9; exact h9
  have hprP_d : P = 13 ∨ P = 71 ∨ P = 81 ∨ P = 91 ∨ P = 101 := hprP
  have hSr0 : Sr μ := G.sr0
  have hof57 := ofF_at (μ := μ) (b := 57) hn.symm (by omega)
  refine lv_aload_n hx hb dX4_carryOn_0 rfl (lv_at hl 0 rfl) ?_
  refine lv_iconst (v := iv 0) hx hb dX4_carryOn_1 rfl ?_
  refine xa_puti G fd_X4 (a := 32) (x := 0) 13 (kz := 13) rfl rfl (by decide) rfl (by unfold ir; omega) (wm 2 157 rfl rfl) ⟨rfl, rfl, rfl, rfl⟩ rfl dX4_carryOn_2 rfl (fun H locs G => ?_)
  refine lv_aload_n hx hb dX4_carryOn_5 rfl (lv_at hl 0 rfl) ?_
  refine lv_aload_n hx hb dX4_carryOn_6 rfl (lv_at hl 0 rfl) ?_
  refine xa_geti G fd_X4 (a := 32) (x := μ.1 32 14) 14 rfl (by decide) rfl (wm 2 158 rfl rfl) ⟨rfl, rfl, rfl⟩ dX4_carryOn_7 rfl (sv_n _ (by decide)) ?_
  have hr_6 : -2147483648 ≤ μ.1 32 14 ∧ μ.1 32 14 ≤ 2147483647 := by have h9 := G.hr (a := 32) (k := 14) rfl; rw [show (sv μ 32 13 0).1 32 14 = μ.1 32 14 from (sv_n _ (by decide))] at h9; exact h9
  have hcc_7 : ∀ q, ctc (sv μ 32 13 0) P (cr1 q) := fun q => (hcc q).fr (L := [32]) (Fr.put Fr.rf (by decide)) hprP (by decide)
  have hgo_8 : ∀ j, ofF (sv μ 32 13 0) 59 ≤ j → j < (sv μ 32 13 0).1 60 6 → gok (sv μ 32 13 0) P cr1 j ((sv μ 32 13 0).1 61 j) ((sv μ 32 13 0).1 62 j) := fun j h1 h2 => by
    have h8 : ofF (sv μ 32 13 0) 59 = ofF μ 59 := (ofF_sv μ (by decide) (by decide))
    have h9 : (sv μ 32 13 0).1 60 6 = g := ((sv_n _ (fun h9 => absurd h9.1 (by decide))).trans hg.symm)
    rw [show (sv μ 32 13 0).1 61 j = μ.1 61 j from (sv_n _ (by omega)), show (sv μ 32 13 0).1 62 j = μ.1 62 j from (sv_n _ (by omega))]
    exact (hgo j (by omega) (by omega)).fr (L := [32]) (Fr.put Fr.rf (by decide)) hprP (by decide)
  have hI_9 : IC (sv μ 32 13 0) := (IC.put hI (by decide +kernel))
  have e_10 : (sv μ 32 13 0).1 33 3 = S := ((sv_n _ (fun h9 => absurd h9.1 (by decide))).trans hS.symm)
  have e_11 : (sv μ 32 13 0).1 32 10 = P := ((sv_n _ (by decide)).trans hP.symm)
  have e_12 : (sv μ 32 13 0).1 60 6 = g := ((sv_n _ (fun h9 => absurd h9.1 (by decide))).trans hg.symm)
  have e_13 : (sv μ 32 13 0).1 45 4 = y := ((sv_n _ (fun h9 => absurd h9.1 (by decide))).trans hy.symm)
  have e_14 : (sv μ 32 13 0).1 60 6 = g := ((sv_n _ (fun h9 => absurd h9.1 (by decide))).trans hg.symm)
  have e_15 : ofF (sv μ 32 13 0) 59 = ofF μ 59 := (ofF_sv μ (by decide) (by decide))
  have e_16 : ofF (sv μ 32 13 0) 59 = ofF μ 59 := (ofF_sv μ (by decide) (by decide))
  have e_17 : (sv μ 32 13 0).1 45 4 = y := ((sv_n _ (fun h9 => absurd h9.1 (by decide))).trans hy.symm)
  have e_18 : (sv μ 32 13 0).1 60 6 = g := ((sv_n _ (fun h9 => absurd h9.1 (by decide))).trans hg.symm)
  have e_19 : ofF (sv μ 32 13 0) 56 = ofF μ 56 := (ofF_sv μ (by decide) (by decide))
  have e_20 : (sv μ 32 13 0).1 32 12 = μ.1 32 12 := (sv_n _ (by decide))
  have e_21 : ofF (sv μ 32 13 0) 59 = ofF μ 59 := (ofF_sv μ (by decide) (by decide))
  have e_22 : ofF (sv μ 32 13 0) 56 = ofF μ 56 := (ofF_sv μ (by decide) (by decide))
  have e_23 : ofF (sv μ 32 13 0) 59 = ofF μ 59 := (ofF_sv μ (by decide) (by decide))
  have hn_24 : 0 ≤ μ.1 45 1 ∧ 9 * μ.1 45 1 ≤ μ.2.1 46 := hI.nm.2.2.2.2.2.2.1
  have e_25 : (sv μ 32 13 0).1 45 1 = μ.1 45 1 := (sv_n _ (fun h9 => absurd h9.1 (by decide)))
  have e_26 : (sv μ 32 13 0).1 32 10 = P := ((sv_n _ (by decide)).trans hP.symm)
  have e_27 : (sv μ 32 13 0).1 32 11 = μ.1 32 11 := (sv_n _ (by decide))
  have e_28 : (sv μ 32 13 0).1 32 13 = 0 := (sv_s _ _ _ _)
  have e_29 : (sv μ 32 13 0).1 32 14 = μ.1 32 14 := (sv_n _ (by decide))
  have e_30 : (sv μ 32 13 0).1 32 15 = μ.1 32 15 := (sv_n _ (by decide))
  have e_31 : (sv μ 32 13 0).1 32 16 = μ.1 32 16 := (sv_n _ (by decide))
  refine xc_iV G (b := 32) (rest := []) (As := [.int (iv (μ.1 32 14))]) (c_X4_isHeld ω l (sv μ 32 13 0) (μ.1 32 14) cr1 S P g y (by unfold ir; omega) hI_9 (by omega) (by omega) (by omega) (by omega) hcc_7 hgo_8 (by omega) (by omega) (by omega)) (wm 5 111 rfl rfl) (wm 5 113 rfl rfl) (wm 0 66 rfl rfl) rfl rfl (by decide) rfl (wm 1 14 rfl rfl) (wm 5 114 rfl rfl) (by decide) hR (by decide) (n := 1) rfl rfl (Nat.le_of_ble_eq_true rfl) hl.1 dX4_carryOn_10 (fun r_33 μ32 ρ d0 H locs hr_r_33 hp G => ?_)
  have hr_r_33 : -2147483648 ≤ r_33 ∧ r_33 ≤ 2147483647 := hr_r_33
  obtain ⟨F_34, hI_35, hp_36, hp_37, hp_38, hp_39, hp_40, hs_41, hs_42, hs_43, hs_44, hs_45, hs_46, hs_47⟩ := hp
  have hk_48 := hI_35.row (r := 33) (by unfold isRow; decide)
  unfold rk at hk_48
  simp only [Int.reduceAdd] at hk_48
  have hn_49 : 0 ≤ μ32.1 60 6 ∧ μ32.1 60 6 ≤ 400 := hI_35.nm.2.2.2.2.2.1
  have hn_50 : 0 ≤ μ32.1 45 4 ∧ 2 * μ32.1 45 4 ≤ μ32.2.1 51 := hI_35.nm.2.2.2.2.2.2.2.1
  refine xb_if_ne (tgt := 24) hx hb (by unfold ir; omega) dX4_carryOn_13 (by decide) (fun c_13 => ?_) (fun c_13 => ?_)
  · have e_51 : μ32.1 32 13 = 0 := (hs_44.trans (sv_s _ _ _ _))
    have e_52 : μ32.1 52 7 = n := ((F_34.1 52 (by decide) 7).trans ((sv_n _ (fun h9 => absurd h9.1 (by decide))).trans hn.symm))
    have e_53 : μ32.1 32 10 = P := (hs_42.trans ((sv_n _ (by decide)).trans hP.symm))
    have e_54 : ofF μ32 53 = ofF μ 53 := ((ofF_fr F_34 (by decide) (by decide)).trans (ofF_sv μ (by decide) (by decide)))
    have h0_e : (μ32.1 52 7 = n ∧ μ32.1 32 13 = 0 ∧ μ32.1 33 3 ≤ max (ofF μ 56) 0 + 1 ∧ ofF μ 59 ≤ μ32.1 60 6 ∧ μ32.1 32 10 = P) ∨ (n ≤ 1 ∧ μ32.1 32 13 = 4 ∧ μ32.1 52 7 = n) ∨ (2 ≤ n ∧ μ32.1 52 7 = n - 1 ∧ μ32.1 60 6 = ofF μ 59 ∧ μ32.1 32 12 = μ.1 58 (n - 1) + 1 ∧ ((μ32.1 33 3 = max (μ.1 57 (n - 1)) 0 + 1 ∧ μ32.1 32 13 = 0) ∨ (μ32.1 33 3 = max (μ.1 57 (n - 1)) 0 ∧ (μ32.1 32 13 = 1 ∨ μ32.1 32 13 = 2 ∨ μ32.1 32 13 = 4)))) := by
      exact Or.inl ⟨by omega, by omega, by omega, by omega, by omega⟩
    have e_55 : μ32.1 70 2 = μ.1 70 2 := ((F_34.1 70 (by decide) 2).trans (sv_n _ (fun h9 => absurd h9.1 (by decide))))
    have e_56 : μ32.1 70 2 = μ.1 70 2 := ((F_34.1 70 (by decide) 2).trans (sv_n _ (fun h9 => absurd h9.1 (by decide))))
    have e_57 : μ32.1 70 8 = μ.1 70 8 := ((F_34.1 70 (by decide) 8).trans (sv_n _ (fun h9 => absurd h9.1 (by decide))))
    have e_58 : μ32.1 70 8 = μ.1 70 8 := ((F_34.1 70 (by decide) 8).trans (sv_n _ (fun h9 => absurd h9.1 (by decide))))
    have e_59 : μ32.1 45 1 = μ.1 45 1 := (hs_41.trans (sv_n _ (fun h9 => absurd h9.1 (by decide))))
    have e_60 : μ32.1 70 2 = μ.1 70 2 := ((F_34.1 70 (by decide) 2).trans (sv_n _ (fun h9 => absurd h9.1 (by decide))))
    have e_61 : μ32.1 32 13 = 0 := (hs_44.trans (sv_s _ _ _ _))
    have e_62 : μ32.1 32 16 = μ.1 32 16 := (hs_47.trans (sv_n _ (by decide)))
    have e_63 : μ32.1 70 1 = μ.1 70 1 := ((F_34.1 70 (by decide) 1).trans (sv_n _ (fun h9 => absurd h9.1 (by decide))))
    have e_64 : μ32.1 70 3 = μ.1 70 3 := ((F_34.1 70 (by decide) 3).trans (sv_n _ (fun h9 => absurd h9.1 (by decide))))
    have e_65 : μ32.1 70 4 = μ.1 70 4 := ((F_34.1 70 (by decide) 4).trans (sv_n _ (fun h9 => absurd h9.1 (by decide))))
    have e_66 : μ32.1 70 5 = μ.1 70 5 := ((F_34.1 70 (by decide) 5).trans (sv_n _ (fun h9 => absurd h9.1 (by decide))))
    have e_67 : μ32.1 70 7 = μ.1 70 7 := ((F_34.1 70 (by decide) 7).trans (sv_n _ (fun h9 => absurd h9.1 (by decide))))
    exact xr_v G hret hlk dX4_carryOn_24 ⟨(Fr.tr (Fr.put Fr.rf (by decide)) F_34 (by decide)), hI_35, h0_e, (fun _ _ => by rw [show μ32.1 32 12 = μ32.1 32 12 from rfl]; exact hp_37 (by omega)), (fun h9 => absurd h9 (by omega)), (by omega), (fun j => (hp_39 j).imp (fun h9 => h9.trans ((sv_n _ (by omega)))) (fun h9 => ⟨h9.1, ((sv_n _ (by omega))).symm.trans h9.2⟩)), (by omega), (by omega), (by omega), (by omega), (by omega), (by omega), (by omega), (by omega)⟩
  · refine lv_aload_n hx hb dX4_carryOn_16 rfl (lv_at hl 0 rfl) ?_
    refine lv_aload_n hx hb dX4_carryOn_17 rfl (lv_at hl 0 rfl) ?_
    refine xa_geti G fd_X4 (a := 32) (x := μ.1 32 14) 14 rfl (by decide) rfl (wm 2 158 rfl rfl) ⟨rfl, rfl, rfl⟩ dX4_carryOn_18 rfl (hs_45.trans (sv_n _ (by decide))) ?_
    have e_68 : μ32.1 52 7 = n := ((F_34.1 52 (by decide) 7).trans ((sv_n _ (fun h9 => absurd h9.1 (by decide))).trans hn.symm))
    have e_69 : μ32.1 70 2 = μ.1 70 2 := ((F_34.1 70 (by decide) 2).trans (sv_n _ (fun h9 => absurd h9.1 (by decide))))
    have e_70 : μ32.1 70 2 = μ.1 70 2 := ((F_34.1 70 (by decide) 2).trans (sv_n _ (fun h9 => absurd h9.1 (by decide))))
    have e_71 : μ32.1 70 8 = μ.1 70 8 := ((F_34.1 70 (by decide) 8).trans (sv_n _ (fun h9 => absurd h9.1 (by decide))))
    have e_72 : μ32.1 70 8 = μ.1 70 8 := ((F_34.1 70 (by decide) 8).trans (sv_n _ (fun h9 => absurd h9.1 (by decide))))
    have e_73 : μ32.1 45 1 = μ.1 45 1 := (hs_41.trans (sv_n _ (fun h9 => absurd h9.1 (by decide))))
    have e_74 : μ32.1 70 2 = μ.1 70 2 := ((F_34.1 70 (by decide) 2).trans (sv_n _ (fun h9 => absurd h9.1 (by decide))))
    have e_75 : μ32.1 32 13 = 0 := (hs_44.trans (sv_s _ _ _ _))
    have e_76 : μ32.1 53 (n - 2) = μ.1 53 (n - 2) := ((F_34.1 53 (by decide) (n - 2)).trans (sv_n _ (fun h9 => absurd h9.1 (by decide))))
    have e_77 : μ32.1 53 (n - 2) = μ.1 53 (n - 2) := ((F_34.1 53 (by decide) (n - 2)).trans (sv_n _ (fun h9 => absurd h9.1 (by decide))))
    have e_78 : μ32.1 58 (n - 1) = μ.1 58 (n - 1) := ((F_34.1 58 (by decide) (n - 1)).trans (sv_n _ (fun h9 => absurd h9.1 (by decide))))
    have e_79 : μ32.1 58 (n - 1) = μ.1 58 (n - 1) := ((F_34.1 58 (by decide) (n - 1)).trans (sv_n _ (fun h9 => absurd h9.1 (by decide))))
    have e_80 : μ32.1 57 (n - 1) = μ.1 57 (n - 1) := ((F_34.1 57 (by decide) (n - 1)).trans (sv_n _ (fun h9 => absurd h9.1 (by decide))))
    have e_81 : μ32.1 58 (n - 1) = μ.1 58 (n - 1) := ((F_34.1 58 (by decide) (n - 1)).trans (sv_n _ (fun h9 => absurd h9.1 (by decide))))
    have e_82 : μ32.1 57 (n - 1) = μ.1 57 (n - 1) := ((F_34.1 57 (by decide) (n - 1)).trans (sv_n _ (fun h9 => absurd h9.1 (by decide))))
    have e_83 : μ32.1 57 (n - 1) = μ.1 57 (n - 1) := ((F_34.1 57 (by decide) (n - 1)).trans (sv_n _ (fun h9 => absurd h9.1 (by decide))))
    have e_84 : μ32.1 70 2 = μ.1 70 2 := ((F_34.1 70 (by decide) 2).trans (sv_n _ (fun h9 => absurd h9.1 (by decide))))
    have e_85 : μ32.1 53 (n - 2) = μ.1 53 (n - 2) := ((F_34.1 53 (by decide) (n - 2)).trans (sv_n _ (fun h9 => absurd h9.1 (by decide))))
    have e_86 : μ32.1 32 16 = μ.1 32 16 := (hs_47.trans (sv_n _ (by decide)))
    have e_87 : μ32.1 70 1 = μ.1 70 1 := ((F_34.1 70 (by decide) 1).trans (sv_n _ (fun h9 => absurd h9.1 (by decide))))
    have e_88 : μ32.1 70 3 = μ.1 70 3 := ((F_34.1 70 (by decide) 3).trans (sv_n _ (fun h9 => absurd h9.1 (by decide))))
    have e_89 : μ32.1 70 4 = μ.1 70 4 := ((F_34.1 70 (by decide) 4).trans (sv_n _ (fun h9 => absurd h9.1 (by decide))))
    have e_90 : μ32.1 70 5 = μ.1 70 5 := ((F_34.1 70 (by decide) 5).trans (sv_n _ (fun h9 => absurd h9.1 (by decide))))
    have e_91 : μ32.1 70 7 = μ.1 70 7 := ((F_34.1 70 (by decide) 7).trans (sv_n _ (fun h9 => absurd h9.1 (by decide))))
    refine xc_vV G (b := 32) (rest := []) (As := [.int (iv (μ.1 32 14))]) (c_X4_outOfFunction ω l μ32 (μ.1 32 14) (μ32.1 33 3) n (by unfold ir; omega) hI_35 (by omega) (by omega) (by omega) (by omega) (by omega) (by omega)) (wm 5 210 rfl rfl) (wm 5 212 rfl rfl) (wm 0 71 rfl rfl) rfl rfl (by decide) rfl (wm 1 14 rfl rfl) (wm 5 213 rfl rfl) (by decide) hR (by decide) (n := 1) rfl rfl (Nat.le_of_ble_eq_true rfl) hl.1 dX4_carryOn_21 (fun μ92 ρ d0 H locs hp G => ?_)
    obtain ⟨F_93, hI_94, hp_95, hp_96, hp_97, hp_98, hs_99, hs_100, hs_101, hs_102, hs_103, hs_104, hs_105⟩ := hp
    have hn_106 : 0 ≤ μ92.1 52 7 ∧ μ92.1 52 7 ≤ 24 := hI_94.nm.2.2.2.2.1
    have hk_107 := hI_94.row (r := 33) (by unfold isRow; decide)
    unfold rk at hk_107
    simp only [Int.reduceAdd] at hk_107
    have hn_108 : 0 ≤ μ92.1 45 1 ∧ 9 * μ92.1 45 1 ≤ μ92.2.1 46 := hI_94.nm.2.2.2.2.2.2.1
    have e_109 : μ92.1 60 6 = μ32.1 60 6 := (F_93.1 60 (by decide) 6)
    have e_110 : μ92.1 45 4 = μ32.1 45 4 := hs_105
    have h0_e : (μ92.1 52 7 = n ∧ μ92.1 32 13 = 0 ∧ μ92.1 33 3 ≤ max (ofF μ 56) 0 + 1 ∧ ofF μ 59 ≤ μ92.1 60 6 ∧ μ92.1 32 10 = P) ∨ (n ≤ 1 ∧ μ92.1 32 13 = 4 ∧ μ92.1 52 7 = n) ∨ (2 ≤ n ∧ μ92.1 52 7 = n - 1 ∧ μ92.1 60 6 = ofF μ 59 ∧ μ92.1 32 12 = μ.1 58 (n - 1) + 1 ∧ ((μ92.1 33 3 = max (μ.1 57 (n - 1)) 0 + 1 ∧ μ92.1 32 13 = 0) ∨ (μ92.1 33 3 = max (μ.1 57 (n - 1)) 0 ∧ (μ92.1 32 13 = 1 ∨ μ92.1 32 13 = 2 ∨ μ92.1 32 13 = 4)))) := by
      rcases hp_95 with ⟨q1, q2, q3⟩ | ⟨q1, q2, q3, q4⟩
      · exact Or.inr (Or.inl ⟨by omega, by omega, by omega⟩)
      · rcases q4 with ⟨q5, q6⟩ | ⟨q5, q6⟩
        · exact Or.inr (Or.inr ⟨by omega, by omega, by omega, by omega, Or.inl ⟨by omega, by omega⟩⟩)
        · exact Or.inr (Or.inr ⟨by omega, by omega, by omega, by omega, Or.inr ⟨by omega, by omega⟩⟩)
    have hB_e : 2 ≤ n → μ92.1 32 10 = μ.1 12 (μ.1 53 (n - 2)) := fun h9 => by rw [hp_96 h9, show μ32.1 53 (n - 2) = μ.1 53 (n - 2) from ((F_34.1 53 (by decide) (n - 2)).trans (sv_n _ (fun h9 => absurd h9.1 (by decide))))]; exact ((F_34.1 12 (by decide) (μ.1 53 (n - 2))).trans (sv_n _ (fun h9 => absurd h9.1 (by decide))))
    have e_111 : μ92.1 60 6 = μ32.1 60 6 := (F_93.1 60 (by decide) 6)
    have e_112 : μ92.1 45 4 = μ32.1 45 4 := hs_105
    have e_113 : μ92.1 60 6 = μ32.1 60 6 := (F_93.1 60 (by decide) 6)
    have e_114 : μ92.1 32 16 = μ.1 32 16 := (hs_99.trans (hs_47.trans (sv_n _ (by decide))))
    have e_115 : μ92.1 70 1 = μ.1 70 1 := (hs_100.trans ((F_34.1 70 (by decide) 1).trans (sv_n _ (fun h9 => absurd h9.1 (by decide)))))
    have e_116 : μ92.1 70 3 = μ.1 70 3 := (hs_101.trans ((F_34.1 70 (by decide) 3).trans (sv_n _ (fun h9 => absurd h9.1 (by decide)))))
    have e_117 : μ92.1 70 4 = μ.1 70 4 := (hs_102.trans ((F_34.1 70 (by decide) 4).trans (sv_n _ (fun h9 => absurd h9.1 (by decide)))))
    have e_118 : μ92.1 70 5 = μ.1 70 5 := (hs_103.trans ((F_34.1 70 (by decide) 5).trans (sv_n _ (fun h9 => absurd h9.1 (by decide)))))
    have e_119 : μ92.1 70 7 = μ.1 70 7 := (hs_104.trans ((F_34.1 70 (by decide) 7).trans (sv_n _ (fun h9 => absurd h9.1 (by decide)))))
    exact xr_v G hret hlk dX4_carryOn_24 ⟨(Fr.tr (Fr.tr (Fr.put Fr.rf (by decide)) F_34 (by decide)) F_93 (by decide)), hI_94, h0_e, (fun h7 h8 => absurd h8 (by rcases hp_95 with ⟨q1, q2, q3⟩ | ⟨q1, q2, q3, q4⟩ <;> omega)), (fun h9 => hB_e (by omega)), (by omega), (fun j => (hp_39 j).imp (fun h9 => ((F_93.1 61 (by decide) j)).trans (h9.trans ((sv_n _ (by omega))))) (fun h9 => ⟨((F_93.1 61 (by decide) j)).trans h9.1, ((sv_n _ (by omega))).symm.trans h9.2⟩)), (by omega), (by omega), (by omega), (by omega), (by omega), (by omega), (by omega), (by omega)⟩

set_option maxHeartbeats 4000000 in
set_option maxRecDepth 100000 in
theorem c_X4_goOnBehindCall (ω : Om) (l : Launch) (μ : M3) (cr1 : Int → Int → Int) (S : Int) (P : Int) (g : Int) (y : Int) (n : Int) (hI : IC μ) (hS : S = μ.1 33 3) (hP : P = μ.1 32 10) (hg : g = μ.1 60 6) (hy : y = μ.1 45 4) (hn : n = μ.1 52 7) (hcc : ∀ q, ctc μ P (cr1 q)) (hgo : ∀ j, ofF μ 59 ≤ j → j < μ.1 60 6 → gok μ P cr1 j (μ.1 61 j) (μ.1 62 j)) (hgb : 0 ≤ ofF μ 59 ∧ ofF μ 59 ≤ μ.1 60 6) (hly : μ.1 45 4 + μ.1 60 6 ≤ 10010) (hfl : ofF μ 56 ≤ 239000) (hSb : S < 240099) : CtV ω l yX4_goOnBehindCall cX4_goOnBehindCall 1 6 196 [.ref (oP ω 32)] μ (fun (μ' : M3) => (Fr [32, 70, 45, 46, 51, 60, 66, 67, 68, 69, 33, 34, 35, 36, 61, 64, 65] μ μ') ∧ (IC μ') ∧ ((μ'.1 33 3 ≤ max (ofF μ 56) 0 + 1 ∧ ofF μ 59 ≤ μ'.1 60 6 ∧ gtc (cr1 (μ'.1 60 6)) (μ'.1 32 12)) ∨ (μ'.1 33 3 = S + 1 ∧ μ'.1 60 6 = ofF μ 59 ∧ μ'.1 32 12 = μ.1 32 12 ∧ ∀ j, ofF μ 59 ≤ j → j < g → μ.1 61 j ≠ 2)) ∧ (μ'.1 32 13 = 0) ∧ (μ'.1 60 6 ≤ g ∧ μ'.1 45 4 + μ'.1 60 6 ≤ y + g) ∧ (∀ j, μ'.1 61 j = μ.1 61 j ∨ (μ'.1 61 j = 5 ∧ μ.1 61 j = 4)) ∧ (μ'.1 32 10 = μ.1 32 10) ∧ (μ'.1 32 11 = μ.1 32 11) ∧ (μ'.1 32 14 = μ.1 32 14) ∧ (μ'.1 32 15 = μ.1 32 15) ∧ (μ'.1 32 16 = μ.1 32 16) ∧ (μ'.1 70 0 = μ.1 70 0) ∧ (μ'.1 70 1 = μ.1 70 1) ∧ (μ'.1 70 2 = μ.1 70 2) ∧ (μ'.1 70 3 = μ.1 70 3) ∧ (μ'.1 70 4 = μ.1 70 4) ∧ (μ'.1 70 5 = μ.1 70 5) ∧ (μ'.1 70 6 = μ.1 70 6) ∧ (μ'.1 70 7 = μ.1 70 7) ∧ (μ'.1 70 8 = μ.1 70 8) ∧ (μ'.1 45 1 = μ.1 45 1)) := by
  refine CtV.go (by decide) (Nat.le_of_ble_eq_true rfl) (fun ρ p e s m below meth c R ls G hR hret hlk hl => ?_)
  have hx := G.1.1
  have hb := G.1.2.1
  have hl : lv_has ls 1 [(0, .ref (oP ω 32))] := hl
  generalize s.drawn = d0 at G ⊢
  have hk_1 := hI.row (r := 33) (by unfold isRow; decide)
  unfold rk at hk_1
  simp only [Int.reduceAdd] at hk_1
  have hbr_33 : BR 33 = 240100 := rfl
  have hn_2 : 0 ≤ μ.1 60 6 ∧ μ.1 60 6 ≤ 400 := hI.nm.2.2.2.2.2.1
  have hn_3 : 0 ≤ μ.1 45 4 ∧ 2 * μ.1 45 4 ≤ μ.2.1 51 := hI.nm.2.2.2.2.2.2.2.1
  have hn_4 : 0 ≤ μ.1 52 7 ∧ μ.1 52 7 ≤ 24 := hI.nm.2.2.2.2.1
  have hk_5 := hI.row (r := 37) (by unfold isRow; decide)
  unfold rk at hk_5
  simp only [Int.reduceAdd] at hk_5
  have hbr_37 : BR 37 = 20410 := rfl
  have hprP : isPr P := by have h9 := G.sr0.2.2.2.2.1; rw [← hP] at h9; exact h9
  have hprP_d : P = 13 ∨ P = 71 ∨ P = 81 ∨ P = 91 ∨ P = 101 := hprP
  refine lv_aload_n hx hb dX4_goOnBehindCall_0 rfl (lv_at hl 0 rfl) ?_
  refine lv_iconst (v := iv 0) hx hb dX4_goOnBehindCall_1 rfl ?_
  refine xa_puti G fd_X4 (a := 32) (x := 0) 13 (kz := 13) rfl rfl (by decide) rfl (by unfold ir; omega) (wm 2 157 rfl rfl) ⟨rfl, rfl, rfl, rfl⟩ rfl dX4_goOnBehindCall_2 rfl (fun H locs G => ?_)
  refine lv_aload_n hx hb dX4_goOnBehindCall_5 rfl (lv_at hl 0 rfl) ?_
  refine xa_getr G fd_X4 (a := 32) (x := 70) 9 rfl (by decide) rfl (wm 2 153 rfl rfl) ⟨rfl, rfl, rfl⟩ dX4_goOnBehindCall_6 rfl (G.sk 42 rfl) (by decide) rfl ?_
  refine lv_bipush (v := iv 9) hx hb dX4_goOnBehindCall_9 rfl ?_
  refine lv_aload_n hx hb dX4_goOnBehindCall_11 rfl (lv_at hl 0 rfl) ?_
  refine xa_getr G fd_X4 (a := 32) (x := 45) 6 rfl (by decide) rfl (wm 2 150 rfl rfl) ⟨rfl, rfl, rfl⟩ dX4_goOnBehindCall_12 rfl (G.sk 39 rfl) (by decide) rfl ?_
  refine lv_aload_n hx hb dX4_goOnBehindCall_15 rfl (lv_at hl 0 rfl) ?_
  refine xa_geti G fd_X4 (a := 32) (x := μ.1 32 14) 14 rfl (by decide) rfl (wm 2 158 rfl rfl) ⟨rfl, rfl, rfl⟩ dX4_goOnBehindCall_16 rfl (sv_n _ (by decide)) ?_
  have hr_6 : -2147483648 ≤ μ.1 32 14 ∧ μ.1 32 14 ≤ 2147483647 := by have h9 := G.hr (a := 32) (k := 14) rfl; rw [show (sv μ 32 13 0).1 32 14 = μ.1 32 14 from (sv_n _ (by decide))] at h9; exact h9
  refine lv_iconst (v := iv 1) hx hb dX4_goOnBehindCall_19 rfl ?_
  have hI_7 : IC (sv μ 32 13 0) := (IC.put hI (by decide +kernel))
  have hn_8 : 0 ≤ μ.1 45 1 ∧ 9 * μ.1 45 1 ≤ μ.2.1 46 := hI.nm.2.2.2.2.2.2.1
  have e_9 : (sv μ 32 13 0).1 45 1 = μ.1 45 1 := (sv_n _ (fun h9 => absurd h9.1 (by decide)))
  have e_10 : (sv μ 32 13 0).1 45 1 = μ.1 45 1 := (sv_n _ (fun h9 => absurd h9.1 (by decide)))
  have e_11 : (sv μ 32 13 0).1 45 4 = y := ((sv_n _ (fun h9 => absurd h9.1 (by decide))).trans hy.symm)
  refine xc_iV G (b := 45) (rest := [.int (iv 9), .ref (oP ω 70)]) (As := [.int (iv (μ.1 32 14)), .int (iv 1)]) (c_X1_fact ω l (sv μ 32 13 0) (μ.1 32 14) 1 (μ.1 45 1) y (by unfold ir; omega) (by unfold ir; omega) hI_7 (by omega) (by omega)) (wm 5 168 rfl rfl) (wm 5 169 rfl rfl) (wm 5 170 rfl rfl) rfl rfl (by decide) rfl (wm 1 15 rfl rfl) (wm 5 171 rfl rfl) (by decide) hR (by decide) (n := 2) rfl rfl (Nat.le_of_ble_eq_true rfl) hl.1 dX4_goOnBehindCall_20 (fun r_13 μ12 ρ d0 H locs hr_r_13 hp G => ?_)
  have hr_r_13 : -2147483648 ≤ r_13 ∧ r_13 ≤ 2147483647 := hr_r_13
  have hsm_14 := hp
  have hsm_14 := Eq.symm hsm_14
  subst hsm_14
  refine xa_iast G (a := 70) (i := 9) (x := r_13) rfl (by have h9 := G.lc (a := 70) (n := 10) 33 rfl; omega) (by unfold ir; omega) dX4_goOnBehindCall_23 rfl (fun H locs G => ?_)
  refine lv_aload_n hx hb dX4_goOnBehindCall_24 rfl (lv_at hl 0 rfl) ?_
  refine lv_aload_n hx hb dX4_goOnBehindCall_25 rfl (lv_at hl 0 rfl) ?_
  refine xa_geti G fd_X4 (a := 32) (x := μ.1 32 14) 14 rfl (by decide) rfl (wm 2 158 rfl rfl) ⟨rfl, rfl, rfl⟩ dX4_goOnBehindCall_26 rfl ((sv_n _ (fun h9 => absurd h9.1 (by decide))).trans (sv_n _ (by decide))) ?_
  have hcc_15 : ∀ q, ctc (sv (sv μ 32 13 0) 70 9 r_13) P (cr1 q) := fun q => (hcc q).fr (L := [70, 32]) (Fr.put (Fr.put Fr.rf (by decide)) (by decide)) hprP (by decide)
  have hgo_16 : ∀ j, ofF (sv (sv μ 32 13 0) 70 9 r_13) 59 ≤ j → j < (sv (sv μ 32 13 0) 70 9 r_13).1 60 6 → gok (sv (sv μ 32 13 0) 70 9 r_13) P cr1 j ((sv (sv μ 32 13 0) 70 9 r_13).1 61 j) ((sv (sv μ 32 13 0) 70 9 r_13).1 62 j) := fun j h1 h2 => by
    have h8 : ofF (sv (sv μ 32 13 0) 70 9 r_13) 59 = ofF μ 59 := ((ofF_sv (sv μ 32 13 0) (by decide) (by decide)).trans (ofF_sv μ (by decide) (by decide)))
    have h9 : (sv (sv μ 32 13 0) 70 9 r_13).1 60 6 = g := ((sv_n _ (fun h9 => absurd h9.1 (by decide))).trans ((sv_n _ (fun h9 => absurd h9.1 (by decide))).trans hg.symm))
    rw [show (sv (sv μ 32 13 0) 70 9 r_13).1 61 j = μ.1 61 j from ((sv_n _ (by omega)).trans (sv_n _ (by omega))), show (sv (sv μ 32 13 0) 70 9 r_13).1 62 j = μ.1 62 j from ((sv_n _ (by omega)).trans (sv_n _ (by omega)))]
    exact (hgo j (by omega) (by omega)).fr (L := [70, 32]) (Fr.put (Fr.put Fr.rf (by decide)) (by decide)) hprP (by decide)
  have hI_17 : IC (sv (sv μ 32 13 0) 70 9 r_13) := (IC.pua hI_7 (by decide))
  have e_18 : (sv (sv μ 32 13 0) 70 9 r_13).1 33 3 = S := ((sv_n _ (fun h9 => absurd h9.1 (by decide))).trans ((sv_n _ (fun h9 => absurd h9.1 (by decide))).trans hS.symm))
  have e_19 : (sv (sv μ 32 13 0) 70 9 r_13).1 32 10 = P := ((sv_n _ (fun h9 => absurd h9.1 (by decide))).trans ((sv_n _ (by decide)).trans hP.symm))
  have e_20 : (sv (sv μ 32 13 0) 70 9 r_13).1 60 6 = g := ((sv_n _ (fun h9 => absurd h9.1 (by decide))).trans ((sv_n _ (fun h9 => absurd h9.1 (by decide))).trans hg.symm))
  have e_21 : (sv (sv μ 32 13 0) 70 9 r_13).1 45 4 = y := ((sv_n _ (fun h9 => absurd h9.1 (by decide))).trans ((sv_n _ (fun h9 => absurd h9.1 (by decide))).trans hy.symm))
  have e_22 : (sv (sv μ 32 13 0) 70 9 r_13).1 60 6 = g := ((sv_n _ (fun h9 => absurd h9.1 (by decide))).trans ((sv_n _ (fun h9 => absurd h9.1 (by decide))).trans hg.symm))
  have e_23 : ofF (sv (sv μ 32 13 0) 70 9 r_13) 59 = ofF μ 59 := ((ofF_sv (sv μ 32 13 0) (by decide) (by decide)).trans (ofF_sv μ (by decide) (by decide)))
  have e_24 : ofF (sv (sv μ 32 13 0) 70 9 r_13) 59 = ofF μ 59 := ((ofF_sv (sv μ 32 13 0) (by decide) (by decide)).trans (ofF_sv μ (by decide) (by decide)))
  have e_25 : (sv (sv μ 32 13 0) 70 9 r_13).1 45 4 = y := ((sv_n _ (fun h9 => absurd h9.1 (by decide))).trans ((sv_n _ (fun h9 => absurd h9.1 (by decide))).trans hy.symm))
  have e_26 : (sv (sv μ 32 13 0) 70 9 r_13).1 60 6 = g := ((sv_n _ (fun h9 => absurd h9.1 (by decide))).trans ((sv_n _ (fun h9 => absurd h9.1 (by decide))).trans hg.symm))
  have e_27 : ofF (sv (sv μ 32 13 0) 70 9 r_13) 56 = ofF μ 56 := ((ofF_sv (sv μ 32 13 0) (by decide) (by decide)).trans (ofF_sv μ (by decide) (by decide)))
  have e_28 : (sv (sv μ 32 13 0) 70 9 r_13).1 32 12 = μ.1 32 12 := ((sv_n _ (fun h9 => absurd h9.1 (by decide))).trans (sv_n _ (by decide)))
  have e_29 : ofF (sv (sv μ 32 13 0) 70 9 r_13) 59 = ofF μ 59 := ((ofF_sv (sv μ 32 13 0) (by decide) (by decide)).trans (ofF_sv μ (by decide) (by decide)))
  have e_30 : ofF (sv (sv μ 32 13 0) 70 9 r_13) 56 = ofF μ 56 := ((ofF_sv (sv μ 32 13 0) (by decide) (by decide)).trans (ofF_sv μ (by decide) (by decide)))
  have e_31 : ofF (sv (sv μ 32 13 0) 70 9 r_13) 59 = ofF μ 59 := ((ofF_sv (sv μ 32 13 0) (by decide) (by decide)).trans (ofF_sv μ (by decide) (by decide)))
  have e_32 : (sv (sv μ 32 13 0) 70 9 r_13).1 45 1 = μ.1 45 1 := ((sv_n _ (fun h9 => absurd h9.1 (by decide))).trans (sv_n _ (fun h9 => absurd h9.1 (by decide))))
  have e_33 : (sv (sv μ 32 13 0) 70 9 r_13).1 32 10 = P := ((sv_n _ (fun h9 => absurd h9.1 (by decide))).trans ((sv_n _ (by decide)).trans hP.symm))
  have e_34 : (sv (sv μ 32 13 0) 70 9 r_13).1 32 11 = μ.1 32 11 := ((sv_n _ (fun h9 => absurd h9.1 (by decide))).trans (sv_n _ (by decide)))
  have e_35 : (sv (sv μ 32 13 0) 70 9 r_13).1 32 13 = 0 := ((sv_n _ (fun h9 => absurd h9.1 (by decide))).trans (sv_s _ _ _ _))
  have e_36 : (sv (sv μ 32 13 0) 70 9 r_13).1 32 14 = μ.1 32 14 := ((sv_n _ (fun h9 => absurd h9.1 (by decide))).trans (sv_n _ (by decide)))
  have e_37 : (sv (sv μ 32 13 0) 70 9 r_13).1 32 15 = μ.1 32 15 := ((sv_n _ (fun h9 => absurd h9.1 (by decide))).trans (sv_n _ (by decide)))
  have e_38 : (sv (sv μ 32 13 0) 70 9 r_13).1 32 16 = μ.1 32 16 := ((sv_n _ (fun h9 => absurd h9.1 (by decide))).trans (sv_n _ (by decide)))
  refine xc_iV G (b := 32) (rest := []) (As := [.int (iv (μ.1 32 14))]) (c_X4_isHeld ω l (sv (sv μ 32 13 0) 70 9 r_13) (μ.1 32 14) cr1 S P g y (by unfold ir; omega) hI_17 (by omega) (by omega) (by omega) (by omega) hcc_15 hgo_16 (by omega) (by omega) (by omega)) (wm 5 111 rfl rfl) (wm 5 113 rfl rfl) (wm 0 66 rfl rfl) rfl rfl (by decide) rfl (wm 1 14 rfl rfl) (wm 5 114 rfl rfl) (by decide) hR (by decide) (n := 1) rfl rfl (Nat.le_of_ble_eq_true rfl) hl.1 dX4_goOnBehindCall_29 (fun r_40 μ39 ρ d0 H locs hr_r_40 hp G => ?_)
  have hr_r_40 : -2147483648 ≤ r_40 ∧ r_40 ≤ 2147483647 := hr_r_40
  obtain ⟨F_41, hI_42, hp_43, hp_44, hp_45, hp_46, hp_47, hs_48, hs_49, hs_50, hs_51, hs_52, hs_53, hs_54⟩ := hp
  have hk_55 := hI_42.row (r := 33) (by unfold isRow; decide)
  unfold rk at hk_55
  simp only [Int.reduceAdd] at hk_55
  have hn_56 : 0 ≤ μ39.1 60 6 ∧ μ39.1 60 6 ≤ 400 := hI_42.nm.2.2.2.2.2.1
  have hn_57 : 0 ≤ μ39.1 45 4 ∧ 2 * μ39.1 45 4 ≤ μ39.2.1 51 := hI_42.nm.2.2.2.2.2.2.2.1
  refine xb_if_ne (tgt := 45) hx hb (by unfold ir; omega) dX4_goOnBehindCall_32 (by decide) (fun c_32 => ?_) (fun c_32 => ?_)
  · have e_58 : μ39.1 32 13 = 0 := (hs_51.trans ((sv_n _ (fun h9 => absurd h9.1 (by decide))).trans (sv_s _ _ _ _)))
    have e_59 : μ39.1 52 7 = n := ((F_41.1 52 (by decide) 7).trans ((sv_n _ (fun h9 => absurd h9.1 (by decide))).trans ((sv_n _ (fun h9 => absurd h9.1 (by decide))).trans hn.symm)))
    have e_60 : μ39.1 32 10 = P := (hs_49.trans ((sv_n _ (fun h9 => absurd h9.1 (by decide))).trans ((sv_n _ (by decide)).trans hP.symm)))
    have e_61 : ofF μ39 53 = ofF μ 53 := ((ofF_fr F_41 (by decide) (by decide)).trans ((ofF_sv (sv μ 32 13 0) (by decide) (by decide)).trans (ofF_sv μ (by decide) (by decide))))
    have e_62 : μ39.1 32 13 = 0 := (hs_51.trans ((sv_n _ (fun h9 => absurd h9.1 (by decide))).trans (sv_s _ _ _ _)))
    have e_63 : μ39.1 32 10 = P := (hs_49.trans ((sv_n _ (fun h9 => absurd h9.1 (by decide))).trans ((sv_n _ (by decide)).trans hP.symm)))
    have e_64 : μ39.1 32 11 = μ.1 32 11 := (hs_50.trans ((sv_n _ (fun h9 => absurd h9.1 (by decide))).trans (sv_n _ (by decide))))
    have e_65 : μ39.1 32 14 = μ.1 32 14 := (hs_52.trans ((sv_n _ (fun h9 => absurd h9.1 (by decide))).trans (sv_n _ (by decide))))
    have e_66 : μ39.1 32 15 = μ.1 32 15 := (hs_53.trans ((sv_n _ (fun h9 => absurd h9.1 (by decide))).trans (sv_n _ (by decide))))
    have e_67 : μ39.1 32 16 = μ.1 32 16 := (hs_54.trans ((sv_n _ (fun h9 => absurd h9.1 (by decide))).trans (sv_n _ (by decide))))
    have e_68 : μ39.1 70 0 = μ.1 70 0 := ((F_41.1 70 (by decide) 0).trans ((sv_n _ (by decide)).trans (sv_n _ (fun h9 => absurd h9.1 (by decide)))))
    have e_69 : μ39.1 70 1 = μ.1 70 1 := ((F_41.1 70 (by decide) 1).trans ((sv_n _ (by decide)).trans (sv_n _ (fun h9 => absurd h9.1 (by decide)))))
    have e_70 : μ39.1 70 2 = μ.1 70 2 := ((F_41.1 70 (by decide) 2).trans ((sv_n _ (by decide)).trans (sv_n _ (fun h9 => absurd h9.1 (by decide)))))
    have e_71 : μ39.1 70 3 = μ.1 70 3 := ((F_41.1 70 (by decide) 3).trans ((sv_n _ (by decide)).trans (sv_n _ (fun h9 => absurd h9.1 (by decide)))))
    have e_72 : μ39.1 70 4 = μ.1 70 4 := ((F_41.1 70 (by decide) 4).trans ((sv_n _ (by decide)).trans (sv_n _ (fun h9 => absurd h9.1 (by decide)))))
    have e_73 : μ39.1 70 5 = μ.1 70 5 := ((F_41.1 70 (by decide) 5).trans ((sv_n _ (by decide)).trans (sv_n _ (fun h9 => absurd h9.1 (by decide)))))
    have e_74 : μ39.1 70 6 = μ.1 70 6 := ((F_41.1 70 (by decide) 6).trans ((sv_n _ (by decide)).trans (sv_n _ (fun h9 => absurd h9.1 (by decide)))))
    have e_75 : μ39.1 70 7 = μ.1 70 7 := ((F_41.1 70 (by decide) 7).trans ((sv_n _ (by decide)).trans (sv_n _ (fun h9 => absurd h9.1 (by decide)))))
    have e_76 : μ39.1 70 8 = μ.1 70 8 := ((F_41.1 70 (by decide) 8).trans ((sv_n _ (by decide)).trans (sv_n _ (fun h9 => absurd h9.1 (by decide)))))
    have e_77 : μ39.1 45 1 = μ.1 45 1 := (hs_48.trans ((sv_n _ (fun h9 => absurd h9.1 (by decide))).trans (sv_n _ (fun h9 => absurd h9.1 (by decide)))))
    exact xr_v G hret hlk dX4_goOnBehindCall_45 ⟨(Fr.tr (Fr.put (Fr.put Fr.rf (by decide)) (by decide)) F_41 (by decide)), hI_42, (Or.inl ⟨by omega, by omega, by rw [show μ39.1 32 12 = μ39.1 32 12 from rfl]; exact hp_44 (by omega)⟩), (by omega), (by omega), (fun j => (hp_46 j).imp (fun h9 => h9.trans (((sv_n _ (by omega)).trans (sv_n _ (by omega))))) (fun h9 => ⟨h9.1, (((sv_n _ (by omega)).trans (sv_n _ (by omega)))).symm.trans h9.2⟩)), (by omega), (by omega), (by omega), (by omega), (by omega), (by omega), (by omega), (by omega), (by omega), (by omega), (by omega), (by omega), (by omega), (by omega), (by omega)⟩
  · refine lv_aload_n hx hb dX4_goOnBehindCall_35 rfl (lv_at hl 0 rfl) ?_
    refine xa_getr G fd_X4 (a := 32) (x := 33) 3 rfl (by decide) rfl (wm 2 147 rfl rfl) ⟨rfl, rfl, rfl⟩ dX4_goOnBehindCall_36 rfl (G.sk 36 rfl) (by decide) rfl ?_
    refine lv_iconst (v := iv 0) hx hb dX4_goOnBehindCall_39 rfl ?_
    refine lv_lconst (v := jv 0) hx hb dX4_goOnBehindCall_40 rfl ?_
    refine lv_dconst0 hx hb dX4_goOnBehindCall_41 ?_
    refine xb_topd (fun dd_78 he_dd_78 => ?_)
    refine xc_vV G (b := 33) (rest := []) (As := [.int (iv 0), .long (jv 0), .double (dv dd_78)]) (c_X9_push ω l μ39 33 0 0 dd_78 (μ39.1 33 3) (by unfold isRow; decide) (by unfold ir; omega) (by unfold jr; omega) hI_42 (by omega) (by omega)) (wm 5 74 rfl rfl) (wm 4 72 rfl rfl) (wm 4 73 rfl rfl) rfl rfl (by decide) rfl (wm 1 10 rfl rfl) (wm 4 74 rfl rfl) (by decide) hR (by decide) (n := 3) rfl rfl (Nat.le_of_ble_eq_true rfl) hl.1 dX4_goOnBehindCall_42 (fun μ79 ρ d0 H locs hp G => ?_)
    obtain ⟨F_80, hI_81, hs_82⟩ := hp
    have e_83 : μ79.1 33 3 = (μ39.1 33 3) + 1 := hs_82
    have e_84 : μ79.1 32 13 = 0 := ((F_80.1 32 (by decide) 13).trans (hs_51.trans ((sv_n _ (fun h9 => absurd h9.1 (by decide))).trans (sv_s _ _ _ _))))
    have e_85 : μ79.1 52 7 = n := ((F_80.1 52 (by decide) 7).trans ((F_41.1 52 (by decide) 7).trans ((sv_n _ (fun h9 => absurd h9.1 (by decide))).trans ((sv_n _ (fun h9 => absurd h9.1 (by decide))).trans hn.symm))))
    have e_86 : μ79.1 32 12 = μ39.1 32 12 := (F_80.1 32 (by decide) 12)
    have e_87 : μ79.1 60 6 = μ39.1 60 6 := (F_80.1 60 (by decide) 6)
    have e_88 : μ79.1 32 10 = P := ((F_80.1 32 (by decide) 10).trans (hs_49.trans ((sv_n _ (fun h9 => absurd h9.1 (by decide))).trans ((sv_n _ (by decide)).trans hP.symm))))
    have e_89 : μ79.1 45 4 = μ39.1 45 4 := (F_80.1 45 (by decide) 4)
    have e_90 : ofF μ79 53 = ofF μ 53 := ((ofF_fr F_80 (by decide) (by decide)).trans ((ofF_fr F_41 (by decide) (by decide)).trans ((ofF_sv (sv μ 32 13 0) (by decide) (by decide)).trans (ofF_sv μ (by decide) (by decide)))))
    have e_91 : μ79.1 32 13 = 0 := ((F_80.1 32 (by decide) 13).trans (hs_51.trans ((sv_n _ (fun h9 => absurd h9.1 (by decide))).trans (sv_s _ _ _ _))))
    have e_92 : μ79.1 60 6 = μ39.1 60 6 := (F_80.1 60 (by decide) 6)
    have e_93 : μ79.1 45 4 = μ39.1 45 4 := (F_80.1 45 (by decide) 4)
    have e_94 : μ79.1 60 6 = μ39.1 60 6 := (F_80.1 60 (by decide) 6)
    have e_95 : μ79.1 32 10 = P := ((F_80.1 32 (by decide) 10).trans (hs_49.trans ((sv_n _ (fun h9 => absurd h9.1 (by decide))).trans ((sv_n _ (by decide)).trans hP.symm))))
    have e_96 : μ79.1 32 11 = μ.1 32 11 := ((F_80.1 32 (by decide) 11).trans (hs_50.trans ((sv_n _ (fun h9 => absurd h9.1 (by decide))).trans (sv_n _ (by decide)))))
    have e_97 : μ79.1 32 14 = μ.1 32 14 := ((F_80.1 32 (by decide) 14).trans (hs_52.trans ((sv_n _ (fun h9 => absurd h9.1 (by decide))).trans (sv_n _ (by decide)))))
    have e_98 : μ79.1 32 15 = μ.1 32 15 := ((F_80.1 32 (by decide) 15).trans (hs_53.trans ((sv_n _ (fun h9 => absurd h9.1 (by decide))).trans (sv_n _ (by decide)))))
    have e_99 : μ79.1 32 16 = μ.1 32 16 := ((F_80.1 32 (by decide) 16).trans (hs_54.trans ((sv_n _ (fun h9 => absurd h9.1 (by decide))).trans (sv_n _ (by decide)))))
    have e_100 : μ79.1 70 0 = μ.1 70 0 := ((F_80.1 70 (by decide) 0).trans ((F_41.1 70 (by decide) 0).trans ((sv_n _ (by decide)).trans (sv_n _ (fun h9 => absurd h9.1 (by decide))))))
    have e_101 : μ79.1 70 1 = μ.1 70 1 := ((F_80.1 70 (by decide) 1).trans ((F_41.1 70 (by decide) 1).trans ((sv_n _ (by decide)).trans (sv_n _ (fun h9 => absurd h9.1 (by decide))))))
    have e_102 : μ79.1 70 2 = μ.1 70 2 := ((F_80.1 70 (by decide) 2).trans ((F_41.1 70 (by decide) 2).trans ((sv_n _ (by decide)).trans (sv_n _ (fun h9 => absurd h9.1 (by decide))))))
    have e_103 : μ79.1 70 3 = μ.1 70 3 := ((F_80.1 70 (by decide) 3).trans ((F_41.1 70 (by decide) 3).trans ((sv_n _ (by decide)).trans (sv_n _ (fun h9 => absurd h9.1 (by decide))))))
    have e_104 : μ79.1 70 4 = μ.1 70 4 := ((F_80.1 70 (by decide) 4).trans ((F_41.1 70 (by decide) 4).trans ((sv_n _ (by decide)).trans (sv_n _ (fun h9 => absurd h9.1 (by decide))))))
    have e_105 : μ79.1 70 5 = μ.1 70 5 := ((F_80.1 70 (by decide) 5).trans ((F_41.1 70 (by decide) 5).trans ((sv_n _ (by decide)).trans (sv_n _ (fun h9 => absurd h9.1 (by decide))))))
    have e_106 : μ79.1 70 6 = μ.1 70 6 := ((F_80.1 70 (by decide) 6).trans ((F_41.1 70 (by decide) 6).trans ((sv_n _ (by decide)).trans (sv_n _ (fun h9 => absurd h9.1 (by decide))))))
    have e_107 : μ79.1 70 7 = μ.1 70 7 := ((F_80.1 70 (by decide) 7).trans ((F_41.1 70 (by decide) 7).trans ((sv_n _ (by decide)).trans (sv_n _ (fun h9 => absurd h9.1 (by decide))))))
    have e_108 : μ79.1 70 8 = μ.1 70 8 := ((F_80.1 70 (by decide) 8).trans ((F_41.1 70 (by decide) 8).trans ((sv_n _ (by decide)).trans (sv_n _ (fun h9 => absurd h9.1 (by decide))))))
    have e_109 : μ79.1 45 1 = μ.1 45 1 := ((F_80.1 45 (by decide) 1).trans (hs_48.trans ((sv_n _ (fun h9 => absurd h9.1 (by decide))).trans (sv_n _ (fun h9 => absurd h9.1 (by decide))))))
    exact xr_v G hret hlk dX4_goOnBehindCall_45 ⟨(Fr.tr (Fr.tr (Fr.put (Fr.put Fr.rf (by decide)) (by decide)) F_41 (by decide)) F_80 (by decide)), hI_81, (Or.inr ⟨by omega, by omega, by omega, fun j h1 h2 => by have h9 := hp_47 (by omega) j (by have h8 : ofF (sv (sv μ 32 13 0) 70 9 r_13) 59 = ofF μ 59 := ((ofF_sv (sv μ 32 13 0) (by decide) (by decide)).trans (ofF_sv μ (by decide) (by decide))); omega) (by omega); rw [show (sv (sv μ 32 13 0) 70 9 r_13).1 61 j = μ.1 61 j from ((sv_n _ (by omega)).trans (sv_n _ (by omega)))] at h9; exact h9⟩), (by omega), (by omega), (fun j => (hp_46 j).imp (fun h9 => ((F_80.1 61 (by decide) j)).trans (h9.trans (((sv_n _ (by omega)).trans (sv_n _ (by omega)))))) (fun h9 => ⟨((F_80.1 61 (by decide) j)).trans h9.1, (((sv_n _ (by omega)).trans (sv_n _ (by omega)))).symm.trans h9.2⟩)), (by omega), (by omega), (by omega), (by omega), (by omega), (by omega), (by omega), (by omega), (by omega), (by omega), (by omega), (by omega), (by omega), (by omega), (by omega)⟩
