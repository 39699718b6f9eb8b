abbrev cX7_forgetAll : ByteArray := prog_9_method_27_code
def yX7_forgetAll : MethodName := ⟨RX7, "forgetAll", "(I)V"⟩
theorem dX7_forgetAll_0 : decode cX7_forgetAll 0 = .ok (.iload_n 1, 1) := by decide +kernel
theorem dX7_forgetAll_1 : decode cX7_forgetAll 1 = .ok (.istore_n 2, 1) := by decide +kernel
theorem dX7_forgetAll_2 : decode cX7_forgetAll 2 = .ok (.aload_n 0, 1) := by decide +kernel
theorem dX7_forgetAll_3 : decode cX7_forgetAll 3 = .ok (.getfield 51, 3) := by decide +kernel
theorem dX7_forgetAll_6 : decode cX7_forgetAll 6 = .ok (.invokevirtual 108, 3) := by decide +kernel
theorem dX7_forgetAll_9 : decode cX7_forgetAll 9 = .ok (.istore_n 3, 1) := by decide +kernel
theorem dX7_forgetAll_10 : decode cX7_forgetAll 10 = .ok (.iload_n 3, 1) := by decide +kernel
theorem dX7_forgetAll_11 : decode cX7_forgetAll 11 = .ok (.ifCond .le 31, 3) := by decide +kernel
theorem dX7_forgetAll_14 : decode cX7_forgetAll 14 = .ok (.iload_n 2, 1) := by decide +kernel
theorem dX7_forgetAll_15 : decode cX7_forgetAll 15 = .ok (.ifCond .lt 27, 3) := by decide +kernel
theorem dX7_forgetAll_18 : decode cX7_forgetAll 18 = .ok (.aload_n 0, 1) := by decide +kernel
theorem dX7_forgetAll_19 : decode cX7_forgetAll 19 = .ok (.getfield 51, 3) := by decide +kernel
theorem dX7_forgetAll_22 : decode cX7_forgetAll 22 = .ok (.iload_n 2, 1) := by decide +kernel
theorem dX7_forgetAll_23 : decode cX7_forgetAll 23 = .ok (.iconst 0, 1) := by decide +kernel
theorem dX7_forgetAll_24 : decode cX7_forgetAll 24 = .ok (.invokevirtual 238, 3) := by decide +kernel
theorem dX7_forgetAll_27 : decode cX7_forgetAll 27 = .ok (.aload_n 0, 1) := by decide +kernel
theorem dX7_forgetAll_28 : decode cX7_forgetAll 28 = .ok (.getfield 51, 3) := by decide +kernel
theorem dX7_forgetAll_31 : decode cX7_forgetAll 31 = .ok (.iload_n 2, 1) := by decide +kernel
theorem dX7_forgetAll_32 : decode cX7_forgetAll 32 = .ok (.invokevirtual 111, 3) := by decide +kernel
theorem dX7_forgetAll_35 : decode cX7_forgetAll 35 = .ok (.istore_n 2, 1) := by decide +kernel
theorem dX7_forgetAll_36 : decode cX7_forgetAll 36 = .ok (.iinc 3 (-1), 3) := by decide +kernel
theorem dX7_forgetAll_39 : decode cX7_forgetAll 39 = .ok (.goto (-29), 3) := by decide +kernel
theorem dX7_forgetAll_42 : decode cX7_forgetAll 42 = .ok (.return_, 1) := by decide +kernel
theorem lv_10 (ω : Om) (l : Launch) : LvE ω l 10 150 4060 ∧ ∃ Fu Lu, Fu ≤ 150 ∧ Lu ≤ 4060 ∧ LvU ω l 10 Fu Lu := by
  rcases lv_all ω l 10 with h | h
  · exact ⟨h.1, _, _, Nat.le_refl _, Nat.le_refl _, h.2⟩
  · exact h
set_option maxHeartbeats 4000000 in
set_option maxRecDepth 100000 in
theorem c_X7_forgetAll (ω : Om) (l : Launch) (μ : M3) (x1 : Int) (μo : M3) (P : Int) (tt : Int) (hx1 : ir x1) (hI : IC μ) (hP : P = μ.1 23 2) (htt : tt = μ.1 23 8) (hpx : μ.1 26 11 = 0 → PXC μo μ P tt 2 x1 1) : CtV ω l yX7_forgetAll cX7_forgetAll 4 2 43 [.ref (oP ω 23), .int (iv x1)] μ (fun (μ' : M3) => (Fr [P + 1] μ μ') ∧ (IC μ') ∧ (μ.1 26 11 = 0 → EX μo μ' P tt 2 0) ∧ (μ'.1 P 1 = μ.1 P 1) ∧ (μ'.1 P 7 = μ.1 P 7)) := by
  refine CtV.go (by decide) (Nat.le_of_ble_eq_true rfl) (fun ρ p e s m below meth c R ls G hR hret hlk hl => ?_)
  have hx := G.1.1
  have hb := G.1.2.1
  have hl : lv_has ls 4 [(0, .ref (oP ω 23)), (1, .int (iv x1))] := hl
  generalize s.drawn = d0 at G ⊢
  have hr_x1 : -2147483648 ≤ x1 ∧ x1 ≤ 2147483647 := hx1
  have hprP : isPr P := by have h9 := G.sr0.2.2.2.2.2; rw [← hP] at h9; exact h9
  have hprP_d : P = 13 ∨ P = 71 ∨ P = 81 ∨ P = 91 ∨ P = 101 := hprP
  have hk_1 := hI.pr (p := P) hprP
  unfold pk at hk_1
  have hc_2 : 16 ≤ μ.2.1 (P + 1) ∧ μ.2.1 (P + 1) ≤ 73024 := hI.rm.1 _ hprP.cap
  refine lv_iload_n hx hb dX7_forgetAll_0 rfl (lv_at hl 1 rfl) ?_
  refine lv_istore_n (lv' := [(2, .int (iv x1)), (0, .ref (oP ω 23)), (1, .int (iv x1))]) hx hb dX7_forgetAll_1 rfl hl (by decide) rfl (fun ls hl => ?_)
  refine lv_aload_n hx hb dX7_forgetAll_2 rfl (lv_at hl 1 rfl) ?_
  refine xa_getr G fd_X7 (a := 23) (x := P) 2 rfl (by decide) rfl (wm 2 19 rfl rfl) ⟨rfl, rfl, rfl⟩ dX7_forgetAll_3 rfl hP.symm (by omega) (hprP.hq ω ρ) ?_
  refine xc_iV G (b := P) (rest := []) (As := []) (c_X8_length ω l μ P hprP hI) (wm 4 35 rfl rfl) (wm 4 36 rfl rfl) (wm 4 37 rfl rfl) hprP.ly rfl (by decide) (hprP.hq ω ρ) (wm 1 9 rfl rfl) (wm 4 38 rfl rfl) (by decide) hR (by decide) (n := 0) rfl rfl (Nat.le_of_ble_eq_true rfl) hl.1 dX7_forgetAll_6 (fun r_4 μ3 ρ d0 H locs hr_r_4 hp G => ?_)
  have hr_r_4 : -2147483648 ≤ r_4 ∧ r_4 ≤ 2147483647 := hr_r_4
  obtain ⟨hsm_5, hp_6⟩ := hp
  have hsm_5 := Eq.symm hsm_5
  subst hsm_5
  refine lv_istore_n (lv' := [(3, .int (iv r_4)), (2, .int (iv x1)), (0, .ref (oP ω 23)), (1, .int (iv x1))]) hx hb dX7_forgetAll_9 rfl hl (by decide) rfl (fun ls hl => ?_)
  refine xl (fun n_9 μ' ls => ∃ (t9 : Int), ∃ (n9 : Int), (Fr [P + 1] μ μ') ∧ (-2147483648 ≤ t9 ∧ t9 ≤ 2147483647) ∧ (-2147483648 ≤ n9 ∧ n9 ≤ 2147483647) ∧ (0 ≤ n9) ∧ (μ.1 26 11 = 0 → FW μo μ μ' P tt x1 t9 n9) ∧ (μ'.1 P 1 = μ.1 P 1) ∧ (μ'.1 P 7 = μ.1 P 7) ∧ (IC μ') ∧ n_9 = Int.toNat (n9) ∧ lv_has ls 4 [(3, .int (iv n9)), (2, .int (iv t9)), (0, .ref (oP ω 23)), (1, .int (iv x1))]) (fun n_9 ρ μL7 d0 H locs ls hI_l G ih => ?_) _ _ _ _ _ _ _ ⟨x1, r_4, Fr.rf, (by omega), (by omega), (by omega), (fun h0 => by rw [hp_6]; exact FW.go (hpx h0) (by omega)), rfl, rfl, hI, rfl, lv_sub hl [0, 1, 2, 3] rfl⟩ G
  obtain ⟨t9, n9, FL8, hi_10, hi_11, hi_12, hi_13, hi_14, hi_15, hi_16, hn9, hl⟩ := hI_l
  refine lv_iload_n hx hb dX7_forgetAll_10 rfl (lv_at hl 0 rfl) ?_
  refine xb_if_le (tgt := 42) hx hb (by unfold ir; omega) dX7_forgetAll_11 (by decide) (fun c_11 => ?_) (fun c_11 => ?_)
  · have e_17 : μL7.1 P 1 = μ.1 P 1 := hi_14
    have e_18 : μL7.1 P 7 = μ.1 P 7 := hi_15
    exact xr_v G hret hlk dX7_forgetAll_42 ⟨(Fr.tr Fr.rf FL8 (by simp)), hi_16, (fun h0 => (hi_13 h0).ed (by omega)), (by omega), (by omega)⟩
  · refine lv_iload_n hx hb dX7_forgetAll_14 rfl (lv_at hl 1 rfl) ?_
    refine xb_if_lt (tgt := 42) hx hb (by unfold ir; omega) dX7_forgetAll_15 (by decide) (fun c_15 => ?_) (fun c_15 => ?_)
    · have e_19 : μL7.1 P 1 = μ.1 P 1 := hi_14
      have e_20 : μL7.1 P 7 = μ.1 P 7 := hi_15
      exact xr_v G hret hlk dX7_forgetAll_42 ⟨(Fr.tr Fr.rf FL8 (by simp)), hi_16, (fun h0 => (hi_13 h0).ed (by omega)), (by omega), (by omega)⟩
    · refine lv_aload_n hx hb dX7_forgetAll_18 rfl (lv_at hl 2 rfl) ?_
      refine xa_getr G fd_X7 (a := 23) (x := P) 2 rfl (by decide) rfl (wm 2 19 rfl rfl) ⟨rfl, rfl, rfl⟩ dX7_forgetAll_19 rfl ((FL8.1 23 (by simp <;> omega) 2).trans hP.symm) (by omega) (hprP.hq ω ρ) ?_
      refine lv_iload_n hx hb dX7_forgetAll_22 rfl (lv_at hl 1 rfl) ?_
      refine lv_iconst (v := iv 0) hx hb dX7_forgetAll_23 rfl ?_
      have e_21 : μL7.1 P 1 = μ.1 P 1 := hi_14
      have e_22 : μL7.1 P 1 = μ.1 P 1 := hi_14
      have e_23 : μL7.1 P 1 = μ.1 P 1 := hi_14
      have e_24 : μL7.1 P 1 = μ.1 P 1 := hi_14
      refine xc_vV G (b := P) (rest := []) (As := [.int (iv t9), .int (iv 0)]) (c_X8_setOp ω l μL7 P t9 0 (μ.1 P 1) hprP (by unfold ir; omega) (by unfold ir; omega) hi_16 (by omega)) (wm 4 140 rfl rfl) (wm 4 141 rfl rfl) (wm 4 142 rfl rfl) hprP.ly rfl (by decide) (hprP.hq ω ρ) (wm 1 9 rfl rfl) (wm 4 143 rfl rfl) (by decide) hR (by decide) (n := 2) rfl rfl (Nat.le_of_ble_eq_true rfl) hl.1 dX7_forgetAll_24 (fun μ25 ρ d0 H locs hp G => ?_)
      obtain ⟨F_26, hI_27, hp_28, hp_29, ha_30⟩ := hp
      refine lv_aload_n hx hb dX7_forgetAll_27 rfl (lv_at hl 2 rfl) ?_
      refine xa_getr G fd_X7 (a := 23) (x := P) 2 rfl (by decide) rfl (wm 2 19 rfl rfl) ⟨rfl, rfl, rfl⟩ dX7_forgetAll_28 rfl ((F_26.1 23 (by simp <;> omega) 2).trans ((FL8.1 23 (by simp <;> omega) 2).trans hP.symm)) (by omega) (hprP.hq ω ρ) ?_
      refine lv_iload_n hx hb dX7_forgetAll_31 rfl (lv_at hl 1 rfl) ?_
      refine xc_iV G (b := P) (rest := []) (As := [.int (iv t9)]) (c_X8_first ω l μ25 P t9 hprP (by unfold ir; omega) hI_27) (wm 4 43 rfl rfl) (wm 4 44 rfl rfl) (wm 4 45 rfl rfl) hprP.ly rfl (by decide) (hprP.hq ω ρ) (wm 1 9 rfl rfl) (wm 4 46 rfl rfl) (by decide) hR (by decide) (n := 1) rfl rfl (Nat.le_of_ble_eq_true rfl) hl.1 dX7_forgetAll_32 (fun r_32 μ31 ρ d0 H locs hr_r_32 hp G => ?_)
      have hr_r_32 : -2147483648 ≤ r_32 ∧ r_32 ≤ 2147483647 := hr_r_32
      obtain ⟨hsm_33, hp_34⟩ := hp
      have hsm_33 := Eq.symm hsm_33
      subst hsm_33
      refine lv_istore_n (lv' := [(2, .int (iv r_32)), (3, .int (iv n9)), (0, .ref (oP ω 23)), (1, .int (iv x1))]) hx hb dX7_forgetAll_35 rfl hl (by decide) rfl (fun ls hl => ?_)
      refine lv_iinc (v := iv (n9 - 1)) (lv' := [(3, .int (iv (n9 - 1))), (2, .int (iv r_32)), (0, .ref (oP ω 23)), (1, .int (iv x1))]) hx hb dX7_forgetAll_36 hl (k := 1) rfl (by rw [show Int32.ofInt (-1) = iv (-1) from rfl, iv_add] <;> (congr 1 <;> omega)) (by decide) rfl (fun ls hl => ?_)
      refine lv_goto (tgt := 10) hx hb dX7_forgetAll_39 (by decide) ?_
      have hmf_35 : μ.1 26 11 = 0 → FW μo μ μ25 P tt x1 (cdp μ25 P t9 1) (n9 - 1) := by
        intro h0
        have h7 := (hi_13 h0).x
        refine (hi_13 h0).st (by omega) ?_
        rcases hp_29 with ⟨q1, q2, q3⟩ | ⟨q1, q2⟩
        · exact MO.of (by have h9 : μ25.1 P 1 = μ.1 P 1 := ((F_26.1 P (by simp <;> omega) 1).trans hi_14); have h8 : μL7.1 P 1 = μ.1 P 1 := hi_14; omega) ⟨q1, by have h8 : μL7.1 P 1 = μ.1 P 1 := hi_14; omega⟩ q3 ha_30
        · exfalso; have h8 : μL7.1 P 1 = μ.1 P 1 := hi_14; omega
      exact ih _ _ _ _ _ _ _ (by omega) ⟨r_32, n9 - 1, (Fr.tr FL8 F_26 (by simp)), (by omega), (by omega), (by omega), (by rw [hp_34]; exact hmf_35), ((F_26.1 P (by simp <;> omega) 1).trans hi_14), ((F_26.1 P (by simp <;> omega) 7).trans hi_15), hI_27, rfl, lv_sub hl [0, 1, 2, 3] rfl⟩ G

set_option maxHeartbeats 4000000 in
set_option maxRecDepth 100000 in
theorem c_X7_ifFails_c (ω : Om) (l : Launch) (μ : M3) (x1 : Int) (x2 : Int) (μo : M3) (e : Int) (w : Int) (P : Int) (tt : Int) (hx1 : ir x1) (hx2 : ir x2) (hI : IC μ) (hP : P = μ.1 23 2) (htt : tt = μ.1 23 8) (hL : μ.1 P 1 < 8990) (hpx : μ.1 26 11 = 0 → PXC μo μ P tt e x1 w) (hx2b : 0 ≤ x2 ∧ x2 ≤ 100000) (hew : e ≤ w + x2) (he1 : 1 ≤ e) : CtI ω l yX7_ifFails cX7_ifFails 3 .int 4 150 [.ref (oP ω 23), .int (iv x1), .int (iv x2)] μ (fun (r : Int) (μ' : M3) => (Fr [P, P + 1] μ μ') ∧ (IC μ') ∧ (μ.1 26 11 = 0 → PXC μo μ' P tt e r w) ∧ (μ.1 P 1 ≤ μ'.1 P 1 ∧ μ'.1 P 1 ≤ μ.1 P 1 + 1) ∧ (μ'.1 P 7 = μ.1 P 7)) := by
  refine CtI.go (by decide) (Nat.le_of_ble_eq_true rfl) (fun ρ p e s m below meth c R ls G hR hret hlk hl => ?_)
  have hx := G.1.1
  have hb := G.1.2.1
  have hl : lv_has ls 3 [(0, .ref (oP ω 23)), (1, .int (iv x1)), (2, .int (iv x2))] := hl
  generalize s.drawn = d0 at G ⊢
  have hr_x1 : -2147483648 ≤ x1 ∧ x1 ≤ 2147483647 := hx1
  have hr_x2 : -2147483648 ≤ x2 ∧ x2 ≤ 2147483647 := hx2
  have hprP : isPr P := by have h9 := G.sr0.2.2.2.2.2; rw [← hP] at h9; exact h9
  have hprP_d : P = 13 ∨ P = 71 ∨ P = 81 ∨ P = 91 ∨ P = 101 := hprP
  have hk_1 := hI.pr (p := P) hprP
  unfold pk at hk_1
  have hc_2 : 16 ≤ μ.2.1 (P + 1) ∧ μ.2.1 (P + 1) ≤ 73024 := hI.rm.1 _ hprP.cap
  refine lv_aload_n hx hb dX7_ifFails_0 rfl (lv_at hl 0 rfl) ?_
  refine xa_geti G fd_X7 (a := 23) (x := tt) 8 rfl (by decide) rfl (wm 2 25 rfl rfl) ⟨rfl, rfl, rfl⟩ dX7_ifFails_1 rfl htt.symm ?_
  have hr_3 : -2147483648 ≤ tt ∧ tt ≤ 2147483647 := by have h9 := G.hr (a := 23) (k := 8) rfl; rw [show μ.1 23 8 = tt from htt.symm] at h9; exact h9
  refine lv_iconst (v := iv 2) hx hb dX7_ifFails_4 rfl ?_
  refine xb_icmp_ne (tgt := 19) hx hb (by unfold ir; omega) (by unfold ir; omega) dX7_ifFails_5 (by decide) (fun c_5 => ?_) (fun c_5 => ?_)
  · refine lv_iload_n hx hb dX7_ifFails_19 rfl (lv_at hl 1 rfl) ?_
    exact xr_i G (x := x1) hret hlk (by unfold ir; omega) rfl dX7_ifFails_20 ⟨Fr.rf, hI, hpx, (by omega), (by omega)⟩
  · refine lv_aload_n hx hb dX7_ifFails_8 rfl (lv_at hl 0 rfl) ?_
    refine lv_bipush (v := iv 26) hx hb dX7_ifFails_9 rfl ?_
    refine lv_iload_n hx hb dX7_ifFails_11 rfl (lv_at hl 1 rfl) ?_
    refine lv_iload_n hx hb dX7_ifFails_12 rfl (lv_at hl 2 rfl) ?_
    have e_4 : μ.1 23 2 = P := hP.symm
    refine xc_iV G (b := 23) (rest := []) (As := [.int (iv 26), .int (iv x1), .int (iv x2)]) (c_X7_add ω l μ 26 x1 x2 P (by unfold ir; omega) (by unfold ir; omega) (by unfold ir; omega) hI (by omega) (by omega)) (wm 3 226 rfl rfl) (wm 3 228 rfl rfl) (wm 0 21 rfl rfl) rfl rfl (by decide) rfl (wm 1 12 rfl rfl) (wm 3 229 rfl rfl) (by decide) hR (by decide) (n := 3) rfl rfl (Nat.le_of_ble_eq_true rfl) hl.1 dX7_ifFails_13 (fun r_6 μ5 ρ d0 H locs hr_r_6 hp G => ?_)
    have hr_r_6 : -2147483648 ≤ r_6 ∧ r_6 ≤ 2147483647 := hr_r_6
    obtain ⟨F_7, hI_8, hp_9, hp_10, hs_11, hs_12⟩ := hp
    refine lv_goto (tgt := 20) hx hb dX7_ifFails_16 (by decide) ?_
    have e_13 : μ5.1 P 1 = μ.1 P 1 + 1 := hs_11
    have e_14 : μ5.1 P 1 = μ.1 P 1 + 1 := hs_11
    have e_15 : μ5.1 P 7 = μ.1 P 7 := hs_12
    exact xr_i G (x := r_6) hret hlk (by unfold ir; omega) rfl dX7_ifFails_20 ⟨(Fr.tr Fr.rf F_7 (by simp)), hI_8, (fun h0 => by rw [show r_6 = μ.1 P 1 by omega]; exact (hpx h0).iff he1 hp_10 hx2b hew), (by omega), (by omega)⟩

set_option maxHeartbeats 4000000 in
set_option maxRecDepth 100000 in
theorem c_X7_cellParts_c (ω : Om) (l : Launch) (μ : M3) (x1 : Int) (F : Nat) (Lo : Nat) (Fu : Nat) (Lu : Nat) (kf : Int) (P : Int) (tt : Int) (hx1 : ir x1) (hI : IC μ) (hP : P = μ.1 23 2) (htt : tt = μ.1 23 8) (hF : 60 ≤ F) (hLo : 2000 ≤ Lo) (hFu : Fu ≤ F) (hLu : Lu ≤ Lo) (hE : ∀ (μ : M3) (x1 : Int) (P : Int) (tt : Int) (hx1 : x1 = 0 ∨ x1 = 1) (hI : IC μ) (hP : P = μ.1 23 2) (htt : tt = μ.1 23 8) (hTK : TK μ) (hB : 2 * μ.1 P 1 ≤ 5 * μ.1 26 10 + 200 + 80 * μ.1 26 11) (hKc : μ.1 (P + 2) 3 ≤ μ.1 P 1) (ht3 : 0 ≤ tt ∧ tt ≤ 3) (hdp : 0 ≤ μ.1 23 9 ∧ μ.1 23 9 ≤ 8 + μ.1 26 11) (hfu : 0 ≤ (kf - 1) ∧ 9 ≤ μ.1 23 9 + (kf - 1) + 20 * μ.1 26 11) (hbg : ∀ _ : Unit, x1 = 0 ∨ μ.1 26 11 ≠ 0 ∨ 2 ≤ hs μ P (μ.1 P 1)), CtV ω l yX7_expression cX7_expression 3 (F + 0) (Lo + 0) [.ref (oP ω 23), .int (iv x1)] μ (fun (μ' : M3) => (Fr [2, 3, 4, 23, 24, 26, P, P + 1, P + 2, (P + 2) + 1, (P + 2) + 2, (P + 2) + 3] μ μ') ∧ (IC μ') ∧ (TK μ') ∧ (μ.1 26 11 ≤ μ'.1 26 11) ∧ (μ.1 26 10 ≤ μ'.1 26 10) ∧ (μ.1 P 1 ≤ μ'.1 P 1 ∧ μ'.1 P 1 ≤ μ.1 P 1 + 2 * (μ'.1 26 10 - μ.1 26 10) + (- 1 + 3 * μ'.1 26 11 - 2 * μ.1 26 11 + x1)) ∧ (μ'.1 (P + 2) 3 - μ.1 (P + 2) 3 ≤ μ'.1 P 1 - μ.1 P 1 ∧ μ.1 (P + 2) 3 ≤ μ'.1 (P + 2) 3) ∧ (μ'.1 26 11 = 0 → EX μ μ' P tt (1 - x1) 0) ∧ (μ'.1 23 2 = μ.1 23 2) ∧ (μ'.1 23 5 = μ.1 23 5) ∧ (μ'.1 23 6 = μ.1 23 6) ∧ (μ'.1 23 7 = μ.1 23 7) ∧ (μ'.1 23 8 = μ.1 23 8) ∧ (μ'.1 23 9 = μ.1 23 9) ∧ (μ'.1 23 10 = μ.1 23 10) ∧ (μ'.1 26 6 = μ.1 26 6) ∧ (μ'.1 P 7 = μ.1 P 7))) (hU : ∀ (μ : M3) (x1 : Int) (P : Int) (tt : Int) (hx1 : x1 = 0 ∨ x1 = 1) (hI : IC μ) (hP : P = μ.1 23 2) (htt : tt = μ.1 23 8) (hTK : TK μ) (hB : 2 * μ.1 P 1 ≤ 5 * μ.1 26 10 + 200 + 80 * μ.1 26 11) (hKc : μ.1 (P + 2) 3 ≤ μ.1 P 1) (ht3 : 0 ≤ tt ∧ tt ≤ 3) (hdp : 0 ≤ μ.1 23 9 ∧ μ.1 23 9 ≤ 8 + μ.1 26 11) (hfu : 0 ≤ (kf - 1) ∧ 9 ≤ μ.1 23 9 + (kf - 1) + 20 * μ.1 26 11) (hbg : ∀ _ : Unit, x1 = 0 ∨ μ.1 26 11 ≠ 0 ∨ 2 ≤ hs μ P (μ.1 P 1)), CtV ω l yX7_unary cX7_unary 2 (Fu + 0) (Lu + 0) [.ref (oP ω 23), .int (iv x1)] μ (fun (μ' : M3) => (Fr [2, 3, 4, 23, 24, 26, P, P + 1, P + 2, (P + 2) + 1, (P + 2) + 2, (P + 2) + 3] μ μ') ∧ (IC μ') ∧ (TK μ') ∧ (μ.1 26 11 ≤ μ'.1 26 11) ∧ (μ.1 26 10 ≤ μ'.1 26 10) ∧ (μ.1 P 1 ≤ μ'.1 P 1 ∧ μ'.1 P 1 ≤ μ.1 P 1 + 2 * (μ'.1 26 10 - μ.1 26 10) + (- 1 + 3 * μ'.1 26 11 - 2 * μ.1 26 11 + x1)) ∧ (μ'.1 (P + 2) 3 - μ.1 (P + 2) 3 ≤ μ'.1 P 1 - μ.1 P 1 ∧ μ.1 (P + 2) 3 ≤ μ'.1 (P + 2) 3) ∧ (μ'.1 26 11 = 0 → EX μ μ' P tt (1 - x1) 0) ∧ (μ'.1 23 2 = μ.1 23 2) ∧ (μ'.1 23 5 = μ.1 23 5) ∧ (μ'.1 23 6 = μ.1 23 6) ∧ (μ'.1 23 7 = μ.1 23 7) ∧ (μ'.1 23 8 = μ.1 23 8) ∧ (μ'.1 23 9 = μ.1 23 9) ∧ (μ'.1 23 10 = μ.1 23 10) ∧ (μ'.1 26 6 = μ.1 26 6) ∧ (μ'.1 P 7 = μ.1 P 7))) (hTK : TK μ) (hB : 2 * μ.1 P 1 ≤ 5 * μ.1 26 10 + 195 + 80 * μ.1 26 11) (hKc : μ.1 (P + 2) 3 ≤ μ.1 P 1) (ht3 : 0 ≤ tt ∧ tt ≤ 3) (hdp : 0 ≤ μ.1 23 9 ∧ μ.1 23 9 ≤ 8) (hfu : 9 ≤ μ.1 23 9 + kf) (hx1b : 0 ≤ x1 ∧ x1 ≤ 1000) : CtI ω l yX7_cellParts cX7_cellParts 3 .int (F + 2) (Lo + 44) [.ref (oP ω 23), .int (iv x1)] μ (fun (r : Int) (μ' : M3) => (Fr [2, 3, 4, 23, 24, 26, P, P + 1, P + 2, (P + 2) + 1, (P + 2) + 2, (P + 2) + 3] μ μ') ∧ (IC μ') ∧ (TK μ') ∧ (μ.1 26 11 ≤ μ'.1 26 11) ∧ (μ.1 26 10 ≤ μ'.1 26 10) ∧ (μ.1 P 1 ≤ μ'.1 P 1 ∧ μ'.1 P 1 ≤ μ.1 P 1 + 2 * (μ'.1 26 10 - μ.1 26 10) + (- 2 + 5 * μ'.1 26 11)) ∧ (μ'.1 (P + 2) 3 - μ.1 (P + 2) 3 ≤ μ'.1 P 1 - μ.1 P 1 ∧ μ.1 (P + 2) 3 ≤ μ'.1 (P + 2) 3) ∧ (μ'.1 26 11 = 0 → PXC μ μ' P tt 2 r 1) ∧ (μ'.1 23 2 = μ.1 23 2) ∧ (μ'.1 23 5 = μ.1 23 5) ∧ (μ'.1 23 6 = μ.1 23 6) ∧ (μ'.1 23 7 = μ.1 23 7) ∧ (μ'.1 23 8 = μ.1 23 8) ∧ (μ'.1 23 9 = μ.1 23 9) ∧ (μ'.1 23 10 = μ.1 23 10) ∧ (μ'.1 26 6 = μ.1 26 6) ∧ (μ'.1 P 7 = μ.1 P 7)) := by
  refine CtI.go (by decide) (Nat.le_of_ble_eq_true rfl) (fun ρ p e s m below meth c R ls G hR hret hlk hl => ?_)
  have hx := G.1.1
  have hb := G.1.2.1
  have hl : lv_has ls 3 [(0, .ref (oP ω 23)), (1, .int (iv x1))] := hl
  generalize s.drawn = d0 at G ⊢
  have hr_x1 : -2147483648 ≤ x1 ∧ x1 ≤ 2147483647 := hx1
  have hTKb := hTK.b
  have hprP : isPr P := by have h9 := G.sr0.2.2.2.2.2; rw [← hP] at h9; exact h9
  have hprP_d : 13 ≤ P ∧ P ≤ 101 := by rcases hprP with h9 | h9 | h9 | h9 | h9 <;> omega
  have hk_1 := hI.pr (p := P) hprP
  unfold pk at hk_1
  have hc_2 : 16 ≤ μ.2.1 (P + 1) ∧ μ.2.1 (P + 1) ≤ 73024 := hI.rm.1 _ hprP.cap
  have hprP : isPr P := by have h9 := G.sr0.2.2.2.2.2; rw [← hP] at h9; exact h9
  have hprP_d : 13 ≤ P ∧ P ≤ 101 := by rcases hprP with h9 | h9 | h9 | h9 | h9 <;> omega
  have hnil : μ.1 26 11 = 0 → PXC μ μ P tt 0 (-1) 1 := fun _ => PXC.nil (by omega)
  refine lv_aload_n hx hb dX7_cellParts_0 rfl (lv_at hl 0 rfl) ?_
  refine lv_iconst (v := iv 4) hx hb dX7_cellParts_1 rfl ?_
  refine lv_iload_n hx hb dX7_cellParts_2 rfl (lv_at hl 1 rfl) ?_
  refine lv_iconst (v := iv 0) hx hb dX7_cellParts_3 rfl ?_
  have e_3 : μ.1 23 2 = P := hP.symm
  refine xc_iV G (b := 23) (rest := []) (As := [.int (iv 4), .int (iv x1), .int (iv 0)]) (c_X7_add ω l μ 4 x1 0 P (by unfold ir; omega) (by unfold ir; omega) (by unfold ir; omega) hI (by omega) (by omega)) (wm 3 226 rfl rfl) (wm 3 228 rfl rfl) (wm 0 21 rfl rfl) rfl rfl (by decide) rfl (wm 1 12 rfl rfl) (wm 3 229 rfl rfl) (by decide) hR ⟨nfr hF (by decide), nlo hLo (by decide)⟩ (n := 3) rfl rfl (Nat.le_of_ble_eq_true rfl) hl.1 dX7_cellParts_4 (fun r_5 μ4 ρ d0 H locs hr_r_5 hp G => ?_)
  have hr_r_5 : -2147483648 ≤ r_5 ∧ r_5 ≤ 2147483647 := hr_r_5
  obtain ⟨F_6, hI_7, hp_8, hp_9, hs_10, hs_11⟩ := hp
  have hpc_12 : μ4.1 26 11 = 0 → PXC μ μ4 P tt 1 (-1) 1 := fun h0 => (PXC.app (hnil (by have h9 : μ.1 26 11 = μ.1 26 11 := rfl; have h8 : μ4.1 26 11 = μ.1 26 11 := (F_6.1 26 (ni hprP (fun P => 26) (fun P => [P, P + 1]) rfl) 11); omega)) (EX.pl hp_9 (by omega) (by unfold plain; omega) (e := 1) rfl (by have h9 := hs_1 (μ := μ) (P := P) (i := μ.1 P 1); omega))).ee (by omega)
  refine lv_pop hx hb dX7_cellParts_7 rfl ?_
  refine lv_aload_n hx hb dX7_cellParts_8 rfl (lv_at hl 0 rfl) ?_
  refine lv_iconst (v := iv (-1)) hx hb dX7_cellParts_9 rfl ?_
  refine lv_iconst (v := iv 0) hx hb dX7_cellParts_10 rfl ?_
  have e_13 : μ4.1 23 2 = P := ((F_6.1 23 (ni hprP (fun P => 23) (fun P => [P, P + 1]) rfl) 2).trans hP.symm)
  have e_14 : μ4.1 23 8 = tt := ((F_6.1 23 (ni hprP (fun P => 23) (fun P => [P, P + 1]) rfl) 8).trans htt.symm)
  have e_15 : μ4.1 P 1 = μ.1 P 1 + 1 := hs_10
  have e_16 : μ4.1 P 1 = μ.1 P 1 + 1 := hs_10
  have e_17 : μ4.1 P 1 = μ.1 P 1 + 1 := hs_10
  refine xc_iV G (b := 23) (rest := []) (As := [.int (iv (-1)), .int (iv 0)]) (c_X7_ifFails_c ω l μ4 (-1) 0 μ (1) 1 P tt (by unfold ir; omega) (by unfold ir; omega) hI_7 (by omega) (by omega) (by omega) hpc_12 (by omega) (by omega) (by omega)) (wm 4 23 rfl rfl) (wm 4 25 rfl rfl) (wm 0 29 rfl rfl) rfl rfl (by decide) rfl (wm 1 12 rfl rfl) (wm 4 26 rfl rfl) (by decide) hR ⟨nfr hF (by decide), nlo hLo (by decide)⟩ (n := 2) rfl rfl (Nat.le_of_ble_eq_true rfl) hl.1 dX7_cellParts_11 (fun r_19 μ18 ρ d0 H locs hr_r_19 hp G => ?_)
  have hr_r_19 : -2147483648 ≤ r_19 ∧ r_19 ≤ 2147483647 := hr_r_19
  obtain ⟨F_20, hI_21, hp_22, hp_23, hs_24⟩ := hp
  have hk_25 := hI_21.pr (p := P) hprP
  unfold pk at hk_25
  have hc_26 : 16 ≤ μ18.2.1 (P + 1) ∧ μ18.2.1 (P + 1) ≤ 73024 := hI_21.rm.1 _ hprP.cap
  have hpc_27 : μ18.1 26 11 = 0 → PXC μ μ18 P tt 1 r_19 1 := fun h0 => hp_22 (by have h9 : μ4.1 26 11 = μ.1 26 11 := (F_6.1 26 (ni hprP (fun P => 26) (fun P => [P, P + 1]) rfl) 11); have h8 : μ18.1 26 11 = μ.1 26 11 := ((F_20.1 26 (ni hprP (fun P => 26) (fun P => [P, P + 1]) rfl) 11).trans (F_6.1 26 (ni hprP (fun P => 26) (fun P => [P, P + 1]) rfl) 11)); omega)
  refine lv_istore_n (lv' := [(2, .int (iv r_19)), (0, .ref (oP ω 23)), (1, .int (iv x1))]) hx hb dX7_cellParts_14 rfl hl (by decide) rfl (fun ls hl => ?_)
  refine lv_aload_n hx hb dX7_cellParts_15 rfl (lv_at hl 1 rfl) ?_
  refine lv_bipush (v := iv 91) hx hb dX7_cellParts_16 rfl ?_
  refine lv_bipush (v := iv 93) hx hb dX7_cellParts_18 rfl ?_
  have e_28 : μ18.1 23 2 = P := ((F_20.1 23 (ni hprP (fun P => 23) (fun P => [P, P + 1]) rfl) 2).trans ((F_6.1 23 (ni hprP (fun P => 23) (fun P => [P, P + 1]) rfl) 2).trans hP.symm))
  have e_29 : μ18.1 23 8 = tt := ((F_20.1 23 (ni hprP (fun P => 23) (fun P => [P, P + 1]) rfl) 8).trans ((F_6.1 23 (ni hprP (fun P => 23) (fun P => [P, P + 1]) rfl) 8).trans htt.symm))
  have htk_30 : TK μ18 := hTK.fr (K := [P, P + 1]) (Fr.tr (Fr.tr Fr.rf F_6 (si hprP (fun P => [P, P + 1]) (fun P => [P, P + 1]) rfl)) F_20 (si hprP (fun P => [P, P + 1]) (fun P => [P, P + 1]) rfl)) (ni hprP (fun P => 26) (fun P => [P, P + 1]) rfl) (ni hprP (fun P => 28) (fun P => [P, P + 1]) rfl) (ni hprP (fun P => 29) (fun P => [P, P + 1]) rfl)
  have hn_31 : -1 ≤ μ.1 26 10 ∧ μ.1 26 10 ≤ 3000 := hI.nm.2.2.2.2.2.2.2.2.2.2.2.2
  have e_32 : μ18.1 26 10 = μ.1 26 10 := ((F_20.1 26 (ni hprP (fun P => 26) (fun P => [P, P + 1]) rfl) 10).trans (F_6.1 26 (ni hprP (fun P => 26) (fun P => [P, P + 1]) rfl) 10))
  have e_33 : μ18.1 26 11 = μ.1 26 11 := ((F_20.1 26 (ni hprP (fun P => 26) (fun P => [P, P + 1]) rfl) 11).trans (F_6.1 26 (ni hprP (fun P => 26) (fun P => [P, P + 1]) rfl) 11))
  have hk_34 := hI.row (r := P + 2) (hprP.row)
  unfold rk at hk_34
  have e_35 : μ18.1 (P + 2) 3 = μ.1 (P + 2) 3 := ((F_20.1 (P + 2) (ni hprP (fun P => P + 2) (fun P => [P, P + 1]) rfl) 3).trans (F_6.1 (P + 2) (ni hprP (fun P => P + 2) (fun P => [P, P + 1]) rfl) 3))
  have e_36 : μ18.1 23 9 = μ.1 23 9 := ((F_20.1 23 (ni hprP (fun P => 23) (fun P => [P, P + 1]) rfl) 9).trans (F_6.1 23 (ni hprP (fun P => 23) (fun P => [P, P + 1]) rfl) 9))
  have e_37 : μ18.1 23 9 = μ.1 23 9 := ((F_20.1 23 (ni hprP (fun P => 23) (fun P => [P, P + 1]) rfl) 9).trans (F_6.1 23 (ni hprP (fun P => 23) (fun P => [P, P + 1]) rfl) 9))
  have e_38 : μ18.1 23 9 = μ.1 23 9 := ((F_20.1 23 (ni hprP (fun P => 23) (fun P => [P, P + 1]) rfl) 9).trans (F_6.1 23 (ni hprP (fun P => 23) (fun P => [P, P + 1]) rfl) 9))
  have e_39 : μ18.1 26 11 = μ.1 26 11 := ((F_20.1 26 (ni hprP (fun P => 26) (fun P => [P, P + 1]) rfl) 11).trans (F_6.1 26 (ni hprP (fun P => 26) (fun P => [P, P + 1]) rfl) 11))
  have e_40 : μ18.1 26 10 = μ.1 26 10 := ((F_20.1 26 (ni hprP (fun P => 26) (fun P => [P, P + 1]) rfl) 10).trans (F_6.1 26 (ni hprP (fun P => 26) (fun P => [P, P + 1]) rfl) 10))
  have e_41 : μ18.1 26 10 = μ.1 26 10 := ((F_20.1 26 (ni hprP (fun P => 26) (fun P => [P, P + 1]) rfl) 10).trans (F_6.1 26 (ni hprP (fun P => 26) (fun P => [P, P + 1]) rfl) 10))
  have e_42 : μ18.1 (P + 2) 3 = μ.1 (P + 2) 3 := ((F_20.1 (P + 2) (ni hprP (fun P => P + 2) (fun P => [P, P + 1]) rfl) 3).trans (F_6.1 (P + 2) (ni hprP (fun P => P + 2) (fun P => [P, P + 1]) rfl) 3))
  have e_43 : μ18.1 (P + 2) 3 = μ.1 (P + 2) 3 := ((F_20.1 (P + 2) (ni hprP (fun P => P + 2) (fun P => [P, P + 1]) rfl) 3).trans (F_6.1 (P + 2) (ni hprP (fun P => P + 2) (fun P => [P, P + 1]) rfl) 3))
  refine xc_vV G (b := 23) (rest := []) (As := [.int (iv 91), .int (iv 93)]) (c_X7_inBrackets ω l μ18 91 93 F Lo Fu Lu kf P tt (by unfold ir; omega) (by unfold ir; omega) hI_21 (by omega) (by omega) hF hLo hFu hLu hE hU htk_30 (by omega) (by omega) (by omega) (by omega) (by omega) (by omega) (by omega)) (wm 4 92 rfl rfl) (wm 4 94 rfl rfl) (wm 0 39 rfl rfl) rfl rfl (by decide) rfl (wm 1 12 rfl rfl) (wm 4 95 rfl rfl) (by decide) hR ⟨sfr (F := F) (a := 1) (by decide), slo (L := Lo) (m := 3) (a := 22) (by decide)⟩ (n := 2) rfl rfl (Nat.le_of_ble_eq_true rfl) hl.1 dX7_cellParts_20 (fun μ44 ρ d0 H locs hp G => ?_)
  obtain ⟨F_45, hI_46, hp_47, hp_48, hp_49, hp_50, hp_51, hp_52, hs_53, hs_54, hs_55, hs_56, hs_57, hs_58, hs_59, hs_60, hs_61⟩ := hp
  have hn_62 : -1 ≤ μ44.1 26 10 ∧ μ44.1 26 10 ≤ 3000 := hI_46.nm.2.2.2.2.2.2.2.2.2.2.2.2
  have hk_63 := hI_46.pr (p := P) hprP
  unfold pk at hk_63
  have hc_64 : 16 ≤ μ44.2.1 (P + 1) ∧ μ44.2.1 (P + 1) ≤ 73024 := hI_46.rm.1 _ hprP.cap
  have hk_65 := hI_46.row (r := P + 2) (hprP.row)
  unfold rk at hk_65
  have htb_66 := hp_47.b
  have hpc_67 : μ44.1 26 11 = 0 → PXC μ μ44 P tt 2 r_19 1 := fun h0 => (PXC.app (hpc_27 (by have h9 : μ18.1 26 11 = μ.1 26 11 := ((F_20.1 26 (ni hprP (fun P => 26) (fun P => [P, P + 1]) rfl) 11).trans (F_6.1 26 (ni hprP (fun P => 26) (fun P => [P, P + 1]) rfl) 11)); have h8 : μ44.1 26 11 = μ44.1 26 11 := rfl; omega)) (hp_52 h0)).ee (by omega)
  refine lv_aload_n hx hb dX7_cellParts_23 rfl (lv_at hl 1 rfl) ?_
  refine lv_iload_n hx hb dX7_cellParts_24 rfl (lv_at hl 0 rfl) ?_
  refine lv_iconst (v := iv 1) hx hb dX7_cellParts_25 rfl ?_
  have e_68 : μ44.1 23 2 = P := (hs_53.trans ((F_20.1 23 (ni hprP (fun P => 23) (fun P => [P, P + 1]) rfl) 2).trans ((F_6.1 23 (ni hprP (fun P => 23) (fun P => [P, P + 1]) rfl) 2).trans hP.symm)))
  have e_69 : μ44.1 23 8 = tt := (hs_57.trans ((F_20.1 23 (ni hprP (fun P => 23) (fun P => [P, P + 1]) rfl) 8).trans ((F_6.1 23 (ni hprP (fun P => 23) (fun P => [P, P + 1]) rfl) 8).trans htt.symm)))
  refine xc_iV G (b := 23) (rest := []) (As := [.int (iv r_19), .int (iv 1)]) (c_X7_ifFails_c ω l μ44 r_19 1 μ (2) 1 P tt (by unfold ir; omega) (by unfold ir; omega) hI_46 (by omega) (by omega) (by omega) hpc_67 (by omega) (by omega) (by omega)) (wm 4 23 rfl rfl) (wm 4 25 rfl rfl) (wm 0 29 rfl rfl) rfl rfl (by decide) rfl (wm 1 12 rfl rfl) (wm 4 26 rfl rfl) (by decide) hR ⟨nfr hF (by decide), nlo hLo (by decide)⟩ (n := 2) rfl rfl (Nat.le_of_ble_eq_true rfl) hl.1 dX7_cellParts_26 (fun r_71 μ70 ρ d0 H locs hr_r_71 hp G => ?_)
  have hr_r_71 : -2147483648 ≤ r_71 ∧ r_71 ≤ 2147483647 := hr_r_71
  obtain ⟨F_72, hI_73, hp_74, hp_75, hs_76⟩ := hp
  have hk_77 := hI_73.pr (p := P) hprP
  unfold pk at hk_77
  have hc_78 : 16 ≤ μ70.2.1 (P + 1) ∧ μ70.2.1 (P + 1) ≤ 73024 := hI_73.rm.1 _ hprP.cap
  have hpc_79 : μ70.1 26 11 = 0 → PXC μ μ70 P tt 2 r_71 1 := fun h0 => hp_74 (by have h9 : μ44.1 26 11 = μ44.1 26 11 := rfl; have h8 : μ70.1 26 11 = μ44.1 26 11 := (F_72.1 26 (ni hprP (fun P => 26) (fun P => [P, P + 1]) rfl) 11); omega)
  have e_80 : μ70.1 26 11 = μ44.1 26 11 := (F_72.1 26 (ni hprP (fun P => 26) (fun P => [P, P + 1]) rfl) 11)
  have htk_81 : TK μ70 := hp_47.fr (K := [P, P + 1]) (Fr.tr Fr.rf F_72 (si hprP (fun P => [P, P + 1]) (fun P => [P, P + 1]) rfl)) (ni hprP (fun P => 26) (fun P => [P, P + 1]) rfl) (ni hprP (fun P => 28) (fun P => [P, P + 1]) rfl) (ni hprP (fun P => 29) (fun P => [P, P + 1]) rfl)
  have e_82 : μ70.1 26 11 = μ44.1 26 11 := (F_72.1 26 (ni hprP (fun P => 26) (fun P => [P, P + 1]) rfl) 11)
  have e_83 : μ70.1 26 10 = μ44.1 26 10 := (F_72.1 26 (ni hprP (fun P => 26) (fun P => [P, P + 1]) rfl) 10)
  have e_84 : μ70.1 26 10 = μ44.1 26 10 := (F_72.1 26 (ni hprP (fun P => 26) (fun P => [P, P + 1]) rfl) 10)
  have e_85 : μ70.1 26 11 = μ44.1 26 11 := (F_72.1 26 (ni hprP (fun P => 26) (fun P => [P, P + 1]) rfl) 11)
  have e_86 : μ70.1 (P + 2) 3 = μ44.1 (P + 2) 3 := (F_72.1 (P + 2) (ni hprP (fun P => P + 2) (fun P => [P, P + 1]) rfl) 3)
  have e_87 : μ70.1 (P + 2) 3 = μ44.1 (P + 2) 3 := (F_72.1 (P + 2) (ni hprP (fun P => P + 2) (fun P => [P, P + 1]) rfl) 3)
  exact xr_i G (x := r_71) hret hlk (by unfold ir; omega) rfl dX7_cellParts_29 ⟨(Fr.tr (Fr.tr (Fr.tr (Fr.tr Fr.rf F_6 (si hprP (fun P => [P, P + 1]) (fun P => [2, 3, 4, 23, 24, 26, P, P + 1, P + 2, (P + 2) + 1, (P + 2) + 2, (P + 2) + 3]) rfl)) F_20 (si hprP (fun P => [P, P + 1]) (fun P => [2, 3, 4, 23, 24, 26, P, P + 1, P + 2, (P + 2) + 1, (P + 2) + 2, (P + 2) + 3]) rfl)) F_45 (si hprP (fun P => [2, 3, 4, 23, 24, 26, P, P + 1, P + 2, (P + 2) + 1, (P + 2) + 2, (P + 2) + 3]) (fun P => [2, 3, 4, 23, 24, 26, P, P + 1, P + 2, (P + 2) + 1, (P + 2) + 2, (P + 2) + 3]) rfl)) F_72 (si hprP (fun P => [P, P + 1]) (fun P => [2, 3, 4, 23, 24, 26, P, P + 1, P + 2, (P + 2) + 1, (P + 2) + 2, (P + 2) + 3]) rfl)), hI_73, htk_81, (by omega), (by omega), (by omega), (by omega), hpc_79, (((F_72.1 23 (ni hprP (fun P => 23) (fun P => [P, P + 1]) rfl) 2).trans (hs_53.trans ((F_20.1 23 (ni hprP (fun P => 23) (fun P => [P, P + 1]) rfl) 2).trans ((F_6.1 23 (ni hprP (fun P => 23) (fun P => [P, P + 1]) rfl) 2).trans hP.symm))))).trans hP, ((F_72.1 23 (ni hprP (fun P => 23) (fun P => [P, P + 1]) rfl) 5).trans (hs_54.trans ((F_20.1 23 (ni hprP (fun P => 23) (fun P => [P, P + 1]) rfl) 5).trans (F_6.1 23 (ni hprP (fun P => 23) (fun P => [P, P + 1]) rfl) 5)))), ((F_72.1 23 (ni hprP (fun P => 23) (fun P => [P, P + 1]) rfl) 6).trans (hs_55.trans ((F_20.1 23 (ni hprP (fun P => 23) (fun P => [P, P + 1]) rfl) 6).trans (F_6.1 23 (ni hprP (fun P => 23) (fun P => [P, P + 1]) rfl) 6)))), ((F_72.1 23 (ni hprP (fun P => 23) (fun P => [P, P + 1]) rfl) 7).trans (hs_56.trans ((F_20.1 23 (ni hprP (fun P => 23) (fun P => [P, P + 1]) rfl) 7).trans (F_6.1 23 (ni hprP (fun P => 23) (fun P => [P, P + 1]) rfl) 7)))), (((F_72.1 23 (ni hprP (fun P => 23) (fun P => [P, P + 1]) rfl) 8).trans (hs_57.trans ((F_20.1 23 (ni hprP (fun P => 23) (fun P => [P, P + 1]) rfl) 8).trans ((F_6.1 23 (ni hprP (fun P => 23) (fun P => [P, P + 1]) rfl) 8).trans htt.symm))))).trans htt, ((F_72.1 23 (ni hprP (fun P => 23) (fun P => [P, P + 1]) rfl) 9).trans (hs_58.trans ((F_20.1 23 (ni hprP (fun P => 23) (fun P => [P, P + 1]) rfl) 9).trans (F_6.1 23 (ni hprP (fun P => 23) (fun P => [P, P + 1]) rfl) 9)))), ((F_72.1 23 (ni hprP (fun P => 23) (fun P => [P, P + 1]) rfl) 10).trans (hs_59.trans ((F_20.1 23 (ni hprP (fun P => 23) (fun P => [P, P + 1]) rfl) 10).trans (F_6.1 23 (ni hprP (fun P => 23) (fun P => [P, P + 1]) rfl) 10)))), ((F_72.1 26 (ni hprP (fun P => 26) (fun P => [P, P + 1]) rfl) 6).trans (hs_60.trans ((F_20.1 26 (ni hprP (fun P => 26) (fun P => [P, P + 1]) rfl) 6).trans (F_6.1 26 (ni hprP (fun P => 26) (fun P => [P, P + 1]) rfl) 6)))), (hs_76.trans (hs_61.trans (hs_24.trans hs_11)))⟩
theorem c_X7_cellParts_ca (ω : Om) (l : Launch) (μ : M3) (x1 : Int) (P : Int) (tt : Int) (hx1 : ir x1) (hI : IC μ) (hP : P = μ.1 23 2) (htt : tt = μ.1 23 8) (hTK : TK μ) (hB : 2 * μ.1 P 1 ≤ 5 * μ.1 26 10 + 195 + 80 * μ.1 26 11) (hKc : μ.1 (P + 2) 3 ≤ μ.1 P 1) (ht3 : 0 ≤ tt ∧ tt ≤ 3) (hdp : 0 ≤ μ.1 23 9 ∧ μ.1 23 9 ≤ 8) (hx1b : 0 ≤ x1 ∧ x1 ≤ 1000) : CtI ω l yX7_cellParts cX7_cellParts 3 .int 152 4104 [.ref (oP ω 23), .int (iv x1)] μ (fun (r : Int) (μ' : M3) => (Fr [2, 3, 4, 23, 24, 26, P, P + 1, P + 2, (P + 2) + 1, (P + 2) + 2, (P + 2) + 3] μ μ') ∧ (IC μ') ∧ (TK μ') ∧ (μ.1 26 11 ≤ μ'.1 26 11) ∧ (μ.1 26 10 ≤ μ'.1 26 10) ∧ (μ.1 P 1 ≤ μ'.1 P 1 ∧ μ'.1 P 1 ≤ μ.1 P 1 + 2 * (μ'.1 26 10 - μ.1 26 10) + (- 2 + 5 * μ'.1 26 11)) ∧ (μ'.1 (P + 2) 3 - μ.1 (P + 2) 3 ≤ μ'.1 P 1 - μ.1 P 1 ∧ μ.1 (P + 2) 3 ≤ μ'.1 (P + 2) 3) ∧ (μ'.1 26 11 = 0 → PXC μ μ' P tt 2 r 1) ∧ (μ'.1 23 2 = μ.1 23 2) ∧ (μ'.1 23 5 = μ.1 23 5) ∧ (μ'.1 23 6 = μ.1 23 6) ∧ (μ'.1 23 7 = μ.1 23 7) ∧ (μ'.1 23 8 = μ.1 23 8) ∧ (μ'.1 23 9 = μ.1 23 9) ∧ (μ'.1 23 10 = μ.1 23 10) ∧ (μ'.1 26 6 = μ.1 26 6) ∧ (μ'.1 P 7 = μ.1 P 7)) := by
  obtain ⟨hE9, Fu, Lu, h1, h2, hU9⟩ := lv_10 ω l
  unfold LvE at hE9
  unfold LvU at hU9
  exact c_X7_cellParts_c ω l μ x1 150 4060 Fu Lu 10 P tt hx1 hI hP htt (by omega) (by omega) h1 h2 hE9 hU9 hTK hB hKc ht3 hdp (by omega) hx1b

theorem c_X7_afterName_a (ω : Om) (l : Launch) (μ : M3) (x1 : Int) (x2 : Int) (P : Int) (tt : Int) (hx1 : jr x1) (hx2 : ir x2) (hI : IC μ) (hP : P = μ.1 23 2) (htt : tt = μ.1 23 8) (hTK : TK μ) (hB : 2 * μ.1 P 1 ≤ 5 * μ.1 26 10 + 195 + 80 * μ.1 26 11) (hKc : μ.1 (P + 2) 3 ≤ μ.1 P 1) (ht3 : 0 ≤ tt ∧ tt ≤ 3) (hdp : 0 ≤ μ.1 23 9 ∧ μ.1 23 9 ≤ 8) (hs0 : μ.1 26 11 = 0) : CtV ω l yX7_afterName cX7_afterName 5 153 4126 [.ref (oP ω 23), .long (jv x1), .int (iv x2)] μ (fun (μ' : M3) => (Fr [2, 3, 4, 23, 24, 26, P, P + 1, P + 2, (P + 2) + 1, (P + 2) + 2, (P + 2) + 3] μ μ') ∧ (IC μ') ∧ (TK μ') ∧ (μ.1 26 11 ≤ μ'.1 26 11) ∧ (μ.1 26 10 ≤ μ'.1 26 10) ∧ (μ.1 P 1 ≤ μ'.1 P 1 ∧ μ'.1 P 1 ≤ μ.1 P 1 + 2 * (μ'.1 26 10 - μ.1 26 10) + (1 + 3 * μ'.1 26 11)) ∧ (μ'.1 (P + 2) 3 - μ.1 (P + 2) 3 ≤ μ'.1 P 1 - μ.1 P 1 ∧ μ.1 (P + 2) 3 ≤ μ'.1 (P + 2) 3) ∧ (μ'.1 26 11 = 0 → EX μ μ' P tt 1 0) ∧ (μ'.1 23 2 = μ.1 23 2) ∧ (μ'.1 23 5 = μ.1 23 5) ∧ (μ'.1 23 6 = μ.1 23 6) ∧ (μ'.1 23 7 = μ.1 23 7) ∧ (μ'.1 23 8 = μ.1 23 8) ∧ (μ'.1 23 9 = μ.1 23 9) ∧ (μ'.1 23 10 = μ.1 23 10) ∧ (μ'.1 26 6 = μ.1 26 6) ∧ (μ'.1 P 7 = μ.1 P 7)) := by
  obtain ⟨hE9, Fu, Lu, h1, h2, hU9⟩ := lv_10 ω l
  unfold LvE at hE9
  unfold LvU at hU9
  exact c_X7_afterName ω l μ x1 x2 150 4060 Fu Lu 10 P tt hx1 hx2 hI hP htt (by omega) (by omega) h1 h2 hE9 hU9 hTK hB hKc ht3 hdp (by omega) hs0
