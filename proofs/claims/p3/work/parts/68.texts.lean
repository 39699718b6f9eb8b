abbrev cX7_kindUnder : ByteArray := prog_9_method_13_code
def yX7_kindUnder : MethodName := ⟨RX7, "kindUnder", "()V"⟩
abbrev cX7_parameters : ByteArray := prog_9_method_16_code
def yX7_parameters : MethodName := ⟨RX7, "parameters", "()V"⟩
abbrev cX7_parameter : ByteArray := prog_9_method_17_code
def yX7_parameter : MethodName := ⟨RX7, "parameter", "()V"⟩
theorem dX7_kindUnder_0 : decode cX7_kindUnder 0 = .ok (.aload_n 0, 1) := by decide +kernel
theorem dX7_kindUnder_1 : decode cX7_kindUnder 1 = .ok (.invokevirtual 118, 3) := by decide +kernel
theorem dX7_kindUnder_4 : decode cX7_kindUnder 4 = .ok (.istore_n 1, 1) := by decide +kernel
theorem dX7_kindUnder_5 : decode cX7_kindUnder 5 = .ok (.aload_n 0, 1) := by decide +kernel
theorem dX7_kindUnder_6 : decode cX7_kindUnder 6 = .ok (.sipush 201, 3) := by decide +kernel
theorem dX7_kindUnder_9 : decode cX7_kindUnder 9 = .ok (.invokevirtual 100, 3) := by decide +kernel
theorem dX7_kindUnder_12 : decode cX7_kindUnder 12 = .ok (.aload_n 0, 1) := by decide +kernel
theorem dX7_kindUnder_13 : decode cX7_kindUnder 13 = .ok (.getfield 43, 3) := by decide +kernel
theorem dX7_kindUnder_16 : decode cX7_kindUnder 16 = .ok (.getfield 96, 3) := by decide +kernel
theorem dX7_kindUnder_19 : decode cX7_kindUnder 19 = .ok (.istore_n 2, 1) := by decide +kernel
theorem dX7_kindUnder_20 : decode cX7_kindUnder 20 = .ok (.aload_n 0, 1) := by decide +kernel
theorem dX7_kindUnder_21 : decode cX7_kindUnder 21 = .ok (.invokevirtual 118, 3) := by decide +kernel
theorem dX7_kindUnder_24 : decode cX7_kindUnder 24 = .ok (.istore_n 3, 1) := by decide +kernel
theorem dX7_kindUnder_25 : decode cX7_kindUnder 25 = .ok (.iload_n 1, 1) := by decide +kernel
theorem dX7_kindUnder_26 : decode cX7_kindUnder 26 = .ok (.ifCond .eq 37, 3) := by decide +kernel
theorem dX7_kindUnder_29 : decode cX7_kindUnder 29 = .ok (.iload_n 3, 1) := by decide +kernel
theorem dX7_kindUnder_30 : decode cX7_kindUnder 30 = .ok (.ifCond .eq 33, 3) := by decide +kernel
theorem dX7_kindUnder_33 : decode cX7_kindUnder 33 = .ok (.aload_n 0, 1) := by decide +kernel
theorem dX7_kindUnder_34 : decode cX7_kindUnder 34 = .ok (.getfield 47, 3) := by decide +kernel
theorem dX7_kindUnder_37 : decode cX7_kindUnder 37 = .ok (.iload_n 3, 1) := by decide +kernel
theorem dX7_kindUnder_38 : decode cX7_kindUnder 38 = .ok (.iload_n 1, 1) := by decide +kernel
theorem dX7_kindUnder_39 : decode cX7_kindUnder 39 = .ok (.invokevirtual 121, 3) := by decide +kernel
theorem dX7_kindUnder_42 : decode cX7_kindUnder 42 = .ok (.ifCond .eq 12, 3) := by decide +kernel
theorem dX7_kindUnder_45 : decode cX7_kindUnder 45 = .ok (.aload_n 0, 1) := by decide +kernel
theorem dX7_kindUnder_46 : decode cX7_kindUnder 46 = .ok (.iconst 3, 1) := by decide +kernel
theorem dX7_kindUnder_47 : decode cX7_kindUnder 47 = .ok (.iload_n 2, 1) := by decide +kernel
theorem dX7_kindUnder_48 : decode cX7_kindUnder 48 = .ok (.invokevirtual 127, 3) := by decide +kernel
theorem dX7_kindUnder_51 : decode cX7_kindUnder 51 = .ok (.goto 12, 3) := by decide +kernel
theorem dX7_kindUnder_54 : decode cX7_kindUnder 54 = .ok (.aload_n 0, 1) := by decide +kernel
theorem dX7_kindUnder_55 : decode cX7_kindUnder 55 = .ok (.getfield 47, 3) := by decide +kernel
theorem dX7_kindUnder_58 : decode cX7_kindUnder 58 = .ok (.iload_n 1, 1) := by decide +kernel
theorem dX7_kindUnder_59 : decode cX7_kindUnder 59 = .ok (.iload_n 3, 1) := by decide +kernel
theorem dX7_kindUnder_60 : decode cX7_kindUnder 60 = .ok (.invokevirtual 130, 3) := by decide +kernel
theorem dX7_kindUnder_63 : decode cX7_kindUnder 63 = .ok (.aload_n 0, 1) := by decide +kernel
theorem dX7_kindUnder_64 : decode cX7_kindUnder 64 = .ok (.bipush 59, 2) := by decide +kernel
theorem dX7_kindUnder_66 : decode cX7_kindUnder 66 = .ok (.invokevirtual 100, 3) := by decide +kernel
theorem dX7_kindUnder_69 : decode cX7_kindUnder 69 = .ok (.return_, 1) := by decide +kernel
theorem dX7_parameters_0 : decode cX7_parameters 0 = .ok (.aload_n 0, 1) := by decide +kernel
theorem dX7_parameters_1 : decode cX7_parameters 1 = .ok (.bipush 40, 2) := by decide +kernel
theorem dX7_parameters_3 : decode cX7_parameters 3 = .ok (.invokevirtual 164, 3) := by decide +kernel
theorem dX7_parameters_6 : decode cX7_parameters 6 = .ok (.aload_n 0, 1) := by decide +kernel
theorem dX7_parameters_7 : decode cX7_parameters 7 = .ok (.getfield 43, 3) := by decide +kernel
theorem dX7_parameters_10 : decode cX7_parameters 10 = .ok (.getfield 80, 3) := by decide +kernel
theorem dX7_parameters_13 : decode cX7_parameters 13 = .ok (.bipush 41, 2) := by decide +kernel
theorem dX7_parameters_15 : decode cX7_parameters 15 = .ok (.if_icmp .eq 35, 3) := by decide +kernel
theorem dX7_parameters_18 : decode cX7_parameters 18 = .ok (.aload_n 0, 1) := by decide +kernel
theorem dX7_parameters_19 : decode cX7_parameters 19 = .ok (.invokevirtual 167, 3) := by decide +kernel
theorem dX7_parameters_22 : decode cX7_parameters 22 = .ok (.iconst 0, 1) := by decide +kernel
theorem dX7_parameters_23 : decode cX7_parameters 23 = .ok (.istore_n 1, 1) := by decide +kernel
theorem dX7_parameters_24 : decode cX7_parameters 24 = .ok (.iload_n 1, 1) := by decide +kernel
theorem dX7_parameters_25 : decode cX7_parameters 25 = .ok (.sipush 3000, 3) := by decide +kernel
theorem dX7_parameters_28 : decode cX7_parameters 28 = .ok (.if_icmp .ge 22, 3) := by decide +kernel
theorem dX7_parameters_31 : decode cX7_parameters 31 = .ok (.aload_n 0, 1) := by decide +kernel
theorem dX7_parameters_32 : decode cX7_parameters 32 = .ok (.bipush 44, 2) := by decide +kernel
theorem dX7_parameters_34 : decode cX7_parameters 34 = .ok (.invokevirtual 83, 3) := by decide +kernel
theorem dX7_parameters_37 : decode cX7_parameters 37 = .ok (.ifCond .eq 13, 3) := by decide +kernel
theorem dX7_parameters_40 : decode cX7_parameters 40 = .ok (.aload_n 0, 1) := by decide +kernel
theorem dX7_parameters_41 : decode cX7_parameters 41 = .ok (.invokevirtual 167, 3) := by decide +kernel
theorem dX7_parameters_44 : decode cX7_parameters 44 = .ok (.iinc 1 1, 3) := by decide +kernel
theorem dX7_parameters_47 : decode cX7_parameters 47 = .ok (.goto (-23), 3) := by decide +kernel
theorem dX7_parameters_50 : decode cX7_parameters 50 = .ok (.aload_n 0, 1) := by decide +kernel
theorem dX7_parameters_51 : decode cX7_parameters 51 = .ok (.bipush 41, 2) := by decide +kernel
theorem dX7_parameters_53 : decode cX7_parameters 53 = .ok (.invokevirtual 170, 3) := by decide +kernel
theorem dX7_parameters_56 : decode cX7_parameters 56 = .ok (.return_, 1) := by decide +kernel
theorem dX7_parameter_0 : decode cX7_parameter 0 = .ok (.aload_n 0, 1) := by decide +kernel
theorem dX7_parameter_1 : decode cX7_parameter 1 = .ok (.getfield 43, 3) := by decide +kernel
theorem dX7_parameter_4 : decode cX7_parameter 4 = .ok (.getfield 133, 3) := by decide +kernel
theorem dX7_parameter_7 : decode cX7_parameter 7 = .ok (.lstore_n 1, 1) := by decide +kernel
theorem dX7_parameter_8 : decode cX7_parameter 8 = .ok (.aload_n 0, 1) := by decide +kernel
theorem dX7_parameter_9 : decode cX7_parameter 9 = .ok (.getfield 43, 3) := by decide +kernel
theorem dX7_parameter_12 : decode cX7_parameter 12 = .ok (.getfield 96, 3) := by decide +kernel
theorem dX7_parameter_15 : decode cX7_parameter 15 = .ok (.istore_n 3, 1) := by decide +kernel
theorem dX7_parameter_16 : decode cX7_parameter 16 = .ok (.aload_n 0, 1) := by decide +kernel
theorem dX7_parameter_17 : decode cX7_parameter 17 = .ok (.iconst 1, 1) := by decide +kernel
theorem dX7_parameter_18 : decode cX7_parameter 18 = .ok (.invokevirtual 100, 3) := by decide +kernel
theorem dX7_parameter_21 : decode cX7_parameter 21 = .ok (.aload_n 0, 1) := by decide +kernel
theorem dX7_parameter_22 : decode cX7_parameter 22 = .ok (.dup, 1) := by decide +kernel
theorem dX7_parameter_23 : decode cX7_parameter 23 = .ok (.getfield 23, 3) := by decide +kernel
theorem dX7_parameter_26 : decode cX7_parameter 26 = .ok (.iconst 1, 1) := by decide +kernel
theorem dX7_parameter_27 : decode cX7_parameter 27 = .ok (.iadd, 1) := by decide +kernel
theorem dX7_parameter_28 : decode cX7_parameter 28 = .ok (.putfield 23, 3) := by decide +kernel
theorem dX7_parameter_31 : decode cX7_parameter 31 = .ok (.aload_n 0, 1) := by decide +kernel
theorem dX7_parameter_32 : decode cX7_parameter 32 = .ok (.getfield 23, 3) := by decide +kernel
theorem dX7_parameter_35 : decode cX7_parameter 35 = .ok (.iconst 4, 1) := by decide +kernel
theorem dX7_parameter_36 : decode cX7_parameter 36 = .ok (.if_icmp .le 9, 3) := by decide +kernel
theorem dX7_parameter_39 : decode cX7_parameter 39 = .ok (.aload_n 0, 1) := by decide +kernel
theorem dX7_parameter_40 : decode cX7_parameter 40 = .ok (.iconst 2, 1) := by decide +kernel
theorem dX7_parameter_41 : decode cX7_parameter 41 = .ok (.iload_n 3, 1) := by decide +kernel
theorem dX7_parameter_42 : decode cX7_parameter 42 = .ok (.invokevirtual 127, 3) := by decide +kernel
theorem dX7_parameter_45 : decode cX7_parameter 45 = .ok (.aload_n 0, 1) := by decide +kernel
theorem dX7_parameter_46 : decode cX7_parameter 46 = .ok (.lload_n 1, 1) := by decide +kernel
theorem dX7_parameter_47 : decode cX7_parameter 47 = .ok (.invokevirtual 173, 3) := by decide +kernel
theorem dX7_parameter_50 : decode cX7_parameter 50 = .ok (.ifCond .lt 9, 3) := by decide +kernel
theorem dX7_parameter_53 : decode cX7_parameter 53 = .ok (.aload_n 0, 1) := by decide +kernel
theorem dX7_parameter_54 : decode cX7_parameter 54 = .ok (.iconst 3, 1) := by decide +kernel
theorem dX7_parameter_55 : decode cX7_parameter 55 = .ok (.iload_n 3, 1) := by decide +kernel
theorem dX7_parameter_56 : decode cX7_parameter 56 = .ok (.invokevirtual 127, 3) := by decide +kernel
theorem dX7_parameter_59 : decode cX7_parameter 59 = .ok (.aload_n 0, 1) := by decide +kernel
theorem dX7_parameter_60 : decode cX7_parameter 60 = .ok (.lload_n 1, 1) := by decide +kernel
theorem dX7_parameter_61 : decode cX7_parameter 61 = .ok (.invokevirtual 176, 3) := by decide +kernel
theorem dX7_parameter_64 : decode cX7_parameter 64 = .ok (.pop, 1) := by decide +kernel
theorem dX7_parameter_65 : decode cX7_parameter 65 = .ok (.return_, 1) := by decide +kernel
set_option maxHeartbeats 4000000 in
set_option maxRecDepth 100000 in
theorem c_X8_setCounts_b (ω : Om) (l : Launch) (μ : M3) (pq : Int) (x1 : Int) (x2 : Int) (x3 : Int) (hpr : isPr pq) (hx1 : ir x1) (hx2 : ir x2) (hx3 : ir x3) (hI : IC μ) (hv9 : vrk μ) (hb2 : 0 ≤ x2 ∧ x2 ≤ 100000) (hb3 : 0 ≤ x3 ∧ x3 ≤ 1000) : CtV ω l yX8_setCounts cX8_setCounts 4 0 0 [.ref (oP ω pq), .int (iv x1), .int (iv x2), .int (iv x3)] μ (fun (μ' : M3) => (Fr [pq + 8, pq + 9] μ μ') ∧ (IC μ') ∧ (vrk μ') ∧ (μ'.1 pq 1 = μ.1 pq 1) ∧ (μ'.1 pq 7 = μ.1 pq 7)) := by
  refine CtV.go (by decide) (Nat.le_of_ble_eq_true rfl) (fun ρ p e s m below meth c R ls G hR hret hlk hl => ?_)
  have hx := G.1.1
  have hb := G.1.2.1
  have hl : lv_has ls 4 [(0, .ref (oP ω pq)), (1, .int (iv x1)), (2, .int (iv x2)), (3, .int (iv x3))] := hl
  generalize s.drawn = d0 at G ⊢
  have hr_x1 : -2147483648 ≤ x1 ∧ x1 ≤ 2147483647 := hx1
  have hr_x2 : -2147483648 ≤ x2 ∧ x2 ≤ 2147483647 := hx2
  have hr_x3 : -2147483648 ≤ x3 ∧ x3 ≤ 2147483647 := hx3
  have hpr_d : pq = 13 ∨ pq = 71 ∨ pq = 81 ∨ pq = 91 ∨ pq = 101 := hpr
  have hk_1 := hI.pr (p := pq) hpr
  unfold pk at hk_1
  have hc_2 : 16 ≤ μ.2.1 (pq + 1) ∧ μ.2.1 (pq + 1) ≤ 73024 := hI.rm.1 _ hpr.cap
  have hbr9 := hpr.br
  refine lv_iload_n hx hb dX8_setCounts_0 rfl (lv_at hl 1 rfl) ?_
  refine xb_if_lt (tgt := 26) hx hb (by unfold ir; omega) dX8_setCounts_1 (by decide) (fun c_1 => ?_) (fun c_1 => ?_)
  · exact xr_v G hret hlk dX8_setCounts_26 ⟨Fr.rf, hI, hv9, (by omega), (by omega)⟩
  · refine lv_iload_n hx hb dX8_setCounts_4 rfl (lv_at hl 1 rfl) ?_
    refine lv_aload_n hx hb dX8_setCounts_5 rfl (lv_at hl 0 rfl) ?_
    refine xa_geti G fd_X8 (a := pq) (x := μ.1 pq 7) 7 hpr.ly (by decide) rfl (wm 1 171 rfl rfl) ⟨rfl, rfl, rfl⟩ dX8_setCounts_6 (hpr.hq ω ρ) rfl ?_
    have hr_3 : -2147483648 ≤ μ.1 pq 7 ∧ μ.1 pq 7 ≤ 2147483647 := by have h9 := G.hr (a := pq) (k := 7) hpr.t7; exact h9
    refine xb_icmp_ge (tgt := 26) hx hb (by unfold ir; omega) (by unfold ir; omega) dX8_setCounts_9 (by decide) (fun c_9 => ?_) (fun c_9 => ?_)
    · exact xr_v G hret hlk dX8_setCounts_26 ⟨Fr.rf, hI, hv9, (by omega), (by omega)⟩
    · refine lv_aload_n hx hb dX8_setCounts_12 rfl (lv_at hl 0 rfl) ?_
      refine xa_getr G fd_X8 (a := pq) (x := pq + 8) 5 hpr.ly (by decide) rfl (wm 1 169 rfl rfl) ⟨rfl, rfl, rfl⟩ dX8_setCounts_13 (hpr.hq ω ρ) (G.sr hpr.s5) (by omega) (hpr.hq8 ω ρ) ?_
      refine lv_iload_n hx hb dX8_setCounts_16 rfl (lv_at hl 1 rfl) ?_
      refine lv_iload_n hx hb dX8_setCounts_17 rfl (lv_at hl 2 rfl) ?_
      refine xa_iast G (a := pq + 8) (i := x1) (x := x2) hpr.ly8 (by have h9 := (G.ll hpr.l8); omega) (by unfold ir; omega) dX8_setCounts_18 (hpr.hq8 ω ρ) (fun H locs G => ?_)
      refine lv_aload_n hx hb dX8_setCounts_19 rfl (lv_at hl 0 rfl) ?_
      refine xa_getr G fd_X8 (a := pq) (x := pq + 9) 6 hpr.ly (by decide) rfl (wm 1 170 rfl rfl) ⟨rfl, rfl, rfl⟩ dX8_setCounts_20 (hpr.hq ω ρ) (G.sr hpr.s6) (by omega) (hpr.hq9 ω ρ) ?_
      refine lv_iload_n hx hb dX8_setCounts_23 rfl (lv_at hl 1 rfl) ?_
      refine lv_iload_n hx hb dX8_setCounts_24 rfl (lv_at hl 3 rfl) ?_
      refine xa_iast G (a := pq + 9) (i := x1) (x := x3) hpr.ly9 (by have h9 := (G.ll hpr.l9); omega) (by unfold ir; omega) dX8_setCounts_25 (hpr.hq9 ω ρ) (fun H locs G => ?_)
      have hI_4 : IC (sv (sv μ (pq + 8) x1 x2) (pq + 9) x1 x3) := (IC.pua (IC.pua hI (by rw [hpr.ly8]; decide)) (by rw [hpr.ly9]; decide))
      have e_5 : (sv (sv μ (pq + 8) x1 x2) (pq + 9) x1 x3).1 pq 1 = μ.1 pq 1 := ((sv_n _ (by omega)).trans (sv_n _ (by omega)))
      have e_6 : (sv (sv μ (pq + 8) x1 x2) (pq + 9) x1 x3).1 pq 7 = μ.1 pq 7 := ((sv_n _ (by omega)).trans (sv_n _ (by omega)))
      exact xr_v G hret hlk dX8_setCounts_26 ⟨(Fr.put (Fr.put Fr.rf (by simp)) (by simp)), hI_4, ((hv9.s8 hpr hb2).s9 hpr hb3), (by omega), (by omega)⟩

set_option maxHeartbeats 4000000 in
set_option maxRecDepth 100000 in
theorem c_X7_parameter (ω : Om) (l : Launch) (μ : M3) (hI : IC μ) (hTK : TK μ) (hct : 0 ≤ μ.1 23 6 ∧ μ.1 23 6 ≤ 6000) : CtV ω l yX7_parameter cX7_parameter 4 2 47 [.ref (oP ω 23)] μ (fun (μ' : M3) => (Fr [26, 23, 25, 24] μ μ') ∧ (IC μ') ∧ (TK μ') ∧ (μ.1 26 11 ≤ μ'.1 26 11) ∧ (μ.1 26 10 ≤ μ'.1 26 10) ∧ (μ.1 23 6 ≤ μ'.1 23 6 ∧ μ'.1 23 6 ≤ μ.1 23 6 + 1) ∧ (μ'.1 26 6 = μ.1 26 6) ∧ (μ'.1 26 7 = μ.1 26 7) ∧ (μ'.1 26 8 = μ.1 26 8) ∧ (μ'.1 26 9 = μ.1 26 9) ∧ (μ'.1 23 2 = μ.1 23 2) ∧ (μ'.1 23 7 = μ.1 23 7) ∧ (μ'.1 23 8 = μ.1 23 8) ∧ (μ'.1 23 9 = μ.1 23 9) ∧ (μ'.1 23 10 = μ.1 23 10)) := by
  refine CtV.go (by decide) (Nat.le_of_ble_eq_true rfl) (fun ρ p e s m below meth c R ls G hR hret hlk hl => ?_)
  have hx := G.1.1
  have hb := G.1.2.1
  have hl : lv_has ls 4 [(0, .ref (oP ω 23))] := hl
  generalize s.drawn = d0 at G ⊢
  have hTKb := hTK.b
  have hn_1 : 0 ≤ μ.1 23 5 ∧ μ.1 23 5 ≤ 1000 := hI.nm.2.2.2.2.2.2.2.2.1
  refine lv_aload_n hx hb dX7_parameter_0 rfl (lv_at hl 0 rfl) ?_
  refine xa_getr G fd_X7 (a := 23) (x := 26) 0 rfl (by decide) rfl (wm 2 17 rfl rfl) ⟨rfl, rfl, rfl⟩ dX7_parameter_1 rfl (G.sk 23 rfl) (by decide) rfl ?_
  refine xa_getN G fd_X10 (host := "FourTongues") (a := 26) 14 rfl (by decide) (by decide) ⟨rfl, rfl, rfl⟩ dX7_parameter_4 rfl (v := .long (jv (μ.1 26 14))) (by rw [show μ.1 26 14 = μ.1 26 14 from rfl]; rfl) ?_
  have hj_2 : jr (μ.1 26 14) := by have h9 := G.hj (a := 26) (k := 14) rfl; exact h9
  refine lv_lstore_n (lv' := [(1, .long (jv (μ.1 26 14))), (0, .ref (oP ω 23))]) hx hb dX7_parameter_7 rfl hl (by decide) rfl (fun ls hl => ?_)
  refine lv_aload_n hx hb dX7_parameter_8 rfl (lv_at hl 1 rfl) ?_
  refine xa_getr G fd_X7 (a := 23) (x := 26) 0 rfl (by decide) rfl (wm 2 17 rfl rfl) ⟨rfl, rfl, rfl⟩ dX7_parameter_9 rfl (G.sk 23 rfl) (by decide) rfl ?_
  refine xa_getN G fd_X10 (host := "FourTongues") (a := 26) 13 rfl (by decide) (by decide) ⟨rfl, rfl, rfl⟩ dX7_parameter_12 rfl (v := .int (iv (μ.1 26 13))) (by rw [show μ.1 26 13 = μ.1 26 13 from rfl]; rfl) ?_
  have hr_3 : -2147483648 ≤ μ.1 26 13 ∧ μ.1 26 13 ≤ 2147483647 := by have h9 := G.hr (a := 26) (k := 13) rfl; exact h9
  refine lv_istore_n (lv' := [(3, .int (iv (μ.1 26 13))), (1, .long (jv (μ.1 26 14))), (0, .ref (oP ω 23))]) hx hb dX7_parameter_15 rfl hl (by decide) rfl (fun ls hl => ?_)
  refine lv_aload_n hx hb dX7_parameter_16 rfl (lv_at hl 2 rfl) ?_
  refine lv_iconst (v := iv 1) hx hb dX7_parameter_17 rfl ?_
  have hn_4 : -1 ≤ μ.1 26 10 ∧ μ.1 26 10 ≤ 3000 := hI.nm.2.2.2.2.2.2.2.2.2.2.2.2
  have hn_5 : 0 ≤ μ.1 26 6 ∧ μ.1 26 6 ≤ 3001 := hI.nm.2.2.2.2.2.2.2.2.2.1
  have hn_6 : 0 ≤ μ.1 26 7 ∧ μ.1 26 7 ≤ 3000 := hI.nm.2.2.2.2.2.2.2.2.2.2.1
  have hn_7 : 0 ≤ μ.1 26 9 ∧ μ.1 26 9 ≤ 3000 := hI.nm.2.2.2.2.2.2.2.2.2.2.2.1
  refine xc_vV G (b := 23) (rest := []) (As := [.int (iv 1)]) (c_X7_need_b ω l μ 1 (by unfold ir; omega) hI hTK (by omega)) (wm 3 169 rfl rfl) (wm 3 171 rfl rfl) (wm 0 11 rfl rfl) rfl rfl (by decide) rfl (wm 1 12 rfl rfl) (wm 3 172 rfl rfl) (by decide) hR (by decide) (n := 1) rfl rfl (Nat.le_of_ble_eq_true rfl) hl.1 dX7_parameter_18 (fun μ8 ρ d0 H locs hp G => ?_)
  obtain ⟨F_9, hI_10, hp_11, hp_12, hp_13, hs_14, hs_15, hs_16, hs_17⟩ := hp
  have hn_18 : -1 ≤ μ8.1 26 10 ∧ μ8.1 26 10 ≤ 3000 := hI_10.nm.2.2.2.2.2.2.2.2.2.2.2.2
  have htb_19 := hp_11.b
  refine lv_aload_n hx hb dX7_parameter_21 rfl (lv_at hl 2 rfl) ?_
  refine lv_dup hx hb dX7_parameter_22 rfl ?_
  refine xa_geti G fd_X7 (a := 23) (x := μ.1 23 6) 6 rfl (by decide) rfl (wm 2 23 rfl rfl) ⟨rfl, rfl, rfl⟩ dX7_parameter_23 rfl (F_9.1 23 (by decide) 6) ?_
  have hr_20 : -2147483648 ≤ μ.1 23 6 ∧ μ.1 23 6 ≤ 2147483647 := by have h9 := G.hr (a := 23) (k := 6) rfl; rw [show μ8.1 23 6 = μ.1 23 6 from (F_9.1 23 (by decide) 6)] at h9; exact h9
  refine lv_iconst (v := iv 1) hx hb dX7_parameter_26 rfl ?_
  refine xb_iadd hx hb dX7_parameter_27 ?_
  refine xa_puti G fd_X7 (a := 23) (x := (μ.1 23 6) + 1) 6 (kz := 6) rfl rfl (by decide) rfl (by unfold ir; omega) (wm 2 23 rfl rfl) ⟨rfl, rfl, rfl, rfl⟩ rfl dX7_parameter_28 rfl (fun H locs G => ?_)
  refine lv_aload_n hx hb dX7_parameter_31 rfl (lv_at hl 2 rfl) ?_
  refine xa_geti G fd_X7 (a := 23) (x := (μ.1 23 6) + 1) 6 rfl (by decide) rfl (wm 2 23 rfl rfl) ⟨rfl, rfl, rfl⟩ dX7_parameter_32 rfl (sv_s _ _ _ _) ?_
  have hr_21 : -2147483648 ≤ (μ.1 23 6) + 1 ∧ (μ.1 23 6) + 1 ≤ 2147483647 := by have h9 := G.hr (a := 23) (k := 6) rfl; rw [show (sv μ8 23 6 ((μ.1 23 6) + 1)).1 23 6 = (μ.1 23 6) + 1 from (sv_s _ _ _ _)] at h9; exact h9
  refine lv_iconst (v := iv 4) hx hb dX7_parameter_35 rfl ?_
  refine xb_icmp_le (tgt := 45) hx hb (by unfold ir; omega) (by unfold ir; omega) dX7_parameter_36 (by decide) (fun c_36 => ?_) (fun c_36 => ?_)
  · refine lv_aload_n hx hb dX7_parameter_45 rfl (lv_at hl 2 rfl) ?_
    refine lv_lload_n hx hb dX7_parameter_46 rfl (lv_at hl 1 rfl) ?_
    have hI_22 : IC (sv μ8 23 6 ((μ.1 23 6) + 1)) := (IC.put hI_10 (by decide +kernel))
    refine xc_iV G (b := 23) (rest := []) (As := [.long (jv (μ.1 26 14))]) (c_X7_variable ω l (sv μ8 23 6 ((μ.1 23 6) + 1)) (μ.1 26 14) hj_2 hI_22) (wm 3 205 rfl rfl) (wm 3 207 rfl rfl) (wm 0 16 rfl rfl) rfl rfl (by decide) rfl (wm 1 12 rfl rfl) (wm 3 208 rfl rfl) (by decide) hR (by decide) (n := 1) rfl rfl (Nat.le_of_ble_eq_true rfl) hl.1 dX7_parameter_47 (fun r_24 μ23 ρ d0 H locs hr_r_24 hp G => ?_)
    have hr_r_24 : -2147483648 ≤ r_24 ∧ r_24 ≤ 2147483647 := hr_r_24
    obtain ⟨hsm_25, hp_26⟩ := hp
    have hsm_25 := Eq.symm hsm_25
    subst hsm_25
    refine xb_if_lt (tgt := 59) hx hb (by unfold ir; omega) dX7_parameter_50 (by decide) (fun c_50 => ?_) (fun c_50 => ?_)
    · refine lv_aload_n hx hb dX7_parameter_59 rfl (lv_at hl 2 rfl) ?_
      refine lv_lload_n hx hb dX7_parameter_60 rfl (lv_at hl 1 rfl) ?_
      have e_27 : (sv μ8 23 6 ((μ.1 23 6) + 1)).1 23 2 = μ.1 23 2 := ((sv_n _ (by decide)).trans (F_9.1 23 (by decide) 2))
      have e_28 : (sv μ8 23 6 ((μ.1 23 6) + 1)).1 23 6 = (μ.1 23 6) + 1 := (sv_s _ _ _ _)
      have e_29 : (sv μ8 23 6 ((μ.1 23 6) + 1)).1 23 7 = μ.1 23 7 := ((sv_n _ (by decide)).trans (F_9.1 23 (by decide) 7))
      have e_30 : (sv μ8 23 6 ((μ.1 23 6) + 1)).1 23 8 = μ.1 23 8 := ((sv_n _ (by decide)).trans (F_9.1 23 (by decide) 8))
      have e_31 : (sv μ8 23 6 ((μ.1 23 6) + 1)).1 23 9 = μ.1 23 9 := ((sv_n _ (by decide)).trans (F_9.1 23 (by decide) 9))
      have e_32 : (sv μ8 23 6 ((μ.1 23 6) + 1)).1 23 10 = μ.1 23 10 := ((sv_n _ (by decide)).trans (F_9.1 23 (by decide) 10))
      refine xc_iV G (b := 23) (rest := []) (As := [.long (jv (μ.1 26 14))]) (c_X7_declare ω l (sv μ8 23 6 ((μ.1 23 6) + 1)) (μ.1 26 14) hj_2 hI_22) (wm 3 209 rfl rfl) (wm 3 211 rfl rfl) (wm 0 17 rfl rfl) rfl rfl (by decide) rfl (wm 1 12 rfl rfl) (wm 3 212 rfl rfl) (by decide) hR (by decide) (n := 1) rfl rfl (Nat.le_of_ble_eq_true rfl) hl.1 dX7_parameter_61 (fun r_34 μ33 ρ d0 H locs hr_r_34 hp G => ?_)
      have hr_r_34 : -2147483648 ≤ r_34 ∧ r_34 ≤ 2147483647 := hr_r_34
      obtain ⟨F_35, hI_36, hp_37, hs_38, hs_39, hs_40, hs_41, hs_42, hs_43⟩ := hp
      refine lv_pop hx hb dX7_parameter_64 rfl ?_
      have htk_44 : TK μ33 := hp_11.fr (K := [25, 23]) (Fr.tr (Fr.put Fr.rf (by decide)) F_35 (by decide)) (by decide) (by decide) (by decide)
      have e_45 : μ33.1 26 11 = μ8.1 26 11 := ((F_35.1 26 (by decide) 11).trans (sv_n _ (fun h9 => absurd h9.1 (by decide))))
      have e_46 : μ33.1 26 10 = μ8.1 26 10 := ((F_35.1 26 (by decide) 10).trans (sv_n _ (fun h9 => absurd h9.1 (by decide))))
      have e_47 : μ33.1 23 6 = (μ.1 23 6) + 1 := (hs_39.trans (sv_s _ _ _ _))
      have e_48 : μ33.1 23 6 = (μ.1 23 6) + 1 := (hs_39.trans (sv_s _ _ _ _))
      have e_49 : μ33.1 26 6 = μ.1 26 6 := ((F_35.1 26 (by decide) 6).trans ((sv_n _ (fun h9 => absurd h9.1 (by decide))).trans hs_14))
      have e_50 : μ33.1 26 7 = μ.1 26 7 := ((F_35.1 26 (by decide) 7).trans ((sv_n _ (fun h9 => absurd h9.1 (by decide))).trans hs_15))
      have e_51 : μ33.1 26 8 = μ.1 26 8 := ((F_35.1 26 (by decide) 8).trans ((sv_n _ (fun h9 => absurd h9.1 (by decide))).trans hs_16))
      have e_52 : μ33.1 26 9 = μ.1 26 9 := ((F_35.1 26 (by decide) 9).trans ((sv_n _ (fun h9 => absurd h9.1 (by decide))).trans hs_17))
      have e_53 : μ33.1 23 2 = μ.1 23 2 := (hs_38.trans ((sv_n _ (by decide)).trans (F_9.1 23 (by decide) 2)))
      have e_54 : μ33.1 23 7 = μ.1 23 7 := (hs_40.trans ((sv_n _ (by decide)).trans (F_9.1 23 (by decide) 7)))
      have e_55 : μ33.1 23 8 = μ.1 23 8 := (hs_41.trans ((sv_n _ (by decide)).trans (F_9.1 23 (by decide) 8)))
      have e_56 : μ33.1 23 9 = μ.1 23 9 := (hs_42.trans ((sv_n _ (by decide)).trans (F_9.1 23 (by decide) 9)))
      have e_57 : μ33.1 23 10 = μ.1 23 10 := (hs_43.trans ((sv_n _ (by decide)).trans (F_9.1 23 (by decide) 10)))
      exact xr_v G hret hlk dX7_parameter_65 ⟨(Fr.tr (Fr.put (Fr.tr Fr.rf F_9 (by decide)) (by decide)) F_35 (by decide)), hI_36, htk_44, (by omega), (by omega), (by omega), (by omega), (by omega), (by omega), (by omega), (by omega), (by omega), (by omega), (by omega), (by omega)⟩
    · refine lv_aload_n hx hb dX7_parameter_53 rfl (lv_at hl 2 rfl) ?_
      refine lv_iconst (v := iv 3) hx hb dX7_parameter_54 rfl ?_
      refine lv_iload_n hx hb dX7_parameter_55 rfl (lv_at hl 0 rfl) ?_
      refine xc_vV G (b := 23) (rest := []) (As := [.int (iv 3), .int (iv (μ.1 26 13))]) (c_X7_tellFault ω l (sv μ8 23 6 ((μ.1 23 6) + 1)) 3 (μ.1 26 13) (by unfold ir; omega) (by unfold ir; omega) hI_22 (by omega)) (wm 3 177 rfl rfl) (wm 3 179 rfl rfl) (wm 0 12 rfl rfl) rfl rfl (by decide) rfl (wm 1 12 rfl rfl) (wm 3 180 rfl rfl) (by decide) hR (by decide) (n := 2) rfl rfl (Nat.le_of_ble_eq_true rfl) hl.1 dX7_parameter_56 (fun μ58 ρ d0 H locs hp G => ?_)
      obtain ⟨F_59, hI_60⟩ := hp
      refine lv_aload_n hx hb dX7_parameter_59 rfl (lv_at hl 2 rfl) ?_
      refine lv_lload_n hx hb dX7_parameter_60 rfl (lv_at hl 1 rfl) ?_
      have e_61 : μ58.1 23 2 = μ.1 23 2 := ((F_59.1 23 (by decide) 2).trans ((sv_n _ (by decide)).trans (F_9.1 23 (by decide) 2)))
      have e_62 : μ58.1 23 6 = (μ.1 23 6) + 1 := ((F_59.1 23 (by decide) 6).trans (sv_s _ _ _ _))
      have e_63 : μ58.1 23 7 = μ.1 23 7 := ((F_59.1 23 (by decide) 7).trans ((sv_n _ (by decide)).trans (F_9.1 23 (by decide) 7)))
      have e_64 : μ58.1 23 8 = μ.1 23 8 := ((F_59.1 23 (by decide) 8).trans ((sv_n _ (by decide)).trans (F_9.1 23 (by decide) 8)))
      have e_65 : μ58.1 23 9 = μ.1 23 9 := ((F_59.1 23 (by decide) 9).trans ((sv_n _ (by decide)).trans (F_9.1 23 (by decide) 9)))
      have e_66 : μ58.1 23 10 = μ.1 23 10 := ((F_59.1 23 (by decide) 10).trans ((sv_n _ (by decide)).trans (F_9.1 23 (by decide) 10)))
      refine xc_iV G (b := 23) (rest := []) (As := [.long (jv (μ.1 26 14))]) (c_X7_declare ω l μ58 (μ.1 26 14) hj_2 hI_60) (wm 3 209 rfl rfl) (wm 3 211 rfl rfl) (wm 0 17 rfl rfl) rfl rfl (by decide) rfl (wm 1 12 rfl rfl) (wm 3 212 rfl rfl) (by decide) hR (by decide) (n := 1) rfl rfl (Nat.le_of_ble_eq_true rfl) hl.1 dX7_parameter_61 (fun r_68 μ67 ρ d0 H locs hr_r_68 hp G => ?_)
      have hr_r_68 : -2147483648 ≤ r_68 ∧ r_68 ≤ 2147483647 := hr_r_68
      obtain ⟨F_69, hI_70, hp_71, hs_72, hs_73, hs_74, hs_75, hs_76, hs_77⟩ := hp
      refine lv_pop hx hb dX7_parameter_64 rfl ?_
      have htk_78 : TK μ67 := hp_11.fr (K := [25, 23, 24]) (Fr.tr (Fr.tr (Fr.put Fr.rf (by decide)) F_59 (by decide)) F_69 (by decide)) (by decide) (by decide) (by decide)
      have e_79 : μ67.1 26 11 = μ8.1 26 11 := ((F_69.1 26 (by decide) 11).trans ((F_59.1 26 (by decide) 11).trans (sv_n _ (fun h9 => absurd h9.1 (by decide)))))
      have e_80 : μ67.1 26 10 = μ8.1 26 10 := ((F_69.1 26 (by decide) 10).trans ((F_59.1 26 (by decide) 10).trans (sv_n _ (fun h9 => absurd h9.1 (by decide)))))
      have e_81 : μ67.1 23 6 = (μ.1 23 6) + 1 := (hs_73.trans ((F_59.1 23 (by decide) 6).trans (sv_s _ _ _ _)))
      have e_82 : μ67.1 23 6 = (μ.1 23 6) + 1 := (hs_73.trans ((F_59.1 23 (by decide) 6).trans (sv_s _ _ _ _)))
      have e_83 : μ67.1 26 6 = μ.1 26 6 := ((F_69.1 26 (by decide) 6).trans ((F_59.1 26 (by decide) 6).trans ((sv_n _ (fun h9 => absurd h9.1 (by decide))).trans hs_14)))
      have e_84 : μ67.1 26 7 = μ.1 26 7 := ((F_69.1 26 (by decide) 7).trans ((F_59.1 26 (by decide) 7).trans ((sv_n _ (fun h9 => absurd h9.1 (by decide))).trans hs_15)))
      have e_85 : μ67.1 26 8 = μ.1 26 8 := ((F_69.1 26 (by decide) 8).trans ((F_59.1 26 (by decide) 8).trans ((sv_n _ (fun h9 => absurd h9.1 (by decide))).trans hs_16)))
      have e_86 : μ67.1 26 9 = μ.1 26 9 := ((F_69.1 26 (by decide) 9).trans ((F_59.1 26 (by decide) 9).trans ((sv_n _ (fun h9 => absurd h9.1 (by decide))).trans hs_17)))
      have e_87 : μ67.1 23 2 = μ.1 23 2 := (hs_72.trans ((F_59.1 23 (by decide) 2).trans ((sv_n _ (by decide)).trans (F_9.1 23 (by decide) 2))))
      have e_88 : μ67.1 23 7 = μ.1 23 7 := (hs_74.trans ((F_59.1 23 (by decide) 7).trans ((sv_n _ (by decide)).trans (F_9.1 23 (by decide) 7))))
      have e_89 : μ67.1 23 8 = μ.1 23 8 := (hs_75.trans ((F_59.1 23 (by decide) 8).trans ((sv_n _ (by decide)).trans (F_9.1 23 (by decide) 8))))
      have e_90 : μ67.1 23 9 = μ.1 23 9 := (hs_76.trans ((F_59.1 23 (by decide) 9).trans ((sv_n _ (by decide)).trans (F_9.1 23 (by decide) 9))))
      have e_91 : μ67.1 23 10 = μ.1 23 10 := (hs_77.trans ((F_59.1 23 (by decide) 10).trans ((sv_n _ (by decide)).trans (F_9.1 23 (by decide) 10))))
      exact xr_v G hret hlk dX7_parameter_65 ⟨(Fr.tr (Fr.tr (Fr.put (Fr.tr Fr.rf F_9 (by decide)) (by decide)) F_59 (by decide)) F_69 (by decide)), hI_70, htk_78, (by omega), (by omega), (by omega), (by omega), (by omega), (by omega), (by omega), (by omega), (by omega), (by omega), (by omega), (by omega)⟩
  · refine lv_aload_n hx hb dX7_parameter_39 rfl (lv_at hl 2 rfl) ?_
    refine lv_iconst (v := iv 2) hx hb dX7_parameter_40 rfl ?_
    refine lv_iload_n hx hb dX7_parameter_41 rfl (lv_at hl 0 rfl) ?_
    have hI_92 : IC (sv μ8 23 6 ((μ.1 23 6) + 1)) := (IC.put hI_10 (by decide +kernel))
    refine xc_vV G (b := 23) (rest := []) (As := [.int (iv 2), .int (iv (μ.1 26 13))]) (c_X7_tellFault ω l (sv μ8 23 6 ((μ.1 23 6) + 1)) 2 (μ.1 26 13) (by unfold ir; omega) (by unfold ir; omega) hI_92 (by omega)) (wm 3 177 rfl rfl) (wm 3 179 rfl rfl) (wm 0 12 rfl rfl) rfl rfl (by decide) rfl (wm 1 12 rfl rfl) (wm 3 180 rfl rfl) (by decide) hR (by decide) (n := 2) rfl rfl (Nat.le_of_ble_eq_true rfl) hl.1 dX7_parameter_42 (fun μ93 ρ d0 H locs hp G => ?_)
    obtain ⟨F_94, hI_95⟩ := hp
    refine lv_aload_n hx hb dX7_parameter_45 rfl (lv_at hl 2 rfl) ?_
    refine lv_lload_n hx hb dX7_parameter_46 rfl (lv_at hl 1 rfl) ?_
    refine xc_iV G (b := 23) (rest := []) (As := [.long (jv (μ.1 26 14))]) (c_X7_variable ω l μ93 (μ.1 26 14) hj_2 hI_95) (wm 3 205 rfl rfl) (wm 3 207 rfl rfl) (wm 0 16 rfl rfl) rfl rfl (by decide) rfl (wm 1 12 rfl rfl) (wm 3 208 rfl rfl) (by decide) hR (by decide) (n := 1) rfl rfl (Nat.le_of_ble_eq_true rfl) hl.1 dX7_parameter_47 (fun r_97 μ96 ρ d0 H locs hr_r_97 hp G => ?_)
    have hr_r_97 : -2147483648 ≤ r_97 ∧ r_97 ≤ 2147483647 := hr_r_97
    obtain ⟨hsm_98, hp_99⟩ := hp
    have hsm_98 := Eq.symm hsm_98
    subst hsm_98
    refine xb_if_lt (tgt := 59) hx hb (by unfold ir; omega) dX7_parameter_50 (by decide) (fun c_50 => ?_) (fun c_50 => ?_)
    · refine lv_aload_n hx hb dX7_parameter_59 rfl (lv_at hl 2 rfl) ?_
      refine lv_lload_n hx hb dX7_parameter_60 rfl (lv_at hl 1 rfl) ?_
      have e_100 : μ93.1 23 2 = μ.1 23 2 := ((F_94.1 23 (by decide) 2).trans ((sv_n _ (by decide)).trans (F_9.1 23 (by decide) 2)))
      have e_101 : μ93.1 23 6 = (μ.1 23 6) + 1 := ((F_94.1 23 (by decide) 6).trans (sv_s _ _ _ _))
      have e_102 : μ93.1 23 7 = μ.1 23 7 := ((F_94.1 23 (by decide) 7).trans ((sv_n _ (by decide)).trans (F_9.1 23 (by decide) 7)))
      have e_103 : μ93.1 23 8 = μ.1 23 8 := ((F_94.1 23 (by decide) 8).trans ((sv_n _ (by decide)).trans (F_9.1 23 (by decide) 8)))
      have e_104 : μ93.1 23 9 = μ.1 23 9 := ((F_94.1 23 (by decide) 9).trans ((sv_n _ (by decide)).trans (F_9.1 23 (by decide) 9)))
      have e_105 : μ93.1 23 10 = μ.1 23 10 := ((F_94.1 23 (by decide) 10).trans ((sv_n _ (by decide)).trans (F_9.1 23 (by decide) 10)))
      refine xc_iV G (b := 23) (rest := []) (As := [.long (jv (μ.1 26 14))]) (c_X7_declare ω l μ93 (μ.1 26 14) hj_2 hI_95) (wm 3 209 rfl rfl) (wm 3 211 rfl rfl) (wm 0 17 rfl rfl) rfl rfl (by decide) rfl (wm 1 12 rfl rfl) (wm 3 212 rfl rfl) (by decide) hR (by decide) (n := 1) rfl rfl (Nat.le_of_ble_eq_true rfl) hl.1 dX7_parameter_61 (fun r_107 μ106 ρ d0 H locs hr_r_107 hp G => ?_)
      have hr_r_107 : -2147483648 ≤ r_107 ∧ r_107 ≤ 2147483647 := hr_r_107
      obtain ⟨F_108, hI_109, hp_110, hs_111, hs_112, hs_113, hs_114, hs_115, hs_116⟩ := hp
      refine lv_pop hx hb dX7_parameter_64 rfl ?_
      have htk_117 : TK μ106 := hp_11.fr (K := [25, 23, 24]) (Fr.tr (Fr.tr (Fr.put Fr.rf (by decide)) F_94 (by decide)) F_108 (by decide)) (by decide) (by decide) (by decide)
      have e_118 : μ106.1 26 11 = μ8.1 26 11 := ((F_108.1 26 (by decide) 11).trans ((F_94.1 26 (by decide) 11).trans (sv_n _ (fun h9 => absurd h9.1 (by decide)))))
      have e_119 : μ106.1 26 10 = μ8.1 26 10 := ((F_108.1 26 (by decide) 10).trans ((F_94.1 26 (by decide) 10).trans (sv_n _ (fun h9 => absurd h9.1 (by decide)))))
      have e_120 : μ106.1 23 6 = (μ.1 23 6) + 1 := (hs_112.trans ((F_94.1 23 (by decide) 6).trans (sv_s _ _ _ _)))
      have e_121 : μ106.1 23 6 = (μ.1 23 6) + 1 := (hs_112.trans ((F_94.1 23 (by decide) 6).trans (sv_s _ _ _ _)))
      have e_122 : μ106.1 26 6 = μ.1 26 6 := ((F_108.1 26 (by decide) 6).trans ((F_94.1 26 (by decide) 6).trans ((sv_n _ (fun h9 => absurd h9.1 (by decide))).trans hs_14)))
      have e_123 : μ106.1 26 7 = μ.1 26 7 := ((F_108.1 26 (by decide) 7).trans ((F_94.1 26 (by decide) 7).trans ((sv_n _ (fun h9 => absurd h9.1 (by decide))).trans hs_15)))
      have e_124 : μ106.1 26 8 = μ.1 26 8 := ((F_108.1 26 (by decide) 8).trans ((F_94.1 26 (by decide) 8).trans ((sv_n _ (fun h9 => absurd h9.1 (by decide))).trans hs_16)))
      have e_125 : μ106.1 26 9 = μ.1 26 9 := ((F_108.1 26 (by decide) 9).trans ((F_94.1 26 (by decide) 9).trans ((sv_n _ (fun h9 => absurd h9.1 (by decide))).trans hs_17)))
      have e_126 : μ106.1 23 2 = μ.1 23 2 := (hs_111.trans ((F_94.1 23 (by decide) 2).trans ((sv_n _ (by decide)).trans (F_9.1 23 (by decide) 2))))
      have e_127 : μ106.1 23 7 = μ.1 23 7 := (hs_113.trans ((F_94.1 23 (by decide) 7).trans ((sv_n _ (by decide)).trans (F_9.1 23 (by decide) 7))))
      have e_128 : μ106.1 23 8 = μ.1 23 8 := (hs_114.trans ((F_94.1 23 (by decide) 8).trans ((sv_n _ (by decide)).trans (F_9.1 23 (by decide) 8))))
      have e_129 : μ106.1 23 9 = μ.1 23 9 := (hs_115.trans ((F_94.1 23 (by decide) 9).trans ((sv_n _ (by decide)).trans (F_9.1 23 (by decide) 9))))
      have e_130 : μ106.1 23 10 = μ.1 23 10 := (hs_116.trans ((F_94.1 23 (by decide) 10).trans ((sv_n _ (by decide)).trans (F_9.1 23 (by decide) 10))))
      exact xr_v G hret hlk dX7_parameter_65 ⟨(Fr.tr (Fr.tr (Fr.put (Fr.tr Fr.rf F_9 (by decide)) (by decide)) F_94 (by decide)) F_108 (by decide)), hI_109, htk_117, (by omega), (by omega), (by omega), (by omega), (by omega), (by omega), (by omega), (by omega), (by omega), (by omega), (by omega), (by omega)⟩
    · refine lv_aload_n hx hb dX7_parameter_53 rfl (lv_at hl 2 rfl) ?_
      refine lv_iconst (v := iv 3) hx hb dX7_parameter_54 rfl ?_
      refine lv_iload_n hx hb dX7_parameter_55 rfl (lv_at hl 0 rfl) ?_
      refine xc_vV G (b := 23) (rest := []) (As := [.int (iv 3), .int (iv (μ.1 26 13))]) (c_X7_tellFault ω l μ93 3 (μ.1 26 13) (by unfold ir; omega) (by unfold ir; omega) hI_95 (by omega)) (wm 3 177 rfl rfl) (wm 3 179 rfl rfl) (wm 0 12 rfl rfl) rfl rfl (by decide) rfl (wm 1 12 rfl rfl) (wm 3 180 rfl rfl) (by decide) hR (by decide) (n := 2) rfl rfl (Nat.le_of_ble_eq_true rfl) hl.1 dX7_parameter_56 (fun μ131 ρ d0 H locs hp G => ?_)
      obtain ⟨F_132, hI_133⟩ := hp
      refine lv_aload_n hx hb dX7_parameter_59 rfl (lv_at hl 2 rfl) ?_
      refine lv_lload_n hx hb dX7_parameter_60 rfl (lv_at hl 1 rfl) ?_
      have e_134 : μ131.1 23 2 = μ.1 23 2 := ((F_132.1 23 (by decide) 2).trans ((F_94.1 23 (by decide) 2).trans ((sv_n _ (by decide)).trans (F_9.1 23 (by decide) 2))))
      have e_135 : μ131.1 23 6 = (μ.1 23 6) + 1 := ((F_132.1 23 (by decide) 6).trans ((F_94.1 23 (by decide) 6).trans (sv_s _ _ _ _)))
      have e_136 : μ131.1 23 7 = μ.1 23 7 := ((F_132.1 23 (by decide) 7).trans ((F_94.1 23 (by decide) 7).trans ((sv_n _ (by decide)).trans (F_9.1 23 (by decide) 7))))
      have e_137 : μ131.1 23 8 = μ.1 23 8 := ((F_132.1 23 (by decide) 8).trans ((F_94.1 23 (by decide) 8).trans ((sv_n _ (by decide)).trans (F_9.1 23 (by decide) 8))))
      have e_138 : μ131.1 23 9 = μ.1 23 9 := ((F_132.1 23 (by decide) 9).trans ((F_94.1 23 (by decide) 9).trans ((sv_n _ (by decide)).trans (F_9.1 23 (by decide) 9))))
      have e_139 : μ131.1 23 10 = μ.1 23 10 := ((F_132.1 23 (by decide) 10).trans ((F_94.1 23 (by decide) 10).trans ((sv_n _ (by decide)).trans (F_9.1 23 (by decide) 10))))
      refine xc_iV G (b := 23) (rest := []) (As := [.long (jv (μ.1 26 14))]) (c_X7_declare ω l μ131 (μ.1 26 14) hj_2 hI_133) (wm 3 209 rfl rfl) (wm 3 211 rfl rfl) (wm 0 17 rfl rfl) rfl rfl (by decide) rfl (wm 1 12 rfl rfl) (wm 3 212 rfl rfl) (by decide) hR (by decide) (n := 1) rfl rfl (Nat.le_of_ble_eq_true rfl) hl.1 dX7_parameter_61 (fun r_141 μ140 ρ d0 H locs hr_r_141 hp G => ?_)
      have hr_r_141 : -2147483648 ≤ r_141 ∧ r_141 ≤ 2147483647 := hr_r_141
      obtain ⟨F_142, hI_143, hp_144, hs_145, hs_146, hs_147, hs_148, hs_149, hs_150⟩ := hp
      refine lv_pop hx hb dX7_parameter_64 rfl ?_
      have htk_151 : TK μ140 := hp_11.fr (K := [25, 23, 24]) (Fr.tr (Fr.tr (Fr.tr (Fr.put Fr.rf (by decide)) F_94 (by decide)) F_132 (by decide)) F_142 (by decide)) (by decide) (by decide) (by decide)
      have e_152 : μ140.1 26 11 = μ8.1 26 11 := ((F_142.1 26 (by decide) 11).trans ((F_132.1 26 (by decide) 11).trans ((F_94.1 26 (by decide) 11).trans (sv_n _ (fun h9 => absurd h9.1 (by decide))))))
      have e_153 : μ140.1 26 10 = μ8.1 26 10 := ((F_142.1 26 (by decide) 10).trans ((F_132.1 26 (by decide) 10).trans ((F_94.1 26 (by decide) 10).trans (sv_n _ (fun h9 => absurd h9.1 (by decide))))))
      have e_154 : μ140.1 23 6 = (μ.1 23 6) + 1 := (hs_146.trans ((F_132.1 23 (by decide) 6).trans ((F_94.1 23 (by decide) 6).trans (sv_s _ _ _ _))))
      have e_155 : μ140.1 23 6 = (μ.1 23 6) + 1 := (hs_146.trans ((F_132.1 23 (by decide) 6).trans ((F_94.1 23 (by decide) 6).trans (sv_s _ _ _ _))))
      have e_156 : μ140.1 26 6 = μ.1 26 6 := ((F_142.1 26 (by decide) 6).trans ((F_132.1 26 (by decide) 6).trans ((F_94.1 26 (by decide) 6).trans ((sv_n _ (fun h9 => absurd h9.1 (by decide))).trans hs_14))))
      have e_157 : μ140.1 26 7 = μ.1 26 7 := ((F_142.1 26 (by decide) 7).trans ((F_132.1 26 (by decide) 7).trans ((F_94.1 26 (by decide) 7).trans ((sv_n _ (fun h9 => absurd h9.1 (by decide))).trans hs_15))))
      have e_158 : μ140.1 26 8 = μ.1 26 8 := ((F_142.1 26 (by decide) 8).trans ((F_132.1 26 (by decide) 8).trans ((F_94.1 26 (by decide) 8).trans ((sv_n _ (fun h9 => absurd h9.1 (by decide))).trans hs_16))))
      have e_159 : μ140.1 26 9 = μ.1 26 9 := ((F_142.1 26 (by decide) 9).trans ((F_132.1 26 (by decide) 9).trans ((F_94.1 26 (by decide) 9).trans ((sv_n _ (fun h9 => absurd h9.1 (by decide))).trans hs_17))))
      have e_160 : μ140.1 23 2 = μ.1 23 2 := (hs_145.trans ((F_132.1 23 (by decide) 2).trans ((F_94.1 23 (by decide) 2).trans ((sv_n _ (by decide)).trans (F_9.1 23 (by decide) 2)))))
      have e_161 : μ140.1 23 7 = μ.1 23 7 := (hs_147.trans ((F_132.1 23 (by decide) 7).trans ((F_94.1 23 (by decide) 7).trans ((sv_n _ (by decide)).trans (F_9.1 23 (by decide) 7)))))
      have e_162 : μ140.1 23 8 = μ.1 23 8 := (hs_148.trans ((F_132.1 23 (by decide) 8).trans ((F_94.1 23 (by decide) 8).trans ((sv_n _ (by decide)).trans (F_9.1 23 (by decide) 8)))))
      have e_163 : μ140.1 23 9 = μ.1 23 9 := (hs_149.trans ((F_132.1 23 (by decide) 9).trans ((F_94.1 23 (by decide) 9).trans ((sv_n _ (by decide)).trans (F_9.1 23 (by decide) 9)))))
      have e_164 : μ140.1 23 10 = μ.1 23 10 := (hs_150.trans ((F_132.1 23 (by decide) 10).trans ((F_94.1 23 (by decide) 10).trans ((sv_n _ (by decide)).trans (F_9.1 23 (by decide) 10)))))
      exact xr_v G hret hlk dX7_parameter_65 ⟨(Fr.tr (Fr.tr (Fr.tr (Fr.put (Fr.tr Fr.rf F_9 (by decide)) (by decide)) F_94 (by decide)) F_132 (by decide)) F_142 (by decide)), hI_143, htk_151, (by omega), (by omega), (by omega), (by omega), (by omega), (by omega), (by omega), (by omega), (by omega), (by omega), (by omega), (by omega)⟩

set_option maxHeartbeats 4000000 in
set_option maxRecDepth 100000 in
theorem c_X7_parameters (ω : Om) (l : Launch) (μ : M3) (hI : IC μ) (hTK : TK μ) (hct : μ.1 23 6 = 0) (hd0 : μ.1 23 9 = 0) : CtV ω l yX7_parameters cX7_parameters 2 3 70 [.ref (oP ω 23)] μ (fun (μ' : M3) => (Fr [26, 23, 25, 24] μ μ') ∧ (IC μ') ∧ (TK μ') ∧ (μ.1 26 11 ≤ μ'.1 26 11) ∧ (μ.1 26 10 ≤ μ'.1 26 10) ∧ (0 ≤ μ'.1 23 6 ∧ μ'.1 23 6 ≤ 3010) ∧ (μ'.1 23 9 = μ.1 23 9) ∧ (μ'.1 26 6 = μ.1 26 6) ∧ (μ'.1 26 7 = μ.1 26 7) ∧ (μ'.1 26 8 = μ.1 26 8) ∧ (μ'.1 26 9 = μ.1 26 9) ∧ (μ'.1 23 2 = μ.1 23 2) ∧ (μ'.1 23 7 = μ.1 23 7) ∧ (μ'.1 23 8 = μ.1 23 8) ∧ (μ'.1 23 10 = μ.1 23 10)) := by
  refine CtV.go (by decide) (Nat.le_of_ble_eq_true rfl) (fun ρ p e s m below meth c R ls G hR hret hlk hl => ?_)
  have hx := G.1.1
  have hb := G.1.2.1
  have hl : lv_has ls 2 [(0, .ref (oP ω 23))] := hl
  generalize s.drawn = d0 at G ⊢
  have hTKb := hTK.b
  refine lv_aload_n hx hb dX7_parameters_0 rfl (lv_at hl 0 rfl) ?_
  refine lv_bipush (v := iv 40) hx hb dX7_parameters_1 rfl ?_
  have hn_1 : -1 ≤ μ.1 26 10 ∧ μ.1 26 10 ≤ 3000 := hI.nm.2.2.2.2.2.2.2.2.2.2.2.2
  have hn_2 : 0 ≤ μ.1 26 6 ∧ μ.1 26 6 ≤ 3001 := hI.nm.2.2.2.2.2.2.2.2.2.1
  have hn_3 : 0 ≤ μ.1 26 7 ∧ μ.1 26 7 ≤ 3000 := hI.nm.2.2.2.2.2.2.2.2.2.2.1
  have hn_4 : 0 ≤ μ.1 26 9 ∧ μ.1 26 9 ≤ 3000 := hI.nm.2.2.2.2.2.2.2.2.2.2.2.1
  have hn_5 : 0 ≤ μ.1 23 5 ∧ μ.1 23 5 ≤ 1000 := hI.nm.2.2.2.2.2.2.2.2.1
  refine xc_vV G (b := 23) (rest := []) (As := [.int (iv 40)]) (c_X7_needOpen_b ω l μ 40 (by unfold ir; omega) hI hTK (by omega) (by omega)) (wm 3 197 rfl rfl) (wm 3 199 rfl rfl) (wm 0 14 rfl rfl) rfl rfl (by decide) rfl (wm 1 12 rfl rfl) (wm 3 200 rfl rfl) (by decide) hR (by decide) (n := 1) rfl rfl (Nat.le_of_ble_eq_true rfl) hl.1 dX7_parameters_3 (fun μ6 ρ d0 H locs hp G => ?_)
  obtain ⟨F_7, hI_8, hp_9, hp_10, hp_11, hp_12, hs_13, hs_14, hs_15, hs_16, hs_17, hs_18, hs_19, hs_20, hs_21, hs_22, hs_23⟩ := hp
  have hn_24 : -1 ≤ μ6.1 26 10 ∧ μ6.1 26 10 ≤ 3000 := hI_8.nm.2.2.2.2.2.2.2.2.2.2.2.2
  have htb_25 := hp_9.b
  refine lv_aload_n hx hb dX7_parameters_6 rfl (lv_at hl 0 rfl) ?_
  refine xa_getr G fd_X7 (a := 23) (x := 26) 0 rfl (by decide) rfl (wm 2 17 rfl rfl) ⟨rfl, rfl, rfl⟩ dX7_parameters_7 rfl (G.sk 23 rfl) (by decide) rfl ?_
  refine xa_getN G fd_X10 (host := "FourTongues") (a := 26) 12 rfl (by decide) (by decide) ⟨rfl, rfl, rfl⟩ dX7_parameters_10 rfl (v := .int (iv (μ6.1 26 12))) (by rw [show μ6.1 26 12 = μ6.1 26 12 from rfl]; rfl) ?_
  have hr_26 : -2147483648 ≤ μ6.1 26 12 ∧ μ6.1 26 12 ≤ 2147483647 := by have h9 := G.hr (a := 26) (k := 12) rfl; exact h9
  refine lv_bipush (v := iv 41) hx hb dX7_parameters_13 rfl ?_
  refine xb_icmp_eq (tgt := 50) hx hb (by unfold ir; omega) (by unfold ir; omega) dX7_parameters_15 (by decide) (fun c_15 => ?_) (fun c_15 => ?_)
  · refine lv_aload_n hx hb dX7_parameters_50 rfl (lv_at hl 0 rfl) ?_
    refine lv_bipush (v := iv 41) hx hb dX7_parameters_51 rfl ?_
    have e_27 : μ6.1 23 9 = μ.1 23 9 + 1 := hs_13
    have e_28 : μ6.1 23 9 = μ.1 23 9 + 1 := hs_13
    have e_29 : μ6.1 23 9 = μ.1 23 9 + 1 := hs_13
    have e_30 : μ6.1 26 6 = μ.1 26 6 := hs_14
    have e_31 : μ6.1 26 7 = μ.1 26 7 := hs_15
    have e_32 : μ6.1 26 8 = μ.1 26 8 := hs_16
    have e_33 : μ6.1 26 9 = μ.1 26 9 := hs_17
    have e_34 : μ6.1 23 2 = μ.1 23 2 := hs_18
    have e_35 : μ6.1 23 5 = μ.1 23 5 := hs_19
    have e_36 : μ6.1 23 6 = μ.1 23 6 := hs_20
    have e_37 : μ6.1 23 7 = μ.1 23 7 := hs_21
    have e_38 : μ6.1 23 8 = μ.1 23 8 := hs_22
    have e_39 : μ6.1 23 10 = μ.1 23 10 := hs_23
    refine xc_vV G (b := 23) (rest := []) (As := [.int (iv 41)]) (c_X7_needClosed_b ω l μ6 41 (by unfold ir; omega) hI_8 hp_9 (by omega) (by omega)) (wm 3 214 rfl rfl) (wm 3 216 rfl rfl) (wm 0 18 rfl rfl) rfl rfl (by decide) rfl (wm 1 12 rfl rfl) (wm 3 217 rfl rfl) (by decide) hR (by decide) (n := 1) rfl rfl (Nat.le_of_ble_eq_true rfl) hl.1 dX7_parameters_53 (fun μ40 ρ d0 H locs hp G => ?_)
    obtain ⟨F_41, hI_42, hp_43, hp_44, hp_45, hs_46, hs_47, hs_48, hs_49, hs_50, hs_51, hs_52, hs_53, hs_54, hs_55, hs_56⟩ := hp
    have hn_57 : -1 ≤ μ40.1 26 10 ∧ μ40.1 26 10 ≤ 3000 := hI_42.nm.2.2.2.2.2.2.2.2.2.2.2.2
    have htb_58 := hp_43.b
    have e_59 : μ40.1 23 6 = μ.1 23 6 := (hs_53.trans hs_20)
    have e_60 : μ40.1 23 6 = μ.1 23 6 := (hs_53.trans hs_20)
    have e_61 : μ40.1 23 9 = μ6.1 23 9 - 1 := hs_46
    have e_62 : μ40.1 26 6 = μ.1 26 6 := (hs_47.trans hs_14)
    have e_63 : μ40.1 26 7 = μ.1 26 7 := (hs_48.trans hs_15)
    have e_64 : μ40.1 26 8 = μ.1 26 8 := (hs_49.trans hs_16)
    have e_65 : μ40.1 26 9 = μ.1 26 9 := (hs_50.trans hs_17)
    have e_66 : μ40.1 23 2 = μ.1 23 2 := (hs_51.trans hs_18)
    have e_67 : μ40.1 23 7 = μ.1 23 7 := (hs_54.trans hs_21)
    have e_68 : μ40.1 23 8 = μ.1 23 8 := (hs_55.trans hs_22)
    have e_69 : μ40.1 23 10 = μ.1 23 10 := (hs_56.trans hs_23)
    exact xr_v G hret hlk dX7_parameters_56 ⟨(Fr.tr (Fr.tr Fr.rf F_7 (by decide)) F_41 (by decide)), hI_42, hp_43, (by omega), (by omega), (by omega), (by omega), (by omega), (by omega), (by omega), (by omega), (by omega), (by omega), (by omega), (by omega)⟩
  · refine lv_aload_n hx hb dX7_parameters_18 rfl (lv_at hl 0 rfl) ?_
    have e_70 : μ6.1 23 6 = μ.1 23 6 := hs_20
    have e_71 : μ6.1 23 6 = μ.1 23 6 := hs_20
    have e_72 : μ6.1 23 6 = μ.1 23 6 := hs_20
    have e_73 : μ6.1 23 6 = μ.1 23 6 := hs_20
    have e_74 : μ6.1 26 6 = μ.1 26 6 := hs_14
    have e_75 : μ6.1 26 7 = μ.1 26 7 := hs_15
    have e_76 : μ6.1 26 8 = μ.1 26 8 := hs_16
    have e_77 : μ6.1 26 9 = μ.1 26 9 := hs_17
    have e_78 : μ6.1 23 2 = μ.1 23 2 := hs_18
    have e_79 : μ6.1 23 7 = μ.1 23 7 := hs_21
    have e_80 : μ6.1 23 8 = μ.1 23 8 := hs_22
    have e_81 : μ6.1 23 9 = μ.1 23 9 + 1 := hs_13
    have e_82 : μ6.1 23 10 = μ.1 23 10 := hs_23
    refine xc_vV G (b := 23) (rest := []) (As := []) (c_X7_parameter ω l μ6  hI_8 hp_9 (by omega)) (wm 3 201 rfl rfl) (wm 3 203 rfl rfl) (wm 0 15 rfl rfl) rfl rfl (by decide) rfl (wm 1 12 rfl rfl) (wm 3 204 rfl rfl) (by decide) hR (by decide) (n := 0) rfl rfl (Nat.le_of_ble_eq_true rfl) hl.1 dX7_parameters_19 (fun μ83 ρ d0 H locs hp G => ?_)
    obtain ⟨F_84, hI_85, hp_86, hp_87, hp_88, hp_89, hs_90, hs_91, hs_92, hs_93, hs_94, hs_95, hs_96, hs_97, hs_98⟩ := hp
    have hn_99 : -1 ≤ μ83.1 26 10 ∧ μ83.1 26 10 ≤ 3000 := hI_85.nm.2.2.2.2.2.2.2.2.2.2.2.2
    have htb_100 := hp_86.b
    refine lv_iconst (v := iv 0) hx hb dX7_parameters_22 rfl ?_
    refine lv_istore_n (lv' := [(1, .int (iv 0)), (0, .ref (oP ω 23))]) hx hb dX7_parameters_23 rfl hl (by decide) rfl (fun ls hl => ?_)
    have e_101 : μ83.1 23 9 = μ.1 23 9 + 1 := (hs_97.trans hs_13)
    refine xl (fun n_9 μ' ls => ∃ (i9 : Int), (Fr [23, 24, 25, 26] μ83 μ') ∧ (-2147483648 ≤ i9 ∧ i9 ≤ 2147483647) ∧ (0 ≤ i9) ∧ (i9 ≤ 3000) ∧ (TK μ') ∧ (μ.1 26 11 ≤ μ'.1 26 11) ∧ (0 ≤ μ'.1 23 6 ∧ μ'.1 23 6 ≤ i9 + 1) ∧ (μ'.1 23 9 = μ.1 23 9 + 1) ∧ (μ.1 26 10 ≤ μ'.1 26 10) ∧ (μ'.1 23 2 = μ.1 23 2) ∧ (μ'.1 23 7 = μ.1 23 7) ∧ (μ'.1 23 8 = μ.1 23 8) ∧ (μ'.1 23 10 = μ.1 23 10) ∧ (μ'.1 26 6 = μ.1 26 6) ∧ (μ'.1 26 7 = μ.1 26 7) ∧ (μ'.1 26 8 = μ.1 26 8) ∧ (μ'.1 26 9 = μ.1 26 9) ∧ (IC μ') ∧ n_9 = Int.toNat (3000 - i9) ∧ lv_has ls 2 [(1, .int (iv i9)), (0, .ref (oP ω 23))]) (fun n_9 ρ μL102 d0 H locs ls hI_l G ih => ?_) _ _ _ _ _ _ _ ⟨0, Fr.rf, (by omega), (by omega), (by omega), hp_86, (by omega), (by omega), (by omega), (by omega), (hs_94.trans hs_18), (hs_95.trans hs_21), (hs_96.trans hs_22), (hs_98.trans hs_23), (hs_90.trans hs_14), (hs_91.trans hs_15), (hs_92.trans hs_16), (hs_93.trans hs_17), hI_85, rfl, lv_sub hl [0, 1] rfl⟩ G
    obtain ⟨i9, FL103, hi_105, hi_106, hi_107, hi_108, hi_109, hi_110, hi_111, hi_112, hi_113, hi_114, hi_115, hi_116, hi_117, hi_118, hi_119, hi_120, hi_121, hn104, hl⟩ := hI_l
    have htb_122 := hi_108.b
    have hn_123 : 0 ≤ μL102.1 23 5 ∧ μL102.1 23 5 ≤ 1000 := hi_121.nm.2.2.2.2.2.2.2.2.1
    refine lv_iload_n hx hb dX7_parameters_24 rfl (lv_at hl 0 rfl) ?_
    refine lv_sipush (v := iv 3000) hx hb dX7_parameters_25 rfl ?_
    refine xb_icmp_ge (tgt := 50) hx hb (by unfold ir; omega) (by unfold ir; omega) dX7_parameters_28 (by decide) (fun c_28 => ?_) (fun c_28 => ?_)
    · refine lv_aload_n hx hb dX7_parameters_50 rfl (lv_at hl 1 rfl) ?_
      refine lv_bipush (v := iv 41) hx hb dX7_parameters_51 rfl ?_
      have hn_124 : -1 ≤ μL102.1 26 10 ∧ μL102.1 26 10 ≤ 3000 := hi_121.nm.2.2.2.2.2.2.2.2.2.2.2.2
      have e_125 : μL102.1 26 6 = μ.1 26 6 := hi_117
      have e_126 : μL102.1 26 7 = μ.1 26 7 := hi_118
      have e_127 : μL102.1 26 8 = μ.1 26 8 := hi_119
      have e_128 : μL102.1 26 9 = μ.1 26 9 := hi_120
      have e_129 : μL102.1 23 2 = μ.1 23 2 := hi_113
      have e_130 : μL102.1 23 7 = μ.1 23 7 := hi_114
      have e_131 : μL102.1 23 8 = μ.1 23 8 := hi_115
      have e_132 : μL102.1 23 10 = μ.1 23 10 := hi_116
      refine xc_vV G (b := 23) (rest := []) (As := [.int (iv 41)]) (c_X7_needClosed_b ω l μL102 41 (by unfold ir; omega) hi_121 hi_108 (by omega) (by omega)) (wm 3 214 rfl rfl) (wm 3 216 rfl rfl) (wm 0 18 rfl rfl) rfl rfl (by decide) rfl (wm 1 12 rfl rfl) (wm 3 217 rfl rfl) (by decide) hR (by decide) (n := 1) rfl rfl (Nat.le_of_ble_eq_true rfl) hl.1 dX7_parameters_53 (fun μ133 ρ d0 H locs hp G => ?_)
      obtain ⟨F_134, hI_135, hp_136, hp_137, hp_138, hs_139, hs_140, hs_141, hs_142, hs_143, hs_144, hs_145, hs_146, hs_147, hs_148, hs_149⟩ := hp
      have hn_150 : -1 ≤ μ133.1 26 10 ∧ μ133.1 26 10 ≤ 3000 := hI_135.nm.2.2.2.2.2.2.2.2.2.2.2.2
      have htb_151 := hp_136.b
      have e_152 : μ133.1 23 6 = μL102.1 23 6 := hs_146
      have e_153 : μ133.1 23 6 = μL102.1 23 6 := hs_146
      have e_154 : μ133.1 23 9 = μL102.1 23 9 - 1 := hs_139
      have e_155 : μ133.1 26 6 = μ.1 26 6 := (hs_140.trans hi_117)
      have e_156 : μ133.1 26 7 = μ.1 26 7 := (hs_141.trans hi_118)
      have e_157 : μ133.1 26 8 = μ.1 26 8 := (hs_142.trans hi_119)
      have e_158 : μ133.1 26 9 = μ.1 26 9 := (hs_143.trans hi_120)
      have e_159 : μ133.1 23 2 = μ.1 23 2 := (hs_144.trans hi_113)
      have e_160 : μ133.1 23 7 = μ.1 23 7 := (hs_147.trans hi_114)
      have e_161 : μ133.1 23 8 = μ.1 23 8 := (hs_148.trans hi_115)
      have e_162 : μ133.1 23 10 = μ.1 23 10 := (hs_149.trans hi_116)
      exact xr_v G hret hlk dX7_parameters_56 ⟨(Fr.tr (Fr.tr (Fr.tr (Fr.tr Fr.rf F_7 (by decide)) F_84 (by decide)) FL103 (by decide)) F_134 (by decide)), hI_135, hp_136, (by omega), (by omega), (by omega), (by omega), (by omega), (by omega), (by omega), (by omega), (by omega), (by omega), (by omega), (by omega)⟩
    · refine lv_aload_n hx hb dX7_parameters_31 rfl (lv_at hl 1 rfl) ?_
      refine lv_bipush (v := iv 44) hx hb dX7_parameters_32 rfl ?_
      have hn_163 : -1 ≤ μL102.1 26 10 ∧ μL102.1 26 10 ≤ 3000 := hi_121.nm.2.2.2.2.2.2.2.2.2.2.2.2
      have e_164 : μL102.1 26 6 = μ.1 26 6 := hi_117
      have e_165 : μL102.1 26 7 = μ.1 26 7 := hi_118
      have e_166 : μL102.1 26 8 = μ.1 26 8 := hi_119
      have e_167 : μL102.1 26 9 = μ.1 26 9 := hi_120
      refine xc_iV G (b := 23) (rest := []) (As := [.int (iv 44)]) (c_X7_took_b ω l μL102 44 (by unfold ir; omega) hi_121 hi_108 (by omega)) (wm 3 160 rfl rfl) (wm 3 162 rfl rfl) (wm 0 9 rfl rfl) rfl rfl (by decide) rfl (wm 1 12 rfl rfl) (wm 3 163 rfl rfl) (by decide) hR (by decide) (n := 1) rfl rfl (Nat.le_of_ble_eq_true rfl) hl.1 dX7_parameters_34 (fun r_169 μ168 ρ d0 H locs hr_r_169 hp G => ?_)
      have hr_r_169 : -2147483648 ≤ r_169 ∧ r_169 ≤ 2147483647 := hr_r_169
      obtain ⟨F_170, hI_171, hp_172, hp_173, hp_174, hs_175, hs_176, hs_177, hs_178, hs_179⟩ := hp
      have hn_180 : -1 ≤ μ168.1 26 10 ∧ μ168.1 26 10 ≤ 3000 := hI_171.nm.2.2.2.2.2.2.2.2.2.2.2.2
      have htb_181 := hp_172.b
      refine xb_if_eq (tgt := 50) hx hb (by unfold ir; omega) dX7_parameters_37 (by decide) (fun c_37 => ?_) (fun c_37 => ?_)
      · refine lv_aload_n hx hb dX7_parameters_50 rfl (lv_at hl 1 rfl) ?_
        refine lv_bipush (v := iv 41) hx hb dX7_parameters_51 rfl ?_
        have e_182 : μ168.1 23 9 = μL102.1 23 9 := (F_170.1 23 (by decide) 9)
        have e_183 : μ168.1 23 9 = μL102.1 23 9 := (F_170.1 23 (by decide) 9)
        have e_184 : μ168.1 26 11 = μL102.1 26 11 := hs_175
        have e_185 : μ168.1 23 9 = μL102.1 23 9 := (F_170.1 23 (by decide) 9)
        have e_186 : μ168.1 26 6 = μ.1 26 6 := (hs_176.trans hi_117)
        have e_187 : μ168.1 26 7 = μ.1 26 7 := (hs_177.trans hi_118)
        have e_188 : μ168.1 26 8 = μ.1 26 8 := (hs_178.trans hi_119)
        have e_189 : μ168.1 26 9 = μ.1 26 9 := (hs_179.trans hi_120)
        have e_190 : μ168.1 23 2 = μ.1 23 2 := ((F_170.1 23 (by decide) 2).trans hi_113)
        have e_191 : μ168.1 23 5 = μL102.1 23 5 := (F_170.1 23 (by decide) 5)
        have e_192 : μ168.1 23 6 = μL102.1 23 6 := (F_170.1 23 (by decide) 6)
        have e_193 : μ168.1 23 7 = μ.1 23 7 := ((F_170.1 23 (by decide) 7).trans hi_114)
        have e_194 : μ168.1 23 8 = μ.1 23 8 := ((F_170.1 23 (by decide) 8).trans hi_115)
        have e_195 : μ168.1 23 10 = μ.1 23 10 := ((F_170.1 23 (by decide) 10).trans hi_116)
        refine xc_vV G (b := 23) (rest := []) (As := [.int (iv 41)]) (c_X7_needClosed_b ω l μ168 41 (by unfold ir; omega) hI_171 hp_172 (by omega) (by omega)) (wm 3 214 rfl rfl) (wm 3 216 rfl rfl) (wm 0 18 rfl rfl) rfl rfl (by decide) rfl (wm 1 12 rfl rfl) (wm 3 217 rfl rfl) (by decide) hR (by decide) (n := 1) rfl rfl (Nat.le_of_ble_eq_true rfl) hl.1 dX7_parameters_53 (fun μ196 ρ d0 H locs hp G => ?_)
        obtain ⟨F_197, hI_198, hp_199, hp_200, hp_201, hs_202, hs_203, hs_204, hs_205, hs_206, hs_207, hs_208, hs_209, hs_210, hs_211, hs_212⟩ := hp
        have hn_213 : -1 ≤ μ196.1 26 10 ∧ μ196.1 26 10 ≤ 3000 := hI_198.nm.2.2.2.2.2.2.2.2.2.2.2.2
        have htb_214 := hp_199.b
        have e_215 : μ196.1 23 6 = μL102.1 23 6 := (hs_209.trans (F_170.1 23 (by decide) 6))
        have e_216 : μ196.1 23 6 = μL102.1 23 6 := (hs_209.trans (F_170.1 23 (by decide) 6))
        have e_217 : μ196.1 23 9 = μ168.1 23 9 - 1 := hs_202
        have e_218 : μ196.1 26 6 = μ.1 26 6 := (hs_203.trans (hs_176.trans hi_117))
        have e_219 : μ196.1 26 7 = μ.1 26 7 := (hs_204.trans (hs_177.trans hi_118))
        have e_220 : μ196.1 26 8 = μ.1 26 8 := (hs_205.trans (hs_178.trans hi_119))
        have e_221 : μ196.1 26 9 = μ.1 26 9 := (hs_206.trans (hs_179.trans hi_120))
        have e_222 : μ196.1 23 2 = μ.1 23 2 := (hs_207.trans ((F_170.1 23 (by decide) 2).trans hi_113))
        have e_223 : μ196.1 23 7 = μ.1 23 7 := (hs_210.trans ((F_170.1 23 (by decide) 7).trans hi_114))
        have e_224 : μ196.1 23 8 = μ.1 23 8 := (hs_211.trans ((F_170.1 23 (by decide) 8).trans hi_115))
        have e_225 : μ196.1 23 10 = μ.1 23 10 := (hs_212.trans ((F_170.1 23 (by decide) 10).trans hi_116))
        exact xr_v G hret hlk dX7_parameters_56 ⟨(Fr.tr (Fr.tr (Fr.tr (Fr.tr (Fr.tr Fr.rf F_7 (by decide)) F_84 (by decide)) FL103 (by decide)) F_170 (by decide)) F_197 (by decide)), hI_198, hp_199, (by omega), (by omega), (by omega), (by omega), (by omega), (by omega), (by omega), (by omega), (by omega), (by omega), (by omega), (by omega)⟩
      · refine lv_aload_n hx hb dX7_parameters_40 rfl (lv_at hl 1 rfl) ?_
        have e_226 : μ168.1 23 6 = μL102.1 23 6 := (F_170.1 23 (by decide) 6)
        have e_227 : μ168.1 23 6 = μL102.1 23 6 := (F_170.1 23 (by decide) 6)
        have e_228 : μ168.1 26 11 = μL102.1 26 11 := hs_175
        have e_229 : μ168.1 23 6 = μL102.1 23 6 := (F_170.1 23 (by decide) 6)
        have e_230 : μ168.1 23 6 = μL102.1 23 6 := (F_170.1 23 (by decide) 6)
        have e_231 : μ168.1 26 6 = μ.1 26 6 := (hs_176.trans hi_117)
        have e_232 : μ168.1 26 7 = μ.1 26 7 := (hs_177.trans hi_118)
        have e_233 : μ168.1 26 8 = μ.1 26 8 := (hs_178.trans hi_119)
        have e_234 : μ168.1 26 9 = μ.1 26 9 := (hs_179.trans hi_120)
        have e_235 : μ168.1 23 2 = μ.1 23 2 := ((F_170.1 23 (by decide) 2).trans hi_113)
        have e_236 : μ168.1 23 7 = μ.1 23 7 := ((F_170.1 23 (by decide) 7).trans hi_114)
        have e_237 : μ168.1 23 8 = μ.1 23 8 := ((F_170.1 23 (by decide) 8).trans hi_115)
        have e_238 : μ168.1 23 9 = μL102.1 23 9 := (F_170.1 23 (by decide) 9)
        have e_239 : μ168.1 23 10 = μ.1 23 10 := ((F_170.1 23 (by decide) 10).trans hi_116)
        refine xc_vV G (b := 23) (rest := []) (As := []) (c_X7_parameter ω l μ168  hI_171 hp_172 (by omega)) (wm 3 201 rfl rfl) (wm 3 203 rfl rfl) (wm 0 15 rfl rfl) rfl rfl (by decide) rfl (wm 1 12 rfl rfl) (wm 3 204 rfl rfl) (by decide) hR (by decide) (n := 0) rfl rfl (Nat.le_of_ble_eq_true rfl) hl.1 dX7_parameters_41 (fun μ240 ρ d0 H locs hp G => ?_)
        obtain ⟨F_241, hI_242, hp_243, hp_244, hp_245, hp_246, hs_247, hs_248, hs_249, hs_250, hs_251, hs_252, hs_253, hs_254, hs_255⟩ := hp
        have hn_256 : -1 ≤ μ240.1 26 10 ∧ μ240.1 26 10 ≤ 3000 := hI_242.nm.2.2.2.2.2.2.2.2.2.2.2.2
        have htb_257 := hp_243.b
        refine lv_iinc (v := iv (i9 + 1)) (lv' := [(1, .int (iv (i9 + 1))), (0, .ref (oP ω 23))]) hx hb dX7_parameters_44 hl (k := 0) rfl (by rw [show Int32.ofInt 1 = iv 1 from rfl, iv_add]) (by decide) rfl (fun ls hl => ?_)
        refine lv_goto (tgt := 24) hx hb dX7_parameters_47 (by decide) ?_
        have e_258 : μ240.1 23 9 = μL102.1 23 9 := (hs_254.trans (F_170.1 23 (by decide) 9))
        exact ih _ _ _ _ _ _ _ (by omega) ⟨i9 + 1, (Fr.tr (Fr.tr FL103 F_170 (by decide)) F_241 (by decide)), (by omega), (by omega), (by omega), hp_243, (by omega), (by omega), (by omega), (by omega), (hs_251.trans ((F_170.1 23 (by decide) 2).trans hi_113)), (hs_252.trans ((F_170.1 23 (by decide) 7).trans hi_114)), (hs_253.trans ((F_170.1 23 (by decide) 8).trans hi_115)), (hs_255.trans ((F_170.1 23 (by decide) 10).trans hi_116)), (hs_247.trans (hs_176.trans hi_117)), (hs_248.trans (hs_177.trans hi_118)), (hs_249.trans (hs_178.trans hi_119)), (hs_250.trans (hs_179.trans hi_120)), hI_242, rfl, lv_sub hl [0, 1] rfl⟩ G

set_option maxHeartbeats 4000000 in
set_option maxRecDepth 100000 in
theorem c_X7_kindUnder (ω : Om) (l : Launch) (μ : M3) (hI : IC μ) (hTK : TK μ) : CtV ω l yX7_kindUnder cX7_kindUnder 4 3 65 [.ref (oP ω 23)] μ (fun (μ' : M3) => (Fr [26, 2, 3, 4, 24] μ μ') ∧ (IC μ') ∧ (TK μ') ∧ (μ.1 26 11 ≤ μ'.1 26 11) ∧ (μ.1 26 10 ≤ μ'.1 26 10) ∧ (μ'.1 26 6 = μ.1 26 6) ∧ (μ'.1 26 7 = μ.1 26 7) ∧ (μ'.1 26 8 = μ.1 26 8) ∧ (μ'.1 26 9 = μ.1 26 9) ∧ (μ'.1 2 4 = μ.1 2 4)) := by
  refine CtV.go (by decide) (Nat.le_of_ble_eq_true rfl) (fun ρ p e s m below meth c R ls G hR hret hlk hl => ?_)
  have hx := G.1.1
  have hb := G.1.2.1
  have hl : lv_has ls 4 [(0, .ref (oP ω 23))] := hl
  generalize s.drawn = d0 at G ⊢
  have hTKb := hTK.b
  refine lv_aload_n hx hb dX7_kindUnder_0 rfl (lv_at hl 0 rfl) ?_
  have hn_1 : -1 ≤ μ.1 26 10 ∧ μ.1 26 10 ≤ 3000 := hI.nm.2.2.2.2.2.2.2.2.2.2.2.2
  have hn_2 : 0 ≤ μ.1 26 6 ∧ μ.1 26 6 ≤ 3001 := hI.nm.2.2.2.2.2.2.2.2.2.1
  have hn_3 : 0 ≤ μ.1 26 7 ∧ μ.1 26 7 ≤ 3000 := hI.nm.2.2.2.2.2.2.2.2.2.2.1
  have hn_4 : 0 ≤ μ.1 26 9 ∧ μ.1 26 9 ≤ 3000 := hI.nm.2.2.2.2.2.2.2.2.2.2.2.1
  have hn_5 : 0 ≤ μ.1 2 4 ∧ μ.1 2 4 ≤ 51 := hI.nm.2.2.1
  refine xc_iV G (b := 23) (rest := []) (As := []) (c_X7_nameOfFailing_b ω l μ  hI hTK) (wm 4 112 rfl rfl) (wm 4 114 rfl rfl) (wm 0 44 rfl rfl) rfl rfl (by decide) rfl (wm 1 12 rfl rfl) (wm 4 115 rfl rfl) (by decide) hR (by decide) (n := 0) rfl rfl (Nat.le_of_ble_eq_true rfl) hl.1 dX7_kindUnder_1 (fun r_7 μ6 ρ d0 H locs hr_r_7 hp G => ?_)
  have hr_r_7 : -2147483648 ≤ r_7 ∧ r_7 ≤ 2147483647 := hr_r_7
  obtain ⟨F_8, hI_9, hp_10, hp_11, hp_12, hp_13, hs_14, hs_15, hs_16, hs_17, hs_18⟩ := hp
  have hn_19 : -1 ≤ μ6.1 26 10 ∧ μ6.1 26 10 ≤ 3000 := hI_9.nm.2.2.2.2.2.2.2.2.2.2.2.2
  have htb_20 := hp_10.b
  refine lv_istore_n (lv' := [(1, .int (iv r_7)), (0, .ref (oP ω 23))]) hx hb dX7_kindUnder_4 rfl hl (by decide) rfl (fun ls hl => ?_)
  refine lv_aload_n hx hb dX7_kindUnder_5 rfl (lv_at hl 1 rfl) ?_
  refine lv_sipush (v := iv 201) hx hb dX7_kindUnder_6 rfl ?_
  have e_21 : μ6.1 26 6 = μ.1 26 6 := hs_14
  have e_22 : μ6.1 26 7 = μ.1 26 7 := hs_15
  have e_23 : μ6.1 26 8 = μ.1 26 8 := hs_16
  have e_24 : μ6.1 26 9 = μ.1 26 9 := hs_17
  refine xc_vV G (b := 23) (rest := []) (As := [.int (iv 201)]) (c_X7_need_b ω l μ6 201 (by unfold ir; omega) hI_9 hp_10 (by omega)) (wm 3 169 rfl rfl) (wm 3 171 rfl rfl) (wm 0 11 rfl rfl) rfl rfl (by decide) rfl (wm 1 12 rfl rfl) (wm 3 172 rfl rfl) (by decide) hR (by decide) (n := 1) rfl rfl (Nat.le_of_ble_eq_true rfl) hl.1 dX7_kindUnder_9 (fun μ25 ρ d0 H locs hp G => ?_)
  obtain ⟨F_26, hI_27, hp_28, hp_29, hp_30, hs_31, hs_32, hs_33, hs_34⟩ := hp
  have hn_35 : -1 ≤ μ25.1 26 10 ∧ μ25.1 26 10 ≤ 3000 := hI_27.nm.2.2.2.2.2.2.2.2.2.2.2.2
  have htb_36 := hp_28.b
  refine lv_aload_n hx hb dX7_kindUnder_12 rfl (lv_at hl 1 rfl) ?_
  refine xa_getr G fd_X7 (a := 23) (x := 26) 0 rfl (by decide) rfl (wm 2 17 rfl rfl) ⟨rfl, rfl, rfl⟩ dX7_kindUnder_13 rfl (G.sk 23 rfl) (by decide) rfl ?_
  refine xa_getN G fd_X10 (host := "FourTongues") (a := 26) 13 rfl (by decide) (by decide) ⟨rfl, rfl, rfl⟩ dX7_kindUnder_16 rfl (v := .int (iv (μ25.1 26 13))) (by rw [show μ25.1 26 13 = μ25.1 26 13 from rfl]; rfl) ?_
  have hr_37 : -2147483648 ≤ μ25.1 26 13 ∧ μ25.1 26 13 ≤ 2147483647 := by have h9 := G.hr (a := 26) (k := 13) rfl; exact h9
  refine lv_istore_n (lv' := [(2, .int (iv (μ25.1 26 13))), (1, .int (iv r_7)), (0, .ref (oP ω 23))]) hx hb dX7_kindUnder_19 rfl hl (by decide) rfl (fun ls hl => ?_)
  refine lv_aload_n hx hb dX7_kindUnder_20 rfl (lv_at hl 2 rfl) ?_
  have e_38 : μ25.1 26 6 = μ.1 26 6 := (hs_31.trans hs_14)
  have e_39 : μ25.1 26 7 = μ.1 26 7 := (hs_32.trans hs_15)
  have e_40 : μ25.1 26 8 = μ.1 26 8 := (hs_33.trans hs_16)
  have e_41 : μ25.1 26 9 = μ.1 26 9 := (hs_34.trans hs_17)
  have e_42 : μ25.1 2 4 = μ.1 2 4 := ((F_26.1 2 (by decide) 4).trans hs_18)
  refine xc_iV G (b := 23) (rest := []) (As := []) (c_X7_nameOfFailing_b ω l μ25  hI_27 hp_28) (wm 4 112 rfl rfl) (wm 4 114 rfl rfl) (wm 0 44 rfl rfl) rfl rfl (by decide) rfl (wm 1 12 rfl rfl) (wm 4 115 rfl rfl) (by decide) hR (by decide) (n := 0) rfl rfl (Nat.le_of_ble_eq_true rfl) hl.1 dX7_kindUnder_21 (fun r_44 μ43 ρ d0 H locs hr_r_44 hp G => ?_)
  have hr_r_44 : -2147483648 ≤ r_44 ∧ r_44 ≤ 2147483647 := hr_r_44
  obtain ⟨F_45, hI_46, hp_47, hp_48, hp_49, hp_50, hs_51, hs_52, hs_53, hs_54, hs_55⟩ := hp
  have hn_56 : -1 ≤ μ43.1 26 10 ∧ μ43.1 26 10 ≤ 3000 := hI_46.nm.2.2.2.2.2.2.2.2.2.2.2.2
  have htb_57 := hp_47.b
  refine lv_istore_n (lv' := [(3, .int (iv r_44)), (2, .int (iv (μ25.1 26 13))), (1, .int (iv r_7)), (0, .ref (oP ω 23))]) hx hb dX7_kindUnder_24 rfl hl (by decide) rfl (fun ls hl => ?_)
  refine lv_iload_n hx hb dX7_kindUnder_25 rfl (lv_at hl 2 rfl) ?_
  refine xb_if_eq (tgt := 63) hx hb (by unfold ir; omega) dX7_kindUnder_26 (by decide) (fun c_26 => ?_) (fun c_26 => ?_)
  · refine lv_aload_n hx hb dX7_kindUnder_63 rfl (lv_at hl 3 rfl) ?_
    refine lv_bipush (v := iv 59) hx hb dX7_kindUnder_64 rfl ?_
    have e_58 : μ43.1 26 6 = μ.1 26 6 := (hs_51.trans (hs_31.trans hs_14))
    have e_59 : μ43.1 26 7 = μ.1 26 7 := (hs_52.trans (hs_32.trans hs_15))
    have e_60 : μ43.1 26 8 = μ.1 26 8 := (hs_53.trans (hs_33.trans hs_16))
    have e_61 : μ43.1 26 9 = μ.1 26 9 := (hs_54.trans (hs_34.trans hs_17))
    refine xc_vV G (b := 23) (rest := []) (As := [.int (iv 59)]) (c_X7_need_b ω l μ43 59 (by unfold ir; omega) hI_46 hp_47 (by omega)) (wm 3 169 rfl rfl) (wm 3 171 rfl rfl) (wm 0 11 rfl rfl) rfl rfl (by decide) rfl (wm 1 12 rfl rfl) (wm 3 172 rfl rfl) (by decide) hR (by decide) (n := 1) rfl rfl (Nat.le_of_ble_eq_true rfl) hl.1 dX7_kindUnder_66 (fun μ62 ρ d0 H locs hp G => ?_)
    obtain ⟨F_63, hI_64, hp_65, hp_66, hp_67, hs_68, hs_69, hs_70, hs_71⟩ := hp
    have hn_72 : -1 ≤ μ62.1 26 10 ∧ μ62.1 26 10 ≤ 3000 := hI_64.nm.2.2.2.2.2.2.2.2.2.2.2.2
    have htb_73 := hp_65.b
    have e_74 : μ62.1 26 6 = μ.1 26 6 := (hs_68.trans (hs_51.trans (hs_31.trans hs_14)))
    have e_75 : μ62.1 26 7 = μ.1 26 7 := (hs_69.trans (hs_52.trans (hs_32.trans hs_15)))
    have e_76 : μ62.1 26 8 = μ.1 26 8 := (hs_70.trans (hs_53.trans (hs_33.trans hs_16)))
    have e_77 : μ62.1 26 9 = μ.1 26 9 := (hs_71.trans (hs_54.trans (hs_34.trans hs_17)))
    have e_78 : μ62.1 2 4 = μ.1 2 4 := ((F_63.1 2 (by decide) 4).trans (hs_55.trans ((F_26.1 2 (by decide) 4).trans hs_18)))
    exact xr_v G hret hlk dX7_kindUnder_69 ⟨(Fr.tr (Fr.tr (Fr.tr (Fr.tr Fr.rf F_8 (by decide)) F_26 (by decide)) F_45 (by decide)) F_63 (by decide)), hI_64, hp_65, (by omega), (by omega), (by omega), (by omega), (by omega), (by omega), (by omega)⟩
  · refine lv_iload_n hx hb dX7_kindUnder_29 rfl (lv_at hl 0 rfl) ?_
    refine xb_if_eq (tgt := 63) hx hb (by unfold ir; omega) dX7_kindUnder_30 (by decide) (fun c_30 => ?_) (fun c_30 => ?_)
    · refine lv_aload_n hx hb dX7_kindUnder_63 rfl (lv_at hl 3 rfl) ?_
      refine lv_bipush (v := iv 59) hx hb dX7_kindUnder_64 rfl ?_
      have e_79 : μ43.1 26 6 = μ.1 26 6 := (hs_51.trans (hs_31.trans hs_14))
      have e_80 : μ43.1 26 7 = μ.1 26 7 := (hs_52.trans (hs_32.trans hs_15))
      have e_81 : μ43.1 26 8 = μ.1 26 8 := (hs_53.trans (hs_33.trans hs_16))
      have e_82 : μ43.1 26 9 = μ.1 26 9 := (hs_54.trans (hs_34.trans hs_17))
      refine xc_vV G (b := 23) (rest := []) (As := [.int (iv 59)]) (c_X7_need_b ω l μ43 59 (by unfold ir; omega) hI_46 hp_47 (by omega)) (wm 3 169 rfl rfl) (wm 3 171 rfl rfl) (wm 0 11 rfl rfl) rfl rfl (by decide) rfl (wm 1 12 rfl rfl) (wm 3 172 rfl rfl) (by decide) hR (by decide) (n := 1) rfl rfl (Nat.le_of_ble_eq_true rfl) hl.1 dX7_kindUnder_66 (fun μ83 ρ d0 H locs hp G => ?_)
      obtain ⟨F_84, hI_85, hp_86, hp_87, hp_88, hs_89, hs_90, hs_91, hs_92⟩ := hp
      have hn_93 : -1 ≤ μ83.1 26 10 ∧ μ83.1 26 10 ≤ 3000 := hI_85.nm.2.2.2.2.2.2.2.2.2.2.2.2
      have htb_94 := hp_86.b
      have e_95 : μ83.1 26 6 = μ.1 26 6 := (hs_89.trans (hs_51.trans (hs_31.trans hs_14)))
      have e_96 : μ83.1 26 7 = μ.1 26 7 := (hs_90.trans (hs_52.trans (hs_32.trans hs_15)))
      have e_97 : μ83.1 26 8 = μ.1 26 8 := (hs_91.trans (hs_53.trans (hs_33.trans hs_16)))
      have e_98 : μ83.1 26 9 = μ.1 26 9 := (hs_92.trans (hs_54.trans (hs_34.trans hs_17)))
      have e_99 : μ83.1 2 4 = μ.1 2 4 := ((F_84.1 2 (by decide) 4).trans (hs_55.trans ((F_26.1 2 (by decide) 4).trans hs_18)))
      exact xr_v G hret hlk dX7_kindUnder_69 ⟨(Fr.tr (Fr.tr (Fr.tr (Fr.tr Fr.rf F_8 (by decide)) F_26 (by decide)) F_45 (by decide)) F_84 (by decide)), hI_85, hp_86, (by omega), (by omega), (by omega), (by omega), (by omega), (by omega), (by omega)⟩
    · refine lv_aload_n hx hb dX7_kindUnder_33 rfl (lv_at hl 3 rfl) ?_
      refine xa_getr G fd_X7 (a := 23) (x := 2) 1 rfl (by decide) rfl (wm 2 18 rfl rfl) ⟨rfl, rfl, rfl⟩ dX7_kindUnder_34 rfl (G.sk 24 rfl) (by decide) rfl ?_
      refine lv_iload_n hx hb dX7_kindUnder_37 rfl (lv_at hl 0 rfl) ?_
      refine lv_iload_n hx hb dX7_kindUnder_38 rfl (lv_at hl 2 rfl) ?_
      refine xc_iV G (b := 2) (rest := []) (As := [.int (iv r_44), .int (iv r_7)]) (c_X5_isOrUnder ω l μ43 r_44 r_7 (by unfold ir; omega) (by unfold ir; omega) hI_46) (wm 4 195 rfl rfl) (wm 4 196 rfl rfl) (wm 4 197 rfl rfl) rfl rfl (by decide) rfl (wm 1 2 rfl rfl) (wm 4 198 rfl rfl) (by decide) hR (by decide) (n := 2) rfl rfl (Nat.le_of_ble_eq_true rfl) hl.1 dX7_kindUnder_39 (fun r_101 μ100 ρ d0 H locs hr_r_101 hp G => ?_)
      have hr_r_101 : -2147483648 ≤ r_101 ∧ r_101 ≤ 2147483647 := hr_r_101
      obtain ⟨hsm_102, hp_103⟩ := hp
      have hsm_102 := Eq.symm hsm_102
      subst hsm_102
      refine xb_if_eq (tgt := 54) hx hb (by unfold ir; omega) dX7_kindUnder_42 (by decide) (fun c_42 => ?_) (fun c_42 => ?_)
      · refine lv_aload_n hx hb dX7_kindUnder_54 rfl (lv_at hl 3 rfl) ?_
        refine xa_getr G fd_X7 (a := 23) (x := 2) 1 rfl (by decide) rfl (wm 2 18 rfl rfl) ⟨rfl, rfl, rfl⟩ dX7_kindUnder_55 rfl (G.sk 24 rfl) (by decide) rfl ?_
        refine lv_iload_n hx hb dX7_kindUnder_58 rfl (lv_at hl 2 rfl) ?_
        refine lv_iload_n hx hb dX7_kindUnder_59 rfl (lv_at hl 0 rfl) ?_
        refine xc_vV G (b := 2) (rest := []) (As := [.int (iv r_7), .int (iv r_44)]) (c_X5_setAbove ω l μ43 r_7 r_44 (by unfold ir; omega) (by unfold ir; omega) hI_46) (wm 4 203 rfl rfl) (wm 4 204 rfl rfl) (wm 4 205 rfl rfl) rfl rfl (by decide) rfl (wm 1 2 rfl rfl) (wm 4 206 rfl rfl) (by decide) hR (by decide) (n := 2) rfl rfl (Nat.le_of_ble_eq_true rfl) hl.1 dX7_kindUnder_60 (fun μ104 ρ d0 H locs hp G => ?_)
        obtain ⟨F_105, hI_106⟩ := hp
        refine lv_aload_n hx hb dX7_kindUnder_63 rfl (lv_at hl 3 rfl) ?_
        refine lv_bipush (v := iv 59) hx hb dX7_kindUnder_64 rfl ?_
        have htk_107 : TK μ104 := hp_47.fr (K := [4]) (Fr.tr Fr.rf F_105 (by decide)) (by decide) (by decide) (by decide)
        have e_108 : μ104.1 26 10 = μ43.1 26 10 := (F_105.1 26 (by decide) 10)
        have e_109 : μ104.1 26 11 = μ43.1 26 11 := (F_105.1 26 (by decide) 11)
        have e_110 : μ104.1 26 6 = μ.1 26 6 := ((F_105.1 26 (by decide) 6).trans (hs_51.trans (hs_31.trans hs_14)))
        have e_111 : μ104.1 26 7 = μ.1 26 7 := ((F_105.1 26 (by decide) 7).trans (hs_52.trans (hs_32.trans hs_15)))
        have e_112 : μ104.1 26 8 = μ.1 26 8 := ((F_105.1 26 (by decide) 8).trans (hs_53.trans (hs_33.trans hs_16)))
        have e_113 : μ104.1 26 9 = μ.1 26 9 := ((F_105.1 26 (by decide) 9).trans (hs_54.trans (hs_34.trans hs_17)))
        refine xc_vV G (b := 23) (rest := []) (As := [.int (iv 59)]) (c_X7_need_b ω l μ104 59 (by unfold ir; omega) hI_106 htk_107 (by omega)) (wm 3 169 rfl rfl) (wm 3 171 rfl rfl) (wm 0 11 rfl rfl) rfl rfl (by decide) rfl (wm 1 12 rfl rfl) (wm 3 172 rfl rfl) (by decide) hR (by decide) (n := 1) rfl rfl (Nat.le_of_ble_eq_true rfl) hl.1 dX7_kindUnder_66 (fun μ114 ρ d0 H locs hp G => ?_)
        obtain ⟨F_115, hI_116, hp_117, hp_118, hp_119, hs_120, hs_121, hs_122, hs_123⟩ := hp
        have hn_124 : -1 ≤ μ114.1 26 10 ∧ μ114.1 26 10 ≤ 3000 := hI_116.nm.2.2.2.2.2.2.2.2.2.2.2.2
        have htb_125 := hp_117.b
        have e_126 : μ114.1 26 6 = μ.1 26 6 := (hs_120.trans ((F_105.1 26 (by decide) 6).trans (hs_51.trans (hs_31.trans hs_14))))
        have e_127 : μ114.1 26 7 = μ.1 26 7 := (hs_121.trans ((F_105.1 26 (by decide) 7).trans (hs_52.trans (hs_32.trans hs_15))))
        have e_128 : μ114.1 26 8 = μ.1 26 8 := (hs_122.trans ((F_105.1 26 (by decide) 8).trans (hs_53.trans (hs_33.trans hs_16))))
        have e_129 : μ114.1 26 9 = μ.1 26 9 := (hs_123.trans ((F_105.1 26 (by decide) 9).trans (hs_54.trans (hs_34.trans hs_17))))
        have e_130 : μ114.1 2 4 = μ.1 2 4 := ((F_115.1 2 (by decide) 4).trans ((F_105.1 2 (by decide) 4).trans (hs_55.trans ((F_26.1 2 (by decide) 4).trans hs_18))))
        exact xr_v G hret hlk dX7_kindUnder_69 ⟨(Fr.tr (Fr.tr (Fr.tr (Fr.tr (Fr.tr Fr.rf F_8 (by decide)) F_26 (by decide)) F_45 (by decide)) F_105 (by decide)) F_115 (by decide)), hI_116, hp_117, (by omega), (by omega), (by omega), (by omega), (by omega), (by omega), (by omega)⟩
      · refine lv_aload_n hx hb dX7_kindUnder_45 rfl (lv_at hl 3 rfl) ?_
        refine lv_iconst (v := iv 3) hx hb dX7_kindUnder_46 rfl ?_
        refine lv_iload_n hx hb dX7_kindUnder_47 rfl (lv_at hl 1 rfl) ?_
        refine xc_vV G (b := 23) (rest := []) (As := [.int (iv 3), .int (iv (μ25.1 26 13))]) (c_X7_tellFault ω l μ43 3 (μ25.1 26 13) (by unfold ir; omega) (by unfold ir; omega) hI_46 (by omega)) (wm 3 177 rfl rfl) (wm 3 179 rfl rfl) (wm 0 12 rfl rfl) rfl rfl (by decide) rfl (wm 1 12 rfl rfl) (wm 3 180 rfl rfl) (by decide) hR (by decide) (n := 2) rfl rfl (Nat.le_of_ble_eq_true rfl) hl.1 dX7_kindUnder_48 (fun μ131 ρ d0 H locs hp G => ?_)
        obtain ⟨F_132, hI_133⟩ := hp
        refine lv_goto (tgt := 63) hx hb dX7_kindUnder_51 (by decide) ?_
        refine lv_aload_n hx hb dX7_kindUnder_63 rfl (lv_at hl 3 rfl) ?_
        refine lv_bipush (v := iv 59) hx hb dX7_kindUnder_64 rfl ?_
        have htk_134 : TK μ131 := hp_47.fr (K := [24]) (Fr.tr Fr.rf F_132 (by decide)) (by decide) (by decide) (by decide)
        have e_135 : μ131.1 26 10 = μ43.1 26 10 := (F_132.1 26 (by decide) 10)
        have e_136 : μ131.1 26 11 = μ43.1 26 11 := (F_132.1 26 (by decide) 11)
        have e_137 : μ131.1 26 6 = μ.1 26 6 := ((F_132.1 26 (by decide) 6).trans (hs_51.trans (hs_31.trans hs_14)))
        have e_138 : μ131.1 26 7 = μ.1 26 7 := ((F_132.1 26 (by decide) 7).trans (hs_52.trans (hs_32.trans hs_15)))
        have e_139 : μ131.1 26 8 = μ.1 26 8 := ((F_132.1 26 (by decide) 8).trans (hs_53.trans (hs_33.trans hs_16)))
        have e_140 : μ131.1 26 9 = μ.1 26 9 := ((F_132.1 26 (by decide) 9).trans (hs_54.trans (hs_34.trans hs_17)))
        refine xc_vV G (b := 23) (rest := []) (As := [.int (iv 59)]) (c_X7_need_b ω l μ131 59 (by unfold ir; omega) hI_133 htk_134 (by omega)) (wm 3 169 rfl rfl) (wm 3 171 rfl rfl) (wm 0 11 rfl rfl) rfl rfl (by decide) rfl (wm 1 12 rfl rfl) (wm 3 172 rfl rfl) (by decide) hR (by decide) (n := 1) rfl rfl (Nat.le_of_ble_eq_true rfl) hl.1 dX7_kindUnder_66 (fun μ141 ρ d0 H locs hp G => ?_)
        obtain ⟨F_142, hI_143, hp_144, hp_145, hp_146, hs_147, hs_148, hs_149, hs_150⟩ := hp
        have hn_151 : -1 ≤ μ141.1 26 10 ∧ μ141.1 26 10 ≤ 3000 := hI_143.nm.2.2.2.2.2.2.2.2.2.2.2.2
        have htb_152 := hp_144.b
        have e_153 : μ141.1 26 6 = μ.1 26 6 := (hs_147.trans ((F_132.1 26 (by decide) 6).trans (hs_51.trans (hs_31.trans hs_14))))
        have e_154 : μ141.1 26 7 = μ.1 26 7 := (hs_148.trans ((F_132.1 26 (by decide) 7).trans (hs_52.trans (hs_32.trans hs_15))))
        have e_155 : μ141.1 26 8 = μ.1 26 8 := (hs_149.trans ((F_132.1 26 (by decide) 8).trans (hs_53.trans (hs_33.trans hs_16))))
        have e_156 : μ141.1 26 9 = μ.1 26 9 := (hs_150.trans ((F_132.1 26 (by decide) 9).trans (hs_54.trans (hs_34.trans hs_17))))
        have e_157 : μ141.1 2 4 = μ.1 2 4 := ((F_142.1 2 (by decide) 4).trans ((F_132.1 2 (by decide) 4).trans (hs_55.trans ((F_26.1 2 (by decide) 4).trans hs_18))))
        exact xr_v G hret hlk dX7_kindUnder_69 ⟨(Fr.tr (Fr.tr (Fr.tr (Fr.tr (Fr.tr Fr.rf F_8 (by decide)) F_26 (by decide)) F_45 (by decide)) F_132 (by decide)) F_142 (by decide)), hI_143, hp_144, (by omega), (by omega), (by omega), (by omega), (by omega), (by omega), (by omega)⟩
