abbrev cX0_turn : ByteArray := prog_2_method_9_code
def yX0_turn : MethodName := ⟨RX0, "turn", "(LFourTongues$Row;III)Z"⟩
abbrev cX0_setTurned : ByteArray := prog_2_method_10_code
def yX0_setTurned : MethodName := ⟨RX0, "setTurned", "(LFourTongues$Row;IIIJ)V"⟩
theorem dX0_turn_0 : decode cX0_turn 0 = .ok (.aload_n 1, 1) := by decide +kernel
theorem dX0_turn_1 : decode cX0_turn 1 = .ok (.iload_n 2, 1) := by decide +kernel
theorem dX0_turn_2 : decode cX0_turn 2 = .ok (.invokevirtual 51, 3) := by decide +kernel
theorem dX0_turn_5 : decode cX0_turn 5 = .ok (.iconst 1, 1) := by decide +kernel
theorem dX0_turn_6 : decode cX0_turn 6 = .ok (.if_icmp .ne 9, 3) := by decide +kernel
theorem dX0_turn_9 : decode cX0_turn 9 = .ok (.iload_n 3, 1) := by decide +kernel
theorem dX0_turn_10 : decode cX0_turn 10 = .ok (.iload 4, 2) := by decide +kernel
theorem dX0_turn_12 : decode cX0_turn 12 = .ok (.if_icmp .ne 5, 3) := by decide +kernel
theorem dX0_turn_15 : decode cX0_turn 15 = .ok (.iconst 1, 1) := by decide +kernel
theorem dX0_turn_16 : decode cX0_turn 16 = .ok (.ireturn, 1) := by decide +kernel
theorem dX0_turn_17 : decode cX0_turn 17 = .ok (.aload_n 0, 1) := by decide +kernel
theorem dX0_turn_18 : decode cX0_turn 18 = .ok (.getfield 9, 3) := by decide +kernel
theorem dX0_turn_21 : decode cX0_turn 21 = .ok (.iload_n 3, 1) := by decide +kernel
theorem dX0_turn_22 : decode cX0_turn 22 = .ok (.iload 4, 2) := by decide +kernel
theorem dX0_turn_24 : decode cX0_turn 24 = .ok (.invokestatic 37, 3) := by decide +kernel
theorem dX0_turn_27 : decode cX0_turn 27 = .ok (.iaload, 1) := by decide +kernel
theorem dX0_turn_28 : decode cX0_turn 28 = .ok (.istore 5, 2) := by decide +kernel
theorem dX0_turn_30 : decode cX0_turn 30 = .ok (.iload_n 3, 1) := by decide +kernel
theorem dX0_turn_31 : decode cX0_turn 31 = .ok (.iconst 3, 1) := by decide +kernel
theorem dX0_turn_32 : decode cX0_turn 32 = .ok (.if_icmp .ne 7, 3) := by decide +kernel
theorem dX0_turn_35 : decode cX0_turn 35 = .ok (.iconst 1, 1) := by decide +kernel
theorem dX0_turn_36 : decode cX0_turn 36 = .ok (.goto 4, 3) := by decide +kernel
theorem dX0_turn_39 : decode cX0_turn 39 = .ok (.iconst 0, 1) := by decide +kernel
theorem dX0_turn_40 : decode cX0_turn 40 = .ok (.istore 6, 2) := by decide +kernel
theorem dX0_turn_42 : decode cX0_turn 42 = .ok (.iload 6, 2) := by decide +kernel
theorem dX0_turn_44 : decode cX0_turn 44 = .ok (.ifCond .eq 12, 3) := by decide +kernel
theorem dX0_turn_47 : decode cX0_turn 47 = .ok (.aload_n 1, 1) := by decide +kernel
theorem dX0_turn_48 : decode cX0_turn 48 = .ok (.iload_n 2, 1) := by decide +kernel
theorem dX0_turn_49 : decode cX0_turn 49 = .ok (.invokevirtual 56, 3) := by decide +kernel
theorem dX0_turn_52 : decode cX0_turn 52 = .ok (.d2l, 1) := by decide +kernel
theorem dX0_turn_53 : decode cX0_turn 53 = .ok (.goto 8, 3) := by decide +kernel
theorem dX0_turn_56 : decode cX0_turn 56 = .ok (.aload_n 1, 1) := by decide +kernel
theorem dX0_turn_57 : decode cX0_turn 57 = .ok (.iload_n 2, 1) := by decide +kernel
theorem dX0_turn_58 : decode cX0_turn 58 = .ok (.invokevirtual 60, 3) := by decide +kernel
theorem dX0_turn_61 : decode cX0_turn 61 = .ok (.lstore 7, 2) := by decide +kernel
theorem dX0_turn_63 : decode cX0_turn 63 = .ok (.iload 6, 2) := by decide +kernel
theorem dX0_turn_65 : decode cX0_turn 65 = .ok (.ifCond .eq 14, 3) := by decide +kernel
theorem dX0_turn_68 : decode cX0_turn 68 = .ok (.aload_n 1, 1) := by decide +kernel
theorem dX0_turn_69 : decode cX0_turn 69 = .ok (.iload_n 2, 1) := by decide +kernel
theorem dX0_turn_70 : decode cX0_turn 70 = .ok (.invokevirtual 56, 3) := by decide +kernel
theorem dX0_turn_73 : decode cX0_turn 73 = .ok (.invokestatic 64, 3) := by decide +kernel
theorem dX0_turn_76 : decode cX0_turn 76 = .ok (.ifCond .eq 7, 3) := by decide +kernel
theorem dX0_turn_79 : decode cX0_turn 79 = .ok (.iconst 1, 1) := by decide +kernel
theorem dX0_turn_80 : decode cX0_turn 80 = .ok (.goto 4, 3) := by decide +kernel
theorem dX0_turn_83 : decode cX0_turn 83 = .ok (.iconst 0, 1) := by decide +kernel
theorem dX0_turn_84 : decode cX0_turn 84 = .ok (.istore 9, 2) := by decide +kernel
theorem dX0_turn_86 : decode cX0_turn 86 = .ok (.iload 5, 2) := by decide +kernel
theorem dX0_turn_88 : decode cX0_turn 88 = .ok (.ifCond .ne 20, 3) := by decide +kernel
theorem dX0_turn_91 : decode cX0_turn 91 = .ok (.iload 9, 2) := by decide +kernel
theorem dX0_turn_93 : decode cX0_turn 93 = .ok (.ifCond .eq 13, 3) := by decide +kernel
theorem dX0_turn_96 : decode cX0_turn 96 = .ok (.iload 4, 2) := by decide +kernel
theorem dX0_turn_98 : decode cX0_turn 98 = .ok (.lload 7, 2) := by decide +kernel
theorem dX0_turn_100 : decode cX0_turn 100 = .ok (.invokestatic 70, 3) := by decide +kernel
theorem dX0_turn_103 : decode cX0_turn 103 = .ok (.ifCond .ne 5, 3) := by decide +kernel
theorem dX0_turn_106 : decode cX0_turn 106 = .ok (.iconst 0, 1) := by decide +kernel
theorem dX0_turn_107 : decode cX0_turn 107 = .ok (.ireturn, 1) := by decide +kernel
theorem dX0_turn_108 : decode cX0_turn 108 = .ok (.aload_n 0, 1) := by decide +kernel
theorem dX0_turn_109 : decode cX0_turn 109 = .ok (.aload_n 1, 1) := by decide +kernel
theorem dX0_turn_110 : decode cX0_turn 110 = .ok (.iload_n 2, 1) := by decide +kernel
theorem dX0_turn_111 : decode cX0_turn 111 = .ok (.iload 4, 2) := by decide +kernel
theorem dX0_turn_113 : decode cX0_turn 113 = .ok (.iload 5, 2) := by decide +kernel
theorem dX0_turn_115 : decode cX0_turn 115 = .ok (.lload 7, 2) := by decide +kernel
theorem dX0_turn_117 : decode cX0_turn 117 = .ok (.invokevirtual 74, 3) := by decide +kernel
theorem dX0_turn_120 : decode cX0_turn 120 = .ok (.iconst 1, 1) := by decide +kernel
theorem dX0_turn_121 : decode cX0_turn 121 = .ok (.ireturn, 1) := by decide +kernel
theorem dX0_setTurned_0 : decode cX0_setTurned 0 = .ok (.iload_n 3, 1) := by decide +kernel
theorem dX0_setTurned_1 : decode cX0_setTurned 1 = .ok (.iconst 3, 1) := by decide +kernel
theorem dX0_setTurned_2 : decode cX0_setTurned 2 = .ok (.if_icmp .ne 16, 3) := by decide +kernel
theorem dX0_setTurned_5 : decode cX0_setTurned 5 = .ok (.aload_n 1, 1) := by decide +kernel
theorem dX0_setTurned_6 : decode cX0_setTurned 6 = .ok (.iload_n 2, 1) := by decide +kernel
theorem dX0_setTurned_7 : decode cX0_setTurned 7 = .ok (.iconst 1, 1) := by decide +kernel
theorem dX0_setTurned_8 : decode cX0_setTurned 8 = .ok (.lconst 0, 1) := by decide +kernel
theorem dX0_setTurned_9 : decode cX0_setTurned 9 = .ok (.lload 5, 2) := by decide +kernel
theorem dX0_setTurned_11 : decode cX0_setTurned 11 = .ok (.l2d, 1) := by decide +kernel
theorem dX0_setTurned_12 : decode cX0_setTurned 12 = .ok (.invokevirtual 78, 3) := by decide +kernel
theorem dX0_setTurned_15 : decode cX0_setTurned 15 = .ok (.goto 52, 3) := by decide +kernel
theorem dX0_setTurned_18 : decode cX0_setTurned 18 = .ok (.iload 4, 2) := by decide +kernel
theorem dX0_setTurned_20 : decode cX0_setTurned 20 = .ok (.iconst 1, 1) := by decide +kernel
theorem dX0_setTurned_21 : decode cX0_setTurned 21 = .ok (.if_icmp .ne 19, 3) := by decide +kernel
theorem dX0_setTurned_24 : decode cX0_setTurned 24 = .ok (.aload_n 1, 1) := by decide +kernel
theorem dX0_setTurned_25 : decode cX0_setTurned 25 = .ok (.iload_n 2, 1) := by decide +kernel
theorem dX0_setTurned_26 : decode cX0_setTurned 26 = .ok (.iconst 1, 1) := by decide +kernel
theorem dX0_setTurned_27 : decode cX0_setTurned 27 = .ok (.iload_n 3, 1) := by decide +kernel
theorem dX0_setTurned_28 : decode cX0_setTurned 28 = .ok (.lload 5, 2) := by decide +kernel
theorem dX0_setTurned_30 : decode cX0_setTurned 30 = .ok (.invokestatic 82, 3) := by decide +kernel
theorem dX0_setTurned_33 : decode cX0_setTurned 33 = .ok (.dconst 0, 1) := by decide +kernel
theorem dX0_setTurned_34 : decode cX0_setTurned 34 = .ok (.invokevirtual 78, 3) := by decide +kernel
theorem dX0_setTurned_37 : decode cX0_setTurned 37 = .ok (.goto 30, 3) := by decide +kernel
theorem dX0_setTurned_40 : decode cX0_setTurned 40 = .ok (.iload_n 3, 1) := by decide +kernel
theorem dX0_setTurned_41 : decode cX0_setTurned 41 = .ok (.invokestatic 86, 3) := by decide +kernel
theorem dX0_setTurned_44 : decode cX0_setTurned 44 = .ok (.iload_n 3, 1) := by decide +kernel
theorem dX0_setTurned_45 : decode cX0_setTurned 45 = .ok (.invokestatic 89, 3) := by decide +kernel
theorem dX0_setTurned_48 : decode cX0_setTurned 48 = .ok (.lload 5, 2) := by decide +kernel
theorem dX0_setTurned_50 : decode cX0_setTurned 50 = .ok (.invokestatic 92, 3) := by decide +kernel
theorem dX0_setTurned_53 : decode cX0_setTurned 53 = .ok (.invokestatic 98, 3) := by decide +kernel
theorem dX0_setTurned_56 : decode cX0_setTurned 56 = .ok (.lstore 7, 2) := by decide +kernel
theorem dX0_setTurned_58 : decode cX0_setTurned 58 = .ok (.aload_n 1, 1) := by decide +kernel
theorem dX0_setTurned_59 : decode cX0_setTurned 59 = .ok (.iload_n 2, 1) := by decide +kernel
theorem dX0_setTurned_60 : decode cX0_setTurned 60 = .ok (.iconst 1, 1) := by decide +kernel
theorem dX0_setTurned_61 : decode cX0_setTurned 61 = .ok (.lload 7, 2) := by decide +kernel
theorem dX0_setTurned_63 : decode cX0_setTurned 63 = .ok (.dconst 0, 1) := by decide +kernel
theorem dX0_setTurned_64 : decode cX0_setTurned 64 = .ok (.invokevirtual 78, 3) := by decide +kernel
theorem dX0_setTurned_67 : decode cX0_setTurned 67 = .ok (.return_, 1) := by decide +kernel
set_option maxHeartbeats 4000000 in
set_option maxRecDepth 100000 in
theorem c_X0_setTurned (ω : Om) (l : Launch) (μ : M3) (q1 : Int) (x2 : Int) (x3 : Int) (x4 : Int) (x5 : Int) (hq1 : isRow q1) (hx2 : ir x2) (hx3 : ir x3) (hx4 : ir x4) (hx5 : jr x5) (hI : IC μ) : CtV ω l yX0_setTurned cX0_setTurned 9 1 40 [.ref (oP ω 6), .ref (oP ω q1), .int (iv x2), .int (iv x3), .int (iv x4), .long (jv x5)] μ (fun (μ' : M3) => (Fr [q1 + 1, q1 + 2, q1 + 3] μ μ') ∧ (IC μ') ∧ (μ'.2 = μ.2) ∧ (μ'.1 q1 3 = μ.1 q1 3)) := by
  refine CtV.go (by decide) (Nat.le_of_ble_eq_true rfl) (fun ρ p e s m below meth c R ls G hR hret hlk hl => ?_)
  have hx := G.1.1
  have hb := G.1.2.1
  have hl : lv_has ls 9 [(0, .ref (oP ω 6)), (1, .ref (oP ω q1)), (2, .int (iv x2)), (3, .int (iv x3)), (4, .int (iv x4)), (5, .long (jv x5))] := hl
  generalize s.drawn = d0 at G ⊢
  have hr_x2 : -2147483648 ≤ x2 ∧ x2 ≤ 2147483647 := hx2
  have hr_x3 : -2147483648 ≤ x3 ∧ x3 ≤ 2147483647 := hx3
  have hr_x4 : -2147483648 ≤ x4 ∧ x4 ≤ 2147483647 := hx4
  have hq1_nn := hq1.nn
  refine lv_iload_n hx hb dX0_setTurned_0 rfl (lv_at hl 3 rfl) ?_
  refine lv_iconst (v := iv 3) hx hb dX0_setTurned_1 rfl ?_
  refine xb_icmp_ne (tgt := 18) hx hb (by unfold ir; omega) (by unfold ir; omega) dX0_setTurned_2 (by decide) (fun c_2 => ?_) (fun c_2 => ?_)
  · refine lv_iload hx hb dX0_setTurned_18 (lv_at hl 4 rfl) ?_
    refine lv_iconst (v := iv 1) hx hb dX0_setTurned_20 rfl ?_
    refine xb_icmp_ne (tgt := 40) hx hb (by unfold ir; omega) (by unfold ir; omega) dX0_setTurned_21 (by decide) (fun c_21 => ?_) (fun c_21 => ?_)
    · refine lv_iload_n hx hb dX0_setTurned_40 rfl (lv_at hl 3 rfl) ?_
      refine xc_lS G (rest := []) (As := [.int (iv x3)]) (c_X6_least ω l μ x3 (by unfold ir; omega)) (wm 6 52 rfl rfl) (wm 5 41 rfl rfl) (wm 1 20 rfl rfl) (wm 5 42 rfl rfl) (by decide) hR (by decide) (n := 1) rfl rfl (Nat.le_of_ble_eq_true rfl) hl.1 dX0_setTurned_41 (fun r_2 μ1 ρ d0 H locs hr_r_2 hp G => ?_)
      have hsm_3 := hp
      have hsm_3 := Eq.symm hsm_3
      subst hsm_3
      refine lv_iload_n hx hb dX0_setTurned_44 rfl (lv_at hl 3 rfl) ?_
      refine xc_lS G (rest := [.long (jv r_2)]) (As := [.int (iv x3)]) (c_X6_most ω l μ x3 (by unfold ir; omega)) (wm 6 53 rfl rfl) (wm 3 91 rfl rfl) (wm 1 20 rfl rfl) (wm 3 92 rfl rfl) (by decide) hR (by decide) (n := 1) rfl rfl (Nat.le_of_ble_eq_true rfl) hl.1 dX0_setTurned_45 (fun r_5 μ4 ρ d0 H locs hr_r_5 hp G => ?_)
      have hsm_6 := hp
      have hsm_6 := Eq.symm hsm_6
      subst hsm_6
      refine lv_lload hx hb dX0_setTurned_48 (lv_at hl 5 rfl) ?_
      refine xm_minl G (wm 6 54 rfl rfl) (wm 6 55 rfl rfl) (wm 1 11 rfl rfl) (wm 6 56 rfl rfl) hR (by decide) (Nat.le_of_ble_eq_true rfl) hl.1 dX0_setTurned_50 (fun z_7 hr_z_7 => ?_)
      refine xm_maxl G (wm 6 57 rfl rfl) (wm 6 58 rfl rfl) (wm 1 11 rfl rfl) (wm 6 59 rfl rfl) hR (by decide) (Nat.le_of_ble_eq_true rfl) hl.1 dX0_setTurned_53 (fun z_8 hr_z_8 => ?_)
      refine lv_lstore (lv' := [(7, .long (jv z_8)), (0, .ref (oP ω 6)), (1, .ref (oP ω q1)), (2, .int (iv x2)), (3, .int (iv x3)), (4, .int (iv x4)), (5, .long (jv x5))]) hx hb dX0_setTurned_56 hl (by decide) rfl (fun ls hl => ?_)
      refine lv_aload_n hx hb dX0_setTurned_58 rfl (lv_at hl 2 rfl) ?_
      refine lv_iload_n hx hb dX0_setTurned_59 rfl (lv_at hl 3 rfl) ?_
      refine lv_iconst (v := iv 1) hx hb dX0_setTurned_60 rfl ?_
      refine lv_lload hx hb dX0_setTurned_61 (lv_at hl 0 rfl) ?_
      refine lv_dconst0 hx hb dX0_setTurned_63 ?_
      refine xb_topd (fun dd_9 he_dd_9 => ?_)
      refine xc_vV G (b := q1) (rest := []) (As := [.int (iv x2), .int (iv 1), .long (jv z_8), .double (dv dd_9)]) (c_X9_set ω l μ q1 x2 1 z_8 dd_9 hq1 (by unfold ir; omega) (by unfold ir; omega) hr_z_8 hI) (wm 6 47 rfl rfl) (wm 4 77 rfl rfl) (wm 4 78 rfl rfl) hq1.ly rfl (by decide) (hq1.hq ω ρ) (wm 1 10 rfl rfl) (wm 4 79 rfl rfl) (by decide) hR (by decide) (n := 4) rfl rfl (Nat.le_of_ble_eq_true rfl) hl.1 dX0_setTurned_64 (fun μ10 ρ d0 H locs hp G => ?_)
      obtain ⟨F_11, hI_12, hp_13⟩ := hp
      have e_14 : μ10.1 q1 3 = μ.1 q1 3 := (F_11.1 q1 (by simp <;> omega) 3)
      exact xr_v G hret hlk dX0_setTurned_67 ⟨(Fr.tr Fr.rf F_11 (by simp)), hI_12, hp_13, (by omega)⟩
    · refine lv_aload_n hx hb dX0_setTurned_24 rfl (lv_at hl 1 rfl) ?_
      refine lv_iload_n hx hb dX0_setTurned_25 rfl (lv_at hl 2 rfl) ?_
      refine lv_iconst (v := iv 1) hx hb dX0_setTurned_26 rfl ?_
      refine lv_iload_n hx hb dX0_setTurned_27 rfl (lv_at hl 3 rfl) ?_
      refine lv_lload hx hb dX0_setTurned_28 (lv_at hl 5 rfl) ?_
      refine xc_lS G (rest := [.int (iv 1), .int (iv x2), .ref (oP ω q1)]) (As := [.int (iv x3), .long (jv x5)]) (c_X0_wrapped ω l μ x3 x5 (by unfold ir; omega) hx5) (wm 6 48 rfl rfl) (wm 6 49 rfl rfl) (wm 1 7 rfl rfl) (wm 6 50 rfl rfl) (by decide) hR (by decide) (n := 2) rfl rfl (Nat.le_of_ble_eq_true rfl) hl.1 dX0_setTurned_30 (fun r_16 μ15 ρ d0 H locs hr_r_16 hp G => ?_)
      have hsm_17 := hp
      have hsm_17 := Eq.symm hsm_17
      subst hsm_17
      refine lv_dconst0 hx hb dX0_setTurned_33 ?_
      refine xb_topd (fun dd_18 he_dd_18 => ?_)
      refine xc_vV G (b := q1) (rest := []) (As := [.int (iv x2), .int (iv 1), .long (jv r_16), .double (dv dd_18)]) (c_X9_set ω l μ q1 x2 1 r_16 dd_18 hq1 (by unfold ir; omega) (by unfold ir; omega) hr_r_16 hI) (wm 6 47 rfl rfl) (wm 4 77 rfl rfl) (wm 4 78 rfl rfl) hq1.ly rfl (by decide) (hq1.hq ω ρ) (wm 1 10 rfl rfl) (wm 4 79 rfl rfl) (by decide) hR (by decide) (n := 4) rfl rfl (Nat.le_of_ble_eq_true rfl) hl.1 dX0_setTurned_34 (fun μ19 ρ d0 H locs hp G => ?_)
      obtain ⟨F_20, hI_21, hp_22⟩ := hp
      refine lv_goto (tgt := 67) hx hb dX0_setTurned_37 (by decide) ?_
      have e_23 : μ19.1 q1 3 = μ.1 q1 3 := (F_20.1 q1 (by simp <;> omega) 3)
      exact xr_v G hret hlk dX0_setTurned_67 ⟨(Fr.tr Fr.rf F_20 (by simp)), hI_21, hp_22, (by omega)⟩
  · refine lv_aload_n hx hb dX0_setTurned_5 rfl (lv_at hl 1 rfl) ?_
    refine lv_iload_n hx hb dX0_setTurned_6 rfl (lv_at hl 2 rfl) ?_
    refine lv_iconst (v := iv 1) hx hb dX0_setTurned_7 rfl ?_
    refine lv_lconst (v := jv 0) hx hb dX0_setTurned_8 rfl ?_
    refine lv_lload hx hb dX0_setTurned_9 (lv_at hl 5 rfl) ?_
    refine lv_l2d hx hb dX0_setTurned_11 ?_
    refine xb_topd (fun dd_24 he_dd_24 => ?_)
    refine xc_vV G (b := q1) (rest := []) (As := [.int (iv x2), .int (iv 1), .long (jv 0), .double (dv dd_24)]) (c_X9_set ω l μ q1 x2 1 0 dd_24 hq1 (by unfold ir; omega) (by unfold ir; omega) (by unfold jr; omega) hI) (wm 6 47 rfl rfl) (wm 4 77 rfl rfl) (wm 4 78 rfl rfl) hq1.ly rfl (by decide) (hq1.hq ω ρ) (wm 1 10 rfl rfl) (wm 4 79 rfl rfl) (by decide) hR (by decide) (n := 4) rfl rfl (Nat.le_of_ble_eq_true rfl) hl.1 dX0_setTurned_12 (fun μ25 ρ d0 H locs hp G => ?_)
    obtain ⟨F_26, hI_27, hp_28⟩ := hp
    refine lv_goto (tgt := 67) hx hb dX0_setTurned_15 (by decide) ?_
    have e_29 : μ25.1 q1 3 = μ.1 q1 3 := (F_26.1 q1 (by simp <;> omega) 3)
    exact xr_v G hret hlk dX0_setTurned_67 ⟨(Fr.tr Fr.rf F_26 (by simp)), hI_27, hp_28, (by omega)⟩

set_option maxHeartbeats 4000000 in
set_option maxRecDepth 100000 in
theorem c_X0_turn (ω : Om) (l : Launch) (μ : M3) (q1 : Int) (x2 : Int) (x3 : Int) (x4 : Int) (hq1 : isRow q1) (hx2 : ir x2) (hx3 : ir x3) (hx4 : ir x4) (hI : IC μ) : CtI ω l yX0_turn cX0_turn 10 .boolean 2 68 [.ref (oP ω 6), .ref (oP ω q1), .int (iv x2), .int (iv x3), .int (iv x4)] μ (fun (r : Int) (μ' : M3) => (Fr [q1 + 1, q1 + 2, q1 + 3] μ μ') ∧ (IC μ') ∧ (r = 0 ∨ r = 1) ∧ (μ'.2 = μ.2) ∧ (μ'.1 q1 3 = μ.1 q1 3)) := by
  refine CtI.go (by decide) (Nat.le_of_ble_eq_true rfl) (fun ρ p e s m below meth c R ls G hR hret hlk hl => ?_)
  have hx := G.1.1
  have hb := G.1.2.1
  have hl : lv_has ls 10 [(0, .ref (oP ω 6)), (1, .ref (oP ω q1)), (2, .int (iv x2)), (3, .int (iv x3)), (4, .int (iv x4))] := hl
  generalize s.drawn = d0 at G ⊢
  have hr_x2 : -2147483648 ≤ x2 ∧ x2 ≤ 2147483647 := hx2
  have hr_x3 : -2147483648 ≤ x3 ∧ x3 ≤ 2147483647 := hx3
  have hr_x4 : -2147483648 ≤ x4 ∧ x4 ≤ 2147483647 := hx4
  have hq1_nn := hq1.nn
  refine lv_aload_n hx hb dX0_turn_0 rfl (lv_at hl 1 rfl) ?_
  refine lv_iload_n hx hb dX0_turn_1 rfl (lv_at hl 2 rfl) ?_
  refine xc_iV G (b := q1) (rest := []) (As := [.int (iv x2)]) (c_X9_kind ω l μ q1 x2 hq1 (by unfold ir; omega) hI) (wm 6 36 rfl rfl) (wm 5 156 rfl rfl) (wm 5 157 rfl rfl) hq1.ly rfl (by decide) (hq1.hq ω ρ) (wm 1 10 rfl rfl) (wm 5 158 rfl rfl) (by decide) hR (by decide) (n := 1) rfl rfl (Nat.le_of_ble_eq_true rfl) hl.1 dX0_turn_2 (fun r_2 μ1 ρ d0 H locs hr_r_2 hp G => ?_)
  have hr_r_2 : -2147483648 ≤ r_2 ∧ r_2 ≤ 2147483647 := hr_r_2
  have hsm_3 := hp
  have hsm_3 := Eq.symm hsm_3
  subst hsm_3
  refine lv_iconst (v := iv 1) hx hb dX0_turn_5 rfl ?_
  refine xb_icmp_ne (tgt := 15) hx hb (by unfold ir; omega) (by unfold ir; omega) dX0_turn_6 (by decide) (fun c_6 => ?_) (fun c_6 => ?_)
  · refine lv_iconst (v := iv 1) hx hb dX0_turn_15 rfl ?_
    exact xr_i G (x := 1) hret hlk (by unfold ir; omega) (zr (by omega)) dX0_turn_16 ⟨Fr.rf, hI, (by omega), rfl, (by omega)⟩
  · refine lv_iload_n hx hb dX0_turn_9 rfl (lv_at hl 3 rfl) ?_
    refine lv_iload hx hb dX0_turn_10 (lv_at hl 4 rfl) ?_
    refine xb_icmp_ne (tgt := 17) hx hb (by unfold ir; omega) (by unfold ir; omega) dX0_turn_12 (by decide) (fun c_12 => ?_) (fun c_12 => ?_)
    · refine lv_aload_n hx hb dX0_turn_17 rfl (lv_at hl 0 rfl) ?_
      refine xa_getr G fd_X0 (a := 6) (x := 7) 0 rfl (by decide) rfl (wm 1 115 rfl rfl) ⟨rfl, rfl, rfl⟩ dX0_turn_18 rfl (G.sk 9 rfl) (by decide) rfl ?_
      refine lv_iload_n hx hb dX0_turn_21 rfl (lv_at hl 3 rfl) ?_
      refine lv_iload hx hb dX0_turn_22 (lv_at hl 4 rfl) ?_
      refine xc_iS G (rest := [.ref (oP ω 7)]) (As := [.int (iv x3), .int (iv x4)]) (c_X0_border ω l μ x3 x4 (by unfold ir; omega) (by unfold ir; omega)) (wm 5 2 rfl rfl) (wm 5 3 rfl rfl) (wm 1 7 rfl rfl) (wm 5 4 rfl rfl) (by decide) hR (by decide) (n := 2) rfl rfl (Nat.le_of_ble_eq_true rfl) hl.1 dX0_turn_24 (fun r_5 μ4 ρ d0 H locs hr_r_5 hp G => ?_)
      have hr_r_5 : -2147483648 ≤ r_5 ∧ r_5 ≤ 2147483647 := hr_r_5
      obtain ⟨hsm_6, hp_7⟩ := hp
      have hsm_6 := Eq.symm hsm_6
      subst hsm_6
      refine xa_iald G (a := 7) (i := r_5) rfl (by have h9 := G.lc (a := 7) (n := 16) 4 rfl; omega) dX0_turn_27 rfl ?_
      have hr_8 : -2147483648 ≤ μ.1 7 r_5 ∧ μ.1 7 r_5 ≤ 2147483647 := by have h9 := G.hr (a := 7) (k := r_5) rfl; exact h9
      refine lv_istore (lv' := [(5, .int (iv (μ.1 7 r_5))), (0, .ref (oP ω 6)), (1, .ref (oP ω q1)), (2, .int (iv x2)), (3, .int (iv x3)), (4, .int (iv x4))]) hx hb dX0_turn_28 hl (by decide) rfl (fun ls hl => ?_)
      refine lv_iload_n hx hb dX0_turn_30 rfl (lv_at hl 4 rfl) ?_
      refine lv_iconst (v := iv 3) hx hb dX0_turn_31 rfl ?_
      refine xb_icmp_ne (tgt := 39) hx hb (by unfold ir; omega) (by unfold ir; omega) dX0_turn_32 (by decide) (fun c_32 => ?_) (fun c_32 => ?_)
      · refine lv_iconst (v := iv 0) hx hb dX0_turn_39 rfl ?_
        refine lv_istore (lv' := [(6, .int (iv 0)), (5, .int (iv (μ.1 7 r_5))), (0, .ref (oP ω 6)), (1, .ref (oP ω q1)), (2, .int (iv x2)), (3, .int (iv x3)), (4, .int (iv x4))]) hx hb dX0_turn_40 hl (by decide) rfl (fun ls hl => ?_)
        refine lv_iload hx hb dX0_turn_42 (lv_at hl 0 rfl) ?_
        refine xb_if_eq (tgt := 56) hx hb (x := 0) (by unfold ir; omega) dX0_turn_44 (by decide) (fun c_44 => ?_) (fun c_44 => absurd (by decide) c_44)
        refine lv_aload_n hx hb dX0_turn_56 rfl (lv_at hl 3 rfl) ?_
        refine lv_iload_n hx hb dX0_turn_57 rfl (lv_at hl 4 rfl) ?_
        refine xc_lV G (b := q1) (rest := []) (As := [.int (iv x2)]) (c_X9_whole ω l μ q1 x2 hq1 (by unfold ir; omega) hI) (wm 6 38 rfl rfl) (wm 5 160 rfl rfl) (wm 5 161 rfl rfl) hq1.ly rfl (by decide) (hq1.hq ω ρ) (wm 1 10 rfl rfl) (wm 5 162 rfl rfl) (by decide) hR (by decide) (n := 1) rfl rfl (Nat.le_of_ble_eq_true rfl) hl.1 dX0_turn_58 (fun r_10 μ9 ρ d0 H locs hr_r_10 hp G => ?_)
        have hsm_11 := hp
        have hsm_11 := Eq.symm hsm_11
        subst hsm_11
        refine lv_lstore (lv' := [(7, .long (jv r_10)), (6, .int (iv 0)), (5, .int (iv (μ.1 7 r_5))), (0, .ref (oP ω 6)), (1, .ref (oP ω q1)), (2, .int (iv x2)), (3, .int (iv x3)), (4, .int (iv x4))]) hx hb dX0_turn_61 hl (by decide) rfl (fun ls hl => ?_)
        refine lv_iload hx hb dX0_turn_63 (lv_at hl 1 rfl) ?_
        refine xb_if_eq (tgt := 79) hx hb (x := 0) (by unfold ir; omega) dX0_turn_65 (by decide) (fun c_65 => ?_) (fun c_65 => absurd (by decide) c_65)
        refine lv_iconst (v := iv 1) hx hb dX0_turn_79 rfl ?_
        refine lv_goto (tgt := 84) hx hb dX0_turn_80 (by decide) ?_
        refine lv_istore (lv' := [(9, .int (iv 1)), (7, .long (jv r_10)), (6, .int (iv 0)), (5, .int (iv (μ.1 7 r_5))), (0, .ref (oP ω 6)), (1, .ref (oP ω q1)), (2, .int (iv x2)), (3, .int (iv x3)), (4, .int (iv x4))]) hx hb dX0_turn_84 hl (by decide) rfl (fun ls hl => ?_)
        refine lv_iload hx hb dX0_turn_86 (lv_at hl 3 rfl) ?_
        refine xb_if_ne (tgt := 108) hx hb (by unfold ir; omega) dX0_turn_88 (by decide) (fun c_88 => ?_) (fun c_88 => ?_)
        · refine lv_aload_n hx hb dX0_turn_108 rfl (lv_at hl 4 rfl) ?_
          refine lv_aload_n hx hb dX0_turn_109 rfl (lv_at hl 5 rfl) ?_
          refine lv_iload_n hx hb dX0_turn_110 rfl (lv_at hl 6 rfl) ?_
          refine lv_iload hx hb dX0_turn_111 (lv_at hl 8 rfl) ?_
          refine lv_iload hx hb dX0_turn_113 (lv_at hl 3 rfl) ?_
          refine lv_lload hx hb dX0_turn_115 (lv_at hl 1 rfl) ?_
          have hk_12 := hI.row (r := q1) hq1
          unfold rk at hk_12
          refine xc_vV G (b := 6) (rest := []) (As := [.ref (oP ω q1), .int (iv x2), .int (iv x4), .int (iv (μ.1 7 r_5)), .long (jv r_10)]) (c_X0_setTurned ω l μ q1 x2 x4 (μ.1 7 r_5) r_10 hq1 (by unfold ir; omega) (by unfold ir; omega) (by unfold ir; omega) hr_r_10 hI) (wm 6 43 rfl rfl) (wm 6 45 rfl rfl) (wm 0 76 rfl rfl) rfl rfl (by decide) rfl (wm 1 7 rfl rfl) (wm 6 46 rfl rfl) (by decide) hR (by decide) (n := 5) rfl rfl (Nat.le_of_ble_eq_true rfl) hl.1 dX0_turn_117 (fun μ13 ρ d0 H locs hp G => ?_)
          obtain ⟨F_14, hI_15, hp_16, hs_17⟩ := hp
          refine lv_iconst (v := iv 1) hx hb dX0_turn_120 rfl ?_
          have e_18 : μ13.1 q1 3 = μ.1 q1 3 := hs_17
          exact xr_i G (x := 1) hret hlk (by unfold ir; omega) (zr (by omega)) dX0_turn_121 ⟨(Fr.tr Fr.rf F_14 (by simp)), hI_15, (by omega), hp_16, (by omega)⟩
        · refine lv_iload hx hb dX0_turn_91 (lv_at hl 0 rfl) ?_
          refine xb_if_eq (tgt := 106) hx hb (x := 1) (by unfold ir; omega) dX0_turn_93 (by decide) (fun c_93 => absurd c_93 (by decide)) (fun c_93 => ?_)
          refine lv_iload hx hb dX0_turn_96 (lv_at hl 8 rfl) ?_
          refine lv_lload hx hb dX0_turn_98 (lv_at hl 1 rfl) ?_
          refine xc_iS G (rest := []) (As := [.int (iv x4), .long (jv r_10)]) (c_X6_has ω l μ x4 r_10 (by unfold ir; omega) hr_r_10) (wm 6 42 rfl rfl) (wm 5 34 rfl rfl) (wm 1 20 rfl rfl) (wm 5 35 rfl rfl) (by decide) hR (by decide) (n := 2) rfl rfl (Nat.le_of_ble_eq_true rfl) hl.1 dX0_turn_100 (fun r_20 μ19 ρ d0 H locs hr_r_20 hp G => ?_)
          have hr_r_20 : -2147483648 ≤ r_20 ∧ r_20 ≤ 2147483647 := hr_r_20
          obtain ⟨hsm_21, hp_22⟩ := hp
          have hsm_21 := Eq.symm hsm_21
          subst hsm_21
          refine xb_if_ne (tgt := 108) hx hb (by unfold ir; omega) dX0_turn_103 (by decide) (fun c_103 => ?_) (fun c_103 => ?_)
          · refine lv_aload_n hx hb dX0_turn_108 rfl (lv_at hl 4 rfl) ?_
            refine lv_aload_n hx hb dX0_turn_109 rfl (lv_at hl 5 rfl) ?_
            refine lv_iload_n hx hb dX0_turn_110 rfl (lv_at hl 6 rfl) ?_
            refine lv_iload hx hb dX0_turn_111 (lv_at hl 8 rfl) ?_
            refine lv_iload hx hb dX0_turn_113 (lv_at hl 3 rfl) ?_
            refine lv_lload hx hb dX0_turn_115 (lv_at hl 1 rfl) ?_
            have hk_23 := hI.row (r := q1) hq1
            unfold rk at hk_23
            refine xc_vV G (b := 6) (rest := []) (As := [.ref (oP ω q1), .int (iv x2), .int (iv x4), .int (iv (μ.1 7 r_5)), .long (jv r_10)]) (c_X0_setTurned ω l μ q1 x2 x4 (μ.1 7 r_5) r_10 hq1 (by unfold ir; omega) (by unfold ir; omega) (by unfold ir; omega) hr_r_10 hI) (wm 6 43 rfl rfl) (wm 6 45 rfl rfl) (wm 0 76 rfl rfl) rfl rfl (by decide) rfl (wm 1 7 rfl rfl) (wm 6 46 rfl rfl) (by decide) hR (by decide) (n := 5) rfl rfl (Nat.le_of_ble_eq_true rfl) hl.1 dX0_turn_117 (fun μ24 ρ d0 H locs hp G => ?_)
            obtain ⟨F_25, hI_26, hp_27, hs_28⟩ := hp
            refine lv_iconst (v := iv 1) hx hb dX0_turn_120 rfl ?_
            have e_29 : μ24.1 q1 3 = μ.1 q1 3 := hs_28
            exact xr_i G (x := 1) hret hlk (by unfold ir; omega) (zr (by omega)) dX0_turn_121 ⟨(Fr.tr Fr.rf F_25 (by simp)), hI_26, (by omega), hp_27, (by omega)⟩
          · refine lv_iconst (v := iv 0) hx hb dX0_turn_106 rfl ?_
            exact xr_i G (x := 0) hret hlk (by unfold ir; omega) (zr (by omega)) dX0_turn_107 ⟨Fr.rf, hI, (by omega), rfl, (by omega)⟩
      · refine lv_iconst (v := iv 1) hx hb dX0_turn_35 rfl ?_
        refine lv_goto (tgt := 40) hx hb dX0_turn_36 (by decide) ?_
        refine lv_istore (lv' := [(6, .int (iv 1)), (5, .int (iv (μ.1 7 r_5))), (0, .ref (oP ω 6)), (1, .ref (oP ω q1)), (2, .int (iv x2)), (3, .int (iv x3)), (4, .int (iv x4))]) hx hb dX0_turn_40 hl (by decide) rfl (fun ls hl => ?_)
        refine lv_iload hx hb dX0_turn_42 (lv_at hl 0 rfl) ?_
        refine xb_if_eq (tgt := 56) hx hb (x := 1) (by unfold ir; omega) dX0_turn_44 (by decide) (fun c_44 => absurd c_44 (by decide)) (fun c_44 => ?_)
        refine lv_aload_n hx hb dX0_turn_47 rfl (lv_at hl 3 rfl) ?_
        refine lv_iload_n hx hb dX0_turn_48 rfl (lv_at hl 4 rfl) ?_
        refine xc_dV G (b := q1) (rest := []) (As := [.int (iv x2)]) (c_X9_real ω l μ q1 x2 hq1 (by unfold ir; omega) hI) (wm 6 37 rfl rfl) (wm 5 206 rfl rfl) (wm 5 207 rfl rfl) hq1.ly rfl (by decide) (hq1.hq ω ρ) (wm 1 10 rfl rfl) (wm 5 208 rfl rfl) (by decide) hR (by decide) (n := 1) rfl rfl (Nat.le_of_ble_eq_true rfl) hl.1 dX0_turn_49 (fun r_31 μ30 ρ d0 H locs hp G => ?_)
        have hsm_32 := hp
        have hsm_32 := Eq.symm hsm_32
        subst hsm_32
        refine lv_d2l hx hb dX0_turn_52 ?_
        refine xb_topl (fun z_33 hr_z_33 he_z_33 => ?_)
        refine lv_goto (tgt := 61) hx hb dX0_turn_53 (by decide) ?_
        refine lv_lstore (lv' := [(7, .long (jv z_33)), (6, .int (iv 1)), (5, .int (iv (μ.1 7 r_5))), (0, .ref (oP ω 6)), (1, .ref (oP ω q1)), (2, .int (iv x2)), (3, .int (iv x3)), (4, .int (iv x4))]) hx hb dX0_turn_61 hl (by decide) rfl (fun ls hl => ?_)
        refine lv_iload hx hb dX0_turn_63 (lv_at hl 1 rfl) ?_
        refine xb_if_eq (tgt := 79) hx hb (x := 1) (by unfold ir; omega) dX0_turn_65 (by decide) (fun c_65 => absurd c_65 (by decide)) (fun c_65 => ?_)
        refine lv_aload_n hx hb dX0_turn_68 rfl (lv_at hl 4 rfl) ?_
        refine lv_iload_n hx hb dX0_turn_69 rfl (lv_at hl 5 rfl) ?_
        refine xc_dV G (b := q1) (rest := []) (As := [.int (iv x2)]) (c_X9_real ω l μ q1 x2 hq1 (by unfold ir; omega) hI) (wm 6 37 rfl rfl) (wm 5 206 rfl rfl) (wm 5 207 rfl rfl) hq1.ly rfl (by decide) (hq1.hq ω ρ) (wm 1 10 rfl rfl) (wm 5 208 rfl rfl) (by decide) hR (by decide) (n := 1) rfl rfl (Nat.le_of_ble_eq_true rfl) hl.1 dX0_turn_70 (fun r_35 μ34 ρ d0 H locs hp G => ?_)
        have hsm_36 := hp
        have hsm_36 := Eq.symm hsm_36
        subst hsm_36
        refine xc_iS G (rest := []) (As := [.double (dv r_35)]) (c_X6_isWhole ω l μ r_35 ) (wm 6 39 rfl rfl) (wm 6 40 rfl rfl) (wm 1 20 rfl rfl) (wm 6 41 rfl rfl) (by decide) hR (by decide) (n := 1) rfl rfl (Nat.le_of_ble_eq_true rfl) hl.1 dX0_turn_73 (fun r_38 μ37 ρ d0 H locs hr_r_38 hp G => ?_)
        have hr_r_38 : -2147483648 ≤ r_38 ∧ r_38 ≤ 2147483647 := hr_r_38
        obtain ⟨hsm_39, hp_40⟩ := hp
        have hsm_39 := Eq.symm hsm_39
        subst hsm_39
        refine xb_if_eq (tgt := 83) hx hb (by unfold ir; omega) dX0_turn_76 (by decide) (fun c_76 => ?_) (fun c_76 => ?_)
        · refine lv_iconst (v := iv 0) hx hb dX0_turn_83 rfl ?_
          refine lv_istore (lv' := [(9, .int (iv 0)), (7, .long (jv z_33)), (6, .int (iv 1)), (5, .int (iv (μ.1 7 r_5))), (0, .ref (oP ω 6)), (1, .ref (oP ω q1)), (2, .int (iv x2)), (3, .int (iv x3)), (4, .int (iv x4))]) hx hb dX0_turn_84 hl (by decide) rfl (fun ls hl => ?_)
          refine lv_iload hx hb dX0_turn_86 (lv_at hl 3 rfl) ?_
          refine xb_if_ne (tgt := 108) hx hb (by unfold ir; omega) dX0_turn_88 (by decide) (fun c_88 => ?_) (fun c_88 => ?_)
          · refine lv_aload_n hx hb dX0_turn_108 rfl (lv_at hl 4 rfl) ?_
            refine lv_aload_n hx hb dX0_turn_109 rfl (lv_at hl 5 rfl) ?_
            refine lv_iload_n hx hb dX0_turn_110 rfl (lv_at hl 6 rfl) ?_
            refine lv_iload hx hb dX0_turn_111 (lv_at hl 8 rfl) ?_
            refine lv_iload hx hb dX0_turn_113 (lv_at hl 3 rfl) ?_
            refine lv_lload hx hb dX0_turn_115 (lv_at hl 1 rfl) ?_
            have hk_41 := hI.row (r := q1) hq1
            unfold rk at hk_41
            refine xc_vV G (b := 6) (rest := []) (As := [.ref (oP ω q1), .int (iv x2), .int (iv x4), .int (iv (μ.1 7 r_5)), .long (jv z_33)]) (c_X0_setTurned ω l μ q1 x2 x4 (μ.1 7 r_5) z_33 hq1 (by unfold ir; omega) (by unfold ir; omega) (by unfold ir; omega) hr_z_33 hI) (wm 6 43 rfl rfl) (wm 6 45 rfl rfl) (wm 0 76 rfl rfl) rfl rfl (by decide) rfl (wm 1 7 rfl rfl) (wm 6 46 rfl rfl) (by decide) hR (by decide) (n := 5) rfl rfl (Nat.le_of_ble_eq_true rfl) hl.1 dX0_turn_117 (fun μ42 ρ d0 H locs hp G => ?_)
            obtain ⟨F_43, hI_44, hp_45, hs_46⟩ := hp
            refine lv_iconst (v := iv 1) hx hb dX0_turn_120 rfl ?_
            have e_47 : μ42.1 q1 3 = μ.1 q1 3 := hs_46
            exact xr_i G (x := 1) hret hlk (by unfold ir; omega) (zr (by omega)) dX0_turn_121 ⟨(Fr.tr Fr.rf F_43 (by simp)), hI_44, (by omega), hp_45, (by omega)⟩
          · refine lv_iload hx hb dX0_turn_91 (lv_at hl 0 rfl) ?_
            refine xb_if_eq (tgt := 106) hx hb (x := 0) (by unfold ir; omega) dX0_turn_93 (by decide) (fun c_93 => ?_) (fun c_93 => absurd (by decide) c_93)
            refine lv_iconst (v := iv 0) hx hb dX0_turn_106 rfl ?_
            exact xr_i G (x := 0) hret hlk (by unfold ir; omega) (zr (by omega)) dX0_turn_107 ⟨Fr.rf, hI, (by omega), rfl, (by omega)⟩
        · refine lv_iconst (v := iv 1) hx hb dX0_turn_79 rfl ?_
          refine lv_goto (tgt := 84) hx hb dX0_turn_80 (by decide) ?_
          refine lv_istore (lv' := [(9, .int (iv 1)), (7, .long (jv z_33)), (6, .int (iv 1)), (5, .int (iv (μ.1 7 r_5))), (0, .ref (oP ω 6)), (1, .ref (oP ω q1)), (2, .int (iv x2)), (3, .int (iv x3)), (4, .int (iv x4))]) hx hb dX0_turn_84 hl (by decide) rfl (fun ls hl => ?_)
          refine lv_iload hx hb dX0_turn_86 (lv_at hl 3 rfl) ?_
          refine xb_if_ne (tgt := 108) hx hb (by unfold ir; omega) dX0_turn_88 (by decide) (fun c_88 => ?_) (fun c_88 => ?_)
          · refine lv_aload_n hx hb dX0_turn_108 rfl (lv_at hl 4 rfl) ?_
            refine lv_aload_n hx hb dX0_turn_109 rfl (lv_at hl 5 rfl) ?_
            refine lv_iload_n hx hb dX0_turn_110 rfl (lv_at hl 6 rfl) ?_
            refine lv_iload hx hb dX0_turn_111 (lv_at hl 8 rfl) ?_
            refine lv_iload hx hb dX0_turn_113 (lv_at hl 3 rfl) ?_
            refine lv_lload hx hb dX0_turn_115 (lv_at hl 1 rfl) ?_
            have hk_48 := hI.row (r := q1) hq1
            unfold rk at hk_48
            refine xc_vV G (b := 6) (rest := []) (As := [.ref (oP ω q1), .int (iv x2), .int (iv x4), .int (iv (μ.1 7 r_5)), .long (jv z_33)]) (c_X0_setTurned ω l μ q1 x2 x4 (μ.1 7 r_5) z_33 hq1 (by unfold ir; omega) (by unfold ir; omega) (by unfold ir; omega) hr_z_33 hI) (wm 6 43 rfl rfl) (wm 6 45 rfl rfl) (wm 0 76 rfl rfl) rfl rfl (by decide) rfl (wm 1 7 rfl rfl) (wm 6 46 rfl rfl) (by decide) hR (by decide) (n := 5) rfl rfl (Nat.le_of_ble_eq_true rfl) hl.1 dX0_turn_117 (fun μ49 ρ d0 H locs hp G => ?_)
            obtain ⟨F_50, hI_51, hp_52, hs_53⟩ := hp
            refine lv_iconst (v := iv 1) hx hb dX0_turn_120 rfl ?_
            have e_54 : μ49.1 q1 3 = μ.1 q1 3 := hs_53
            exact xr_i G (x := 1) hret hlk (by unfold ir; omega) (zr (by omega)) dX0_turn_121 ⟨(Fr.tr Fr.rf F_50 (by simp)), hI_51, (by omega), hp_52, (by omega)⟩
          · refine lv_iload hx hb dX0_turn_91 (lv_at hl 0 rfl) ?_
            refine xb_if_eq (tgt := 106) hx hb (x := 1) (by unfold ir; omega) dX0_turn_93 (by decide) (fun c_93 => absurd c_93 (by decide)) (fun c_93 => ?_)
            refine lv_iload hx hb dX0_turn_96 (lv_at hl 8 rfl) ?_
            refine lv_lload hx hb dX0_turn_98 (lv_at hl 1 rfl) ?_
            refine xc_iS G (rest := []) (As := [.int (iv x4), .long (jv z_33)]) (c_X6_has ω l μ x4 z_33 (by unfold ir; omega) hr_z_33) (wm 6 42 rfl rfl) (wm 5 34 rfl rfl) (wm 1 20 rfl rfl) (wm 5 35 rfl rfl) (by decide) hR (by decide) (n := 2) rfl rfl (Nat.le_of_ble_eq_true rfl) hl.1 dX0_turn_100 (fun r_56 μ55 ρ d0 H locs hr_r_56 hp G => ?_)
            have hr_r_56 : -2147483648 ≤ r_56 ∧ r_56 ≤ 2147483647 := hr_r_56
            obtain ⟨hsm_57, hp_58⟩ := hp
            have hsm_57 := Eq.symm hsm_57
            subst hsm_57
            refine xb_if_ne (tgt := 108) hx hb (by unfold ir; omega) dX0_turn_103 (by decide) (fun c_103 => ?_) (fun c_103 => ?_)
            · refine lv_aload_n hx hb dX0_turn_108 rfl (lv_at hl 4 rfl) ?_
              refine lv_aload_n hx hb dX0_turn_109 rfl (lv_at hl 5 rfl) ?_
              refine lv_iload_n hx hb dX0_turn_110 rfl (lv_at hl 6 rfl) ?_
              refine lv_iload hx hb dX0_turn_111 (lv_at hl 8 rfl) ?_
              refine lv_iload hx hb dX0_turn_113 (lv_at hl 3 rfl) ?_
              refine lv_lload hx hb dX0_turn_115 (lv_at hl 1 rfl) ?_
              have hk_59 := hI.row (r := q1) hq1
              unfold rk at hk_59
              refine xc_vV G (b := 6) (rest := []) (As := [.ref (oP ω q1), .int (iv x2), .int (iv x4), .int (iv (μ.1 7 r_5)), .long (jv z_33)]) (c_X0_setTurned ω l μ q1 x2 x4 (μ.1 7 r_5) z_33 hq1 (by unfold ir; omega) (by unfold ir; omega) (by unfold ir; omega) hr_z_33 hI) (wm 6 43 rfl rfl) (wm 6 45 rfl rfl) (wm 0 76 rfl rfl) rfl rfl (by decide) rfl (wm 1 7 rfl rfl) (wm 6 46 rfl rfl) (by decide) hR (by decide) (n := 5) rfl rfl (Nat.le_of_ble_eq_true rfl) hl.1 dX0_turn_117 (fun μ60 ρ d0 H locs hp G => ?_)
              obtain ⟨F_61, hI_62, hp_63, hs_64⟩ := hp
              refine lv_iconst (v := iv 1) hx hb dX0_turn_120 rfl ?_
              have e_65 : μ60.1 q1 3 = μ.1 q1 3 := hs_64
              exact xr_i G (x := 1) hret hlk (by unfold ir; omega) (zr (by omega)) dX0_turn_121 ⟨(Fr.tr Fr.rf F_61 (by simp)), hI_62, (by omega), hp_63, (by omega)⟩
            · refine lv_iconst (v := iv 0) hx hb dX0_turn_106 rfl ?_
              exact xr_i G (x := 0) hret hlk (by unfold ir; omega) (zr (by omega)) dX0_turn_107 ⟨Fr.rf, hI, (by omega), rfl, (by omega)⟩
    · refine lv_iconst (v := iv 1) hx hb dX0_turn_15 rfl ?_
      exact xr_i G (x := 1) hret hlk (by unfold ir; omega) (zr (by omega)) dX0_turn_16 ⟨Fr.rf, hI, (by omega), rfl, (by omega)⟩
