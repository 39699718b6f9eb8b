abbrev cX4_callNamed : ByteArray := prog_6_method_59_code
def yX4_callNamed : MethodName := ⟨RX4, "callNamed", "(II)V"⟩
abbrev cX4_callHeld : ByteArray := prog_6_method_60_code
def yX4_callHeld : MethodName := ⟨RX4, "callHeld", "(I)V"⟩
theorem dX4_callNamed_0 : decode cX4_callNamed 0 = .ok (.aload_n 0, 1) := by decide +kernel
theorem dX4_callNamed_1 : decode cX4_callNamed 1 = .ok (.invokevirtual 171, 3) := by decide +kernel
theorem dX4_callNamed_4 : decode cX4_callNamed 4 = .ok (.ifCond .ne 4, 3) := by decide +kernel
theorem dX4_callNamed_7 : decode cX4_callNamed 7 = .ok (.return_, 1) := by decide +kernel
theorem dX4_callNamed_8 : decode cX4_callNamed 8 = .ok (.iload_n 1, 1) := by decide +kernel
theorem dX4_callNamed_9 : decode cX4_callNamed 9 = .ok (.iconst 4, 1) := by decide +kernel
theorem dX4_callNamed_10 : decode cX4_callNamed 10 = .ok (.idiv, 1) := by decide +kernel
theorem dX4_callNamed_11 : decode cX4_callNamed 11 = .ok (.istore_n 3, 1) := by decide +kernel
theorem dX4_callNamed_12 : decode cX4_callNamed 12 = .ok (.iload_n 1, 1) := by decide +kernel
theorem dX4_callNamed_13 : decode cX4_callNamed 13 = .ok (.iconst 4, 1) := by decide +kernel
theorem dX4_callNamed_14 : decode cX4_callNamed 14 = .ok (.irem, 1) := by decide +kernel
theorem dX4_callNamed_15 : decode cX4_callNamed 15 = .ok (.istore 4, 2) := by decide +kernel
theorem dX4_callNamed_17 : decode cX4_callNamed 17 = .ok (.aload_n 0, 1) := by decide +kernel
theorem dX4_callNamed_18 : decode cX4_callNamed 18 = .ok (.getfield 71, 3) := by decide +kernel
theorem dX4_callNamed_21 : decode cX4_callNamed 21 = .ok (.iload 4, 2) := by decide +kernel
theorem dX4_callNamed_23 : decode cX4_callNamed 23 = .ok (.iconst 3, 1) := by decide +kernel
theorem dX4_callNamed_24 : decode cX4_callNamed 24 = .ok (.iand, 1) := by decide +kernel
theorem dX4_callNamed_25 : decode cX4_callNamed 25 = .ok (.aaload, 1) := by decide +kernel
theorem dX4_callNamed_26 : decode cX4_callNamed 26 = .ok (.aload_n 0, 1) := by decide +kernel
theorem dX4_callNamed_27 : decode cX4_callNamed 27 = .ok (.getfield 83, 3) := by decide +kernel
theorem dX4_callNamed_30 : decode cX4_callNamed 30 = .ok (.invokevirtual 175, 3) := by decide +kernel
theorem dX4_callNamed_33 : decode cX4_callNamed 33 = .ok (.iload_n 2, 1) := by decide +kernel
theorem dX4_callNamed_34 : decode cX4_callNamed 34 = .ok (.invokevirtual 101, 3) := by decide +kernel
theorem dX4_callNamed_37 : decode cX4_callNamed 37 = .ok (.invokevirtual 458, 3) := by decide +kernel
theorem dX4_callNamed_40 : decode cX4_callNamed 40 = .ok (.istore 5, 2) := by decide +kernel
theorem dX4_callNamed_42 : decode cX4_callNamed 42 = .ok (.iload 5, 2) := by decide +kernel
theorem dX4_callNamed_44 : decode cX4_callNamed 44 = .ok (.ifCond .ge 7, 3) := by decide +kernel
theorem dX4_callNamed_47 : decode cX4_callNamed 47 = .ok (.iconst 3, 1) := by decide +kernel
theorem dX4_callNamed_48 : decode cX4_callNamed 48 = .ok (.goto 10, 3) := by decide +kernel
theorem dX4_callNamed_51 : decode cX4_callNamed 51 = .ok (.aload_n 0, 1) := by decide +kernel
theorem dX4_callNamed_52 : decode cX4_callNamed 52 = .ok (.iload 4, 2) := by decide +kernel
theorem dX4_callNamed_54 : decode cX4_callNamed 54 = .ok (.iload_n 3, 1) := by decide +kernel
theorem dX4_callNamed_55 : decode cX4_callNamed 55 = .ok (.invokevirtual 463, 3) := by decide +kernel
theorem dX4_callNamed_58 : decode cX4_callNamed 58 = .ok (.istore 6, 2) := by decide +kernel
theorem dX4_callNamed_60 : decode cX4_callNamed 60 = .ok (.iload 6, 2) := by decide +kernel
theorem dX4_callNamed_62 : decode cX4_callNamed 62 = .ok (.ifCond .eq 13, 3) := by decide +kernel
theorem dX4_callNamed_65 : decode cX4_callNamed 65 = .ok (.aload_n 0, 1) := by decide +kernel
theorem dX4_callNamed_66 : decode cX4_callNamed 66 = .ok (.iload 6, 2) := by decide +kernel
theorem dX4_callNamed_68 : decode cX4_callNamed 68 = .ok (.iload_n 3, 1) := by decide +kernel
theorem dX4_callNamed_69 : decode cX4_callNamed 69 = .ok (.invokevirtual 287, 3) := by decide +kernel
theorem dX4_callNamed_72 : decode cX4_callNamed 72 = .ok (.goto 20, 3) := by decide +kernel
theorem dX4_callNamed_75 : decode cX4_callNamed 75 = .ok (.aload_n 0, 1) := by decide +kernel
theorem dX4_callNamed_76 : decode cX4_callNamed 76 = .ok (.getfield 58, 3) := by decide +kernel
theorem dX4_callNamed_79 : decode cX4_callNamed 79 = .ok (.ifCond .ne 13, 3) := by decide +kernel
theorem dX4_callNamed_82 : decode cX4_callNamed 82 = .ok (.aload_n 0, 1) := by decide +kernel
theorem dX4_callNamed_83 : decode cX4_callNamed 83 = .ok (.iload 4, 2) := by decide +kernel
theorem dX4_callNamed_85 : decode cX4_callNamed 85 = .ok (.iload 5, 2) := by decide +kernel
theorem dX4_callNamed_87 : decode cX4_callNamed 87 = .ok (.iload_n 3, 1) := by decide +kernel
theorem dX4_callNamed_88 : decode cX4_callNamed 88 = .ok (.iconst 0, 1) := by decide +kernel
theorem dX4_callNamed_89 : decode cX4_callNamed 89 = .ok (.invokevirtual 126, 3) := by decide +kernel
theorem dX4_callNamed_92 : decode cX4_callNamed 92 = .ok (.return_, 1) := by decide +kernel
theorem dX4_callHeld_0 : decode cX4_callHeld 0 = .ok (.aload_n 0, 1) := by decide +kernel
theorem dX4_callHeld_1 : decode cX4_callHeld 1 = .ok (.invokevirtual 171, 3) := by decide +kernel
theorem dX4_callHeld_4 : decode cX4_callHeld 4 = .ok (.ifCond .ne 4, 3) := by decide +kernel
theorem dX4_callHeld_7 : decode cX4_callHeld 7 = .ok (.return_, 1) := by decide +kernel
theorem dX4_callHeld_8 : decode cX4_callHeld 8 = .ok (.aload_n 0, 1) := by decide +kernel
theorem dX4_callHeld_9 : decode cX4_callHeld 9 = .ok (.invokevirtual 255, 3) := by decide +kernel
theorem dX4_callHeld_12 : decode cX4_callHeld 12 = .ok (.iload_n 1, 1) := by decide +kernel
theorem dX4_callHeld_13 : decode cX4_callHeld 13 = .ok (.isub, 1) := by decide +kernel
theorem dX4_callHeld_14 : decode cX4_callHeld 14 = .ok (.istore_n 2, 1) := by decide +kernel
theorem dX4_callHeld_15 : decode cX4_callHeld 15 = .ok (.aload_n 0, 1) := by decide +kernel
theorem dX4_callHeld_16 : decode cX4_callHeld 16 = .ok (.getfield 14, 3) := by decide +kernel
theorem dX4_callHeld_19 : decode cX4_callHeld 19 = .ok (.iload_n 2, 1) := by decide +kernel
theorem dX4_callHeld_20 : decode cX4_callHeld 20 = .ok (.invokevirtual 87, 3) := by decide +kernel
theorem dX4_callHeld_23 : decode cX4_callHeld 23 = .ok (.istore_n 3, 1) := by decide +kernel
theorem dX4_callHeld_24 : decode cX4_callHeld 24 = .ok (.aload_n 0, 1) := by decide +kernel
theorem dX4_callHeld_25 : decode cX4_callHeld 25 = .ok (.getfield 14, 3) := by decide +kernel
theorem dX4_callHeld_28 : decode cX4_callHeld 28 = .ok (.iload_n 2, 1) := by decide +kernel
theorem dX4_callHeld_29 : decode cX4_callHeld 29 = .ok (.invokevirtual 101, 3) := by decide +kernel
theorem dX4_callHeld_32 : decode cX4_callHeld 32 = .ok (.ldc2_w 461, 3) := by decide +kernel
theorem dX4_callHeld_35 : decode cX4_callHeld 35 = .ok (.ldiv, 1) := by decide +kernel
theorem dX4_callHeld_36 : decode cX4_callHeld 36 = .ok (.l2i, 1) := by decide +kernel
theorem dX4_callHeld_37 : decode cX4_callHeld 37 = .ok (.iconst 3, 1) := by decide +kernel
theorem dX4_callHeld_38 : decode cX4_callHeld 38 = .ok (.iand, 1) := by decide +kernel
theorem dX4_callHeld_39 : decode cX4_callHeld 39 = .ok (.istore 4, 2) := by decide +kernel
theorem dX4_callHeld_41 : decode cX4_callHeld 41 = .ok (.iload_n 3, 1) := by decide +kernel
theorem dX4_callHeld_42 : decode cX4_callHeld 42 = .ok (.ifCond .ne 7, 3) := by decide +kernel
theorem dX4_callHeld_45 : decode cX4_callHeld 45 = .ok (.iconst 3, 1) := by decide +kernel
theorem dX4_callHeld_46 : decode cX4_callHeld 46 = .ok (.goto 19, 3) := by decide +kernel
theorem dX4_callHeld_49 : decode cX4_callHeld 49 = .ok (.iload_n 3, 1) := by decide +kernel
theorem dX4_callHeld_50 : decode cX4_callHeld 50 = .ok (.iconst 3, 1) := by decide +kernel
theorem dX4_callHeld_51 : decode cX4_callHeld 51 = .ok (.if_icmp .eq 7, 3) := by decide +kernel
theorem dX4_callHeld_54 : decode cX4_callHeld 54 = .ok (.iconst 4, 1) := by decide +kernel
theorem dX4_callHeld_55 : decode cX4_callHeld 55 = .ok (.goto 10, 3) := by decide +kernel
theorem dX4_callHeld_58 : decode cX4_callHeld 58 = .ok (.aload_n 0, 1) := by decide +kernel
theorem dX4_callHeld_59 : decode cX4_callHeld 59 = .ok (.iload 4, 2) := by decide +kernel
theorem dX4_callHeld_61 : decode cX4_callHeld 61 = .ok (.iload_n 1, 1) := by decide +kernel
theorem dX4_callHeld_62 : decode cX4_callHeld 62 = .ok (.invokevirtual 463, 3) := by decide +kernel
theorem dX4_callHeld_65 : decode cX4_callHeld 65 = .ok (.istore 5, 2) := by decide +kernel
theorem dX4_callHeld_67 : decode cX4_callHeld 67 = .ok (.iload 5, 2) := by decide +kernel
theorem dX4_callHeld_69 : decode cX4_callHeld 69 = .ok (.ifCond .eq 15, 3) := by decide +kernel
theorem dX4_callHeld_72 : decode cX4_callHeld 72 = .ok (.aload_n 0, 1) := by decide +kernel
theorem dX4_callHeld_73 : decode cX4_callHeld 73 = .ok (.iload 5, 2) := by decide +kernel
theorem dX4_callHeld_75 : decode cX4_callHeld 75 = .ok (.iload_n 1, 1) := by decide +kernel
theorem dX4_callHeld_76 : decode cX4_callHeld 76 = .ok (.iconst 1, 1) := by decide +kernel
theorem dX4_callHeld_77 : decode cX4_callHeld 77 = .ok (.iadd, 1) := by decide +kernel
theorem dX4_callHeld_78 : decode cX4_callHeld 78 = .ok (.invokevirtual 287, 3) := by decide +kernel
theorem dX4_callHeld_81 : decode cX4_callHeld 81 = .ok (.goto 31, 3) := by decide +kernel
theorem dX4_callHeld_84 : decode cX4_callHeld 84 = .ok (.aload_n 0, 1) := by decide +kernel
theorem dX4_callHeld_85 : decode cX4_callHeld 85 = .ok (.getfield 58, 3) := by decide +kernel
theorem dX4_callHeld_88 : decode cX4_callHeld 88 = .ok (.ifCond .ne 24, 3) := by decide +kernel
theorem dX4_callHeld_91 : decode cX4_callHeld 91 = .ok (.aload_n 0, 1) := by decide +kernel
theorem dX4_callHeld_92 : decode cX4_callHeld 92 = .ok (.iload 4, 2) := by decide +kernel
theorem dX4_callHeld_94 : decode cX4_callHeld 94 = .ok (.aload_n 0, 1) := by decide +kernel
theorem dX4_callHeld_95 : decode cX4_callHeld 95 = .ok (.getfield 14, 3) := by decide +kernel
theorem dX4_callHeld_98 : decode cX4_callHeld 98 = .ok (.iload_n 2, 1) := by decide +kernel
theorem dX4_callHeld_99 : decode cX4_callHeld 99 = .ok (.invokevirtual 101, 3) := by decide +kernel
theorem dX4_callHeld_102 : decode cX4_callHeld 102 = .ok (.ldc2_w 461, 3) := by decide +kernel
theorem dX4_callHeld_105 : decode cX4_callHeld 105 = .ok (.lrem, 1) := by decide +kernel
theorem dX4_callHeld_106 : decode cX4_callHeld 106 = .ok (.l2i, 1) := by decide +kernel
theorem dX4_callHeld_107 : decode cX4_callHeld 107 = .ok (.iload_n 1, 1) := by decide +kernel
theorem dX4_callHeld_108 : decode cX4_callHeld 108 = .ok (.iconst 1, 1) := by decide +kernel
theorem dX4_callHeld_109 : decode cX4_callHeld 109 = .ok (.invokevirtual 126, 3) := by decide +kernel
theorem dX4_callHeld_112 : decode cX4_callHeld 112 = .ok (.return_, 1) := by decide +kernel
set_option maxHeartbeats 4000000 in
set_option maxRecDepth 100000 in
theorem c_X4_callNamed (ω : Om) (l : Launch) (μ : M3) (x1 : Int) (x2 : Int) (S : Int) (n : Int) (hx1 : ir x1) (hx2 : ir x2) (hI : IC μ) (hS : S = μ.1 33 3) (hn : n = μ.1 52 7) (hSb : S < 240099) (hS9 : S ≤ 239000) (hst : 0 ≤ μ.1 70 2 ∧ μ.1 70 2 ≤ 5000 ∧ 0 ≤ μ.1 70 8 ∧ μ.1 70 8 ≤ 80000 ∧ μ.1 45 1 ≤ μ.1 70 2) (h0s : μ.1 32 13 = 0) (hv9 : vrk μ) (hcx : 0 ≤ x1 ∧ x1 ≤ 400000) : CtV ω l yX4_callNamed cX4_callNamed 7 6 194 [.ref (oP ω 32), .int (iv x1), .int (iv x2)] μ (fun (μ' : M3) => (Fr [70, 32, 34, 35, 36, 33, 53, 54, 55, 56, 57, 58, 59, 52, 45, 46, 47, 48, 49, 50] μ μ') ∧ (IC μ') ∧ ((μ'.1 52 7 = n ∧ ((μ'.1 33 3 ≤ max (S - (x1.tdiv 4 + 0)) 0 + 1 ∧ μ'.1 32 13 = 0 ∧ μ'.1 32 12 = μ.1 32 12 ∧ μ'.1 32 10 = μ.1 32 10) ∨ (μ'.1 33 3 ≤ S + 1 ∧ (μ'.1 32 13 = 1 ∨ μ'.1 32 13 = 4) ∧ μ'.1 32 10 = μ.1 32 10))) ∨ (n < 24 ∧ μ'.1 52 7 = n + 1 ∧ μ'.1 32 13 = 0 ∧ 0 ≤ μ'.1 53 n ∧ μ'.1 53 n ≤ 3 ∧ S - x1.tdiv 4 ≤ μ'.1 56 n ∧ μ'.1 56 n ≤ S - x1.tdiv 4 + 1000 ∧ μ'.1 57 n = S - x1.tdiv 4 - 0 ∧ μ'.1 58 n = μ.1 32 11 ∧ μ'.1 59 n = μ.1 60 6 ∧ μ'.1 33 3 = max (μ'.1 56 n) 0)) ∧ (μ'.1 52 7 = n + 1 → (stt μ (μ'.1 53 n) (μ'.1 32 12) ∧ μ'.1 32 10 = μ.1 12 (μ'.1 53 n))) ∧ (μ.1 70 2 ≤ μ'.1 70 2 ∧ μ'.1 70 2 ≤ 5000 ∧ 0 ≤ μ'.1 70 8 ∧ μ'.1 70 8 ≤ 80000 ∧ μ'.1 45 1 ≤ μ'.1 70 2) ∧ (∀ j, j ≠ n → μ'.1 53 j = μ.1 53 j) ∧ (∀ j, j ≠ n → μ'.1 54 j = μ.1 54 j) ∧ (∀ j, j ≠ n → μ'.1 55 j = μ.1 55 j) ∧ (∀ j, j ≠ n → μ'.1 56 j = μ.1 56 j) ∧ (∀ j, j ≠ n → μ'.1 57 j = μ.1 57 j) ∧ (∀ j, j ≠ n → μ'.1 58 j = μ.1 58 j) ∧ (∀ j, j ≠ n → μ'.1 59 j = μ.1 59 j) ∧ (μ'.1 70 1 = μ.1 70 1) ∧ (μ'.1 70 3 = μ.1 70 3) ∧ (μ'.1 70 4 = μ.1 70 4) ∧ (μ'.1 70 6 = μ.1 70 6) ∧ (μ'.1 32 11 = μ.1 32 11) ∧ (μ'.1 32 15 = μ.1 32 15) ∧ (μ'.1 32 16 = μ.1 32 16) ∧ (μ'.1 45 4 = μ.1 45 4)) := by
  refine CtV.go (by decide) (Nat.le_of_ble_eq_true rfl) (fun ρ p e s m below meth c R ls G hR hret hlk hl => ?_)
  have hx := G.1.1
  have hb := G.1.2.1
  have hl : lv_has ls 7 [(0, .ref (oP ω 32)), (1, .int (iv x1)), (2, .int (iv x2))] := hl
  generalize s.drawn = d0 at G ⊢
  have hr_x1 : -2147483648 ≤ x1 ∧ x1 ≤ 2147483647 := hx1
  have hr_x2 : -2147483648 ≤ x2 ∧ x2 ≤ 2147483647 := hx2
  have hk_1 := hI.row (r := 33) (by unfold isRow; decide)
  unfold rk at hk_1
  simp only [Int.reduceAdd] at hk_1
  have hbr_33 : BR 33 = 240100 := rfl
  have hn_2 : 0 ≤ μ.1 52 7 ∧ μ.1 52 7 ≤ 24 := hI.nm.2.2.2.2.1
  have hk_3 := hI.row (r := 37) (by unfold isRow; decide)
  unfold rk at hk_3
  simp only [Int.reduceAdd] at hk_3
  have hbr_37 : BR 37 = 20410 := rfl
  have hSr0 : Sr μ := G.sr0
  have hd4 := td4 hcx.1
  refine lv_aload_n hx hb dX4_callNamed_0 rfl (lv_at hl 0 rfl) ?_
  have hn_4 : 0 ≤ μ.1 45 1 ∧ 9 * μ.1 45 1 ≤ μ.2.1 46 := hI.nm.2.2.2.2.2.2.1
  refine xc_iV G (b := 32) (rest := []) (As := []) (c_X4_step ω l μ  hI (by omega)) (wm 6 2 rfl rfl) (wm 6 4 rfl rfl) (wm 0 75 rfl rfl) rfl rfl (by decide) rfl (wm 1 14 rfl rfl) (wm 6 5 rfl rfl) (by decide) hR (by decide) (n := 0) rfl rfl (Nat.le_of_ble_eq_true rfl) hl.1 dX4_callNamed_1 (fun r_6 μ5 ρ d0 H locs hr_r_6 hp G => ?_)
  have hr_r_6 : -2147483648 ≤ r_6 ∧ r_6 ≤ 2147483647 := hr_r_6
  obtain ⟨F_7, hI_8, hp_9, hs_10, hs_11, hs_12, hs_13, hs_14, hs_15, hs_16, hs_17, hs_18, hs_19, hs_20, hs_21, hs_22⟩ := hp
  refine xb_if_ne (tgt := 8) hx hb (by unfold ir; omega) dX4_callNamed_4 (by decide) (fun c_4 => ?_) (fun c_4 => ?_)
  · refine lv_iload_n hx hb dX4_callNamed_8 rfl (lv_at hl 1 rfl) ?_
    refine lv_iconst (v := iv 4) hx hb dX4_callNamed_9 rfl ?_
    refine xb_idiv hx hb (by unfold ir; omega) (by omega) dX4_callNamed_10 ?_
    refine lv_istore_n (lv' := [(3, .int (iv (x1.tdiv 4))), (0, .ref (oP ω 32)), (1, .int (iv x1)), (2, .int (iv x2))]) hx hb dX4_callNamed_11 rfl hl (by decide) rfl (fun ls hl => ?_)
    refine lv_iload_n hx hb dX4_callNamed_12 rfl (lv_at hl 2 rfl) ?_
    refine lv_iconst (v := iv 4) hx hb dX4_callNamed_13 rfl ?_
    refine xb_irem hx hb (by unfold ir; omega) (by omega) dX4_callNamed_14 ?_
    refine lv_istore (lv' := [(4, .int (iv (x1.tmod 4))), (3, .int (iv (x1.tdiv 4))), (0, .ref (oP ω 32)), (1, .int (iv x1)), (2, .int (iv x2))]) hx hb dX4_callNamed_15 hl (by decide) rfl (fun ls hl => ?_)
    refine lv_aload_n hx hb dX4_callNamed_17 rfl (lv_at hl 2 rfl) ?_
    refine xa_getr G fd_X4 (a := 32) (x := 12) 0 rfl (by decide) rfl (wm 2 144 rfl rfl) ⟨rfl, rfl, rfl⟩ dX4_callNamed_18 rfl (G.sk 33 rfl) (by decide) rfl ?_
    refine lv_iload hx hb dX4_callNamed_21 (lv_at hl 0 rfl) ?_
    refine lv_iconst (v := iv 3) hx hb dX4_callNamed_23 rfl ?_
    refine lv_iand hx hb dX4_callNamed_24 ?_
    refine xb_topi (fun y_23 hr_y_23 he_y_23 => ?_)
    have hr_y_23 : -2147483648 ≤ y_23 ∧ y_23 ≤ 2147483647 := hr_y_23
    have hm_y_23 := and_mask (x1.tmod 4) (k := 3) (by omega) he_y_23 hr_y_23
    have hm3_y_23 : 0 ≤ x1.tmod 4 ∧ x1.tmod 4 ≤ 3 → y_23 = x1.tmod 4 := and3 he_y_23 hr_y_23
    refine xb_ti (y := x1.tmod 4) (hm3_y_23 (by omega)) ?_
    obtain ⟨pd24, he_pd24, hd_pd24⟩ : ∃ z : Int, μ.1 12 (x1.tmod 4) = z ∧ isPr z := ⟨_, rfl, by have h9 := G.sr0.2.2.1 (x1.tmod 4); rw [show μ5.1 12 (x1.tmod 4) = μ.1 12 (x1.tmod 4) from (F_7.1 12 (by decide) (x1.tmod 4))] at h9; exact h9⟩
    have hd_pd24_d : pd24 = 13 ∨ pd24 = 71 ∨ pd24 = 81 ∨ pd24 = 91 ∨ pd24 = 101 := hd_pd24
    refine xa_aald G (a := 12) (i := x1.tmod 4) (b := pd24) rfl (by have h9 := G.lc (a := 12) (n := 4) 9 rfl; omega) (Eq.trans (F_7.1 12 (by decide) (x1.tmod 4)) he_pd24) (by omega) dX4_callNamed_25 rfl (hd_pd24.hq ω ρ) ?_
    refine lv_aload_n hx hb dX4_callNamed_26 rfl (lv_at hl 2 rfl) ?_
    obtain ⟨pd25, he_pd25, hd_pd25⟩ : ∃ z : Int, μ.1 32 10 = z ∧ isPr z := ⟨_, rfl, by have h9 := G.sr0.2.2.2.2.1; rw [show μ5.1 32 10 = μ.1 32 10 from hs_17] at h9; exact h9⟩
    have hd_pd25_d : pd25 = 13 ∨ pd25 = 71 ∨ pd25 = 81 ∨ pd25 = 91 ∨ pd25 = 101 := hd_pd25
    refine xa_getr G fd_X4 (a := 32) (x := pd25) 10 rfl (by decide) rfl (wm 2 154 rfl rfl) ⟨rfl, rfl, rfl⟩ dX4_callNamed_27 rfl (Eq.trans hs_17 he_pd25) (by omega) (hd_pd25.hq ω ρ) ?_
    refine xc_rV G (b := pd25) (rest := [.ref (oP ω pd24)]) (As := []) (c_X8_constants ω l μ5 pd25 hd_pd25 hI_8) (wm 6 122 rfl rfl) (wm 6 123 rfl rfl) (wm 6 124 rfl rfl) hd_pd25.ly rfl (by decide) (hd_pd25.hq ω ρ) (wm 1 9 rfl rfl) (wm 6 125 rfl rfl) (by decide) hR (by decide) (n := 0) rfl rfl (Nat.le_of_ble_eq_true rfl) hl.1 dX4_callNamed_30 (fun r_27 μ26 ρ d0 H locs hp G => ?_)
    obtain ⟨hsm_28, hp_29⟩ := hp
    have hsm_28 := Eq.symm hsm_28
    subst hsm_28
    subst hp_29
    refine lv_iload_n hx hb dX4_callNamed_33 rfl (lv_at hl 4 rfl) ?_
    refine xc_lV G (b := pd25 + 2) (rest := [.ref (oP ω pd24)]) (As := [.int (iv x2)]) (c_X9_whole ω l μ5 (pd25 + 2) x2 (hd_pd25.row) (by unfold ir; omega) hI_8) (wm 6 84 rfl rfl) (wm 5 160 rfl rfl) (wm 5 161 rfl rfl) (hd_pd25.row).ly rfl (by decide) ((hd_pd25.row).hq ω ρ) (wm 1 10 rfl rfl) (wm 5 162 rfl rfl) (by decide) hR (by decide) (n := 1) rfl rfl (Nat.le_of_ble_eq_true rfl) hl.1 dX4_callNamed_34 (fun r_31 μ30 ρ d0 H locs hr_r_31 hp G => ?_)
    have hsm_32 := hp
    have hsm_32 := Eq.symm hsm_32
    subst hsm_32
    refine xc_iV G (b := pd24) (rest := []) (As := [.long (jv r_31)]) (c_X8_find ω l μ5 pd24 r_31 hd_pd24 hr_r_31 hI_8) (wm 7 2 rfl rfl) (wm 3 182 rfl rfl) (wm 3 183 rfl rfl) hd_pd24.ly rfl (by decide) (hd_pd24.hq ω ρ) (wm 1 9 rfl rfl) (wm 3 184 rfl rfl) (by decide) hR (by decide) (n := 1) rfl rfl (Nat.le_of_ble_eq_true rfl) hl.1 dX4_callNamed_37 (fun r_34 μ33 ρ d0 H locs hr_r_34 hp G => ?_)
    have hr_r_34 : -2147483648 ≤ r_34 ∧ r_34 ≤ 2147483647 := hr_r_34
    obtain ⟨hsm_35, hp_36⟩ := hp
    have hsm_35 := Eq.symm hsm_35
    subst hsm_35
    refine lv_istore (lv' := [(5, .int (iv r_34)), (4, .int (iv (x1.tmod 4))), (3, .int (iv (x1.tdiv 4))), (0, .ref (oP ω 32)), (1, .int (iv x1)), (2, .int (iv x2))]) hx hb dX4_callNamed_40 hl (by decide) rfl (fun ls hl => ?_)
    refine lv_iload hx hb dX4_callNamed_42 (lv_at hl 0 rfl) ?_
    refine xb_if_ge (tgt := 51) hx hb (by unfold ir; omega) dX4_callNamed_44 (by decide) (fun c_44 => ?_) (fun c_44 => ?_)
    · refine lv_aload_n hx hb dX4_callNamed_51 rfl (lv_at hl 3 rfl) ?_
      refine lv_iload hx hb dX4_callNamed_52 (lv_at hl 1 rfl) ?_
      refine lv_iload_n hx hb dX4_callNamed_54 rfl (lv_at hl 2 rfl) ?_
      have e_37 : μ5.1 33 3 = S := ((F_7.1 33 (by decide) 3).trans hS.symm)
      have e_38 : μ5.1 45 1 = μ.1 45 1 := (F_7.1 45 (by decide) 1)
      have e_39 : μ5.1 52 7 = n := ((F_7.1 52 (by decide) 7).trans hn.symm)
      have e_40 : μ5.1 70 1 = μ.1 70 1 := hs_10
      have e_41 : μ5.1 70 3 = μ.1 70 3 := hs_11
      have e_42 : μ5.1 70 4 = μ.1 70 4 := hs_12
      have e_43 : μ5.1 70 6 = μ.1 70 6 := hs_14
      have e_44 : μ5.1 70 7 = μ.1 70 7 := hs_15
      have e_45 : μ5.1 70 9 = μ.1 70 9 := hs_16
      have e_46 : μ5.1 32 10 = μ.1 32 10 := hs_17
      have e_47 : μ5.1 32 11 = μ.1 32 11 := hs_18
      have e_48 : μ5.1 32 12 = μ.1 32 12 := hs_19
      have e_49 : μ5.1 32 14 = μ.1 32 14 := hs_20
      have e_50 : μ5.1 32 15 = μ.1 32 15 := hs_21
      have e_51 : μ5.1 32 16 = μ.1 32 16 := hs_22
      refine xc_iV G (b := 32) (rest := []) (As := [.int (iv (x1.tmod 4)), .int (iv (x1.tdiv 4))]) (c_X4_whatFailsGoing ω l μ5 (x1.tmod 4) (x1.tdiv 4) S (by unfold ir; omega) (by unfold ir; omega) hI_8 (by omega) (by omega) (by omega) (by omega) (by omega)) (wm 7 3 rfl rfl) (wm 7 5 rfl rfl) (wm 0 106 rfl rfl) rfl rfl (by decide) rfl (wm 1 14 rfl rfl) (wm 7 6 rfl rfl) (by decide) hR (by decide) (n := 2) rfl rfl (Nat.le_of_ble_eq_true rfl) hl.1 dX4_callNamed_55 (fun r_53 μ52 ρ d0 H locs hr_r_53 hp G => ?_)
      have hr_r_53 : -2147483648 ≤ r_53 ∧ r_53 ≤ 2147483647 := hr_r_53
      obtain ⟨F_54, hI_55, hp_56, hp_57, hp_58, hp_59, hs_60, hs_61, hs_62, hs_63, hs_64, hs_65, hs_66, hs_67, hs_68, hs_69, hs_70, hs_71⟩ := hp
      have hk_72 := hI_55.row (r := 33) (by unfold isRow; decide)
      unfold rk at hk_72
      simp only [Int.reduceAdd] at hk_72
      have hn_73 : 0 ≤ μ52.1 45 1 ∧ 9 * μ52.1 45 1 ≤ μ52.2.1 46 := hI_55.nm.2.2.2.2.2.2.1
      refine lv_istore (lv' := [(6, .int (iv r_53)), (5, .int (iv r_34)), (4, .int (iv (x1.tmod 4))), (3, .int (iv (x1.tdiv 4))), (0, .ref (oP ω 32)), (1, .int (iv x1)), (2, .int (iv x2))]) hx hb dX4_callNamed_58 hl (by decide) rfl (fun ls hl => ?_)
      refine lv_iload hx hb dX4_callNamed_60 (lv_at hl 0 rfl) ?_
      refine xb_if_eq (tgt := 75) hx hb (by unfold ir; omega) dX4_callNamed_62 (by decide) (fun c_62 => ?_) (fun c_62 => ?_)
      · refine lv_aload_n hx hb dX4_callNamed_75 rfl (lv_at hl 4 rfl) ?_
        refine xa_geti G fd_X4 (a := 32) (x := μ52.1 32 13) 13 rfl (by decide) rfl (wm 2 157 rfl rfl) ⟨rfl, rfl, rfl⟩ dX4_callNamed_76 rfl rfl ?_
        have hr_74 : -2147483648 ≤ μ52.1 32 13 ∧ μ52.1 32 13 ≤ 2147483647 := by have h9 := G.hr (a := 32) (k := 13) rfl; exact h9
        refine xb_if_ne (tgt := 92) hx hb (by unfold ir; omega) dX4_callNamed_79 (by decide) (fun c_79 => ?_) (fun c_79 => ?_)
        · have hn_e : μ52.1 52 7 = n := ((F_54.1 52 (by decide) 7).trans ((F_7.1 52 (by decide) 7).trans hn.symm))
          have e_75 : μ52.1 52 7 = n := ((F_54.1 52 (by decide) 7).trans ((F_7.1 52 (by decide) 7).trans hn.symm))
          have e_76 : μ52.1 33 3 = S := ((F_54.1 33 (by decide) 3).trans ((F_7.1 33 (by decide) 3).trans hS.symm))
          have e_77 : μ52.1 32 12 = μ.1 32 12 := (hs_68.trans hs_19)
          have e_78 : μ52.1 32 10 = μ.1 32 10 := (hs_66.trans hs_17)
          have e_79 : μ52.1 33 3 = S := ((F_54.1 33 (by decide) 3).trans ((F_7.1 33 (by decide) 3).trans hS.symm))
          have e_80 : μ52.1 32 10 = μ.1 32 10 := (hs_66.trans hs_17)
          have e_81 : μ52.1 52 7 = n := ((F_54.1 52 (by decide) 7).trans ((F_7.1 52 (by decide) 7).trans hn.symm))
          have e_82 : μ52.1 53 n = μ.1 53 n := ((F_54.1 53 (by decide) n).trans (F_7.1 53 (by decide) n))
          have e_83 : μ52.1 53 n = μ.1 53 n := ((F_54.1 53 (by decide) n).trans (F_7.1 53 (by decide) n))
          have e_84 : μ52.1 56 n = μ.1 56 n := ((F_54.1 56 (by decide) n).trans (F_7.1 56 (by decide) n))
          have e_85 : μ52.1 56 n = μ.1 56 n := ((F_54.1 56 (by decide) n).trans (F_7.1 56 (by decide) n))
          have e_86 : μ52.1 57 n = μ.1 57 n := ((F_54.1 57 (by decide) n).trans (F_7.1 57 (by decide) n))
          have e_87 : μ52.1 58 n = μ.1 58 n := ((F_54.1 58 (by decide) n).trans (F_7.1 58 (by decide) n))
          have e_88 : μ52.1 59 n = μ.1 59 n := ((F_54.1 59 (by decide) n).trans (F_7.1 59 (by decide) n))
          have e_89 : μ52.1 33 3 = S := ((F_54.1 33 (by decide) 3).trans ((F_7.1 33 (by decide) 3).trans hS.symm))
          have e_90 : μ52.1 56 n = μ.1 56 n := ((F_54.1 56 (by decide) n).trans (F_7.1 56 (by decide) n))
          have h0_e : (μ52.1 52 7 = n ∧ ((μ52.1 33 3 ≤ max (S - (x1.tdiv 4 + 0)) 0 + 1 ∧ μ52.1 32 13 = 0 ∧ μ52.1 32 12 = μ.1 32 12 ∧ μ52.1 32 10 = μ.1 32 10) ∨ (μ52.1 33 3 ≤ S + 1 ∧ (μ52.1 32 13 = 1 ∨ μ52.1 32 13 = 4) ∧ μ52.1 32 10 = μ.1 32 10))) ∨ (n < 24 ∧ μ52.1 52 7 = n + 1 ∧ μ52.1 32 13 = 0 ∧ 0 ≤ μ52.1 53 n ∧ μ52.1 53 n ≤ 3 ∧ S - x1.tdiv 4 ≤ μ52.1 56 n ∧ μ52.1 56 n ≤ S - x1.tdiv 4 + 1000 ∧ μ52.1 57 n = S - x1.tdiv 4 - 0 ∧ μ52.1 58 n = μ.1 32 11 ∧ μ52.1 59 n = μ.1 60 6 ∧ μ52.1 33 3 = max (μ52.1 56 n) 0) := by
            exact Or.inl ⟨by omega, Or.inr ⟨by omega, by omega, by omega⟩⟩
          have e_91 : μ52.1 45 1 = μ.1 45 1 := ((F_54.1 45 (by decide) 1).trans (F_7.1 45 (by decide) 1))
          have e_92 : μ52.1 70 1 = μ.1 70 1 := (hs_60.trans hs_10)
          have e_93 : μ52.1 70 3 = μ.1 70 3 := (hs_61.trans hs_11)
          have e_94 : μ52.1 70 4 = μ.1 70 4 := (hs_62.trans hs_12)
          have e_95 : μ52.1 70 6 = μ.1 70 6 := (hs_63.trans hs_14)
          have e_96 : μ52.1 32 11 = μ.1 32 11 := (hs_67.trans hs_18)
          have e_97 : μ52.1 32 15 = μ.1 32 15 := (hs_70.trans hs_21)
          have e_98 : μ52.1 32 16 = μ.1 32 16 := (hs_71.trans hs_22)
          have e_99 : μ52.1 45 4 = μ.1 45 4 := ((F_54.1 45 (by decide) 4).trans (F_7.1 45 (by decide) 4))
          exact xr_v G hret hlk dX4_callNamed_92 ⟨(Fr.tr (Fr.tr Fr.rf F_7 (by decide)) F_54 (by decide)), hI_55, h0_e, (fun h9 => absurd h9 (by omega)), (by omega), (fun j hj => ((F_54.1 53 (by decide) j).trans (F_7.1 53 (by decide) j))), (fun j hj => ((F_54.1 54 (by decide) j).trans (F_7.1 54 (by decide) j))), (fun j hj => ((F_54.1 55 (by decide) j).trans (F_7.1 55 (by decide) j))), (fun j hj => ((F_54.1 56 (by decide) j).trans (F_7.1 56 (by decide) j))), (fun j hj => ((F_54.1 57 (by decide) j).trans (F_7.1 57 (by decide) j))), (fun j hj => ((F_54.1 58 (by decide) j).trans (F_7.1 58 (by decide) j))), (fun j hj => ((F_54.1 59 (by decide) j).trans (F_7.1 59 (by decide) j))), (by omega), (by omega), (by omega), (by omega), (by omega), (by omega), (by omega), (by omega)⟩
        · refine lv_aload_n hx hb dX4_callNamed_82 rfl (lv_at hl 4 rfl) ?_
          refine lv_iload hx hb dX4_callNamed_83 (lv_at hl 2 rfl) ?_
          refine lv_iload hx hb dX4_callNamed_85 (lv_at hl 1 rfl) ?_
          refine lv_iload_n hx hb dX4_callNamed_87 rfl (lv_at hl 3 rfl) ?_
          refine lv_iconst (v := iv 0) hx hb dX4_callNamed_88 rfl ?_
          have hF_100 : Fr [70, 32, 34, 35, 36] μ μ52 := (Fr.tr (Fr.tr Fr.rf F_7 (by decide)) F_54 (by decide))
          have hsr_hF_100 : Sr μ := hSr0
          have e_101 : μ52.1 33 3 = S := ((F_54.1 33 (by decide) 3).trans ((F_7.1 33 (by decide) 3).trans hS.symm))
          have e_102 : μ52.1 52 7 = n := ((F_54.1 52 (by decide) 7).trans ((F_7.1 52 (by decide) 7).trans hn.symm))
          have e_103 : μ52.1 12 (x1.tmod 4) = μ.1 12 (x1.tmod 4) := ((F_54.1 12 (by decide) (x1.tmod 4)).trans (F_7.1 12 (by decide) (x1.tmod 4)))
          have e_104 : μ52.1 12 (x1.tmod 4) = μ.1 12 (x1.tmod 4) := ((F_54.1 12 (by decide) (x1.tmod 4)).trans (F_7.1 12 (by decide) (x1.tmod 4)))
          have hvr_105 : vrk μ52 := hv9.fr (L := [70, 32, 34, 35, 36]) (Fr.tr (Fr.tr Fr.rf F_7 (by decide)) F_54 (by decide)) (by decide)
          have e_106 : μ52.1 32 11 = μ.1 32 11 := (hs_67.trans hs_18)
          have hn_107 : 0 ≤ μ.1 60 6 ∧ μ.1 60 6 ≤ 400 := hI.nm.2.2.2.2.2.1
          have e_108 : μ52.1 60 6 = μ.1 60 6 := ((F_54.1 60 (by decide) 6).trans (F_7.1 60 (by decide) 6))
          have e_109 : μ52.1 12 (x1.tmod 4) = μ.1 12 (x1.tmod 4) := ((F_54.1 12 (by decide) (x1.tmod 4)).trans (F_7.1 12 (by decide) (x1.tmod 4)))
          have e_110 : μ52.1 32 11 = μ.1 32 11 := (hs_67.trans hs_18)
          have e_111 : μ52.1 32 14 = μ.1 32 14 := (hs_69.trans hs_20)
          have e_112 : μ52.1 32 15 = μ.1 32 15 := (hs_70.trans hs_21)
          have e_113 : μ52.1 32 16 = μ.1 32 16 := (hs_71.trans hs_22)
          have e_114 : μ52.1 70 1 = μ.1 70 1 := (hs_60.trans hs_10)
          have e_115 : μ52.1 70 3 = μ.1 70 3 := (hs_61.trans hs_11)
          have e_116 : μ52.1 70 4 = μ.1 70 4 := (hs_62.trans hs_12)
          have e_117 : μ52.1 70 6 = μ.1 70 6 := (hs_63.trans hs_14)
          have e_118 : μ52.1 70 9 = μ.1 70 9 := (hs_65.trans hs_16)
          refine xc_vV G (b := 32) (rest := []) (As := [.int (iv (x1.tmod 4)), .int (iv r_34), .int (iv (x1.tdiv 4)), .int (iv 0)]) (c_X4_enter ω l μ52 (x1.tmod 4) r_34 (x1.tdiv 4) 0 S n (μ.1 12 (x1.tmod 4)) (by unfold ir; omega) (by unfold ir; omega) (by unfold ir; omega) (by unfold ir; omega) hI_55 (by omega) (by omega) (by omega) (by omega) (by omega) (by omega) (by omega) hvr_105) (wm 5 75 rfl rfl) (wm 5 77 rfl rfl) (wm 0 64 rfl rfl) rfl rfl (by decide) rfl (wm 1 14 rfl rfl) (wm 5 78 rfl rfl) (by decide) hR (by decide) (n := 4) rfl rfl (Nat.le_of_ble_eq_true rfl) hl.1 dX4_callNamed_89 (fun μ119 ρ d0 H locs hp G => ?_)
          obtain ⟨F_120, hI_121, hs_122, hp_123, hp_124, hp_125, hp_126, hp_127, hp_128, hs_129, hp_130, ha_131, ha_132, ha_133, ha_134, ha_135, ha_136, ha_137, hs_138, hs_139, hs_140, hs_141, hs_142, hs_143, hs_144, hs_145, hs_146, hs_147, hs_148, hs_149, hs_150, hs_151⟩ := hp
          have hk_152 := hI_121.row (r := 33) (by unfold isRow; decide)
          unfold rk at hk_152
          simp only [Int.reduceAdd] at hk_152
          have hst_hF_100 := stt_fr hF_100 (by decide) hsr_hF_100 hp_130
          have hn_e : μ119.1 52 7 = n + 1 := hs_122
          have e_153 : μ119.1 52 7 = n + 1 := hs_122
          have e_154 : μ119.1 32 13 = μ52.1 32 13 := hs_139
          have e_155 : μ119.1 32 10 = (μ.1 12 (x1.tmod 4)) := hs_129
          have e_156 : μ119.1 32 13 = μ52.1 32 13 := hs_139
          have e_157 : μ119.1 32 13 = μ52.1 32 13 := hs_139
          have e_158 : μ119.1 32 10 = (μ.1 12 (x1.tmod 4)) := hs_129
          have e_159 : μ119.1 52 7 = n + 1 := hs_122
          have e_160 : μ119.1 32 13 = μ52.1 32 13 := hs_139
          have h0_e : (μ119.1 52 7 = n ∧ ((μ119.1 33 3 ≤ max (S - (x1.tdiv 4 + 0)) 0 + 1 ∧ μ119.1 32 13 = 0 ∧ μ119.1 32 12 = μ.1 32 12 ∧ μ119.1 32 10 = μ.1 32 10) ∨ (μ119.1 33 3 ≤ S + 1 ∧ (μ119.1 32 13 = 1 ∨ μ119.1 32 13 = 4) ∧ μ119.1 32 10 = μ.1 32 10))) ∨ (n < 24 ∧ μ119.1 52 7 = n + 1 ∧ μ119.1 32 13 = 0 ∧ 0 ≤ μ119.1 53 n ∧ μ119.1 53 n ≤ 3 ∧ S - x1.tdiv 4 ≤ μ119.1 56 n ∧ μ119.1 56 n ≤ S - x1.tdiv 4 + 1000 ∧ μ119.1 57 n = S - x1.tdiv 4 - 0 ∧ μ119.1 58 n = μ.1 32 11 ∧ μ119.1 59 n = μ.1 60 6 ∧ μ119.1 33 3 = max (μ119.1 56 n) 0) := by
            exact Or.inr ⟨by omega, by omega, by omega, by omega, by omega, by omega, by omega, by omega, by omega, by omega, by omega⟩
          have hp_e : μ119.1 32 10 = (μ.1 12 (x1.tmod 4)) := hs_129
          have e_161 : μ119.1 70 2 = μ52.1 70 2 := hs_145
          have e_162 : μ119.1 70 2 = μ52.1 70 2 := hs_145
          have e_163 : μ119.1 70 8 = μ52.1 70 8 := hs_150
          have e_164 : μ119.1 70 8 = μ52.1 70 8 := hs_150
          have e_165 : μ119.1 45 1 = μ.1 45 1 := ((F_120.1 45 (by decide) 1).trans ((F_54.1 45 (by decide) 1).trans (F_7.1 45 (by decide) 1)))
          have e_166 : μ119.1 70 2 = μ52.1 70 2 := hs_145
          have e_167 : μ119.1 70 1 = μ.1 70 1 := (hs_144.trans (hs_60.trans hs_10))
          have e_168 : μ119.1 70 3 = μ.1 70 3 := (hs_146.trans (hs_61.trans hs_11))
          have e_169 : μ119.1 70 4 = μ.1 70 4 := (hs_147.trans (hs_62.trans hs_12))
          have e_170 : μ119.1 70 6 = μ.1 70 6 := (hs_149.trans (hs_63.trans hs_14))
          have e_171 : μ119.1 32 11 = μ.1 32 11 := (hs_138.trans (hs_67.trans hs_18))
          have e_172 : μ119.1 32 15 = μ.1 32 15 := (hs_141.trans (hs_70.trans hs_21))
          have e_173 : μ119.1 32 16 = μ.1 32 16 := (hs_142.trans (hs_71.trans hs_22))
          have e_174 : μ119.1 45 4 = μ.1 45 4 := ((F_120.1 45 (by decide) 4).trans ((F_54.1 45 (by decide) 4).trans (F_7.1 45 (by decide) 4)))
          exact xr_v G hret hlk dX4_callNamed_92 ⟨(Fr.tr (Fr.tr (Fr.tr Fr.rf F_7 (by decide)) F_54 (by decide)) F_120 (by decide)), hI_121, h0_e, (fun _ => by rw [hp_123, hp_e]; exact ⟨hst_hF_100, (by omega)⟩), (by omega), (fun j hj => ((ha_131 j (by omega)).trans ((F_54.1 53 (by decide) j).trans (F_7.1 53 (by decide) j)))), (fun j hj => ((ha_132 j (by omega)).trans ((F_54.1 54 (by decide) j).trans (F_7.1 54 (by decide) j)))), (fun j hj => ((ha_133 j (by omega)).trans ((F_54.1 55 (by decide) j).trans (F_7.1 55 (by decide) j)))), (fun j hj => ((ha_134 j (by omega)).trans ((F_54.1 56 (by decide) j).trans (F_7.1 56 (by decide) j)))), (fun j hj => ((ha_135 j (by omega)).trans ((F_54.1 57 (by decide) j).trans (F_7.1 57 (by decide) j)))), (fun j hj => ((ha_136 j (by omega)).trans ((F_54.1 58 (by decide) j).trans (F_7.1 58 (by decide) j)))), (fun j hj => ((ha_137 j (by omega)).trans ((F_54.1 59 (by decide) j).trans (F_7.1 59 (by decide) j)))), (by omega), (by omega), (by omega), (by omega), (by omega), (by omega), (by omega), (by omega)⟩
      · refine lv_aload_n hx hb dX4_callNamed_65 rfl (lv_at hl 4 rfl) ?_
        refine lv_iload hx hb dX4_callNamed_66 (lv_at hl 0 rfl) ?_
        refine lv_iload_n hx hb dX4_callNamed_68 rfl (lv_at hl 3 rfl) ?_
        have e_175 : μ52.1 33 3 = S := ((F_54.1 33 (by decide) 3).trans ((F_7.1 33 (by decide) 3).trans hS.symm))
        have e_176 : μ52.1 45 1 = μ.1 45 1 := ((F_54.1 45 (by decide) 1).trans (F_7.1 45 (by decide) 1))
        have e_177 : ofF μ52 53 = ofF μ 53 := ((ofF_fr F_54 (by decide) (by decide)).trans (ofF_fr F_7 (by decide) (by decide)))
        have e_178 : μ52.1 70 1 = μ.1 70 1 := (hs_60.trans hs_10)
        have e_179 : μ52.1 70 3 = μ.1 70 3 := (hs_61.trans hs_11)
        have e_180 : μ52.1 70 4 = μ.1 70 4 := (hs_62.trans hs_12)
        have e_181 : μ52.1 70 6 = μ.1 70 6 := (hs_63.trans hs_14)
        have e_182 : μ52.1 70 7 = μ.1 70 7 := (hs_64.trans hs_15)
        have e_183 : μ52.1 32 10 = μ.1 32 10 := (hs_66.trans hs_17)
        have e_184 : μ52.1 32 11 = μ.1 32 11 := (hs_67.trans hs_18)
        have e_185 : μ52.1 32 12 = μ.1 32 12 := (hs_68.trans hs_19)
        have e_186 : μ52.1 32 15 = μ.1 32 15 := (hs_70.trans hs_21)
        have e_187 : μ52.1 32 16 = μ.1 32 16 := (hs_71.trans hs_22)
        have hn_188 : 0 ≤ μ.1 45 4 ∧ 2 * μ.1 45 4 ≤ μ.2.1 51 := hI.nm.2.2.2.2.2.2.2.1
        have e_189 : μ52.1 45 4 = μ.1 45 4 := ((F_54.1 45 (by decide) 4).trans (F_7.1 45 (by decide) 4))
        refine xc_vV G (b := 32) (rest := []) (As := [.int (iv r_53), .int (iv (x1.tdiv 4))]) (c_X4_fails ω l μ52 r_53 (x1.tdiv 4) S (by unfold ir; omega) (by unfold ir; omega) hI_55 (by omega) (by omega) (by omega) (by omega)) (wm 6 93 rfl rfl) (wm 6 95 rfl rfl) (wm 0 82 rfl rfl) rfl rfl (by decide) rfl (wm 1 14 rfl rfl) (wm 6 96 rfl rfl) (by decide) hR (by decide) (n := 2) rfl rfl (Nat.le_of_ble_eq_true rfl) hl.1 dX4_callNamed_69 (fun μ190 ρ d0 H locs hp G => ?_)
        obtain ⟨F_191, hI_192, hp_193, hp_194, hs_195, hs_196, hs_197, hs_198, hs_199, hs_200, hs_201, hs_202, hs_203, hs_204, hs_205, hs_206⟩ := hp
        have hk_207 := hI_192.row (r := 33) (by unfold isRow; decide)
        unfold rk at hk_207
        simp only [Int.reduceAdd] at hk_207
        have hn_208 : 0 ≤ μ190.1 45 1 ∧ 9 * μ190.1 45 1 ≤ μ190.2.1 46 := hI_192.nm.2.2.2.2.2.2.1
        refine lv_goto (tgt := 92) hx hb dX4_callNamed_72 (by decide) ?_
        have hn_e : μ190.1 52 7 = n := ((F_191.1 52 (by decide) 7).trans ((F_54.1 52 (by decide) 7).trans ((F_7.1 52 (by decide) 7).trans hn.symm)))
        have e_209 : μ190.1 52 7 = n := ((F_191.1 52 (by decide) 7).trans ((F_54.1 52 (by decide) 7).trans ((F_7.1 52 (by decide) 7).trans hn.symm)))
        have e_210 : μ190.1 32 12 = μ.1 32 12 := (hs_203.trans (hs_68.trans hs_19))
        have e_211 : μ190.1 32 10 = μ.1 32 10 := (hs_201.trans (hs_66.trans hs_17))
        have e_212 : μ190.1 32 10 = μ.1 32 10 := (hs_201.trans (hs_66.trans hs_17))
        have e_213 : μ190.1 52 7 = n := ((F_191.1 52 (by decide) 7).trans ((F_54.1 52 (by decide) 7).trans ((F_7.1 52 (by decide) 7).trans hn.symm)))
        have e_214 : μ190.1 53 n = μ.1 53 n := ((F_191.1 53 (by decide) n).trans ((F_54.1 53 (by decide) n).trans (F_7.1 53 (by decide) n)))
        have e_215 : μ190.1 53 n = μ.1 53 n := ((F_191.1 53 (by decide) n).trans ((F_54.1 53 (by decide) n).trans (F_7.1 53 (by decide) n)))
        have e_216 : μ190.1 56 n = μ.1 56 n := ((F_191.1 56 (by decide) n).trans ((F_54.1 56 (by decide) n).trans (F_7.1 56 (by decide) n)))
        have e_217 : μ190.1 56 n = μ.1 56 n := ((F_191.1 56 (by decide) n).trans ((F_54.1 56 (by decide) n).trans (F_7.1 56 (by decide) n)))
        have e_218 : μ190.1 57 n = μ.1 57 n := ((F_191.1 57 (by decide) n).trans ((F_54.1 57 (by decide) n).trans (F_7.1 57 (by decide) n)))
        have e_219 : μ190.1 58 n = μ.1 58 n := ((F_191.1 58 (by decide) n).trans ((F_54.1 58 (by decide) n).trans (F_7.1 58 (by decide) n)))
        have e_220 : μ190.1 59 n = μ.1 59 n := ((F_191.1 59 (by decide) n).trans ((F_54.1 59 (by decide) n).trans (F_7.1 59 (by decide) n)))
        have e_221 : μ190.1 56 n = μ.1 56 n := ((F_191.1 56 (by decide) n).trans ((F_54.1 56 (by decide) n).trans (F_7.1 56 (by decide) n)))
        have h0_e : (μ190.1 52 7 = n ∧ ((μ190.1 33 3 ≤ max (S - (x1.tdiv 4 + 0)) 0 + 1 ∧ μ190.1 32 13 = 0 ∧ μ190.1 32 12 = μ.1 32 12 ∧ μ190.1 32 10 = μ.1 32 10) ∨ (μ190.1 33 3 ≤ S + 1 ∧ (μ190.1 32 13 = 1 ∨ μ190.1 32 13 = 4) ∧ μ190.1 32 10 = μ.1 32 10))) ∨ (n < 24 ∧ μ190.1 52 7 = n + 1 ∧ μ190.1 32 13 = 0 ∧ 0 ≤ μ190.1 53 n ∧ μ190.1 53 n ≤ 3 ∧ S - x1.tdiv 4 ≤ μ190.1 56 n ∧ μ190.1 56 n ≤ S - x1.tdiv 4 + 1000 ∧ μ190.1 57 n = S - x1.tdiv 4 - 0 ∧ μ190.1 58 n = μ.1 32 11 ∧ μ190.1 59 n = μ.1 60 6 ∧ μ190.1 33 3 = max (μ190.1 56 n) 0) := by
          rcases hp_193 with ⟨q1, q2, q3⟩ | ⟨q1, q2⟩
          · exact Or.inl ⟨by omega, Or.inl ⟨by omega, by omega, by omega, by omega⟩⟩
          · exact Or.inl ⟨by omega, Or.inr ⟨by omega, by omega, by omega⟩⟩
        have e_222 : μ190.1 70 1 = μ.1 70 1 := (hs_195.trans (hs_60.trans hs_10))
        have e_223 : μ190.1 70 3 = μ.1 70 3 := (hs_196.trans (hs_61.trans hs_11))
        have e_224 : μ190.1 70 4 = μ.1 70 4 := (hs_197.trans (hs_62.trans hs_12))
        have e_225 : μ190.1 70 6 = μ.1 70 6 := (hs_199.trans (hs_63.trans hs_14))
        have e_226 : μ190.1 32 11 = μ.1 32 11 := (hs_202.trans (hs_67.trans hs_18))
        have e_227 : μ190.1 32 15 = μ.1 32 15 := (hs_204.trans (hs_70.trans hs_21))
        have e_228 : μ190.1 32 16 = μ.1 32 16 := (hs_205.trans (hs_71.trans hs_22))
        have e_229 : μ190.1 45 4 = μ.1 45 4 := (hs_206.trans ((F_54.1 45 (by decide) 4).trans (F_7.1 45 (by decide) 4)))
        exact xr_v G hret hlk dX4_callNamed_92 ⟨(Fr.tr (Fr.tr (Fr.tr Fr.rf F_7 (by decide)) F_54 (by decide)) F_191 (by decide)), hI_192, h0_e, (fun h9 => absurd h9 (by omega)), (by omega), (fun j hj => ((F_191.1 53 (by decide) j).trans ((F_54.1 53 (by decide) j).trans (F_7.1 53 (by decide) j)))), (fun j hj => ((F_191.1 54 (by decide) j).trans ((F_54.1 54 (by decide) j).trans (F_7.1 54 (by decide) j)))), (fun j hj => ((F_191.1 55 (by decide) j).trans ((F_54.1 55 (by decide) j).trans (F_7.1 55 (by decide) j)))), (fun j hj => ((F_191.1 56 (by decide) j).trans ((F_54.1 56 (by decide) j).trans (F_7.1 56 (by decide) j)))), (fun j hj => ((F_191.1 57 (by decide) j).trans ((F_54.1 57 (by decide) j).trans (F_7.1 57 (by decide) j)))), (fun j hj => ((F_191.1 58 (by decide) j).trans ((F_54.1 58 (by decide) j).trans (F_7.1 58 (by decide) j)))), (fun j hj => ((F_191.1 59 (by decide) j).trans ((F_54.1 59 (by decide) j).trans (F_7.1 59 (by decide) j)))), (by omega), (by omega), (by omega), (by omega), (by omega), (by omega), (by omega), (by omega)⟩
    · refine lv_iconst (v := iv 3) hx hb dX4_callNamed_47 rfl ?_
      refine lv_goto (tgt := 58) hx hb dX4_callNamed_48 (by decide) ?_
      refine lv_istore (lv' := [(6, .int (iv 3)), (5, .int (iv r_34)), (4, .int (iv (x1.tmod 4))), (3, .int (iv (x1.tdiv 4))), (0, .ref (oP ω 32)), (1, .int (iv x1)), (2, .int (iv x2))]) hx hb dX4_callNamed_58 hl (by decide) rfl (fun ls hl => ?_)
      refine lv_iload hx hb dX4_callNamed_60 (lv_at hl 0 rfl) ?_
      refine xb_if_eq (tgt := 75) hx hb (x := 3) (by unfold ir; omega) dX4_callNamed_62 (by decide) (fun c_62 => absurd c_62 (by decide)) (fun c_62 => ?_)
      refine lv_aload_n hx hb dX4_callNamed_65 rfl (lv_at hl 4 rfl) ?_
      refine lv_iload hx hb dX4_callNamed_66 (lv_at hl 0 rfl) ?_
      refine lv_iload_n hx hb dX4_callNamed_68 rfl (lv_at hl 3 rfl) ?_
      have e_230 : μ5.1 33 3 = S := ((F_7.1 33 (by decide) 3).trans hS.symm)
      have e_231 : μ5.1 45 1 = μ.1 45 1 := (F_7.1 45 (by decide) 1)
      have e_232 : ofF μ5 53 = ofF μ 53 := (ofF_fr F_7 (by decide) (by decide))
      have e_233 : μ5.1 70 1 = μ.1 70 1 := hs_10
      have e_234 : μ5.1 70 3 = μ.1 70 3 := hs_11
      have e_235 : μ5.1 70 4 = μ.1 70 4 := hs_12
      have e_236 : μ5.1 70 5 = μ.1 70 5 := hs_13
      have e_237 : μ5.1 70 6 = μ.1 70 6 := hs_14
      have e_238 : μ5.1 70 7 = μ.1 70 7 := hs_15
      have e_239 : μ5.1 32 10 = μ.1 32 10 := hs_17
      have e_240 : μ5.1 32 11 = μ.1 32 11 := hs_18
      have e_241 : μ5.1 32 12 = μ.1 32 12 := hs_19
      have e_242 : μ5.1 32 15 = μ.1 32 15 := hs_21
      have e_243 : μ5.1 32 16 = μ.1 32 16 := hs_22
      have hn_244 : 0 ≤ μ.1 45 4 ∧ 2 * μ.1 45 4 ≤ μ.2.1 51 := hI.nm.2.2.2.2.2.2.2.1
      have e_245 : μ5.1 45 4 = μ.1 45 4 := (F_7.1 45 (by decide) 4)
      refine xc_vV G (b := 32) (rest := []) (As := [.int (iv 3), .int (iv (x1.tdiv 4))]) (c_X4_fails ω l μ5 3 (x1.tdiv 4) S (by unfold ir; omega) (by unfold ir; omega) hI_8 (by omega) (by omega) (by omega) (by omega)) (wm 6 93 rfl rfl) (wm 6 95 rfl rfl) (wm 0 82 rfl rfl) rfl rfl (by decide) rfl (wm 1 14 rfl rfl) (wm 6 96 rfl rfl) (by decide) hR (by decide) (n := 2) rfl rfl (Nat.le_of_ble_eq_true rfl) hl.1 dX4_callNamed_69 (fun μ246 ρ d0 H locs hp G => ?_)
      obtain ⟨F_247, hI_248, hp_249, hp_250, hs_251, hs_252, hs_253, hs_254, hs_255, hs_256, hs_257, hs_258, hs_259, hs_260, hs_261, hs_262⟩ := hp
      have hk_263 := hI_248.row (r := 33) (by unfold isRow; decide)
      unfold rk at hk_263
      simp only [Int.reduceAdd] at hk_263
      have hn_264 : 0 ≤ μ246.1 45 1 ∧ 9 * μ246.1 45 1 ≤ μ246.2.1 46 := hI_248.nm.2.2.2.2.2.2.1
      refine lv_goto (tgt := 92) hx hb dX4_callNamed_72 (by decide) ?_
      have hn_e : μ246.1 52 7 = n := ((F_247.1 52 (by decide) 7).trans ((F_7.1 52 (by decide) 7).trans hn.symm))
      have e_265 : μ246.1 52 7 = n := ((F_247.1 52 (by decide) 7).trans ((F_7.1 52 (by decide) 7).trans hn.symm))
      have e_266 : μ246.1 32 12 = μ.1 32 12 := (hs_259.trans hs_19)
      have e_267 : μ246.1 32 10 = μ.1 32 10 := (hs_257.trans hs_17)
      have e_268 : μ246.1 32 10 = μ.1 32 10 := (hs_257.trans hs_17)
      have e_269 : μ246.1 52 7 = n := ((F_247.1 52 (by decide) 7).trans ((F_7.1 52 (by decide) 7).trans hn.symm))
      have e_270 : μ246.1 53 n = μ.1 53 n := ((F_247.1 53 (by decide) n).trans (F_7.1 53 (by decide) n))
      have e_271 : μ246.1 53 n = μ.1 53 n := ((F_247.1 53 (by decide) n).trans (F_7.1 53 (by decide) n))
      have e_272 : μ246.1 56 n = μ.1 56 n := ((F_247.1 56 (by decide) n).trans (F_7.1 56 (by decide) n))
      have e_273 : μ246.1 56 n = μ.1 56 n := ((F_247.1 56 (by decide) n).trans (F_7.1 56 (by decide) n))
      have e_274 : μ246.1 57 n = μ.1 57 n := ((F_247.1 57 (by decide) n).trans (F_7.1 57 (by decide) n))
      have e_275 : μ246.1 58 n = μ.1 58 n := ((F_247.1 58 (by decide) n).trans (F_7.1 58 (by decide) n))
      have e_276 : μ246.1 59 n = μ.1 59 n := ((F_247.1 59 (by decide) n).trans (F_7.1 59 (by decide) n))
      have e_277 : μ246.1 56 n = μ.1 56 n := ((F_247.1 56 (by decide) n).trans (F_7.1 56 (by decide) n))
      have h0_e : (μ246.1 52 7 = n ∧ ((μ246.1 33 3 ≤ max (S - (x1.tdiv 4 + 0)) 0 + 1 ∧ μ246.1 32 13 = 0 ∧ μ246.1 32 12 = μ.1 32 12 ∧ μ246.1 32 10 = μ.1 32 10) ∨ (μ246.1 33 3 ≤ S + 1 ∧ (μ246.1 32 13 = 1 ∨ μ246.1 32 13 = 4) ∧ μ246.1 32 10 = μ.1 32 10))) ∨ (n < 24 ∧ μ246.1 52 7 = n + 1 ∧ μ246.1 32 13 = 0 ∧ 0 ≤ μ246.1 53 n ∧ μ246.1 53 n ≤ 3 ∧ S - x1.tdiv 4 ≤ μ246.1 56 n ∧ μ246.1 56 n ≤ S - x1.tdiv 4 + 1000 ∧ μ246.1 57 n = S - x1.tdiv 4 - 0 ∧ μ246.1 58 n = μ.1 32 11 ∧ μ246.1 59 n = μ.1 60 6 ∧ μ246.1 33 3 = max (μ246.1 56 n) 0) := by
        rcases hp_249 with ⟨q1, q2, q3⟩ | ⟨q1, q2⟩
        · exact Or.inl ⟨by omega, Or.inl ⟨by omega, by omega, by omega, by omega⟩⟩
        · exact Or.inl ⟨by omega, Or.inr ⟨by omega, by omega, by omega⟩⟩
      have e_278 : μ246.1 70 1 = μ.1 70 1 := (hs_251.trans hs_10)
      have e_279 : μ246.1 70 3 = μ.1 70 3 := (hs_252.trans hs_11)
      have e_280 : μ246.1 70 4 = μ.1 70 4 := (hs_253.trans hs_12)
      have e_281 : μ246.1 70 6 = μ.1 70 6 := (hs_255.trans hs_14)
      have e_282 : μ246.1 32 11 = μ.1 32 11 := (hs_258.trans hs_18)
      have e_283 : μ246.1 32 15 = μ.1 32 15 := (hs_260.trans hs_21)
      have e_284 : μ246.1 32 16 = μ.1 32 16 := (hs_261.trans hs_22)
      have e_285 : μ246.1 45 4 = μ.1 45 4 := (hs_262.trans (F_7.1 45 (by decide) 4))
      exact xr_v G hret hlk dX4_callNamed_92 ⟨(Fr.tr (Fr.tr Fr.rf F_7 (by decide)) F_247 (by decide)), hI_248, h0_e, (fun h9 => absurd h9 (by omega)), (by omega), (fun j hj => ((F_247.1 53 (by decide) j).trans (F_7.1 53 (by decide) j))), (fun j hj => ((F_247.1 54 (by decide) j).trans (F_7.1 54 (by decide) j))), (fun j hj => ((F_247.1 55 (by decide) j).trans (F_7.1 55 (by decide) j))), (fun j hj => ((F_247.1 56 (by decide) j).trans (F_7.1 56 (by decide) j))), (fun j hj => ((F_247.1 57 (by decide) j).trans (F_7.1 57 (by decide) j))), (fun j hj => ((F_247.1 58 (by decide) j).trans (F_7.1 58 (by decide) j))), (fun j hj => ((F_247.1 59 (by decide) j).trans (F_7.1 59 (by decide) j))), (by omega), (by omega), (by omega), (by omega), (by omega), (by omega), (by omega), (by omega)⟩
  · have hn_e : μ5.1 52 7 = n := ((F_7.1 52 (by decide) 7).trans hn.symm)
    have e_286 : μ5.1 52 7 = n := ((F_7.1 52 (by decide) 7).trans hn.symm)
    have e_287 : μ5.1 33 3 = S := ((F_7.1 33 (by decide) 3).trans hS.symm)
    have e_288 : μ5.1 32 12 = μ.1 32 12 := hs_19
    have e_289 : μ5.1 32 10 = μ.1 32 10 := hs_17
    have e_290 : μ5.1 33 3 = S := ((F_7.1 33 (by decide) 3).trans hS.symm)
    have e_291 : μ5.1 32 10 = μ.1 32 10 := hs_17
    have e_292 : μ5.1 52 7 = n := ((F_7.1 52 (by decide) 7).trans hn.symm)
    have e_293 : μ5.1 53 n = μ.1 53 n := (F_7.1 53 (by decide) n)
    have e_294 : μ5.1 53 n = μ.1 53 n := (F_7.1 53 (by decide) n)
    have e_295 : μ5.1 56 n = μ.1 56 n := (F_7.1 56 (by decide) n)
    have e_296 : μ5.1 56 n = μ.1 56 n := (F_7.1 56 (by decide) n)
    have e_297 : μ5.1 57 n = μ.1 57 n := (F_7.1 57 (by decide) n)
    have e_298 : μ5.1 58 n = μ.1 58 n := (F_7.1 58 (by decide) n)
    have e_299 : μ5.1 59 n = μ.1 59 n := (F_7.1 59 (by decide) n)
    have e_300 : μ5.1 33 3 = S := ((F_7.1 33 (by decide) 3).trans hS.symm)
    have e_301 : μ5.1 56 n = μ.1 56 n := (F_7.1 56 (by decide) n)
    have h0_e : (μ5.1 52 7 = n ∧ ((μ5.1 33 3 ≤ max (S - (x1.tdiv 4 + 0)) 0 + 1 ∧ μ5.1 32 13 = 0 ∧ μ5.1 32 12 = μ.1 32 12 ∧ μ5.1 32 10 = μ.1 32 10) ∨ (μ5.1 33 3 ≤ S + 1 ∧ (μ5.1 32 13 = 1 ∨ μ5.1 32 13 = 4) ∧ μ5.1 32 10 = μ.1 32 10))) ∨ (n < 24 ∧ μ5.1 52 7 = n + 1 ∧ μ5.1 32 13 = 0 ∧ 0 ≤ μ5.1 53 n ∧ μ5.1 53 n ≤ 3 ∧ S - x1.tdiv 4 ≤ μ5.1 56 n ∧ μ5.1 56 n ≤ S - x1.tdiv 4 + 1000 ∧ μ5.1 57 n = S - x1.tdiv 4 - 0 ∧ μ5.1 58 n = μ.1 32 11 ∧ μ5.1 59 n = μ.1 60 6 ∧ μ5.1 33 3 = max (μ5.1 56 n) 0) := by
      exact Or.inl ⟨by omega, Or.inr ⟨by omega, by omega, by omega⟩⟩
    have e_302 : μ5.1 45 1 = μ.1 45 1 := (F_7.1 45 (by decide) 1)
    have e_303 : μ5.1 70 1 = μ.1 70 1 := hs_10
    have e_304 : μ5.1 70 3 = μ.1 70 3 := hs_11
    have e_305 : μ5.1 70 4 = μ.1 70 4 := hs_12
    have e_306 : μ5.1 70 6 = μ.1 70 6 := hs_14
    have e_307 : μ5.1 32 11 = μ.1 32 11 := hs_18
    have e_308 : μ5.1 32 15 = μ.1 32 15 := hs_21
    have e_309 : μ5.1 32 16 = μ.1 32 16 := hs_22
    have e_310 : μ5.1 45 4 = μ.1 45 4 := (F_7.1 45 (by decide) 4)
    exact xr_v G hret hlk dX4_callNamed_7 ⟨(Fr.tr Fr.rf F_7 (by decide)), hI_8, h0_e, (fun h9 => absurd h9 (by omega)), (by omega), (fun j hj => (F_7.1 53 (by decide) j)), (fun j hj => (F_7.1 54 (by decide) j)), (fun j hj => (F_7.1 55 (by decide) j)), (fun j hj => (F_7.1 56 (by decide) j)), (fun j hj => (F_7.1 57 (by decide) j)), (fun j hj => (F_7.1 58 (by decide) j)), (fun j hj => (F_7.1 59 (by decide) j)), (by omega), (by omega), (by omega), (by omega), (by omega), (by omega), (by omega), (by omega)⟩

set_option maxHeartbeats 4000000 in
set_option maxRecDepth 100000 in
theorem c_X4_callHeld (ω : Om) (l : Launch) (μ : M3) (x1 : Int) (S : Int) (n : Int) (hx1 : ir x1) (hI : IC μ) (hS : S = μ.1 33 3) (hn : n = μ.1 52 7) (hSb : S < 240099) (hS9 : S ≤ 239000) (hst : 0 ≤ μ.1 70 2 ∧ μ.1 70 2 ≤ 5000 ∧ 0 ≤ μ.1 70 8 ∧ μ.1 70 8 ≤ 80000 ∧ μ.1 45 1 ≤ μ.1 70 2) (h0s : μ.1 32 13 = 0) (hv9 : vrk μ) (hcx : 0 ≤ x1 ∧ x1 ≤ 100000) : CtV ω l yX4_callHeld cX4_callHeld 6 6 194 [.ref (oP ω 32), .int (iv x1)] μ (fun (μ' : M3) => (Fr [70, 32, 34, 35, 36, 33, 53, 54, 55, 56, 57, 58, 59, 52, 45, 46, 47, 48, 49, 50] μ μ') ∧ (IC μ') ∧ ((μ'.1 52 7 = n ∧ ((μ'.1 33 3 ≤ max (S - (x1 + 1)) 0 + 1 ∧ μ'.1 32 13 = 0 ∧ μ'.1 32 12 = μ.1 32 12 ∧ μ'.1 32 10 = μ.1 32 10) ∨ (μ'.1 33 3 ≤ S + 1 ∧ (μ'.1 32 13 = 1 ∨ μ'.1 32 13 = 4) ∧ μ'.1 32 10 = μ.1 32 10))) ∨ (n < 24 ∧ μ'.1 52 7 = n + 1 ∧ μ'.1 32 13 = 0 ∧ 0 ≤ μ'.1 53 n ∧ μ'.1 53 n ≤ 3 ∧ S - x1 ≤ μ'.1 56 n ∧ μ'.1 56 n ≤ S - x1 + 1000 ∧ μ'.1 57 n = S - x1 - 1 ∧ μ'.1 58 n = μ.1 32 11 ∧ μ'.1 59 n = μ.1 60 6 ∧ μ'.1 33 3 = max (μ'.1 56 n) 0)) ∧ (μ'.1 52 7 = n + 1 → (stt μ (μ'.1 53 n) (μ'.1 32 12) ∧ μ'.1 32 10 = μ.1 12 (μ'.1 53 n))) ∧ (μ.1 70 2 ≤ μ'.1 70 2 ∧ μ'.1 70 2 ≤ 5000 ∧ 0 ≤ μ'.1 70 8 ∧ μ'.1 70 8 ≤ 80000 ∧ μ'.1 45 1 ≤ μ'.1 70 2) ∧ (∀ j, j ≠ n → μ'.1 53 j = μ.1 53 j) ∧ (∀ j, j ≠ n → μ'.1 54 j = μ.1 54 j) ∧ (∀ j, j ≠ n → μ'.1 55 j = μ.1 55 j) ∧ (∀ j, j ≠ n → μ'.1 56 j = μ.1 56 j) ∧ (∀ j, j ≠ n → μ'.1 57 j = μ.1 57 j) ∧ (∀ j, j ≠ n → μ'.1 58 j = μ.1 58 j) ∧ (∀ j, j ≠ n → μ'.1 59 j = μ.1 59 j) ∧ (μ'.1 70 1 = μ.1 70 1) ∧ (μ'.1 70 3 = μ.1 70 3) ∧ (μ'.1 70 4 = μ.1 70 4) ∧ (μ'.1 70 6 = μ.1 70 6) ∧ (μ'.1 32 11 = μ.1 32 11) ∧ (μ'.1 32 15 = μ.1 32 15) ∧ (μ'.1 32 16 = μ.1 32 16) ∧ (μ'.1 45 4 = μ.1 45 4)) := by
  refine CtV.go (by decide) (Nat.le_of_ble_eq_true rfl) (fun ρ p e s m below meth c R ls G hR hret hlk hl => ?_)
  have hx := G.1.1
  have hb := G.1.2.1
  have hl : lv_has ls 6 [(0, .ref (oP ω 32)), (1, .int (iv x1))] := hl
  generalize s.drawn = d0 at G ⊢
  have hr_x1 : -2147483648 ≤ x1 ∧ x1 ≤ 2147483647 := hx1
  have hk_1 := hI.row (r := 33) (by unfold isRow; decide)
  unfold rk at hk_1
  simp only [Int.reduceAdd] at hk_1
  have hbr_33 : BR 33 = 240100 := rfl
  have hn_2 : 0 ≤ μ.1 52 7 ∧ μ.1 52 7 ≤ 24 := hI.nm.2.2.2.2.1
  have hk_3 := hI.row (r := 37) (by unfold isRow; decide)
  unfold rk at hk_3
  simp only [Int.reduceAdd] at hk_3
  have hbr_37 : BR 37 = 20410 := rfl
  have hSr0 : Sr μ := G.sr0
  refine lv_aload_n hx hb dX4_callHeld_0 rfl (lv_at hl 0 rfl) ?_
  have hn_4 : 0 ≤ μ.1 45 1 ∧ 9 * μ.1 45 1 ≤ μ.2.1 46 := hI.nm.2.2.2.2.2.2.1
  refine xc_iV G (b := 32) (rest := []) (As := []) (c_X4_step ω l μ  hI (by omega)) (wm 6 2 rfl rfl) (wm 6 4 rfl rfl) (wm 0 75 rfl rfl) rfl rfl (by decide) rfl (wm 1 14 rfl rfl) (wm 6 5 rfl rfl) (by decide) hR (by decide) (n := 0) rfl rfl (Nat.le_of_ble_eq_true rfl) hl.1 dX4_callHeld_1 (fun r_6 μ5 ρ d0 H locs hr_r_6 hp G => ?_)
  have hr_r_6 : -2147483648 ≤ r_6 ∧ r_6 ≤ 2147483647 := hr_r_6
  obtain ⟨F_7, hI_8, hp_9, hs_10, hs_11, hs_12, hs_13, hs_14, hs_15, hs_16, hs_17, hs_18, hs_19, hs_20, hs_21, hs_22⟩ := hp
  refine xb_if_ne (tgt := 8) hx hb (by unfold ir; omega) dX4_callHeld_4 (by decide) (fun c_4 => ?_) (fun c_4 => ?_)
  · refine lv_aload_n hx hb dX4_callHeld_8 rfl (lv_at hl 0 rfl) ?_
    have e_23 : μ5.1 33 3 = S := ((F_7.1 33 (by decide) 3).trans hS.symm)
    refine xc_iV G (b := 32) (rest := []) (As := []) (c_X4_top ω l μ5 S hI_8 (by omega)) (wm 6 73 rfl rfl) (wm 6 75 rfl rfl) (wm 0 80 rfl rfl) rfl rfl (by decide) rfl (wm 1 14 rfl rfl) (wm 6 76 rfl rfl) (by decide) hR (by decide) (n := 0) rfl rfl (Nat.le_of_ble_eq_true rfl) hl.1 dX4_callHeld_9 (fun r_25 μ24 ρ d0 H locs hr_r_25 hp G => ?_)
    have hr_r_25 : -2147483648 ≤ r_25 ∧ r_25 ≤ 2147483647 := hr_r_25
    obtain ⟨hsm_26, hp_27⟩ := hp
    have hsm_26 := Eq.symm hsm_26
    subst hsm_26
    refine lv_iload_n hx hb dX4_callHeld_12 rfl (lv_at hl 1 rfl) ?_
    refine xb_isub hx hb dX4_callHeld_13 ?_
    refine lv_istore_n (lv' := [(2, .int (iv (r_25 - x1))), (0, .ref (oP ω 32)), (1, .int (iv x1))]) hx hb dX4_callHeld_14 rfl hl (by decide) rfl (fun ls hl => ?_)
    refine lv_aload_n hx hb dX4_callHeld_15 rfl (lv_at hl 1 rfl) ?_
    refine xa_getr G fd_X4 (a := 32) (x := 33) 3 rfl (by decide) rfl (wm 2 147 rfl rfl) ⟨rfl, rfl, rfl⟩ dX4_callHeld_16 rfl (G.sk 36 rfl) (by decide) rfl ?_
    refine lv_iload_n hx hb dX4_callHeld_19 rfl (lv_at hl 0 rfl) ?_
    refine xc_iV G (b := 33) (rest := []) (As := [.int (iv (r_25 - x1))]) (c_X9_kind ω l μ5 33 (r_25 - x1) (by unfold isRow; decide) (by unfold ir; omega) hI_8) (wm 6 146 rfl rfl) (wm 5 156 rfl rfl) (wm 5 157 rfl rfl) rfl rfl (by decide) rfl (wm 1 10 rfl rfl) (wm 5 158 rfl rfl) (by decide) hR (by decide) (n := 1) rfl rfl (Nat.le_of_ble_eq_true rfl) hl.1 dX4_callHeld_20 (fun r_29 μ28 ρ d0 H locs hr_r_29 hp G => ?_)
    have hr_r_29 : -2147483648 ≤ r_29 ∧ r_29 ≤ 2147483647 := hr_r_29
    have hsm_30 := hp
    have hsm_30 := Eq.symm hsm_30
    subst hsm_30
    refine lv_istore_n (lv' := [(3, .int (iv r_29)), (2, .int (iv (r_25 - x1))), (0, .ref (oP ω 32)), (1, .int (iv x1))]) hx hb dX4_callHeld_23 rfl hl (by decide) rfl (fun ls hl => ?_)
    refine lv_aload_n hx hb dX4_callHeld_24 rfl (lv_at hl 2 rfl) ?_
    refine xa_getr G fd_X4 (a := 32) (x := 33) 3 rfl (by decide) rfl (wm 2 147 rfl rfl) ⟨rfl, rfl, rfl⟩ dX4_callHeld_25 rfl (G.sk 36 rfl) (by decide) rfl ?_
    refine lv_iload_n hx hb dX4_callHeld_28 rfl (lv_at hl 1 rfl) ?_
    refine xc_lV G (b := 33) (rest := []) (As := [.int (iv (r_25 - x1))]) (c_X9_whole ω l μ5 33 (r_25 - x1) (by unfold isRow; decide) (by unfold ir; omega) hI_8) (wm 6 84 rfl rfl) (wm 5 160 rfl rfl) (wm 5 161 rfl rfl) rfl rfl (by decide) rfl (wm 1 10 rfl rfl) (wm 5 162 rfl rfl) (by decide) hR (by decide) (n := 1) rfl rfl (Nat.le_of_ble_eq_true rfl) hl.1 dX4_callHeld_29 (fun r_32 μ31 ρ d0 H locs hr_r_32 hp G => ?_)
    have hsm_33 := hp
    have hsm_33 := Eq.symm hsm_33
    subst hsm_33
    refine lv_ldc2 (s := s.setDrawn d0) hx hb G.1.2.2.2.1 (dr_words G.1.2.2.2.2 d0 _ (wm 7 15 rfl rfl)) dX4_callHeld_32 ?_
    refine xb_litl (x := 64) (by decide) ?_
    refine lv_ldiv hx hb dX4_callHeld_35 (by decide) ?_
    refine xb_topl (fun z_34 hr_z_34 he_z_34 => ?_)
    refine xb_l2i hx hb dX4_callHeld_36 ?_
    refine xb_topi (fun y_35 hr_y_35 he_y_35 => ?_)
    have hr_y_35 : -2147483648 ≤ y_35 ∧ y_35 ≤ 2147483647 := hr_y_35
    refine lv_iconst (v := iv 3) hx hb dX4_callHeld_37 rfl ?_
    refine lv_iand hx hb dX4_callHeld_38 ?_
    refine xb_topi (fun y_36 hr_y_36 he_y_36 => ?_)
    have hr_y_36 : -2147483648 ≤ y_36 ∧ y_36 ≤ 2147483647 := hr_y_36
    have hm_y_36 := and_mask y_35 (k := 3) (by omega) he_y_36 hr_y_36
    have hm3_y_36 : 0 ≤ y_35 ∧ y_35 ≤ 3 → y_36 = y_35 := and3 he_y_36 hr_y_36
    refine lv_istore (lv' := [(4, .int (iv y_36)), (3, .int (iv r_29)), (2, .int (iv (r_25 - x1))), (0, .ref (oP ω 32)), (1, .int (iv x1))]) hx hb dX4_callHeld_39 hl (by decide) rfl (fun ls hl => ?_)
    refine lv_iload_n hx hb dX4_callHeld_41 rfl (lv_at hl 1 rfl) ?_
    refine xb_if_ne (tgt := 49) hx hb (by unfold ir; omega) dX4_callHeld_42 (by decide) (fun c_42 => ?_) (fun c_42 => ?_)
    · refine lv_iload_n hx hb dX4_callHeld_49 rfl (lv_at hl 1 rfl) ?_
      refine lv_iconst (v := iv 3) hx hb dX4_callHeld_50 rfl ?_
      refine xb_icmp_eq (tgt := 58) hx hb (by unfold ir; omega) (by unfold ir; omega) dX4_callHeld_51 (by decide) (fun c_51 => ?_) (fun c_51 => ?_)
      · refine lv_aload_n hx hb dX4_callHeld_58 rfl (lv_at hl 3 rfl) ?_
        refine lv_iload hx hb dX4_callHeld_59 (lv_at hl 0 rfl) ?_
        refine lv_iload_n hx hb dX4_callHeld_61 rfl (lv_at hl 4 rfl) ?_
        have e_37 : μ5.1 33 3 = S := ((F_7.1 33 (by decide) 3).trans hS.symm)
        have e_38 : μ5.1 45 1 = μ.1 45 1 := (F_7.1 45 (by decide) 1)
        have e_39 : μ5.1 52 7 = n := ((F_7.1 52 (by decide) 7).trans hn.symm)
        have e_40 : μ5.1 70 1 = μ.1 70 1 := hs_10
        have e_41 : μ5.1 70 3 = μ.1 70 3 := hs_11
        have e_42 : μ5.1 70 4 = μ.1 70 4 := hs_12
        have e_43 : μ5.1 70 6 = μ.1 70 6 := hs_14
        have e_44 : μ5.1 70 7 = μ.1 70 7 := hs_15
        have e_45 : μ5.1 70 9 = μ.1 70 9 := hs_16
        have e_46 : μ5.1 32 10 = μ.1 32 10 := hs_17
        have e_47 : μ5.1 32 11 = μ.1 32 11 := hs_18
        have e_48 : μ5.1 32 12 = μ.1 32 12 := hs_19
        have e_49 : μ5.1 32 14 = μ.1 32 14 := hs_20
        have e_50 : μ5.1 32 15 = μ.1 32 15 := hs_21
        have e_51 : μ5.1 32 16 = μ.1 32 16 := hs_22
        refine xc_iV G (b := 32) (rest := []) (As := [.int (iv y_36), .int (iv x1)]) (c_X4_whatFailsGoing ω l μ5 y_36 x1 S (by unfold ir; omega) (by unfold ir; omega) hI_8 (by omega) (by omega) (by omega) (by omega) (by omega)) (wm 7 3 rfl rfl) (wm 7 5 rfl rfl) (wm 0 106 rfl rfl) rfl rfl (by decide) rfl (wm 1 14 rfl rfl) (wm 7 6 rfl rfl) (by decide) hR (by decide) (n := 2) rfl rfl (Nat.le_of_ble_eq_true rfl) hl.1 dX4_callHeld_62 (fun r_53 μ52 ρ d0 H locs hr_r_53 hp G => ?_)
        have hr_r_53 : -2147483648 ≤ r_53 ∧ r_53 ≤ 2147483647 := hr_r_53
        obtain ⟨F_54, hI_55, hp_56, hp_57, hp_58, hp_59, hs_60, hs_61, hs_62, hs_63, hs_64, hs_65, hs_66, hs_67, hs_68, hs_69, hs_70, hs_71⟩ := hp
        have hk_72 := hI_55.row (r := 33) (by unfold isRow; decide)
        unfold rk at hk_72
        simp only [Int.reduceAdd] at hk_72
        have hn_73 : 0 ≤ μ52.1 45 1 ∧ 9 * μ52.1 45 1 ≤ μ52.2.1 46 := hI_55.nm.2.2.2.2.2.2.1
        refine lv_istore (lv' := [(5, .int (iv r_53)), (4, .int (iv y_36)), (3, .int (iv r_29)), (2, .int (iv (r_25 - x1))), (0, .ref (oP ω 32)), (1, .int (iv x1))]) hx hb dX4_callHeld_65 hl (by decide) rfl (fun ls hl => ?_)
        refine lv_iload hx hb dX4_callHeld_67 (lv_at hl 0 rfl) ?_
        refine xb_if_eq (tgt := 84) hx hb (by unfold ir; omega) dX4_callHeld_69 (by decide) (fun c_69 => ?_) (fun c_69 => ?_)
        · refine lv_aload_n hx hb dX4_callHeld_84 rfl (lv_at hl 4 rfl) ?_
          refine xa_geti G fd_X4 (a := 32) (x := μ52.1 32 13) 13 rfl (by decide) rfl (wm 2 157 rfl rfl) ⟨rfl, rfl, rfl⟩ dX4_callHeld_85 rfl rfl ?_
          have hr_74 : -2147483648 ≤ μ52.1 32 13 ∧ μ52.1 32 13 ≤ 2147483647 := by have h9 := G.hr (a := 32) (k := 13) rfl; exact h9
          refine xb_if_ne (tgt := 112) hx hb (by unfold ir; omega) dX4_callHeld_88 (by decide) (fun c_88 => ?_) (fun c_88 => ?_)
          · have hn_e : μ52.1 52 7 = n := ((F_54.1 52 (by decide) 7).trans ((F_7.1 52 (by decide) 7).trans hn.symm))
            have e_75 : μ52.1 52 7 = n := ((F_54.1 52 (by decide) 7).trans ((F_7.1 52 (by decide) 7).trans hn.symm))
            have e_76 : μ52.1 33 3 = S := ((F_54.1 33 (by decide) 3).trans ((F_7.1 33 (by decide) 3).trans hS.symm))
            have e_77 : μ52.1 32 12 = μ.1 32 12 := (hs_68.trans hs_19)
            have e_78 : μ52.1 32 10 = μ.1 32 10 := (hs_66.trans hs_17)
            have e_79 : μ52.1 33 3 = S := ((F_54.1 33 (by decide) 3).trans ((F_7.1 33 (by decide) 3).trans hS.symm))
            have e_80 : μ52.1 32 10 = μ.1 32 10 := (hs_66.trans hs_17)
            have e_81 : μ52.1 52 7 = n := ((F_54.1 52 (by decide) 7).trans ((F_7.1 52 (by decide) 7).trans hn.symm))
            have e_82 : μ52.1 53 n = μ.1 53 n := ((F_54.1 53 (by decide) n).trans (F_7.1 53 (by decide) n))
            have e_83 : μ52.1 53 n = μ.1 53 n := ((F_54.1 53 (by decide) n).trans (F_7.1 53 (by decide) n))
            have e_84 : μ52.1 56 n = μ.1 56 n := ((F_54.1 56 (by decide) n).trans (F_7.1 56 (by decide) n))
            have e_85 : μ52.1 56 n = μ.1 56 n := ((F_54.1 56 (by decide) n).trans (F_7.1 56 (by decide) n))
            have e_86 : μ52.1 57 n = μ.1 57 n := ((F_54.1 57 (by decide) n).trans (F_7.1 57 (by decide) n))
            have e_87 : μ52.1 58 n = μ.1 58 n := ((F_54.1 58 (by decide) n).trans (F_7.1 58 (by decide) n))
            have e_88 : μ52.1 59 n = μ.1 59 n := ((F_54.1 59 (by decide) n).trans (F_7.1 59 (by decide) n))
            have e_89 : μ52.1 33 3 = S := ((F_54.1 33 (by decide) 3).trans ((F_7.1 33 (by decide) 3).trans hS.symm))
            have e_90 : μ52.1 56 n = μ.1 56 n := ((F_54.1 56 (by decide) n).trans (F_7.1 56 (by decide) n))
            have h0_e : (μ52.1 52 7 = n ∧ ((μ52.1 33 3 ≤ max (S - (x1 + 1)) 0 + 1 ∧ μ52.1 32 13 = 0 ∧ μ52.1 32 12 = μ.1 32 12 ∧ μ52.1 32 10 = μ.1 32 10) ∨ (μ52.1 33 3 ≤ S + 1 ∧ (μ52.1 32 13 = 1 ∨ μ52.1 32 13 = 4) ∧ μ52.1 32 10 = μ.1 32 10))) ∨ (n < 24 ∧ μ52.1 52 7 = n + 1 ∧ μ52.1 32 13 = 0 ∧ 0 ≤ μ52.1 53 n ∧ μ52.1 53 n ≤ 3 ∧ S - x1 ≤ μ52.1 56 n ∧ μ52.1 56 n ≤ S - x1 + 1000 ∧ μ52.1 57 n = S - x1 - 1 ∧ μ52.1 58 n = μ.1 32 11 ∧ μ52.1 59 n = μ.1 60 6 ∧ μ52.1 33 3 = max (μ52.1 56 n) 0) := by
              exact Or.inl ⟨by omega, Or.inr ⟨by omega, by omega, by omega⟩⟩
            have e_91 : μ52.1 45 1 = μ.1 45 1 := ((F_54.1 45 (by decide) 1).trans (F_7.1 45 (by decide) 1))
            have e_92 : μ52.1 70 1 = μ.1 70 1 := (hs_60.trans hs_10)
            have e_93 : μ52.1 70 3 = μ.1 70 3 := (hs_61.trans hs_11)
            have e_94 : μ52.1 70 4 = μ.1 70 4 := (hs_62.trans hs_12)
            have e_95 : μ52.1 70 6 = μ.1 70 6 := (hs_63.trans hs_14)
            have e_96 : μ52.1 32 11 = μ.1 32 11 := (hs_67.trans hs_18)
            have e_97 : μ52.1 32 15 = μ.1 32 15 := (hs_70.trans hs_21)
            have e_98 : μ52.1 32 16 = μ.1 32 16 := (hs_71.trans hs_22)
            have e_99 : μ52.1 45 4 = μ.1 45 4 := ((F_54.1 45 (by decide) 4).trans (F_7.1 45 (by decide) 4))
            exact xr_v G hret hlk dX4_callHeld_112 ⟨(Fr.tr (Fr.tr Fr.rf F_7 (by decide)) F_54 (by decide)), hI_55, h0_e, (fun h9 => absurd h9 (by omega)), (by omega), (fun j hj => ((F_54.1 53 (by decide) j).trans (F_7.1 53 (by decide) j))), (fun j hj => ((F_54.1 54 (by decide) j).trans (F_7.1 54 (by decide) j))), (fun j hj => ((F_54.1 55 (by decide) j).trans (F_7.1 55 (by decide) j))), (fun j hj => ((F_54.1 56 (by decide) j).trans (F_7.1 56 (by decide) j))), (fun j hj => ((F_54.1 57 (by decide) j).trans (F_7.1 57 (by decide) j))), (fun j hj => ((F_54.1 58 (by decide) j).trans (F_7.1 58 (by decide) j))), (fun j hj => ((F_54.1 59 (by decide) j).trans (F_7.1 59 (by decide) j))), (by omega), (by omega), (by omega), (by omega), (by omega), (by omega), (by omega), (by omega)⟩
          · refine lv_aload_n hx hb dX4_callHeld_91 rfl (lv_at hl 4 rfl) ?_
            refine lv_iload hx hb dX4_callHeld_92 (lv_at hl 1 rfl) ?_
            refine lv_aload_n hx hb dX4_callHeld_94 rfl (lv_at hl 4 rfl) ?_
            refine xa_getr G fd_X4 (a := 32) (x := 33) 3 rfl (by decide) rfl (wm 2 147 rfl rfl) ⟨rfl, rfl, rfl⟩ dX4_callHeld_95 rfl (G.sk 36 rfl) (by decide) rfl ?_
            refine lv_iload_n hx hb dX4_callHeld_98 rfl (lv_at hl 3 rfl) ?_
            refine xc_lV G (b := 33) (rest := [.int (iv y_36), .ref (oP ω 32)]) (As := [.int (iv (r_25 - x1))]) (c_X9_whole ω l μ52 33 (r_25 - x1) (by unfold isRow; decide) (by unfold ir; omega) hI_55) (wm 6 84 rfl rfl) (wm 5 160 rfl rfl) (wm 5 161 rfl rfl) rfl rfl (by decide) rfl (wm 1 10 rfl rfl) (wm 5 162 rfl rfl) (by decide) hR (by decide) (n := 1) rfl rfl (Nat.le_of_ble_eq_true rfl) hl.1 dX4_callHeld_99 (fun r_101 μ100 ρ d0 H locs hr_r_101 hp G => ?_)
            have hsm_102 := hp
            have hsm_102 := Eq.symm hsm_102
            subst hsm_102
            refine lv_ldc2 (s := s.setDrawn d0) hx hb G.1.2.2.2.1 (dr_words G.1.2.2.2.2 d0 _ (wm 7 15 rfl rfl)) dX4_callHeld_102 ?_
            refine xb_litl (x := 64) (by decide) ?_
            refine lv_lrem hx hb dX4_callHeld_105 (by decide) ?_
            refine xb_topl (fun z_103 hr_z_103 he_z_103 => ?_)
            refine xb_l2i hx hb dX4_callHeld_106 ?_
            refine xb_topi (fun y_104 hr_y_104 he_y_104 => ?_)
            have hr_y_104 : -2147483648 ≤ y_104 ∧ y_104 ≤ 2147483647 := hr_y_104
            refine lv_iload_n hx hb dX4_callHeld_107 rfl (lv_at hl 5 rfl) ?_
            refine lv_iconst (v := iv 1) hx hb dX4_callHeld_108 rfl ?_
            have hF_105 : Fr [70, 32, 34, 35, 36] μ μ52 := (Fr.tr (Fr.tr Fr.rf F_7 (by decide)) F_54 (by decide))
            have hsr_hF_105 : Sr μ := hSr0
            have e_106 : μ52.1 33 3 = S := ((F_54.1 33 (by decide) 3).trans ((F_7.1 33 (by decide) 3).trans hS.symm))
            have e_107 : μ52.1 52 7 = n := ((F_54.1 52 (by decide) 7).trans ((F_7.1 52 (by decide) 7).trans hn.symm))
            have e_108 : μ52.1 12 y_36 = μ.1 12 y_36 := ((F_54.1 12 (by decide) y_36).trans (F_7.1 12 (by decide) y_36))
            have e_109 : μ52.1 12 y_36 = μ.1 12 y_36 := ((F_54.1 12 (by decide) y_36).trans (F_7.1 12 (by decide) y_36))
            have hvr_110 : vrk μ52 := hv9.fr (L := [70, 32, 34, 35, 36]) (Fr.tr (Fr.tr Fr.rf F_7 (by decide)) F_54 (by decide)) (by decide)
            have e_111 : μ52.1 32 11 = μ.1 32 11 := (hs_67.trans hs_18)
            have hn_112 : 0 ≤ μ.1 60 6 ∧ μ.1 60 6 ≤ 400 := hI.nm.2.2.2.2.2.1
            have e_113 : μ52.1 60 6 = μ.1 60 6 := ((F_54.1 60 (by decide) 6).trans (F_7.1 60 (by decide) 6))
            have e_114 : μ52.1 12 y_36 = μ.1 12 y_36 := ((F_54.1 12 (by decide) y_36).trans (F_7.1 12 (by decide) y_36))
            have e_115 : μ52.1 32 11 = μ.1 32 11 := (hs_67.trans hs_18)
            have e_116 : μ52.1 32 14 = μ.1 32 14 := (hs_69.trans hs_20)
            have e_117 : μ52.1 32 15 = μ.1 32 15 := (hs_70.trans hs_21)
            have e_118 : μ52.1 32 16 = μ.1 32 16 := (hs_71.trans hs_22)
            have e_119 : μ52.1 70 1 = μ.1 70 1 := (hs_60.trans hs_10)
            have e_120 : μ52.1 70 3 = μ.1 70 3 := (hs_61.trans hs_11)
            have e_121 : μ52.1 70 4 = μ.1 70 4 := (hs_62.trans hs_12)
            have e_122 : μ52.1 70 6 = μ.1 70 6 := (hs_63.trans hs_14)
            have e_123 : μ52.1 70 9 = μ.1 70 9 := (hs_65.trans hs_16)
            refine xc_vV G (b := 32) (rest := []) (As := [.int (iv y_36), .int (iv y_104), .int (iv x1), .int (iv 1)]) (c_X4_enter ω l μ52 y_36 y_104 x1 1 S n (μ.1 12 y_36) (by unfold ir; omega) (by unfold ir; omega) (by unfold ir; omega) (by unfold ir; omega) hI_55 (by omega) (by omega) (by omega) (by omega) (by omega) (by omega) (by omega) hvr_110) (wm 5 75 rfl rfl) (wm 5 77 rfl rfl) (wm 0 64 rfl rfl) rfl rfl (by decide) rfl (wm 1 14 rfl rfl) (wm 5 78 rfl rfl) (by decide) hR (by decide) (n := 4) rfl rfl (Nat.le_of_ble_eq_true rfl) hl.1 dX4_callHeld_109 (fun μ124 ρ d0 H locs hp G => ?_)
            obtain ⟨F_125, hI_126, hs_127, hp_128, hp_129, hp_130, hp_131, hp_132, hp_133, hs_134, hp_135, ha_136, ha_137, ha_138, ha_139, ha_140, ha_141, ha_142, hs_143, hs_144, hs_145, hs_146, hs_147, hs_148, hs_149, hs_150, hs_151, hs_152, hs_153, hs_154, hs_155, hs_156⟩ := hp
            have hk_157 := hI_126.row (r := 33) (by unfold isRow; decide)
            unfold rk at hk_157
            simp only [Int.reduceAdd] at hk_157
            have hst_hF_105 := stt_fr hF_105 (by decide) hsr_hF_105 hp_135
            have hn_e : μ124.1 52 7 = n + 1 := hs_127
            have e_158 : μ124.1 52 7 = n + 1 := hs_127
            have e_159 : μ124.1 32 13 = μ52.1 32 13 := hs_144
            have e_160 : μ124.1 32 10 = (μ.1 12 y_36) := hs_134
            have e_161 : μ124.1 32 13 = μ52.1 32 13 := hs_144
            have e_162 : μ124.1 32 13 = μ52.1 32 13 := hs_144
            have e_163 : μ124.1 32 10 = (μ.1 12 y_36) := hs_134
            have e_164 : μ124.1 52 7 = n + 1 := hs_127
            have e_165 : μ124.1 32 13 = μ52.1 32 13 := hs_144
            have h0_e : (μ124.1 52 7 = n ∧ ((μ124.1 33 3 ≤ max (S - (x1 + 1)) 0 + 1 ∧ μ124.1 32 13 = 0 ∧ μ124.1 32 12 = μ.1 32 12 ∧ μ124.1 32 10 = μ.1 32 10) ∨ (μ124.1 33 3 ≤ S + 1 ∧ (μ124.1 32 13 = 1 ∨ μ124.1 32 13 = 4) ∧ μ124.1 32 10 = μ.1 32 10))) ∨ (n < 24 ∧ μ124.1 52 7 = n + 1 ∧ μ124.1 32 13 = 0 ∧ 0 ≤ μ124.1 53 n ∧ μ124.1 53 n ≤ 3 ∧ S - x1 ≤ μ124.1 56 n ∧ μ124.1 56 n ≤ S - x1 + 1000 ∧ μ124.1 57 n = S - x1 - 1 ∧ μ124.1 58 n = μ.1 32 11 ∧ μ124.1 59 n = μ.1 60 6 ∧ μ124.1 33 3 = max (μ124.1 56 n) 0) := by
              exact Or.inr ⟨by omega, by omega, by omega, by omega, by omega, by omega, by omega, by omega, by omega, by omega, by omega⟩
            have hp_e : μ124.1 32 10 = (μ.1 12 y_36) := hs_134
            have e_166 : μ124.1 70 2 = μ52.1 70 2 := hs_150
            have e_167 : μ124.1 70 2 = μ52.1 70 2 := hs_150
            have e_168 : μ124.1 70 8 = μ52.1 70 8 := hs_155
            have e_169 : μ124.1 70 8 = μ52.1 70 8 := hs_155
            have e_170 : μ124.1 45 1 = μ.1 45 1 := ((F_125.1 45 (by decide) 1).trans ((F_54.1 45 (by decide) 1).trans (F_7.1 45 (by decide) 1)))
            have e_171 : μ124.1 70 2 = μ52.1 70 2 := hs_150
            have e_172 : μ124.1 70 1 = μ.1 70 1 := (hs_149.trans (hs_60.trans hs_10))
            have e_173 : μ124.1 70 3 = μ.1 70 3 := (hs_151.trans (hs_61.trans hs_11))
            have e_174 : μ124.1 70 4 = μ.1 70 4 := (hs_152.trans (hs_62.trans hs_12))
            have e_175 : μ124.1 70 6 = μ.1 70 6 := (hs_154.trans (hs_63.trans hs_14))
            have e_176 : μ124.1 32 11 = μ.1 32 11 := (hs_143.trans (hs_67.trans hs_18))
            have e_177 : μ124.1 32 15 = μ.1 32 15 := (hs_146.trans (hs_70.trans hs_21))
            have e_178 : μ124.1 32 16 = μ.1 32 16 := (hs_147.trans (hs_71.trans hs_22))
            have e_179 : μ124.1 45 4 = μ.1 45 4 := ((F_125.1 45 (by decide) 4).trans ((F_54.1 45 (by decide) 4).trans (F_7.1 45 (by decide) 4)))
            exact xr_v G hret hlk dX4_callHeld_112 ⟨(Fr.tr (Fr.tr (Fr.tr Fr.rf F_7 (by decide)) F_54 (by decide)) F_125 (by decide)), hI_126, h0_e, (fun _ => by rw [hp_128, hp_e]; exact ⟨hst_hF_105, (by omega)⟩), (by omega), (fun j hj => ((ha_136 j (by omega)).trans ((F_54.1 53 (by decide) j).trans (F_7.1 53 (by decide) j)))), (fun j hj => ((ha_137 j (by omega)).trans ((F_54.1 54 (by decide) j).trans (F_7.1 54 (by decide) j)))), (fun j hj => ((ha_138 j (by omega)).trans ((F_54.1 55 (by decide) j).trans (F_7.1 55 (by decide) j)))), (fun j hj => ((ha_139 j (by omega)).trans ((F_54.1 56 (by decide) j).trans (F_7.1 56 (by decide) j)))), (fun j hj => ((ha_140 j (by omega)).trans ((F_54.1 57 (by decide) j).trans (F_7.1 57 (by decide) j)))), (fun j hj => ((ha_141 j (by omega)).trans ((F_54.1 58 (by decide) j).trans (F_7.1 58 (by decide) j)))), (fun j hj => ((ha_142 j (by omega)).trans ((F_54.1 59 (by decide) j).trans (F_7.1 59 (by decide) j)))), (by omega), (by omega), (by omega), (by omega), (by omega), (by omega), (by omega), (by omega)⟩
        · refine lv_aload_n hx hb dX4_callHeld_72 rfl (lv_at hl 4 rfl) ?_
          refine lv_iload hx hb dX4_callHeld_73 (lv_at hl 0 rfl) ?_
          refine lv_iload_n hx hb dX4_callHeld_75 rfl (lv_at hl 5 rfl) ?_
          refine lv_iconst (v := iv 1) hx hb dX4_callHeld_76 rfl ?_
          refine xb_iadd hx hb dX4_callHeld_77 ?_
          have e_180 : μ52.1 33 3 = S := ((F_54.1 33 (by decide) 3).trans ((F_7.1 33 (by decide) 3).trans hS.symm))
          have e_181 : μ52.1 45 1 = μ.1 45 1 := ((F_54.1 45 (by decide) 1).trans (F_7.1 45 (by decide) 1))
          have e_182 : ofF μ52 53 = ofF μ 53 := ((ofF_fr F_54 (by decide) (by decide)).trans (ofF_fr F_7 (by decide) (by decide)))
          have e_183 : μ52.1 70 1 = μ.1 70 1 := (hs_60.trans hs_10)
          have e_184 : μ52.1 70 3 = μ.1 70 3 := (hs_61.trans hs_11)
          have e_185 : μ52.1 70 4 = μ.1 70 4 := (hs_62.trans hs_12)
          have e_186 : μ52.1 70 6 = μ.1 70 6 := (hs_63.trans hs_14)
          have e_187 : μ52.1 70 7 = μ.1 70 7 := (hs_64.trans hs_15)
          have e_188 : μ52.1 32 10 = μ.1 32 10 := (hs_66.trans hs_17)
          have e_189 : μ52.1 32 11 = μ.1 32 11 := (hs_67.trans hs_18)
          have e_190 : μ52.1 32 12 = μ.1 32 12 := (hs_68.trans hs_19)
          have e_191 : μ52.1 32 15 = μ.1 32 15 := (hs_70.trans hs_21)
          have e_192 : μ52.1 32 16 = μ.1 32 16 := (hs_71.trans hs_22)
          have hn_193 : 0 ≤ μ.1 45 4 ∧ 2 * μ.1 45 4 ≤ μ.2.1 51 := hI.nm.2.2.2.2.2.2.2.1
          have e_194 : μ52.1 45 4 = μ.1 45 4 := ((F_54.1 45 (by decide) 4).trans (F_7.1 45 (by decide) 4))
          refine xc_vV G (b := 32) (rest := []) (As := [.int (iv r_53), .int (iv (x1 + 1))]) (c_X4_fails ω l μ52 r_53 (x1 + 1) S (by unfold ir; omega) (by unfold ir; omega) hI_55 (by omega) (by omega) (by omega) (by omega)) (wm 6 93 rfl rfl) (wm 6 95 rfl rfl) (wm 0 82 rfl rfl) rfl rfl (by decide) rfl (wm 1 14 rfl rfl) (wm 6 96 rfl rfl) (by decide) hR (by decide) (n := 2) rfl rfl (Nat.le_of_ble_eq_true rfl) hl.1 dX4_callHeld_78 (fun μ195 ρ d0 H locs hp G => ?_)
          obtain ⟨F_196, hI_197, hp_198, hp_199, hs_200, hs_201, hs_202, hs_203, hs_204, hs_205, hs_206, hs_207, hs_208, hs_209, hs_210, hs_211⟩ := hp
          have hk_212 := hI_197.row (r := 33) (by unfold isRow; decide)
          unfold rk at hk_212
          simp only [Int.reduceAdd] at hk_212
          have hn_213 : 0 ≤ μ195.1 45 1 ∧ 9 * μ195.1 45 1 ≤ μ195.2.1 46 := hI_197.nm.2.2.2.2.2.2.1
          refine lv_goto (tgt := 112) hx hb dX4_callHeld_81 (by decide) ?_
          have hn_e : μ195.1 52 7 = n := ((F_196.1 52 (by decide) 7).trans ((F_54.1 52 (by decide) 7).trans ((F_7.1 52 (by decide) 7).trans hn.symm)))
          have e_214 : μ195.1 52 7 = n := ((F_196.1 52 (by decide) 7).trans ((F_54.1 52 (by decide) 7).trans ((F_7.1 52 (by decide) 7).trans hn.symm)))
          have e_215 : μ195.1 32 12 = μ.1 32 12 := (hs_208.trans (hs_68.trans hs_19))
          have e_216 : μ195.1 32 10 = μ.1 32 10 := (hs_206.trans (hs_66.trans hs_17))
          have e_217 : μ195.1 32 10 = μ.1 32 10 := (hs_206.trans (hs_66.trans hs_17))
          have e_218 : μ195.1 52 7 = n := ((F_196.1 52 (by decide) 7).trans ((F_54.1 52 (by decide) 7).trans ((F_7.1 52 (by decide) 7).trans hn.symm)))
          have e_219 : μ195.1 53 n = μ.1 53 n := ((F_196.1 53 (by decide) n).trans ((F_54.1 53 (by decide) n).trans (F_7.1 53 (by decide) n)))
          have e_220 : μ195.1 53 n = μ.1 53 n := ((F_196.1 53 (by decide) n).trans ((F_54.1 53 (by decide) n).trans (F_7.1 53 (by decide) n)))
          have e_221 : μ195.1 56 n = μ.1 56 n := ((F_196.1 56 (by decide) n).trans ((F_54.1 56 (by decide) n).trans (F_7.1 56 (by decide) n)))
          have e_222 : μ195.1 56 n = μ.1 56 n := ((F_196.1 56 (by decide) n).trans ((F_54.1 56 (by decide) n).trans (F_7.1 56 (by decide) n)))
          have e_223 : μ195.1 57 n = μ.1 57 n := ((F_196.1 57 (by decide) n).trans ((F_54.1 57 (by decide) n).trans (F_7.1 57 (by decide) n)))
          have e_224 : μ195.1 58 n = μ.1 58 n := ((F_196.1 58 (by decide) n).trans ((F_54.1 58 (by decide) n).trans (F_7.1 58 (by decide) n)))
          have e_225 : μ195.1 59 n = μ.1 59 n := ((F_196.1 59 (by decide) n).trans ((F_54.1 59 (by decide) n).trans (F_7.1 59 (by decide) n)))
          have e_226 : μ195.1 56 n = μ.1 56 n := ((F_196.1 56 (by decide) n).trans ((F_54.1 56 (by decide) n).trans (F_7.1 56 (by decide) n)))
          have h0_e : (μ195.1 52 7 = n ∧ ((μ195.1 33 3 ≤ max (S - (x1 + 1)) 0 + 1 ∧ μ195.1 32 13 = 0 ∧ μ195.1 32 12 = μ.1 32 12 ∧ μ195.1 32 10 = μ.1 32 10) ∨ (μ195.1 33 3 ≤ S + 1 ∧ (μ195.1 32 13 = 1 ∨ μ195.1 32 13 = 4) ∧ μ195.1 32 10 = μ.1 32 10))) ∨ (n < 24 ∧ μ195.1 52 7 = n + 1 ∧ μ195.1 32 13 = 0 ∧ 0 ≤ μ195.1 53 n ∧ μ195.1 53 n ≤ 3 ∧ S - x1 ≤ μ195.1 56 n ∧ μ195.1 56 n ≤ S - x1 + 1000 ∧ μ195.1 57 n = S - x1 - 1 ∧ μ195.1 58 n = μ.1 32 11 ∧ μ195.1 59 n = μ.1 60 6 ∧ μ195.1 33 3 = max (μ195.1 56 n) 0) := by
            rcases hp_198 with ⟨q1, q2, q3⟩ | ⟨q1, q2⟩
            · exact Or.inl ⟨by omega, Or.inl ⟨by omega, by omega, by omega, by omega⟩⟩
            · exact Or.inl ⟨by omega, Or.inr ⟨by omega, by omega, by omega⟩⟩
          have e_227 : μ195.1 70 1 = μ.1 70 1 := (hs_200.trans (hs_60.trans hs_10))
          have e_228 : μ195.1 70 3 = μ.1 70 3 := (hs_201.trans (hs_61.trans hs_11))
          have e_229 : μ195.1 70 4 = μ.1 70 4 := (hs_202.trans (hs_62.trans hs_12))
          have e_230 : μ195.1 70 6 = μ.1 70 6 := (hs_204.trans (hs_63.trans hs_14))
          have e_231 : μ195.1 32 11 = μ.1 32 11 := (hs_207.trans (hs_67.trans hs_18))
          have e_232 : μ195.1 32 15 = μ.1 32 15 := (hs_209.trans (hs_70.trans hs_21))
          have e_233 : μ195.1 32 16 = μ.1 32 16 := (hs_210.trans (hs_71.trans hs_22))
          have e_234 : μ195.1 45 4 = μ.1 45 4 := (hs_211.trans ((F_54.1 45 (by decide) 4).trans (F_7.1 45 (by decide) 4)))
          exact xr_v G hret hlk dX4_callHeld_112 ⟨(Fr.tr (Fr.tr (Fr.tr Fr.rf F_7 (by decide)) F_54 (by decide)) F_196 (by decide)), hI_197, h0_e, (fun h9 => absurd h9 (by omega)), (by omega), (fun j hj => ((F_196.1 53 (by decide) j).trans ((F_54.1 53 (by decide) j).trans (F_7.1 53 (by decide) j)))), (fun j hj => ((F_196.1 54 (by decide) j).trans ((F_54.1 54 (by decide) j).trans (F_7.1 54 (by decide) j)))), (fun j hj => ((F_196.1 55 (by decide) j).trans ((F_54.1 55 (by decide) j).trans (F_7.1 55 (by decide) j)))), (fun j hj => ((F_196.1 56 (by decide) j).trans ((F_54.1 56 (by decide) j).trans (F_7.1 56 (by decide) j)))), (fun j hj => ((F_196.1 57 (by decide) j).trans ((F_54.1 57 (by decide) j).trans (F_7.1 57 (by decide) j)))), (fun j hj => ((F_196.1 58 (by decide) j).trans ((F_54.1 58 (by decide) j).trans (F_7.1 58 (by decide) j)))), (fun j hj => ((F_196.1 59 (by decide) j).trans ((F_54.1 59 (by decide) j).trans (F_7.1 59 (by decide) j)))), (by omega), (by omega), (by omega), (by omega), (by omega), (by omega), (by omega), (by omega)⟩
      · refine lv_iconst (v := iv 4) hx hb dX4_callHeld_54 rfl ?_
        refine lv_goto (tgt := 65) hx hb dX4_callHeld_55 (by decide) ?_
        refine lv_istore (lv' := [(5, .int (iv 4)), (4, .int (iv y_36)), (3, .int (iv r_29)), (2, .int (iv (r_25 - x1))), (0, .ref (oP ω 32)), (1, .int (iv x1))]) hx hb dX4_callHeld_65 hl (by decide) rfl (fun ls hl => ?_)
        refine lv_iload hx hb dX4_callHeld_67 (lv_at hl 0 rfl) ?_
        refine xb_if_eq (tgt := 84) hx hb (x := 4) (by unfold ir; omega) dX4_callHeld_69 (by decide) (fun c_69 => absurd c_69 (by decide)) (fun c_69 => ?_)
        refine lv_aload_n hx hb dX4_callHeld_72 rfl (lv_at hl 4 rfl) ?_
        refine lv_iload hx hb dX4_callHeld_73 (lv_at hl 0 rfl) ?_
        refine lv_iload_n hx hb dX4_callHeld_75 rfl (lv_at hl 5 rfl) ?_
        refine lv_iconst (v := iv 1) hx hb dX4_callHeld_76 rfl ?_
        refine xb_iadd hx hb dX4_callHeld_77 ?_
        have e_235 : μ5.1 33 3 = S := ((F_7.1 33 (by decide) 3).trans hS.symm)
        have e_236 : μ5.1 45 1 = μ.1 45 1 := (F_7.1 45 (by decide) 1)
        have e_237 : ofF μ5 53 = ofF μ 53 := (ofF_fr F_7 (by decide) (by decide))
        have e_238 : μ5.1 70 1 = μ.1 70 1 := hs_10
        have e_239 : μ5.1 70 3 = μ.1 70 3 := hs_11
        have e_240 : μ5.1 70 4 = μ.1 70 4 := hs_12
        have e_241 : μ5.1 70 5 = μ.1 70 5 := hs_13
        have e_242 : μ5.1 70 6 = μ.1 70 6 := hs_14
        have e_243 : μ5.1 70 7 = μ.1 70 7 := hs_15
        have e_244 : μ5.1 32 10 = μ.1 32 10 := hs_17
        have e_245 : μ5.1 32 11 = μ.1 32 11 := hs_18
        have e_246 : μ5.1 32 12 = μ.1 32 12 := hs_19
        have e_247 : μ5.1 32 15 = μ.1 32 15 := hs_21
        have e_248 : μ5.1 32 16 = μ.1 32 16 := hs_22
        have hn_249 : 0 ≤ μ.1 45 4 ∧ 2 * μ.1 45 4 ≤ μ.2.1 51 := hI.nm.2.2.2.2.2.2.2.1
        have e_250 : μ5.1 45 4 = μ.1 45 4 := (F_7.1 45 (by decide) 4)
        refine xc_vV G (b := 32) (rest := []) (As := [.int (iv 4), .int (iv (x1 + 1))]) (c_X4_fails ω l μ5 4 (x1 + 1) S (by unfold ir; omega) (by unfold ir; omega) hI_8 (by omega) (by omega) (by omega) (by omega)) (wm 6 93 rfl rfl) (wm 6 95 rfl rfl) (wm 0 82 rfl rfl) rfl rfl (by decide) rfl (wm 1 14 rfl rfl) (wm 6 96 rfl rfl) (by decide) hR (by decide) (n := 2) rfl rfl (Nat.le_of_ble_eq_true rfl) hl.1 dX4_callHeld_78 (fun μ251 ρ d0 H locs hp G => ?_)
        obtain ⟨F_252, hI_253, hp_254, hp_255, hs_256, hs_257, hs_258, hs_259, hs_260, hs_261, hs_262, hs_263, hs_264, hs_265, hs_266, hs_267⟩ := hp
        have hk_268 := hI_253.row (r := 33) (by unfold isRow; decide)
        unfold rk at hk_268
        simp only [Int.reduceAdd] at hk_268
        have hn_269 : 0 ≤ μ251.1 45 1 ∧ 9 * μ251.1 45 1 ≤ μ251.2.1 46 := hI_253.nm.2.2.2.2.2.2.1
        refine lv_goto (tgt := 112) hx hb dX4_callHeld_81 (by decide) ?_
        have hn_e : μ251.1 52 7 = n := ((F_252.1 52 (by decide) 7).trans ((F_7.1 52 (by decide) 7).trans hn.symm))
        have e_270 : μ251.1 52 7 = n := ((F_252.1 52 (by decide) 7).trans ((F_7.1 52 (by decide) 7).trans hn.symm))
        have e_271 : μ251.1 32 12 = μ.1 32 12 := (hs_264.trans hs_19)
        have e_272 : μ251.1 32 10 = μ.1 32 10 := (hs_262.trans hs_17)
        have e_273 : μ251.1 32 10 = μ.1 32 10 := (hs_262.trans hs_17)
        have e_274 : μ251.1 52 7 = n := ((F_252.1 52 (by decide) 7).trans ((F_7.1 52 (by decide) 7).trans hn.symm))
        have e_275 : μ251.1 53 n = μ.1 53 n := ((F_252.1 53 (by decide) n).trans (F_7.1 53 (by decide) n))
        have e_276 : μ251.1 53 n = μ.1 53 n := ((F_252.1 53 (by decide) n).trans (F_7.1 53 (by decide) n))
        have e_277 : μ251.1 56 n = μ.1 56 n := ((F_252.1 56 (by decide) n).trans (F_7.1 56 (by decide) n))
        have e_278 : μ251.1 56 n = μ.1 56 n := ((F_252.1 56 (by decide) n).trans (F_7.1 56 (by decide) n))
        have e_279 : μ251.1 57 n = μ.1 57 n := ((F_252.1 57 (by decide) n).trans (F_7.1 57 (by decide) n))
        have e_280 : μ251.1 58 n = μ.1 58 n := ((F_252.1 58 (by decide) n).trans (F_7.1 58 (by decide) n))
        have e_281 : μ251.1 59 n = μ.1 59 n := ((F_252.1 59 (by decide) n).trans (F_7.1 59 (by decide) n))
        have e_282 : μ251.1 56 n = μ.1 56 n := ((F_252.1 56 (by decide) n).trans (F_7.1 56 (by decide) n))
        have h0_e : (μ251.1 52 7 = n ∧ ((μ251.1 33 3 ≤ max (S - (x1 + 1)) 0 + 1 ∧ μ251.1 32 13 = 0 ∧ μ251.1 32 12 = μ.1 32 12 ∧ μ251.1 32 10 = μ.1 32 10) ∨ (μ251.1 33 3 ≤ S + 1 ∧ (μ251.1 32 13 = 1 ∨ μ251.1 32 13 = 4) ∧ μ251.1 32 10 = μ.1 32 10))) ∨ (n < 24 ∧ μ251.1 52 7 = n + 1 ∧ μ251.1 32 13 = 0 ∧ 0 ≤ μ251.1 53 n ∧ μ251.1 53 n ≤ 3 ∧ S - x1 ≤ μ251.1 56 n ∧ μ251.1 56 n ≤ S - x1 + 1000 ∧ μ251.1 57 n = S - x1 - 1 ∧ μ251.1 58 n = μ.1 32 11 ∧ μ251.1 59 n = μ.1 60 6 ∧ μ251.1 33 3 = max (μ251.1 56 n) 0) := by
          rcases hp_254 with ⟨q1, q2, q3⟩ | ⟨q1, q2⟩
          · exact Or.inl ⟨by omega, Or.inl ⟨by omega, by omega, by omega, by omega⟩⟩
          · exact Or.inl ⟨by omega, Or.inr ⟨by omega, by omega, by omega⟩⟩
        have e_283 : μ251.1 70 1 = μ.1 70 1 := (hs_256.trans hs_10)
        have e_284 : μ251.1 70 3 = μ.1 70 3 := (hs_257.trans hs_11)
        have e_285 : μ251.1 70 4 = μ.1 70 4 := (hs_258.trans hs_12)
        have e_286 : μ251.1 70 6 = μ.1 70 6 := (hs_260.trans hs_14)
        have e_287 : μ251.1 32 11 = μ.1 32 11 := (hs_263.trans hs_18)
        have e_288 : μ251.1 32 15 = μ.1 32 15 := (hs_265.trans hs_21)
        have e_289 : μ251.1 32 16 = μ.1 32 16 := (hs_266.trans hs_22)
        have e_290 : μ251.1 45 4 = μ.1 45 4 := (hs_267.trans (F_7.1 45 (by decide) 4))
        exact xr_v G hret hlk dX4_callHeld_112 ⟨(Fr.tr (Fr.tr Fr.rf F_7 (by decide)) F_252 (by decide)), hI_253, h0_e, (fun h9 => absurd h9 (by omega)), (by omega), (fun j hj => ((F_252.1 53 (by decide) j).trans (F_7.1 53 (by decide) j))), (fun j hj => ((F_252.1 54 (by decide) j).trans (F_7.1 54 (by decide) j))), (fun j hj => ((F_252.1 55 (by decide) j).trans (F_7.1 55 (by decide) j))), (fun j hj => ((F_252.1 56 (by decide) j).trans (F_7.1 56 (by decide) j))), (fun j hj => ((F_252.1 57 (by decide) j).trans (F_7.1 57 (by decide) j))), (fun j hj => ((F_252.1 58 (by decide) j).trans (F_7.1 58 (by decide) j))), (fun j hj => ((F_252.1 59 (by decide) j).trans (F_7.1 59 (by decide) j))), (by omega), (by omega), (by omega), (by omega), (by omega), (by omega), (by omega), (by omega)⟩
    · refine lv_iconst (v := iv 3) hx hb dX4_callHeld_45 rfl ?_
      refine lv_goto (tgt := 65) hx hb dX4_callHeld_46 (by decide) ?_
      refine lv_istore (lv' := [(5, .int (iv 3)), (4, .int (iv y_36)), (3, .int (iv r_29)), (2, .int (iv (r_25 - x1))), (0, .ref (oP ω 32)), (1, .int (iv x1))]) hx hb dX4_callHeld_65 hl (by decide) rfl (fun ls hl => ?_)
      refine lv_iload hx hb dX4_callHeld_67 (lv_at hl 0 rfl) ?_
      refine xb_if_eq (tgt := 84) hx hb (x := 3) (by unfold ir; omega) dX4_callHeld_69 (by decide) (fun c_69 => absurd c_69 (by decide)) (fun c_69 => ?_)
      refine lv_aload_n hx hb dX4_callHeld_72 rfl (lv_at hl 4 rfl) ?_
      refine lv_iload hx hb dX4_callHeld_73 (lv_at hl 0 rfl) ?_
      refine lv_iload_n hx hb dX4_callHeld_75 rfl (lv_at hl 5 rfl) ?_
      refine lv_iconst (v := iv 1) hx hb dX4_callHeld_76 rfl ?_
      refine xb_iadd hx hb dX4_callHeld_77 ?_
      have e_291 : μ5.1 33 3 = S := ((F_7.1 33 (by decide) 3).trans hS.symm)
      have e_292 : μ5.1 45 1 = μ.1 45 1 := (F_7.1 45 (by decide) 1)
      have e_293 : ofF μ5 53 = ofF μ 53 := (ofF_fr F_7 (by decide) (by decide))
      have e_294 : μ5.1 70 1 = μ.1 70 1 := hs_10
      have e_295 : μ5.1 70 3 = μ.1 70 3 := hs_11
      have e_296 : μ5.1 70 4 = μ.1 70 4 := hs_12
      have e_297 : μ5.1 70 5 = μ.1 70 5 := hs_13
      have e_298 : μ5.1 70 6 = μ.1 70 6 := hs_14
      have e_299 : μ5.1 70 7 = μ.1 70 7 := hs_15
      have e_300 : μ5.1 32 10 = μ.1 32 10 := hs_17
      have e_301 : μ5.1 32 11 = μ.1 32 11 := hs_18
      have e_302 : μ5.1 32 12 = μ.1 32 12 := hs_19
      have e_303 : μ5.1 32 15 = μ.1 32 15 := hs_21
      have e_304 : μ5.1 32 16 = μ.1 32 16 := hs_22
      have hn_305 : 0 ≤ μ.1 45 4 ∧ 2 * μ.1 45 4 ≤ μ.2.1 51 := hI.nm.2.2.2.2.2.2.2.1
      have e_306 : μ5.1 45 4 = μ.1 45 4 := (F_7.1 45 (by decide) 4)
      refine xc_vV G (b := 32) (rest := []) (As := [.int (iv 3), .int (iv (x1 + 1))]) (c_X4_fails ω l μ5 3 (x1 + 1) S (by unfold ir; omega) (by unfold ir; omega) hI_8 (by omega) (by omega) (by omega) (by omega)) (wm 6 93 rfl rfl) (wm 6 95 rfl rfl) (wm 0 82 rfl rfl) rfl rfl (by decide) rfl (wm 1 14 rfl rfl) (wm 6 96 rfl rfl) (by decide) hR (by decide) (n := 2) rfl rfl (Nat.le_of_ble_eq_true rfl) hl.1 dX4_callHeld_78 (fun μ307 ρ d0 H locs hp G => ?_)
      obtain ⟨F_308, hI_309, hp_310, hp_311, hs_312, hs_313, hs_314, hs_315, hs_316, hs_317, hs_318, hs_319, hs_320, hs_321, hs_322, hs_323⟩ := hp
      have hk_324 := hI_309.row (r := 33) (by unfold isRow; decide)
      unfold rk at hk_324
      simp only [Int.reduceAdd] at hk_324
      have hn_325 : 0 ≤ μ307.1 45 1 ∧ 9 * μ307.1 45 1 ≤ μ307.2.1 46 := hI_309.nm.2.2.2.2.2.2.1
      refine lv_goto (tgt := 112) hx hb dX4_callHeld_81 (by decide) ?_
      have hn_e : μ307.1 52 7 = n := ((F_308.1 52 (by decide) 7).trans ((F_7.1 52 (by decide) 7).trans hn.symm))
      have e_326 : μ307.1 52 7 = n := ((F_308.1 52 (by decide) 7).trans ((F_7.1 52 (by decide) 7).trans hn.symm))
      have e_327 : μ307.1 32 12 = μ.1 32 12 := (hs_320.trans hs_19)
      have e_328 : μ307.1 32 10 = μ.1 32 10 := (hs_318.trans hs_17)
      have e_329 : μ307.1 32 10 = μ.1 32 10 := (hs_318.trans hs_17)
      have e_330 : μ307.1 52 7 = n := ((F_308.1 52 (by decide) 7).trans ((F_7.1 52 (by decide) 7).trans hn.symm))
      have e_331 : μ307.1 53 n = μ.1 53 n := ((F_308.1 53 (by decide) n).trans (F_7.1 53 (by decide) n))
      have e_332 : μ307.1 53 n = μ.1 53 n := ((F_308.1 53 (by decide) n).trans (F_7.1 53 (by decide) n))
      have e_333 : μ307.1 56 n = μ.1 56 n := ((F_308.1 56 (by decide) n).trans (F_7.1 56 (by decide) n))
      have e_334 : μ307.1 56 n = μ.1 56 n := ((F_308.1 56 (by decide) n).trans (F_7.1 56 (by decide) n))
      have e_335 : μ307.1 57 n = μ.1 57 n := ((F_308.1 57 (by decide) n).trans (F_7.1 57 (by decide) n))
      have e_336 : μ307.1 58 n = μ.1 58 n := ((F_308.1 58 (by decide) n).trans (F_7.1 58 (by decide) n))
      have e_337 : μ307.1 59 n = μ.1 59 n := ((F_308.1 59 (by decide) n).trans (F_7.1 59 (by decide) n))
      have e_338 : μ307.1 56 n = μ.1 56 n := ((F_308.1 56 (by decide) n).trans (F_7.1 56 (by decide) n))
      have h0_e : (μ307.1 52 7 = n ∧ ((μ307.1 33 3 ≤ max (S - (x1 + 1)) 0 + 1 ∧ μ307.1 32 13 = 0 ∧ μ307.1 32 12 = μ.1 32 12 ∧ μ307.1 32 10 = μ.1 32 10) ∨ (μ307.1 33 3 ≤ S + 1 ∧ (μ307.1 32 13 = 1 ∨ μ307.1 32 13 = 4) ∧ μ307.1 32 10 = μ.1 32 10))) ∨ (n < 24 ∧ μ307.1 52 7 = n + 1 ∧ μ307.1 32 13 = 0 ∧ 0 ≤ μ307.1 53 n ∧ μ307.1 53 n ≤ 3 ∧ S - x1 ≤ μ307.1 56 n ∧ μ307.1 56 n ≤ S - x1 + 1000 ∧ μ307.1 57 n = S - x1 - 1 ∧ μ307.1 58 n = μ.1 32 11 ∧ μ307.1 59 n = μ.1 60 6 ∧ μ307.1 33 3 = max (μ307.1 56 n) 0) := by
        rcases hp_310 with ⟨q1, q2, q3⟩ | ⟨q1, q2⟩
        · exact Or.inl ⟨by omega, Or.inl ⟨by omega, by omega, by omega, by omega⟩⟩
        · exact Or.inl ⟨by omega, Or.inr ⟨by omega, by omega, by omega⟩⟩
      have e_339 : μ307.1 70 1 = μ.1 70 1 := (hs_312.trans hs_10)
      have e_340 : μ307.1 70 3 = μ.1 70 3 := (hs_313.trans hs_11)
      have e_341 : μ307.1 70 4 = μ.1 70 4 := (hs_314.trans hs_12)
      have e_342 : μ307.1 70 6 = μ.1 70 6 := (hs_316.trans hs_14)
      have e_343 : μ307.1 32 11 = μ.1 32 11 := (hs_319.trans hs_18)
      have e_344 : μ307.1 32 15 = μ.1 32 15 := (hs_321.trans hs_21)
      have e_345 : μ307.1 32 16 = μ.1 32 16 := (hs_322.trans hs_22)
      have e_346 : μ307.1 45 4 = μ.1 45 4 := (hs_323.trans (F_7.1 45 (by decide) 4))
      exact xr_v G hret hlk dX4_callHeld_112 ⟨(Fr.tr (Fr.tr Fr.rf F_7 (by decide)) F_308 (by decide)), hI_309, h0_e, (fun h9 => absurd h9 (by omega)), (by omega), (fun j hj => ((F_308.1 53 (by decide) j).trans (F_7.1 53 (by decide) j))), (fun j hj => ((F_308.1 54 (by decide) j).trans (F_7.1 54 (by decide) j))), (fun j hj => ((F_308.1 55 (by decide) j).trans (F_7.1 55 (by decide) j))), (fun j hj => ((F_308.1 56 (by decide) j).trans (F_7.1 56 (by decide) j))), (fun j hj => ((F_308.1 57 (by decide) j).trans (F_7.1 57 (by decide) j))), (fun j hj => ((F_308.1 58 (by decide) j).trans (F_7.1 58 (by decide) j))), (fun j hj => ((F_308.1 59 (by decide) j).trans (F_7.1 59 (by decide) j))), (by omega), (by omega), (by omega), (by omega), (by omega), (by omega), (by omega), (by omega)⟩
  · have hn_e : μ5.1 52 7 = n := ((F_7.1 52 (by decide) 7).trans hn.symm)
    have e_347 : μ5.1 52 7 = n := ((F_7.1 52 (by decide) 7).trans hn.symm)
    have e_348 : μ5.1 33 3 = S := ((F_7.1 33 (by decide) 3).trans hS.symm)
    have e_349 : μ5.1 32 12 = μ.1 32 12 := hs_19
    have e_350 : μ5.1 32 10 = μ.1 32 10 := hs_17
    have e_351 : μ5.1 33 3 = S := ((F_7.1 33 (by decide) 3).trans hS.symm)
    have e_352 : μ5.1 32 10 = μ.1 32 10 := hs_17
    have e_353 : μ5.1 52 7 = n := ((F_7.1 52 (by decide) 7).trans hn.symm)
    have e_354 : μ5.1 53 n = μ.1 53 n := (F_7.1 53 (by decide) n)
    have e_355 : μ5.1 53 n = μ.1 53 n := (F_7.1 53 (by decide) n)
    have e_356 : μ5.1 56 n = μ.1 56 n := (F_7.1 56 (by decide) n)
    have e_357 : μ5.1 56 n = μ.1 56 n := (F_7.1 56 (by decide) n)
    have e_358 : μ5.1 57 n = μ.1 57 n := (F_7.1 57 (by decide) n)
    have e_359 : μ5.1 58 n = μ.1 58 n := (F_7.1 58 (by decide) n)
    have e_360 : μ5.1 59 n = μ.1 59 n := (F_7.1 59 (by decide) n)
    have e_361 : μ5.1 33 3 = S := ((F_7.1 33 (by decide) 3).trans hS.symm)
    have e_362 : μ5.1 56 n = μ.1 56 n := (F_7.1 56 (by decide) n)
    have h0_e : (μ5.1 52 7 = n ∧ ((μ5.1 33 3 ≤ max (S - (x1 + 1)) 0 + 1 ∧ μ5.1 32 13 = 0 ∧ μ5.1 32 12 = μ.1 32 12 ∧ μ5.1 32 10 = μ.1 32 10) ∨ (μ5.1 33 3 ≤ S + 1 ∧ (μ5.1 32 13 = 1 ∨ μ5.1 32 13 = 4) ∧ μ5.1 32 10 = μ.1 32 10))) ∨ (n < 24 ∧ μ5.1 52 7 = n + 1 ∧ μ5.1 32 13 = 0 ∧ 0 ≤ μ5.1 53 n ∧ μ5.1 53 n ≤ 3 ∧ S - x1 ≤ μ5.1 56 n ∧ μ5.1 56 n ≤ S - x1 + 1000 ∧ μ5.1 57 n = S - x1 - 1 ∧ μ5.1 58 n = μ.1 32 11 ∧ μ5.1 59 n = μ.1 60 6 ∧ μ5.1 33 3 = max (μ5.1 56 n) 0) := by
      exact Or.inl ⟨by omega, Or.inr ⟨by omega, by omega, by omega⟩⟩
    have e_363 : μ5.1 45 1 = μ.1 45 1 := (F_7.1 45 (by decide) 1)
    have e_364 : μ5.1 70 1 = μ.1 70 1 := hs_10
    have e_365 : μ5.1 70 3 = μ.1 70 3 := hs_11
    have e_366 : μ5.1 70 4 = μ.1 70 4 := hs_12
    have e_367 : μ5.1 70 6 = μ.1 70 6 := hs_14
    have e_368 : μ5.1 32 11 = μ.1 32 11 := hs_18
    have e_369 : μ5.1 32 15 = μ.1 32 15 := hs_21
    have e_370 : μ5.1 32 16 = μ.1 32 16 := hs_22
    have e_371 : μ5.1 45 4 = μ.1 45 4 := (F_7.1 45 (by decide) 4)
    exact xr_v G hret hlk dX4_callHeld_7 ⟨(Fr.tr Fr.rf F_7 (by decide)), hI_8, h0_e, (fun h9 => absurd h9 (by omega)), (by omega), (fun j hj => (F_7.1 53 (by decide) j)), (fun j hj => (F_7.1 54 (by decide) j)), (fun j hj => (F_7.1 55 (by decide) j)), (fun j hj => (F_7.1 56 (by decide) j)), (fun j hj => (F_7.1 57 (by decide) j)), (fun j hj => (F_7.1 58 (by decide) j)), (fun j hj => (F_7.1 59 (by decide) j)), (by omega), (by omega), (by omega), (by omega), (by omega), (by omega), (by omega), (by omega)⟩
