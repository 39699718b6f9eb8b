abbrev cX9_resize : ByteArray := prog_11_method_7_code
def yX9_resize : MethodName := ⟨RX9, "resize", "(I)V"⟩
theorem dX9_resize_0 : decode cX9_resize 0 = .ok (.iload_n 1, 1) := by decide +kernel
theorem dX9_resize_1 : decode cX9_resize 1 = .ok (.iconst 0, 1) := by decide +kernel
theorem dX9_resize_2 : decode cX9_resize 2 = .ok (.invokestatic 13, 3) := by decide +kernel
theorem dX9_resize_5 : decode cX9_resize 5 = .ok (.istore_n 2, 1) := by decide +kernel
theorem dX9_resize_6 : decode cX9_resize 6 = .ok (.iload_n 2, 1) := by decide +kernel
theorem dX9_resize_7 : decode cX9_resize 7 = .ok (.aload_n 0, 1) := by decide +kernel
theorem dX9_resize_8 : decode cX9_resize 8 = .ok (.getfield 19, 3) := by decide +kernel
theorem dX9_resize_11 : decode cX9_resize 11 = .ok (.arraylength, 1) := by decide +kernel
theorem dX9_resize_12 : decode cX9_resize 12 = .ok (.if_icmp .le 51, 3) := by decide +kernel
theorem dX9_resize_15 : decode cX9_resize 15 = .ok (.iload_n 2, 1) := by decide +kernel
theorem dX9_resize_16 : decode cX9_resize 16 = .ok (.iconst 2, 1) := by decide +kernel
theorem dX9_resize_17 : decode cX9_resize 17 = .ok (.aload_n 0, 1) := by decide +kernel
theorem dX9_resize_18 : decode cX9_resize 18 = .ok (.getfield 19, 3) := by decide +kernel
theorem dX9_resize_21 : decode cX9_resize 21 = .ok (.arraylength, 1) := by decide +kernel
theorem dX9_resize_22 : decode cX9_resize 22 = .ok (.imul, 1) := by decide +kernel
theorem dX9_resize_23 : decode cX9_resize 23 = .ok (.invokestatic 13, 3) := by decide +kernel
theorem dX9_resize_26 : decode cX9_resize 26 = .ok (.istore_n 3, 1) := by decide +kernel
theorem dX9_resize_27 : decode cX9_resize 27 = .ok (.aload_n 0, 1) := by decide +kernel
theorem dX9_resize_28 : decode cX9_resize 28 = .ok (.aload_n 0, 1) := by decide +kernel
theorem dX9_resize_29 : decode cX9_resize 29 = .ok (.getfield 19, 3) := by decide +kernel
theorem dX9_resize_32 : decode cX9_resize 32 = .ok (.iload_n 3, 1) := by decide +kernel
theorem dX9_resize_33 : decode cX9_resize 33 = .ok (.invokestatic 35, 3) := by decide +kernel
theorem dX9_resize_36 : decode cX9_resize 36 = .ok (.putfield 19, 3) := by decide +kernel
theorem dX9_resize_39 : decode cX9_resize 39 = .ok (.aload_n 0, 1) := by decide +kernel
theorem dX9_resize_40 : decode cX9_resize 40 = .ok (.aload_n 0, 1) := by decide +kernel
theorem dX9_resize_41 : decode cX9_resize 41 = .ok (.getfield 23, 3) := by decide +kernel
theorem dX9_resize_44 : decode cX9_resize 44 = .ok (.iload_n 3, 1) := by decide +kernel
theorem dX9_resize_45 : decode cX9_resize 45 = .ok (.invokestatic 41, 3) := by decide +kernel
theorem dX9_resize_48 : decode cX9_resize 48 = .ok (.putfield 23, 3) := by decide +kernel
theorem dX9_resize_51 : decode cX9_resize 51 = .ok (.aload_n 0, 1) := by decide +kernel
theorem dX9_resize_52 : decode cX9_resize 52 = .ok (.aload_n 0, 1) := by decide +kernel
theorem dX9_resize_53 : decode cX9_resize 53 = .ok (.getfield 27, 3) := by decide +kernel
theorem dX9_resize_56 : decode cX9_resize 56 = .ok (.iload_n 3, 1) := by decide +kernel
theorem dX9_resize_57 : decode cX9_resize 57 = .ok (.invokestatic 44, 3) := by decide +kernel
theorem dX9_resize_60 : decode cX9_resize 60 = .ok (.putfield 27, 3) := by decide +kernel
theorem dX9_resize_63 : decode cX9_resize 63 = .ok (.aload_n 0, 1) := by decide +kernel
theorem dX9_resize_64 : decode cX9_resize 64 = .ok (.getfield 7, 3) := by decide +kernel
theorem dX9_resize_67 : decode cX9_resize 67 = .ok (.istore_n 3, 1) := by decide +kernel
theorem dX9_resize_68 : decode cX9_resize 68 = .ok (.iload_n 3, 1) := by decide +kernel
theorem dX9_resize_69 : decode cX9_resize 69 = .ok (.iload_n 2, 1) := by decide +kernel
theorem dX9_resize_70 : decode cX9_resize 70 = .ok (.if_icmp .ge 30, 3) := by decide +kernel
theorem dX9_resize_73 : decode cX9_resize 73 = .ok (.aload_n 0, 1) := by decide +kernel
theorem dX9_resize_74 : decode cX9_resize 74 = .ok (.getfield 19, 3) := by decide +kernel
theorem dX9_resize_77 : decode cX9_resize 77 = .ok (.iload_n 3, 1) := by decide +kernel
theorem dX9_resize_78 : decode cX9_resize 78 = .ok (.iconst 0, 1) := by decide +kernel
theorem dX9_resize_79 : decode cX9_resize 79 = .ok (.iastore, 1) := by decide +kernel
theorem dX9_resize_80 : decode cX9_resize 80 = .ok (.aload_n 0, 1) := by decide +kernel
theorem dX9_resize_81 : decode cX9_resize 81 = .ok (.getfield 23, 3) := by decide +kernel
theorem dX9_resize_84 : decode cX9_resize 84 = .ok (.iload_n 3, 1) := by decide +kernel
theorem dX9_resize_85 : decode cX9_resize 85 = .ok (.lconst 0, 1) := by decide +kernel
theorem dX9_resize_86 : decode cX9_resize 86 = .ok (.lastore, 1) := by decide +kernel
theorem dX9_resize_87 : decode cX9_resize 87 = .ok (.aload_n 0, 1) := by decide +kernel
theorem dX9_resize_88 : decode cX9_resize 88 = .ok (.getfield 27, 3) := by decide +kernel
theorem dX9_resize_91 : decode cX9_resize 91 = .ok (.iload_n 3, 1) := by decide +kernel
theorem dX9_resize_92 : decode cX9_resize 92 = .ok (.dconst 0, 1) := by decide +kernel
theorem dX9_resize_93 : decode cX9_resize 93 = .ok (.dastore, 1) := by decide +kernel
theorem dX9_resize_94 : decode cX9_resize 94 = .ok (.iinc 3 1, 3) := by decide +kernel
theorem dX9_resize_97 : decode cX9_resize 97 = .ok (.goto (-29), 3) := by decide +kernel
theorem dX9_resize_100 : decode cX9_resize 100 = .ok (.aload_n 0, 1) := by decide +kernel
theorem dX9_resize_101 : decode cX9_resize 101 = .ok (.iload_n 2, 1) := by decide +kernel
theorem dX9_resize_102 : decode cX9_resize 102 = .ok (.putfield 7, 3) := by decide +kernel
theorem dX9_resize_105 : decode cX9_resize 105 = .ok (.return_, 1) := by decide +kernel
set_option maxHeartbeats 4000000 in
set_option maxRecDepth 100000 in
theorem c_X9_resize (ω : Om) (l : Launch) (μ : M3) (q : Int) (x1 : Int) (hrw : isRow q) (hx1 : ir x1) (hI : IC μ) (hbr : x1 ≤ BR q) : CtV ω l yX9_resize cX9_resize 4 2 102 [.ref (oP ω q), .int (iv x1)] μ (fun (μ' : M3) => (Fr [q, q + 1, q + 2, q + 3] μ μ') ∧ (IC μ') ∧ (μ'.1 q 3 = max x1 0)) := by
  refine CtV.go (by decide) (Nat.le_of_ble_eq_true rfl) (fun ρ p e s m below meth c R ls G hR hret hlk hl => ?_)
  have hx := G.1.1
  have hb := G.1.2.1
  have hl : lv_has ls 4 [(0, .ref (oP ω q)), (1, .int (iv x1))] := hl
  generalize s.drawn = d0 at G ⊢
  have hr_x1 : -2147483648 ≤ x1 ∧ x1 ≤ 2147483647 := hx1
  have hrw_nn := hrw.nn
  have hk_1 := hI.row (r := q) hrw
  unfold rk at hk_1
  refine lv_iload_n hx hb dX9_resize_0 rfl (lv_at hl 1 rfl) ?_
  refine lv_iconst (v := iv 0) hx hb dX9_resize_1 rfl ?_
  refine xm_max G (x := x1) (y := 0) (wm 1 147 rfl rfl) (wm 1 148 rfl rfl) (wm 1 11 rfl rfl) (wm 1 149 rfl rfl) hR (by decide) (by decide) hl.1 (by unfold ir; omega) (by unfold ir; omega) dX9_resize_2 ?_
  obtain ⟨to9, eto⟩ : ∃ z : Int, z = max x1 0 := ⟨_, rfl⟩
  refine xb_ti (y := to9) eto.symm ?_
  have hbr9 := hrw.br
  have hto : 0 ≤ to9 ∧ to9 ≤ BR q ∧ x1 ≤ to9 := by omega
  refine lv_istore_n (lv' := [(2, .int (iv to9)), (0, .ref (oP ω q)), (1, .int (iv x1))]) hx hb dX9_resize_5 rfl hl (by decide) rfl (fun ls hl => ?_)
  refine lv_iload_n hx hb dX9_resize_6 rfl (lv_at hl 0 rfl) ?_
  refine lv_aload_n hx hb dX9_resize_7 rfl (lv_at hl 1 rfl) ?_
  refine xa_getr G fd_X9 (a := q) (x := q + 1) 0 hrw.ly (by decide) rfl (wm 1 150 rfl rfl) ⟨rfl, rfl, rfl⟩ dX9_resize_8 (hrw.hq ω ρ) (G.sr hrw.s0) (by omega) (hrw.hq1 ω ρ) ?_
  refine xa_alen G (a := q + 1) (t := 0) hrw.ly1 (by decide) dX9_resize_11 (hrw.hq1 ω ρ) ?_
  have hr_2 : -2147483648 ≤ μ.2.1 (q + 1) ∧ μ.2.1 (q + 1) ≤ 2147483647 := by have h9 := G.ln (q + 1); omega
  refine xb_icmp_le (tgt := 63) hx hb (by unfold ir; omega) (by unfold ir; omega) dX9_resize_12 (by decide) (fun c_12 => ?_) (fun c_12 => ?_)
  · refine lv_aload_n hx hb dX9_resize_63 rfl (lv_at hl 1 rfl) ?_
    refine xa_geti G fd_X9 (a := q) (x := μ.1 q 3) 3 hrw.ly (by decide) rfl (wm 1 153 rfl rfl) ⟨rfl, rfl, rfl⟩ dX9_resize_64 (hrw.hq ω ρ) rfl ?_
    have hr_3 : -2147483648 ≤ μ.1 q 3 ∧ μ.1 q 3 ≤ 2147483647 := by have h9 := G.hr (a := q) (k := 3) hrw.tz; exact h9
    refine lv_istore_n (lv' := [(3, .int (iv (μ.1 q 3))), (2, .int (iv to9)), (0, .ref (oP ω q)), (1, .int (iv x1))]) hx hb dX9_resize_67 rfl hl (by decide) rfl (fun ls hl => ?_)
    have hL1 : μ.2.1 (q + 1) = μ.2.1 (q + 1) := rfl
    have hL2 : μ.2.1 (q + 2) = μ.2.1 (q + 1) := by omega
    have hL3 : μ.2.1 (q + 3) = μ.2.1 (q + 1) := by omega
    have hRM : RM μ := hI.rm
    have hN9 : to9 ≤ μ.2.1 (q + 1) ∧ μ.2.1 (q + 1) ≤ 480264 ∧ 16 ≤ μ.2.1 (q + 1) ∧ μ.1 q 3 ≤ μ.2.1 (q + 1) := by have h7 := (hI.rm.1 _ hrw.cap.1).2; have h7 : μ.2.1 (q + 1) ≤ 2 * BR q + 64 := h7; omega
    refine xl (fun n_9 μ' ls => ∃ (i9 : Int), (Fr [q + 1, q + 2, q + 3] μ μ') ∧ (-2147483648 ≤ i9 ∧ i9 ≤ 2147483647) ∧ (0 ≤ i9) ∧ (i9 ≤ 480264) ∧ (μ'.2 = μ.2) ∧ n_9 = Int.toNat (to9 - i9) ∧ lv_has ls 4 [(3, .int (iv i9)), (2, .int (iv to9)), (0, .ref (oP ω q)), (1, .int (iv x1))]) (fun n_9 ρ μL4 d0 H locs ls hI_l G ih => ?_) _ _ _ _ _ _ _ ⟨μ.1 q 3, Fr.rf, (by omega), (by omega), (by omega), rfl, rfl, lv_sub hl [0, 1, 2, 3] rfl⟩ G
    obtain ⟨i9, FL5, hi_7, hi_8, hi_9, hi_10, hn6, hl⟩ := hI_l
    have hme : μL4.2 = μ.2 := hi_10
    have hl1 : μL4.2.1 (q + 1) = μ.2.1 (q + 1) := by rw [hme, hL1]
    have hl2 : μL4.2.1 (q + 2) = μ.2.1 (q + 1) := by rw [hme, hL2]
    have hl3 : μL4.2.1 (q + 3) = μ.2.1 (q + 1) := by rw [hme, hL3]
    refine lv_iload_n hx hb dX9_resize_68 rfl (lv_at hl 0 rfl) ?_
    refine lv_iload_n hx hb dX9_resize_69 rfl (lv_at hl 1 rfl) ?_
    refine xb_icmp_ge (tgt := 100) hx hb (by unfold ir; omega) (by unfold ir; omega) dX9_resize_70 (by decide) (fun c_70 => ?_) (fun c_70 => ?_)
    · refine lv_aload_n hx hb dX9_resize_100 rfl (lv_at hl 2 rfl) ?_
      refine lv_iload_n hx hb dX9_resize_101 rfl (lv_at hl 1 rfl) ?_
      refine xa_puti G fd_X9 (a := q) (x := to9) 3 (kz := 3) rfl hrw.ly (by decide) rfl (by unfold ir; omega) (wm 1 153 rfl rfl) ⟨rfl, rfl, rfl, rfl⟩ rfl dX9_resize_102 (hrw.hq ω ρ) (fun H locs G => ?_)
      have hk9 : rk (sv μL4 q 3 to9) q := by
        unfold rk; rw [sv_s]; show 0 ≤ to9 ∧ to9 ≤ μL4.2.1 (q + 1) ∧ μL4.2.1 (q + 2) = μL4.2.1 (q + 1) ∧ μL4.2.1 (q + 3) = μL4.2.1 (q + 1) ∧ 16 ≤ μL4.2.1 (q + 1) ∧ to9 ≤ BR q; omega
      exact xr_v G hret hlk dX9_resize_105 ⟨(Fr.put (Fr.tr Fr.rf FL5 (by simp)) (by simp)), (hI.res hrw (Fr.put (Fr.tr Fr.rf FL5 (by simp)) (by simp)) hk9 (hRM.same (by exact hme))), ((sv_s _ _ _ _).trans eto)⟩
    · refine lv_aload_n hx hb dX9_resize_73 rfl (lv_at hl 2 rfl) ?_
      refine xa_getr G fd_X9 (a := q) (x := q + 1) 0 hrw.ly (by decide) rfl (wm 1 150 rfl rfl) ⟨rfl, rfl, rfl⟩ dX9_resize_74 (hrw.hq ω ρ) (G.sr hrw.s0) (by omega) (hrw.hq1 ω ρ) ?_
      refine lv_iload_n hx hb dX9_resize_77 rfl (lv_at hl 0 rfl) ?_
      refine lv_iconst (v := iv 0) hx hb dX9_resize_78 rfl ?_
      refine xa_iast G (a := q + 1) (i := i9) (x := 0) hrw.ly1 (by have h9 : μL4.2.1 (q + 1) = μ.2.1 (q + 1) := hl1; omega) (by unfold ir; omega) dX9_resize_79 (hrw.hq1 ω ρ) (fun H locs G => ?_)
      refine lv_aload_n hx hb dX9_resize_80 rfl (lv_at hl 2 rfl) ?_
      refine xa_getr G fd_X9 (a := q) (x := q + 2) 1 hrw.ly (by decide) rfl (wm 1 151 rfl rfl) ⟨rfl, rfl, rfl⟩ dX9_resize_81 (hrw.hq ω ρ) (G.sr hrw.s1) (by omega) (hrw.hq2 ω ρ) ?_
      refine lv_iload_n hx hb dX9_resize_84 rfl (lv_at hl 0 rfl) ?_
      refine lv_lconst (v := jv 0) hx hb dX9_resize_85 rfl ?_
      refine xa_last G (a := q + 2) (i := i9) (x := 0) hrw.ly2 (by have h9 : (sv μL4 (q + 1) i9 0).2.1 (q + 2) = μ.2.1 (q + 1) := hl2; omega) (by unfold jr; omega) dX9_resize_86 (hrw.hq2 ω ρ) (fun H locs G => ?_)
      refine lv_aload_n hx hb dX9_resize_87 rfl (lv_at hl 2 rfl) ?_
      refine xa_getr G fd_X9 (a := q) (x := q + 3) 2 hrw.ly (by decide) rfl (wm 1 152 rfl rfl) ⟨rfl, rfl, rfl⟩ dX9_resize_88 (hrw.hq ω ρ) (G.sr hrw.s2) (by omega) (hrw.hq3 ω ρ) ?_
      refine lv_iload_n hx hb dX9_resize_91 rfl (lv_at hl 0 rfl) ?_
      refine lv_dconst0 hx hb dX9_resize_92 ?_
      refine xb_topd (fun dd_11 he_dd_11 => ?_)
      refine xa_dast G (a := q + 3) (i := i9) (x := dd_11) hrw.ly3 (by have h9 : (sv (sv μL4 (q + 1) i9 0) (q + 2) i9 0).2.1 (q + 3) = μ.2.1 (q + 1) := hl3; omega) trivial dX9_resize_93 (hrw.hq3 ω ρ) (fun H locs G => ?_)
      refine lv_iinc (v := iv (i9 + 1)) (lv' := [(3, .int (iv (i9 + 1))), (2, .int (iv to9)), (0, .ref (oP ω q)), (1, .int (iv x1))]) hx hb dX9_resize_94 hl (k := 0) rfl (by rw [show Int32.ofInt 1 = iv 1 from rfl, iv_add]) (by decide) rfl (fun ls hl => ?_)
      refine lv_goto (tgt := 68) hx hb dX9_resize_97 (by decide) ?_
      exact ih _ _ _ _ _ _ _ (by omega) ⟨i9 + 1, (Fr.put (Fr.put (Fr.put FL5 (by simp)) (by simp)) (by simp)), (by omega), (by omega), (by omega), (by exact hme), rfl, lv_sub hl [0, 1, 2, 3] rfl⟩ G
  · refine lv_iload_n hx hb dX9_resize_15 rfl (lv_at hl 0 rfl) ?_
    refine lv_iconst (v := iv 2) hx hb dX9_resize_16 rfl ?_
    refine lv_aload_n hx hb dX9_resize_17 rfl (lv_at hl 1 rfl) ?_
    refine xa_getr G fd_X9 (a := q) (x := q + 1) 0 hrw.ly (by decide) rfl (wm 1 150 rfl rfl) ⟨rfl, rfl, rfl⟩ dX9_resize_18 (hrw.hq ω ρ) (G.sr hrw.s0) (by omega) (hrw.hq1 ω ρ) ?_
    refine xa_alen G (a := q + 1) (t := 0) hrw.ly1 (by decide) dX9_resize_21 (hrw.hq1 ω ρ) ?_
    refine xb_imul hx hb dX9_resize_22 ?_
    refine xm_max G (x := to9) (y := 2 * (μ.2.1 (q + 1))) (wm 1 147 rfl rfl) (wm 1 148 rfl rfl) (wm 1 11 rfl rfl) (wm 1 149 rfl rfl) hR (by decide) (by decide) hl.1 (by unfold ir; omega) (by unfold ir; omega) dX9_resize_23 ?_
    obtain ⟨xn, exn⟩ : ∃ z : Int, z = max to9 (2 * μ.2.1 (q + 1)) := ⟨_, rfl⟩
    refine xb_ti (y := xn) exn.symm ?_
    have hgr : μ.2.1 (q + 1) < to9 := by omega
    have hxn : to9 ≤ xn ∧ 2 * μ.2.1 (q + 1) ≤ xn ∧ xn ≤ 2 * BR q ∧ xn ≤ 480200 := by omega
    refine lv_istore_n (lv' := [(3, .int (iv xn)), (2, .int (iv to9)), (0, .ref (oP ω q)), (1, .int (iv x1))]) hx hb dX9_resize_26 rfl hl (by decide) rfl (fun ls hl => ?_)
    refine lv_aload_n hx hb dX9_resize_27 rfl (lv_at hl 2 rfl) ?_
    refine lv_aload_n hx hb dX9_resize_28 rfl (lv_at hl 2 rfl) ?_
    refine xa_getr G fd_X9 (a := q) (x := q + 1) 0 hrw.ly (by decide) rfl (wm 1 150 rfl rfl) ⟨rfl, rfl, rfl⟩ dX9_resize_29 (hrw.hq ω ρ) (G.sr hrw.s0) (by omega) (hrw.hq1 ω ρ) ?_
    refine lv_iload_n hx hb dX9_resize_32 rfl (lv_at hl 0 rfl) ?_
    have hrm_142 : 2 * μ.2.1 (q + 1) ≤ xn ∧ xn ≤ 2 * BR q + 64 ∧ μ.2.1 (q + 1) < xn := by have h9 : μ.2.1 (q + 1) = μ.2.1 (q + 1) := rfl; omega
    refine xg_int (pc := 33) G fd_X9 (a := q) (b := q + 1) (n := xn) 0 hrw.ly (by decide) rfl (hrw.hq ω ρ) (G.sr hrw.s0) hrw.ly1 hrw.z.1 hrw.u0 hrw.n.1 (by omega) (hI.rm.roomy hrw.cap.1 hrm_142.1 hrm_142.2.1) (wm 3 18 rfl rfl) (wm 3 19 rfl rfl) (wm 1 8 rfl rfl) hR (by decide) (wm 1 150 rfl rfl) ⟨rfl, rfl, rfl, rfl⟩ rfl hl.1 (by decide) dX9_resize_33 dX9_resize_36 (fun ρ f_12 H locs hf_13 G => ?_)
    have hrm_14 : RM (gro μ (q + 1) xn f_12) := hI.rm.gro hrw.cap.1 hrm_142.1 hrm_142.2.1
    refine lv_aload_n hx hb dX9_resize_39 rfl (lv_at hl 2 rfl) ?_
    refine lv_aload_n hx hb dX9_resize_40 rfl (lv_at hl 2 rfl) ?_
    refine xa_getr G fd_X9 (a := q) (x := q + 2) 1 hrw.ly (by decide) rfl (wm 1 151 rfl rfl) ⟨rfl, rfl, rfl⟩ dX9_resize_41 (hrw.hq ω ρ) (G.sr hrw.s1) (by omega) (hrw.hq2 ω ρ) ?_
    refine lv_iload_n hx hb dX9_resize_44 rfl (lv_at hl 0 rfl) ?_
    have hrm_172 : 2 * (gro μ (q + 1) xn f_12).2.1 (q + 2) ≤ xn ∧ xn ≤ 2 * BR q + 64 ∧ (gro μ (q + 1) xn f_12).2.1 (q + 2) < xn := by have h9 : (gro μ (q + 1) xn f_12).2.1 (q + 2) = μ.2.1 (q + 2) := (gro_lo (f := f_12) μ (by omega)); omega
    refine xg_long (pc := 45) G fd_X9 (a := q) (b := q + 2) (n := xn) 1 hrw.ly (by decide) rfl (hrw.hq ω ρ) (G.sr hrw.s1) hrw.ly2 hrw.z.2.1 hrw.u1 hrw.n.2.1 (by omega) (hrm_14.roomy hrw.cap.2.1 hrm_172.1 hrm_172.2.1) (wm 3 32 rfl rfl) (wm 3 33 rfl rfl) (wm 1 8 rfl rfl) hR (by decide) (wm 1 151 rfl rfl) ⟨rfl, rfl, rfl, rfl⟩ rfl hl.1 (by decide) dX9_resize_45 dX9_resize_48 (fun ρ f_15 H locs hf_16 G => ?_)
    have hrm_17 : RM (gro (gro μ (q + 1) xn f_12) (q + 2) xn f_15) := hrm_14.gro hrw.cap.2.1 hrm_172.1 hrm_172.2.1
    refine lv_aload_n hx hb dX9_resize_51 rfl (lv_at hl 2 rfl) ?_
    refine lv_aload_n hx hb dX9_resize_52 rfl (lv_at hl 2 rfl) ?_
    refine xa_getr G fd_X9 (a := q) (x := q + 3) 2 hrw.ly (by decide) rfl (wm 1 152 rfl rfl) ⟨rfl, rfl, rfl⟩ dX9_resize_53 (hrw.hq ω ρ) (G.sr hrw.s2) (by omega) (hrw.hq3 ω ρ) ?_
    refine lv_iload_n hx hb dX9_resize_56 rfl (lv_at hl 0 rfl) ?_
    have hrm_202 : 2 * (gro (gro μ (q + 1) xn f_12) (q + 2) xn f_15).2.1 (q + 3) ≤ xn ∧ xn ≤ 2 * BR q + 64 ∧ (gro (gro μ (q + 1) xn f_12) (q + 2) xn f_15).2.1 (q + 3) < xn := by have h9 : (gro (gro μ (q + 1) xn f_12) (q + 2) xn f_15).2.1 (q + 3) = μ.2.1 (q + 3) := ((gro_lo (f := f_15) (gro μ (q + 1) xn f_12) (by omega)).trans (gro_lo (f := f_12) μ (by omega))); omega
    refine xg_double (pc := 57) G fd_X9 (a := q) (b := q + 3) (n := xn) 2 hrw.ly (by decide) rfl (hrw.hq ω ρ) (G.sr hrw.s2) hrw.ly3 hrw.z.2.2 hrw.u2 hrw.n.2.2 (by omega) (hrm_17.roomy hrw.cap.2.2 hrm_202.1 hrm_202.2.1) (wm 3 40 rfl rfl) (wm 3 41 rfl rfl) (wm 1 8 rfl rfl) hR (by decide) (wm 1 152 rfl rfl) ⟨rfl, rfl, rfl, rfl⟩ rfl hl.1 (by decide) dX9_resize_57 dX9_resize_60 (fun ρ f_18 H locs G => ?_)
    have hrm_20 : RM (gro (gro (gro μ (q + 1) xn f_12) (q + 2) xn f_15) (q + 3) xn f_18) := hrm_17.gro hrw.cap.2.2 hrm_202.1 hrm_202.2.1
    refine lv_aload_n hx hb dX9_resize_63 rfl (lv_at hl 2 rfl) ?_
    refine xa_geti G fd_X9 (a := q) (x := μ.1 q 3) 3 hrw.ly (by decide) rfl (wm 1 153 rfl rfl) ⟨rfl, rfl, rfl⟩ dX9_resize_64 (hrw.hq ω ρ) ((gro_o _ (by omega) _).trans ((gro_o _ (by omega) _).trans (gro_o _ (by omega) _))) ?_
    have hr_21 : -2147483648 ≤ μ.1 q 3 ∧ μ.1 q 3 ≤ 2147483647 := by have h9 := G.hr (a := q) (k := 3) hrw.tz; rw [show (gro (gro (gro μ (q + 1) xn f_12) (q + 2) xn f_15) (q + 3) xn f_18).1 q 3 = μ.1 q 3 from ((gro_o _ (by omega) _).trans ((gro_o _ (by omega) _).trans (gro_o _ (by omega) _)))] at h9; exact h9
    refine lv_istore_n (lv' := [(3, .int (iv (μ.1 q 3))), (2, .int (iv to9)), (0, .ref (oP ω q)), (1, .int (iv x1))]) hx hb dX9_resize_67 rfl hl (by decide) rfl (fun ls hl => ?_)
    have hL1 : (gro (gro (gro μ (q + 1) xn f_12) (q + 2) xn f_15) (q + 3) xn f_18).2.1 (q + 1) = xn := ((gro_lo (f := f_18) (gro (gro μ (q + 1) xn f_12) (q + 2) xn f_15) (by omega)).trans ((gro_lo (f := f_15) (gro μ (q + 1) xn f_12) (by omega)).trans (gro_ls μ (q + 1) xn f_12)))
    have hL2 : (gro (gro (gro μ (q + 1) xn f_12) (q + 2) xn f_15) (q + 3) xn f_18).2.1 (q + 2) = xn := ((gro_lo (f := f_18) (gro (gro μ (q + 1) xn f_12) (q + 2) xn f_15) (by omega)).trans (gro_ls (gro μ (q + 1) xn f_12) (q + 2) xn f_15))
    have hL3 : (gro (gro (gro μ (q + 1) xn f_12) (q + 2) xn f_15) (q + 3) xn f_18).2.1 (q + 3) = xn := (gro_ls (gro (gro μ (q + 1) xn f_12) (q + 2) xn f_15) (q + 3) xn f_18)
    have hRM : RM (gro (gro (gro μ (q + 1) xn f_12) (q + 2) xn f_15) (q + 3) xn f_18) := hrm_20
    have hN9 : to9 ≤ xn ∧ xn ≤ 480264 ∧ 16 ≤ xn ∧ μ.1 q 3 ≤ xn := by have h7 := (hI.rm.1 _ hrw.cap.1).2; have h7 : μ.2.1 (q + 1) ≤ 2 * BR q + 64 := h7; omega
    refine xl (fun n_9 μ' ls => ∃ (i9 : Int), (Fr [q + 1, q + 2, q + 3] (gro (gro (gro μ (q + 1) xn f_12) (q + 2) xn f_15) (q + 3) xn f_18) μ') ∧ (-2147483648 ≤ i9 ∧ i9 ≤ 2147483647) ∧ (0 ≤ i9) ∧ (i9 ≤ 480264) ∧ (μ'.2 = (gro (gro (gro μ (q + 1) xn f_12) (q + 2) xn f_15) (q + 3) xn f_18).2) ∧ n_9 = Int.toNat (to9 - i9) ∧ lv_has ls 4 [(3, .int (iv i9)), (2, .int (iv to9)), (0, .ref (oP ω q)), (1, .int (iv x1))]) (fun n_9 ρ μL22 d0 H locs ls hI_l G ih => ?_) _ _ _ _ _ _ _ ⟨μ.1 q 3, Fr.rf, (by omega), (by omega), (by omega), rfl, rfl, lv_sub hl [0, 1, 2, 3] rfl⟩ G
    obtain ⟨i9, FL23, hi_25, hi_26, hi_27, hi_28, hn24, hl⟩ := hI_l
    have hme : μL22.2 = (gro (gro (gro μ (q + 1) xn f_12) (q + 2) xn f_15) (q + 3) xn f_18).2 := hi_28
    have hl1 : μL22.2.1 (q + 1) = xn := by rw [hme, hL1]
    have hl2 : μL22.2.1 (q + 2) = xn := by rw [hme, hL2]
    have hl3 : μL22.2.1 (q + 3) = xn := by rw [hme, hL3]
    refine lv_iload_n hx hb dX9_resize_68 rfl (lv_at hl 0 rfl) ?_
    refine lv_iload_n hx hb dX9_resize_69 rfl (lv_at hl 1 rfl) ?_
    refine xb_icmp_ge (tgt := 100) hx hb (by unfold ir; omega) (by unfold ir; omega) dX9_resize_70 (by decide) (fun c_70 => ?_) (fun c_70 => ?_)
    · refine lv_aload_n hx hb dX9_resize_100 rfl (lv_at hl 2 rfl) ?_
      refine lv_iload_n hx hb dX9_resize_101 rfl (lv_at hl 1 rfl) ?_
      refine xa_puti G fd_X9 (a := q) (x := to9) 3 (kz := 3) rfl hrw.ly (by decide) rfl (by unfold ir; omega) (wm 1 153 rfl rfl) ⟨rfl, rfl, rfl, rfl⟩ rfl dX9_resize_102 (hrw.hq ω ρ) (fun H locs G => ?_)
      have hk9 : rk (sv μL22 q 3 to9) q := by
        unfold rk; rw [sv_s]; show 0 ≤ to9 ∧ to9 ≤ μL22.2.1 (q + 1) ∧ μL22.2.1 (q + 2) = μL22.2.1 (q + 1) ∧ μL22.2.1 (q + 3) = μL22.2.1 (q + 1) ∧ 16 ≤ μL22.2.1 (q + 1) ∧ to9 ≤ BR q; omega
      exact xr_v G hret hlk dX9_resize_105 ⟨(Fr.put (Fr.tr (Fr.gro (Fr.gro (Fr.gro Fr.rf (by simp)) (by simp)) (by simp)) FL23 (by simp)) (by simp)), (hI.res hrw (Fr.put (Fr.tr (Fr.gro (Fr.gro (Fr.gro Fr.rf (by simp)) (by simp)) (by simp)) FL23 (by simp)) (by simp)) hk9 (hRM.same (by exact hme))), ((sv_s _ _ _ _).trans eto)⟩
    · refine lv_aload_n hx hb dX9_resize_73 rfl (lv_at hl 2 rfl) ?_
      refine xa_getr G fd_X9 (a := q) (x := q + 1) 0 hrw.ly (by decide) rfl (wm 1 150 rfl rfl) ⟨rfl, rfl, rfl⟩ dX9_resize_74 (hrw.hq ω ρ) (G.sr hrw.s0) (by omega) (hrw.hq1 ω ρ) ?_
      refine lv_iload_n hx hb dX9_resize_77 rfl (lv_at hl 0 rfl) ?_
      refine lv_iconst (v := iv 0) hx hb dX9_resize_78 rfl ?_
      refine xa_iast G (a := q + 1) (i := i9) (x := 0) hrw.ly1 (by have h9 : μL22.2.1 (q + 1) = xn := hl1; omega) (by unfold ir; omega) dX9_resize_79 (hrw.hq1 ω ρ) (fun H locs G => ?_)
      refine lv_aload_n hx hb dX9_resize_80 rfl (lv_at hl 2 rfl) ?_
      refine xa_getr G fd_X9 (a := q) (x := q + 2) 1 hrw.ly (by decide) rfl (wm 1 151 rfl rfl) ⟨rfl, rfl, rfl⟩ dX9_resize_81 (hrw.hq ω ρ) (G.sr hrw.s1) (by omega) (hrw.hq2 ω ρ) ?_
      refine lv_iload_n hx hb dX9_resize_84 rfl (lv_at hl 0 rfl) ?_
      refine lv_lconst (v := jv 0) hx hb dX9_resize_85 rfl ?_
      refine xa_last G (a := q + 2) (i := i9) (x := 0) hrw.ly2 (by have h9 : (sv μL22 (q + 1) i9 0).2.1 (q + 2) = xn := hl2; omega) (by unfold jr; omega) dX9_resize_86 (hrw.hq2 ω ρ) (fun H locs G => ?_)
      refine lv_aload_n hx hb dX9_resize_87 rfl (lv_at hl 2 rfl) ?_
      refine xa_getr G fd_X9 (a := q) (x := q + 3) 2 hrw.ly (by decide) rfl (wm 1 152 rfl rfl) ⟨rfl, rfl, rfl⟩ dX9_resize_88 (hrw.hq ω ρ) (G.sr hrw.s2) (by omega) (hrw.hq3 ω ρ) ?_
      refine lv_iload_n hx hb dX9_resize_91 rfl (lv_at hl 0 rfl) ?_
      refine lv_dconst0 hx hb dX9_resize_92 ?_
      refine xb_topd (fun dd_29 he_dd_29 => ?_)
      refine xa_dast G (a := q + 3) (i := i9) (x := dd_29) hrw.ly3 (by have h9 : (sv (sv μL22 (q + 1) i9 0) (q + 2) i9 0).2.1 (q + 3) = xn := hl3; omega) trivial dX9_resize_93 (hrw.hq3 ω ρ) (fun H locs G => ?_)
      refine lv_iinc (v := iv (i9 + 1)) (lv' := [(3, .int (iv (i9 + 1))), (2, .int (iv to9)), (0, .ref (oP ω q)), (1, .int (iv x1))]) hx hb dX9_resize_94 hl (k := 0) rfl (by rw [show Int32.ofInt 1 = iv 1 from rfl, iv_add]) (by decide) rfl (fun ls hl => ?_)
      refine lv_goto (tgt := 68) hx hb dX9_resize_97 (by decide) ?_
      exact ih _ _ _ _ _ _ _ (by omega) ⟨i9 + 1, (Fr.put (Fr.put (Fr.put FL23 (by simp)) (by simp)) (by simp)), (by omega), (by omega), (by omega), (by exact hme), rfl, lv_sub hl [0, 1, 2, 3] rfl⟩ G
