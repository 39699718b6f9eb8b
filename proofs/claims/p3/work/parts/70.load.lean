abbrev cX11_load : ByteArray := prog_1_method_3_code
def yX11_load : MethodName := ⟨RX11, "load", "(II)I"⟩
abbrev cX11_call : ByteArray := prog_1_method_8_code
def yX11_call : MethodName := ⟨RX11, "call", "(IIJ)I"⟩
theorem dX11_load_0 : decode cX11_load 0 = .ok (.iload_n 1, 1) := by decide +kernel
theorem dX11_load_1 : decode cX11_load 1 = .ok (.invokestatic 67, 3) := by decide +kernel
theorem dX11_load_4 : decode cX11_load 4 = .ok (.ifCond .eq 15, 3) := by decide +kernel
theorem dX11_load_7 : decode cX11_load 7 = .ok (.iload_n 2, 1) := by decide +kernel
theorem dX11_load_8 : decode cX11_load 8 = .ok (.ifCond .lt 11, 3) := by decide +kernel
theorem dX11_load_11 : decode cX11_load 11 = .ok (.iload_n 2, 1) := by decide +kernel
theorem dX11_load_12 : decode cX11_load 12 = .ok (.aload_n 0, 1) := by decide +kernel
theorem dX11_load_13 : decode cX11_load 13 = .ok (.getfield 13, 3) := by decide +kernel
theorem dX11_load_16 : decode cX11_load 16 = .ok (.if_icmp .le 7, 3) := by decide +kernel
theorem dX11_load_19 : decode cX11_load 19 = .ok (.sipush (-5000), 3) := by decide +kernel
theorem dX11_load_22 : decode cX11_load 22 = .ok (.ireturn, 1) := by decide +kernel
theorem dX11_load_23 : decode cX11_load 23 = .ok (.aload_n 0, 1) := by decide +kernel
theorem dX11_load_24 : decode cX11_load 24 = .ok (.iconst 0, 1) := by decide +kernel
theorem dX11_load_25 : decode cX11_load 25 = .ok (.putfield 13, 3) := by decide +kernel
theorem dX11_load_28 : decode cX11_load 28 = .ok (.aload_n 0, 1) := by decide +kernel
theorem dX11_load_29 : decode cX11_load 29 = .ok (.getfield 23, 3) := by decide +kernel
theorem dX11_load_32 : decode cX11_load 32 = .ok (.invokevirtual 71, 3) := by decide +kernel
theorem dX11_load_35 : decode cX11_load 35 = .ok (.aload_n 0, 1) := by decide +kernel
theorem dX11_load_36 : decode cX11_load 36 = .ok (.getfield 50, 3) := by decide +kernel
theorem dX11_load_39 : decode cX11_load 39 = .ok (.iload_n 1, 1) := by decide +kernel
theorem dX11_load_40 : decode cX11_load 40 = .ok (.iload_n 2, 1) := by decide +kernel
theorem dX11_load_41 : decode cX11_load 41 = .ok (.aload_n 0, 1) := by decide +kernel
theorem dX11_load_42 : decode cX11_load 42 = .ok (.getfield 41, 3) := by decide +kernel
theorem dX11_load_45 : decode cX11_load 45 = .ok (.invokevirtual 74, 3) := by decide +kernel
theorem dX11_load_48 : decode cX11_load 48 = .ok (.aload_n 0, 1) := by decide +kernel
theorem dX11_load_49 : decode cX11_load 49 = .ok (.aload_n 0, 1) := by decide +kernel
theorem dX11_load_50 : decode cX11_load 50 = .ok (.getfield 50, 3) := by decide +kernel
theorem dX11_load_53 : decode cX11_load 53 = .ok (.invokevirtual 78, 3) := by decide +kernel
theorem dX11_load_56 : decode cX11_load 56 = .ok (.putfield 17, 3) := by decide +kernel
theorem dX11_load_59 : decode cX11_load 59 = .ok (.aload_n 0, 1) := by decide +kernel
theorem dX11_load_60 : decode cX11_load 60 = .ok (.getfield 17, 3) := by decide +kernel
theorem dX11_load_63 : decode cX11_load 63 = .ok (.ifCond .eq 21, 3) := by decide +kernel
theorem dX11_load_66 : decode cX11_load 66 = .ok (.aload_n 0, 1) := by decide +kernel
theorem dX11_load_67 : decode cX11_load 67 = .ok (.getfield 23, 3) := by decide +kernel
theorem dX11_load_70 : decode cX11_load 70 = .ok (.invokevirtual 81, 3) := by decide +kernel
theorem dX11_load_73 : decode cX11_load 73 = .ok (.aload_n 0, 1) := by decide +kernel
theorem dX11_load_74 : decode cX11_load 74 = .ok (.getfield 50, 3) := by decide +kernel
theorem dX11_load_77 : decode cX11_load 77 = .ok (.invokevirtual 84, 3) := by decide +kernel
theorem dX11_load_80 : decode cX11_load 80 = .ok (.ineg, 1) := by decide +kernel
theorem dX11_load_81 : decode cX11_load 81 = .ok (.iconst 1, 1) := by decide +kernel
theorem dX11_load_82 : decode cX11_load 82 = .ok (.isub, 1) := by decide +kernel
theorem dX11_load_83 : decode cX11_load 83 = .ok (.ireturn, 1) := by decide +kernel
theorem dX11_load_84 : decode cX11_load 84 = .ok (.aload_n 0, 1) := by decide +kernel
theorem dX11_load_85 : decode cX11_load 85 = .ok (.getfield 36, 3) := by decide +kernel
theorem dX11_load_88 : decode cX11_load 88 = .ok (.iload_n 1, 1) := by decide +kernel
theorem dX11_load_89 : decode cX11_load 89 = .ok (.aaload, 1) := by decide +kernel
theorem dX11_load_90 : decode cX11_load 90 = .ok (.astore_n 3, 1) := by decide +kernel
theorem dX11_load_91 : decode cX11_load 91 = .ok (.aload_n 0, 1) := by decide +kernel
theorem dX11_load_92 : decode cX11_load 92 = .ok (.getfield 36, 3) := by decide +kernel
theorem dX11_load_95 : decode cX11_load 95 = .ok (.iload_n 1, 1) := by decide +kernel
theorem dX11_load_96 : decode cX11_load 96 = .ok (.aload_n 0, 1) := by decide +kernel
theorem dX11_load_97 : decode cX11_load 97 = .ok (.getfield 41, 3) := by decide +kernel
theorem dX11_load_100 : decode cX11_load 100 = .ok (.aastore, 1) := by decide +kernel
theorem dX11_load_101 : decode cX11_load 101 = .ok (.aload_n 0, 1) := by decide +kernel
theorem dX11_load_102 : decode cX11_load 102 = .ok (.aload_n 3, 1) := by decide +kernel
theorem dX11_load_103 : decode cX11_load 103 = .ok (.putfield 41, 3) := by decide +kernel
theorem dX11_load_106 : decode cX11_load 106 = .ok (.aload_n 0, 1) := by decide +kernel
theorem dX11_load_107 : decode cX11_load 107 = .ok (.getfield 36, 3) := by decide +kernel
theorem dX11_load_110 : decode cX11_load 110 = .ok (.iload_n 1, 1) := by decide +kernel
theorem dX11_load_111 : decode cX11_load 111 = .ok (.aaload, 1) := by decide +kernel
theorem dX11_load_112 : decode cX11_load 112 = .ok (.invokevirtual 87, 3) := by decide +kernel
theorem dX11_load_115 : decode cX11_load 115 = .ok (.ireturn, 1) := by decide +kernel
theorem dX11_call_0 : decode cX11_call 0 = .ok (.iload_n 1, 1) := by decide +kernel
theorem dX11_call_1 : decode cX11_call 1 = .ok (.invokestatic 67, 3) := by decide +kernel
theorem dX11_call_4 : decode cX11_call 4 = .ok (.ifCond .eq 20, 3) := by decide +kernel
theorem dX11_call_7 : decode cX11_call 7 = .ok (.iload_n 2, 1) := by decide +kernel
theorem dX11_call_8 : decode cX11_call 8 = .ok (.ifCond .lt 16, 3) := by decide +kernel
theorem dX11_call_11 : decode cX11_call 11 = .ok (.iload_n 2, 1) := by decide +kernel
theorem dX11_call_12 : decode cX11_call 12 = .ok (.aload_n 0, 1) := by decide +kernel
theorem dX11_call_13 : decode cX11_call 13 = .ok (.getfield 36, 3) := by decide +kernel
theorem dX11_call_16 : decode cX11_call 16 = .ok (.iload_n 1, 1) := by decide +kernel
theorem dX11_call_17 : decode cX11_call 17 = .ok (.aaload, 1) := by decide +kernel
theorem dX11_call_18 : decode cX11_call 18 = .ok (.invokevirtual 87, 3) := by decide +kernel
theorem dX11_call_21 : decode cX11_call 21 = .ok (.if_icmp .lt 5, 3) := by decide +kernel
theorem dX11_call_24 : decode cX11_call 24 = .ok (.iconst 3, 1) := by decide +kernel
theorem dX11_call_25 : decode cX11_call 25 = .ok (.ireturn, 1) := by decide +kernel
theorem dX11_call_26 : decode cX11_call 26 = .ok (.iload_n 1, 1) := by decide +kernel
theorem dX11_call_27 : decode cX11_call 27 = .ok (.lload_n 3, 1) := by decide +kernel
theorem dX11_call_28 : decode cX11_call 28 = .ok (.invokestatic 109, 3) := by decide +kernel
theorem dX11_call_31 : decode cX11_call 31 = .ok (.ifCond .ne 5, 3) := by decide +kernel
theorem dX11_call_34 : decode cX11_call 34 = .ok (.iconst 4, 1) := by decide +kernel
theorem dX11_call_35 : decode cX11_call 35 = .ok (.ireturn, 1) := by decide +kernel
theorem dX11_call_36 : decode cX11_call 36 = .ok (.aload_n 0, 1) := by decide +kernel
theorem dX11_call_37 : decode cX11_call 37 = .ok (.getfield 59, 3) := by decide +kernel
theorem dX11_call_40 : decode cX11_call 40 = .ok (.iload_n 1, 1) := by decide +kernel
theorem dX11_call_41 : decode cX11_call 41 = .ok (.iload_n 2, 1) := by decide +kernel
theorem dX11_call_42 : decode cX11_call 42 = .ok (.lload_n 3, 1) := by decide +kernel
theorem dX11_call_43 : decode cX11_call 43 = .ok (.invokevirtual 115, 3) := by decide +kernel
theorem dX11_call_46 : decode cX11_call 46 = .ok (.ireturn, 1) := by decide +kernel
set_option maxHeartbeats 4000000 in
set_option maxRecDepth 100000 in
theorem c_X11_load (ω : Om) (l : Launch) (μ : M3) (x1 : Int) (x2 : Int) (hx1 : ir x1) (hx2 : ir x2) (hI : IC μ) (hCI : CI μ) : CtI ω l yX11_load cX11_load 4 .int 253 7170 [.ref (oP ω 0), .int (iv x1), .int (iv x2)] μ (fun (r : Int) (μ' : M3) => (Fr [0, 2, 3, 4, 5, 12, 23, 24, 25, 26, 28, 29, 30, 31, 13, 14, 15, 16, 17, 18, 19, 20, 21, 22, 71, 72, 73, 74, 75, 76, 77, 78, 79, 80, 81, 82, 83, 84, 85, 86, 87, 88, 89, 90, 91, 92, 93, 94, 95, 96, 97, 98, 99, 100, 101, 102, 103, 104, 105, 106, 107, 108, 109, 110] μ μ') ∧ (IC μ') ∧ (CI μ') ∧ ((0 ≤ x1 ∧ x1 ≤ 3 ∧ 0 ≤ x2 ∧ x2 ≤ μ.1 0 1 ∧ μ'.1 0 1 = 0) ∨ (¬ (0 ≤ x1 ∧ x1 ≤ 3 ∧ 0 ≤ x2 ∧ x2 ≤ μ.1 0 1) ∧ μ'.1 0 1 = μ.1 0 1))) := by
  refine CtI.go (by decide) (Nat.le_of_ble_eq_true rfl) (fun ρ p e s m below meth c R ls G hR hret hlk hl => ?_)
  have hx := G.1.1
  have hb := G.1.2.1
  have hl : lv_has ls 4 [(0, .ref (oP ω 0)), (1, .int (iv x1)), (2, .int (iv x2))] := hl
  generalize s.drawn = d0 at G ⊢
  have hr_x1 : -2147483648 ≤ x1 ∧ x1 ≤ 2147483647 := hx1
  have hr_x2 : -2147483648 ≤ x2 ∧ x2 ≤ 2147483647 := hx2
  have hn_1 : 0 ≤ μ.1 0 1 ∧ μ.1 0 1 ≤ 3000 := hI.nm.1
  refine lv_iload_n hx hb dX11_load_0 rfl (lv_at hl 1 rfl) ?_
  refine xc_iS G (rest := []) (As := [.int (iv x1)]) (c_X11_isTongue ω l μ x1 (by unfold ir; omega)) (wm 2 236 rfl rfl) (wm 2 237 rfl rfl) (wm 1 1 rfl rfl) (wm 2 238 rfl rfl) (by decide) hR (by decide) (n := 1) rfl rfl (Nat.le_of_ble_eq_true rfl) hl.1 dX11_load_1 (fun r_3 μ2 ρ d0 H locs hr_r_3 hp G => ?_)
  have hr_r_3 : -2147483648 ≤ r_3 ∧ r_3 ≤ 2147483647 := hr_r_3
  obtain ⟨hsm_4, hp_5⟩ := hp
  have hsm_4 := Eq.symm hsm_4
  subst hsm_4
  refine xb_if_eq (tgt := 19) hx hb (by unfold ir; omega) dX11_load_4 (by decide) (fun c_4 => ?_) (fun c_4 => ?_)
  · refine lv_sipush (v := iv (-5000)) hx hb dX11_load_19 rfl ?_
    exact xr_i G (x := (-5000)) hret hlk (by unfold ir; omega) rfl dX11_load_22 ⟨Fr.rf, hI, hCI, (Or.inr ⟨by omega, rfl⟩)⟩
  · refine lv_iload_n hx hb dX11_load_7 rfl (lv_at hl 2 rfl) ?_
    refine xb_if_lt (tgt := 19) hx hb (by unfold ir; omega) dX11_load_8 (by decide) (fun c_8 => ?_) (fun c_8 => ?_)
    · refine lv_sipush (v := iv (-5000)) hx hb dX11_load_19 rfl ?_
      exact xr_i G (x := (-5000)) hret hlk (by unfold ir; omega) rfl dX11_load_22 ⟨Fr.rf, hI, hCI, (Or.inr ⟨by omega, rfl⟩)⟩
    · refine lv_iload_n hx hb dX11_load_11 rfl (lv_at hl 2 rfl) ?_
      refine lv_aload_n hx hb dX11_load_12 rfl (lv_at hl 0 rfl) ?_
      refine xa_geti G fd_X11 (a := 0) (x := μ.1 0 1) 1 rfl (by decide) rfl (wm 2 197 rfl rfl) ⟨rfl, rfl, rfl⟩ dX11_load_13 rfl rfl ?_
      have hr_6 : -2147483648 ≤ μ.1 0 1 ∧ μ.1 0 1 ≤ 2147483647 := by have h9 := G.hr (a := 0) (k := 1) rfl; exact h9
      refine xb_icmp_le (tgt := 23) hx hb (by unfold ir; omega) (by unfold ir; omega) dX11_load_16 (by decide) (fun c_16 => ?_) (fun c_16 => ?_)
      · refine lv_aload_n hx hb dX11_load_23 rfl (lv_at hl 0 rfl) ?_
        refine lv_iconst (v := iv 0) hx hb dX11_load_24 rfl ?_
        refine xa_puti G fd_X11 (a := 0) (x := 0) 1 (kz := 1) rfl rfl (by decide) rfl (by unfold ir; omega) (wm 2 197 rfl rfl) ⟨rfl, rfl, rfl, rfl⟩ rfl dX11_load_25 rfl (fun H locs G => ?_)
        refine lv_aload_n hx hb dX11_load_28 rfl (lv_at hl 0 rfl) ?_
        refine xa_getr G fd_X11 (a := 0) (x := 2) 3 rfl (by decide) rfl (wm 2 199 rfl rfl) ⟨rfl, rfl, rfl⟩ dX11_load_29 rfl (G.sk 1 rfl) (by decide) rfl ?_
        have hI_7 : IC (sv μ 0 1 0) := (IC.n_0_1 hI (by omega))
        have hn_8 : 0 ≤ μ.1 2 3 ∧ μ.1 2 3 ≤ 51 := hI.nm.2.1
        have e_9 : (sv μ 0 1 0).1 2 3 = μ.1 2 3 := (sv_n _ (fun h9 => absurd h9.1 (by decide)))
        refine xc_vV G (b := 2) (rest := []) (As := []) (c_X5_keep ω l (sv μ 0 1 0)  hI_7) (wm 2 239 rfl rfl) (wm 3 0 rfl rfl) (wm 3 1 rfl rfl) rfl rfl (by decide) rfl (wm 1 2 rfl rfl) (wm 3 2 rfl rfl) (by decide) hR (by decide) (n := 0) rfl rfl (Nat.le_of_ble_eq_true rfl) hl.1 dX11_load_32 (fun μ10 ρ d0 H locs hp G => ?_)
        obtain ⟨F_11, hI_12, hs_13⟩ := hp
        refine lv_aload_n hx hb dX11_load_35 rfl (lv_at hl 0 rfl) ?_
        refine xa_getr G fd_X11 (a := 0) (x := 23) 7 rfl (by decide) rfl (wm 2 203 rfl rfl) ⟨rfl, rfl, rfl⟩ dX11_load_36 rfl (G.sk 4 rfl) (by decide) rfl ?_
        refine lv_iload_n hx hb dX11_load_39 rfl (lv_at hl 1 rfl) ?_
        refine lv_iload_n hx hb dX11_load_40 rfl (lv_at hl 2 rfl) ?_
        refine lv_aload_n hx hb dX11_load_41 rfl (lv_at hl 0 rfl) ?_
        obtain ⟨pd14, he_pd14, hd_pd14⟩ : ∃ z : Int, μ.1 0 6 = z ∧ isPr z := ⟨_, rfl, by have h9 := G.sr0.2.2.2.1; rw [show μ10.1 0 6 = μ.1 0 6 from ((F_11.1 0 (by decide) 6).trans (sv_n _ (by decide)))] at h9; exact h9⟩
        have hd_pd14_d : pd14 = 13 ∨ pd14 = 71 ∨ pd14 = 81 ∨ pd14 = 91 ∨ pd14 = 101 := hd_pd14
        refine xa_getr G fd_X11 (a := 0) (x := pd14) 6 rfl (by decide) rfl (wm 2 202 rfl rfl) ⟨rfl, rfl, rfl⟩ dX11_load_42 rfl (Eq.trans ((F_11.1 0 (by decide) 6).trans (sv_n _ (by decide))) he_pd14) (by omega) (hd_pd14.hq ω ρ) ?_
        have hvp_ : vrk μ10 := hCI.2.1.fr (L := [2, 5, 0]) (Fr.tr (Fr.put Fr.rf (by decide)) F_11 (by decide)) (by decide)
        refine xc_vV G (b := 23) (rest := []) (As := [.int (iv x1), .int (iv x2), .ref (oP ω pd14)]) (c_X7_parse ω l μ10 x1 x2 pd14 (by unfold ir; omega) (by unfold ir; omega) hd_pd14 hI_12 (by omega) (by omega) hvp_) (wm 3 6 rfl rfl) (wm 3 7 rfl rfl) (wm 3 8 rfl rfl) rfl rfl (by decide) rfl (wm 1 12 rfl rfl) (wm 3 9 rfl rfl) (by decide) hR (by decide) (n := 3) rfl rfl (Nat.le_of_ble_eq_true rfl) hl.1 dX11_load_45 (fun μ15 ρ d0 H locs hp G => ?_)
        obtain ⟨F_16, hI_17, hp_18, hp_19, hp_20⟩ := hp
        have hk_21 := hI_17.pr (p := pd14) hd_pd14
        unfold pk at hk_21
        have hc_22 : 16 ≤ μ15.2.1 (pd14 + 1) ∧ μ15.2.1 (pd14 + 1) ≤ 73024 := hI_17.rm.1 _ hd_pd14.cap
        refine lv_aload_n hx hb dX11_load_48 rfl (lv_at hl 0 rfl) ?_
        refine lv_aload_n hx hb dX11_load_49 rfl (lv_at hl 0 rfl) ?_
        refine xa_getr G fd_X11 (a := 0) (x := 23) 7 rfl (by decide) rfl (wm 2 203 rfl rfl) ⟨rfl, rfl, rfl⟩ dX11_load_50 rfl (G.sk 4 rfl) (by decide) rfl ?_
        refine xc_iV G (b := 23) (rest := [.ref (oP ω 0)]) (As := []) (c_X7_faultKind ω l μ15  hI_17) (wm 4 207 rfl rfl) (wm 4 208 rfl rfl) (wm 4 209 rfl rfl) rfl rfl (by decide) rfl (wm 1 12 rfl rfl) (wm 4 210 rfl rfl) (by decide) hR (by decide) (n := 0) rfl rfl (Nat.le_of_ble_eq_true rfl) hl.1 dX11_load_53 (fun r_24 μ23 ρ d0 H locs hr_r_24 hp G => ?_)
        have hr_r_24 : -2147483648 ≤ r_24 ∧ r_24 ≤ 2147483647 := hr_r_24
        obtain ⟨hsm_25, hp_26, hp_27⟩ := hp
        have hsm_25 := Eq.symm hsm_25
        subst hsm_25
        refine xa_puti G fd_X11 (a := 0) (x := r_24) 2 (kz := 2) rfl rfl (by decide) rfl (by unfold ir; omega) (wm 2 198 rfl rfl) ⟨rfl, rfl, rfl, rfl⟩ rfl dX11_load_56 rfl (fun H locs G => ?_)
        refine lv_aload_n hx hb dX11_load_59 rfl (lv_at hl 0 rfl) ?_
        refine xa_geti G fd_X11 (a := 0) (x := r_24) 2 rfl (by decide) rfl (wm 2 198 rfl rfl) ⟨rfl, rfl, rfl⟩ dX11_load_60 rfl (sv_s _ _ _ _) ?_
        refine xb_if_eq (tgt := 84) hx hb (by unfold ir; omega) dX11_load_63 (by decide) (fun c_63 => ?_) (fun c_63 => ?_)
        · refine lv_aload_n hx hb dX11_load_84 rfl (lv_at hl 0 rfl) ?_
          have hvk_ : vrk (sv μ15 0 2 r_24) := vrk.fr (L := [0]) hp_18 (Fr.put Fr.rf (by decide)) (by decide)
          have hck_ : CI (sv μ15 0 2 r_24) := hCI.keep (P := pd14) (L := fun pd14 => [0, 23, pd14, pd14 + 2, (pd14 + 2) + 1, (pd14 + 2) + 2, (pd14 + 2) + 3, 24, 26, 28, 29, 30, 31, 2, 25, 3, 4, pd14 + 1, pd14 + 6, pd14 + 7, pd14 + 8, pd14 + 9, 5]) he_pd14.symm rfl (Fr.put (Fr.tr (Fr.tr (Fr.put Fr.rf (si hd_pd14 (fun pd14 => [0]) (fun pd14 => [0, 23, pd14, pd14 + 2, (pd14 + 2) + 1, (pd14 + 2) + 2, (pd14 + 2) + 3, 24, 26, 28, 29, 30, 31, 2, 25, 3, 4, pd14 + 1, pd14 + 6, pd14 + 7, pd14 + 8, pd14 + 9, 5]) rfl 0 (List.mem_singleton.2 rfl))) F_11 (si hd_pd14 (fun pd14 => [2, 5]) (fun pd14 => [0, 23, pd14, pd14 + 2, (pd14 + 2) + 1, (pd14 + 2) + 2, (pd14 + 2) + 3, 24, 26, 28, 29, 30, 31, 2, 25, 3, 4, pd14 + 1, pd14 + 6, pd14 + 7, pd14 + 8, pd14 + 9, 5]) rfl)) F_16 (si hd_pd14 (fun pd14 => [23, pd14, pd14 + 2, (pd14 + 2) + 1, (pd14 + 2) + 2, (pd14 + 2) + 3, 24, 26, 28, 29, 30, 31, 2, 25, 3, 4, pd14 + 1, pd14 + 6, pd14 + 7, pd14 + 8, pd14 + 9]) (fun pd14 => [0, 23, pd14, pd14 + 2, (pd14 + 2) + 1, (pd14 + 2) + 2, (pd14 + 2) + 3, 24, 26, 28, 29, 30, 31, 2, 25, 3, 4, pd14 + 1, pd14 + 6, pd14 + 7, pd14 + 8, pd14 + 9, 5]) rfl)) (si hd_pd14 (fun pd14 => [0]) (fun pd14 => [0, 23, pd14, pd14 + 2, (pd14 + 2) + 1, (pd14 + 2) + 2, (pd14 + 2) + 3, 24, 26, 28, 29, 30, 31, 2, 25, 3, 4, pd14 + 1, pd14 + 6, pd14 + 7, pd14 + 8, pd14 + 9, 5]) rfl 0 (List.mem_singleton.2 rfl))) ((sv_n _ (by decide)).trans ((F_16.1 0 (ni hd_pd14 (fun pd14 => 0) (fun pd14 => [23, pd14, pd14 + 2, (pd14 + 2) + 1, (pd14 + 2) + 2, (pd14 + 2) + 3, 24, 26, 28, 29, 30, 31, 2, 25, 3, 4, pd14 + 1, pd14 + 6, pd14 + 7, pd14 + 8, pd14 + 9]) rfl) 6).trans ((F_11.1 0 (by decide) 6).trans (sv_n _ (by decide))))) (ni hd_pd14 (fun pd14 => 12) (fun pd14 => [0, 23, pd14, pd14 + 2, (pd14 + 2) + 1, (pd14 + 2) + 2, (pd14 + 2) + 3, 24, 26, 28, 29, 30, 31, 2, 25, 3, 4, pd14 + 1, pd14 + 6, pd14 + 7, pd14 + 8, pd14 + 9, 5]) rfl) (ni hd_pd14 (fun pd14 => 70) (fun pd14 => [0, 23, pd14, pd14 + 2, (pd14 + 2) + 1, (pd14 + 2) + 2, (pd14 + 2) + 3, 24, 26, 28, 29, 30, 31, 2, 25, 3, 4, pd14 + 1, pd14 + 6, pd14 + 7, pd14 + 8, pd14 + 9, 5]) rfl) hvk_
          have hpg_ : PG μ15 pd14 x1 := by
            have h1 := hp_27 () (by omega)
            exact (hp_19).resolve_left (by have h9 : μ15.1 24 1 = μ15.1 24 1 := rfl; have h8 : μ15.1 24 1 = μ15.1 24 1 := rfl; omega)
          have hpq_ : PG (sv μ15 0 2 r_24) pd14 x1 := PG.fr (K := [0]) hpg_ (Fr.put Fr.rf (by decide)) (ni hd_pd14 (fun pd14 => pd14) (fun pd14 => [0]) rfl) (ni hd_pd14 (fun pd14 => pd14 + 1) (fun pd14 => [0]) rfl) (ni hd_pd14 (fun pd14 => pd14 + 7) (fun pd14 => [0]) rfl)
          have hlen_ : (sv μ15 0 2 r_24).1 pd14 1 ≤ 8000 := by have h9 : (sv μ15 0 2 r_24).1 pd14 1 = μ15.1 pd14 1 := (sv_n _ (by omega)); omega
          refine xa_getr G fd_X11 (a := 0) (x := 12) 5 rfl (by decide) rfl (wm 2 201 rfl rfl) ⟨rfl, rfl, rfl⟩ dX11_load_85 rfl (G.sk 3 rfl) (by decide) rfl ?_
          refine lv_iload_n hx hb dX11_load_88 rfl (lv_at hl 1 rfl) ?_
          obtain ⟨pd28, he_pd28, hd_pd28⟩ : ∃ z : Int, μ.1 12 x1 = z ∧ isPr z := ⟨_, rfl, by have h9 := G.sr0.2.2.1 x1; rw [show (sv μ15 0 2 r_24).1 12 x1 = μ.1 12 x1 from ((sv_n _ (fun h9 => absurd h9.1 (by decide))).trans ((F_16.1 12 (ni hd_pd14 (fun pd14 => 12) (fun pd14 => [23, pd14, pd14 + 2, (pd14 + 2) + 1, (pd14 + 2) + 2, (pd14 + 2) + 3, 24, 26, 28, 29, 30, 31, 2, 25, 3, 4, pd14 + 1, pd14 + 6, pd14 + 7, pd14 + 8, pd14 + 9]) rfl) x1).trans ((F_11.1 12 (by decide) x1).trans (sv_n _ (fun h9 => absurd h9.1 (by decide))))))] at h9; exact h9⟩
          have hd_pd28_d : pd28 = 13 ∨ pd28 = 71 ∨ pd28 = 81 ∨ pd28 = 91 ∨ pd28 = 101 := hd_pd28
          refine xa_aald G (a := 12) (i := x1) (b := pd28) rfl (by have h9 := G.lc (a := 12) (n := 4) 9 rfl; omega) (Eq.trans ((sv_n _ (fun h9 => absurd h9.1 (by decide))).trans ((F_16.1 12 (ni hd_pd14 (fun pd14 => 12) (fun pd14 => [23, pd14, pd14 + 2, (pd14 + 2) + 1, (pd14 + 2) + 2, (pd14 + 2) + 3, 24, 26, 28, 29, 30, 31, 2, 25, 3, 4, pd14 + 1, pd14 + 6, pd14 + 7, pd14 + 8, pd14 + 9]) rfl) x1).trans ((F_11.1 12 (by decide) x1).trans (sv_n _ (fun h9 => absurd h9.1 (by decide)))))) he_pd28) (by omega) dX11_load_89 rfl (hd_pd28.hq ω ρ) ?_
          refine lv_astore_n (lv' := [(3, .ref (oP ω pd28)), (0, .ref (oP ω 0)), (1, .int (iv x1)), (2, .int (iv x2))]) hx hb dX11_load_90 rfl hl (by decide) rfl (fun ls hl => ?_)
          refine lv_aload_n hx hb dX11_load_91 rfl (lv_at hl 1 rfl) ?_
          refine xa_getr G fd_X11 (a := 0) (x := 12) 5 rfl (by decide) rfl (wm 2 201 rfl rfl) ⟨rfl, rfl, rfl⟩ dX11_load_92 rfl (G.sk 3 rfl) (by decide) rfl ?_
          refine lv_iload_n hx hb dX11_load_95 rfl (lv_at hl 2 rfl) ?_
          refine lv_aload_n hx hb dX11_load_96 rfl (lv_at hl 1 rfl) ?_
          refine xa_getr G fd_X11 (a := 0) (x := pd14) 6 rfl (by decide) rfl (wm 2 202 rfl rfl) ⟨rfl, rfl, rfl⟩ dX11_load_97 rfl (Eq.trans ((sv_n _ (by decide)).trans ((F_16.1 0 (ni hd_pd14 (fun pd14 => 0) (fun pd14 => [23, pd14, pd14 + 2, (pd14 + 2) + 1, (pd14 + 2) + 2, (pd14 + 2) + 3, 24, 26, 28, 29, 30, 31, 2, 25, 3, 4, pd14 + 1, pd14 + 6, pd14 + 7, pd14 + 8, pd14 + 9]) rfl) 6).trans ((F_11.1 0 (by decide) 6).trans (sv_n _ (by decide))))) he_pd14) (by omega) (hd_pd14.hq ω ρ) ?_
          refine xa_aast G (a := 12) (i := x1) (b := pd14) rfl (by have h9 := G.lc (a := 12) (n := 4) 9 rfl; omega) rfl hd_pd14 dX11_load_100 rfl (hd_pd14.hq ω ρ) (fun H locs G => ?_)
          refine lv_aload_n hx hb dX11_load_101 rfl (lv_at hl 1 rfl) ?_
          refine lv_aload_n hx hb dX11_load_102 rfl (lv_at hl 0 rfl) ?_
          refine xa_putr G fd_X11 (a := 0) (x := pd28) 6 (kz := 6) rfl rfl (by decide) rfl hd_pd28 (Or.inl ⟨rfl, rfl⟩) (wm 2 202 rfl rfl) ⟨rfl, rfl, rfl, rfl⟩ rfl dX11_load_103 rfl (hd_pd28.hq ω ρ) (fun H locs G => ?_)
          refine lv_aload_n hx hb dX11_load_106 rfl (lv_at hl 1 rfl) ?_
          refine xa_getr G fd_X11 (a := 0) (x := 12) 5 rfl (by decide) rfl (wm 2 201 rfl rfl) ⟨rfl, rfl, rfl⟩ dX11_load_107 rfl (G.sk 3 rfl) (by decide) rfl ?_
          refine lv_iload_n hx hb dX11_load_110 rfl (lv_at hl 2 rfl) ?_
          refine xa_aald G (a := 12) (i := x1) (b := pd14) rfl (by have h9 := G.lc (a := 12) (n := 4) 9 rfl; omega) ((sv_n _ (fun h9 => absurd h9.1 (by decide))).trans (sv_s _ _ _ _)) (by omega) dX11_load_111 rfl (hd_pd14.hq ω ρ) ?_
          have hI_29 : IC (sv (sv (sv μ15 0 2 r_24) 12 x1 pd14) 0 6 pd28) := (IC.put (IC.pua (IC.put hI_17 (by decide +kernel)) (by decide)) (by decide +kernel))
          have e_30 : (sv (sv (sv μ15 0 2 r_24) 12 x1 pd14) 0 6 pd28).1 pd14 7 = μ15.1 pd14 7 := ((sv_n _ (by omega)).trans ((sv_n _ (by omega)).trans (sv_n _ (by omega))))
          refine xc_iV G (b := pd14) (rest := []) (As := []) (c_X8_functions ω l (sv (sv (sv μ15 0 2 r_24) 12 x1 pd14) 0 6 pd28) pd14 hd_pd14 hI_29) (wm 4 220 rfl rfl) (wm 3 190 rfl rfl) (wm 3 191 rfl rfl) hd_pd14.ly rfl (by decide) (hd_pd14.hq ω ρ) (wm 1 9 rfl rfl) (wm 3 192 rfl rfl) (by decide) hR (by decide) (n := 0) rfl rfl (Nat.le_of_ble_eq_true rfl) hl.1 dX11_load_112 (fun r_32 μ31 ρ d0 H locs hr_r_32 hp G => ?_)
          have hr_r_32 : -2147483648 ≤ r_32 ∧ r_32 ≤ 2147483647 := hr_r_32
          obtain ⟨hsm_33, hp_34⟩ := hp
          have hsm_33 := Eq.symm hsm_33
          subst hsm_33
          have e_35 : (sv (sv (sv μ15 0 2 r_24) 12 x1 pd14) 0 6 pd28).1 0 1 = 0 := ((sv_n _ (by decide)).trans ((sv_n _ (fun h9 => absurd h9.1 (by decide))).trans ((sv_n _ (by decide)).trans ((F_16.1 0 (ni hd_pd14 (fun pd14 => 0) (fun pd14 => [23, pd14, pd14 + 2, (pd14 + 2) + 1, (pd14 + 2) + 2, (pd14 + 2) + 3, 24, 26, 28, 29, 30, 31, 2, 25, 3, 4, pd14 + 1, pd14 + 6, pd14 + 7, pd14 + 8, pd14 + 9]) rfl) 1).trans ((F_11.1 0 (by decide) 1).trans (sv_s _ _ _ _))))))
          exact xr_i G (x := r_32) hret hlk (by unfold ir; omega) rfl dX11_load_115 ⟨(Fr.put (Fr.put (Fr.put (Fr.tr (Fr.tr (Fr.put Fr.rf (by decide)) F_11 (by decide)) F_16 (si hd_pd14 (fun pd14 => [23, pd14, pd14 + 2, (pd14 + 2) + 1, (pd14 + 2) + 2, (pd14 + 2) + 3, 24, 26, 28, 29, 30, 31, 2, 25, 3, 4, pd14 + 1, pd14 + 6, pd14 + 7, pd14 + 8, pd14 + 9]) (fun pd14 => [0, 2, 3, 4, 5, 12, 23, 24, 25, 26, 28, 29, 30, 31, 13, 14, 15, 16, 17, 18, 19, 20, 21, 22, 71, 72, 73, 74, 75, 76, 77, 78, 79, 80, 81, 82, 83, 84, 85, 86, 87, 88, 89, 90, 91, 92, 93, 94, 95, 96, 97, 98, 99, 100, 101, 102, 103, 104, 105, 106, 107, 108, 109, 110]) rfl)) (by decide)) (by decide)) (by decide)), hI_29, (hck_.swap (t := x1) (P := pd14) ⟨by omega, by omega⟩ (show pd14 = (sv μ15 0 2 r_24).1 0 6 from ((((sv_n _ (by decide)).trans ((F_16.1 0 (ni hd_pd14 (fun pd14 => 0) (fun pd14 => [23, pd14, pd14 + 2, (pd14 + 2) + 1, (pd14 + 2) + 2, (pd14 + 2) + 3, 24, 26, 28, 29, 30, 31, 2, 25, 3, 4, pd14 + 1, pd14 + 6, pd14 + 7, pd14 + 8, pd14 + 9]) rfl) 6).trans ((F_11.1 0 (by decide) 6).trans (sv_n _ (by decide)))))).trans he_pd14).symm) hpq_ hlen_ (show Fr [0, 12] (sv μ15 0 2 r_24) (sv (sv (sv μ15 0 2 r_24) 12 x1 pd14) 0 6 pd28) from (Fr.put (Fr.put Fr.rf (by decide)) (by decide))) (by exact ((sv_n _ (fun h9 => absurd h9.1 (by decide))).trans (sv_s _ _ _ _))) (fun j hj => ((sv_n _ (by omega)).trans (sv_n _ (by omega)))) (show (sv (sv (sv μ15 0 2 r_24) 12 x1 pd14) 0 6 pd28).1 0 6 = (sv μ15 0 2 r_24).1 12 x1 from by rw [show (sv (sv (sv μ15 0 2 r_24) 12 x1 pd14) 0 6 pd28).1 0 6 = pd28 from (sv_s _ _ _ _)]; exact ((((sv_n _ (fun h9 => absurd h9.1 (by decide))).trans ((F_16.1 12 (ni hd_pd14 (fun pd14 => 12) (fun pd14 => [23, pd14, pd14 + 2, (pd14 + 2) + 1, (pd14 + 2) + 2, (pd14 + 2) + 3, 24, 26, 28, 29, 30, 31, 2, 25, 3, 4, pd14 + 1, pd14 + 6, pd14 + 7, pd14 + 8, pd14 + 9]) rfl) x1).trans ((F_11.1 12 (by decide) x1).trans (sv_n _ (fun h9 => absurd h9.1 (by decide))))))).trans he_pd28).symm)), (Or.inl ⟨by omega, by omega, by omega, by omega, ((sv_n _ (by decide)).trans ((sv_n _ (fun h9 => absurd h9.1 (by decide))).trans ((sv_n _ (by decide)).trans ((F_16.1 0 (ni hd_pd14 (fun pd14 => 0) (fun pd14 => [23, pd14, pd14 + 2, (pd14 + 2) + 1, (pd14 + 2) + 2, (pd14 + 2) + 3, 24, 26, 28, 29, 30, 31, 2, 25, 3, 4, pd14 + 1, pd14 + 6, pd14 + 7, pd14 + 8, pd14 + 9]) rfl) 1).trans ((F_11.1 0 (by decide) 1).trans (sv_s _ _ _ _))))))⟩)⟩
        · refine lv_aload_n hx hb dX11_load_66 rfl (lv_at hl 0 rfl) ?_
          refine xa_getr G fd_X11 (a := 0) (x := 2) 3 rfl (by decide) rfl (wm 2 199 rfl rfl) ⟨rfl, rfl, rfl⟩ dX11_load_67 rfl (G.sk 1 rfl) (by decide) rfl ?_
          have hI_36 : IC (sv μ15 0 2 r_24) := (IC.put hI_17 (by decide +kernel))
          have hn_37 : 0 ≤ μ15.1 2 4 ∧ μ15.1 2 4 ≤ 51 := hI_17.nm.2.2.1
          have e_38 : (sv μ15 0 2 r_24).1 2 4 = μ15.1 2 4 := (sv_n _ (fun h9 => absurd h9.1 (by decide)))
          refine xc_vV G (b := 2) (rest := []) (As := []) (c_X5_giveBack ω l (sv μ15 0 2 r_24)  hI_36) (wm 4 211 rfl rfl) (wm 4 212 rfl rfl) (wm 4 213 rfl rfl) rfl rfl (by decide) rfl (wm 1 2 rfl rfl) (wm 4 214 rfl rfl) (by decide) hR (by decide) (n := 0) rfl rfl (Nat.le_of_ble_eq_true rfl) hl.1 dX11_load_70 (fun μ39 ρ d0 H locs hp G => ?_)
          obtain ⟨F_40, hI_41, hs_42⟩ := hp
          refine lv_aload_n hx hb dX11_load_73 rfl (lv_at hl 0 rfl) ?_
          refine xa_getr G fd_X11 (a := 0) (x := 23) 7 rfl (by decide) rfl (wm 2 203 rfl rfl) ⟨rfl, rfl, rfl⟩ dX11_load_74 rfl (G.sk 4 rfl) (by decide) rfl ?_
          refine xc_iV G (b := 23) (rest := []) (As := []) (c_X7_faultPlace ω l μ39  hI_41) (wm 4 215 rfl rfl) (wm 4 216 rfl rfl) (wm 4 217 rfl rfl) rfl rfl (by decide) rfl (wm 1 12 rfl rfl) (wm 4 218 rfl rfl) (by decide) hR (by decide) (n := 0) rfl rfl (Nat.le_of_ble_eq_true rfl) hl.1 dX11_load_77 (fun r_44 μ43 ρ d0 H locs hr_r_44 hp G => ?_)
          have hr_r_44 : -2147483648 ≤ r_44 ∧ r_44 ≤ 2147483647 := hr_r_44
          have hsm_45 := hp
          have hsm_45 := Eq.symm hsm_45
          subst hsm_45
          refine xb_ineg hx hb dX11_load_80 ?_
          refine lv_iconst (v := iv 1) hx hb dX11_load_81 rfl ?_
          refine xb_isub hx hb dX11_load_82 ?_
          have e_46 : μ39.1 0 1 = 0 := ((F_40.1 0 (by decide) 1).trans ((sv_n _ (by decide)).trans ((F_16.1 0 (ni hd_pd14 (fun pd14 => 0) (fun pd14 => [23, pd14, pd14 + 2, (pd14 + 2) + 1, (pd14 + 2) + 2, (pd14 + 2) + 3, 24, 26, 28, 29, 30, 31, 2, 25, 3, 4, pd14 + 1, pd14 + 6, pd14 + 7, pd14 + 8, pd14 + 9]) rfl) 1).trans ((F_11.1 0 (by decide) 1).trans (sv_s _ _ _ _)))))
          have hvk_ : vrk μ39 := vrk.fr (L := [2, 4, 0]) hp_18 (Fr.tr (Fr.put Fr.rf (by decide)) F_40 (by decide)) (by decide)
          have hcf_ : CI μ39 := hCI.keep (P := pd14) (L := fun pd14 => [2, 4, 0, 23, pd14, pd14 + 2, (pd14 + 2) + 1, (pd14 + 2) + 2, (pd14 + 2) + 3, 24, 26, 28, 29, 30, 31, 25, 3, pd14 + 1, pd14 + 6, pd14 + 7, pd14 + 8, pd14 + 9, 5]) he_pd14.symm rfl (Fr.tr (Fr.put (Fr.tr (Fr.tr (Fr.put Fr.rf (si hd_pd14 (fun pd14 => [0]) (fun pd14 => [2, 4, 0, 23, pd14, pd14 + 2, (pd14 + 2) + 1, (pd14 + 2) + 2, (pd14 + 2) + 3, 24, 26, 28, 29, 30, 31, 25, 3, pd14 + 1, pd14 + 6, pd14 + 7, pd14 + 8, pd14 + 9, 5]) rfl 0 (List.mem_singleton.2 rfl))) F_11 (si hd_pd14 (fun pd14 => [2, 5]) (fun pd14 => [2, 4, 0, 23, pd14, pd14 + 2, (pd14 + 2) + 1, (pd14 + 2) + 2, (pd14 + 2) + 3, 24, 26, 28, 29, 30, 31, 25, 3, pd14 + 1, pd14 + 6, pd14 + 7, pd14 + 8, pd14 + 9, 5]) rfl)) F_16 (si hd_pd14 (fun pd14 => [23, pd14, pd14 + 2, (pd14 + 2) + 1, (pd14 + 2) + 2, (pd14 + 2) + 3, 24, 26, 28, 29, 30, 31, 2, 25, 3, 4, pd14 + 1, pd14 + 6, pd14 + 7, pd14 + 8, pd14 + 9]) (fun pd14 => [2, 4, 0, 23, pd14, pd14 + 2, (pd14 + 2) + 1, (pd14 + 2) + 2, (pd14 + 2) + 3, 24, 26, 28, 29, 30, 31, 25, 3, pd14 + 1, pd14 + 6, pd14 + 7, pd14 + 8, pd14 + 9, 5]) rfl)) (si hd_pd14 (fun pd14 => [0]) (fun pd14 => [2, 4, 0, 23, pd14, pd14 + 2, (pd14 + 2) + 1, (pd14 + 2) + 2, (pd14 + 2) + 3, 24, 26, 28, 29, 30, 31, 25, 3, pd14 + 1, pd14 + 6, pd14 + 7, pd14 + 8, pd14 + 9, 5]) rfl 0 (List.mem_singleton.2 rfl))) F_40 (si hd_pd14 (fun pd14 => [2, 4]) (fun pd14 => [2, 4, 0, 23, pd14, pd14 + 2, (pd14 + 2) + 1, (pd14 + 2) + 2, (pd14 + 2) + 3, 24, 26, 28, 29, 30, 31, 25, 3, pd14 + 1, pd14 + 6, pd14 + 7, pd14 + 8, pd14 + 9, 5]) rfl)) ((F_40.1 0 (by decide) 6).trans ((sv_n _ (by decide)).trans ((F_16.1 0 (ni hd_pd14 (fun pd14 => 0) (fun pd14 => [23, pd14, pd14 + 2, (pd14 + 2) + 1, (pd14 + 2) + 2, (pd14 + 2) + 3, 24, 26, 28, 29, 30, 31, 2, 25, 3, 4, pd14 + 1, pd14 + 6, pd14 + 7, pd14 + 8, pd14 + 9]) rfl) 6).trans ((F_11.1 0 (by decide) 6).trans (sv_n _ (by decide)))))) (ni hd_pd14 (fun pd14 => 12) (fun pd14 => [2, 4, 0, 23, pd14, pd14 + 2, (pd14 + 2) + 1, (pd14 + 2) + 2, (pd14 + 2) + 3, 24, 26, 28, 29, 30, 31, 25, 3, pd14 + 1, pd14 + 6, pd14 + 7, pd14 + 8, pd14 + 9, 5]) rfl) (ni hd_pd14 (fun pd14 => 70) (fun pd14 => [2, 4, 0, 23, pd14, pd14 + 2, (pd14 + 2) + 1, (pd14 + 2) + 2, (pd14 + 2) + 3, 24, 26, 28, 29, 30, 31, 25, 3, pd14 + 1, pd14 + 6, pd14 + 7, pd14 + 8, pd14 + 9, 5]) rfl) hvk_
          exact xr_i G (x := (-r_44) - 1) hret hlk (by unfold ir; omega) rfl dX11_load_83 ⟨(Fr.tr (Fr.put (Fr.tr (Fr.tr (Fr.put Fr.rf (by decide)) F_11 (by decide)) F_16 (si hd_pd14 (fun pd14 => [23, pd14, pd14 + 2, (pd14 + 2) + 1, (pd14 + 2) + 2, (pd14 + 2) + 3, 24, 26, 28, 29, 30, 31, 2, 25, 3, 4, pd14 + 1, pd14 + 6, pd14 + 7, pd14 + 8, pd14 + 9]) (fun pd14 => [0, 2, 3, 4, 5, 12, 23, 24, 25, 26, 28, 29, 30, 31, 13, 14, 15, 16, 17, 18, 19, 20, 21, 22, 71, 72, 73, 74, 75, 76, 77, 78, 79, 80, 81, 82, 83, 84, 85, 86, 87, 88, 89, 90, 91, 92, 93, 94, 95, 96, 97, 98, 99, 100, 101, 102, 103, 104, 105, 106, 107, 108, 109, 110]) rfl)) (by decide)) F_40 (by decide)), hI_41, hcf_, (Or.inl ⟨by omega, by omega, by omega, by omega, ((F_40.1 0 (by decide) 1).trans ((sv_n _ (by decide)).trans ((F_16.1 0 (ni hd_pd14 (fun pd14 => 0) (fun pd14 => [23, pd14, pd14 + 2, (pd14 + 2) + 1, (pd14 + 2) + 2, (pd14 + 2) + 3, 24, 26, 28, 29, 30, 31, 2, 25, 3, 4, pd14 + 1, pd14 + 6, pd14 + 7, pd14 + 8, pd14 + 9]) rfl) 1).trans ((F_11.1 0 (by decide) 1).trans (sv_s _ _ _ _)))))⟩)⟩
      · refine lv_sipush (v := iv (-5000)) hx hb dX11_load_19 rfl ?_
        exact xr_i G (x := (-5000)) hret hlk (by unfold ir; omega) rfl dX11_load_22 ⟨Fr.rf, hI, hCI, (Or.inr ⟨by omega, rfl⟩)⟩

set_option maxHeartbeats 4000000 in
set_option maxRecDepth 100000 in
theorem c_X11_call (ω : Om) (l : Launch) (μ : M3) (x1 : Int) (x2 : Int) (x3 : Int) (hx1 : ir x1) (hx2 : ir x2) (hx3 : jr x3) (hI : IC μ) (hCI : CI μ) : CtI ω l yX11_call cX11_call 5 .int 9 268 [.ref (oP ω 0), .int (iv x1), .int (iv x2), .long (jv x3)] μ (fun (r : Int) (μ' : M3) => (Fr [70, 33, 34, 35, 36, 37, 38, 39, 40, 41, 42, 43, 44, 45, 47, 48, 49, 50, 52, 60, 66, 67, 68, 69, 32, 53, 54, 55, 56, 57, 58, 59, 46, 51, 61, 62, 63, 64, 65] μ μ') ∧ (IC μ') ∧ (CI μ')) := by
  refine CtI.go (by decide) (Nat.le_of_ble_eq_true rfl) (fun ρ p e s m below meth c R ls G hR hret hlk hl => ?_)
  have hx := G.1.1
  have hb := G.1.2.1
  have hl : lv_has ls 5 [(0, .ref (oP ω 0)), (1, .int (iv x1)), (2, .int (iv x2)), (3, .long (jv x3))] := hl
  generalize s.drawn = d0 at G ⊢
  have hr_x1 : -2147483648 ≤ x1 ∧ x1 ≤ 2147483647 := hx1
  have hr_x2 : -2147483648 ≤ x2 ∧ x2 ≤ 2147483647 := hx2
  obtain ⟨⟨hh, cc, dd, hTA⟩, hv9, hDI, hlf⟩ := id hCI
  refine lv_iload_n hx hb dX11_call_0 rfl (lv_at hl 1 rfl) ?_
  refine xc_iS G (rest := []) (As := [.int (iv x1)]) (c_X11_isTongue ω l μ x1 (by unfold ir; omega)) (wm 2 236 rfl rfl) (wm 2 237 rfl rfl) (wm 1 1 rfl rfl) (wm 2 238 rfl rfl) (by decide) hR (by decide) (n := 1) rfl rfl (Nat.le_of_ble_eq_true rfl) hl.1 dX11_call_1 (fun r_2 μ1 ρ d0 H locs hr_r_2 hp G => ?_)
  have hr_r_2 : -2147483648 ≤ r_2 ∧ r_2 ≤ 2147483647 := hr_r_2
  obtain ⟨hsm_3, hp_4⟩ := hp
  have hsm_3 := Eq.symm hsm_3
  subst hsm_3
  refine xb_if_eq (tgt := 24) hx hb (by unfold ir; omega) dX11_call_4 (by decide) (fun c_4 => ?_) (fun c_4 => ?_)
  · refine lv_iconst (v := iv 3) hx hb dX11_call_24 rfl ?_
    exact xr_i G (x := 3) hret hlk (by unfold ir; omega) rfl dX11_call_25 ⟨Fr.rf, hI, hCI⟩
  · refine lv_iload_n hx hb dX11_call_7 rfl (lv_at hl 2 rfl) ?_
    refine xb_if_lt (tgt := 24) hx hb (by unfold ir; omega) dX11_call_8 (by decide) (fun c_8 => ?_) (fun c_8 => ?_)
    · refine lv_iconst (v := iv 3) hx hb dX11_call_24 rfl ?_
      exact xr_i G (x := 3) hret hlk (by unfold ir; omega) rfl dX11_call_25 ⟨Fr.rf, hI, hCI⟩
    · refine lv_iload_n hx hb dX11_call_11 rfl (lv_at hl 2 rfl) ?_
      refine lv_aload_n hx hb dX11_call_12 rfl (lv_at hl 0 rfl) ?_
      refine xa_getr G fd_X11 (a := 0) (x := 12) 5 rfl (by decide) rfl (wm 2 201 rfl rfl) ⟨rfl, rfl, rfl⟩ dX11_call_13 rfl (G.sk 3 rfl) (by decide) rfl ?_
      refine lv_iload_n hx hb dX11_call_16 rfl (lv_at hl 1 rfl) ?_
      obtain ⟨pd5, he_pd5, hd_pd5⟩ : ∃ z : Int, μ.1 12 x1 = z ∧ isPr z := ⟨_, rfl, by have h9 := G.sr0.2.2.1 x1; exact h9⟩
      have hd_pd5_d : pd5 = 13 ∨ pd5 = 71 ∨ pd5 = 81 ∨ pd5 = 91 ∨ pd5 = 101 := hd_pd5
      refine xa_aald G (a := 12) (i := x1) (b := pd5) rfl (by have h9 := G.lc (a := 12) (n := 4) 9 rfl; omega) he_pd5 (by omega) dX11_call_17 rfl (hd_pd5.hq ω ρ) ?_
      have hk_6 := hI.pr (p := pd5) hd_pd5
      unfold pk at hk_6
      have hc_7 : 16 ≤ μ.2.1 (pd5 + 1) ∧ μ.2.1 (pd5 + 1) ≤ 73024 := hI.rm.1 _ hd_pd5.cap
      refine xc_iV G (b := pd5) (rest := [.int (iv x2)]) (As := []) (c_X8_functions ω l μ pd5 hd_pd5 hI) (wm 4 220 rfl rfl) (wm 3 190 rfl rfl) (wm 3 191 rfl rfl) hd_pd5.ly rfl (by decide) (hd_pd5.hq ω ρ) (wm 1 9 rfl rfl) (wm 3 192 rfl rfl) (by decide) hR (by decide) (n := 0) rfl rfl (Nat.le_of_ble_eq_true rfl) hl.1 dX11_call_18 (fun r_9 μ8 ρ d0 H locs hr_r_9 hp G => ?_)
      have hr_r_9 : -2147483648 ≤ r_9 ∧ r_9 ≤ 2147483647 := hr_r_9
      obtain ⟨hsm_10, hp_11⟩ := hp
      have hsm_10 := Eq.symm hsm_10
      subst hsm_10
      refine xb_icmp_lt (tgt := 26) hx hb (by unfold ir; omega) (by unfold ir; omega) dX11_call_21 (by decide) (fun c_21 => ?_) (fun c_21 => ?_)
      · refine lv_iload_n hx hb dX11_call_26 rfl (lv_at hl 1 rfl) ?_
        refine lv_lload_n hx hb dX11_call_27 rfl (lv_at hl 3 rfl) ?_
        refine xc_iS G (rest := []) (As := [.int (iv x1), .long (jv x3)]) (c_X6_has ω l μ x1 x3 (by unfold ir; omega) hx3) (wm 5 33 rfl rfl) (wm 5 34 rfl rfl) (wm 1 20 rfl rfl) (wm 5 35 rfl rfl) (by decide) hR (by decide) (n := 2) rfl rfl (Nat.le_of_ble_eq_true rfl) hl.1 dX11_call_28 (fun r_13 μ12 ρ d0 H locs hr_r_13 hp G => ?_)
        have hr_r_13 : -2147483648 ≤ r_13 ∧ r_13 ≤ 2147483647 := hr_r_13
        obtain ⟨hsm_14, hp_15⟩ := hp
        have hsm_14 := Eq.symm hsm_14
        subst hsm_14
        refine xb_if_ne (tgt := 36) hx hb (by unfold ir; omega) dX11_call_31 (by decide) (fun c_31 => ?_) (fun c_31 => ?_)
        · refine lv_aload_n hx hb dX11_call_36 rfl (lv_at hl 0 rfl) ?_
          refine xa_getr G fd_X11 (a := 0) (x := 32) 8 rfl (by decide) rfl (wm 2 204 rfl rfl) ⟨rfl, rfl, rfl⟩ dX11_call_37 rfl (G.sk 5 rfl) (by decide) rfl ?_
          refine lv_iload_n hx hb dX11_call_40 rfl (lv_at hl 1 rfl) ?_
          refine lv_iload_n hx hb dX11_call_41 rfl (lv_at hl 2 rfl) ?_
          refine lv_lload_n hx hb dX11_call_42 rfl (lv_at hl 3 rfl) ?_
          refine xc_iV G (b := 32) (rest := []) (As := [.int (iv x1), .int (iv x2), .long (jv x3)]) (c_X4_run ω l μ x1 x2 x3 hh cc dd (by unfold ir; omega) (by unfold ir; omega) hx3 hI hTA hv9 hlf ⟨by omega, by omega⟩) (wm 5 47 rfl rfl) (wm 5 48 rfl rfl) (wm 5 49 rfl rfl) rfl rfl (by decide) rfl (wm 1 14 rfl rfl) (wm 5 50 rfl rfl) (by decide) hR (by decide) (n := 3) rfl rfl (Nat.le_of_ble_eq_true rfl) hl.1 dX11_call_43 (fun r_17 μ16 ρ d0 H locs hr_r_17 hp G => ?_)
          have hr_r_17 : -2147483648 ≤ r_17 ∧ r_17 ≤ 2147483647 := hr_r_17
          obtain ⟨F_18, hI_19, hp_20⟩ := hp
          exact xr_i G (x := r_17) hret hlk (by unfold ir; omega) rfl dX11_call_46 ⟨(Fr.tr Fr.rf F_18 (by decide)), hI_19, (hCI.run (K := [70, 33, 34, 35, 36, 37, 38, 39, 40, 41, 42, 43, 44, 45, 47, 48, 49, 50, 52, 60, 66, 67, 68, 69, 32, 53, 54, 55, 56, 57, 58, 59, 46, 51, 61, 62, 63, 64, 65]) F_18 (by decide) (by decide) (by decide) hp_20)⟩
        · refine lv_iconst (v := iv 4) hx hb dX11_call_34 rfl ?_
          exact xr_i G (x := 4) hret hlk (by unfold ir; omega) rfl dX11_call_35 ⟨Fr.rf, hI, hCI⟩
      · refine lv_iconst (v := iv 3) hx hb dX11_call_24 rfl ?_
        exact xr_i G (x := 3) hret hlk (by unfold ir; omega) rfl dX11_call_25 ⟨Fr.rf, hI, hCI⟩
