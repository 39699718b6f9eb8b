abbrev cX12_next : ByteArray := prog_14_method_12_code
def yX12_next : MethodName := ⟨RX12, "next", "()V"⟩
abbrev cX12_isSign : ByteArray := prog_14_method_18_code
def yX12_isSign : MethodName := ⟨RX12, "isSign", "(I)Z"⟩
abbrev cX12_isWord : ByteArray := prog_14_method_19_code
def yX12_isWord : MethodName := ⟨RX12, "isWord", "(I)Z"⟩
abbrev cX12_takesSign : ByteArray := prog_14_method_20_code
def yX12_takesSign : MethodName := ⟨RX12, "takesSign", "(I)Z"⟩
abbrev cX12_takesWord : ByteArray := prog_14_method_21_code
def yX12_takesWord : MethodName := ⟨RX12, "takesWord", "(I)Z"⟩
theorem dX12_next_0 : decode cX12_next 0 = .ok (.aload_n 0, 1) := by decide +kernel
theorem dX12_next_1 : decode cX12_next 1 = .ok (.invokevirtual 215, 3) := by decide +kernel
theorem dX12_next_4 : decode cX12_next 4 = .ok (.ifCond .eq 4, 3) := by decide +kernel
theorem dX12_next_7 : decode cX12_next 7 = .ok (.return_, 1) := by decide +kernel
theorem dX12_next_8 : decode cX12_next 8 = .ok (.aload_n 0, 1) := by decide +kernel
theorem dX12_next_9 : decode cX12_next 9 = .ok (.invokevirtual 219, 3) := by decide +kernel
theorem dX12_next_12 : decode cX12_next 12 = .ok (.bipush 10, 2) := by decide +kernel
theorem dX12_next_14 : decode cX12_next 14 = .ok (.if_icmp .eq 12, 3) := by decide +kernel
theorem dX12_next_17 : decode cX12_next 17 = .ok (.aload_n 0, 1) := by decide +kernel
theorem dX12_next_18 : decode cX12_next 18 = .ok (.invokevirtual 219, 3) := by decide +kernel
theorem dX12_next_21 : decode cX12_next 21 = .ok (.bipush 32, 2) := by decide +kernel
theorem dX12_next_23 : decode cX12_next 23 = .ok (.if_icmp .ne 16, 3) := by decide +kernel
theorem dX12_next_26 : decode cX12_next 26 = .ok (.aload_n 0, 1) := by decide +kernel
theorem dX12_next_27 : decode cX12_next 27 = .ok (.dup, 1) := by decide +kernel
theorem dX12_next_28 : decode cX12_next 28 = .ok (.getfield 206, 3) := by decide +kernel
theorem dX12_next_31 : decode cX12_next 31 = .ok (.iconst 1, 1) := by decide +kernel
theorem dX12_next_32 : decode cX12_next 32 = .ok (.iadd, 1) := by decide +kernel
theorem dX12_next_33 : decode cX12_next 33 = .ok (.putfield 206, 3) := by decide +kernel
theorem dX12_next_36 : decode cX12_next 36 = .ok (.goto (-28), 3) := by decide +kernel
theorem dX12_next_39 : decode cX12_next 39 = .ok (.aload_n 0, 1) := by decide +kernel
theorem dX12_next_40 : decode cX12_next 40 = .ok (.aload_n 0, 1) := by decide +kernel
theorem dX12_next_41 : decode cX12_next 41 = .ok (.getfield 206, 3) := by decide +kernel
theorem dX12_next_44 : decode cX12_next 44 = .ok (.putfield 222, 3) := by decide +kernel
theorem dX12_next_47 : decode cX12_next 47 = .ok (.aload_n 0, 1) := by decide +kernel
theorem dX12_next_48 : decode cX12_next 48 = .ok (.invokevirtual 219, 3) := by decide +kernel
theorem dX12_next_51 : decode cX12_next 51 = .ok (.istore_n 1, 1) := by decide +kernel
theorem dX12_next_52 : decode cX12_next 52 = .ok (.iload_n 1, 1) := by decide +kernel
theorem dX12_next_53 : decode cX12_next 53 = .ok (.ifCond .ge 11, 3) := by decide +kernel
theorem dX12_next_56 : decode cX12_next 56 = .ok (.aload_n 0, 1) := by decide +kernel
theorem dX12_next_57 : decode cX12_next 57 = .ok (.iconst 4, 1) := by decide +kernel
theorem dX12_next_58 : decode cX12_next 58 = .ok (.putfield 225, 3) := by decide +kernel
theorem dX12_next_61 : decode cX12_next 61 = .ok (.goto 36, 3) := by decide +kernel
theorem dX12_next_64 : decode cX12_next 64 = .ok (.iload_n 1, 1) := by decide +kernel
theorem dX12_next_65 : decode cX12_next 65 = .ok (.invokestatic 228, 3) := by decide +kernel
theorem dX12_next_68 : decode cX12_next 68 = .ok (.ifCond .eq 10, 3) := by decide +kernel
theorem dX12_next_71 : decode cX12_next 71 = .ok (.aload_n 0, 1) := by decide +kernel
theorem dX12_next_72 : decode cX12_next 72 = .ok (.invokevirtual 232, 3) := by decide +kernel
theorem dX12_next_75 : decode cX12_next 75 = .ok (.goto 22, 3) := by decide +kernel
theorem dX12_next_78 : decode cX12_next 78 = .ok (.iload_n 1, 1) := by decide +kernel
theorem dX12_next_79 : decode cX12_next 79 = .ok (.invokestatic 235, 3) := by decide +kernel
theorem dX12_next_82 : decode cX12_next 82 = .ok (.ifCond .eq 10, 3) := by decide +kernel
theorem dX12_next_85 : decode cX12_next 85 = .ok (.aload_n 0, 1) := by decide +kernel
theorem dX12_next_86 : decode cX12_next 86 = .ok (.invokevirtual 238, 3) := by decide +kernel
theorem dX12_next_89 : decode cX12_next 89 = .ok (.goto 8, 3) := by decide +kernel
theorem dX12_next_92 : decode cX12_next 92 = .ok (.aload_n 0, 1) := by decide +kernel
theorem dX12_next_93 : decode cX12_next 93 = .ok (.iload_n 1, 1) := by decide +kernel
theorem dX12_next_94 : decode cX12_next 94 = .ok (.invokevirtual 241, 3) := by decide +kernel
theorem dX12_next_97 : decode cX12_next 97 = .ok (.return_, 1) := by decide +kernel
theorem dX12_isSign_0 : decode cX12_isSign 0 = .ok (.aload_n 0, 1) := by decide +kernel
theorem dX12_isSign_1 : decode cX12_isSign 1 = .ok (.invokevirtual 215, 3) := by decide +kernel
theorem dX12_isSign_4 : decode cX12_isSign 4 = .ok (.ifCond .ne 23, 3) := by decide +kernel
theorem dX12_isSign_7 : decode cX12_isSign 7 = .ok (.aload_n 0, 1) := by decide +kernel
theorem dX12_isSign_8 : decode cX12_isSign 8 = .ok (.getfield 225, 3) := by decide +kernel
theorem dX12_isSign_11 : decode cX12_isSign 11 = .ok (.iconst 3, 1) := by decide +kernel
theorem dX12_isSign_12 : decode cX12_isSign 12 = .ok (.if_icmp .ne 15, 3) := by decide +kernel
theorem dX12_isSign_15 : decode cX12_isSign 15 = .ok (.aload_n 0, 1) := by decide +kernel
theorem dX12_isSign_16 : decode cX12_isSign 16 = .ok (.getfield 289, 3) := by decide +kernel
theorem dX12_isSign_19 : decode cX12_isSign 19 = .ok (.iload_n 1, 1) := by decide +kernel
theorem dX12_isSign_20 : decode cX12_isSign 20 = .ok (.if_icmp .ne 7, 3) := by decide +kernel
theorem dX12_isSign_23 : decode cX12_isSign 23 = .ok (.iconst 1, 1) := by decide +kernel
theorem dX12_isSign_24 : decode cX12_isSign 24 = .ok (.goto 4, 3) := by decide +kernel
theorem dX12_isSign_27 : decode cX12_isSign 27 = .ok (.iconst 0, 1) := by decide +kernel
theorem dX12_isSign_28 : decode cX12_isSign 28 = .ok (.ireturn, 1) := by decide +kernel
theorem dX12_isWord_0 : decode cX12_isWord 0 = .ok (.aload_n 0, 1) := by decide +kernel
theorem dX12_isWord_1 : decode cX12_isWord 1 = .ok (.invokevirtual 215, 3) := by decide +kernel
theorem dX12_isWord_4 : decode cX12_isWord 4 = .ok (.ifCond .ne 23, 3) := by decide +kernel
theorem dX12_isWord_7 : decode cX12_isWord 7 = .ok (.aload_n 0, 1) := by decide +kernel
theorem dX12_isWord_8 : decode cX12_isWord 8 = .ok (.getfield 225, 3) := by decide +kernel
theorem dX12_isWord_11 : decode cX12_isWord 11 = .ok (.iconst 1, 1) := by decide +kernel
theorem dX12_isWord_12 : decode cX12_isWord 12 = .ok (.if_icmp .ne 15, 3) := by decide +kernel
theorem dX12_isWord_15 : decode cX12_isWord 15 = .ok (.aload_n 0, 1) := by decide +kernel
theorem dX12_isWord_16 : decode cX12_isWord 16 = .ok (.getfield 256, 3) := by decide +kernel
theorem dX12_isWord_19 : decode cX12_isWord 19 = .ok (.iload_n 1, 1) := by decide +kernel
theorem dX12_isWord_20 : decode cX12_isWord 20 = .ok (.if_icmp .ne 7, 3) := by decide +kernel
theorem dX12_isWord_23 : decode cX12_isWord 23 = .ok (.iconst 1, 1) := by decide +kernel
theorem dX12_isWord_24 : decode cX12_isWord 24 = .ok (.goto 4, 3) := by decide +kernel
theorem dX12_isWord_27 : decode cX12_isWord 27 = .ok (.iconst 0, 1) := by decide +kernel
theorem dX12_isWord_28 : decode cX12_isWord 28 = .ok (.ireturn, 1) := by decide +kernel
theorem dX12_takesSign_0 : decode cX12_takesSign 0 = .ok (.aload_n 0, 1) := by decide +kernel
theorem dX12_takesSign_1 : decode cX12_takesSign 1 = .ok (.iload_n 1, 1) := by decide +kernel
theorem dX12_takesSign_2 : decode cX12_takesSign 2 = .ok (.invokevirtual 292, 3) := by decide +kernel
theorem dX12_takesSign_5 : decode cX12_takesSign 5 = .ok (.ifCond .ne 5, 3) := by decide +kernel
theorem dX12_takesSign_8 : decode cX12_takesSign 8 = .ok (.iconst 0, 1) := by decide +kernel
theorem dX12_takesSign_9 : decode cX12_takesSign 9 = .ok (.ireturn, 1) := by decide +kernel
theorem dX12_takesSign_10 : decode cX12_takesSign 10 = .ok (.aload_n 0, 1) := by decide +kernel
theorem dX12_takesSign_11 : decode cX12_takesSign 11 = .ok (.invokevirtual 295, 3) := by decide +kernel
theorem dX12_takesSign_14 : decode cX12_takesSign 14 = .ok (.iconst 1, 1) := by decide +kernel
theorem dX12_takesSign_15 : decode cX12_takesSign 15 = .ok (.ireturn, 1) := by decide +kernel
theorem dX12_takesWord_0 : decode cX12_takesWord 0 = .ok (.aload_n 0, 1) := by decide +kernel
theorem dX12_takesWord_1 : decode cX12_takesWord 1 = .ok (.iload_n 1, 1) := by decide +kernel
theorem dX12_takesWord_2 : decode cX12_takesWord 2 = .ok (.invokevirtual 298, 3) := by decide +kernel
theorem dX12_takesWord_5 : decode cX12_takesWord 5 = .ok (.ifCond .ne 5, 3) := by decide +kernel
theorem dX12_takesWord_8 : decode cX12_takesWord 8 = .ok (.iconst 0, 1) := by decide +kernel
theorem dX12_takesWord_9 : decode cX12_takesWord 9 = .ok (.ireturn, 1) := by decide +kernel
theorem dX12_takesWord_10 : decode cX12_takesWord 10 = .ok (.aload_n 0, 1) := by decide +kernel
theorem dX12_takesWord_11 : decode cX12_takesWord 11 = .ok (.invokevirtual 295, 3) := by decide +kernel
theorem dX12_takesWord_14 : decode cX12_takesWord 14 = .ok (.iconst 1, 1) := by decide +kernel
theorem dX12_takesWord_15 : decode cX12_takesWord 15 = .ok (.ireturn, 1) := by decide +kernel
set_option maxHeartbeats 4000000 in
set_option maxRecDepth 100000 in
theorem c_X12_next_b (ω : Om) (l : Launch) (μ : M3) (h0 : 0 ≤ μ.1 111 6 ∧ μ.1 111 6 ≤ μ.1 111 7) (h7 : μ.1 111 7 ≤ 3000) (hnn : 0 ≤ nn μ ∧ nn μ ≤ 9 ∧ 9 * wr μ ≤ nn μ) (htg : 0 ≤ μ.1 111 14 ∧ μ.1 111 14 ≤ 3) (hwh : -1 ≤ μ.1 111 11 ∧ μ.1 111 11 ≤ 32) (hNP : NP μ) (hw0 : wr μ = 0) : CtV ω l yX12_next cX12_next 2 6 132 [.ref (oP ω 111)] μ (fun (μ' : M3) => (FrM [111] μ μ') ∧ (∀ j, j ∉ ([6, 8, 9, 10, 11, 12, 13, 15] : List Int) → μ'.1 111 j = μ.1 111 j) ∧ (PM μ') ∧ (wr μ ≤ wr μ' ∧ bd μ ≤ bd μ') ∧ (nn μ ≤ nn μ' ∧ nn μ' ≤ nn μ + 9 * wr μ' ∧ nn μ' ≤ 9 ∧ 9 * wr μ' ≤ nn μ')) := by
  refine CtV.go (by decide) (Nat.le_of_ble_eq_true rfl) (fun ρ p e s m below meth c R ls G hR hret hlk hl => ?_)
  have hx := G.1.1
  have hb := G.1.2.1
  have hl : lv_has ls 2 [(0, .ref (oP ω 111))] := hl
  generalize s.drawn = d0 at G ⊢
  have hw_0 := wr_r (μ := μ)
  refine lv_aload_n hx hb dX12_next_0 rfl (lv_at hl 0 rfl) ?_
  refine xc_iV G (b := 111) (rest := []) (As := []) (c_X12_isWrong ω l μ  ) (wm 9 4 rfl rfl) (wm 9 6 rfl rfl) (wm 0 120 rfl rfl) rfl rfl (by decide) rfl (wm 1 18 rfl rfl) (wm 9 7 rfl rfl) (by decide) hR (by decide) (n := 0) rfl rfl (Nat.le_of_ble_eq_true rfl) hl.1 dX12_next_1 (fun r_2 μ1 ρ d0 H locs hr_r_2 hp G => ?_)
  have hr_r_2 : -2147483648 ≤ r_2 ∧ r_2 ≤ 2147483647 := hr_r_2
  obtain ⟨hsm_3, hp_4⟩ := hp
  have hsm_3 := Eq.symm hsm_3
  subst hsm_3
  refine xb_if_eq (tgt := 8) hx hb (by unfold ir; omega) dX12_next_4 (by decide) (fun c_4 => ?_) (fun c_4 => ?_)
  · refine xl (fun n_9 μ' ls => (FrM [111] μ μ') ∧ (∀ j, j ∉ ([6] : List Int) → μ'.1 111 j = μ.1 111 j) ∧ (μ.1 111 6 ≤ μ'.1 111 6 ∧ μ'.1 111 6 ≤ μ.1 111 7) ∧ n_9 = Int.toNat (μ.1 111 7 - μ'.1 111 6) ∧ lv_has ls 2 [(0, .ref (oP ω 111))]) (fun n_9 ρ μL5 d0 H locs ls hI_l G ih => ?_) _ _ _ _ _ _ _ ⟨FrM.rf, (fun j hj => rfl), (by omega), rfl, lv_sub hl [0] rfl⟩ G
    obtain ⟨FL6, hi_8, hi_9, hn7, hl⟩ := hI_l
    refine lv_aload_n hx hb dX12_next_8 rfl (lv_at hl 0 rfl) ?_
    have e_10 : μL5.1 111 7 = μ.1 111 7 := (hi_8 7 (by decide))
    have e_11 : μL5.1 111 7 = μ.1 111 7 := (hi_8 7 (by decide))
    have e_12 : μL5.1 111 7 = μ.1 111 7 := (hi_8 7 (by decide))
    refine xc_iV G (b := 111) (rest := []) (As := []) (c_X12_here ω l μL5  (by omega) (by omega)) (wm 9 8 rfl rfl) (wm 9 10 rfl rfl) (wm 0 121 rfl rfl) rfl rfl (by decide) rfl (wm 1 18 rfl rfl) (wm 9 11 rfl rfl) (by decide) hR (by decide) (n := 0) rfl rfl (Nat.le_of_ble_eq_true rfl) hl.1 dX12_next_9 (fun r_14 μ13 ρ d0 H locs hr_r_14 hp G => ?_)
    have hr_r_14 : -2147483648 ≤ r_14 ∧ r_14 ≤ 2147483647 := hr_r_14
    obtain ⟨hsm_15, hp_16, hp_17⟩ := hp
    have hsm_15 := Eq.symm hsm_15
    subst hsm_15
    refine lv_bipush (v := iv 10) hx hb dX12_next_12 rfl ?_
    refine xb_icmp_eq (tgt := 26) hx hb (by unfold ir; omega) (by unfold ir; omega) dX12_next_14 (by decide) (fun c_14 => ?_) (fun c_14 => ?_)
    · refine lv_aload_n hx hb dX12_next_26 rfl (lv_at hl 0 rfl) ?_
      refine lv_dup hx hb dX12_next_27 rfl ?_
      refine xa_geti G fd_X12 (a := 111) (x := μL5.1 111 6) 6 rfl (by decide) rfl (wm 7 155 rfl rfl) ⟨rfl, rfl, rfl⟩ dX12_next_28 rfl rfl ?_
      have hr_18 : -2147483648 ≤ μL5.1 111 6 ∧ μL5.1 111 6 ≤ 2147483647 := by have h9 := G.hr (a := 111) (k := 6) rfl; exact h9
      refine lv_iconst (v := iv 1) hx hb dX12_next_31 rfl ?_
      refine xb_iadd hx hb dX12_next_32 ?_
      refine xa_puti G fd_X12 (a := 111) (x := (μL5.1 111 6) + 1) 6 (kz := 6) rfl rfl (by decide) rfl (by unfold ir; omega) (wm 7 155 rfl rfl) ⟨rfl, rfl, rfl, rfl⟩ rfl dX12_next_33 rfl (fun H locs G => ?_)
      refine lv_goto (tgt := 8) hx hb dX12_next_36 (by decide) ?_
      have e_19 : (sv μL5 111 6 ((μL5.1 111 6) + 1)).1 111 6 = (μL5.1 111 6) + 1 := (sv_s _ _ _ _)
      have e_20 : (sv μL5 111 6 ((μL5.1 111 6) + 1)).1 111 6 = (μL5.1 111 6) + 1 := (sv_s _ _ _ _)
      exact ih _ _ _ _ _ _ _ (by omega) ⟨(FrM.put FL6 (by decide)), (fun j hj => ((sv_n _ (fun h9 => hj (by rw [h9.2]; decide))).trans (hi_8 j (fun h9 => hj ((by decide : ∀ x ∈ ([6] : List Int), x ∈ ([6] : List Int)) j h9))))), (by omega), rfl, lv_sub hl [0] rfl⟩ G
    · refine lv_aload_n hx hb dX12_next_17 rfl (lv_at hl 0 rfl) ?_
      have e_21 : μL5.1 111 7 = μ.1 111 7 := (hi_8 7 (by decide))
      have e_22 : μL5.1 111 7 = μ.1 111 7 := (hi_8 7 (by decide))
      have e_23 : μL5.1 111 7 = μ.1 111 7 := (hi_8 7 (by decide))
      refine xc_iV G (b := 111) (rest := []) (As := []) (c_X12_here ω l μL5  (by omega) (by omega)) (wm 9 8 rfl rfl) (wm 9 10 rfl rfl) (wm 0 121 rfl rfl) rfl rfl (by decide) rfl (wm 1 18 rfl rfl) (wm 9 11 rfl rfl) (by decide) hR (by decide) (n := 0) rfl rfl (Nat.le_of_ble_eq_true rfl) hl.1 dX12_next_18 (fun r_25 μ24 ρ d0 H locs hr_r_25 hp G => ?_)
      have hr_r_25 : -2147483648 ≤ r_25 ∧ r_25 ≤ 2147483647 := hr_r_25
      obtain ⟨hsm_26, hp_27, hp_28⟩ := hp
      have hsm_26 := Eq.symm hsm_26
      subst hsm_26
      refine lv_bipush (v := iv 32) hx hb dX12_next_21 rfl ?_
      refine xb_icmp_ne (tgt := 39) hx hb (by unfold ir; omega) (by unfold ir; omega) dX12_next_23 (by decide) (fun c_23 => ?_) (fun c_23 => ?_)
      · refine lv_aload_n hx hb dX12_next_39 rfl (lv_at hl 0 rfl) ?_
        refine lv_aload_n hx hb dX12_next_40 rfl (lv_at hl 0 rfl) ?_
        refine xa_geti G fd_X12 (a := 111) (x := μL5.1 111 6) 6 rfl (by decide) rfl (wm 7 155 rfl rfl) ⟨rfl, rfl, rfl⟩ dX12_next_41 rfl rfl ?_
        have hr_29 : -2147483648 ≤ μL5.1 111 6 ∧ μL5.1 111 6 ≤ 2147483647 := by have h9 := G.hr (a := 111) (k := 6) rfl; exact h9
        refine xa_puti G fd_X12 (a := 111) (x := μL5.1 111 6) 9 (kz := 9) rfl rfl (by decide) rfl (by unfold ir; omega) (wm 7 158 rfl rfl) ⟨rfl, rfl, rfl, rfl⟩ rfl dX12_next_44 rfl (fun H locs G => ?_)
        refine lv_aload_n hx hb dX12_next_47 rfl (lv_at hl 0 rfl) ?_
        have e_30 : (sv μL5 111 9 (μL5.1 111 6)).1 111 6 = μL5.1 111 6 := (sv_n _ (by decide))
        have e_31 : (sv μL5 111 9 (μL5.1 111 6)).1 111 6 = μL5.1 111 6 := (sv_n _ (by decide))
        have e_32 : (sv μL5 111 9 (μL5.1 111 6)).1 111 7 = μ.1 111 7 := ((sv_n _ (by decide)).trans (hi_8 7 (by decide)))
        have e_33 : (sv μL5 111 9 (μL5.1 111 6)).1 111 7 = μ.1 111 7 := ((sv_n _ (by decide)).trans (hi_8 7 (by decide)))
        have e_34 : (sv μL5 111 9 (μL5.1 111 6)).1 111 6 = μL5.1 111 6 := (sv_n _ (by decide))
        have e_35 : (sv μL5 111 9 (μL5.1 111 6)).1 111 7 = μ.1 111 7 := ((sv_n _ (by decide)).trans (hi_8 7 (by decide)))
        refine xc_iV G (b := 111) (rest := []) (As := []) (c_X12_here ω l (sv μL5 111 9 (μL5.1 111 6))  (by omega) (by omega)) (wm 9 8 rfl rfl) (wm 9 10 rfl rfl) (wm 0 121 rfl rfl) rfl rfl (by decide) rfl (wm 1 18 rfl rfl) (wm 9 11 rfl rfl) (by decide) hR (by decide) (n := 0) rfl rfl (Nat.le_of_ble_eq_true rfl) hl.1 dX12_next_48 (fun r_37 μ36 ρ d0 H locs hr_r_37 hp G => ?_)
        have hr_r_37 : -2147483648 ≤ r_37 ∧ r_37 ≤ 2147483647 := hr_r_37
        obtain ⟨hsm_38, hp_39, hp_40⟩ := hp
        have hsm_38 := Eq.symm hsm_38
        subst hsm_38
        refine lv_istore_n (lv' := [(1, .int (iv r_37)), (0, .ref (oP ω 111))]) hx hb dX12_next_51 rfl hl (by decide) rfl (fun ls hl => ?_)
        refine lv_iload_n hx hb dX12_next_52 rfl (lv_at hl 0 rfl) ?_
        refine xb_if_ge (tgt := 64) hx hb (by unfold ir; omega) dX12_next_53 (by decide) (fun c_53 => ?_) (fun c_53 => ?_)
        · refine lv_iload_n hx hb dX12_next_64 rfl (lv_at hl 0 rfl) ?_
          refine xc_iS G (rest := []) (As := [.int (iv r_37)]) (c_X12_isLetter ω l (sv μL5 111 9 (μL5.1 111 6)) r_37 (by unfold ir; omega)) (wm 9 12 rfl rfl) (wm 9 13 rfl rfl) (wm 1 18 rfl rfl) (wm 9 14 rfl rfl) (by decide) hR (by decide) (n := 1) rfl rfl (Nat.le_of_ble_eq_true rfl) hl.1 dX12_next_65 (fun r_42 μ41 ρ d0 H locs hr_r_42 hp G => ?_)
          have hr_r_42 : -2147483648 ≤ r_42 ∧ r_42 ≤ 2147483647 := hr_r_42
          obtain ⟨hsm_43, hp_44⟩ := hp
          have hsm_43 := Eq.symm hsm_43
          subst hsm_43
          refine xb_if_eq (tgt := 78) hx hb (by unfold ir; omega) dX12_next_68 (by decide) (fun c_68 => ?_) (fun c_68 => ?_)
          · refine lv_iload_n hx hb dX12_next_78 rfl (lv_at hl 0 rfl) ?_
            refine xc_iS G (rest := []) (As := [.int (iv r_37)]) (c_X12_isDigit ω l (sv μL5 111 9 (μL5.1 111 6)) r_37 (by unfold ir; omega)) (wm 9 19 rfl rfl) (wm 9 20 rfl rfl) (wm 1 18 rfl rfl) (wm 9 21 rfl rfl) (by decide) hR (by decide) (n := 1) rfl rfl (Nat.le_of_ble_eq_true rfl) hl.1 dX12_next_79 (fun r_46 μ45 ρ d0 H locs hr_r_46 hp G => ?_)
            have hr_r_46 : -2147483648 ≤ r_46 ∧ r_46 ≤ 2147483647 := hr_r_46
            obtain ⟨hsm_47, hp_48⟩ := hp
            have hsm_47 := Eq.symm hsm_47
            subst hsm_47
            refine xb_if_eq (tgt := 92) hx hb (by unfold ir; omega) dX12_next_82 (by decide) (fun c_82 => ?_) (fun c_82 => ?_)
            · refine lv_aload_n hx hb dX12_next_92 rfl (lv_at hl 1 rfl) ?_
              refine lv_iload_n hx hb dX12_next_93 rfl (lv_at hl 0 rfl) ?_
              have e_49 : (sv μL5 111 9 (μL5.1 111 6)).1 111 6 = μL5.1 111 6 := (sv_n _ (by decide))
              have e_50 : (sv μL5 111 9 (μL5.1 111 6)).1 111 6 = μL5.1 111 6 := (sv_n _ (by decide))
              have e_51 : (sv μL5 111 9 (μL5.1 111 6)).1 111 7 = μ.1 111 7 := ((sv_n _ (by decide)).trans (hi_8 7 (by decide)))
              have e_52 : (sv μL5 111 9 (μL5.1 111 6)).1 111 7 = μ.1 111 7 := ((sv_n _ (by decide)).trans (hi_8 7 (by decide)))
              have e_53 : wr (sv μL5 111 9 (μL5.1 111 6)) = wr μ := ((wr_cg (sv_n _ (by decide))).trans (wr_cg (hi_8 15 (by decide))))
              have e_54 : nn (sv μL5 111 9 (μL5.1 111 6)) = nn μ := ((nn_cg (sv_n _ (by decide)) (sv_n _ (by decide))).trans (nn_cg (hi_8 15 (by decide)) (hi_8 18 (by decide))))
              have e_55 : (sv μL5 111 9 (μL5.1 111 6)).1 111 6 = μL5.1 111 6 := (sv_n _ (by decide))
              have e_56 : (sv μL5 111 9 (μL5.1 111 6)).1 111 7 = μ.1 111 7 := ((sv_n _ (by decide)).trans (hi_8 7 (by decide)))
              have e_57 : (sv μL5 111 9 (μL5.1 111 6)).1 111 9 = μL5.1 111 6 := (sv_s _ _ _ _)
              have e_58 : (sv μL5 111 9 (μL5.1 111 6)).1 111 6 = μL5.1 111 6 := (sv_n _ (by decide))
              have e_59 : (sv μL5 111 9 (μL5.1 111 6)).1 111 7 = μ.1 111 7 := ((sv_n _ (by decide)).trans (hi_8 7 (by decide)))
              have e_60 : wr (sv μL5 111 9 (μL5.1 111 6)) = wr μ := ((wr_cg (sv_n _ (by decide))).trans (wr_cg (hi_8 15 (by decide))))
              have e_61 : bd (sv μL5 111 9 (μL5.1 111 6)) = bd μ := ((bd_cg (sv_n _ (by decide)) (sv_n _ (by decide)) (sv_n _ (by decide))).trans (bd_cg (hi_8 15 (by decide)) (hi_8 16 (by decide)) (hi_8 17 (by decide))))
              have e_62 : nn (sv μL5 111 9 (μL5.1 111 6)) = nn μ := ((nn_cg (sv_n _ (by decide)) (sv_n _ (by decide))).trans (nn_cg (hi_8 15 (by decide)) (hi_8 18 (by decide))))
              refine xc_vV G (b := 111) (rest := []) (As := [.int (iv r_37)]) (c_X12_signs ω l (sv μL5 111 9 (μL5.1 111 6)) r_37 (by unfold ir; omega) (by omega) (by omega) (by omega) (by omega) (by omega)) (wm 9 54 rfl rfl) (wm 9 56 rfl rfl) (wm 0 126 rfl rfl) rfl rfl (by decide) rfl (wm 1 18 rfl rfl) (wm 9 57 rfl rfl) (by decide) hR (by decide) (n := 1) rfl rfl (Nat.le_of_ble_eq_true rfl) hl.1 dX12_next_94 (fun μ63 ρ d0 H locs hp G => ?_)
              obtain ⟨F_64, hp_65, hp_66, hp_67, hp_68, hp_69⟩ := hp
              have hw_70 := wr_r (μ := μ63)
              have e_72 : μ63.1 111 7 = μ.1 111 7 := ((hp_65 7 (by decide)).trans ((sv_n _ (by decide)).trans (hi_8 7 (by decide))))
              have e_73 : μ63.1 111 9 = μL5.1 111 6 := ((hp_65 9 (by decide)).trans (sv_s _ _ _ _))
              have e_74 : μ63.1 111 11 = μ.1 111 11 := ((hp_65 11 (by decide)).trans ((sv_n _ (by decide)).trans (hi_8 11 (by decide))))
              have e_75 : μ63.1 111 14 = μ.1 111 14 := ((hp_65 14 (by decide)).trans ((sv_n _ (by decide)).trans (hi_8 14 (by decide))))
              have hPM_71 : PM μ63 := ⟨by
                have hw9 := wr_0 (μ := μ63)
                refine ⟨by omega, by omega, ?_, by omega, by omega, fun q => absurd q (by omega)⟩
                by_cases q9 : μ63.1 111 8 = 4
                · exact Or.inl q9
                · exact Or.inr (Or.inl (by omega))
                , (hNP.cg ((hp_65 4 (by decide)).trans ((sv_n _ (by decide)).trans (hi_8 4 (by decide)))) ((hp_65 29 (by decide)).trans ((sv_n _ (by decide)).trans (hi_8 29 (by decide)))) (fun j => ((F_64.1 123 (by decide) j).trans ((sv_n _ (by omega)).trans (FL6.1 123 (by decide) j)))))⟩
              exact xr_v G hret hlk dX12_next_97 ⟨(FrM.tr (FrM.put (FrM.tr FrM.rf FL6 (by decide)) (by decide)) F_64 (by decide)), (fun j hj => ((hp_65 j (fun h9 => hj ((by decide : ∀ x ∈ ([6, 8, 13, 15] : List Int), x ∈ ([6, 8, 9, 10, 11, 12, 13, 15] : List Int)) j h9))).trans ((sv_n _ (fun h9 => hj (by rw [h9.2]; decide))).trans (hi_8 j (fun h9 => hj ((by decide : ∀ x ∈ ([6] : List Int), x ∈ ([6, 8, 9, 10, 11, 12, 13, 15] : List Int)) j h9)))))), hPM_71, (by omega), (by omega)⟩
            · refine lv_aload_n hx hb dX12_next_85 rfl (lv_at hl 1 rfl) ?_
              have e_76 : (sv μL5 111 9 (μL5.1 111 6)).1 111 6 = μL5.1 111 6 := (sv_n _ (by decide))
              have e_77 : (sv μL5 111 9 (μL5.1 111 6)).1 111 6 = μL5.1 111 6 := (sv_n _ (by decide))
              have e_78 : (sv μL5 111 9 (μL5.1 111 6)).1 111 7 = μ.1 111 7 := ((sv_n _ (by decide)).trans (hi_8 7 (by decide)))
              have e_79 : (sv μL5 111 9 (μL5.1 111 6)).1 111 7 = μ.1 111 7 := ((sv_n _ (by decide)).trans (hi_8 7 (by decide)))
              have e_80 : wr (sv μL5 111 9 (μL5.1 111 6)) = wr μ := ((wr_cg (sv_n _ (by decide))).trans (wr_cg (hi_8 15 (by decide))))
              have e_81 : nn (sv μL5 111 9 (μL5.1 111 6)) = nn μ := ((nn_cg (sv_n _ (by decide)) (sv_n _ (by decide))).trans (nn_cg (hi_8 15 (by decide)) (hi_8 18 (by decide))))
              have e_82 : (sv μL5 111 9 (μL5.1 111 6)).1 111 9 = μL5.1 111 6 := (sv_s _ _ _ _)
              have e_83 : (sv μL5 111 9 (μL5.1 111 6)).1 111 6 = μL5.1 111 6 := (sv_n _ (by decide))
              have e_84 : (sv μL5 111 9 (μL5.1 111 6)).1 111 7 = μ.1 111 7 := ((sv_n _ (by decide)).trans (hi_8 7 (by decide)))
              have e_85 : wr (sv μL5 111 9 (μL5.1 111 6)) = wr μ := ((wr_cg (sv_n _ (by decide))).trans (wr_cg (hi_8 15 (by decide))))
              have e_86 : bd (sv μL5 111 9 (μL5.1 111 6)) = bd μ := ((bd_cg (sv_n _ (by decide)) (sv_n _ (by decide)) (sv_n _ (by decide))).trans (bd_cg (hi_8 15 (by decide)) (hi_8 16 (by decide)) (hi_8 17 (by decide))))
              have e_87 : nn (sv μL5 111 9 (μL5.1 111 6)) = nn μ := ((nn_cg (sv_n _ (by decide)) (sv_n _ (by decide))).trans (nn_cg (hi_8 15 (by decide)) (hi_8 18 (by decide))))
              refine xc_vV G (b := 111) (rest := []) (As := []) (c_X12_counts ω l (sv μL5 111 9 (μL5.1 111 6))  (by omega) (by omega) (by omega) (by omega) (by omega)) (wm 9 30 rfl rfl) (wm 9 32 rfl rfl) (wm 0 124 rfl rfl) rfl rfl (by decide) rfl (wm 1 18 rfl rfl) (wm 9 33 rfl rfl) (by decide) hR (by decide) (n := 0) rfl rfl (Nat.le_of_ble_eq_true rfl) hl.1 dX12_next_86 (fun μ88 ρ d0 H locs hp G => ?_)
              obtain ⟨F_89, hp_90, hp_91, hp_92, hp_93, hp_94, hp_95⟩ := hp
              have hw_96 := wr_r (μ := μ88)
              refine lv_goto (tgt := 97) hx hb dX12_next_89 (by decide) ?_
              have e_98 : μ88.1 111 7 = μ.1 111 7 := ((hp_90 7 (by decide)).trans ((sv_n _ (by decide)).trans (hi_8 7 (by decide))))
              have e_99 : μ88.1 111 9 = μL5.1 111 6 := ((hp_90 9 (by decide)).trans (sv_s _ _ _ _))
              have e_100 : μ88.1 111 11 = μ.1 111 11 := ((hp_90 11 (by decide)).trans ((sv_n _ (by decide)).trans (hi_8 11 (by decide))))
              have e_101 : μ88.1 111 14 = μ.1 111 14 := ((hp_90 14 (by decide)).trans ((sv_n _ (by decide)).trans (hi_8 14 (by decide))))
              have hPM_97 : PM μ88 := ⟨by
                have hw9 := wr_0 (μ := μ88)
                refine ⟨by omega, by omega, ?_, by omega, by omega, fun _ q2 q3 => hp_93 () (by have h8 : (sv μL5 111 9 (μL5.1 111 6)).1 111 14 = μ.1 111 14 := ((sv_n _ (by decide)).trans (hi_8 14 (by decide))); have h9 : μ88.1 111 14 = μ.1 111 14 := ((hp_90 14 (by decide)).trans ((sv_n _ (by decide)).trans (hi_8 14 (by decide)))); omega) (hw9.2 q3)⟩
                by_cases q9 : μ88.1 111 8 = 4
                · exact Or.inl q9
                · exact Or.inr (Or.inl (by omega))
                , (hNP.cg ((hp_90 4 (by decide)).trans ((sv_n _ (by decide)).trans (hi_8 4 (by decide)))) ((hp_90 29 (by decide)).trans ((sv_n _ (by decide)).trans (hi_8 29 (by decide)))) (fun j => ((F_89.1 123 (by decide) j).trans ((sv_n _ (by omega)).trans (FL6.1 123 (by decide) j)))))⟩
              exact xr_v G hret hlk dX12_next_97 ⟨(FrM.tr (FrM.put (FrM.tr FrM.rf FL6 (by decide)) (by decide)) F_89 (by decide)), (fun j hj => ((hp_90 j (fun h9 => hj ((by decide : ∀ x ∈ ([6, 8, 12, 15] : List Int), x ∈ ([6, 8, 9, 10, 11, 12, 13, 15] : List Int)) j h9))).trans ((sv_n _ (fun h9 => hj (by rw [h9.2]; decide))).trans (hi_8 j (fun h9 => hj ((by decide : ∀ x ∈ ([6] : List Int), x ∈ ([6, 8, 9, 10, 11, 12, 13, 15] : List Int)) j h9)))))), hPM_97, (by omega), (by omega)⟩
          · refine lv_aload_n hx hb dX12_next_71 rfl (lv_at hl 1 rfl) ?_
            have e_102 : (sv μL5 111 9 (μL5.1 111 6)).1 111 6 = μL5.1 111 6 := (sv_n _ (by decide))
            have e_103 : (sv μL5 111 9 (μL5.1 111 6)).1 111 6 = μL5.1 111 6 := (sv_n _ (by decide))
            have e_104 : (sv μL5 111 9 (μL5.1 111 6)).1 111 7 = μ.1 111 7 := ((sv_n _ (by decide)).trans (hi_8 7 (by decide)))
            have e_105 : (sv μL5 111 9 (μL5.1 111 6)).1 111 7 = μ.1 111 7 := ((sv_n _ (by decide)).trans (hi_8 7 (by decide)))
            have e_106 : wr (sv μL5 111 9 (μL5.1 111 6)) = wr μ := ((wr_cg (sv_n _ (by decide))).trans (wr_cg (hi_8 15 (by decide))))
            have e_107 : nn (sv μL5 111 9 (μL5.1 111 6)) = nn μ := ((nn_cg (sv_n _ (by decide)) (sv_n _ (by decide))).trans (nn_cg (hi_8 15 (by decide)) (hi_8 18 (by decide))))
            have e_108 : (sv μL5 111 9 (μL5.1 111 6)).1 111 9 = μL5.1 111 6 := (sv_s _ _ _ _)
            have e_109 : (sv μL5 111 9 (μL5.1 111 6)).1 111 6 = μL5.1 111 6 := (sv_n _ (by decide))
            have e_110 : (sv μL5 111 9 (μL5.1 111 6)).1 111 7 = μ.1 111 7 := ((sv_n _ (by decide)).trans (hi_8 7 (by decide)))
            have e_111 : wr (sv μL5 111 9 (μL5.1 111 6)) = wr μ := ((wr_cg (sv_n _ (by decide))).trans (wr_cg (hi_8 15 (by decide))))
            have e_112 : bd (sv μL5 111 9 (μL5.1 111 6)) = bd μ := ((bd_cg (sv_n _ (by decide)) (sv_n _ (by decide)) (sv_n _ (by decide))).trans (bd_cg (hi_8 15 (by decide)) (hi_8 16 (by decide)) (hi_8 17 (by decide))))
            have e_113 : nn (sv μL5 111 9 (μL5.1 111 6)) = nn μ := ((nn_cg (sv_n _ (by decide)) (sv_n _ (by decide))).trans (nn_cg (hi_8 15 (by decide)) (hi_8 18 (by decide))))
            refine xc_vV G (b := 111) (rest := []) (As := []) (c_X12_spells ω l (sv μL5 111 9 (μL5.1 111 6))  (by omega) (by omega) (by omega) (by omega) (by omega)) (wm 9 15 rfl rfl) (wm 9 17 rfl rfl) (wm 0 122 rfl rfl) rfl rfl (by decide) rfl (wm 1 18 rfl rfl) (wm 9 18 rfl rfl) (by decide) hR (by decide) (n := 0) rfl rfl (Nat.le_of_ble_eq_true rfl) hl.1 dX12_next_72 (fun μ114 ρ d0 H locs hp G => ?_)
            obtain ⟨F_115, hp_116, hp_117, hp_118, hp_119, hp_120, hp_121⟩ := hp
            have hw_122 := wr_r (μ := μ114)
            refine lv_goto (tgt := 97) hx hb dX12_next_75 (by decide) ?_
            have e_124 : μ114.1 111 7 = μ.1 111 7 := ((hp_116 7 (by decide)).trans ((sv_n _ (by decide)).trans (hi_8 7 (by decide))))
            have e_125 : μ114.1 111 9 = μL5.1 111 6 := ((hp_116 9 (by decide)).trans (sv_s _ _ _ _))
            have e_126 : μ114.1 111 14 = μ.1 111 14 := ((hp_116 14 (by decide)).trans ((sv_n _ (by decide)).trans (hi_8 14 (by decide))))
            have hPM_123 : PM μ114 := ⟨by
              have hw9 := wr_0 (μ := μ114)
              refine ⟨by omega, by omega, ?_, by omega, by omega, fun q => absurd q (by omega)⟩
              by_cases q9 : μ114.1 111 8 = 4
              · exact Or.inl q9
              · exact Or.inr (Or.inl (by omega))
              , (hNP.cg ((hp_116 4 (by decide)).trans ((sv_n _ (by decide)).trans (hi_8 4 (by decide)))) ((hp_116 29 (by decide)).trans ((sv_n _ (by decide)).trans (hi_8 29 (by decide)))) (fun j => ((F_115.1 123 (by decide) j).trans ((sv_n _ (by omega)).trans (FL6.1 123 (by decide) j)))))⟩
            exact xr_v G hret hlk dX12_next_97 ⟨(FrM.tr (FrM.put (FrM.tr FrM.rf FL6 (by decide)) (by decide)) F_115 (by decide)), (fun j hj => ((hp_116 j (fun h9 => hj ((by decide : ∀ x ∈ ([6, 8, 10, 11, 15] : List Int), x ∈ ([6, 8, 9, 10, 11, 12, 13, 15] : List Int)) j h9))).trans ((sv_n _ (fun h9 => hj (by rw [h9.2]; decide))).trans (hi_8 j (fun h9 => hj ((by decide : ∀ x ∈ ([6] : List Int), x ∈ ([6, 8, 9, 10, 11, 12, 13, 15] : List Int)) j h9)))))), hPM_123, (by omega), (by omega)⟩
        · refine lv_aload_n hx hb dX12_next_56 rfl (lv_at hl 1 rfl) ?_
          refine lv_iconst (v := iv 4) hx hb dX12_next_57 rfl ?_
          refine xa_puti G fd_X12 (a := 111) (x := 4) 8 (kz := 8) rfl rfl (by decide) rfl (by unfold ir; omega) (wm 7 157 rfl rfl) ⟨rfl, rfl, rfl, rfl⟩ rfl dX12_next_58 rfl (fun H locs G => ?_)
          refine lv_goto (tgt := 97) hx hb dX12_next_61 (by decide) ?_
          have e_128 : (sv (sv μL5 111 9 (μL5.1 111 6)) 111 8 4).1 111 6 = μL5.1 111 6 := ((sv_n _ (by decide)).trans (sv_n _ (by decide)))
          have e_129 : (sv (sv μL5 111 9 (μL5.1 111 6)) 111 8 4).1 111 7 = μ.1 111 7 := ((sv_n _ (by decide)).trans ((sv_n _ (by decide)).trans (hi_8 7 (by decide))))
          have e_130 : (sv (sv μL5 111 9 (μL5.1 111 6)) 111 8 4).1 111 8 = 4 := (sv_s _ _ _ _)
          have e_131 : (sv (sv μL5 111 9 (μL5.1 111 6)) 111 8 4).1 111 9 = μL5.1 111 6 := ((sv_n _ (by decide)).trans (sv_s _ _ _ _))
          have e_132 : (sv (sv μL5 111 9 (μL5.1 111 6)) 111 8 4).1 111 11 = μ.1 111 11 := ((sv_n _ (by decide)).trans ((sv_n _ (by decide)).trans (hi_8 11 (by decide))))
          have e_133 : (sv (sv μL5 111 9 (μL5.1 111 6)) 111 8 4).1 111 14 = μ.1 111 14 := ((sv_n _ (by decide)).trans ((sv_n _ (by decide)).trans (hi_8 14 (by decide))))
          have e_134 : wr (sv (sv μL5 111 9 (μL5.1 111 6)) 111 8 4) = wr μ := ((wr_cg (sv_n _ (by decide))).trans ((wr_cg (sv_n _ (by decide))).trans (wr_cg (hi_8 15 (by decide)))))
          have hPM_127 : PM (sv (sv μL5 111 9 (μL5.1 111 6)) 111 8 4) := ⟨by
            have hw9 := wr_0 (μ := (sv (sv μL5 111 9 (μL5.1 111 6)) 111 8 4))
            refine ⟨by omega, by omega, ?_, by omega, by omega, fun q => absurd q (by omega)⟩
            by_cases q9 : (sv (sv μL5 111 9 (μL5.1 111 6)) 111 8 4).1 111 8 = 4
            · exact Or.inl q9
            · exact Or.inr (Or.inl (by omega))
            , (hNP.cg ((sv_n _ (by decide)).trans ((sv_n _ (by decide)).trans (hi_8 4 (by decide)))) ((sv_n _ (by decide)).trans ((sv_n _ (by decide)).trans (hi_8 29 (by decide)))) (fun j => ((sv_n _ (by omega)).trans ((sv_n _ (by omega)).trans (FL6.1 123 (by decide) j)))))⟩
          have e_135 : wr (sv (sv μL5 111 9 (μL5.1 111 6)) 111 8 4) = wr μ := ((wr_cg (sv_n _ (by decide))).trans ((wr_cg (sv_n _ (by decide))).trans (wr_cg (hi_8 15 (by decide)))))
          have e_136 : bd (sv (sv μL5 111 9 (μL5.1 111 6)) 111 8 4) = bd μ := ((bd_cg (sv_n _ (by decide)) (sv_n _ (by decide)) (sv_n _ (by decide))).trans ((bd_cg (sv_n _ (by decide)) (sv_n _ (by decide)) (sv_n _ (by decide))).trans (bd_cg (hi_8 15 (by decide)) (hi_8 16 (by decide)) (hi_8 17 (by decide)))))
          have e_137 : wr (sv (sv μL5 111 9 (μL5.1 111 6)) 111 8 4) = wr μ := ((wr_cg (sv_n _ (by decide))).trans ((wr_cg (sv_n _ (by decide))).trans (wr_cg (hi_8 15 (by decide)))))
          have e_138 : nn (sv (sv μL5 111 9 (μL5.1 111 6)) 111 8 4) = nn μ := ((nn_cg (sv_n _ (by decide)) (sv_n _ (by decide))).trans ((nn_cg (sv_n _ (by decide)) (sv_n _ (by decide))).trans (nn_cg (hi_8 15 (by decide)) (hi_8 18 (by decide)))))
          exact xr_v G hret hlk dX12_next_97 ⟨(FrM.put (FrM.put (FrM.tr FrM.rf FL6 (by decide)) (by decide)) (by decide)), (fun j hj => ((sv_n _ (fun h9 => hj (by rw [h9.2]; decide))).trans ((sv_n _ (fun h9 => hj (by rw [h9.2]; decide))).trans (hi_8 j (fun h9 => hj ((by decide : ∀ x ∈ ([6] : List Int), x ∈ ([6, 8, 9, 10, 11, 12, 13, 15] : List Int)) j h9)))))), hPM_127, (by omega), (by omega)⟩
      · refine lv_aload_n hx hb dX12_next_26 rfl (lv_at hl 0 rfl) ?_
        refine lv_dup hx hb dX12_next_27 rfl ?_
        refine xa_geti G fd_X12 (a := 111) (x := μL5.1 111 6) 6 rfl (by decide) rfl (wm 7 155 rfl rfl) ⟨rfl, rfl, rfl⟩ dX12_next_28 rfl rfl ?_
        have hr_139 : -2147483648 ≤ μL5.1 111 6 ∧ μL5.1 111 6 ≤ 2147483647 := by have h9 := G.hr (a := 111) (k := 6) rfl; exact h9
        refine lv_iconst (v := iv 1) hx hb dX12_next_31 rfl ?_
        refine xb_iadd hx hb dX12_next_32 ?_
        refine xa_puti G fd_X12 (a := 111) (x := (μL5.1 111 6) + 1) 6 (kz := 6) rfl rfl (by decide) rfl (by unfold ir; omega) (wm 7 155 rfl rfl) ⟨rfl, rfl, rfl, rfl⟩ rfl dX12_next_33 rfl (fun H locs G => ?_)
        refine lv_goto (tgt := 8) hx hb dX12_next_36 (by decide) ?_
        have e_140 : (sv μL5 111 6 ((μL5.1 111 6) + 1)).1 111 6 = (μL5.1 111 6) + 1 := (sv_s _ _ _ _)
        have e_141 : (sv μL5 111 6 ((μL5.1 111 6) + 1)).1 111 6 = (μL5.1 111 6) + 1 := (sv_s _ _ _ _)
        exact ih _ _ _ _ _ _ _ (by omega) ⟨(FrM.put FL6 (by decide)), (fun j hj => ((sv_n _ (fun h9 => hj (by rw [h9.2]; decide))).trans (hi_8 j (fun h9 => hj ((by decide : ∀ x ∈ ([6] : List Int), x ∈ ([6] : List Int)) j h9))))), (by omega), rfl, lv_sub hl [0] rfl⟩ G
  · exact xr_v G hret hlk dX12_next_7 ⟨FrM.rf, (fun j hj => rfl), (by exfalso; omega), (by omega), (by omega)⟩

set_option maxHeartbeats 4000000 in
set_option maxRecDepth 100000 in
theorem c_X12_next (ω : Om) (l : Launch) (μ : M3) (hPM : PM μ) (hnn : 0 ≤ nn μ ∧ nn μ ≤ 9 ∧ 9 * wr μ ≤ nn μ) (hne : μ.1 111 8 ≠ 4 ∨ wr μ = 1) : CtV ω l yX12_next cX12_next 2 6 132 [.ref (oP ω 111)] μ (fun (μ' : M3) => (FrM [111] μ μ') ∧ (∀ j, j ∉ ([6, 8, 9, 10, 11, 12, 13, 15] : List Int) → μ'.1 111 j = μ.1 111 j) ∧ (PM μ') ∧ (μ.1 111 9 + 1 ≤ μ'.1 111 9 + wr μ) ∧ (wr μ ≤ wr μ' ∧ bd μ ≤ bd μ') ∧ (nn μ ≤ nn μ' ∧ nn μ' ≤ nn μ + 9 * wr μ' ∧ nn μ' ≤ 9 ∧ 9 * wr μ' ≤ nn μ')) := by
  refine CtV.go (by decide) (Nat.le_of_ble_eq_true rfl) (fun ρ p e s m below meth c R ls G hR hret hlk hl => ?_)
  have hx := G.1.1
  have hb := G.1.2.1
  have hl : lv_has ls 2 [(0, .ref (oP ω 111))] := hl
  generalize s.drawn = d0 at G ⊢
  have hw_0 := wr_r (μ := μ)
  have hpp_ := hPM.1.2.1
  have hpn_ := hPM.2.1
  have hpt_ := hPM.1.2.2.2.1
  have hpw_ := hPM.1.2.2.2.2.1
  have hpa_ := hPM.1.1
  obtain ⟨ht1, ht2, ht3, ht4, ht5, ht6⟩ := id hPM.1
  have hnp := hPM.2.1
  replace ht6 := fun _ : Unit => ht6
  replace ht3 := fun _ : Unit => ht3
  have ht7 : wr μ = 0 → μ.1 111 9 + 1 ≤ μ.1 111 6 := fun h => by have h9 := ht3 (); have h8 := (wr_0 (μ := μ)).1 h; rcases h9 with q | q | q; (rcases hne with z | z; exact absurd q z; omega); exact q; exact absurd h8 q
  have ht8 : μ.1 111 9 + 1 ≤ μ.1 111 6 + 4000 * wr μ := by by_cases h : wr μ = 0; (have := ht7 h; omega); omega
  clear ht7
  replace hne := fun _ : Unit => hne
  refine lv_aload_n hx hb dX12_next_0 rfl (lv_at hl 0 rfl) ?_
  refine xc_iV G (b := 111) (rest := []) (As := []) (c_X12_isWrong ω l μ  ) (wm 9 4 rfl rfl) (wm 9 6 rfl rfl) (wm 0 120 rfl rfl) rfl rfl (by decide) rfl (wm 1 18 rfl rfl) (wm 9 7 rfl rfl) (by decide) hR (by decide) (n := 0) rfl rfl (Nat.le_of_ble_eq_true rfl) hl.1 dX12_next_1 (fun r_2 μ1 ρ d0 H locs hr_r_2 hp G => ?_)
  have hr_r_2 : -2147483648 ≤ r_2 ∧ r_2 ≤ 2147483647 := hr_r_2
  obtain ⟨hsm_3, hp_4⟩ := hp
  have hsm_3 := Eq.symm hsm_3
  subst hsm_3
  refine xb_if_eq (tgt := 8) hx hb (by unfold ir; omega) dX12_next_4 (by decide) (fun c_4 => ?_) (fun c_4 => ?_)
  · refine xl (fun n_9 μ' ls => (FrM [111] μ μ') ∧ (∀ j, j ∉ ([6] : List Int) → μ'.1 111 j = μ.1 111 j) ∧ (μ.1 111 6 ≤ μ'.1 111 6 ∧ μ'.1 111 6 ≤ μ.1 111 7) ∧ n_9 = Int.toNat (μ.1 111 7 - μ'.1 111 6) ∧ lv_has ls 2 [(0, .ref (oP ω 111))]) (fun n_9 ρ μL5 d0 H locs ls hI_l G ih => ?_) _ _ _ _ _ _ _ ⟨FrM.rf, (fun j hj => rfl), (by omega), rfl, lv_sub hl [0] rfl⟩ G
    obtain ⟨FL6, hi_8, hi_9, hn7, hl⟩ := hI_l
    refine lv_aload_n hx hb dX12_next_8 rfl (lv_at hl 0 rfl) ?_
    have e_10 : μL5.1 111 7 = μ.1 111 7 := (hi_8 7 (by decide))
    have e_11 : μL5.1 111 7 = μ.1 111 7 := (hi_8 7 (by decide))
    have e_12 : μL5.1 111 7 = μ.1 111 7 := (hi_8 7 (by decide))
    refine xc_iV G (b := 111) (rest := []) (As := []) (c_X12_here ω l μL5  (by omega) (by omega)) (wm 9 8 rfl rfl) (wm 9 10 rfl rfl) (wm 0 121 rfl rfl) rfl rfl (by decide) rfl (wm 1 18 rfl rfl) (wm 9 11 rfl rfl) (by decide) hR (by decide) (n := 0) rfl rfl (Nat.le_of_ble_eq_true rfl) hl.1 dX12_next_9 (fun r_14 μ13 ρ d0 H locs hr_r_14 hp G => ?_)
    have hr_r_14 : -2147483648 ≤ r_14 ∧ r_14 ≤ 2147483647 := hr_r_14
    obtain ⟨hsm_15, hp_16, hp_17⟩ := hp
    have hsm_15 := Eq.symm hsm_15
    subst hsm_15
    refine lv_bipush (v := iv 10) hx hb dX12_next_12 rfl ?_
    refine xb_icmp_eq (tgt := 26) hx hb (by unfold ir; omega) (by unfold ir; omega) dX12_next_14 (by decide) (fun c_14 => ?_) (fun c_14 => ?_)
    · refine lv_aload_n hx hb dX12_next_26 rfl (lv_at hl 0 rfl) ?_
      refine lv_dup hx hb dX12_next_27 rfl ?_
      refine xa_geti G fd_X12 (a := 111) (x := μL5.1 111 6) 6 rfl (by decide) rfl (wm 7 155 rfl rfl) ⟨rfl, rfl, rfl⟩ dX12_next_28 rfl rfl ?_
      have hr_18 : -2147483648 ≤ μL5.1 111 6 ∧ μL5.1 111 6 ≤ 2147483647 := by have h9 := G.hr (a := 111) (k := 6) rfl; exact h9
      refine lv_iconst (v := iv 1) hx hb dX12_next_31 rfl ?_
      refine xb_iadd hx hb dX12_next_32 ?_
      refine xa_puti G fd_X12 (a := 111) (x := (μL5.1 111 6) + 1) 6 (kz := 6) rfl rfl (by decide) rfl (by unfold ir; omega) (wm 7 155 rfl rfl) ⟨rfl, rfl, rfl, rfl⟩ rfl dX12_next_33 rfl (fun H locs G => ?_)
      refine lv_goto (tgt := 8) hx hb dX12_next_36 (by decide) ?_
      have e_19 : (sv μL5 111 6 ((μL5.1 111 6) + 1)).1 111 6 = (μL5.1 111 6) + 1 := (sv_s _ _ _ _)
      have e_20 : (sv μL5 111 6 ((μL5.1 111 6) + 1)).1 111 6 = (μL5.1 111 6) + 1 := (sv_s _ _ _ _)
      exact ih _ _ _ _ _ _ _ (by omega) ⟨(FrM.put FL6 (by decide)), (fun j hj => ((sv_n _ (fun h9 => hj (by rw [h9.2]; decide))).trans (hi_8 j (fun h9 => hj ((by decide : ∀ x ∈ ([6] : List Int), x ∈ ([6] : List Int)) j h9))))), (by omega), rfl, lv_sub hl [0] rfl⟩ G
    · refine lv_aload_n hx hb dX12_next_17 rfl (lv_at hl 0 rfl) ?_
      have e_21 : μL5.1 111 7 = μ.1 111 7 := (hi_8 7 (by decide))
      have e_22 : μL5.1 111 7 = μ.1 111 7 := (hi_8 7 (by decide))
      have e_23 : μL5.1 111 7 = μ.1 111 7 := (hi_8 7 (by decide))
      refine xc_iV G (b := 111) (rest := []) (As := []) (c_X12_here ω l μL5  (by omega) (by omega)) (wm 9 8 rfl rfl) (wm 9 10 rfl rfl) (wm 0 121 rfl rfl) rfl rfl (by decide) rfl (wm 1 18 rfl rfl) (wm 9 11 rfl rfl) (by decide) hR (by decide) (n := 0) rfl rfl (Nat.le_of_ble_eq_true rfl) hl.1 dX12_next_18 (fun r_25 μ24 ρ d0 H locs hr_r_25 hp G => ?_)
      have hr_r_25 : -2147483648 ≤ r_25 ∧ r_25 ≤ 2147483647 := hr_r_25
      obtain ⟨hsm_26, hp_27, hp_28⟩ := hp
      have hsm_26 := Eq.symm hsm_26
      subst hsm_26
      refine lv_bipush (v := iv 32) hx hb dX12_next_21 rfl ?_
      refine xb_icmp_ne (tgt := 39) hx hb (by unfold ir; omega) (by unfold ir; omega) dX12_next_23 (by decide) (fun c_23 => ?_) (fun c_23 => ?_)
      · refine lv_aload_n hx hb dX12_next_39 rfl (lv_at hl 0 rfl) ?_
        refine lv_aload_n hx hb dX12_next_40 rfl (lv_at hl 0 rfl) ?_
        refine xa_geti G fd_X12 (a := 111) (x := μL5.1 111 6) 6 rfl (by decide) rfl (wm 7 155 rfl rfl) ⟨rfl, rfl, rfl⟩ dX12_next_41 rfl rfl ?_
        have hr_29 : -2147483648 ≤ μL5.1 111 6 ∧ μL5.1 111 6 ≤ 2147483647 := by have h9 := G.hr (a := 111) (k := 6) rfl; exact h9
        refine xa_puti G fd_X12 (a := 111) (x := μL5.1 111 6) 9 (kz := 9) rfl rfl (by decide) rfl (by unfold ir; omega) (wm 7 158 rfl rfl) ⟨rfl, rfl, rfl, rfl⟩ rfl dX12_next_44 rfl (fun H locs G => ?_)
        refine lv_aload_n hx hb dX12_next_47 rfl (lv_at hl 0 rfl) ?_
        have e_30 : (sv μL5 111 9 (μL5.1 111 6)).1 111 6 = μL5.1 111 6 := (sv_n _ (by decide))
        have e_31 : (sv μL5 111 9 (μL5.1 111 6)).1 111 6 = μL5.1 111 6 := (sv_n _ (by decide))
        have e_32 : (sv μL5 111 9 (μL5.1 111 6)).1 111 7 = μ.1 111 7 := ((sv_n _ (by decide)).trans (hi_8 7 (by decide)))
        have e_33 : (sv μL5 111 9 (μL5.1 111 6)).1 111 7 = μ.1 111 7 := ((sv_n _ (by decide)).trans (hi_8 7 (by decide)))
        have e_34 : (sv μL5 111 9 (μL5.1 111 6)).1 111 6 = μL5.1 111 6 := (sv_n _ (by decide))
        have e_35 : (sv μL5 111 9 (μL5.1 111 6)).1 111 7 = μ.1 111 7 := ((sv_n _ (by decide)).trans (hi_8 7 (by decide)))
        refine xc_iV G (b := 111) (rest := []) (As := []) (c_X12_here ω l (sv μL5 111 9 (μL5.1 111 6))  (by omega) (by omega)) (wm 9 8 rfl rfl) (wm 9 10 rfl rfl) (wm 0 121 rfl rfl) rfl rfl (by decide) rfl (wm 1 18 rfl rfl) (wm 9 11 rfl rfl) (by decide) hR (by decide) (n := 0) rfl rfl (Nat.le_of_ble_eq_true rfl) hl.1 dX12_next_48 (fun r_37 μ36 ρ d0 H locs hr_r_37 hp G => ?_)
        have hr_r_37 : -2147483648 ≤ r_37 ∧ r_37 ≤ 2147483647 := hr_r_37
        obtain ⟨hsm_38, hp_39, hp_40⟩ := hp
        have hsm_38 := Eq.symm hsm_38
        subst hsm_38
        refine lv_istore_n (lv' := [(1, .int (iv r_37)), (0, .ref (oP ω 111))]) hx hb dX12_next_51 rfl hl (by decide) rfl (fun ls hl => ?_)
        refine lv_iload_n hx hb dX12_next_52 rfl (lv_at hl 0 rfl) ?_
        refine xb_if_ge (tgt := 64) hx hb (by unfold ir; omega) dX12_next_53 (by decide) (fun c_53 => ?_) (fun c_53 => ?_)
        · refine lv_iload_n hx hb dX12_next_64 rfl (lv_at hl 0 rfl) ?_
          refine xc_iS G (rest := []) (As := [.int (iv r_37)]) (c_X12_isLetter ω l (sv μL5 111 9 (μL5.1 111 6)) r_37 (by unfold ir; omega)) (wm 9 12 rfl rfl) (wm 9 13 rfl rfl) (wm 1 18 rfl rfl) (wm 9 14 rfl rfl) (by decide) hR (by decide) (n := 1) rfl rfl (Nat.le_of_ble_eq_true rfl) hl.1 dX12_next_65 (fun r_42 μ41 ρ d0 H locs hr_r_42 hp G => ?_)
          have hr_r_42 : -2147483648 ≤ r_42 ∧ r_42 ≤ 2147483647 := hr_r_42
          obtain ⟨hsm_43, hp_44⟩ := hp
          have hsm_43 := Eq.symm hsm_43
          subst hsm_43
          refine xb_if_eq (tgt := 78) hx hb (by unfold ir; omega) dX12_next_68 (by decide) (fun c_68 => ?_) (fun c_68 => ?_)
          · refine lv_iload_n hx hb dX12_next_78 rfl (lv_at hl 0 rfl) ?_
            refine xc_iS G (rest := []) (As := [.int (iv r_37)]) (c_X12_isDigit ω l (sv μL5 111 9 (μL5.1 111 6)) r_37 (by unfold ir; omega)) (wm 9 19 rfl rfl) (wm 9 20 rfl rfl) (wm 1 18 rfl rfl) (wm 9 21 rfl rfl) (by decide) hR (by decide) (n := 1) rfl rfl (Nat.le_of_ble_eq_true rfl) hl.1 dX12_next_79 (fun r_46 μ45 ρ d0 H locs hr_r_46 hp G => ?_)
            have hr_r_46 : -2147483648 ≤ r_46 ∧ r_46 ≤ 2147483647 := hr_r_46
            obtain ⟨hsm_47, hp_48⟩ := hp
            have hsm_47 := Eq.symm hsm_47
            subst hsm_47
            refine xb_if_eq (tgt := 92) hx hb (by unfold ir; omega) dX12_next_82 (by decide) (fun c_82 => ?_) (fun c_82 => ?_)
            · refine lv_aload_n hx hb dX12_next_92 rfl (lv_at hl 1 rfl) ?_
              refine lv_iload_n hx hb dX12_next_93 rfl (lv_at hl 0 rfl) ?_
              have e_49 : (sv μL5 111 9 (μL5.1 111 6)).1 111 6 = μL5.1 111 6 := (sv_n _ (by decide))
              have e_50 : (sv μL5 111 9 (μL5.1 111 6)).1 111 6 = μL5.1 111 6 := (sv_n _ (by decide))
              have e_51 : (sv μL5 111 9 (μL5.1 111 6)).1 111 7 = μ.1 111 7 := ((sv_n _ (by decide)).trans (hi_8 7 (by decide)))
              have e_52 : (sv μL5 111 9 (μL5.1 111 6)).1 111 7 = μ.1 111 7 := ((sv_n _ (by decide)).trans (hi_8 7 (by decide)))
              have e_53 : wr (sv μL5 111 9 (μL5.1 111 6)) = wr μ := ((wr_cg (sv_n _ (by decide))).trans (wr_cg (hi_8 15 (by decide))))
              have e_54 : nn (sv μL5 111 9 (μL5.1 111 6)) = nn μ := ((nn_cg (sv_n _ (by decide)) (sv_n _ (by decide))).trans (nn_cg (hi_8 15 (by decide)) (hi_8 18 (by decide))))
              have e_55 : (sv μL5 111 9 (μL5.1 111 6)).1 111 6 = μL5.1 111 6 := (sv_n _ (by decide))
              have e_56 : (sv μL5 111 9 (μL5.1 111 6)).1 111 7 = μ.1 111 7 := ((sv_n _ (by decide)).trans (hi_8 7 (by decide)))
              have e_57 : (sv μL5 111 9 (μL5.1 111 6)).1 111 9 = μL5.1 111 6 := (sv_s _ _ _ _)
              have e_58 : (sv μL5 111 9 (μL5.1 111 6)).1 111 6 = μL5.1 111 6 := (sv_n _ (by decide))
              have e_59 : (sv μL5 111 9 (μL5.1 111 6)).1 111 7 = μ.1 111 7 := ((sv_n _ (by decide)).trans (hi_8 7 (by decide)))
              have e_60 : wr (sv μL5 111 9 (μL5.1 111 6)) = wr μ := ((wr_cg (sv_n _ (by decide))).trans (wr_cg (hi_8 15 (by decide))))
              have e_61 : bd (sv μL5 111 9 (μL5.1 111 6)) = bd μ := ((bd_cg (sv_n _ (by decide)) (sv_n _ (by decide)) (sv_n _ (by decide))).trans (bd_cg (hi_8 15 (by decide)) (hi_8 16 (by decide)) (hi_8 17 (by decide))))
              have e_62 : nn (sv μL5 111 9 (μL5.1 111 6)) = nn μ := ((nn_cg (sv_n _ (by decide)) (sv_n _ (by decide))).trans (nn_cg (hi_8 15 (by decide)) (hi_8 18 (by decide))))
              refine xc_vV G (b := 111) (rest := []) (As := [.int (iv r_37)]) (c_X12_signs ω l (sv μL5 111 9 (μL5.1 111 6)) r_37 (by unfold ir; omega) (by omega) (by omega) (by omega) (by omega) (by omega)) (wm 9 54 rfl rfl) (wm 9 56 rfl rfl) (wm 0 126 rfl rfl) rfl rfl (by decide) rfl (wm 1 18 rfl rfl) (wm 9 57 rfl rfl) (by decide) hR (by decide) (n := 1) rfl rfl (Nat.le_of_ble_eq_true rfl) hl.1 dX12_next_94 (fun μ63 ρ d0 H locs hp G => ?_)
              obtain ⟨F_64, hp_65, hp_66, hp_67, hp_68, hp_69⟩ := hp
              have hw_70 := wr_r (μ := μ63)
              have e_72 : μ63.1 111 7 = μ.1 111 7 := ((hp_65 7 (by decide)).trans ((sv_n _ (by decide)).trans (hi_8 7 (by decide))))
              have e_73 : μ63.1 111 9 = μL5.1 111 6 := ((hp_65 9 (by decide)).trans (sv_s _ _ _ _))
              have e_74 : μ63.1 111 11 = μ.1 111 11 := ((hp_65 11 (by decide)).trans ((sv_n _ (by decide)).trans (hi_8 11 (by decide))))
              have e_75 : μ63.1 111 14 = μ.1 111 14 := ((hp_65 14 (by decide)).trans ((sv_n _ (by decide)).trans (hi_8 14 (by decide))))
              have hPM_71 : PM μ63 := ⟨by
                have hw9 := wr_0 (μ := μ63)
                refine ⟨by omega, by omega, ?_, by omega, by omega, fun q => absurd q (by omega)⟩
                by_cases q9 : μ63.1 111 8 = 4
                · exact Or.inl q9
                · exact Or.inr (Or.inl (by omega))
                , (hPM.2.cg ((hp_65 4 (by decide)).trans ((sv_n _ (by decide)).trans (hi_8 4 (by decide)))) ((hp_65 29 (by decide)).trans ((sv_n _ (by decide)).trans (hi_8 29 (by decide)))) (fun j => ((F_64.1 123 (by decide) j).trans ((sv_n _ (by omega)).trans (FL6.1 123 (by decide) j)))))⟩
              have e_76 : μ63.1 111 9 = μL5.1 111 6 := ((hp_65 9 (by decide)).trans (sv_s _ _ _ _))
              exact xr_v G hret hlk dX12_next_97 ⟨(FrM.tr (FrM.put (FrM.tr FrM.rf FL6 (by decide)) (by decide)) F_64 (by decide)), (fun j hj => ((hp_65 j (fun h9 => hj ((by decide : ∀ x ∈ ([6, 8, 13, 15] : List Int), x ∈ ([6, 8, 9, 10, 11, 12, 13, 15] : List Int)) j h9))).trans ((sv_n _ (fun h9 => hj (by rw [h9.2]; decide))).trans (hi_8 j (fun h9 => hj ((by decide : ∀ x ∈ ([6] : List Int), x ∈ ([6, 8, 9, 10, 11, 12, 13, 15] : List Int)) j h9)))))), hPM_71, (by omega), (by omega), (by omega)⟩
            · refine lv_aload_n hx hb dX12_next_85 rfl (lv_at hl 1 rfl) ?_
              have e_77 : (sv μL5 111 9 (μL5.1 111 6)).1 111 6 = μL5.1 111 6 := (sv_n _ (by decide))
              have e_78 : (sv μL5 111 9 (μL5.1 111 6)).1 111 6 = μL5.1 111 6 := (sv_n _ (by decide))
              have e_79 : (sv μL5 111 9 (μL5.1 111 6)).1 111 7 = μ.1 111 7 := ((sv_n _ (by decide)).trans (hi_8 7 (by decide)))
              have e_80 : (sv μL5 111 9 (μL5.1 111 6)).1 111 7 = μ.1 111 7 := ((sv_n _ (by decide)).trans (hi_8 7 (by decide)))
              have e_81 : wr (sv μL5 111 9 (μL5.1 111 6)) = wr μ := ((wr_cg (sv_n _ (by decide))).trans (wr_cg (hi_8 15 (by decide))))
              have e_82 : nn (sv μL5 111 9 (μL5.1 111 6)) = nn μ := ((nn_cg (sv_n _ (by decide)) (sv_n _ (by decide))).trans (nn_cg (hi_8 15 (by decide)) (hi_8 18 (by decide))))
              have e_83 : (sv μL5 111 9 (μL5.1 111 6)).1 111 9 = μL5.1 111 6 := (sv_s _ _ _ _)
              have e_84 : (sv μL5 111 9 (μL5.1 111 6)).1 111 6 = μL5.1 111 6 := (sv_n _ (by decide))
              have e_85 : (sv μL5 111 9 (μL5.1 111 6)).1 111 7 = μ.1 111 7 := ((sv_n _ (by decide)).trans (hi_8 7 (by decide)))
              have e_86 : wr (sv μL5 111 9 (μL5.1 111 6)) = wr μ := ((wr_cg (sv_n _ (by decide))).trans (wr_cg (hi_8 15 (by decide))))
              have e_87 : bd (sv μL5 111 9 (μL5.1 111 6)) = bd μ := ((bd_cg (sv_n _ (by decide)) (sv_n _ (by decide)) (sv_n _ (by decide))).trans (bd_cg (hi_8 15 (by decide)) (hi_8 16 (by decide)) (hi_8 17 (by decide))))
              have e_88 : nn (sv μL5 111 9 (μL5.1 111 6)) = nn μ := ((nn_cg (sv_n _ (by decide)) (sv_n _ (by decide))).trans (nn_cg (hi_8 15 (by decide)) (hi_8 18 (by decide))))
              refine xc_vV G (b := 111) (rest := []) (As := []) (c_X12_counts ω l (sv μL5 111 9 (μL5.1 111 6))  (by omega) (by omega) (by omega) (by omega) (by omega)) (wm 9 30 rfl rfl) (wm 9 32 rfl rfl) (wm 0 124 rfl rfl) rfl rfl (by decide) rfl (wm 1 18 rfl rfl) (wm 9 33 rfl rfl) (by decide) hR (by decide) (n := 0) rfl rfl (Nat.le_of_ble_eq_true rfl) hl.1 dX12_next_86 (fun μ89 ρ d0 H locs hp G => ?_)
              obtain ⟨F_90, hp_91, hp_92, hp_93, hp_94, hp_95, hp_96⟩ := hp
              have hw_97 := wr_r (μ := μ89)
              refine lv_goto (tgt := 97) hx hb dX12_next_89 (by decide) ?_
              have e_99 : μ89.1 111 7 = μ.1 111 7 := ((hp_91 7 (by decide)).trans ((sv_n _ (by decide)).trans (hi_8 7 (by decide))))
              have e_100 : μ89.1 111 9 = μL5.1 111 6 := ((hp_91 9 (by decide)).trans (sv_s _ _ _ _))
              have e_101 : μ89.1 111 11 = μ.1 111 11 := ((hp_91 11 (by decide)).trans ((sv_n _ (by decide)).trans (hi_8 11 (by decide))))
              have e_102 : μ89.1 111 14 = μ.1 111 14 := ((hp_91 14 (by decide)).trans ((sv_n _ (by decide)).trans (hi_8 14 (by decide))))
              have hPM_98 : PM μ89 := ⟨by
                have hw9 := wr_0 (μ := μ89)
                refine ⟨by omega, by omega, ?_, by omega, by omega, fun _ q2 q3 => hp_94 () (by have h8 : (sv μL5 111 9 (μL5.1 111 6)).1 111 14 = μ.1 111 14 := ((sv_n _ (by decide)).trans (hi_8 14 (by decide))); have h9 : μ89.1 111 14 = μ.1 111 14 := ((hp_91 14 (by decide)).trans ((sv_n _ (by decide)).trans (hi_8 14 (by decide)))); omega) (hw9.2 q3)⟩
                by_cases q9 : μ89.1 111 8 = 4
                · exact Or.inl q9
                · exact Or.inr (Or.inl (by omega))
                , (hPM.2.cg ((hp_91 4 (by decide)).trans ((sv_n _ (by decide)).trans (hi_8 4 (by decide)))) ((hp_91 29 (by decide)).trans ((sv_n _ (by decide)).trans (hi_8 29 (by decide)))) (fun j => ((F_90.1 123 (by decide) j).trans ((sv_n _ (by omega)).trans (FL6.1 123 (by decide) j)))))⟩
              have e_103 : μ89.1 111 9 = μL5.1 111 6 := ((hp_91 9 (by decide)).trans (sv_s _ _ _ _))
              exact xr_v G hret hlk dX12_next_97 ⟨(FrM.tr (FrM.put (FrM.tr FrM.rf FL6 (by decide)) (by decide)) F_90 (by decide)), (fun j hj => ((hp_91 j (fun h9 => hj ((by decide : ∀ x ∈ ([6, 8, 12, 15] : List Int), x ∈ ([6, 8, 9, 10, 11, 12, 13, 15] : List Int)) j h9))).trans ((sv_n _ (fun h9 => hj (by rw [h9.2]; decide))).trans (hi_8 j (fun h9 => hj ((by decide : ∀ x ∈ ([6] : List Int), x ∈ ([6, 8, 9, 10, 11, 12, 13, 15] : List Int)) j h9)))))), hPM_98, (by omega), (by omega), (by omega)⟩
          · refine lv_aload_n hx hb dX12_next_71 rfl (lv_at hl 1 rfl) ?_
            have e_104 : (sv μL5 111 9 (μL5.1 111 6)).1 111 6 = μL5.1 111 6 := (sv_n _ (by decide))
            have e_105 : (sv μL5 111 9 (μL5.1 111 6)).1 111 6 = μL5.1 111 6 := (sv_n _ (by decide))
            have e_106 : (sv μL5 111 9 (μL5.1 111 6)).1 111 7 = μ.1 111 7 := ((sv_n _ (by decide)).trans (hi_8 7 (by decide)))
            have e_107 : (sv μL5 111 9 (μL5.1 111 6)).1 111 7 = μ.1 111 7 := ((sv_n _ (by decide)).trans (hi_8 7 (by decide)))
            have e_108 : wr (sv μL5 111 9 (μL5.1 111 6)) = wr μ := ((wr_cg (sv_n _ (by decide))).trans (wr_cg (hi_8 15 (by decide))))
            have e_109 : nn (sv μL5 111 9 (μL5.1 111 6)) = nn μ := ((nn_cg (sv_n _ (by decide)) (sv_n _ (by decide))).trans (nn_cg (hi_8 15 (by decide)) (hi_8 18 (by decide))))
            have e_110 : (sv μL5 111 9 (μL5.1 111 6)).1 111 9 = μL5.1 111 6 := (sv_s _ _ _ _)
            have e_111 : (sv μL5 111 9 (μL5.1 111 6)).1 111 6 = μL5.1 111 6 := (sv_n _ (by decide))
            have e_112 : (sv μL5 111 9 (μL5.1 111 6)).1 111 7 = μ.1 111 7 := ((sv_n _ (by decide)).trans (hi_8 7 (by decide)))
            have e_113 : wr (sv μL5 111 9 (μL5.1 111 6)) = wr μ := ((wr_cg (sv_n _ (by decide))).trans (wr_cg (hi_8 15 (by decide))))
            have e_114 : bd (sv μL5 111 9 (μL5.1 111 6)) = bd μ := ((bd_cg (sv_n _ (by decide)) (sv_n _ (by decide)) (sv_n _ (by decide))).trans (bd_cg (hi_8 15 (by decide)) (hi_8 16 (by decide)) (hi_8 17 (by decide))))
            have e_115 : nn (sv μL5 111 9 (μL5.1 111 6)) = nn μ := ((nn_cg (sv_n _ (by decide)) (sv_n _ (by decide))).trans (nn_cg (hi_8 15 (by decide)) (hi_8 18 (by decide))))
            refine xc_vV G (b := 111) (rest := []) (As := []) (c_X12_spells ω l (sv μL5 111 9 (μL5.1 111 6))  (by omega) (by omega) (by omega) (by omega) (by omega)) (wm 9 15 rfl rfl) (wm 9 17 rfl rfl) (wm 0 122 rfl rfl) rfl rfl (by decide) rfl (wm 1 18 rfl rfl) (wm 9 18 rfl rfl) (by decide) hR (by decide) (n := 0) rfl rfl (Nat.le_of_ble_eq_true rfl) hl.1 dX12_next_72 (fun μ116 ρ d0 H locs hp G => ?_)
            obtain ⟨F_117, hp_118, hp_119, hp_120, hp_121, hp_122, hp_123⟩ := hp
            have hw_124 := wr_r (μ := μ116)
            refine lv_goto (tgt := 97) hx hb dX12_next_75 (by decide) ?_
            have e_126 : μ116.1 111 7 = μ.1 111 7 := ((hp_118 7 (by decide)).trans ((sv_n _ (by decide)).trans (hi_8 7 (by decide))))
            have e_127 : μ116.1 111 9 = μL5.1 111 6 := ((hp_118 9 (by decide)).trans (sv_s _ _ _ _))
            have e_128 : μ116.1 111 14 = μ.1 111 14 := ((hp_118 14 (by decide)).trans ((sv_n _ (by decide)).trans (hi_8 14 (by decide))))
            have hPM_125 : PM μ116 := ⟨by
              have hw9 := wr_0 (μ := μ116)
              refine ⟨by omega, by omega, ?_, by omega, by omega, fun q => absurd q (by omega)⟩
              by_cases q9 : μ116.1 111 8 = 4
              · exact Or.inl q9
              · exact Or.inr (Or.inl (by omega))
              , (hPM.2.cg ((hp_118 4 (by decide)).trans ((sv_n _ (by decide)).trans (hi_8 4 (by decide)))) ((hp_118 29 (by decide)).trans ((sv_n _ (by decide)).trans (hi_8 29 (by decide)))) (fun j => ((F_117.1 123 (by decide) j).trans ((sv_n _ (by omega)).trans (FL6.1 123 (by decide) j)))))⟩
            have e_129 : μ116.1 111 9 = μL5.1 111 6 := ((hp_118 9 (by decide)).trans (sv_s _ _ _ _))
            exact xr_v G hret hlk dX12_next_97 ⟨(FrM.tr (FrM.put (FrM.tr FrM.rf FL6 (by decide)) (by decide)) F_117 (by decide)), (fun j hj => ((hp_118 j (fun h9 => hj ((by decide : ∀ x ∈ ([6, 8, 10, 11, 15] : List Int), x ∈ ([6, 8, 9, 10, 11, 12, 13, 15] : List Int)) j h9))).trans ((sv_n _ (fun h9 => hj (by rw [h9.2]; decide))).trans (hi_8 j (fun h9 => hj ((by decide : ∀ x ∈ ([6] : List Int), x ∈ ([6, 8, 9, 10, 11, 12, 13, 15] : List Int)) j h9)))))), hPM_125, (by omega), (by omega), (by omega)⟩
        · refine lv_aload_n hx hb dX12_next_56 rfl (lv_at hl 1 rfl) ?_
          refine lv_iconst (v := iv 4) hx hb dX12_next_57 rfl ?_
          refine xa_puti G fd_X12 (a := 111) (x := 4) 8 (kz := 8) rfl rfl (by decide) rfl (by unfold ir; omega) (wm 7 157 rfl rfl) ⟨rfl, rfl, rfl, rfl⟩ rfl dX12_next_58 rfl (fun H locs G => ?_)
          refine lv_goto (tgt := 97) hx hb dX12_next_61 (by decide) ?_
          have e_131 : (sv (sv μL5 111 9 (μL5.1 111 6)) 111 8 4).1 111 6 = μL5.1 111 6 := ((sv_n _ (by decide)).trans (sv_n _ (by decide)))
          have e_132 : (sv (sv μL5 111 9 (μL5.1 111 6)) 111 8 4).1 111 7 = μ.1 111 7 := ((sv_n _ (by decide)).trans ((sv_n _ (by decide)).trans (hi_8 7 (by decide))))
          have e_133 : (sv (sv μL5 111 9 (μL5.1 111 6)) 111 8 4).1 111 8 = 4 := (sv_s _ _ _ _)
          have e_134 : (sv (sv μL5 111 9 (μL5.1 111 6)) 111 8 4).1 111 9 = μL5.1 111 6 := ((sv_n _ (by decide)).trans (sv_s _ _ _ _))
          have e_135 : (sv (sv μL5 111 9 (μL5.1 111 6)) 111 8 4).1 111 11 = μ.1 111 11 := ((sv_n _ (by decide)).trans ((sv_n _ (by decide)).trans (hi_8 11 (by decide))))
          have e_136 : (sv (sv μL5 111 9 (μL5.1 111 6)) 111 8 4).1 111 14 = μ.1 111 14 := ((sv_n _ (by decide)).trans ((sv_n _ (by decide)).trans (hi_8 14 (by decide))))
          have e_137 : wr (sv (sv μL5 111 9 (μL5.1 111 6)) 111 8 4) = wr μ := ((wr_cg (sv_n _ (by decide))).trans ((wr_cg (sv_n _ (by decide))).trans (wr_cg (hi_8 15 (by decide)))))
          have hPM_130 : PM (sv (sv μL5 111 9 (μL5.1 111 6)) 111 8 4) := ⟨by
            have hw9 := wr_0 (μ := (sv (sv μL5 111 9 (μL5.1 111 6)) 111 8 4))
            refine ⟨by omega, by omega, ?_, by omega, by omega, fun q => absurd q (by omega)⟩
            by_cases q9 : (sv (sv μL5 111 9 (μL5.1 111 6)) 111 8 4).1 111 8 = 4
            · exact Or.inl q9
            · exact Or.inr (Or.inl (by omega))
            , (hPM.2.cg ((sv_n _ (by decide)).trans ((sv_n _ (by decide)).trans (hi_8 4 (by decide)))) ((sv_n _ (by decide)).trans ((sv_n _ (by decide)).trans (hi_8 29 (by decide)))) (fun j => ((sv_n _ (by omega)).trans ((sv_n _ (by omega)).trans (FL6.1 123 (by decide) j)))))⟩
          have e_138 : (sv (sv μL5 111 9 (μL5.1 111 6)) 111 8 4).1 111 9 = μL5.1 111 6 := ((sv_n _ (by decide)).trans (sv_s _ _ _ _))
          have e_139 : wr (sv (sv μL5 111 9 (μL5.1 111 6)) 111 8 4) = wr μ := ((wr_cg (sv_n _ (by decide))).trans ((wr_cg (sv_n _ (by decide))).trans (wr_cg (hi_8 15 (by decide)))))
          have e_140 : bd (sv (sv μL5 111 9 (μL5.1 111 6)) 111 8 4) = bd μ := ((bd_cg (sv_n _ (by decide)) (sv_n _ (by decide)) (sv_n _ (by decide))).trans ((bd_cg (sv_n _ (by decide)) (sv_n _ (by decide)) (sv_n _ (by decide))).trans (bd_cg (hi_8 15 (by decide)) (hi_8 16 (by decide)) (hi_8 17 (by decide)))))
          have e_141 : wr (sv (sv μL5 111 9 (μL5.1 111 6)) 111 8 4) = wr μ := ((wr_cg (sv_n _ (by decide))).trans ((wr_cg (sv_n _ (by decide))).trans (wr_cg (hi_8 15 (by decide)))))
          have e_142 : nn (sv (sv μL5 111 9 (μL5.1 111 6)) 111 8 4) = nn μ := ((nn_cg (sv_n _ (by decide)) (sv_n _ (by decide))).trans ((nn_cg (sv_n _ (by decide)) (sv_n _ (by decide))).trans (nn_cg (hi_8 15 (by decide)) (hi_8 18 (by decide)))))
          exact xr_v G hret hlk dX12_next_97 ⟨(FrM.put (FrM.put (FrM.tr FrM.rf FL6 (by decide)) (by decide)) (by decide)), (fun j hj => ((sv_n _ (fun h9 => hj (by rw [h9.2]; decide))).trans ((sv_n _ (fun h9 => hj (by rw [h9.2]; decide))).trans (hi_8 j (fun h9 => hj ((by decide : ∀ x ∈ ([6] : List Int), x ∈ ([6, 8, 9, 10, 11, 12, 13, 15] : List Int)) j h9)))))), hPM_130, (by omega), (by omega), (by omega)⟩
      · refine lv_aload_n hx hb dX12_next_26 rfl (lv_at hl 0 rfl) ?_
        refine lv_dup hx hb dX12_next_27 rfl ?_
        refine xa_geti G fd_X12 (a := 111) (x := μL5.1 111 6) 6 rfl (by decide) rfl (wm 7 155 rfl rfl) ⟨rfl, rfl, rfl⟩ dX12_next_28 rfl rfl ?_
        have hr_143 : -2147483648 ≤ μL5.1 111 6 ∧ μL5.1 111 6 ≤ 2147483647 := by have h9 := G.hr (a := 111) (k := 6) rfl; exact h9
        refine lv_iconst (v := iv 1) hx hb dX12_next_31 rfl ?_
        refine xb_iadd hx hb dX12_next_32 ?_
        refine xa_puti G fd_X12 (a := 111) (x := (μL5.1 111 6) + 1) 6 (kz := 6) rfl rfl (by decide) rfl (by unfold ir; omega) (wm 7 155 rfl rfl) ⟨rfl, rfl, rfl, rfl⟩ rfl dX12_next_33 rfl (fun H locs G => ?_)
        refine lv_goto (tgt := 8) hx hb dX12_next_36 (by decide) ?_
        have e_144 : (sv μL5 111 6 ((μL5.1 111 6) + 1)).1 111 6 = (μL5.1 111 6) + 1 := (sv_s _ _ _ _)
        have e_145 : (sv μL5 111 6 ((μL5.1 111 6) + 1)).1 111 6 = (μL5.1 111 6) + 1 := (sv_s _ _ _ _)
        exact ih _ _ _ _ _ _ _ (by omega) ⟨(FrM.put FL6 (by decide)), (fun j hj => ((sv_n _ (fun h9 => hj (by rw [h9.2]; decide))).trans (hi_8 j (fun h9 => hj ((by decide : ∀ x ∈ ([6] : List Int), x ∈ ([6] : List Int)) j h9))))), (by omega), rfl, lv_sub hl [0] rfl⟩ G
  · exact xr_v G hret hlk dX12_next_7 ⟨FrM.rf, (fun j hj => rfl), hPM, (by omega), (by omega), (by omega)⟩

set_option maxHeartbeats 4000000 in
set_option maxRecDepth 100000 in
theorem c_X12_isSign (ω : Om) (l : Launch) (μ : M3) (x1 : Int) (hx1 : ir x1) : CtI ω l yX12_isSign cX12_isSign 2 .boolean 1 20 [.ref (oP ω 111), .int (iv x1)] μ (fun (r : Int) (μ' : M3) => (μ' = μ) ∧ ((r = 1 ∧ wr μ = 0 ∧ μ.1 111 8 = 3 ∧ μ.1 111 13 = x1) ∨ (r = 0 ∧ ¬ (wr μ = 0 ∧ μ.1 111 8 = 3 ∧ μ.1 111 13 = x1)))) := by
  refine CtI.go (by decide) (Nat.le_of_ble_eq_true rfl) (fun ρ p e s m below meth c R ls G hR hret hlk hl => ?_)
  have hx := G.1.1
  have hb := G.1.2.1
  have hl : lv_has ls 2 [(0, .ref (oP ω 111)), (1, .int (iv x1))] := hl
  generalize s.drawn = d0 at G ⊢
  have hr_x1 : -2147483648 ≤ x1 ∧ x1 ≤ 2147483647 := hx1
  have hw_0 := wr_r (μ := μ)
  refine lv_aload_n hx hb dX12_isSign_0 rfl (lv_at hl 0 rfl) ?_
  refine xc_iV G (b := 111) (rest := []) (As := []) (c_X12_isWrong ω l μ  ) (wm 9 4 rfl rfl) (wm 9 6 rfl rfl) (wm 0 120 rfl rfl) rfl rfl (by decide) rfl (wm 1 18 rfl rfl) (wm 9 7 rfl rfl) (by decide) hR (by decide) (n := 0) rfl rfl (Nat.le_of_ble_eq_true rfl) hl.1 dX12_isSign_1 (fun r_2 μ1 ρ d0 H locs hr_r_2 hp G => ?_)
  have hr_r_2 : -2147483648 ≤ r_2 ∧ r_2 ≤ 2147483647 := hr_r_2
  obtain ⟨hsm_3, hp_4⟩ := hp
  have hsm_3 := Eq.symm hsm_3
  subst hsm_3
  refine xb_if_ne (tgt := 27) hx hb (by unfold ir; omega) dX12_isSign_4 (by decide) (fun c_4 => ?_) (fun c_4 => ?_)
  · refine lv_iconst (v := iv 0) hx hb dX12_isSign_27 rfl ?_
    exact xr_i G (x := 0) hret hlk (by unfold ir; omega) (zr (by omega)) dX12_isSign_28 ⟨rfl, (by omega)⟩
  · refine lv_aload_n hx hb dX12_isSign_7 rfl (lv_at hl 0 rfl) ?_
    refine xa_geti G fd_X12 (a := 111) (x := μ.1 111 8) 8 rfl (by decide) rfl (wm 7 157 rfl rfl) ⟨rfl, rfl, rfl⟩ dX12_isSign_8 rfl rfl ?_
    have hr_5 : -2147483648 ≤ μ.1 111 8 ∧ μ.1 111 8 ≤ 2147483647 := by have h9 := G.hr (a := 111) (k := 8) rfl; exact h9
    refine lv_iconst (v := iv 3) hx hb dX12_isSign_11 rfl ?_
    refine xb_icmp_ne (tgt := 27) hx hb (by unfold ir; omega) (by unfold ir; omega) dX12_isSign_12 (by decide) (fun c_12 => ?_) (fun c_12 => ?_)
    · refine lv_iconst (v := iv 0) hx hb dX12_isSign_27 rfl ?_
      exact xr_i G (x := 0) hret hlk (by unfold ir; omega) (zr (by omega)) dX12_isSign_28 ⟨rfl, (by omega)⟩
    · refine lv_aload_n hx hb dX12_isSign_15 rfl (lv_at hl 0 rfl) ?_
      refine xa_geti G fd_X12 (a := 111) (x := μ.1 111 13) 13 rfl (by decide) rfl (wm 7 162 rfl rfl) ⟨rfl, rfl, rfl⟩ dX12_isSign_16 rfl rfl ?_
      have hr_6 : -2147483648 ≤ μ.1 111 13 ∧ μ.1 111 13 ≤ 2147483647 := by have h9 := G.hr (a := 111) (k := 13) rfl; exact h9
      refine lv_iload_n hx hb dX12_isSign_19 rfl (lv_at hl 1 rfl) ?_
      refine xb_icmp_ne (tgt := 27) hx hb (by unfold ir; omega) (by unfold ir; omega) dX12_isSign_20 (by decide) (fun c_20 => ?_) (fun c_20 => ?_)
      · refine lv_iconst (v := iv 0) hx hb dX12_isSign_27 rfl ?_
        exact xr_i G (x := 0) hret hlk (by unfold ir; omega) (zr (by omega)) dX12_isSign_28 ⟨rfl, (by omega)⟩
      · refine lv_iconst (v := iv 1) hx hb dX12_isSign_23 rfl ?_
        refine lv_goto (tgt := 28) hx hb dX12_isSign_24 (by decide) ?_
        exact xr_i G (x := 1) hret hlk (by unfold ir; omega) (zr (by omega)) dX12_isSign_28 ⟨rfl, (by omega)⟩

set_option maxHeartbeats 4000000 in
set_option maxRecDepth 100000 in
theorem c_X12_isWord (ω : Om) (l : Launch) (μ : M3) (x1 : Int) (hx1 : ir x1) : CtI ω l yX12_isWord cX12_isWord 2 .boolean 1 20 [.ref (oP ω 111), .int (iv x1)] μ (fun (r : Int) (μ' : M3) => (μ' = μ) ∧ ((r = 1 ∧ wr μ = 0 ∧ μ.1 111 8 = 1 ∧ μ.1 111 11 = x1) ∨ (r = 0 ∧ ¬ (wr μ = 0 ∧ μ.1 111 8 = 1 ∧ μ.1 111 11 = x1)))) := by
  refine CtI.go (by decide) (Nat.le_of_ble_eq_true rfl) (fun ρ p e s m below meth c R ls G hR hret hlk hl => ?_)
  have hx := G.1.1
  have hb := G.1.2.1
  have hl : lv_has ls 2 [(0, .ref (oP ω 111)), (1, .int (iv x1))] := hl
  generalize s.drawn = d0 at G ⊢
  have hr_x1 : -2147483648 ≤ x1 ∧ x1 ≤ 2147483647 := hx1
  have hw_0 := wr_r (μ := μ)
  refine lv_aload_n hx hb dX12_isWord_0 rfl (lv_at hl 0 rfl) ?_
  refine xc_iV G (b := 111) (rest := []) (As := []) (c_X12_isWrong ω l μ  ) (wm 9 4 rfl rfl) (wm 9 6 rfl rfl) (wm 0 120 rfl rfl) rfl rfl (by decide) rfl (wm 1 18 rfl rfl) (wm 9 7 rfl rfl) (by decide) hR (by decide) (n := 0) rfl rfl (Nat.le_of_ble_eq_true rfl) hl.1 dX12_isWord_1 (fun r_2 μ1 ρ d0 H locs hr_r_2 hp G => ?_)
  have hr_r_2 : -2147483648 ≤ r_2 ∧ r_2 ≤ 2147483647 := hr_r_2
  obtain ⟨hsm_3, hp_4⟩ := hp
  have hsm_3 := Eq.symm hsm_3
  subst hsm_3
  refine xb_if_ne (tgt := 27) hx hb (by unfold ir; omega) dX12_isWord_4 (by decide) (fun c_4 => ?_) (fun c_4 => ?_)
  · refine lv_iconst (v := iv 0) hx hb dX12_isWord_27 rfl ?_
    exact xr_i G (x := 0) hret hlk (by unfold ir; omega) (zr (by omega)) dX12_isWord_28 ⟨rfl, (by omega)⟩
  · refine lv_aload_n hx hb dX12_isWord_7 rfl (lv_at hl 0 rfl) ?_
    refine xa_geti G fd_X12 (a := 111) (x := μ.1 111 8) 8 rfl (by decide) rfl (wm 7 157 rfl rfl) ⟨rfl, rfl, rfl⟩ dX12_isWord_8 rfl rfl ?_
    have hr_5 : -2147483648 ≤ μ.1 111 8 ∧ μ.1 111 8 ≤ 2147483647 := by have h9 := G.hr (a := 111) (k := 8) rfl; exact h9
    refine lv_iconst (v := iv 1) hx hb dX12_isWord_11 rfl ?_
    refine xb_icmp_ne (tgt := 27) hx hb (by unfold ir; omega) (by unfold ir; omega) dX12_isWord_12 (by decide) (fun c_12 => ?_) (fun c_12 => ?_)
    · refine lv_iconst (v := iv 0) hx hb dX12_isWord_27 rfl ?_
      exact xr_i G (x := 0) hret hlk (by unfold ir; omega) (zr (by omega)) dX12_isWord_28 ⟨rfl, (by omega)⟩
    · refine lv_aload_n hx hb dX12_isWord_15 rfl (lv_at hl 0 rfl) ?_
      refine xa_geti G fd_X12 (a := 111) (x := μ.1 111 11) 11 rfl (by decide) rfl (wm 7 160 rfl rfl) ⟨rfl, rfl, rfl⟩ dX12_isWord_16 rfl rfl ?_
      have hr_6 : -2147483648 ≤ μ.1 111 11 ∧ μ.1 111 11 ≤ 2147483647 := by have h9 := G.hr (a := 111) (k := 11) rfl; exact h9
      refine lv_iload_n hx hb dX12_isWord_19 rfl (lv_at hl 1 rfl) ?_
      refine xb_icmp_ne (tgt := 27) hx hb (by unfold ir; omega) (by unfold ir; omega) dX12_isWord_20 (by decide) (fun c_20 => ?_) (fun c_20 => ?_)
      · refine lv_iconst (v := iv 0) hx hb dX12_isWord_27 rfl ?_
        exact xr_i G (x := 0) hret hlk (by unfold ir; omega) (zr (by omega)) dX12_isWord_28 ⟨rfl, (by omega)⟩
      · refine lv_iconst (v := iv 1) hx hb dX12_isWord_23 rfl ?_
        refine lv_goto (tgt := 28) hx hb dX12_isWord_24 (by decide) ?_
        exact xr_i G (x := 1) hret hlk (by unfold ir; omega) (zr (by omega)) dX12_isWord_28 ⟨rfl, (by omega)⟩

set_option maxHeartbeats 4000000 in
set_option maxRecDepth 100000 in
theorem c_X12_takesSign (ω : Om) (l : Launch) (μ : M3) (x1 : Int) (hx1 : ir x1) (hPM : PM μ) (hnn : 0 ≤ nn μ ∧ nn μ ≤ 9 ∧ 9 * wr μ ≤ nn μ) : CtI ω l yX12_takesSign cX12_takesSign 2 .boolean 7 153 [.ref (oP ω 111), .int (iv x1)] μ (fun (r : Int) (μ' : M3) => (FrM [111] μ μ') ∧ (∀ j, j ∉ ([6, 8, 9, 10, 11, 12, 13, 15] : List Int) → μ'.1 111 j = μ.1 111 j) ∧ (PM μ') ∧ (0 ≤ r ∧ r ≤ 1 ∧ r + wr μ ≤ 1 ∧ μ.1 111 9 + r ≤ μ'.1 111 9) ∧ (∀ _ : Unit, r = 0 → wr μ = 0 → μ.1 111 8 = 3 → μ.1 111 13 ≠ x1) ∧ (wr μ ≤ wr μ' ∧ bd μ ≤ bd μ') ∧ (nn μ ≤ nn μ' ∧ nn μ' ≤ nn μ + 9 * wr μ' ∧ nn μ' ≤ 9 ∧ 9 * wr μ' ≤ nn μ')) := by
  refine CtI.go (by decide) (Nat.le_of_ble_eq_true rfl) (fun ρ p e s m below meth c R ls G hR hret hlk hl => ?_)
  have hx := G.1.1
  have hb := G.1.2.1
  have hl : lv_has ls 2 [(0, .ref (oP ω 111)), (1, .int (iv x1))] := hl
  generalize s.drawn = d0 at G ⊢
  have hr_x1 : -2147483648 ≤ x1 ∧ x1 ≤ 2147483647 := hx1
  have hw_0 := wr_r (μ := μ)
  have hpp_ := hPM.1.2.1
  have hpn_ := hPM.2.1
  have hpt_ := hPM.1.2.2.2.1
  have hpw_ := hPM.1.2.2.2.2.1
  have hpa_ := hPM.1.1
  refine lv_aload_n hx hb dX12_takesSign_0 rfl (lv_at hl 0 rfl) ?_
  refine lv_iload_n hx hb dX12_takesSign_1 rfl (lv_at hl 1 rfl) ?_
  refine xc_iV G (b := 111) (rest := []) (As := [.int (iv x1)]) (c_X12_isSign ω l μ x1 (by unfold ir; omega)) (wm 9 90 rfl rfl) (wm 9 92 rfl rfl) (wm 0 135 rfl rfl) rfl rfl (by decide) rfl (wm 1 18 rfl rfl) (wm 9 93 rfl rfl) (by decide) hR (by decide) (n := 1) rfl rfl (Nat.le_of_ble_eq_true rfl) hl.1 dX12_takesSign_2 (fun r_2 μ1 ρ d0 H locs hr_r_2 hp G => ?_)
  have hr_r_2 : -2147483648 ≤ r_2 ∧ r_2 ≤ 2147483647 := hr_r_2
  obtain ⟨hsm_3, hp_4⟩ := hp
  have hsm_3 := Eq.symm hsm_3
  subst hsm_3
  refine xb_if_ne (tgt := 10) hx hb (by unfold ir; omega) dX12_takesSign_5 (by decide) (fun c_5 => ?_) (fun c_5 => ?_)
  · refine lv_aload_n hx hb dX12_takesSign_10 rfl (lv_at hl 0 rfl) ?_
    refine xc_vV G (b := 111) (rest := []) (As := []) (c_X12_next ω l μ  hPM (by omega) (by omega)) (wm 9 0 rfl rfl) (wm 9 2 rfl rfl) (wm 0 119 rfl rfl) rfl rfl (by decide) rfl (wm 1 18 rfl rfl) (wm 9 3 rfl rfl) (by decide) hR (by decide) (n := 0) rfl rfl (Nat.le_of_ble_eq_true rfl) hl.1 dX12_takesSign_11 (fun μ5 ρ d0 H locs hp G => ?_)
    obtain ⟨F_6, hp_7, hp_8, hp_9, hp_10, hp_11⟩ := hp
    have hpl_12 := hp_8.pl
    have hw_13 := wr_r (μ := μ5)
    refine lv_iconst (v := iv 1) hx hb dX12_takesSign_14 rfl ?_
    exact xr_i G (x := 1) hret hlk (by unfold ir; omega) (zr (by omega)) dX12_takesSign_15 ⟨(FrM.tr FrM.rf F_6 (by decide)), (fun j hj => (hp_7 j (fun h9 => hj ((by decide : ∀ x ∈ ([6, 8, 9, 10, 11, 12, 13, 15] : List Int), x ∈ ([6, 8, 9, 10, 11, 12, 13, 15] : List Int)) j h9)))), hp_8, (by omega), (fun _ h1 h2 h3 h4 => by omega), (by omega), (by omega)⟩
  · refine lv_iconst (v := iv 0) hx hb dX12_takesSign_8 rfl ?_
    exact xr_i G (x := 0) hret hlk (by unfold ir; omega) (zr (by omega)) dX12_takesSign_9 ⟨FrM.rf, (fun j hj => rfl), hPM, (by omega), (fun _ h1 h2 h3 h4 => by omega), (by omega), (by omega)⟩

set_option maxHeartbeats 4000000 in
set_option maxRecDepth 100000 in
theorem c_X12_takesWord (ω : Om) (l : Launch) (μ : M3) (x1 : Int) (hx1 : ir x1) (hPM : PM μ) (hnn : 0 ≤ nn μ ∧ nn μ ≤ 9 ∧ 9 * wr μ ≤ nn μ) : CtI ω l yX12_takesWord cX12_takesWord 2 .boolean 7 153 [.ref (oP ω 111), .int (iv x1)] μ (fun (r : Int) (μ' : M3) => (FrM [111] μ μ') ∧ (∀ j, j ∉ ([6, 8, 9, 10, 11, 12, 13, 15] : List Int) → μ'.1 111 j = μ.1 111 j) ∧ (PM μ') ∧ (0 ≤ r ∧ r ≤ 1 ∧ r + wr μ ≤ 1 ∧ μ.1 111 9 + r ≤ μ'.1 111 9) ∧ (∀ _ : Unit, r = 0 → wr μ = 0 → μ.1 111 8 = 1 → μ.1 111 11 ≠ x1) ∧ (wr μ ≤ wr μ' ∧ bd μ ≤ bd μ') ∧ (nn μ ≤ nn μ' ∧ nn μ' ≤ nn μ + 9 * wr μ' ∧ nn μ' ≤ 9 ∧ 9 * wr μ' ≤ nn μ')) := by
  refine CtI.go (by decide) (Nat.le_of_ble_eq_true rfl) (fun ρ p e s m below meth c R ls G hR hret hlk hl => ?_)
  have hx := G.1.1
  have hb := G.1.2.1
  have hl : lv_has ls 2 [(0, .ref (oP ω 111)), (1, .int (iv x1))] := hl
  generalize s.drawn = d0 at G ⊢
  have hr_x1 : -2147483648 ≤ x1 ∧ x1 ≤ 2147483647 := hx1
  have hw_0 := wr_r (μ := μ)
  have hpp_ := hPM.1.2.1
  have hpn_ := hPM.2.1
  have hpt_ := hPM.1.2.2.2.1
  have hpw_ := hPM.1.2.2.2.2.1
  have hpa_ := hPM.1.1
  refine lv_aload_n hx hb dX12_takesWord_0 rfl (lv_at hl 0 rfl) ?_
  refine lv_iload_n hx hb dX12_takesWord_1 rfl (lv_at hl 1 rfl) ?_
  refine xc_iV G (b := 111) (rest := []) (As := [.int (iv x1)]) (c_X12_isWord ω l μ x1 (by unfold ir; omega)) (wm 9 62 rfl rfl) (wm 9 64 rfl rfl) (wm 0 128 rfl rfl) rfl rfl (by decide) rfl (wm 1 18 rfl rfl) (wm 9 65 rfl rfl) (by decide) hR (by decide) (n := 1) rfl rfl (Nat.le_of_ble_eq_true rfl) hl.1 dX12_takesWord_2 (fun r_2 μ1 ρ d0 H locs hr_r_2 hp G => ?_)
  have hr_r_2 : -2147483648 ≤ r_2 ∧ r_2 ≤ 2147483647 := hr_r_2
  obtain ⟨hsm_3, hp_4⟩ := hp
  have hsm_3 := Eq.symm hsm_3
  subst hsm_3
  refine xb_if_ne (tgt := 10) hx hb (by unfold ir; omega) dX12_takesWord_5 (by decide) (fun c_5 => ?_) (fun c_5 => ?_)
  · refine lv_aload_n hx hb dX12_takesWord_10 rfl (lv_at hl 0 rfl) ?_
    refine xc_vV G (b := 111) (rest := []) (As := []) (c_X12_next ω l μ  hPM (by omega) (by omega)) (wm 9 0 rfl rfl) (wm 9 2 rfl rfl) (wm 0 119 rfl rfl) rfl rfl (by decide) rfl (wm 1 18 rfl rfl) (wm 9 3 rfl rfl) (by decide) hR (by decide) (n := 0) rfl rfl (Nat.le_of_ble_eq_true rfl) hl.1 dX12_takesWord_11 (fun μ5 ρ d0 H locs hp G => ?_)
    obtain ⟨F_6, hp_7, hp_8, hp_9, hp_10, hp_11⟩ := hp
    have hpl_12 := hp_8.pl
    have hw_13 := wr_r (μ := μ5)
    refine lv_iconst (v := iv 1) hx hb dX12_takesWord_14 rfl ?_
    exact xr_i G (x := 1) hret hlk (by unfold ir; omega) (zr (by omega)) dX12_takesWord_15 ⟨(FrM.tr FrM.rf F_6 (by decide)), (fun j hj => (hp_7 j (fun h9 => hj ((by decide : ∀ x ∈ ([6, 8, 9, 10, 11, 12, 13, 15] : List Int), x ∈ ([6, 8, 9, 10, 11, 12, 13, 15] : List Int)) j h9)))), hp_8, (by omega), (fun _ h1 h2 h3 h4 => by omega), (by omega), (by omega)⟩
  · refine lv_iconst (v := iv 0) hx hb dX12_takesWord_8 rfl ?_
    exact xr_i G (x := 0) hret hlk (by unfold ir; omega) (zr (by omega)) dX12_takesWord_9 ⟨FrM.rf, (fun j hj => rfl), hPM, (by omega), (fun _ h1 h2 h3 h4 => by omega), (by omega), (by omega)⟩
