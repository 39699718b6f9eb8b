abbrev cX4_targetFor : ByteArray := prog_6_method_26_code
def yX4_targetFor : MethodName := ⟨RX4, "targetFor", "(II)I"⟩
abbrev cX4_catchFor : ByteArray := prog_6_method_27_code
def yX4_catchFor : MethodName := ⟨RX4, "catchFor", "(II)I"⟩
theorem dX4_targetFor_0 : decode cX4_targetFor 0 = .ok (.iload_n 1, 1) := by decide +kernel
theorem dX4_targetFor_1 : decode cX4_targetFor 1 = .ok (.iconst 1, 1) := by decide +kernel
theorem dX4_targetFor_2 : decode cX4_targetFor 2 = .ok (.if_icmp .ne 16, 3) := by decide +kernel
theorem dX4_targetFor_5 : decode cX4_targetFor 5 = .ok (.aload_n 0, 1) := by decide +kernel
theorem dX4_targetFor_6 : decode cX4_targetFor 6 = .ok (.aload_n 0, 1) := by decide +kernel
theorem dX4_targetFor_7 : decode cX4_targetFor 7 = .ok (.getfield 43, 3) := by decide +kernel
theorem dX4_targetFor_10 : decode cX4_targetFor 10 = .ok (.invokevirtual 313, 3) := by decide +kernel
theorem dX4_targetFor_13 : decode cX4_targetFor 13 = .ok (.iload_n 2, 1) := by decide +kernel
theorem dX4_targetFor_14 : decode cX4_targetFor 14 = .ok (.invokevirtual 325, 3) := by decide +kernel
theorem dX4_targetFor_17 : decode cX4_targetFor 17 = .ok (.ireturn, 1) := by decide +kernel
theorem dX4_targetFor_18 : decode cX4_targetFor 18 = .ok (.iload_n 1, 1) := by decide +kernel
theorem dX4_targetFor_19 : decode cX4_targetFor 19 = .ok (.iconst 2, 1) := by decide +kernel
theorem dX4_targetFor_20 : decode cX4_targetFor 20 = .ok (.if_icmp .eq 19, 3) := by decide +kernel
theorem dX4_targetFor_23 : decode cX4_targetFor 23 = .ok (.iload_n 1, 1) := by decide +kernel
theorem dX4_targetFor_24 : decode cX4_targetFor 24 = .ok (.iconst 3, 1) := by decide +kernel
theorem dX4_targetFor_25 : decode cX4_targetFor 25 = .ok (.if_icmp .ne 22, 3) := by decide +kernel
theorem dX4_targetFor_28 : decode cX4_targetFor 28 = .ok (.aload_n 0, 1) := by decide +kernel
theorem dX4_targetFor_29 : decode cX4_targetFor 29 = .ok (.getfield 43, 3) := by decide +kernel
theorem dX4_targetFor_32 : decode cX4_targetFor 32 = .ok (.invokevirtual 328, 3) := by decide +kernel
theorem dX4_targetFor_35 : decode cX4_targetFor 35 = .ok (.iload_n 2, 1) := by decide +kernel
theorem dX4_targetFor_36 : decode cX4_targetFor 36 = .ok (.if_icmp .ne 11, 3) := by decide +kernel
theorem dX4_targetFor_39 : decode cX4_targetFor 39 = .ok (.aload_n 0, 1) := by decide +kernel
theorem dX4_targetFor_40 : decode cX4_targetFor 40 = .ok (.getfield 43, 3) := by decide +kernel
theorem dX4_targetFor_43 : decode cX4_targetFor 43 = .ok (.invokevirtual 313, 3) := by decide +kernel
theorem dX4_targetFor_46 : decode cX4_targetFor 46 = .ok (.ireturn, 1) := by decide +kernel
theorem dX4_targetFor_47 : decode cX4_targetFor 47 = .ok (.iconst (-1), 1) := by decide +kernel
theorem dX4_targetFor_48 : decode cX4_targetFor 48 = .ok (.ireturn, 1) := by decide +kernel
theorem dX4_catchFor_0 : decode cX4_catchFor 0 = .ok (.iload_n 1, 1) := by decide +kernel
theorem dX4_catchFor_1 : decode cX4_catchFor 1 = .ok (.istore_n 3, 1) := by decide +kernel
theorem dX4_catchFor_2 : decode cX4_catchFor 2 = .ok (.aload_n 0, 1) := by decide +kernel
theorem dX4_catchFor_3 : decode cX4_catchFor 3 = .ok (.getfield 83, 3) := by decide +kernel
theorem dX4_catchFor_6 : decode cX4_catchFor 6 = .ok (.invokevirtual 331, 3) := by decide +kernel
theorem dX4_catchFor_9 : decode cX4_catchFor 9 = .ok (.istore 4, 2) := by decide +kernel
theorem dX4_catchFor_11 : decode cX4_catchFor 11 = .ok (.iload 4, 2) := by decide +kernel
theorem dX4_catchFor_13 : decode cX4_catchFor 13 = .ok (.ifCond .le 45, 3) := by decide +kernel
theorem dX4_catchFor_16 : decode cX4_catchFor 16 = .ok (.iload_n 3, 1) := by decide +kernel
theorem dX4_catchFor_17 : decode cX4_catchFor 17 = .ok (.ifCond .lt 41, 3) := by decide +kernel
theorem dX4_catchFor_20 : decode cX4_catchFor 20 = .ok (.aload_n 0, 1) := by decide +kernel
theorem dX4_catchFor_21 : decode cX4_catchFor 21 = .ok (.getfield 75, 3) := by decide +kernel
theorem dX4_catchFor_24 : decode cX4_catchFor 24 = .ok (.iload_n 2, 1) := by decide +kernel
theorem dX4_catchFor_25 : decode cX4_catchFor 25 = .ok (.aload_n 0, 1) := by decide +kernel
theorem dX4_catchFor_26 : decode cX4_catchFor 26 = .ok (.getfield 83, 3) := by decide +kernel
theorem dX4_catchFor_29 : decode cX4_catchFor 29 = .ok (.iload_n 3, 1) := by decide +kernel
theorem dX4_catchFor_30 : decode cX4_catchFor 30 = .ok (.invokevirtual 165, 3) := by decide +kernel
theorem dX4_catchFor_33 : decode cX4_catchFor 33 = .ok (.invokevirtual 334, 3) := by decide +kernel
theorem dX4_catchFor_36 : decode cX4_catchFor 36 = .ok (.ifCond .eq 7, 3) := by decide +kernel
theorem dX4_catchFor_39 : decode cX4_catchFor 39 = .ok (.iload_n 3, 1) := by decide +kernel
theorem dX4_catchFor_40 : decode cX4_catchFor 40 = .ok (.iconst 1, 1) := by decide +kernel
theorem dX4_catchFor_41 : decode cX4_catchFor 41 = .ok (.iadd, 1) := by decide +kernel
theorem dX4_catchFor_42 : decode cX4_catchFor 42 = .ok (.ireturn, 1) := by decide +kernel
theorem dX4_catchFor_43 : decode cX4_catchFor 43 = .ok (.aload_n 0, 1) := by decide +kernel
theorem dX4_catchFor_44 : decode cX4_catchFor 44 = .ok (.getfield 83, 3) := by decide +kernel
theorem dX4_catchFor_47 : decode cX4_catchFor 47 = .ok (.iload_n 3, 1) := by decide +kernel
theorem dX4_catchFor_48 : decode cX4_catchFor 48 = .ok (.invokevirtual 168, 3) := by decide +kernel
theorem dX4_catchFor_51 : decode cX4_catchFor 51 = .ok (.istore_n 3, 1) := by decide +kernel
theorem dX4_catchFor_52 : decode cX4_catchFor 52 = .ok (.iinc 4 (-1), 3) := by decide +kernel
theorem dX4_catchFor_55 : decode cX4_catchFor 55 = .ok (.goto (-44), 3) := by decide +kernel
theorem dX4_catchFor_58 : decode cX4_catchFor 58 = .ok (.iconst (-1), 1) := by decide +kernel
theorem dX4_catchFor_59 : decode cX4_catchFor 59 = .ok (.ireturn, 1) := by decide +kernel
/-- places that a jump may go to; what a guard says of its place -/
def gtc (c : Int → Int) (t : Int) : Prop := c t = 0 ∧ 0 ≤ t ∧ t ≤ 8001
def cth (μ : M3) (p : Int) (c : Int → Int) (t : Int) : Prop := t < 0 ∨ (cdp μ p t 0 = 30 ∧ gtc c (t + 1))
def ctc (μ : M3) (p : Int) (c : Int → Int) : Prop := ∀ t, 0 ≤ t → cdp μ p t 0 = 30 → gtc c (t + 1) → cth μ p c (cdp μ p t 2)
def gok0 (μ : M3) (p : Int) (c : Int → Int) (k t : Int) : Prop := (k = 1 → cth μ p c t) ∧ (k ≠ 1 → k ≠ 4 → k ≠ 5 → gtc c t)
def gok (μ : M3) (p : Int) (c : Int → Int → Int) (j k t : Int) : Prop := gok0 μ p (c j) k t ∧ (k = 4 → gtc (c (j + 1)) t)
theorem cdp_fr {L : List Int} {μ ν : M3} (F : Fr L μ ν) {p : Int} (h1 : p ∉ L) (h2 : p + 1 ∉ L) (i k : Int) : cdp ν p i k = cdp μ p i k := by
  unfold cdp; rw [F.1 p h1 1, F.1 (p + 1) h2]
theorem cth.fr {L : List Int} {μ ν : M3} {p t : Int} {c : Int → Int} (h : cth μ p c t) (F : Fr L μ ν) (hp : isPr p) (hL : npL L = true) : cth ν p c t := by
  unfold cth at *
  rw [cdp_fr F (npL_p hL hp).1 (npL_p hL hp).2.1]; exact h
theorem ctc.fr {L : List Int} {μ ν : M3} {p : Int} {c : Int → Int} (h : ctc μ p c) (F : Fr L μ ν) (hp : isPr p) (hL : npL L = true) : ctc ν p c := by
  intro t h0 h1 h2
  have e := cdp_fr F (npL_p hL hp).1 (npL_p hL hp).2.1
  rw [e] at h1 ⊢
  exact (h t h0 h1 h2).fr F hp hL
theorem gok.fr {L : List Int} {μ ν : M3} {p j k t : Int} {c : Int → Int → Int} (h : gok μ p c j k t) (F : Fr L μ ν) (hp : isPr p) (hL : npL L = true) : gok ν p c j k t :=
  ⟨⟨fun hk => (h.1.1 hk).fr F hp hL, h.1.2⟩, h.2⟩
theorem ofG_at {μ : M3} {b k : Int} (h : μ.1 60 6 = k) (hk : 0 < k) : ofG μ b = μ.1 b (k - 1) := by
  unfold ofG; rw [h, if_pos hk]
set_option maxHeartbeats 4000000 in
set_option maxRecDepth 100000 in
theorem c_X4_catchFor (ω : Om) (l : Launch) (μ : M3) (x1 : Int) (x2 : Int) (cr0 : Int → Int) (P : Int) (hx1 : ir x1) (hx2 : ir x2) (hI : IC μ) (hP : P = μ.1 32 10) (hcc : ctc μ P cr0) (hc1 : cth μ P cr0 x1) : CtI ω l yX4_catchFor cX4_catchFor 5 .int 2 45 [.ref (oP ω 32), .int (iv x1), .int (iv x2)] μ (fun (r : Int) (μ' : M3) => (μ' = μ) ∧ (r = -1 ∨ gtc cr0 r)) := by
  refine CtI.go (by decide) (Nat.le_of_ble_eq_true rfl) (fun ρ p e s m below meth c R ls G hR hret hlk hl => ?_)
  have hx := G.1.1
  have hb := G.1.2.1
  have hl : lv_has ls 5 [(0, .ref (oP ω 32)), (1, .int (iv x1)), (2, .int (iv x2))] := hl
  generalize s.drawn = d0 at G ⊢
  have hr_x1 : -2147483648 ≤ x1 ∧ x1 ≤ 2147483647 := hx1
  have hr_x2 : -2147483648 ≤ x2 ∧ x2 ≤ 2147483647 := hx2
  have hprP : isPr P := by have h9 := G.sr0.2.2.2.2.1; rw [← hP] at h9; exact h9
  have hprP_d : P = 13 ∨ P = 71 ∨ P = 81 ∨ P = 91 ∨ P = 101 := hprP
  refine lv_iload_n hx hb dX4_catchFor_0 rfl (lv_at hl 1 rfl) ?_
  refine lv_istore_n (lv' := [(3, .int (iv x1)), (0, .ref (oP ω 32)), (1, .int (iv x1)), (2, .int (iv x2))]) hx hb dX4_catchFor_1 rfl hl (by decide) rfl (fun ls hl => ?_)
  refine lv_aload_n hx hb dX4_catchFor_2 rfl (lv_at hl 1 rfl) ?_
  refine xa_getr G fd_X4 (a := 32) (x := P) 10 rfl (by decide) rfl (wm 2 154 rfl rfl) ⟨rfl, rfl, rfl⟩ dX4_catchFor_3 rfl hP.symm (by omega) (hprP.hq ω ρ) ?_
  have hk_1 := hI.pr (p := P) hprP
  unfold pk at hk_1
  have hc_2 : 16 ≤ μ.2.1 (P + 1) ∧ μ.2.1 (P + 1) ≤ 73024 := hI.rm.1 _ hprP.cap
  refine xc_iV G (b := P) (rest := []) (As := []) (c_X8_length ω l μ P hprP hI) (wm 5 181 rfl rfl) (wm 4 36 rfl rfl) (wm 4 37 rfl rfl) hprP.ly rfl (by decide) (hprP.hq ω ρ) (wm 1 9 rfl rfl) (wm 4 38 rfl rfl) (by decide) hR (by decide) (n := 0) rfl rfl (Nat.le_of_ble_eq_true rfl) hl.1 dX4_catchFor_6 (fun r_4 μ3 ρ d0 H locs hr_r_4 hp G => ?_)
  have hr_r_4 : -2147483648 ≤ r_4 ∧ r_4 ≤ 2147483647 := hr_r_4
  obtain ⟨hsm_5, hp_6⟩ := hp
  have hsm_5 := Eq.symm hsm_5
  subst hsm_5
  refine lv_istore (lv' := [(4, .int (iv r_4)), (3, .int (iv x1)), (0, .ref (oP ω 32)), (1, .int (iv x1)), (2, .int (iv x2))]) hx hb dX4_catchFor_9 hl (by decide) rfl (fun ls hl => ?_)
  refine xl (fun n_9 μ' ls => ∃ (t9 : Int), ∃ (i9 : Int), (μ' = μ) ∧ (-2147483648 ≤ t9 ∧ t9 ≤ 2147483647) ∧ (-2147483648 ≤ i9 ∧ i9 ≤ 2147483647) ∧ (0 ≤ i9) ∧ (i9 ≤ 100000) ∧ (cth μ P cr0 t9) ∧ n_9 = Int.toNat (i9) ∧ lv_has ls 5 [(4, .int (iv i9)), (3, .int (iv t9)), (0, .ref (oP ω 32)), (1, .int (iv x1)), (2, .int (iv x2))]) (fun n_9 ρ μL7 d0 H locs ls hI_l G ih => ?_) _ _ _ _ _ _ _ ⟨x1, r_4, rfl, (by omega), (by omega), (by omega), (by omega), hc1, rfl, lv_sub hl [0, 1, 2, 3, 4] rfl⟩ G
  obtain ⟨t9, i9, FL8, hi_10, hi_11, hi_12, hi_13, hi_14, hn9, hl⟩ := hI_l
  have FL8 := Eq.symm FL8
  subst FL8
  refine lv_iload hx hb dX4_catchFor_11 (lv_at hl 0 rfl) ?_
  refine xb_if_le (tgt := 58) hx hb (by unfold ir; omega) dX4_catchFor_13 (by decide) (fun c_13 => ?_) (fun c_13 => ?_)
  · refine lv_iconst (v := iv (-1)) hx hb dX4_catchFor_58 rfl ?_
    exact xr_i G (x := (-1)) hret hlk (by unfold ir; omega) rfl dX4_catchFor_59 ⟨rfl, (Or.inl rfl)⟩
  · refine lv_iload_n hx hb dX4_catchFor_16 rfl (lv_at hl 1 rfl) ?_
    refine xb_if_lt (tgt := 58) hx hb (by unfold ir; omega) dX4_catchFor_17 (by decide) (fun c_17 => ?_) (fun c_17 => ?_)
    · refine lv_iconst (v := iv (-1)) hx hb dX4_catchFor_58 rfl ?_
      exact xr_i G (x := (-1)) hret hlk (by unfold ir; omega) rfl dX4_catchFor_59 ⟨rfl, (Or.inl rfl)⟩
    · refine lv_aload_n hx hb dX4_catchFor_20 rfl (lv_at hl 2 rfl) ?_
      refine xa_getr G fd_X4 (a := 32) (x := 2) 1 rfl (by decide) rfl (wm 2 145 rfl rfl) ⟨rfl, rfl, rfl⟩ dX4_catchFor_21 rfl (G.sk 34 rfl) (by decide) rfl ?_
      refine lv_iload_n hx hb dX4_catchFor_24 rfl (lv_at hl 4 rfl) ?_
      refine lv_aload_n hx hb dX4_catchFor_25 rfl (lv_at hl 2 rfl) ?_
      refine xa_getr G fd_X4 (a := 32) (x := P) 10 rfl (by decide) rfl (wm 2 154 rfl rfl) ⟨rfl, rfl, rfl⟩ dX4_catchFor_26 rfl hP.symm (by omega) (hprP.hq ω ρ) ?_
      refine lv_iload_n hx hb dX4_catchFor_29 rfl (lv_at hl 1 rfl) ?_
      refine xc_iV G (b := P) (rest := [.int (iv x2), .ref (oP ω 2)]) (As := [.int (iv t9)]) (c_X8_first ω l μ P t9 hprP (by unfold ir; omega) hI) (wm 5 182 rfl rfl) (wm 4 44 rfl rfl) (wm 4 45 rfl rfl) hprP.ly rfl (by decide) (hprP.hq ω ρ) (wm 1 9 rfl rfl) (wm 4 46 rfl rfl) (by decide) hR (by decide) (n := 1) rfl rfl (Nat.le_of_ble_eq_true rfl) hl.1 dX4_catchFor_30 (fun r_16 μ15 ρ d0 H locs hr_r_16 hp G => ?_)
      have hr_r_16 : -2147483648 ≤ r_16 ∧ r_16 ≤ 2147483647 := hr_r_16
      obtain ⟨hsm_17, hp_18⟩ := hp
      have hsm_17 := Eq.symm hsm_17
      subst hsm_17
      refine xc_iV G (b := 2) (rest := []) (As := [.int (iv x2), .int (iv r_16)]) (c_X5_isOrUnder ω l μ x2 r_16 (by unfold ir; omega) (by unfold ir; omega) hI) (wm 5 183 rfl rfl) (wm 4 196 rfl rfl) (wm 4 197 rfl rfl) rfl rfl (by decide) rfl (wm 1 2 rfl rfl) (wm 4 198 rfl rfl) (by decide) hR (by decide) (n := 2) rfl rfl (Nat.le_of_ble_eq_true rfl) hl.1 dX4_catchFor_33 (fun r_20 μ19 ρ d0 H locs hr_r_20 hp G => ?_)
      have hr_r_20 : -2147483648 ≤ r_20 ∧ r_20 ≤ 2147483647 := hr_r_20
      obtain ⟨hsm_21, hp_22⟩ := hp
      have hsm_21 := Eq.symm hsm_21
      subst hsm_21
      refine xb_if_eq (tgt := 43) hx hb (by unfold ir; omega) dX4_catchFor_36 (by decide) (fun c_36 => ?_) (fun c_36 => ?_)
      · refine lv_aload_n hx hb dX4_catchFor_43 rfl (lv_at hl 2 rfl) ?_
        refine xa_getr G fd_X4 (a := 32) (x := P) 10 rfl (by decide) rfl (wm 2 154 rfl rfl) ⟨rfl, rfl, rfl⟩ dX4_catchFor_44 rfl hP.symm (by omega) (hprP.hq ω ρ) ?_
        refine lv_iload_n hx hb dX4_catchFor_47 rfl (lv_at hl 1 rfl) ?_
        refine xc_iV G (b := P) (rest := []) (As := [.int (iv t9)]) (c_X8_second ω l μ P t9 hprP (by unfold ir; omega) hI) (wm 5 184 rfl rfl) (wm 5 185 rfl rfl) (wm 5 186 rfl rfl) hprP.ly rfl (by decide) (hprP.hq ω ρ) (wm 1 9 rfl rfl) (wm 5 187 rfl rfl) (by decide) hR (by decide) (n := 1) rfl rfl (Nat.le_of_ble_eq_true rfl) hl.1 dX4_catchFor_48 (fun r_24 μ23 ρ d0 H locs hr_r_24 hp G => ?_)
        have hr_r_24 : -2147483648 ≤ r_24 ∧ r_24 ≤ 2147483647 := hr_r_24
        obtain ⟨hsm_25, hp_26⟩ := hp
        have hsm_25 := Eq.symm hsm_25
        subst hsm_25
        refine lv_istore_n (lv' := [(3, .int (iv r_24)), (4, .int (iv i9)), (0, .ref (oP ω 32)), (1, .int (iv x1)), (2, .int (iv x2))]) hx hb dX4_catchFor_51 rfl hl (by decide) rfl (fun ls hl => ?_)
        refine lv_iinc (v := iv (i9 - 1)) (lv' := [(4, .int (iv (i9 - 1))), (3, .int (iv r_24)), (0, .ref (oP ω 32)), (1, .int (iv x1)), (2, .int (iv x2))]) hx hb dX4_catchFor_52 hl (k := 1) rfl (by rw [show Int32.ofInt (-1) = iv (-1) from rfl, iv_add] <;> (congr 1 <;> omega)) (by decide) rfl (fun ls hl => ?_)
        refine lv_goto (tgt := 11) hx hb dX4_catchFor_55 (by decide) ?_
        have hcn : cth μ P cr0 (cdp μ P t9 2) := hcc t9 (by omega) (hi_14.resolve_left (by omega)).1 (hi_14.resolve_left (by omega)).2
        exact ih _ _ _ _ _ _ _ (by omega) ⟨r_24, i9 - 1, rfl, (by omega), (by omega), (by omega), (by omega), (by rw [hp_26]; exact hcn), rfl, lv_sub hl [0, 1, 2, 3, 4] rfl⟩ G
      · have hg8 : 0 ≤ t9 + 1 ∧ t9 + 1 ≤ 8001 := (hi_14.resolve_left (by omega)).2.2
        refine lv_iload_n hx hb dX4_catchFor_39 rfl (lv_at hl 1 rfl) ?_
        refine lv_iconst (v := iv 1) hx hb dX4_catchFor_40 rfl ?_
        refine xb_iadd hx hb dX4_catchFor_41 ?_
        exact xr_i G (x := t9 + 1) hret hlk (by unfold ir; omega) rfl dX4_catchFor_42 ⟨rfl, (Or.inr (hi_14.resolve_left (by omega)).2)⟩

set_option maxHeartbeats 4000000 in
set_option maxRecDepth 100000 in
theorem c_X4_targetFor (ω : Om) (l : Launch) (μ : M3) (x1 : Int) (x2 : Int) (cr0 : Int → Int) (P : Int) (hx1 : ir x1) (hx2 : ir x2) (hI : IC μ) (hP : P = μ.1 32 10) (hcc : ctc μ P cr0) (hok : gok0 μ P cr0 x1 (ofG μ 62)) : CtI ω l yX4_targetFor cX4_targetFor 3 .int 3 69 [.ref (oP ω 32), .int (iv x1), .int (iv x2)] μ (fun (r : Int) (μ' : M3) => (μ' = μ) ∧ (r < 0 ∨ gtc cr0 r) ∧ (x1 ≠ 2 ∨ gtc cr0 r)) := by
  refine CtI.go (by decide) (Nat.le_of_ble_eq_true rfl) (fun ρ p e s m below meth c R ls G hR hret hlk hl => ?_)
  have hx := G.1.1
  have hb := G.1.2.1
  have hl : lv_has ls 3 [(0, .ref (oP ω 32)), (1, .int (iv x1)), (2, .int (iv x2))] := hl
  generalize s.drawn = d0 at G ⊢
  have hr_x1 : -2147483648 ≤ x1 ∧ x1 ≤ 2147483647 := hx1
  have hr_x2 : -2147483648 ≤ x2 ∧ x2 ≤ 2147483647 := hx2
  have hprP : isPr P := by have h9 := G.sr0.2.2.2.2.1; rw [← hP] at h9; exact h9
  have hprP_d : P = 13 ∨ P = 71 ∨ P = 81 ∨ P = 91 ∨ P = 101 := hprP
  refine lv_iload_n hx hb dX4_targetFor_0 rfl (lv_at hl 1 rfl) ?_
  refine lv_iconst (v := iv 1) hx hb dX4_targetFor_1 rfl ?_
  refine xb_icmp_ne (tgt := 18) hx hb (by unfold ir; omega) (by unfold ir; omega) dX4_targetFor_2 (by decide) (fun c_2 => ?_) (fun c_2 => ?_)
  · refine lv_iload_n hx hb dX4_targetFor_18 rfl (lv_at hl 1 rfl) ?_
    refine lv_iconst (v := iv 2) hx hb dX4_targetFor_19 rfl ?_
    refine xb_icmp_eq (tgt := 39) hx hb (by unfold ir; omega) (by unfold ir; omega) dX4_targetFor_20 (by decide) (fun c_20 => ?_) (fun c_20 => ?_)
    · refine lv_aload_n hx hb dX4_targetFor_39 rfl (lv_at hl 0 rfl) ?_
      refine xa_getr G fd_X4 (a := 32) (x := 60) 8 rfl (by decide) rfl (wm 2 152 rfl rfl) ⟨rfl, rfl, rfl⟩ dX4_targetFor_40 rfl (G.sk 41 rfl) (by decide) rfl ?_
      refine xc_iV G (b := 60) (rest := []) (As := []) (c_X3_target ω l μ  hI) (wm 5 139 rfl rfl) (wm 5 140 rfl rfl) (wm 5 141 rfl rfl) rfl rfl (by decide) rfl (wm 1 17 rfl rfl) (wm 5 142 rfl rfl) (by decide) hR (by decide) (n := 0) rfl rfl (Nat.le_of_ble_eq_true rfl) hl.1 dX4_targetFor_43 (fun r_2 μ1 ρ d0 H locs hr_r_2 hp G => ?_)
      have hr_r_2 : -2147483648 ≤ r_2 ∧ r_2 ≤ 2147483647 := hr_r_2
      obtain ⟨hsm_3, hp_4⟩ := hp
      have hsm_3 := Eq.symm hsm_3
      subst hsm_3
      exact xr_i G (x := r_2) hret hlk (by unfold ir; omega) rfl dX4_targetFor_46 ⟨rfl, (Or.inr (by rw [hp_4]; exact hok.2 (by omega) (by omega) (by omega))), (Or.inr (by rw [hp_4]; exact hok.2 (by omega) (by omega) (by omega)))⟩
    · refine lv_iload_n hx hb dX4_targetFor_23 rfl (lv_at hl 1 rfl) ?_
      refine lv_iconst (v := iv 3) hx hb dX4_targetFor_24 rfl ?_
      refine xb_icmp_ne (tgt := 47) hx hb (by unfold ir; omega) (by unfold ir; omega) dX4_targetFor_25 (by decide) (fun c_25 => ?_) (fun c_25 => ?_)
      · refine lv_iconst (v := iv (-1)) hx hb dX4_targetFor_47 rfl ?_
        exact xr_i G (x := (-1)) hret hlk (by unfold ir; omega) rfl dX4_targetFor_48 ⟨rfl, (Or.inl (by omega)), (Or.inl (by omega))⟩
      · refine lv_aload_n hx hb dX4_targetFor_28 rfl (lv_at hl 0 rfl) ?_
        refine xa_getr G fd_X4 (a := 32) (x := 60) 8 rfl (by decide) rfl (wm 2 152 rfl rfl) ⟨rfl, rfl, rfl⟩ dX4_targetFor_29 rfl (G.sk 41 rfl) (by decide) rfl ?_
        refine xc_iV G (b := 60) (rest := []) (As := []) (c_X3_name ω l μ  hI) (wm 5 188 rfl rfl) (wm 5 189 rfl rfl) (wm 5 190 rfl rfl) rfl rfl (by decide) rfl (wm 1 17 rfl rfl) (wm 5 191 rfl rfl) (by decide) hR (by decide) (n := 0) rfl rfl (Nat.le_of_ble_eq_true rfl) hl.1 dX4_targetFor_32 (fun r_6 μ5 ρ d0 H locs hr_r_6 hp G => ?_)
        have hr_r_6 : -2147483648 ≤ r_6 ∧ r_6 ≤ 2147483647 := hr_r_6
        obtain ⟨hsm_7, hp_8⟩ := hp
        have hsm_7 := Eq.symm hsm_7
        subst hsm_7
        refine lv_iload_n hx hb dX4_targetFor_35 rfl (lv_at hl 2 rfl) ?_
        refine xb_icmp_ne (tgt := 47) hx hb (by unfold ir; omega) (by unfold ir; omega) dX4_targetFor_36 (by decide) (fun c_36 => ?_) (fun c_36 => ?_)
        · refine lv_iconst (v := iv (-1)) hx hb dX4_targetFor_47 rfl ?_
          exact xr_i G (x := (-1)) hret hlk (by unfold ir; omega) rfl dX4_targetFor_48 ⟨rfl, (Or.inl (by omega)), (Or.inl (by omega))⟩
        · refine lv_aload_n hx hb dX4_targetFor_39 rfl (lv_at hl 0 rfl) ?_
          refine xa_getr G fd_X4 (a := 32) (x := 60) 8 rfl (by decide) rfl (wm 2 152 rfl rfl) ⟨rfl, rfl, rfl⟩ dX4_targetFor_40 rfl (G.sk 41 rfl) (by decide) rfl ?_
          refine xc_iV G (b := 60) (rest := []) (As := []) (c_X3_target ω l μ  hI) (wm 5 139 rfl rfl) (wm 5 140 rfl rfl) (wm 5 141 rfl rfl) rfl rfl (by decide) rfl (wm 1 17 rfl rfl) (wm 5 142 rfl rfl) (by decide) hR (by decide) (n := 0) rfl rfl (Nat.le_of_ble_eq_true rfl) hl.1 dX4_targetFor_43 (fun r_10 μ9 ρ d0 H locs hr_r_10 hp G => ?_)
          have hr_r_10 : -2147483648 ≤ r_10 ∧ r_10 ≤ 2147483647 := hr_r_10
          obtain ⟨hsm_11, hp_12⟩ := hp
          have hsm_11 := Eq.symm hsm_11
          subst hsm_11
          exact xr_i G (x := r_10) hret hlk (by unfold ir; omega) rfl dX4_targetFor_46 ⟨rfl, (Or.inr (by rw [hp_12]; exact hok.2 (by omega) (by omega) (by omega))), (Or.inr (by rw [hp_12]; exact hok.2 (by omega) (by omega) (by omega)))⟩
  · refine lv_aload_n hx hb dX4_targetFor_5 rfl (lv_at hl 0 rfl) ?_
    refine lv_aload_n hx hb dX4_targetFor_6 rfl (lv_at hl 0 rfl) ?_
    refine xa_getr G fd_X4 (a := 32) (x := 60) 8 rfl (by decide) rfl (wm 2 152 rfl rfl) ⟨rfl, rfl, rfl⟩ dX4_targetFor_7 rfl (G.sk 41 rfl) (by decide) rfl ?_
    refine xc_iV G (b := 60) (rest := [.ref (oP ω 32)]) (As := []) (c_X3_target ω l μ  hI) (wm 5 139 rfl rfl) (wm 5 140 rfl rfl) (wm 5 141 rfl rfl) rfl rfl (by decide) rfl (wm 1 17 rfl rfl) (wm 5 142 rfl rfl) (by decide) hR (by decide) (n := 0) rfl rfl (Nat.le_of_ble_eq_true rfl) hl.1 dX4_targetFor_10 (fun r_14 μ13 ρ d0 H locs hr_r_14 hp G => ?_)
    have hr_r_14 : -2147483648 ≤ r_14 ∧ r_14 ≤ 2147483647 := hr_r_14
    obtain ⟨hsm_15, hp_16⟩ := hp
    have hsm_15 := Eq.symm hsm_15
    subst hsm_15
    refine lv_iload_n hx hb dX4_targetFor_13 rfl (lv_at hl 2 rfl) ?_
    have e_17 : μ.1 32 10 = P := hP.symm
    refine xc_iV G (b := 32) (rest := []) (As := [.int (iv r_14), .int (iv x2)]) (c_X4_catchFor ω l μ r_14 x2 cr0 P (by unfold ir; omega) (by unfold ir; omega) hI (by omega) hcc (by rw [hp_16]; exact hok.1 (by omega))) (wm 5 177 rfl rfl) (wm 5 179 rfl rfl) (wm 0 70 rfl rfl) rfl rfl (by decide) rfl (wm 1 14 rfl rfl) (wm 5 180 rfl rfl) (by decide) hR (by decide) (n := 2) rfl rfl (Nat.le_of_ble_eq_true rfl) hl.1 dX4_targetFor_14 (fun r_19 μ18 ρ d0 H locs hr_r_19 hp G => ?_)
    have hr_r_19 : -2147483648 ≤ r_19 ∧ r_19 ≤ 2147483647 := hr_r_19
    obtain ⟨hsm_20, hp_21⟩ := hp
    have hsm_20 := Eq.symm hsm_20
    subst hsm_20
    exact xr_i G (x := r_19) hret hlk (by unfold ir; omega) rfl dX4_targetFor_17 ⟨rfl, (hp_21.imp (fun h9 => by omega) id), (Or.inl (by omega))⟩
