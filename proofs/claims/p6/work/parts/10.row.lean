abbrev cX9_kind : ByteArray := prog_11_method_3_code
def yX9_kind : MethodName := ⟨RX9, "kind", "(I)I"⟩
abbrev cX9_whole : ByteArray := prog_11_method_4_code
def yX9_whole : MethodName := ⟨RX9, "whole", "(I)J"⟩
abbrev cX9_real : ByteArray := prog_11_method_5_code
def yX9_real : MethodName := ⟨RX9, "real", "(I)D"⟩
theorem dX9_kind_0 : decode cX9_kind 0 = .ok (.iload_n 1, 1) := by decide +kernel
theorem dX9_kind_1 : decode cX9_kind 1 = .ok (.ifCond .lt 20, 3) := by decide +kernel
theorem dX9_kind_4 : decode cX9_kind 4 = .ok (.iload_n 1, 1) := by decide +kernel
theorem dX9_kind_5 : decode cX9_kind 5 = .ok (.aload_n 0, 1) := by decide +kernel
theorem dX9_kind_6 : decode cX9_kind 6 = .ok (.getfield 7, 3) := by decide +kernel
theorem dX9_kind_9 : decode cX9_kind 9 = .ok (.if_icmp .ge 12, 3) := by decide +kernel
theorem dX9_kind_12 : decode cX9_kind 12 = .ok (.aload_n 0, 1) := by decide +kernel
theorem dX9_kind_13 : decode cX9_kind 13 = .ok (.getfield 19, 3) := by decide +kernel
theorem dX9_kind_16 : decode cX9_kind 16 = .ok (.iload_n 1, 1) := by decide +kernel
theorem dX9_kind_17 : decode cX9_kind 17 = .ok (.iaload, 1) := by decide +kernel
theorem dX9_kind_18 : decode cX9_kind 18 = .ok (.goto 4, 3) := by decide +kernel
theorem dX9_kind_21 : decode cX9_kind 21 = .ok (.iconst 0, 1) := by decide +kernel
theorem dX9_kind_22 : decode cX9_kind 22 = .ok (.ireturn, 1) := by decide +kernel
theorem dX9_whole_0 : decode cX9_whole 0 = .ok (.iload_n 1, 1) := by decide +kernel
theorem dX9_whole_1 : decode cX9_whole 1 = .ok (.ifCond .lt 20, 3) := by decide +kernel
theorem dX9_whole_4 : decode cX9_whole 4 = .ok (.iload_n 1, 1) := by decide +kernel
theorem dX9_whole_5 : decode cX9_whole 5 = .ok (.aload_n 0, 1) := by decide +kernel
theorem dX9_whole_6 : decode cX9_whole 6 = .ok (.getfield 7, 3) := by decide +kernel
theorem dX9_whole_9 : decode cX9_whole 9 = .ok (.if_icmp .ge 12, 3) := by decide +kernel
theorem dX9_whole_12 : decode cX9_whole 12 = .ok (.aload_n 0, 1) := by decide +kernel
theorem dX9_whole_13 : decode cX9_whole 13 = .ok (.getfield 23, 3) := by decide +kernel
theorem dX9_whole_16 : decode cX9_whole 16 = .ok (.iload_n 1, 1) := by decide +kernel
theorem dX9_whole_17 : decode cX9_whole 17 = .ok (.laload, 1) := by decide +kernel
theorem dX9_whole_18 : decode cX9_whole 18 = .ok (.goto 4, 3) := by decide +kernel
theorem dX9_whole_21 : decode cX9_whole 21 = .ok (.lconst 0, 1) := by decide +kernel
theorem dX9_whole_22 : decode cX9_whole 22 = .ok (.lreturn, 1) := by decide +kernel
theorem dX9_real_0 : decode cX9_real 0 = .ok (.iload_n 1, 1) := by decide +kernel
theorem dX9_real_1 : decode cX9_real 1 = .ok (.ifCond .lt 20, 3) := by decide +kernel
theorem dX9_real_4 : decode cX9_real 4 = .ok (.iload_n 1, 1) := by decide +kernel
theorem dX9_real_5 : decode cX9_real 5 = .ok (.aload_n 0, 1) := by decide +kernel
theorem dX9_real_6 : decode cX9_real 6 = .ok (.getfield 7, 3) := by decide +kernel
theorem dX9_real_9 : decode cX9_real 9 = .ok (.if_icmp .ge 12, 3) := by decide +kernel
theorem dX9_real_12 : decode cX9_real 12 = .ok (.aload_n 0, 1) := by decide +kernel
theorem dX9_real_13 : decode cX9_real 13 = .ok (.getfield 27, 3) := by decide +kernel
theorem dX9_real_16 : decode cX9_real 16 = .ok (.iload_n 1, 1) := by decide +kernel
theorem dX9_real_17 : decode cX9_real 17 = .ok (.daload, 1) := by decide +kernel
theorem dX9_real_18 : decode cX9_real 18 = .ok (.goto 4, 3) := by decide +kernel
theorem dX9_real_21 : decode cX9_real 21 = .ok (.dconst 0, 1) := by decide +kernel
theorem dX9_real_22 : decode cX9_real 22 = .ok (.dreturn, 1) := by decide +kernel
/-- a row of VALUES: how many, within its three arrays -/
def rk (μ : M3) (r : Int) : Prop := 0 ≤ μ.1 r 3 ∧ μ.1 r 3 ≤ μ.2.1 (r + 1) ∧ μ.2.1 (r + 2) = μ.2.1 (r + 1) ∧ μ.2.1 (r + 3) = μ.2.1 (r + 1) ∧ 16 ≤ μ.2.1 (r + 1)
set_option maxHeartbeats 4000000 in
set_option maxRecDepth 100000 in
theorem c_X9_kind (ω : Om) (l : Launch) (μ : M3) (r : Int) (x1 : Int) (hrw : isRow r) (hk : rk μ r) (h1 : ir x1) : CtI ω l yX9_kind cX9_kind 2 .int 0 0 [.ref (oP ω r), .int (iv x1)] μ (fun (r : Int) (μ' : M3) => (μ' = μ)) := by
  refine CtI.go (by decide) (Nat.le_of_ble_eq_true rfl) (fun ρ p e s m below meth c R ls G hR hret hlk hl => ?_)
  have hx := G.1.1
  have hb := G.1.2.1
  have hl : lv_has ls 2 [(0, .ref (oP ω r)), (1, .int (iv x1))] := hl
  generalize s.drawn = d0 at G ⊢
  have hk2 := hk
  unfold rk at hk2
  have h1b := h1
  unfold ir at h1b
  have hr0 := hrw.nn
  refine lv_iload_n hx hb dX9_kind_0 rfl (lv_at hl 1 rfl) ?_
  refine xb_if_lt (tgt := 21) hx hb (by unfold ir; omega) dX9_kind_1 (by decide) (fun c_1 => ?_) (fun c_1 => ?_)
  · refine lv_iconst (v := iv 0) hx hb dX9_kind_21 rfl ?_
    exact xr_i G (x := 0) hret hlk (by unfold ir; omega) rfl dX9_kind_22 rfl
  · refine lv_iload_n hx hb dX9_kind_4 rfl (lv_at hl 1 rfl) ?_
    refine lv_aload_n hx hb dX9_kind_5 rfl (lv_at hl 0 rfl) ?_
    refine xa_geti G fd_X9 (a := r) (x := μ.1 r 3) 3 hrw.ly (by decide) rfl (wm 1 153 rfl rfl) ⟨rfl, rfl, rfl⟩ dX9_kind_6 (hrw.hq ω ρ) rfl ?_
    have hr_1 : -2147483648 ≤ μ.1 r 3 ∧ μ.1 r 3 ≤ 2147483647 := by have h9 := G.hr (a := r) (k := 3) hrw.tz; exact h9
    refine xb_icmp_ge (tgt := 21) hx hb (by unfold ir; omega) (by unfold ir; omega) dX9_kind_9 (by decide) (fun c_9 => ?_) (fun c_9 => ?_)
    · refine lv_iconst (v := iv 0) hx hb dX9_kind_21 rfl ?_
      exact xr_i G (x := 0) hret hlk (by unfold ir; omega) rfl dX9_kind_22 rfl
    · refine lv_aload_n hx hb dX9_kind_12 rfl (lv_at hl 0 rfl) ?_
      refine xa_getr G fd_X9 (a := r) (x := r + 1) 0 hrw.ly (by decide) rfl (wm 1 150 rfl rfl) ⟨rfl, rfl, rfl⟩ dX9_kind_13 (hrw.hq ω ρ) (G.sr hrw.s0) (by omega) (hrw.hq1 ω ρ) ?_
      refine lv_iload_n hx hb dX9_kind_16 rfl (lv_at hl 1 rfl) ?_
      refine xa_iald G (a := r + 1) (i := x1) hrw.ly1 (by omega) dX9_kind_17 (hrw.hq1 ω ρ) ?_
      have hr_2 : -2147483648 ≤ μ.1 (r + 1) x1 ∧ μ.1 (r + 1) x1 ≤ 2147483647 := by have h9 := G.hr (a := r + 1) (k := x1) hrw.tz1; exact h9
      refine lv_goto (tgt := 22) hx hb dX9_kind_18 (by decide) ?_
      exact xr_i G (x := μ.1 (r + 1) x1) hret hlk (by unfold ir; omega) rfl dX9_kind_22 rfl

set_option maxHeartbeats 4000000 in
set_option maxRecDepth 100000 in
theorem c_X9_whole (ω : Om) (l : Launch) (μ : M3) (r : Int) (x1 : Int) (hrw : isRow r) (hk : rk μ r) (h1 : ir x1) : CtL ω l yX9_whole cX9_whole 2 0 0 [.ref (oP ω r), .int (iv x1)] μ (fun (r : Int) (μ' : M3) => (μ' = μ)) := by
  refine CtL.go (by decide) (Nat.le_of_ble_eq_true rfl) (fun ρ p e s m below meth c R ls G hR hret hlk hl => ?_)
  have hx := G.1.1
  have hb := G.1.2.1
  have hl : lv_has ls 2 [(0, .ref (oP ω r)), (1, .int (iv x1))] := hl
  generalize s.drawn = d0 at G ⊢
  have hk2 := hk
  unfold rk at hk2
  have h1b := h1
  unfold ir at h1b
  have hr0 := hrw.nn
  refine lv_iload_n hx hb dX9_whole_0 rfl (lv_at hl 1 rfl) ?_
  refine xb_if_lt (tgt := 21) hx hb (by unfold ir; omega) dX9_whole_1 (by decide) (fun c_1 => ?_) (fun c_1 => ?_)
  · refine lv_lconst (v := jv 0) hx hb dX9_whole_21 rfl ?_
    exact xr_l G (x := 0) hret hlk (by unfold jr; omega) dX9_whole_22 rfl
  · refine lv_iload_n hx hb dX9_whole_4 rfl (lv_at hl 1 rfl) ?_
    refine lv_aload_n hx hb dX9_whole_5 rfl (lv_at hl 0 rfl) ?_
    refine xa_geti G fd_X9 (a := r) (x := μ.1 r 3) 3 hrw.ly (by decide) rfl (wm 1 153 rfl rfl) ⟨rfl, rfl, rfl⟩ dX9_whole_6 (hrw.hq ω ρ) rfl ?_
    have hr_1 : -2147483648 ≤ μ.1 r 3 ∧ μ.1 r 3 ≤ 2147483647 := by have h9 := G.hr (a := r) (k := 3) hrw.tz; exact h9
    refine xb_icmp_ge (tgt := 21) hx hb (by unfold ir; omega) (by unfold ir; omega) dX9_whole_9 (by decide) (fun c_9 => ?_) (fun c_9 => ?_)
    · refine lv_lconst (v := jv 0) hx hb dX9_whole_21 rfl ?_
      exact xr_l G (x := 0) hret hlk (by unfold jr; omega) dX9_whole_22 rfl
    · refine lv_aload_n hx hb dX9_whole_12 rfl (lv_at hl 0 rfl) ?_
      refine xa_getr G fd_X9 (a := r) (x := r + 2) 1 hrw.ly (by decide) rfl (wm 1 151 rfl rfl) ⟨rfl, rfl, rfl⟩ dX9_whole_13 (hrw.hq ω ρ) (G.sr hrw.s1) (by omega) (hrw.hq2 ω ρ) ?_
      refine lv_iload_n hx hb dX9_whole_16 rfl (lv_at hl 1 rfl) ?_
      refine xa_lald G (a := r + 2) (i := x1) hrw.ly2 (by omega) dX9_whole_17 (hrw.hq2 ω ρ) ?_
      have hj_2 : jr (μ.1 (r + 2) x1) := (by have h9 := G.hj (a := r + 2) (k := x1) hrw.tz2; exact h9)
      refine lv_goto (tgt := 22) hx hb dX9_whole_18 (by decide) ?_
      exact xr_l G (x := μ.1 (r + 2) x1) hret hlk hj_2 dX9_whole_22 rfl

set_option maxHeartbeats 4000000 in
set_option maxRecDepth 100000 in
theorem c_X9_real (ω : Om) (l : Launch) (μ : M3) (r : Int) (x1 : Int) (hrw : isRow r) (hk : rk μ r) (h1 : ir x1) : CtD ω l yX9_real cX9_real 2 0 0 [.ref (oP ω r), .int (iv x1)] μ (fun (r : Int) (μ' : M3) => (μ' = μ)) := by
  refine CtD.go (by decide) (Nat.le_of_ble_eq_true rfl) (fun ρ p e s m below meth c R ls G hR hret hlk hl => ?_)
  have hx := G.1.1
  have hb := G.1.2.1
  have hl : lv_has ls 2 [(0, .ref (oP ω r)), (1, .int (iv x1))] := hl
  generalize s.drawn = d0 at G ⊢
  have hk2 := hk
  unfold rk at hk2
  have h1b := h1
  unfold ir at h1b
  have hr0 := hrw.nn
  refine lv_iload_n hx hb dX9_real_0 rfl (lv_at hl 1 rfl) ?_
  refine xb_if_lt (tgt := 21) hx hb (by unfold ir; omega) dX9_real_1 (by decide) (fun c_1 => ?_) (fun c_1 => ?_)
  · refine lv_dconst0 hx hb dX9_real_21 ?_
    exact xr_d G (x := FP.dconst0) hret hlk dX9_real_22 rfl
  · refine lv_iload_n hx hb dX9_real_4 rfl (lv_at hl 1 rfl) ?_
    refine lv_aload_n hx hb dX9_real_5 rfl (lv_at hl 0 rfl) ?_
    refine xa_geti G fd_X9 (a := r) (x := μ.1 r 3) 3 hrw.ly (by decide) rfl (wm 1 153 rfl rfl) ⟨rfl, rfl, rfl⟩ dX9_real_6 (hrw.hq ω ρ) rfl ?_
    have hr_1 : -2147483648 ≤ μ.1 r 3 ∧ μ.1 r 3 ≤ 2147483647 := by have h9 := G.hr (a := r) (k := 3) hrw.tz; exact h9
    refine xb_icmp_ge (tgt := 21) hx hb (by unfold ir; omega) (by unfold ir; omega) dX9_real_9 (by decide) (fun c_9 => ?_) (fun c_9 => ?_)
    · refine lv_dconst0 hx hb dX9_real_21 ?_
      exact xr_d G (x := FP.dconst0) hret hlk dX9_real_22 rfl
    · refine lv_aload_n hx hb dX9_real_12 rfl (lv_at hl 0 rfl) ?_
      refine xa_getr G fd_X9 (a := r) (x := r + 3) 2 hrw.ly (by decide) rfl (wm 1 152 rfl rfl) ⟨rfl, rfl, rfl⟩ dX9_real_13 (hrw.hq ω ρ) (G.sr hrw.s2) (by omega) (hrw.hq3 ω ρ) ?_
      refine lv_iload_n hx hb dX9_real_16 rfl (lv_at hl 1 rfl) ?_
      refine xa_dald G (a := r + 3) (i := x1) hrw.ly3 (by omega) dX9_real_17 (hrw.hq3 ω ρ) ?_
      refine lv_goto (tgt := 22) hx hb dX9_real_18 (by decide) ?_
      exact xr_d G (x := (dv (μ.1 (r + 3) x1))) hret hlk dX9_real_22 rfl
