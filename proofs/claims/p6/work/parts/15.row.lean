abbrev cX9_count : ByteArray := prog_11_method_2_code
def yX9_count : MethodName := ⟨RX9, "count", "()I"⟩
abbrev cX9_kind : ByteArray := prog_11_method_3_code
def yX9_kind : MethodName := ⟨RX9, "kind", "(I)I"⟩
abbrev cX9_whole : ByteArray := prog_11_method_4_code
def yX9_whole : MethodName := ⟨RX9, "whole", "(I)J"⟩
abbrev cX9_real : ByteArray := prog_11_method_5_code
def yX9_real : MethodName := ⟨RX9, "real", "(I)D"⟩
abbrev cX9_kindOfTop : ByteArray := prog_11_method_6_code
def yX9_kindOfTop : MethodName := ⟨RX9, "kindOfTop", "()I"⟩
abbrev cX9_set : ByteArray := prog_11_method_9_code
def yX9_set : MethodName := ⟨RX9, "set", "(IIJD)V"⟩
theorem dX9_count_0 : decode cX9_count 0 = .ok (.aload_n 0, 1) := by decide +kernel
theorem dX9_count_1 : decode cX9_count 1 = .ok (.getfield 7, 3) := by decide +kernel
theorem dX9_count_4 : decode cX9_count 4 = .ok (.ireturn, 1) := by decide +kernel
theorem dX9_kind_0 : decode cX9_kind 0 = .ok (.iload_n 1, 1) := by decide +kernel
theorem dX9_kind_1 : decode cX9_kind 1 = .ok (.ifCond .lt 20, 3) := by decide +kernel
theorem dX9_kind_4 : decode cX9_kind 4 = .ok (.iload_n 1, 1) := by decide +kernel
theorem dX9_kind_5 : decode cX9_kind 5 = .ok (.aload_n 0, 1) := by decide +kernel
theorem dX9_kind_6 : decode cX9_kind 6 = .ok (.getfield 7, 3) := by decide +kernel
theorem dX9_kind_9 : decode cX9_kind 9 = .ok (.if_icmp .ge 12, 3) := by decide +kernel
theorem dX9_kind_12 : decode cX9_kind 12 = .ok (.aload_n 0, 1) := by decide +kernel
theorem dX9_kind_13 : decode cX9_kind 13 = .ok (.getfield 19, 3) := by decide +kernel
theorem dX9_kind_16 : decode cX9_kind 16 = .ok (.iload_n 1, 1) := by decide +kernel
theorem dX9_kind_17 : decode cX9_kind 17 = .ok (.iaload, 1) := by decide +kernel
theorem dX9_kind_18 : decode cX9_kind 18 = .ok (.goto 4, 3) := by decide +kernel
theorem dX9_kind_21 : decode cX9_kind 21 = .ok (.iconst 0, 1) := by decide +kernel
theorem dX9_kind_22 : decode cX9_kind 22 = .ok (.ireturn, 1) := by decide +kernel
theorem dX9_whole_0 : decode cX9_whole 0 = .ok (.iload_n 1, 1) := by decide +kernel
theorem dX9_whole_1 : decode cX9_whole 1 = .ok (.ifCond .lt 20, 3) := by decide +kernel
theorem dX9_whole_4 : decode cX9_whole 4 = .ok (.iload_n 1, 1) := by decide +kernel
theorem dX9_whole_5 : decode cX9_whole 5 = .ok (.aload_n 0, 1) := by decide +kernel
theorem dX9_whole_6 : decode cX9_whole 6 = .ok (.getfield 7, 3) := by decide +kernel
theorem dX9_whole_9 : decode cX9_whole 9 = .ok (.if_icmp .ge 12, 3) := by decide +kernel
theorem dX9_whole_12 : decode cX9_whole 12 = .ok (.aload_n 0, 1) := by decide +kernel
theorem dX9_whole_13 : decode cX9_whole 13 = .ok (.getfield 23, 3) := by decide +kernel
theorem dX9_whole_16 : decode cX9_whole 16 = .ok (.iload_n 1, 1) := by decide +kernel
theorem dX9_whole_17 : decode cX9_whole 17 = .ok (.laload, 1) := by decide +kernel
theorem dX9_whole_18 : decode cX9_whole 18 = .ok (.goto 4, 3) := by decide +kernel
theorem dX9_whole_21 : decode cX9_whole 21 = .ok (.lconst 0, 1) := by decide +kernel
theorem dX9_whole_22 : decode cX9_whole 22 = .ok (.lreturn, 1) := by decide +kernel
theorem dX9_real_0 : decode cX9_real 0 = .ok (.iload_n 1, 1) := by decide +kernel
theorem dX9_real_1 : decode cX9_real 1 = .ok (.ifCond .lt 20, 3) := by decide +kernel
theorem dX9_real_4 : decode cX9_real 4 = .ok (.iload_n 1, 1) := by decide +kernel
theorem dX9_real_5 : decode cX9_real 5 = .ok (.aload_n 0, 1) := by decide +kernel
theorem dX9_real_6 : decode cX9_real 6 = .ok (.getfield 7, 3) := by decide +kernel
theorem dX9_real_9 : decode cX9_real 9 = .ok (.if_icmp .ge 12, 3) := by decide +kernel
theorem dX9_real_12 : decode cX9_real 12 = .ok (.aload_n 0, 1) := by decide +kernel
theorem dX9_real_13 : decode cX9_real 13 = .ok (.getfield 27, 3) := by decide +kernel
theorem dX9_real_16 : decode cX9_real 16 = .ok (.iload_n 1, 1) := by decide +kernel
theorem dX9_real_17 : decode cX9_real 17 = .ok (.daload, 1) := by decide +kernel
theorem dX9_real_18 : decode cX9_real 18 = .ok (.goto 4, 3) := by decide +kernel
theorem dX9_real_21 : decode cX9_real 21 = .ok (.dconst 0, 1) := by decide +kernel
theorem dX9_real_22 : decode cX9_real 22 = .ok (.dreturn, 1) := by decide +kernel
theorem dX9_kindOfTop_0 : decode cX9_kindOfTop 0 = .ok (.aload_n 0, 1) := by decide +kernel
theorem dX9_kindOfTop_1 : decode cX9_kindOfTop 1 = .ok (.aload_n 0, 1) := by decide +kernel
theorem dX9_kindOfTop_2 : decode cX9_kindOfTop 2 = .ok (.getfield 7, 3) := by decide +kernel
theorem dX9_kindOfTop_5 : decode cX9_kindOfTop 5 = .ok (.iconst 1, 1) := by decide +kernel
theorem dX9_kindOfTop_6 : decode cX9_kindOfTop 6 = .ok (.isub, 1) := by decide +kernel
theorem dX9_kindOfTop_7 : decode cX9_kindOfTop 7 = .ok (.invokevirtual 31, 3) := by decide +kernel
theorem dX9_kindOfTop_10 : decode cX9_kindOfTop 10 = .ok (.ireturn, 1) := by decide +kernel
theorem dX9_set_0 : decode cX9_set 0 = .ok (.iload_n 1, 1) := by decide +kernel
theorem dX9_set_1 : decode cX9_set 1 = .ok (.ifCond .lt 33, 3) := by decide +kernel
theorem dX9_set_4 : decode cX9_set 4 = .ok (.iload_n 1, 1) := by decide +kernel
theorem dX9_set_5 : decode cX9_set 5 = .ok (.aload_n 0, 1) := by decide +kernel
theorem dX9_set_6 : decode cX9_set 6 = .ok (.getfield 7, 3) := by decide +kernel
theorem dX9_set_9 : decode cX9_set 9 = .ok (.if_icmp .ge 25, 3) := by decide +kernel
theorem dX9_set_12 : decode cX9_set 12 = .ok (.aload_n 0, 1) := by decide +kernel
theorem dX9_set_13 : decode cX9_set 13 = .ok (.getfield 19, 3) := by decide +kernel
theorem dX9_set_16 : decode cX9_set 16 = .ok (.iload_n 1, 1) := by decide +kernel
theorem dX9_set_17 : decode cX9_set 17 = .ok (.iload_n 2, 1) := by decide +kernel
theorem dX9_set_18 : decode cX9_set 18 = .ok (.iastore, 1) := by decide +kernel
theorem dX9_set_19 : decode cX9_set 19 = .ok (.aload_n 0, 1) := by decide +kernel
theorem dX9_set_20 : decode cX9_set 20 = .ok (.getfield 23, 3) := by decide +kernel
theorem dX9_set_23 : decode cX9_set 23 = .ok (.iload_n 1, 1) := by decide +kernel
theorem dX9_set_24 : decode cX9_set 24 = .ok (.lload_n 3, 1) := by decide +kernel
theorem dX9_set_25 : decode cX9_set 25 = .ok (.lastore, 1) := by decide +kernel
theorem dX9_set_26 : decode cX9_set 26 = .ok (.aload_n 0, 1) := by decide +kernel
theorem dX9_set_27 : decode cX9_set 27 = .ok (.getfield 27, 3) := by decide +kernel
theorem dX9_set_30 : decode cX9_set 30 = .ok (.iload_n 1, 1) := by decide +kernel
theorem dX9_set_31 : decode cX9_set 31 = .ok (.dload 5, 2) := by decide +kernel
theorem dX9_set_33 : decode cX9_set 33 = .ok (.dastore, 1) := by decide +kernel
theorem dX9_set_34 : decode cX9_set 34 = .ok (.return_, 1) := by decide +kernel
/-- a row of VALUES: how many, within its three arrays -/
def rk (μ : M3) (r : Int) : Prop := 0 ≤ μ.1 r 3 ∧ μ.1 r 3 ≤ μ.2.1 (r + 1) ∧ μ.2.1 (r + 2) = μ.2.1 (r + 1) ∧ μ.2.1 (r + 3) = μ.2.1 (r + 1) ∧ 16 ≤ μ.2.1 (r + 1)
theorem gro_s (μ : M3) (b n : Int) (f : Int → Int) (k : Int) : (gro μ b n f).1 b k = f k := if_pos rfl
theorem gro_o (μ : M3) {b n a : Int} {f : Int → Int} (h : a ≠ b) (k : Int) : (gro μ b n f).1 a k = μ.1 a k := if_neg h
theorem gro_ls (μ : M3) (b n : Int) (f : Int → Int) : (gro μ b n f).2.1 b = n := if_pos rfl
theorem gro_lo (μ : M3) {b n a : Int} {f : Int → Int} (h : a ≠ b) : (gro μ b n f).2.1 a = μ.2.1 a := if_neg h
theorem Fr.gro {L : List Int} {μ ν : M3} (h : Fr L μ ν) {b n : Int} {f : Int → Int} (ha : b ∈ L) : Fr L μ (_root_.Jvm.Pilot.CFourTonguesLaw_law_r7448_0d2445.gro ν b n f) := ⟨fun c hc j => (gro_o ν (fun q => hc (by rw [q]; exact ha)) j).trans (h.1 c hc j), fun c hc => (gro_lo ν (fun q => hc (by rw [q]; exact ha))).trans (h.2 c hc)⟩
theorem isRow.u0 {r : Int} (h : isRow r) : ∀ q ∈ SRL, q.2.2 = r + 1 → q.1 = r ∧ q.2.1 = ((0 : Nat) : Int) := by
  rcases h with rfl | rfl | rfl | rfl | rfl | rfl | rfl | rfl | rfl | rfl <;> decide +kernel
theorem isRow.u1 {r : Int} (h : isRow r) : ∀ q ∈ SRL, q.2.2 = r + 2 → q.1 = r ∧ q.2.1 = ((1 : Nat) : Int) := by
  rcases h with rfl | rfl | rfl | rfl | rfl | rfl | rfl | rfl | rfl | rfl <;> decide +kernel
theorem isRow.u2 {r : Int} (h : isRow r) : ∀ q ∈ SRL, q.2.2 = r + 3 → q.1 = r ∧ q.2.1 = ((2 : Nat) : Int) := by
  rcases h with rfl | rfl | rfl | rfl | rfl | rfl | rfl | rfl | rfl | rfl <;> decide +kernel
theorem isRow.n {r : Int} (h : isRow r) : (∀ q ∈ LNL, q.1 ≠ r + 1) ∧ (∀ q ∈ LNL, q.1 ≠ r + 2) ∧ ∀ q ∈ LNL, q.1 ≠ r + 3 := by
  rcases h with rfl | rfl | rfl | rfl | rfl | rfl | rfl | rfl | rfl | rfl <;> decide +kernel
theorem isRow.z {r : Int} (h : isRow r) : RZ (r + 1) = true ∧ RZ (r + 2) = true ∧ RZ (r + 3) = true := by
  rcases h with rfl | rfl | rfl | rfl | rfl | rfl | rfl | rfl | rfl | rfl <;> decide +kernel
set_option maxHeartbeats 4000000 in
set_option maxRecDepth 100000 in
theorem c_X9_kind (ω : Om) (l : Launch) (μ : M3) (q : Int) (x1 : Int) (hrw : isRow q) (hk : rk μ q) (hx1 : ir x1) : CtI ω l yX9_kind cX9_kind 2 .int 0 0 [.ref (oP ω q), .int (iv x1)] μ (fun (r : Int) (μ' : M3) => (μ' = μ)) := by
  refine CtI.go (by decide) (Nat.le_of_ble_eq_true rfl) (fun ρ p e s m below meth c R ls G hR hret hlk hl => ?_)
  have hx := G.1.1
  have hb := G.1.2.1
  have hl : lv_has ls 2 [(0, .ref (oP ω q)), (1, .int (iv x1))] := hl
  generalize s.drawn = d0 at G ⊢
  have hk2 := hk
  unfold rk at hk2
  have hr_x1 : -2147483648 ≤ x1 ∧ x1 ≤ 2147483647 := hx1
  have hq0 := hrw.nn
  refine lv_iload_n hx hb dX9_kind_0 rfl (lv_at hl 1 rfl) ?_
  refine xb_if_lt (tgt := 21) hx hb (by unfold ir; omega) dX9_kind_1 (by decide) (fun c_1 => ?_) (fun c_1 => ?_)
  · refine lv_iconst (v := iv 0) hx hb dX9_kind_21 rfl ?_
    exact xr_i G (x := 0) hret hlk (by unfold ir; omega) rfl dX9_kind_22 rfl
  · refine lv_iload_n hx hb dX9_kind_4 rfl (lv_at hl 1 rfl) ?_
    refine lv_aload_n hx hb dX9_kind_5 rfl (lv_at hl 0 rfl) ?_
    refine xa_geti G fd_X9 (a := q) (x := μ.1 q 3) 3 hrw.ly (by decide) rfl (wm 1 153 rfl rfl) ⟨rfl, rfl, rfl⟩ dX9_kind_6 (hrw.hq ω ρ) rfl ?_
    have hr_1 : -2147483648 ≤ μ.1 q 3 ∧ μ.1 q 3 ≤ 2147483647 := by have h9 := G.hr (a := q) (k := 3) hrw.tz; exact h9
    refine xb_icmp_ge (tgt := 21) hx hb (by unfold ir; omega) (by unfold ir; omega) dX9_kind_9 (by decide) (fun c_9 => ?_) (fun c_9 => ?_)
    · refine lv_iconst (v := iv 0) hx hb dX9_kind_21 rfl ?_
      exact xr_i G (x := 0) hret hlk (by unfold ir; omega) rfl dX9_kind_22 rfl
    · refine lv_aload_n hx hb dX9_kind_12 rfl (lv_at hl 0 rfl) ?_
      refine xa_getr G fd_X9 (a := q) (x := q + 1) 0 hrw.ly (by decide) rfl (wm 1 150 rfl rfl) ⟨rfl, rfl, rfl⟩ dX9_kind_13 (hrw.hq ω ρ) (G.sr hrw.s0) (by omega) (hrw.hq1 ω ρ) ?_
      refine lv_iload_n hx hb dX9_kind_16 rfl (lv_at hl 1 rfl) ?_
      refine xa_iald G (a := q + 1) (i := x1) hrw.ly1 (by omega) dX9_kind_17 (hrw.hq1 ω ρ) ?_
      have hr_2 : -2147483648 ≤ μ.1 (q + 1) x1 ∧ μ.1 (q + 1) x1 ≤ 2147483647 := by have h9 := G.hr (a := q + 1) (k := x1) hrw.tz1; exact h9
      refine lv_goto (tgt := 22) hx hb dX9_kind_18 (by decide) ?_
      exact xr_i G (x := μ.1 (q + 1) x1) hret hlk (by unfold ir; omega) rfl dX9_kind_22 rfl

set_option maxHeartbeats 4000000 in
set_option maxRecDepth 100000 in
theorem c_X9_whole (ω : Om) (l : Launch) (μ : M3) (q : Int) (x1 : Int) (hrw : isRow q) (hk : rk μ q) (hx1 : ir x1) : CtL ω l yX9_whole cX9_whole 2 0 0 [.ref (oP ω q), .int (iv x1)] μ (fun (r : Int) (μ' : M3) => (μ' = μ)) := by
  refine CtL.go (by decide) (Nat.le_of_ble_eq_true rfl) (fun ρ p e s m below meth c R ls G hR hret hlk hl => ?_)
  have hx := G.1.1
  have hb := G.1.2.1
  have hl : lv_has ls 2 [(0, .ref (oP ω q)), (1, .int (iv x1))] := hl
  generalize s.drawn = d0 at G ⊢
  have hk2 := hk
  unfold rk at hk2
  have hr_x1 : -2147483648 ≤ x1 ∧ x1 ≤ 2147483647 := hx1
  have hq0 := hrw.nn
  refine lv_iload_n hx hb dX9_whole_0 rfl (lv_at hl 1 rfl) ?_
  refine xb_if_lt (tgt := 21) hx hb (by unfold ir; omega) dX9_whole_1 (by decide) (fun c_1 => ?_) (fun c_1 => ?_)
  · refine lv_lconst (v := jv 0) hx hb dX9_whole_21 rfl ?_
    exact xr_l G (x := 0) hret hlk (by unfold jr; omega) dX9_whole_22 rfl
  · refine lv_iload_n hx hb dX9_whole_4 rfl (lv_at hl 1 rfl) ?_
    refine lv_aload_n hx hb dX9_whole_5 rfl (lv_at hl 0 rfl) ?_
    refine xa_geti G fd_X9 (a := q) (x := μ.1 q 3) 3 hrw.ly (by decide) rfl (wm 1 153 rfl rfl) ⟨rfl, rfl, rfl⟩ dX9_whole_6 (hrw.hq ω ρ) rfl ?_
    have hr_1 : -2147483648 ≤ μ.1 q 3 ∧ μ.1 q 3 ≤ 2147483647 := by have h9 := G.hr (a := q) (k := 3) hrw.tz; exact h9
    refine xb_icmp_ge (tgt := 21) hx hb (by unfold ir; omega) (by unfold ir; omega) dX9_whole_9 (by decide) (fun c_9 => ?_) (fun c_9 => ?_)
    · refine lv_lconst (v := jv 0) hx hb dX9_whole_21 rfl ?_
      exact xr_l G (x := 0) hret hlk (by unfold jr; omega) dX9_whole_22 rfl
    · refine lv_aload_n hx hb dX9_whole_12 rfl (lv_at hl 0 rfl) ?_
      refine xa_getr G fd_X9 (a := q) (x := q + 2) 1 hrw.ly (by decide) rfl (wm 1 151 rfl rfl) ⟨rfl, rfl, rfl⟩ dX9_whole_13 (hrw.hq ω ρ) (G.sr hrw.s1) (by omega) (hrw.hq2 ω ρ) ?_
      refine lv_iload_n hx hb dX9_whole_16 rfl (lv_at hl 1 rfl) ?_
      refine xa_lald G (a := q + 2) (i := x1) hrw.ly2 (by omega) dX9_whole_17 (hrw.hq2 ω ρ) ?_
      have hj_2 : jr (μ.1 (q + 2) x1) := (by have h9 := G.hj (a := q + 2) (k := x1) hrw.tz2; exact h9)
      refine lv_goto (tgt := 22) hx hb dX9_whole_18 (by decide) ?_
      exact xr_l G (x := μ.1 (q + 2) x1) hret hlk hj_2 dX9_whole_22 rfl

set_option maxHeartbeats 4000000 in
set_option maxRecDepth 100000 in
theorem c_X9_real (ω : Om) (l : Launch) (μ : M3) (q : Int) (x1 : Int) (hrw : isRow q) (hk : rk μ q) (hx1 : ir x1) : CtD ω l yX9_real cX9_real 2 0 0 [.ref (oP ω q), .int (iv x1)] μ (fun (r : Int) (μ' : M3) => (μ' = μ)) := by
  refine CtD.go (by decide) (Nat.le_of_ble_eq_true rfl) (fun ρ p e s m below meth c R ls G hR hret hlk hl => ?_)
  have hx := G.1.1
  have hb := G.1.2.1
  have hl : lv_has ls 2 [(0, .ref (oP ω q)), (1, .int (iv x1))] := hl
  generalize s.drawn = d0 at G ⊢
  have hk2 := hk
  unfold rk at hk2
  have hr_x1 : -2147483648 ≤ x1 ∧ x1 ≤ 2147483647 := hx1
  have hq0 := hrw.nn
  refine lv_iload_n hx hb dX9_real_0 rfl (lv_at hl 1 rfl) ?_
  refine xb_if_lt (tgt := 21) hx hb (by unfold ir; omega) dX9_real_1 (by decide) (fun c_1 => ?_) (fun c_1 => ?_)
  · refine lv_dconst0 hx hb dX9_real_21 ?_
    refine xb_topd (fun dd_1 he_dd_1 => ?_)
    exact xr_d G (x := (dv dd_1)) hret hlk dX9_real_22 rfl
  · refine lv_iload_n hx hb dX9_real_4 rfl (lv_at hl 1 rfl) ?_
    refine lv_aload_n hx hb dX9_real_5 rfl (lv_at hl 0 rfl) ?_
    refine xa_geti G fd_X9 (a := q) (x := μ.1 q 3) 3 hrw.ly (by decide) rfl (wm 1 153 rfl rfl) ⟨rfl, rfl, rfl⟩ dX9_real_6 (hrw.hq ω ρ) rfl ?_
    have hr_2 : -2147483648 ≤ μ.1 q 3 ∧ μ.1 q 3 ≤ 2147483647 := by have h9 := G.hr (a := q) (k := 3) hrw.tz; exact h9
    refine xb_icmp_ge (tgt := 21) hx hb (by unfold ir; omega) (by unfold ir; omega) dX9_real_9 (by decide) (fun c_9 => ?_) (fun c_9 => ?_)
    · refine lv_dconst0 hx hb dX9_real_21 ?_
      refine xb_topd (fun dd_3 he_dd_3 => ?_)
      exact xr_d G (x := (dv dd_3)) hret hlk dX9_real_22 rfl
    · refine lv_aload_n hx hb dX9_real_12 rfl (lv_at hl 0 rfl) ?_
      refine xa_getr G fd_X9 (a := q) (x := q + 3) 2 hrw.ly (by decide) rfl (wm 1 152 rfl rfl) ⟨rfl, rfl, rfl⟩ dX9_real_13 (hrw.hq ω ρ) (G.sr hrw.s2) (by omega) (hrw.hq3 ω ρ) ?_
      refine lv_iload_n hx hb dX9_real_16 rfl (lv_at hl 1 rfl) ?_
      refine xa_dald G (a := q + 3) (i := x1) hrw.ly3 (by omega) dX9_real_17 (hrw.hq3 ω ρ) ?_
      refine lv_goto (tgt := 22) hx hb dX9_real_18 (by decide) ?_
      exact xr_d G (x := (dv (μ.1 (q + 3) x1))) hret hlk dX9_real_22 rfl

set_option maxHeartbeats 4000000 in
set_option maxRecDepth 100000 in
theorem c_X9_count (ω : Om) (l : Launch) (μ : M3) (q : Int) (hrw : isRow q) : CtI ω l yX9_count cX9_count 1 .int 0 0 [.ref (oP ω q)] μ (fun (r : Int) (μ' : M3) => (r = μ.1 q 3) ∧ (μ' = μ)) := by
  refine CtI.go (by decide) (Nat.le_of_ble_eq_true rfl) (fun ρ p e s m below meth c R ls G hR hret hlk hl => ?_)
  have hx := G.1.1
  have hb := G.1.2.1
  have hl : lv_has ls 1 [(0, .ref (oP ω q))] := hl
  generalize s.drawn = d0 at G ⊢
  have hq0 := hrw.nn
  refine lv_aload_n hx hb dX9_count_0 rfl (lv_at hl 0 rfl) ?_
  refine xa_geti G fd_X9 (a := q) (x := μ.1 q 3) 3 hrw.ly (by decide) rfl (wm 1 153 rfl rfl) ⟨rfl, rfl, rfl⟩ dX9_count_1 (hrw.hq ω ρ) rfl ?_
  have hr_1 : -2147483648 ≤ μ.1 q 3 ∧ μ.1 q 3 ≤ 2147483647 := by have h9 := G.hr (a := q) (k := 3) hrw.tz; exact h9
  exact xr_i G (x := μ.1 q 3) hret hlk (by unfold ir; omega) rfl dX9_count_4 ⟨rfl, rfl⟩

set_option maxHeartbeats 4000000 in
set_option maxRecDepth 100000 in
theorem c_X9_kindOfTop (ω : Om) (l : Launch) (μ : M3) (q : Int) (hrw : isRow q) (hk : rk μ q) : CtI ω l yX9_kindOfTop cX9_kindOfTop 1 .int 1 21 [.ref (oP ω q)] μ (fun (r : Int) (μ' : M3) => (μ' = μ)) := by
  refine CtI.go (by decide) (Nat.le_of_ble_eq_true rfl) (fun ρ p e s m below meth c R ls G hR hret hlk hl => ?_)
  have hx := G.1.1
  have hb := G.1.2.1
  have hl : lv_has ls 1 [(0, .ref (oP ω q))] := hl
  generalize s.drawn = d0 at G ⊢
  have hk2 := hk
  unfold rk at hk2
  have hq0 := hrw.nn
  refine lv_aload_n hx hb dX9_kindOfTop_0 rfl (lv_at hl 0 rfl) ?_
  refine lv_aload_n hx hb dX9_kindOfTop_1 rfl (lv_at hl 0 rfl) ?_
  refine xa_geti G fd_X9 (a := q) (x := μ.1 q 3) 3 hrw.ly (by decide) rfl (wm 1 153 rfl rfl) ⟨rfl, rfl, rfl⟩ dX9_kindOfTop_2 (hrw.hq ω ρ) rfl ?_
  have hr_1 : -2147483648 ≤ μ.1 q 3 ∧ μ.1 q 3 ≤ 2147483647 := by have h9 := G.hr (a := q) (k := 3) hrw.tz; exact h9
  refine lv_iconst (v := iv 1) hx hb dX9_kindOfTop_5 rfl ?_
  refine xb_isub hx hb dX9_kindOfTop_6 ?_
  refine xb_ti (y := (μ.1 q 3) + (-1)) (by omega) ?_
  refine xc_iV G (b := q) (rest := []) (As := [.int (iv ((μ.1 q 3) + (-1)))]) (c_X9_kind ω l μ q ((μ.1 q 3) + (-1)) hrw hk (by unfold ir; omega)) (wm 5 155 rfl rfl) (wm 5 156 rfl rfl) (wm 5 157 rfl rfl) hrw.ly rfl (by decide) (hrw.hq ω ρ) (wm 1 10 rfl rfl) (wm 5 158 rfl rfl) (by decide) hR (by decide) (n := 1) rfl rfl (by decide) hl.1 dX9_kindOfTop_7 (fun r_3 μ2 ρ d0 H locs hr_r_3 hp G => ?_)
  have hr_r_3 : -2147483648 ≤ r_3 ∧ r_3 ≤ 2147483647 := hr_r_3
  have hp_4 := hp
  exact xr_i G (x := r_3) hret hlk (by unfold ir; omega) rfl dX9_kindOfTop_10 hp_4

set_option maxHeartbeats 4000000 in
set_option maxRecDepth 100000 in
theorem c_X9_set (ω : Om) (l : Launch) (μ : M3) (q : Int) (x1 : Int) (x2 : Int) (x3 : Int) (x4 : Int) (hrw : isRow q) (hk : rk μ q) (hx1 : ir x1) (hx2 : ir x2) (hx3 : jr x3) : CtV ω l yX9_set cX9_set 7 0 0 [.ref (oP ω q), .int (iv x1), .int (iv x2), .long (jv x3), .double (dv x4)] μ (fun (μ' : M3) => (Fr [q + 1, q + 2, q + 3] μ μ') ∧ (μ'.2 = μ.2)) := by
  refine CtV.go (by decide) (Nat.le_of_ble_eq_true rfl) (fun ρ p e s m below meth c R ls G hR hret hlk hl => ?_)
  have hx := G.1.1
  have hb := G.1.2.1
  have hl : lv_has ls 7 [(0, .ref (oP ω q)), (1, .int (iv x1)), (2, .int (iv x2)), (3, .long (jv x3)), (5, .double (dv x4))] := hl
  generalize s.drawn = d0 at G ⊢
  have hk2 := hk
  unfold rk at hk2
  have hr_x1 : -2147483648 ≤ x1 ∧ x1 ≤ 2147483647 := hx1
  have hr_x2 : -2147483648 ≤ x2 ∧ x2 ≤ 2147483647 := hx2
  have hq0 := hrw.nn
  refine lv_iload_n hx hb dX9_set_0 rfl (lv_at hl 1 rfl) ?_
  refine xb_if_lt (tgt := 34) hx hb (by unfold ir; omega) dX9_set_1 (by decide) (fun c_1 => ?_) (fun c_1 => ?_)
  · exact xr_v G hret hlk dX9_set_34 ⟨Fr.rf, rfl⟩
  · refine lv_iload_n hx hb dX9_set_4 rfl (lv_at hl 1 rfl) ?_
    refine lv_aload_n hx hb dX9_set_5 rfl (lv_at hl 0 rfl) ?_
    refine xa_geti G fd_X9 (a := q) (x := μ.1 q 3) 3 hrw.ly (by decide) rfl (wm 1 153 rfl rfl) ⟨rfl, rfl, rfl⟩ dX9_set_6 (hrw.hq ω ρ) rfl ?_
    have hr_1 : -2147483648 ≤ μ.1 q 3 ∧ μ.1 q 3 ≤ 2147483647 := by have h9 := G.hr (a := q) (k := 3) hrw.tz; exact h9
    refine xb_icmp_ge (tgt := 34) hx hb (by unfold ir; omega) (by unfold ir; omega) dX9_set_9 (by decide) (fun c_9 => ?_) (fun c_9 => ?_)
    · exact xr_v G hret hlk dX9_set_34 ⟨Fr.rf, rfl⟩
    · refine lv_aload_n hx hb dX9_set_12 rfl (lv_at hl 0 rfl) ?_
      refine xa_getr G fd_X9 (a := q) (x := q + 1) 0 hrw.ly (by decide) rfl (wm 1 150 rfl rfl) ⟨rfl, rfl, rfl⟩ dX9_set_13 (hrw.hq ω ρ) (G.sr hrw.s0) (by omega) (hrw.hq1 ω ρ) ?_
      refine lv_iload_n hx hb dX9_set_16 rfl (lv_at hl 1 rfl) ?_
      refine lv_iload_n hx hb dX9_set_17 rfl (lv_at hl 2 rfl) ?_
      refine xa_iast G (a := q + 1) (i := x1) (x := x2) hrw.ly1 (by omega) (by unfold ir; omega) dX9_set_18 (hrw.hq1 ω ρ) (fun H locs G => ?_)
      refine lv_aload_n hx hb dX9_set_19 rfl (lv_at hl 0 rfl) ?_
      refine xa_getr G fd_X9 (a := q) (x := q + 2) 1 hrw.ly (by decide) rfl (wm 1 151 rfl rfl) ⟨rfl, rfl, rfl⟩ dX9_set_20 (hrw.hq ω ρ) (G.sr hrw.s1) (by omega) (hrw.hq2 ω ρ) ?_
      refine lv_iload_n hx hb dX9_set_23 rfl (lv_at hl 1 rfl) ?_
      refine lv_lload_n hx hb dX9_set_24 rfl (lv_at hl 3 rfl) ?_
      refine xa_last G (a := q + 2) (i := x1) (x := x3) hrw.ly2 (by have h9 : (sv μ (q + 1) x1 x2).2.1 (q + 2) = μ.2.1 (q + 2) := rfl; omega) hx3 dX9_set_25 (hrw.hq2 ω ρ) (fun H locs G => ?_)
      refine lv_aload_n hx hb dX9_set_26 rfl (lv_at hl 0 rfl) ?_
      refine xa_getr G fd_X9 (a := q) (x := q + 3) 2 hrw.ly (by decide) rfl (wm 1 152 rfl rfl) ⟨rfl, rfl, rfl⟩ dX9_set_27 (hrw.hq ω ρ) (G.sr hrw.s2) (by omega) (hrw.hq3 ω ρ) ?_
      refine lv_iload_n hx hb dX9_set_30 rfl (lv_at hl 1 rfl) ?_
      refine lv_dload hx hb dX9_set_31 (lv_at hl 4 rfl) ?_
      refine xa_dast G (a := q + 3) (i := x1) (x := x4) hrw.ly3 (by have h9 : (sv (sv μ (q + 1) x1 x2) (q + 2) x1 x3).2.1 (q + 3) = μ.2.1 (q + 3) := rfl; omega) trivial dX9_set_33 (hrw.hq3 ω ρ) (fun H locs G => ?_)
      exact xr_v G hret hlk dX9_set_34 ⟨(Fr.put (Fr.put (Fr.put Fr.rf (by simp)) (by simp)) (by simp)), rfl⟩
