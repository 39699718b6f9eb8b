abbrev cX4_enter : ByteArray := prog_6_method_62_code
def yX4_enter : MethodName := ⟨RX4, "enter", "(IIII)V"⟩
theorem dX4_enter_0 : decode cX4_enter 0 = .ok (.aload_n 0, 1) := by decide +kernel
theorem dX4_enter_1 : decode cX4_enter 1 = .ok (.aload_n 0, 1) := by decide +kernel
theorem dX4_enter_2 : decode cX4_enter 2 = .ok (.getfield 71, 3) := by decide +kernel
theorem dX4_enter_5 : decode cX4_enter 5 = .ok (.iload_n 1, 1) := by decide +kernel
theorem dX4_enter_6 : decode cX4_enter 6 = .ok (.iconst 3, 1) := by decide +kernel
theorem dX4_enter_7 : decode cX4_enter 7 = .ok (.iand, 1) := by decide +kernel
theorem dX4_enter_8 : decode cX4_enter 8 = .ok (.aaload, 1) := by decide +kernel
theorem dX4_enter_9 : decode cX4_enter 9 = .ok (.putfield 83, 3) := by decide +kernel
theorem dX4_enter_12 : decode cX4_enter 12 = .ok (.aload_n 0, 1) := by decide +kernel
theorem dX4_enter_13 : decode cX4_enter 13 = .ok (.getfield 14, 3) := by decide +kernel
theorem dX4_enter_16 : decode cX4_enter 16 = .ok (.invokevirtual 105, 3) := by decide +kernel
theorem dX4_enter_19 : decode cX4_enter 19 = .ok (.iload_n 3, 1) := by decide +kernel
theorem dX4_enter_20 : decode cX4_enter 20 = .ok (.isub, 1) := by decide +kernel
theorem dX4_enter_21 : decode cX4_enter 21 = .ok (.istore 5, 2) := by decide +kernel
theorem dX4_enter_23 : decode cX4_enter 23 = .ok (.iload 5, 2) := by decide +kernel
theorem dX4_enter_25 : decode cX4_enter 25 = .ok (.aload_n 0, 1) := by decide +kernel
theorem dX4_enter_26 : decode cX4_enter 26 = .ok (.getfield 83, 3) := by decide +kernel
theorem dX4_enter_29 : decode cX4_enter 29 = .ok (.iload_n 2, 1) := by decide +kernel
theorem dX4_enter_30 : decode cX4_enter 30 = .ok (.invokevirtual 469, 3) := by decide +kernel
theorem dX4_enter_33 : decode cX4_enter 33 = .ok (.iadd, 1) := by decide +kernel
theorem dX4_enter_34 : decode cX4_enter 34 = .ok (.istore 6, 2) := by decide +kernel
theorem dX4_enter_36 : decode cX4_enter 36 = .ok (.aload_n 0, 1) := by decide +kernel
theorem dX4_enter_37 : decode cX4_enter 37 = .ok (.getfield 14, 3) := by decide +kernel
theorem dX4_enter_40 : decode cX4_enter 40 = .ok (.iload 5, 2) := by decide +kernel
theorem dX4_enter_42 : decode cX4_enter 42 = .ok (.iload_n 3, 1) := by decide +kernel
theorem dX4_enter_43 : decode cX4_enter 43 = .ok (.aload_n 0, 1) := by decide +kernel
theorem dX4_enter_44 : decode cX4_enter 44 = .ok (.getfield 83, 3) := by decide +kernel
theorem dX4_enter_47 : decode cX4_enter 47 = .ok (.iload_n 2, 1) := by decide +kernel
theorem dX4_enter_48 : decode cX4_enter 48 = .ok (.invokevirtual 472, 3) := by decide +kernel
theorem dX4_enter_51 : decode cX4_enter 51 = .ok (.invokestatic 475, 3) := by decide +kernel
theorem dX4_enter_54 : decode cX4_enter 54 = .ok (.iadd, 1) := by decide +kernel
theorem dX4_enter_55 : decode cX4_enter 55 = .ok (.invokevirtual 151, 3) := by decide +kernel
theorem dX4_enter_58 : decode cX4_enter 58 = .ok (.aload_n 0, 1) := by decide +kernel
theorem dX4_enter_59 : decode cX4_enter 59 = .ok (.getfield 14, 3) := by decide +kernel
theorem dX4_enter_62 : decode cX4_enter 62 = .ok (.iload 6, 2) := by decide +kernel
theorem dX4_enter_64 : decode cX4_enter 64 = .ok (.invokevirtual 151, 3) := by decide +kernel
theorem dX4_enter_67 : decode cX4_enter 67 = .ok (.aload_n 0, 1) := by decide +kernel
theorem dX4_enter_68 : decode cX4_enter 68 = .ok (.getfield 36, 3) := by decide +kernel
theorem dX4_enter_71 : decode cX4_enter 71 = .ok (.iload_n 1, 1) := by decide +kernel
theorem dX4_enter_72 : decode cX4_enter 72 = .ok (.iload_n 2, 1) := by decide +kernel
theorem dX4_enter_73 : decode cX4_enter 73 = .ok (.iload 5, 2) := by decide +kernel
theorem dX4_enter_75 : decode cX4_enter 75 = .ok (.iload 6, 2) := by decide +kernel
theorem dX4_enter_77 : decode cX4_enter 77 = .ok (.iload 5, 2) := by decide +kernel
theorem dX4_enter_79 : decode cX4_enter 79 = .ok (.iload 4, 2) := by decide +kernel
theorem dX4_enter_81 : decode cX4_enter 81 = .ok (.isub, 1) := by decide +kernel
theorem dX4_enter_82 : decode cX4_enter 82 = .ok (.aload_n 0, 1) := by decide +kernel
theorem dX4_enter_83 : decode cX4_enter 83 = .ok (.getfield 51, 3) := by decide +kernel
theorem dX4_enter_86 : decode cX4_enter 86 = .ok (.aload_n 0, 1) := by decide +kernel
theorem dX4_enter_87 : decode cX4_enter 87 = .ok (.getfield 43, 3) := by decide +kernel
theorem dX4_enter_90 : decode cX4_enter 90 = .ok (.invokevirtual 304, 3) := by decide +kernel
theorem dX4_enter_93 : decode cX4_enter 93 = .ok (.invokevirtual 478, 3) := by decide +kernel
theorem dX4_enter_96 : decode cX4_enter 96 = .ok (.aload_n 0, 1) := by decide +kernel
theorem dX4_enter_97 : decode cX4_enter 97 = .ok (.aload_n 0, 1) := by decide +kernel
theorem dX4_enter_98 : decode cX4_enter 98 = .ok (.getfield 83, 3) := by decide +kernel
theorem dX4_enter_101 : decode cX4_enter 101 = .ok (.iload_n 2, 1) := by decide +kernel
theorem dX4_enter_102 : decode cX4_enter 102 = .ok (.invokevirtual 481, 3) := by decide +kernel
theorem dX4_enter_105 : decode cX4_enter 105 = .ok (.putfield 55, 3) := by decide +kernel
theorem dX4_enter_108 : decode cX4_enter 108 = .ok (.aload_n 0, 1) := by decide +kernel
theorem dX4_enter_109 : decode cX4_enter 109 = .ok (.getfield 47, 3) := by decide +kernel
theorem dX4_enter_112 : decode cX4_enter 112 = .ok (.bipush 7, 2) := by decide +kernel
theorem dX4_enter_114 : decode cX4_enter 114 = .ok (.aload_n 0, 1) := by decide +kernel
theorem dX4_enter_115 : decode cX4_enter 115 = .ok (.getfield 47, 3) := by decide +kernel
theorem dX4_enter_118 : decode cX4_enter 118 = .ok (.bipush 7, 2) := by decide +kernel
theorem dX4_enter_120 : decode cX4_enter 120 = .ok (.iaload, 1) := by decide +kernel
theorem dX4_enter_121 : decode cX4_enter 121 = .ok (.aload_n 0, 1) := by decide +kernel
theorem dX4_enter_122 : decode cX4_enter 122 = .ok (.getfield 36, 3) := by decide +kernel
theorem dX4_enter_125 : decode cX4_enter 125 = .ok (.invokevirtual 339, 3) := by decide +kernel
theorem dX4_enter_128 : decode cX4_enter 128 = .ok (.invokestatic 388, 3) := by decide +kernel
theorem dX4_enter_131 : decode cX4_enter 131 = .ok (.iastore, 1) := by decide +kernel
theorem dX4_enter_132 : decode cX4_enter 132 = .ok (.return_, 1) := by decide +kernel
/-- where a function of a tongue's program begins, or the program's end -/
def stt (μ : M3) (t c : Int) : Prop := c = μ.1 (μ.1 12 t) 1 ∨ ∃ f, 0 ≤ f ∧ f < μ.1 (μ.1 12 t) 7 ∧ c = μ.1 (μ.1 12 t + 7) f
def npL (L : List Int) : Bool := !(L.contains 12) && [13, 71, 81, 91, 101].all (fun p => !(L.contains p) && !(L.contains (p + 1)) && !(L.contains (p + 6)) && !(L.contains (p + 7)) && !(L.contains (p + 8)) && !(L.contains (p + 9)))
theorem npL_12 {L : List Int} (h : npL L = true) : 12 ∉ L := by
  unfold npL at h
  simp only [Bool.and_eq_true, Bool.not_eq_true', List.contains_eq_mem, decide_eq_false_iff_not] at h
  exact h.1
theorem npL_p {L : List Int} (h : npL L = true) {p : Int} (hp : isPr p) : p ∉ L ∧ p + 1 ∉ L ∧ p + 6 ∉ L ∧ p + 7 ∉ L ∧ p + 8 ∉ L ∧ p + 9 ∉ L := by
  unfold npL at h
  simp only [Bool.and_eq_true, Bool.not_eq_true', List.contains_eq_mem, decide_eq_false_iff_not, List.all_cons, List.all_nil, and_true] at h
  obtain ⟨h0, h1, h2, h3, h4, h5⟩ := h
  rcases hp with rfl | rfl | rfl | rfl | rfl
  · obtain ⟨⟨⟨⟨⟨a, b⟩, c⟩, d⟩, e⟩, f⟩ := h1; exact ⟨a, b, c, d, e, f⟩
  · obtain ⟨⟨⟨⟨⟨a, b⟩, c⟩, d⟩, e⟩, f⟩ := h2; exact ⟨a, b, c, d, e, f⟩
  · obtain ⟨⟨⟨⟨⟨a, b⟩, c⟩, d⟩, e⟩, f⟩ := h3; exact ⟨a, b, c, d, e, f⟩
  · obtain ⟨⟨⟨⟨⟨a, b⟩, c⟩, d⟩, e⟩, f⟩ := h4; exact ⟨a, b, c, d, e, f⟩
  · obtain ⟨⟨⟨⟨⟨a, b⟩, c⟩, d⟩, e⟩, f⟩ := h5; exact ⟨a, b, c, d, e, f⟩
theorem stt_fr {L : List Int} {μ ν : M3} (F : Fr L μ ν) (hL : npL L = true) (hs : Sr μ) {t c : Int} (h : stt ν t c) : stt μ t c := by
  have h12 := F.1 12 (npL_12 hL) t
  have hp := npL_p hL (hs.2.2.1 t)
  unfold stt at *
  rw [h12] at h
  rw [F.1 _ hp.1 1, F.1 _ hp.1 7] at h
  rcases h with h | ⟨f, h1, h2, h3⟩
  · exact Or.inl h
  · exact Or.inr ⟨f, h1, h2, by rw [h3, F.1 _ hp.2.2.2.1 f]⟩
/-- how many variables a function has -/
def vrk (μ : M3) : Prop := ∀ p k, isPr p → (0 ≤ μ.1 (p + 9) k ∧ μ.1 (p + 9) k ≤ 1000) ∧ 0 ≤ μ.1 (p + 8) k ∧ μ.1 (p + 8) k ≤ 100000
theorem vrk.fr {L : List Int} {μ ν : M3} (h : vrk μ) (F : Fr L μ ν) (hL : npL L = true) : vrk ν := by
  intro p k hp
  rw [F.1 _ (npL_p hL hp).2.2.2.2.2 k, F.1 _ (npL_p hL hp).2.2.2.2.1 k]
  exact h p k hp
theorem td4 {x : Int} (h : 0 ≤ x) : 4 * x.tdiv 4 + x.tmod 4 = x ∧ 0 ≤ x.tmod 4 ∧ x.tmod 4 < 4 := ⟨Int.mul_tdiv_add_tmod x 4, Int.tmod_nonneg 4 h, Int.tmod_lt_of_pos x (by decide)⟩
set_option maxHeartbeats 4000000 in
set_option maxRecDepth 100000 in
theorem c_X8_parameters_b (ω : Om) (l : Launch) (μ : M3) (pq : Int) (x1 : Int) (hpr : isPr pq) (hx1 : ir x1) (hI : IC μ) : CtI ω l yX8_parameters cX8_parameters 2 .int 0 0 [.ref (oP ω pq), .int (iv x1)] μ (fun (r : Int) (μ' : M3) => (μ' = μ) ∧ (r = 0 ∨ r = μ.1 (pq + 8) x1)) := by
  refine CtI.go (by decide) (Nat.le_of_ble_eq_true rfl) (fun ρ p e s m below meth c R ls G hR hret hlk hl => ?_)
  have hx := G.1.1
  have hb := G.1.2.1
  have hl : lv_has ls 2 [(0, .ref (oP ω pq)), (1, .int (iv x1))] := hl
  generalize s.drawn = d0 at G ⊢
  have hr_x1 : -2147483648 ≤ x1 ∧ x1 ≤ 2147483647 := hx1
  have hpr_d : pq = 13 ∨ pq = 71 ∨ pq = 81 ∨ pq = 91 ∨ pq = 101 := hpr
  have hk_1 := hI.pr (p := pq) hpr
  unfold pk at hk_1
  have hc_2 : 16 ≤ μ.2.1 (pq + 1) ∧ μ.2.1 (pq + 1) ≤ 73024 := hI.rm.1 _ hpr.cap
  have hbr9 := hpr.br
  refine lv_iload_n hx hb dX8_parameters_0 rfl (lv_at hl 1 rfl) ?_
  refine xb_if_lt (tgt := 21) hx hb (by unfold ir; omega) dX8_parameters_1 (by decide) (fun c_1 => ?_) (fun c_1 => ?_)
  · refine lv_iconst (v := iv 0) hx hb dX8_parameters_21 rfl ?_
    exact xr_i G (x := 0) hret hlk (by unfold ir; omega) rfl dX8_parameters_22 ⟨rfl, (by omega)⟩
  · refine lv_iload_n hx hb dX8_parameters_4 rfl (lv_at hl 1 rfl) ?_
    refine lv_aload_n hx hb dX8_parameters_5 rfl (lv_at hl 0 rfl) ?_
    refine xa_geti G fd_X8 (a := pq) (x := μ.1 pq 7) 7 hpr.ly (by decide) rfl (wm 1 171 rfl rfl) ⟨rfl, rfl, rfl⟩ dX8_parameters_6 (hpr.hq ω ρ) rfl ?_
    have hr_3 : -2147483648 ≤ μ.1 pq 7 ∧ μ.1 pq 7 ≤ 2147483647 := by have h9 := G.hr (a := pq) (k := 7) hpr.t7; exact h9
    refine xb_icmp_ge (tgt := 21) hx hb (by unfold ir; omega) (by unfold ir; omega) dX8_parameters_9 (by decide) (fun c_9 => ?_) (fun c_9 => ?_)
    · refine lv_iconst (v := iv 0) hx hb dX8_parameters_21 rfl ?_
      exact xr_i G (x := 0) hret hlk (by unfold ir; omega) rfl dX8_parameters_22 ⟨rfl, (by omega)⟩
    · refine lv_aload_n hx hb dX8_parameters_12 rfl (lv_at hl 0 rfl) ?_
      refine xa_getr G fd_X8 (a := pq) (x := pq + 8) 5 hpr.ly (by decide) rfl (wm 1 169 rfl rfl) ⟨rfl, rfl, rfl⟩ dX8_parameters_13 (hpr.hq ω ρ) (G.sr hpr.s5) (by omega) (hpr.hq8 ω ρ) ?_
      refine lv_iload_n hx hb dX8_parameters_16 rfl (lv_at hl 1 rfl) ?_
      refine xa_iald G (a := pq + 8) (i := x1) hpr.ly8 (by have h9 := (G.ll hpr.l8); omega) dX8_parameters_17 (hpr.hq8 ω ρ) ?_
      have hr_4 : -2147483648 ≤ μ.1 (pq + 8) x1 ∧ μ.1 (pq + 8) x1 ≤ 2147483647 := by have h9 := G.hr (a := pq + 8) (k := x1) hpr.ta8; exact h9
      refine lv_goto (tgt := 22) hx hb dX8_parameters_18 (by decide) ?_
      exact xr_i G (x := μ.1 (pq + 8) x1) hret hlk (by unfold ir; omega) rfl dX8_parameters_22 ⟨rfl, (by omega)⟩

set_option maxHeartbeats 4000000 in
set_option maxRecDepth 100000 in
theorem c_X4_enter (ω : Om) (l : Launch) (μ : M3) (x1 : Int) (x2 : Int) (x3 : Int) (x4 : Int) (S : Int) (n : Int) (P : Int) (hx1 : ir x1) (hx2 : ir x2) (hx3 : ir x3) (hx4 : ir x4) (hI : IC μ) (hS : S = μ.1 33 3) (hn : n = μ.1 52 7) (hP : P = μ.1 12 x1) (ht9 : 0 ≤ x1 ∧ x1 ≤ 3) (hc9 : 0 ≤ x3 ∧ x3 ≤ 100000 ∧ 0 ≤ x4 ∧ x4 ≤ 1) (hn24 : n < 24) (hS9 : S ≤ 239000) (hv9 : vrk μ) : CtV ω l yX4_enter cX4_enter 7 3 125 [.ref (oP ω 32), .int (iv x1), .int (iv x2), .int (iv x3), .int (iv x4)] μ (fun (μ' : M3) => (Fr [32, 33, 34, 35, 36, 53, 54, 55, 56, 57, 58, 59, 52, 70] μ μ') ∧ (IC μ') ∧ (μ'.1 52 7 = n + 1) ∧ (μ'.1 53 n = x1) ∧ (μ'.1 55 n = S - x3 ∧ S - x3 ≤ μ'.1 56 n ∧ μ'.1 56 n ≤ S - x3 + 1000) ∧ (μ'.1 57 n = S - x3 - x4) ∧ (μ'.1 58 n = μ.1 32 11) ∧ (μ'.1 59 n = μ.1 60 6) ∧ (μ'.1 33 3 = max (μ'.1 56 n) 0) ∧ (μ'.1 32 10 = P) ∧ (stt μ x1 (μ'.1 32 12)) ∧ (∀ j, j ≠ n → μ'.1 53 j = μ.1 53 j) ∧ (∀ j, j ≠ n → μ'.1 54 j = μ.1 54 j) ∧ (∀ j, j ≠ n → μ'.1 55 j = μ.1 55 j) ∧ (∀ j, j ≠ n → μ'.1 56 j = μ.1 56 j) ∧ (∀ j, j ≠ n → μ'.1 57 j = μ.1 57 j) ∧ (∀ j, j ≠ n → μ'.1 58 j = μ.1 58 j) ∧ (∀ j, j ≠ n → μ'.1 59 j = μ.1 59 j) ∧ (μ'.1 32 11 = μ.1 32 11) ∧ (μ'.1 32 13 = μ.1 32 13) ∧ (μ'.1 32 14 = μ.1 32 14) ∧ (μ'.1 32 15 = μ.1 32 15) ∧ (μ'.1 32 16 = μ.1 32 16) ∧ (μ'.1 70 0 = μ.1 70 0) ∧ (μ'.1 70 1 = μ.1 70 1) ∧ (μ'.1 70 2 = μ.1 70 2) ∧ (μ'.1 70 3 = μ.1 70 3) ∧ (μ'.1 70 4 = μ.1 70 4) ∧ (μ'.1 70 5 = μ.1 70 5) ∧ (μ'.1 70 6 = μ.1 70 6) ∧ (μ'.1 70 8 = μ.1 70 8) ∧ (μ'.1 70 9 = μ.1 70 9)) := by
  refine CtV.go (by decide) (Nat.le_of_ble_eq_true rfl) (fun ρ p e s m below meth c R ls G hR hret hlk hl => ?_)
  have hx := G.1.1
  have hb := G.1.2.1
  have hl : lv_has ls 7 [(0, .ref (oP ω 32)), (1, .int (iv x1)), (2, .int (iv x2)), (3, .int (iv x3)), (4, .int (iv x4))] := hl
  generalize s.drawn = d0 at G ⊢
  have hr_x1 : -2147483648 ≤ x1 ∧ x1 ≤ 2147483647 := hx1
  have hr_x2 : -2147483648 ≤ x2 ∧ x2 ≤ 2147483647 := hx2
  have hr_x3 : -2147483648 ≤ x3 ∧ x3 ≤ 2147483647 := hx3
  have hr_x4 : -2147483648 ≤ x4 ∧ x4 ≤ 2147483647 := hx4
  have hk_1 := hI.row (r := 33) (by unfold isRow; decide)
  unfold rk at hk_1
  simp only [Int.reduceAdd] at hk_1
  have hbr_33 : BR 33 = 240100 := rfl
  have hn_2 : 0 ≤ μ.1 52 7 ∧ μ.1 52 7 ≤ 24 := hI.nm.2.2.2.2.1
  have hk_3 := hI.row (r := 37) (by unfold isRow; decide)
  unfold rk at hk_3
  simp only [Int.reduceAdd] at hk_3
  have hbr_37 : BR 37 = 20410 := rfl
  have hprP : isPr P := by have h9 := G.sr0.2.2.1 x1; rw [← hP] at h9; exact h9
  have hprP_d : P = 13 ∨ P = 71 ∨ P = 81 ∨ P = 91 ∨ P = 101 := hprP
  have hv8 := hv9 P x2 hprP
  refine lv_aload_n hx hb dX4_enter_0 rfl (lv_at hl 0 rfl) ?_
  refine lv_aload_n hx hb dX4_enter_1 rfl (lv_at hl 0 rfl) ?_
  refine xa_getr G fd_X4 (a := 32) (x := 12) 0 rfl (by decide) rfl (wm 2 144 rfl rfl) ⟨rfl, rfl, rfl⟩ dX4_enter_2 rfl (G.sk 33 rfl) (by decide) rfl ?_
  refine lv_iload_n hx hb dX4_enter_5 rfl (lv_at hl 1 rfl) ?_
  refine lv_iconst (v := iv 3) hx hb dX4_enter_6 rfl ?_
  refine lv_iand hx hb dX4_enter_7 ?_
  refine xb_topi (fun y_4 hr_y_4 he_y_4 => ?_)
  have hr_y_4 : -2147483648 ≤ y_4 ∧ y_4 ≤ 2147483647 := hr_y_4
  have hm_y_4 := and_mask x1 (k := 3) (by omega) he_y_4 hr_y_4
  have hm3_y_4 : 0 ≤ x1 ∧ x1 ≤ 3 → y_4 = x1 := and3 he_y_4 hr_y_4
  refine xb_ti (y := x1) (hm3_y_4 (by omega)) ?_
  refine xa_aald G (a := 12) (i := x1) (b := P) rfl (by have h9 := G.lc (a := 12) (n := 4) 9 rfl; omega) hP.symm (by omega) dX4_enter_8 rfl (hprP.hq ω ρ) ?_
  refine xa_putr G fd_X4 (a := 32) (x := P) 10 (kz := 10) rfl rfl (by decide) rfl hprP (Or.inr (Or.inl ⟨rfl, rfl⟩)) (wm 2 154 rfl rfl) ⟨rfl, rfl, rfl, rfl⟩ rfl dX4_enter_9 rfl (hprP.hq ω ρ) (fun H locs G => ?_)
  refine lv_aload_n hx hb dX4_enter_12 rfl (lv_at hl 0 rfl) ?_
  refine xa_getr G fd_X4 (a := 32) (x := 33) 3 rfl (by decide) rfl (wm 2 147 rfl rfl) ⟨rfl, rfl, rfl⟩ dX4_enter_13 rfl (G.sk 36 rfl) (by decide) rfl ?_
  have hI_5 : IC (sv μ 32 10 P) := (IC.put hI (by decide +kernel))
  have e_6 : (sv μ 32 10 P).1 33 3 = S := ((sv_n _ (fun h9 => absurd h9.1 (by decide))).trans hS.symm)
  refine xc_iV G (b := 33) (rest := []) (As := []) (c_X9_count ω l (sv μ 32 10 P) 33 (by unfold isRow; decide) hI_5) (wm 5 79 rfl rfl) (wm 4 81 rfl rfl) (wm 4 82 rfl rfl) rfl rfl (by decide) rfl (wm 1 10 rfl rfl) (wm 4 83 rfl rfl) (by decide) hR (by decide) (n := 0) rfl rfl (Nat.le_of_ble_eq_true rfl) hl.1 dX4_enter_16 (fun r_8 μ7 ρ d0 H locs hr_r_8 hp G => ?_)
  have hr_r_8 : -2147483648 ≤ r_8 ∧ r_8 ≤ 2147483647 := hr_r_8
  obtain ⟨hsm_9, hp_10⟩ := hp
  have hsm_9 := Eq.symm hsm_9
  subst hsm_9
  refine lv_iload_n hx hb dX4_enter_19 rfl (lv_at hl 3 rfl) ?_
  refine xb_isub hx hb dX4_enter_20 ?_
  refine lv_istore (lv' := [(5, .int (iv (r_8 - x3))), (0, .ref (oP ω 32)), (1, .int (iv x1)), (2, .int (iv x2)), (3, .int (iv x3)), (4, .int (iv x4))]) hx hb dX4_enter_21 hl (by decide) rfl (fun ls hl => ?_)
  refine lv_iload hx hb dX4_enter_23 (lv_at hl 0 rfl) ?_
  refine lv_aload_n hx hb dX4_enter_25 rfl (lv_at hl 1 rfl) ?_
  refine xa_getr G fd_X4 (a := 32) (x := P) 10 rfl (by decide) rfl (wm 2 154 rfl rfl) ⟨rfl, rfl, rfl⟩ dX4_enter_26 rfl (sv_s _ _ _ _) (by omega) (hprP.hq ω ρ) ?_
  refine lv_iload_n hx hb dX4_enter_29 rfl (lv_at hl 3 rfl) ?_
  have e_11 : (sv μ 32 10 P).1 (P + 9) x2 = μ.1 (P + 9) x2 := (sv_n _ (by omega))
  refine xc_iV G (b := P) (rest := [.int (iv (r_8 - x3))]) (As := [.int (iv x2)]) (c_X8_variables ω l (sv μ 32 10 P) P x2 hprP (by unfold ir; omega) hI_5) (wm 5 80 rfl rfl) (wm 5 81 rfl rfl) (wm 5 82 rfl rfl) hprP.ly rfl (by decide) (hprP.hq ω ρ) (wm 1 9 rfl rfl) (wm 5 83 rfl rfl) (by decide) hR (by decide) (n := 1) rfl rfl (Nat.le_of_ble_eq_true rfl) hl.1 dX4_enter_30 (fun r_13 μ12 ρ d0 H locs hr_r_13 hp G => ?_)
  have hr_r_13 : -2147483648 ≤ r_13 ∧ r_13 ≤ 2147483647 := hr_r_13
  obtain ⟨hsm_14, hp_15⟩ := hp
  have hsm_14 := Eq.symm hsm_14
  subst hsm_14
  refine xb_iadd hx hb dX4_enter_33 ?_
  refine lv_istore (lv' := [(6, .int (iv ((r_8 - x3) + r_13))), (5, .int (iv (r_8 - x3))), (0, .ref (oP ω 32)), (1, .int (iv x1)), (2, .int (iv x2)), (3, .int (iv x3)), (4, .int (iv x4))]) hx hb dX4_enter_34 hl (by decide) rfl (fun ls hl => ?_)
  refine lv_aload_n hx hb dX4_enter_36 rfl (lv_at hl 2 rfl) ?_
  refine xa_getr G fd_X4 (a := 32) (x := 33) 3 rfl (by decide) rfl (wm 2 147 rfl rfl) ⟨rfl, rfl, rfl⟩ dX4_enter_37 rfl (G.sk 36 rfl) (by decide) rfl ?_
  refine lv_iload hx hb dX4_enter_40 (lv_at hl 1 rfl) ?_
  refine lv_iload_n hx hb dX4_enter_42 rfl (lv_at hl 5 rfl) ?_
  refine lv_aload_n hx hb dX4_enter_43 rfl (lv_at hl 2 rfl) ?_
  refine xa_getr G fd_X4 (a := 32) (x := P) 10 rfl (by decide) rfl (wm 2 154 rfl rfl) ⟨rfl, rfl, rfl⟩ dX4_enter_44 rfl (sv_s _ _ _ _) (by omega) (hprP.hq ω ρ) ?_
  refine lv_iload_n hx hb dX4_enter_47 rfl (lv_at hl 4 rfl) ?_
  have e_16 : (sv μ 32 10 P).1 (P + 8) x2 = μ.1 (P + 8) x2 := (sv_n _ (by omega))
  refine xc_iV G (b := P) (rest := [.int (iv x3), .int (iv (r_8 - x3)), .ref (oP ω 33)]) (As := [.int (iv x2)]) (c_X8_parameters_b ω l (sv μ 32 10 P) P x2 hprP (by unfold ir; omega) hI_5) (wm 5 84 rfl rfl) (wm 5 85 rfl rfl) (wm 5 86 rfl rfl) hprP.ly rfl (by decide) (hprP.hq ω ρ) (wm 1 9 rfl rfl) (wm 5 87 rfl rfl) (by decide) hR (by decide) (n := 1) rfl rfl (Nat.le_of_ble_eq_true rfl) hl.1 dX4_enter_48 (fun r_18 μ17 ρ d0 H locs hr_r_18 hp G => ?_)
  have hr_r_18 : -2147483648 ≤ r_18 ∧ r_18 ≤ 2147483647 := hr_r_18
  obtain ⟨hsm_19, hp_20⟩ := hp
  have hsm_19 := Eq.symm hsm_19
  subst hsm_19
  refine xm_min G (x := x3) (y := r_18) (wm 5 88 rfl rfl) (wm 3 29 rfl rfl) (wm 1 11 rfl rfl) (wm 3 30 rfl rfl) hR (by decide) (Nat.le_of_ble_eq_true rfl) hl.1 (by unfold ir; omega) (by unfold ir; omega) dX4_enter_51 ?_
  refine xb_iadd hx hb dX4_enter_54 ?_
  refine xc_vV G (b := 33) (rest := []) (As := [.int (iv ((r_8 - x3) + (min x3 r_18)))]) (c_X9_resize ω l (sv μ 32 10 P) 33 ((r_8 - x3) + (min x3 r_18)) (by unfold isRow; decide) (by unfold ir; omega) hI_5 (by omega)) (wm 5 55 rfl rfl) (wm 3 15 rfl rfl) (wm 3 16 rfl rfl) rfl rfl (by decide) rfl (wm 1 10 rfl rfl) (wm 3 17 rfl rfl) (by decide) hR (by decide) (n := 1) rfl rfl (Nat.le_of_ble_eq_true rfl) hl.1 dX4_enter_55 (fun μ21 ρ d0 H locs hp G => ?_)
  obtain ⟨F_22, hI_23, hs_24⟩ := hp
  refine lv_aload_n hx hb dX4_enter_58 rfl (lv_at hl 2 rfl) ?_
  refine xa_getr G fd_X4 (a := 32) (x := 33) 3 rfl (by decide) rfl (wm 2 147 rfl rfl) ⟨rfl, rfl, rfl⟩ dX4_enter_59 rfl (G.sk 36 rfl) (by decide) rfl ?_
  refine lv_iload hx hb dX4_enter_62 (lv_at hl 0 rfl) ?_
  refine xc_vV G (b := 33) (rest := []) (As := [.int (iv ((r_8 - x3) + r_13))]) (c_X9_resize ω l μ21 33 ((r_8 - x3) + r_13) (by unfold isRow; decide) (by unfold ir; omega) hI_23 (by omega)) (wm 5 55 rfl rfl) (wm 3 15 rfl rfl) (wm 3 16 rfl rfl) rfl rfl (by decide) rfl (wm 1 10 rfl rfl) (wm 3 17 rfl rfl) (by decide) hR (by decide) (n := 1) rfl rfl (Nat.le_of_ble_eq_true rfl) hl.1 dX4_enter_64 (fun μ25 ρ d0 H locs hp G => ?_)
  obtain ⟨F_26, hI_27, hs_28⟩ := hp
  refine lv_aload_n hx hb dX4_enter_67 rfl (lv_at hl 2 rfl) ?_
  refine xa_getr G fd_X4 (a := 32) (x := 52) 7 rfl (by decide) rfl (wm 2 151 rfl rfl) ⟨rfl, rfl, rfl⟩ dX4_enter_68 rfl (G.sk 40 rfl) (by decide) rfl ?_
  refine lv_iload_n hx hb dX4_enter_71 rfl (lv_at hl 3 rfl) ?_
  refine lv_iload_n hx hb dX4_enter_72 rfl (lv_at hl 4 rfl) ?_
  refine lv_iload hx hb dX4_enter_73 (lv_at hl 1 rfl) ?_
  refine lv_iload hx hb dX4_enter_75 (lv_at hl 0 rfl) ?_
  refine lv_iload hx hb dX4_enter_77 (lv_at hl 1 rfl) ?_
  refine lv_iload hx hb dX4_enter_79 (lv_at hl 6 rfl) ?_
  refine xb_isub hx hb dX4_enter_81 ?_
  refine lv_aload_n hx hb dX4_enter_82 rfl (lv_at hl 2 rfl) ?_
  refine xa_geti G fd_X4 (a := 32) (x := μ.1 32 11) 11 rfl (by decide) rfl (wm 2 155 rfl rfl) ⟨rfl, rfl, rfl⟩ dX4_enter_83 rfl ((F_26.1 32 (by decide) 11).trans ((F_22.1 32 (by decide) 11).trans (sv_n _ (by decide)))) ?_
  have hr_29 : -2147483648 ≤ μ.1 32 11 ∧ μ.1 32 11 ≤ 2147483647 := by have h9 := G.hr (a := 32) (k := 11) rfl; rw [show μ25.1 32 11 = μ.1 32 11 from ((F_26.1 32 (by decide) 11).trans ((F_22.1 32 (by decide) 11).trans (sv_n _ (by decide))))] at h9; exact h9
  refine lv_aload_n hx hb dX4_enter_86 rfl (lv_at hl 2 rfl) ?_
  refine xa_getr G fd_X4 (a := 32) (x := 60) 8 rfl (by decide) rfl (wm 2 152 rfl rfl) ⟨rfl, rfl, rfl⟩ dX4_enter_87 rfl (G.sk 41 rfl) (by decide) rfl ?_
  have hn_30 : 0 ≤ μ.1 60 6 ∧ μ.1 60 6 ≤ 400 := hI.nm.2.2.2.2.2.1
  have e_31 : μ25.1 60 6 = μ.1 60 6 := ((F_26.1 60 (by decide) 6).trans ((F_22.1 60 (by decide) 6).trans (sv_n _ (fun h9 => absurd h9.1 (by decide)))))
  refine xc_iV G (b := 60) (rest := [.int (iv (μ.1 32 11)), .int (iv ((r_8 - x3) - x4)), .int (iv ((r_8 - x3) + r_13)), .int (iv (r_8 - x3)), .int (iv x2), .int (iv x1), .ref (oP ω 52)]) (As := []) (c_X3_count ω l μ25  hI_27) (wm 5 89 rfl rfl) (wm 5 90 rfl rfl) (wm 5 91 rfl rfl) rfl rfl (by decide) rfl (wm 1 17 rfl rfl) (wm 5 92 rfl rfl) (by decide) hR (by decide) (n := 0) rfl rfl (Nat.le_of_ble_eq_true rfl) hl.1 dX4_enter_90 (fun r_33 μ32 ρ d0 H locs hr_r_33 hp G => ?_)
  have hr_r_33 : -2147483648 ≤ r_33 ∧ r_33 ≤ 2147483647 := hr_r_33
  obtain ⟨hsm_34, hp_35⟩ := hp
  have hsm_34 := Eq.symm hsm_34
  subst hsm_34
  have e_36 : μ25.1 52 7 = n := ((F_26.1 52 (by decide) 7).trans ((F_22.1 52 (by decide) 7).trans ((sv_n _ (fun h9 => absurd h9.1 (by decide))).trans hn.symm)))
  have e_37 : μ25.1 32 11 = μ.1 32 11 := ((F_26.1 32 (by decide) 11).trans ((F_22.1 32 (by decide) 11).trans (sv_n _ (by decide))))
  refine xc_vV G (b := 52) (rest := []) (As := [.int (iv x1), .int (iv x2), .int (iv (r_8 - x3)), .int (iv ((r_8 - x3) + r_13)), .int (iv ((r_8 - x3) - x4)), .int (iv (μ.1 32 11)), .int (iv r_33)]) (c_X2_push ω l μ25 x1 x2 (r_8 - x3) ((r_8 - x3) + r_13) ((r_8 - x3) - x4) (μ.1 32 11) r_33 n (by unfold ir; omega) (by unfold ir; omega) (by unfold ir; omega) (by unfold ir; omega) (by unfold ir; omega) (by unfold ir; omega) (by unfold ir; omega) hI_27 (by omega) (by omega)) (wm 5 93 rfl rfl) (wm 5 94 rfl rfl) (wm 5 95 rfl rfl) rfl rfl (by decide) rfl (wm 1 16 rfl rfl) (wm 5 96 rfl rfl) (by decide) hR (by decide) (n := 7) rfl rfl (Nat.le_of_ble_eq_true rfl) hl.1 dX4_enter_93 (fun μ38 ρ d0 H locs hp G => ?_)
  obtain ⟨F_39, hI_40, hs_41, hp_42, hp_43, hp_44, hp_45, hp_46, hp_47, hp_48, ha_49, ha_50, ha_51, ha_52, ha_53, ha_54, ha_55⟩ := hp
  refine lv_aload_n hx hb dX4_enter_96 rfl (lv_at hl 2 rfl) ?_
  refine lv_aload_n hx hb dX4_enter_97 rfl (lv_at hl 2 rfl) ?_
  refine xa_getr G fd_X4 (a := 32) (x := P) 10 rfl (by decide) rfl (wm 2 154 rfl rfl) ⟨rfl, rfl, rfl⟩ dX4_enter_98 rfl ((F_39.1 32 (by decide) 10).trans ((F_26.1 32 (by decide) 10).trans ((F_22.1 32 (by decide) 10).trans (sv_s _ _ _ _)))) (by omega) (hprP.hq ω ρ) ?_
  refine lv_iload_n hx hb dX4_enter_101 rfl (lv_at hl 4 rfl) ?_
  have hk_56 := hI.pr (p := P) hprP
  unfold pk at hk_56
  have hc_57 : 16 ≤ μ.2.1 (P + 1) ∧ μ.2.1 (P + 1) ≤ 73024 := hI.rm.1 _ hprP.cap
  have e_58 : μ38.1 P 1 = μ.1 P 1 := ((F_39.1 P (by simp <;> omega) 1).trans ((F_26.1 P (by simp <;> omega) 1).trans ((F_22.1 P (by simp <;> omega) 1).trans (sv_n _ (by omega)))))
  have e_59 : μ38.1 P 7 = μ.1 P 7 := ((F_39.1 P (by simp <;> omega) 7).trans ((F_26.1 P (by simp <;> omega) 7).trans ((F_22.1 P (by simp <;> omega) 7).trans (sv_n _ (by omega)))))
  have e_60 : μ38.1 (P + 7) x2 = μ.1 (P + 7) x2 := ((F_39.1 (P + 7) (by simp <;> omega) x2).trans ((F_26.1 (P + 7) (by simp <;> omega) x2).trans ((F_22.1 (P + 7) (by simp <;> omega) x2).trans (sv_n _ (by omega)))))
  refine xc_iV G (b := P) (rest := [.ref (oP ω 32)]) (As := [.int (iv x2)]) (c_X8_start ω l μ38 P x2 hprP (by unfold ir; omega) hI_40) (wm 5 97 rfl rfl) (wm 5 98 rfl rfl) (wm 5 99 rfl rfl) hprP.ly rfl (by decide) (hprP.hq ω ρ) (wm 1 9 rfl rfl) (wm 5 100 rfl rfl) (by decide) hR (by decide) (n := 1) rfl rfl (Nat.le_of_ble_eq_true rfl) hl.1 dX4_enter_102 (fun r_62 μ61 ρ d0 H locs hr_r_62 hp G => ?_)
  have hr_r_62 : -2147483648 ≤ r_62 ∧ r_62 ≤ 2147483647 := hr_r_62
  obtain ⟨hsm_63, hp_64⟩ := hp
  have hsm_63 := Eq.symm hsm_63
  subst hsm_63
  refine xa_puti G fd_X4 (a := 32) (x := r_62) 12 (kz := 12) rfl rfl (by decide) rfl (by unfold ir; omega) (wm 2 156 rfl rfl) ⟨rfl, rfl, rfl, rfl⟩ rfl dX4_enter_105 rfl (fun H locs G => ?_)
  refine lv_aload_n hx hb dX4_enter_108 rfl (lv_at hl 2 rfl) ?_
  refine xa_getr G fd_X4 (a := 32) (x := 70) 9 rfl (by decide) rfl (wm 2 153 rfl rfl) ⟨rfl, rfl, rfl⟩ dX4_enter_109 rfl (G.sk 42 rfl) (by decide) rfl ?_
  refine lv_bipush (v := iv 7) hx hb dX4_enter_112 rfl ?_
  refine lv_aload_n hx hb dX4_enter_114 rfl (lv_at hl 2 rfl) ?_
  refine xa_getr G fd_X4 (a := 32) (x := 70) 9 rfl (by decide) rfl (wm 2 153 rfl rfl) ⟨rfl, rfl, rfl⟩ dX4_enter_115 rfl (G.sk 42 rfl) (by decide) rfl ?_
  refine lv_bipush (v := iv 7) hx hb dX4_enter_118 rfl ?_
  refine xa_iald G (a := 70) (i := 7) rfl (by have h9 := G.lc (a := 70) (n := 10) 33 rfl; omega) dX4_enter_120 rfl ?_
  refine xb_ti (y := μ.1 70 7) ((sv_n _ (fun h9 => absurd h9.1 (by decide))).trans ((F_39.1 70 (by decide) 7).trans ((F_26.1 70 (by decide) 7).trans ((F_22.1 70 (by decide) 7).trans (sv_n _ (fun h9 => absurd h9.1 (by decide))))))) ?_
  have hr_65 : -2147483648 ≤ μ.1 70 7 ∧ μ.1 70 7 ≤ 2147483647 := by have h9 := G.hr (a := 70) (k := 7) rfl; rw [((sv_n _ (fun h9 => absurd h9.1 (by decide))).trans ((F_39.1 70 (by decide) 7).trans ((F_26.1 70 (by decide) 7).trans ((F_22.1 70 (by decide) 7).trans (sv_n _ (fun h9 => absurd h9.1 (by decide)))))))] at h9; exact h9
  refine lv_aload_n hx hb dX4_enter_121 rfl (lv_at hl 2 rfl) ?_
  refine xa_getr G fd_X4 (a := 32) (x := 52) 7 rfl (by decide) rfl (wm 2 151 rfl rfl) ⟨rfl, rfl, rfl⟩ dX4_enter_122 rfl (G.sk 40 rfl) (by decide) rfl ?_
  have hI_66 : IC (sv μ38 32 12 r_62) := (IC.put hI_40 (by decide +kernel))
  have e_67 : (sv μ38 32 12 r_62).1 52 7 = n + 1 := ((sv_n _ (fun h9 => absurd h9.1 (by decide))).trans hs_41)
  refine xc_iV G (b := 52) (rest := [.int (iv (μ.1 70 7)), .int (iv 7), .ref (oP ω 70)]) (As := []) (c_X2_count ω l (sv μ38 32 12 r_62)  hI_66) (wm 5 101 rfl rfl) (wm 5 102 rfl rfl) (wm 5 103 rfl rfl) rfl rfl (by decide) rfl (wm 1 16 rfl rfl) (wm 5 104 rfl rfl) (by decide) hR (by decide) (n := 0) rfl rfl (Nat.le_of_ble_eq_true rfl) hl.1 dX4_enter_125 (fun r_69 μ68 ρ d0 H locs hr_r_69 hp G => ?_)
  have hr_r_69 : -2147483648 ≤ r_69 ∧ r_69 ≤ 2147483647 := hr_r_69
  obtain ⟨hsm_70, hp_71⟩ := hp
  have hsm_70 := Eq.symm hsm_70
  subst hsm_70
  refine xm_max G (x := μ.1 70 7) (y := r_69) (wm 5 105 rfl rfl) (wm 1 148 rfl rfl) (wm 1 11 rfl rfl) (wm 1 149 rfl rfl) hR (by decide) (Nat.le_of_ble_eq_true rfl) hl.1 (by unfold ir; omega) (by unfold ir; omega) dX4_enter_128 ?_
  refine xa_iast G (a := 70) (i := 7) (x := max (μ.1 70 7) r_69) rfl (by have h9 := G.lc (a := 70) (n := 10) 33 rfl; omega) (by unfold ir; omega) dX4_enter_131 rfl (fun H locs G => ?_)
  have hst9 : stt μ x1 ((sv (sv μ38 32 12 r_62) 70 7 (max (μ.1 70 7) r_69)).1 32 12) := by
    rw [show (sv (sv μ38 32 12 r_62) 70 7 (max (μ.1 70 7) r_69)).1 32 12 = r_62 from ((sv_n _ (fun h9 => absurd h9.1 (by decide))).trans (sv_s _ _ _ _))]; unfold stt; rw [← hP]; rcases hp_64 with h9 | ⟨h7, h8, h9⟩
    · exact Or.inl (by omega)
    · exact Or.inr ⟨x2, h7, by omega, by omega⟩
  have hI_72 : IC (sv (sv μ38 32 12 r_62) 70 7 (max (μ.1 70 7) r_69)) := (IC.pua hI_66 (by decide))
  have e_73 : (sv (sv μ38 32 12 r_62) 70 7 (max (μ.1 70 7) r_69)).1 52 7 = n + 1 := ((sv_n _ (fun h9 => absurd h9.1 (by decide))).trans ((sv_n _ (fun h9 => absurd h9.1 (by decide))).trans hs_41))
  have e_74 : (sv (sv μ38 32 12 r_62) 70 7 (max (μ.1 70 7) r_69)).1 53 n = μ38.1 53 n := ((sv_n _ (fun h9 => absurd h9.1 (by decide))).trans (sv_n _ (fun h9 => absurd h9.1 (by decide))))
  have e_75 : (sv (sv μ38 32 12 r_62) 70 7 (max (μ.1 70 7) r_69)).1 55 n = μ38.1 55 n := ((sv_n _ (fun h9 => absurd h9.1 (by decide))).trans (sv_n _ (fun h9 => absurd h9.1 (by decide))))
  have e_76 : (sv (sv μ38 32 12 r_62) 70 7 (max (μ.1 70 7) r_69)).1 56 n = μ38.1 56 n := ((sv_n _ (fun h9 => absurd h9.1 (by decide))).trans (sv_n _ (fun h9 => absurd h9.1 (by decide))))
  have e_77 : (sv (sv μ38 32 12 r_62) 70 7 (max (μ.1 70 7) r_69)).1 56 n = μ38.1 56 n := ((sv_n _ (fun h9 => absurd h9.1 (by decide))).trans (sv_n _ (fun h9 => absurd h9.1 (by decide))))
  have e_78 : (sv (sv μ38 32 12 r_62) 70 7 (max (μ.1 70 7) r_69)).1 57 n = μ38.1 57 n := ((sv_n _ (fun h9 => absurd h9.1 (by decide))).trans (sv_n _ (fun h9 => absurd h9.1 (by decide))))
  have e_79 : (sv (sv μ38 32 12 r_62) 70 7 (max (μ.1 70 7) r_69)).1 58 n = μ38.1 58 n := ((sv_n _ (fun h9 => absurd h9.1 (by decide))).trans (sv_n _ (fun h9 => absurd h9.1 (by decide))))
  have e_80 : (sv (sv μ38 32 12 r_62) 70 7 (max (μ.1 70 7) r_69)).1 59 n = μ38.1 59 n := ((sv_n _ (fun h9 => absurd h9.1 (by decide))).trans (sv_n _ (fun h9 => absurd h9.1 (by decide))))
  have e_81 : (sv (sv μ38 32 12 r_62) 70 7 (max (μ.1 70 7) r_69)).1 33 3 = max ((r_8 - x3) + r_13) 0 := ((sv_n _ (fun h9 => absurd h9.1 (by decide))).trans ((sv_n _ (fun h9 => absurd h9.1 (by decide))).trans ((F_39.1 33 (by decide) 3).trans hs_28)))
  have e_82 : (sv (sv μ38 32 12 r_62) 70 7 (max (μ.1 70 7) r_69)).1 56 n = μ38.1 56 n := ((sv_n _ (fun h9 => absurd h9.1 (by decide))).trans (sv_n _ (fun h9 => absurd h9.1 (by decide))))
  have e_83 : (sv (sv μ38 32 12 r_62) 70 7 (max (μ.1 70 7) r_69)).1 32 10 = P := ((sv_n _ (fun h9 => absurd h9.1 (by decide))).trans ((sv_n _ (by decide)).trans ((F_39.1 32 (by decide) 10).trans ((F_26.1 32 (by decide) 10).trans ((F_22.1 32 (by decide) 10).trans (sv_s _ _ _ _))))))
  have e_84 : (sv (sv μ38 32 12 r_62) 70 7 (max (μ.1 70 7) r_69)).1 32 11 = μ.1 32 11 := ((sv_n _ (fun h9 => absurd h9.1 (by decide))).trans ((sv_n _ (by decide)).trans ((F_39.1 32 (by decide) 11).trans ((F_26.1 32 (by decide) 11).trans ((F_22.1 32 (by decide) 11).trans (sv_n _ (by decide)))))))
  have e_85 : (sv (sv μ38 32 12 r_62) 70 7 (max (μ.1 70 7) r_69)).1 32 13 = μ.1 32 13 := ((sv_n _ (fun h9 => absurd h9.1 (by decide))).trans ((sv_n _ (by decide)).trans ((F_39.1 32 (by decide) 13).trans ((F_26.1 32 (by decide) 13).trans ((F_22.1 32 (by decide) 13).trans (sv_n _ (by decide)))))))
  have e_86 : (sv (sv μ38 32 12 r_62) 70 7 (max (μ.1 70 7) r_69)).1 32 14 = μ.1 32 14 := ((sv_n _ (fun h9 => absurd h9.1 (by decide))).trans ((sv_n _ (by decide)).trans ((F_39.1 32 (by decide) 14).trans ((F_26.1 32 (by decide) 14).trans ((F_22.1 32 (by decide) 14).trans (sv_n _ (by decide)))))))
  have e_87 : (sv (sv μ38 32 12 r_62) 70 7 (max (μ.1 70 7) r_69)).1 32 15 = μ.1 32 15 := ((sv_n _ (fun h9 => absurd h9.1 (by decide))).trans ((sv_n _ (by decide)).trans ((F_39.1 32 (by decide) 15).trans ((F_26.1 32 (by decide) 15).trans ((F_22.1 32 (by decide) 15).trans (sv_n _ (by decide)))))))
  have e_88 : (sv (sv μ38 32 12 r_62) 70 7 (max (μ.1 70 7) r_69)).1 32 16 = μ.1 32 16 := ((sv_n _ (fun h9 => absurd h9.1 (by decide))).trans ((sv_n _ (by decide)).trans ((F_39.1 32 (by decide) 16).trans ((F_26.1 32 (by decide) 16).trans ((F_22.1 32 (by decide) 16).trans (sv_n _ (by decide)))))))
  have e_89 : (sv (sv μ38 32 12 r_62) 70 7 (max (μ.1 70 7) r_69)).1 70 0 = μ.1 70 0 := ((sv_n _ (by decide)).trans ((sv_n _ (fun h9 => absurd h9.1 (by decide))).trans ((F_39.1 70 (by decide) 0).trans ((F_26.1 70 (by decide) 0).trans ((F_22.1 70 (by decide) 0).trans (sv_n _ (fun h9 => absurd h9.1 (by decide))))))))
  have e_90 : (sv (sv μ38 32 12 r_62) 70 7 (max (μ.1 70 7) r_69)).1 70 1 = μ.1 70 1 := ((sv_n _ (by decide)).trans ((sv_n _ (fun h9 => absurd h9.1 (by decide))).trans ((F_39.1 70 (by decide) 1).trans ((F_26.1 70 (by decide) 1).trans ((F_22.1 70 (by decide) 1).trans (sv_n _ (fun h9 => absurd h9.1 (by decide))))))))
  have e_91 : (sv (sv μ38 32 12 r_62) 70 7 (max (μ.1 70 7) r_69)).1 70 2 = μ.1 70 2 := ((sv_n _ (by decide)).trans ((sv_n _ (fun h9 => absurd h9.1 (by decide))).trans ((F_39.1 70 (by decide) 2).trans ((F_26.1 70 (by decide) 2).trans ((F_22.1 70 (by decide) 2).trans (sv_n _ (fun h9 => absurd h9.1 (by decide))))))))
  have e_92 : (sv (sv μ38 32 12 r_62) 70 7 (max (μ.1 70 7) r_69)).1 70 3 = μ.1 70 3 := ((sv_n _ (by decide)).trans ((sv_n _ (fun h9 => absurd h9.1 (by decide))).trans ((F_39.1 70 (by decide) 3).trans ((F_26.1 70 (by decide) 3).trans ((F_22.1 70 (by decide) 3).trans (sv_n _ (fun h9 => absurd h9.1 (by decide))))))))
  have e_93 : (sv (sv μ38 32 12 r_62) 70 7 (max (μ.1 70 7) r_69)).1 70 4 = μ.1 70 4 := ((sv_n _ (by decide)).trans ((sv_n _ (fun h9 => absurd h9.1 (by decide))).trans ((F_39.1 70 (by decide) 4).trans ((F_26.1 70 (by decide) 4).trans ((F_22.1 70 (by decide) 4).trans (sv_n _ (fun h9 => absurd h9.1 (by decide))))))))
  have e_94 : (sv (sv μ38 32 12 r_62) 70 7 (max (μ.1 70 7) r_69)).1 70 5 = μ.1 70 5 := ((sv_n _ (by decide)).trans ((sv_n _ (fun h9 => absurd h9.1 (by decide))).trans ((F_39.1 70 (by decide) 5).trans ((F_26.1 70 (by decide) 5).trans ((F_22.1 70 (by decide) 5).trans (sv_n _ (fun h9 => absurd h9.1 (by decide))))))))
  have e_95 : (sv (sv μ38 32 12 r_62) 70 7 (max (μ.1 70 7) r_69)).1 70 6 = μ.1 70 6 := ((sv_n _ (by decide)).trans ((sv_n _ (fun h9 => absurd h9.1 (by decide))).trans ((F_39.1 70 (by decide) 6).trans ((F_26.1 70 (by decide) 6).trans ((F_22.1 70 (by decide) 6).trans (sv_n _ (fun h9 => absurd h9.1 (by decide))))))))
  have e_96 : (sv (sv μ38 32 12 r_62) 70 7 (max (μ.1 70 7) r_69)).1 70 8 = μ.1 70 8 := ((sv_n _ (by decide)).trans ((sv_n _ (fun h9 => absurd h9.1 (by decide))).trans ((F_39.1 70 (by decide) 8).trans ((F_26.1 70 (by decide) 8).trans ((F_22.1 70 (by decide) 8).trans (sv_n _ (fun h9 => absurd h9.1 (by decide))))))))
  have e_97 : (sv (sv μ38 32 12 r_62) 70 7 (max (μ.1 70 7) r_69)).1 70 9 = μ.1 70 9 := ((sv_n _ (by decide)).trans ((sv_n _ (fun h9 => absurd h9.1 (by decide))).trans ((F_39.1 70 (by decide) 9).trans ((F_26.1 70 (by decide) 9).trans ((F_22.1 70 (by decide) 9).trans (sv_n _ (fun h9 => absurd h9.1 (by decide))))))))
  exact xr_v G hret hlk dX4_enter_132 ⟨(Fr.put (Fr.put (Fr.tr (Fr.tr (Fr.tr (Fr.put Fr.rf (by decide)) F_22 (by decide)) F_26 (by decide)) F_39 (by decide)) (by decide)) (by decide)), hI_72, (by omega), (by omega), (by omega), (by omega), (by omega), (by omega), (by omega), (by omega), hst9, (fun j hj => ((sv_n _ (by omega)).trans ((sv_n _ (by omega)).trans ((ha_49 j (by omega)).trans ((F_26.1 53 (by decide) j).trans ((F_22.1 53 (by decide) j).trans (sv_n _ (by omega)))))))), (fun j hj => ((sv_n _ (by omega)).trans ((sv_n _ (by omega)).trans ((ha_50 j (by omega)).trans ((F_26.1 54 (by decide) j).trans ((F_22.1 54 (by decide) j).trans (sv_n _ (by omega)))))))), (fun j hj => ((sv_n _ (by omega)).trans ((sv_n _ (by omega)).trans ((ha_51 j (by omega)).trans ((F_26.1 55 (by decide) j).trans ((F_22.1 55 (by decide) j).trans (sv_n _ (by omega)))))))), (fun j hj => ((sv_n _ (by omega)).trans ((sv_n _ (by omega)).trans ((ha_52 j (by omega)).trans ((F_26.1 56 (by decide) j).trans ((F_22.1 56 (by decide) j).trans (sv_n _ (by omega)))))))), (fun j hj => ((sv_n _ (by omega)).trans ((sv_n _ (by omega)).trans ((ha_53 j (by omega)).trans ((F_26.1 57 (by decide) j).trans ((F_22.1 57 (by decide) j).trans (sv_n _ (by omega)))))))), (fun j hj => ((sv_n _ (by omega)).trans ((sv_n _ (by omega)).trans ((ha_54 j (by omega)).trans ((F_26.1 58 (by decide) j).trans ((F_22.1 58 (by decide) j).trans (sv_n _ (by omega)))))))), (fun j hj => ((sv_n _ (by omega)).trans ((sv_n _ (by omega)).trans ((ha_55 j (by omega)).trans ((F_26.1 59 (by decide) j).trans ((F_22.1 59 (by decide) j).trans (sv_n _ (by omega)))))))), (by omega), (by omega), (by omega), (by omega), (by omega), (by omega), (by omega), (by omega), (by omega), (by omega), (by omega), (by omega), (by omega), (by omega)⟩
