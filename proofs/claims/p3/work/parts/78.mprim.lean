abbrev cX12_arguments : ByteArray := prog_14_method_70_code
def yX12_arguments : MethodName := ⟨RX12, "arguments", "(I)I"⟩
abbrev cX12_landsFrom : ByteArray := prog_14_method_71_code
def yX12_landsFrom : MethodName := ⟨RX12, "landsFrom", "(I)V"⟩
theorem dX12_arguments_0 : decode cX12_arguments 0 = .ok (.iconst 0, 1) := by decide +kernel
theorem dX12_arguments_1 : decode cX12_arguments 1 = .ok (.istore_n 2, 1) := by decide +kernel
theorem dX12_arguments_2 : decode cX12_arguments 2 = .ok (.aload_n 0, 1) := by decide +kernel
theorem dX12_arguments_3 : decode cX12_arguments 3 = .ok (.bipush 40, 2) := by decide +kernel
theorem dX12_arguments_5 : decode cX12_arguments 5 = .ok (.invokevirtual 378, 3) := by decide +kernel
theorem dX12_arguments_8 : decode cX12_arguments 8 = .ok (.aload_n 0, 1) := by decide +kernel
theorem dX12_arguments_9 : decode cX12_arguments 9 = .ok (.bipush 41, 2) := by decide +kernel
theorem dX12_arguments_11 : decode cX12_arguments 11 = .ok (.invokevirtual 292, 3) := by decide +kernel
theorem dX12_arguments_14 : decode cX12_arguments 14 = .ok (.ifCond .ne 83, 3) := by decide +kernel
theorem dX12_arguments_17 : decode cX12_arguments 17 = .ok (.iconst 1, 1) := by decide +kernel
theorem dX12_arguments_18 : decode cX12_arguments 18 = .ok (.istore_n 3, 1) := by decide +kernel
theorem dX12_arguments_19 : decode cX12_arguments 19 = .ok (.iload_n 3, 1) := by decide +kernel
theorem dX12_arguments_20 : decode cX12_arguments 20 = .ok (.ifCond .eq 77, 3) := by decide +kernel
theorem dX12_arguments_23 : decode cX12_arguments 23 = .ok (.aload_n 0, 1) := by decide +kernel
theorem dX12_arguments_24 : decode cX12_arguments 24 = .ok (.invokevirtual 215, 3) := by decide +kernel
theorem dX12_arguments_27 : decode cX12_arguments 27 = .ok (.ifCond .ne 70, 3) := by decide +kernel
theorem dX12_arguments_30 : decode cX12_arguments 30 = .ok (.iload_n 2, 1) := by decide +kernel
theorem dX12_arguments_31 : decode cX12_arguments 31 = .ok (.bipush 8, 2) := by decide +kernel
theorem dX12_arguments_33 : decode cX12_arguments 33 = .ok (.if_icmp .ne 11, 3) := by decide +kernel
theorem dX12_arguments_36 : decode cX12_arguments 36 = .ok (.aload_n 0, 1) := by decide +kernel
theorem dX12_arguments_37 : decode cX12_arguments 37 = .ok (.aload_n 0, 1) := by decide +kernel
theorem dX12_arguments_38 : decode cX12_arguments 38 = .ok (.getfield 222, 3) := by decide +kernel
theorem dX12_arguments_41 : decode cX12_arguments 41 = .ok (.invokevirtual 359, 3) := by decide +kernel
theorem dX12_arguments_44 : decode cX12_arguments 44 = .ok (.aload_n 0, 1) := by decide +kernel
theorem dX12_arguments_45 : decode cX12_arguments 45 = .ok (.invokevirtual 402, 3) := by decide +kernel
theorem dX12_arguments_48 : decode cX12_arguments 48 = .ok (.aload_n 0, 1) := by decide +kernel
theorem dX12_arguments_49 : decode cX12_arguments 49 = .ok (.iload_n 1, 1) := by decide +kernel
theorem dX12_arguments_50 : decode cX12_arguments 50 = .ok (.iload_n 2, 1) := by decide +kernel
theorem dX12_arguments_51 : decode cX12_arguments 51 = .ok (.iadd, 1) := by decide +kernel
theorem dX12_arguments_52 : decode cX12_arguments 52 = .ok (.invokevirtual 468, 3) := by decide +kernel
theorem dX12_arguments_55 : decode cX12_arguments 55 = .ok (.istore 4, 2) := by decide +kernel
theorem dX12_arguments_57 : decode cX12_arguments 57 = .ok (.iload 4, 2) := by decide +kernel
theorem dX12_arguments_59 : decode cX12_arguments 59 = .ok (.iconst (-1), 1) := by decide +kernel
theorem dX12_arguments_60 : decode cX12_arguments 60 = .ok (.if_icmp .eq 24, 3) := by decide +kernel
theorem dX12_arguments_63 : decode cX12_arguments 63 = .ok (.aload_n 0, 1) := by decide +kernel
theorem dX12_arguments_64 : decode cX12_arguments 64 = .ok (.getfield 54, 3) := by decide +kernel
theorem dX12_arguments_67 : decode cX12_arguments 67 = .ok (.aload_n 0, 1) := by decide +kernel
theorem dX12_arguments_68 : decode cX12_arguments 68 = .ok (.getfield 505, 3) := by decide +kernel
theorem dX12_arguments_71 : decode cX12_arguments 71 = .ok (.iload 4, 2) := by decide +kernel
theorem dX12_arguments_73 : decode cX12_arguments 73 = .ok (.iastore, 1) := by decide +kernel
theorem dX12_arguments_74 : decode cX12_arguments 74 = .ok (.aload_n 0, 1) := by decide +kernel
theorem dX12_arguments_75 : decode cX12_arguments 75 = .ok (.dup, 1) := by decide +kernel
theorem dX12_arguments_76 : decode cX12_arguments 76 = .ok (.getfield 505, 3) := by decide +kernel
theorem dX12_arguments_79 : decode cX12_arguments 79 = .ok (.iconst 1, 1) := by decide +kernel
theorem dX12_arguments_80 : decode cX12_arguments 80 = .ok (.iadd, 1) := by decide +kernel
theorem dX12_arguments_81 : decode cX12_arguments 81 = .ok (.putfield 505, 3) := by decide +kernel
theorem dX12_arguments_84 : decode cX12_arguments 84 = .ok (.iinc 2 1, 3) := by decide +kernel
theorem dX12_arguments_87 : decode cX12_arguments 87 = .ok (.aload_n 0, 1) := by decide +kernel
theorem dX12_arguments_88 : decode cX12_arguments 88 = .ok (.bipush 44, 2) := by decide +kernel
theorem dX12_arguments_90 : decode cX12_arguments 90 = .ok (.invokevirtual 301, 3) := by decide +kernel
theorem dX12_arguments_93 : decode cX12_arguments 93 = .ok (.istore_n 3, 1) := by decide +kernel
theorem dX12_arguments_94 : decode cX12_arguments 94 = .ok (.goto (-75), 3) := by decide +kernel
theorem dX12_arguments_97 : decode cX12_arguments 97 = .ok (.aload_n 0, 1) := by decide +kernel
theorem dX12_arguments_98 : decode cX12_arguments 98 = .ok (.bipush 41, 2) := by decide +kernel
theorem dX12_arguments_100 : decode cX12_arguments 100 = .ok (.invokevirtual 387, 3) := by decide +kernel
theorem dX12_arguments_103 : decode cX12_arguments 103 = .ok (.iload_n 2, 1) := by decide +kernel
theorem dX12_arguments_104 : decode cX12_arguments 104 = .ok (.ireturn, 1) := by decide +kernel
theorem dX12_landsFrom_0 : decode cX12_landsFrom 0 = .ok (.aload_n 0, 1) := by decide +kernel
theorem dX12_landsFrom_1 : decode cX12_landsFrom 1 = .ok (.getfield 505, 3) := by decide +kernel
theorem dX12_landsFrom_4 : decode cX12_landsFrom 4 = .ok (.iload_n 1, 1) := by decide +kernel
theorem dX12_landsFrom_5 : decode cX12_landsFrom 5 = .ok (.if_icmp .le 29, 3) := by decide +kernel
theorem dX12_landsFrom_8 : decode cX12_landsFrom 8 = .ok (.aload_n 0, 1) := by decide +kernel
theorem dX12_landsFrom_9 : decode cX12_landsFrom 9 = .ok (.dup, 1) := by decide +kernel
theorem dX12_landsFrom_10 : decode cX12_landsFrom 10 = .ok (.getfield 505, 3) := by decide +kernel
theorem dX12_landsFrom_13 : decode cX12_landsFrom 13 = .ok (.iconst 1, 1) := by decide +kernel
theorem dX12_landsFrom_14 : decode cX12_landsFrom 14 = .ok (.isub, 1) := by decide +kernel
theorem dX12_landsFrom_15 : decode cX12_landsFrom 15 = .ok (.putfield 505, 3) := by decide +kernel
theorem dX12_landsFrom_18 : decode cX12_landsFrom 18 = .ok (.aload_n 0, 1) := by decide +kernel
theorem dX12_landsFrom_19 : decode cX12_landsFrom 19 = .ok (.aload_n 0, 1) := by decide +kernel
theorem dX12_landsFrom_20 : decode cX12_landsFrom 20 = .ok (.getfield 54, 3) := by decide +kernel
theorem dX12_landsFrom_23 : decode cX12_landsFrom 23 = .ok (.aload_n 0, 1) := by decide +kernel
theorem dX12_landsFrom_24 : decode cX12_landsFrom 24 = .ok (.getfield 505, 3) := by decide +kernel
theorem dX12_landsFrom_27 : decode cX12_landsFrom 27 = .ok (.iaload, 1) := by decide +kernel
theorem dX12_landsFrom_28 : decode cX12_landsFrom 28 = .ok (.invokevirtual 421, 3) := by decide +kernel
theorem dX12_landsFrom_31 : decode cX12_landsFrom 31 = .ok (.goto (-31), 3) := by decide +kernel
theorem dX12_landsFrom_34 : decode cX12_landsFrom 34 = .ok (.return_, 1) := by decide +kernel
/-- what waits: numbers f to n of the list -/
def wls (μ : M3) (f n : Int) : List Int := (List.range (n - f).toNat).map (fun k : Nat => μ.1 126 (f + (k : Int)))
theorem mem_wls {μ : M3} {f n i : Int} : i ∈ wls μ f n ↔ ∃ k, (f ≤ k ∧ k < n) ∧ i = μ.1 126 k := by
  unfold wls
  rw [List.mem_map]
  constructor
  · intro h
    obtain ⟨a, ha, hi⟩ := h
    have := List.mem_range.1 ha
    exact ⟨f + (a : Int), ⟨by omega, by omega⟩, hi.symm⟩
  · intro h
    obtain ⟨k, hk, hi⟩ := h
    exact ⟨(k - f).toNat, List.mem_range.2 (by omega), by rw [show f + ((k - f).toNat : Int) = k by omega]; exact hi.symm⟩
theorem mAIM.mem {μ ν : M3} {T : Int} {L K : List Int} (h : mAIM μ ν L T) (e : ∀ i, i ∈ K ↔ i ∈ L) : mAIM μ ν K T := ⟨h.1, h.2.1, fun i hi => h.2.2.1 i ((e i).1 hi), fun i k hk hi hn => h.2.2.2 i k hk hi (fun q z => hn q ((e i).2 z))⟩
theorem mPX.mem {μ ν : M3} {t e w H : Int} {L K : List Int} (h : mPX μ ν t e w H L) (q : ∀ i, i ∈ K ↔ i ∈ L) : mPX μ ν t e w H K := by
  obtain ⟨h1, h2, h3, h4⟩ := h
  refine ⟨h1, h2.mn (Int.le_refl _) (Int.le_refl _) (fun i _ _ z => (q i).2 z), fun z => ?_, fun i hi => h4 i ((q i).1 hi)⟩
  cases K with
  | nil => exact absurd rfl z
  | cons a K => exact h3 (fun y => by have := (q a).1 (List.mem_cons_self ..); rw [y] at this; cases this)
theorem mAIM.w0 {μ : M3} {n T : Int} : mAIM μ μ (wls μ n n) T := (mAIM.nil q0m.rf).mem (fun i => by
  rw [mem_wls]
  constructor
  · intro h
    obtain ⟨k, hk, _⟩ := h
    omega
  · intro h
    cases h)
theorem mAIM.wst {μo μ ν π : M3} {T n m N q : Int} (h : mAIM μo μ (wls μo n N) T) (g : q0m μ ν) (l : mMF ν π q (ν.1 111 22)) (hT : ν.1 111 22 = T) (hq : q = μo.1 126 (n - 1)) (hm : m = n - 1) (hn : n ≤ N) : mAIM μo π (wls μo m N) T := by
  rw [hT] at l
  rw [← hm] at hq
  refine ((h.qm g).tr (mAIM.one l)).mem (fun i => ?_)
  rw [List.mem_append, mem_wls, mem_wls, List.mem_singleton]
  constructor
  · intro z
    obtain ⟨k, hk, hi⟩ := z
    by_cases e : k = m
    · exact Or.inr (by rw [hi, e, hq])
    · exact Or.inl ⟨k, by omega, hi⟩
  · intro z
    rcases z with ⟨k, hk, hi⟩ | z
    · exact ⟨k, by omega, hi⟩
    · exact ⟨m, by omega, by rw [z, hq]⟩
theorem wls_new {μ ν : M3} {f n m r i : Int} (hf : f ≤ n) (k : ∀ j, f ≤ j → j < n → ν.1 126 j = μ.1 126 j) (hr : r ≠ -1) (hv : ν.1 126 n = r) (hm : m = n + 1) : i ∈ wls ν f m ↔ i ∈ lsk r ++ (wls μ f n ++ []) := by
  rw [List.append_nil, List.mem_append, mem_wls, mem_wls, mem_lsk, hm]
  constructor
  · intro z
    obtain ⟨j, hj, hi⟩ := z
    by_cases e : j = n
    · exact Or.inl ⟨hr, by rw [hi, e, hv]⟩
    · exact Or.inr ⟨j, by omega, by rw [hi, k j hj.1 (by omega)]⟩
  · intro z
    rcases z with ⟨_, z⟩ | ⟨j, hj, hi⟩
    · exact ⟨n, by omega, by rw [z, hv]⟩
    · exact ⟨j, by omega, by rw [hi, k j hj.1 hj.2]⟩
theorem wls_old {μ ν : M3} {f n m r i : Int} (k : ∀ j, f ≤ j → j < n → ν.1 126 j = μ.1 126 j) (hr : r = -1) (hm : m = n) : i ∈ wls ν f m ↔ i ∈ lsk r ++ (wls μ f n ++ []) := by
  rw [List.append_nil, List.mem_append, mem_wls, mem_wls, mem_lsk, hm]
  constructor
  · intro z
    obtain ⟨j, hj, hi⟩ := z
    exact Or.inr ⟨j, hj, by rw [hi, k j hj.1 hj.2]⟩
  · intro z
    rcases z with ⟨z, _⟩ | ⟨j, hj, hi⟩
    · exact absurd hr z
    · exact ⟨j, hj, by rw [hi, k j hj.1 hj.2]⟩
theorem wls_cg {μ ν : M3} {f n m i : Int} (k : ∀ j, f ≤ j → j < n → ν.1 126 j = μ.1 126 j) (hm : m = n) : i ∈ wls ν f m ↔ i ∈ wls μ f n ++ [] := by
  rw [List.append_nil, mem_wls, mem_wls, hm]
  constructor
  · intro z
    obtain ⟨j, hj, hi⟩ := z
    exact ⟨j, hj, by rw [hi, k j hj.1 hj.2]⟩
  · intro z
    obtain ⟨j, hj, hi⟩ := z
    exact ⟨j, hj, by rw [hi, k j hj.1 hj.2]⟩
set_option maxHeartbeats 4000000 in
set_option maxRecDepth 100000 in
theorem c_X12_landsFrom (ω : Om) (l : Launch) (μ : M3) (x1 : Int) (hx1 : ir x1) (hcd : 0 ≤ μ.1 111 22 ∧ μ.1 111 22 ≤ 8995) (hW : 0 ≤ x1 ∧ x1 ≤ μ.1 111 39 ∧ μ.1 111 39 ≤ μ.1 111 22) (hwk : ∀ j, x1 ≤ j → j < μ.1 111 39 → 0 ≤ μ.1 126 j ∧ μ.1 126 j < μ.1 111 22) : CtV ω l yX12_landsFrom cX12_landsFrom 2 1 21 [.ref (oP ω 111), .int (iv x1)] μ (fun (μ' : M3) => (FrM [111, 116] μ μ') ∧ (∀ j, j ∉ ([39] : List Int) → μ'.1 111 j = μ.1 111 j) ∧ (mAIM μ μ' (wls μ x1 (μ.1 111 39)) (μ.1 111 22)) ∧ (μ'.1 111 39 = x1)) := by
  refine CtV.go (by decide) (Nat.le_of_ble_eq_true rfl) (fun ρ p e s m below meth c R ls G hR hret hlk hl => ?_)
  have hx := G.1.1
  have hb := G.1.2.1
  have hl : lv_has ls 2 [(0, .ref (oP ω 111)), (1, .int (iv x1))] := hl
  generalize s.drawn = d0 at G ⊢
  have hr_x1 : -2147483648 ≤ x1 ∧ x1 ≤ 2147483647 := hx1
  refine xl (fun n_9 μ' ls => (FrM [111, 116] μ μ') ∧ (∀ j, j ∉ ([39] : List Int) → μ'.1 111 j = μ.1 111 j) ∧ (x1 ≤ μ'.1 111 39 ∧ μ'.1 111 39 ≤ μ.1 111 39) ∧ (mAIM μ μ' (wls μ (μ'.1 111 39) (μ.1 111 39)) (μ.1 111 22)) ∧ n_9 = Int.toNat (μ'.1 111 39) ∧ lv_has ls 2 [(0, .ref (oP ω 111)), (1, .int (iv x1))]) (fun n_9 ρ μL1 d0 H locs ls hI_l G ih => ?_) _ _ _ _ _ _ _ ⟨FrM.rf, (fun j hj => rfl), (by omega), mAIM.w0, rfl, lv_sub hl [0, 1] rfl⟩ G
  obtain ⟨FL2, hi_4, hi_5, hi_6, hn3, hl⟩ := hI_l
  refine lv_aload_n hx hb dX12_landsFrom_0 rfl (lv_at hl 0 rfl) ?_
  refine xa_geti G fd_X12 (a := 111) (x := μL1.1 111 39) 39 rfl (by decide) rfl (wm 7 188 rfl rfl) ⟨rfl, rfl, rfl⟩ dX12_landsFrom_1 rfl rfl ?_
  have hr_7 : -2147483648 ≤ μL1.1 111 39 ∧ μL1.1 111 39 ≤ 2147483647 := by have h9 := G.hr (a := 111) (k := 39) rfl; exact h9
  refine lv_iload_n hx hb dX12_landsFrom_4 rfl (lv_at hl 1 rfl) ?_
  refine xb_icmp_le (tgt := 34) hx hb (by unfold ir; omega) (by unfold ir; omega) dX12_landsFrom_5 (by decide) (fun c_5 => ?_) (fun c_5 => ?_)
  · exact xr_v G hret hlk dX12_landsFrom_34 ⟨(FrM.tr FrM.rf FL2 (by decide)), (fun j hj => (hi_4 j (fun h9 => hj ((by decide : ∀ x ∈ ([39] : List Int), x ∈ ([39] : List Int)) j h9)))), (by have h9 := hi_6; rw [show μL1.1 111 39 = x1 by omega] at h9; exact h9), (by omega)⟩
  · refine lv_aload_n hx hb dX12_landsFrom_8 rfl (lv_at hl 0 rfl) ?_
    refine lv_dup hx hb dX12_landsFrom_9 rfl ?_
    refine xa_geti G fd_X12 (a := 111) (x := μL1.1 111 39) 39 rfl (by decide) rfl (wm 7 188 rfl rfl) ⟨rfl, rfl, rfl⟩ dX12_landsFrom_10 rfl rfl ?_
    refine lv_iconst (v := iv 1) hx hb dX12_landsFrom_13 rfl ?_
    refine xb_isub hx hb dX12_landsFrom_14 ?_
    refine xa_puti G fd_X12 (a := 111) (x := (μL1.1 111 39) - 1) 39 (kz := 39) rfl rfl (by decide) rfl (by unfold ir; omega) (wm 7 188 rfl rfl) ⟨rfl, rfl, rfl, rfl⟩ rfl dX12_landsFrom_15 rfl (fun H locs G => ?_)
    refine lv_aload_n hx hb dX12_landsFrom_18 rfl (lv_at hl 0 rfl) ?_
    refine lv_aload_n hx hb dX12_landsFrom_19 rfl (lv_at hl 0 rfl) ?_
    refine xa_getr G fd_X12 (a := 111) (x := 126) 38 rfl (by decide) rfl (wm 7 187 rfl rfl) ⟨rfl, rfl, rfl⟩ dX12_landsFrom_20 rfl (G.sk 124 rfl) (by decide) rfl ?_
    refine lv_aload_n hx hb dX12_landsFrom_23 rfl (lv_at hl 0 rfl) ?_
    refine xa_geti G fd_X12 (a := 111) (x := (μL1.1 111 39) - 1) 39 rfl (by decide) rfl (wm 7 188 rfl rfl) ⟨rfl, rfl, rfl⟩ dX12_landsFrom_24 rfl (sv_s _ _ _ _) ?_
    have hr_8 : -2147483648 ≤ (μL1.1 111 39) - 1 ∧ (μL1.1 111 39) - 1 ≤ 2147483647 := by have h9 := G.hr (a := 111) (k := 39) rfl; rw [show (sv μL1 111 39 ((μL1.1 111 39) - 1)).1 111 39 = (μL1.1 111 39) - 1 from (sv_s _ _ _ _)] at h9; exact h9
    have e_9 : (sv μL1 111 39 ((μL1.1 111 39) - 1)).1 111 39 = (μL1.1 111 39) - 1 := (sv_s _ _ _ _)
    refine xa_iald G (a := 126) (i := (μL1.1 111 39) - 1) rfl (by have h9 := G.lc (a := 126) (n := 12000) 64 rfl; omega) dX12_landsFrom_27 rfl ?_
    refine xb_ti (y := μ.1 126 (μL1.1 111 39 - 1)) ((sv_n _ (fun h9 => absurd h9.1 (by decide))).trans (FL2.1 126 (by decide) (μL1.1 111 39 - 1))) ?_
    have hr_10 : -2147483648 ≤ μ.1 126 (μL1.1 111 39 - 1) ∧ μ.1 126 (μL1.1 111 39 - 1) ≤ 2147483647 := by have h9 := G.hr (a := 126) (k := (μL1.1 111 39) - 1) rfl; rw [((sv_n _ (fun h9 => absurd h9.1 (by decide))).trans (FL2.1 126 (by decide) (μL1.1 111 39 - 1)))] at h9; exact h9
    have e_11 : (sv μL1 111 39 ((μL1.1 111 39) - 1)).1 111 22 = μ.1 111 22 := ((sv_n _ (by decide)).trans (hi_4 22 (by decide)))
    have e_12 : (sv μL1 111 39 ((μL1.1 111 39) - 1)).1 111 39 = (μL1.1 111 39) - 1 := (sv_s _ _ _ _)
    have e_13 : (sv μL1 111 39 ((μL1.1 111 39) - 1)).1 111 29 = μ.1 111 29 := ((sv_n _ (by decide)).trans (hi_4 29 (by decide)))
    have hwk_ := hwk _ (by omega : x1 ≤ (μL1.1 111 39) - 1) (by omega)
    have e_14 : (sv μL1 111 39 ((μL1.1 111 39) - 1)).1 111 22 = μ.1 111 22 := ((sv_n _ (by decide)).trans (hi_4 22 (by decide)))
    have e_15 : (sv μL1 111 39 ((μL1.1 111 39) - 1)).1 111 22 = μ.1 111 22 := ((sv_n _ (by decide)).trans (hi_4 22 (by decide)))
    have e_16 : (sv μL1 111 39 ((μL1.1 111 39) - 1)).1 126 (μL1.1 111 39 - 1) = μ.1 126 (μL1.1 111 39 - 1) := ((sv_n _ (fun h9 => absurd h9.1 (by decide))).trans (FL2.1 126 (by decide) (μL1.1 111 39 - 1)))
    have e_17 : (sv μL1 111 39 ((μL1.1 111 39) - 1)).1 126 (μL1.1 111 39 - 1) = μ.1 126 (μL1.1 111 39 - 1) := ((sv_n _ (fun h9 => absurd h9.1 (by decide))).trans (FL2.1 126 (by decide) (μL1.1 111 39 - 1)))
    have e_18 : (sv μL1 111 39 ((μL1.1 111 39) - 1)).1 111 22 = μ.1 111 22 := ((sv_n _ (by decide)).trans (hi_4 22 (by decide)))
    have e_19 : (sv μL1 111 39 ((μL1.1 111 39) - 1)).1 126 (μL1.1 111 39 - 1) = μ.1 126 (μL1.1 111 39 - 1) := ((sv_n _ (fun h9 => absurd h9.1 (by decide))).trans (FL2.1 126 (by decide) (μL1.1 111 39 - 1)))
    have e_20 : (sv μL1 111 39 ((μL1.1 111 39) - 1)).1 111 22 = μ.1 111 22 := ((sv_n _ (by decide)).trans (hi_4 22 (by decide)))
    refine xc_vV G (b := 111) (rest := []) (As := [.int (iv (μ.1 126 (μL1.1 111 39 - 1)))]) (c_X12_lands ω l (sv μL1 111 39 ((μL1.1 111 39) - 1)) (μ.1 126 (μL1.1 111 39 - 1)) (by unfold ir; omega) (by omega) (by omega)) (wm 9 167 rfl rfl) (wm 9 169 rfl rfl) (wm 0 154 rfl rfl) rfl rfl (by decide) rfl (wm 1 18 rfl rfl) (wm 9 170 rfl rfl) (by decide) hR (by decide) (n := 1) rfl rfl (Nat.le_of_ble_eq_true rfl) hl.1 dX12_landsFrom_28 (fun μ21 ρ d0 H locs hp G => ?_)
    obtain ⟨F_22, hp_23⟩ := hp
    have e_24 : μ21.1 111 22 = μ.1 111 22 := ((F_22.1 111 (by decide) 22).trans ((sv_n _ (by decide)).trans (hi_4 22 (by decide))))
    have e_25 : μ21.1 111 39 = (μL1.1 111 39) - 1 := ((F_22.1 111 (by decide) 39).trans (sv_s _ _ _ _))
    have e_26 : μ21.1 111 29 = μ.1 111 29 := ((F_22.1 111 (by decide) 29).trans ((sv_n _ (by decide)).trans (hi_4 29 (by decide))))
    refine lv_goto (tgt := 0) hx hb dX12_landsFrom_31 (by decide) ?_
    have e_27 : μ21.1 111 39 = (μL1.1 111 39) - 1 := ((F_22.1 111 (by decide) 39).trans (sv_s _ _ _ _))
    have e_28 : μ21.1 111 39 = (μL1.1 111 39) - 1 := ((F_22.1 111 (by decide) 39).trans (sv_s _ _ _ _))
    exact ih _ _ _ _ _ _ _ (by omega) ⟨(FrM.tr (FrM.put FL2 (by decide)) F_22 (by decide)), (fun j hj => ((F_22.1 111 (by decide) j).trans ((sv_n _ (fun h9 => hj (by rw [h9.2]; decide))).trans (hi_4 j (fun h9 => hj ((by decide : ∀ x ∈ ([39] : List Int), x ∈ ([39] : List Int)) j h9)))))), (by omega), (mAIM.wst hi_6 (q0m.fr (K := [111]) (FrM.put FrM.rf (by decide)) (by decide) (by decide) (by decide) ((((sv_n _ (by decide)).trans (hi_4 22 (by decide)))).trans ((hi_4 22 (by decide))).symm) (nS.le (Int.le_of_eq (((((sv_n _ (by decide)).trans (hi_4 29 (by decide)))).trans ((hi_4 29 (by decide))).symm)).symm) (Int.le_of_eq (((((sv_n _ (by decide)).trans (hi_4 31 (by decide)))).trans ((hi_4 31 (by decide))).symm)).symm))) hp_23 ((sv_n _ (by decide)).trans (hi_4 22 (by decide))) rfl (by omega) (by omega)), rfl, lv_sub hl [0, 1] rfl⟩ G

set_option maxHeartbeats 4000000 in
set_option maxRecDepth 100000 in
theorem c_X12_arguments (ω : Om) (l : Launch) (μ : M3) (x1 : Int) (F : Nat) (Lo : Nat) (Fu : Nat) (Lu : Nat) (kf : Int) (μo : M3) (HH : Int) (ff : Int) (cc : Int) (tt : Int) (hx1 : ir x1) (htt : tt = μ.1 111 14) (hF : 60 ≤ F) (hLo : 2000 ≤ Lo) (hFu : Fu ≤ F) (hLu : Lu ≤ Lo) (hE : ∀ (μ : M3) (tt : Int) (htt : tt = μ.1 111 14) (hPM : PM μ) (hnn : 0 ≤ nn μ ∧ nn μ ≤ 9 ∧ 9 * wr μ ≤ nn μ) (hn8 : nn μ ≤ 8 + wr μ) (hcd : 0 ≤ μ.1 111 22 ∧ μ.1 111 22 ≤ 2 * μ.1 111 9 + 200 + 40 * wr μ) (hW : 0 ≤ μ.1 111 39 ∧ μ.1 111 39 ≤ μ.1 111 22) (hsl : 0 ≤ μ.1 111 31 ∧ μ.1 111 31 ≤ 300) (hfu : 0 ≤ (kf - 1) ∧ 9 ≤ nn μ + (kf - 1)) (hH0 : ∀ _ : Unit, bd μ = 0 → mH0 μ), CtV ω l yX12_expr cX12_expr 1 (F + 0) (Lo + 0) [.ref (oP ω 111)] μ (fun (μ' : M3) => (FrM [111, 113, 115, 116, 117, 123, 126] μ μ') ∧ (∀ j, j ∉ ([6, 8, 9, 10, 11, 12, 13, 15, 16, 17, 18, 22, 29, 39] : List Int) → μ'.1 111 j = μ.1 111 j) ∧ (PM μ') ∧ (μ.1 111 22 ≤ μ'.1 111 22 ∧ μ'.1 111 22 ≤ μ.1 111 22 + 2 * (μ'.1 111 9 - μ.1 111 9) + (- 1 + 3 * wr μ' - 2 * wr μ)) ∧ (μ.1 111 9 ≤ μ'.1 111 9) ∧ (μ.1 111 29 ≤ μ'.1 111 29) ∧ (wr μ ≤ wr μ' ∧ bd μ ≤ bd μ') ∧ (nn μ ≤ nn μ' ∧ nn μ' ≤ nn μ + 9 * wr μ' ∧ nn μ' ≤ 9 ∧ 9 * wr μ' ≤ nn μ') ∧ (μ'.1 111 39 = μ.1 111 39) ∧ (∀ j, j < μ.1 111 39 → μ'.1 126 j = μ.1 126 j) ∧ (∀ _ : Unit, bd μ' = 0 → mEX μ μ' tt 1 0 (11 * (9 - nn μ))) ∧ (mEXT μ μ'))) (hU : ∀ (μ : M3) (tt : Int) (htt : tt = μ.1 111 14) (hPM : PM μ) (hnn : 0 ≤ nn μ ∧ nn μ ≤ 9 ∧ 9 * wr μ ≤ nn μ) (hn8 : nn μ ≤ 8 + wr μ) (hcd : 0 ≤ μ.1 111 22 ∧ μ.1 111 22 ≤ 2 * μ.1 111 9 + 200 + 40 * wr μ) (hW : 0 ≤ μ.1 111 39 ∧ μ.1 111 39 ≤ μ.1 111 22) (hsl : 0 ≤ μ.1 111 31 ∧ μ.1 111 31 ≤ 300) (hfu : 0 ≤ (kf - 1) ∧ 9 ≤ nn μ + (kf - 1)) (hH0 : ∀ _ : Unit, bd μ = 0 → mH0 μ), CtV ω l yX12_unary cX12_unary 6 (Fu + 0) (Lu + 0) [.ref (oP ω 111)] μ (fun (μ' : M3) => (FrM [111, 113, 115, 116, 117, 123, 126] μ μ') ∧ (∀ j, j ∉ ([6, 8, 9, 10, 11, 12, 13, 15, 16, 17, 18, 22, 29, 39] : List Int) → μ'.1 111 j = μ.1 111 j) ∧ (PM μ') ∧ (μ.1 111 22 ≤ μ'.1 111 22 ∧ μ'.1 111 22 ≤ μ.1 111 22 + 2 * (μ'.1 111 9 - μ.1 111 9) + (- 1 + 3 * wr μ' - 2 * wr μ)) ∧ (μ.1 111 9 ≤ μ'.1 111 9) ∧ (μ.1 111 29 ≤ μ'.1 111 29) ∧ (wr μ ≤ wr μ' ∧ bd μ ≤ bd μ') ∧ (nn μ ≤ nn μ' ∧ nn μ' ≤ nn μ + 9 * wr μ' ∧ nn μ' ≤ 9 ∧ 9 * wr μ' ≤ nn μ') ∧ (μ'.1 111 39 = μ.1 111 39) ∧ (∀ j, j < μ.1 111 39 → μ'.1 126 j = μ.1 126 j) ∧ (∀ _ : Unit, bd μ' = 0 → mEX μ μ' tt 1 0 (11 * (9 - nn μ) - 3)) ∧ (mEXT μ μ'))) (hPM : PM μ) (hnn : 0 ≤ nn μ ∧ nn μ ≤ 9 ∧ 9 * wr μ ≤ nn μ) (hn8 : nn μ ≤ 8 + wr μ) (hcd : 0 ≤ μ.1 111 22 ∧ μ.1 111 22 ≤ 2 * μ.1 111 9 + 200 + 40 * wr μ) (hW : 0 ≤ μ.1 111 39 ∧ μ.1 111 39 ≤ μ.1 111 22) (hsl : 0 ≤ μ.1 111 31 ∧ μ.1 111 31 ≤ 300) (hfu : 0 ≤ kf ∧ 9 ≤ nn μ + kf) (hu : x1 = 0 ∨ x1 = 1) (hff : 0 ≤ ff ∧ ff ≤ μ.1 111 39) (hcc : 0 ≤ cc ∧ cc ≤ μ.1 111 22) (hwk : ∀ j, ff ≤ j → j < μ.1 111 39 → cc ≤ μ.1 126 j ∧ μ.1 126 j < μ.1 111 22) (hX : ∀ _ : Unit, bd μ = 0 → mPX μo μ tt x1 1 HH (wls μ ff (μ.1 111 39))) (hHH : 11 * (9 - nn μ) - 3 ≤ HH) : CtI ω l yX12_arguments cX12_arguments 5 .int (F + 1) (Lo + 20) [.ref (oP ω 111), .int (iv x1)] μ (fun (r : Int) (μ' : M3) => (FrM [111, 113, 115, 116, 117, 123, 126] μ μ') ∧ (∀ j, j ∉ ([6, 8, 9, 10, 11, 12, 13, 15, 16, 17, 18, 22, 29, 39] : List Int) → μ'.1 111 j = μ.1 111 j) ∧ (PM μ') ∧ (μ.1 111 22 ≤ μ'.1 111 22 ∧ μ'.1 111 22 ≤ μ.1 111 22 + 2 * (μ'.1 111 9 - μ.1 111 9) + (- 2 + 3 * wr μ')) ∧ (μ.1 111 9 ≤ μ'.1 111 9) ∧ (μ.1 111 29 ≤ μ'.1 111 29) ∧ (wr μ ≤ wr μ' ∧ bd μ ≤ bd μ') ∧ (nn μ ≤ nn μ' ∧ nn μ' ≤ nn μ + 9 * wr μ' ∧ nn μ' ≤ 9 ∧ 9 * wr μ' ≤ nn μ') ∧ (μ.1 111 39 ≤ μ'.1 111 39 ∧ μ'.1 111 39 ≤ μ'.1 111 22) ∧ (∀ j, j < μ.1 111 39 → μ'.1 126 j = μ.1 126 j) ∧ ((0 ≤ r ∧ r ≤ 3001) ∧ r ≤ 8 + 3000 * bd μ') ∧ (∀ j, ff ≤ j → j < μ'.1 111 39 → cc ≤ μ'.1 126 j ∧ μ'.1 126 j < μ'.1 111 22) ∧ (∀ _ : Unit, bd μ' = 0 → mPX μo μ' tt (x1 + r) 1 HH (wls μ' ff (μ'.1 111 39))) ∧ (mEXT μ μ')) := by
  refine CtI.go (by decide) (Nat.le_of_ble_eq_true rfl) (fun ρ p e s m below meth c R ls G hR hret hlk hl => ?_)
  have hx := G.1.1
  have hb := G.1.2.1
  have hl : lv_has ls 5 [(0, .ref (oP ω 111)), (1, .int (iv x1))] := hl
  generalize s.drawn = d0 at G ⊢
  have hr_x1 : -2147483648 ≤ x1 ∧ x1 ≤ 2147483647 := hx1
  have hw_0 := wr_r (μ := μ)
  have hpp_ := hPM.1.2.1
  have hpn_ := hPM.2.1
  have hpt_ := hPM.1.2.2.2.1
  have hpw_ := hPM.1.2.2.2.2.1
  have hpa_ := hPM.1.1
  have hX_1 : ∀ _ : Unit, bd μ = 0 → mPX μo μ tt x1 1 HH (wls μ ff (μ.1 111 39) ++ []) := fun _ h0 => (by rw [List.append_nil]; exact hX () h0)
  refine lv_iconst (v := iv 0) hx hb dX12_arguments_0 rfl ?_
  refine lv_istore_n (lv' := [(2, .int (iv 0)), (0, .ref (oP ω 111)), (1, .int (iv x1))]) hx hb dX12_arguments_1 rfl hl (by decide) rfl (fun ls hl => ?_)
  refine lv_aload_n hx hb dX12_arguments_2 rfl (lv_at hl 1 rfl) ?_
  refine lv_bipush (v := iv 40) hx hb dX12_arguments_3 rfl ?_
  refine xc_vV G (b := 111) (rest := []) (As := [.int (iv 40)]) (c_X12_opensWith ω l μ 40 (by unfold ir; omega) hPM (by omega) (by omega)) (wm 9 86 rfl rfl) (wm 9 88 rfl rfl) (wm 0 134 rfl rfl) rfl rfl (by decide) rfl (wm 1 18 rfl rfl) (wm 9 89 rfl rfl) (by decide) hR ⟨nfr hF (by decide), nlo hLo (by decide)⟩ (n := 1) rfl rfl (Nat.le_of_ble_eq_true rfl) hl.1 dX12_arguments_5 (fun μ2 ρ d0 H locs hp G => ?_)
  obtain ⟨F_3, hp_4, hp_5, hp_6, hp_7, hp_8, hp_9⟩ := hp
  have hpl_10 := hp_5.pl
  have hw_11 := wr_r (μ := μ2)
  have e_12 : μ2.1 111 31 = μ.1 111 31 := (hp_4 31 (by decide))
  refine lv_aload_n hx hb dX12_arguments_8 rfl (lv_at hl 1 rfl) ?_
  refine lv_bipush (v := iv 41) hx hb dX12_arguments_9 rfl ?_
  have e_13 : μ2.1 111 29 = μ.1 111 29 := (hp_4 29 (by decide))
  have e_15 : μ2.1 111 29 = μ.1 111 29 := (hp_4 29 (by decide))
  have hX_14 : ∀ _ : Unit, bd μ2 = 0 → mPX μo μ2 tt x1 1 HH (wls μ ff (μ.1 111 39) ++ []) := fun _ h0 => (hX_1 () (by have e9 : bd μ = bd μ := rfl; have e8 : bd μ2 = bd μ2 := rfl; omega)).qm (q0m.fr (K := [111]) (FrM.tr FrM.rf F_3 (by decide)) (by decide) (by decide) (by decide) (hp_4 22 (by decide)) (nS.le (by omega) (Int.le_of_eq ((hp_4 31 (by decide))).symm)))
  refine xc_iV G (b := 111) (rest := []) (As := [.int (iv 41)]) (c_X12_isSign ω l μ2 41 (by unfold ir; omega)) (wm 9 90 rfl rfl) (wm 9 92 rfl rfl) (wm 0 135 rfl rfl) rfl rfl (by decide) rfl (wm 1 18 rfl rfl) (wm 9 93 rfl rfl) (by decide) hR ⟨nfr hF (by decide), nlo hLo (by decide)⟩ (n := 1) rfl rfl (Nat.le_of_ble_eq_true rfl) hl.1 dX12_arguments_11 (fun r_17 μ16 ρ d0 H locs hr_r_17 hp G => ?_)
  have hr_r_17 : -2147483648 ≤ r_17 ∧ r_17 ≤ 2147483647 := hr_r_17
  obtain ⟨hsm_18, hp_19⟩ := hp
  have hsm_18 := Eq.symm hsm_18
  subst hsm_18
  have e_20 : μ2.1 111 31 = μ.1 111 31 := (hp_4 31 (by decide))
  refine xb_if_ne (tgt := 97) hx hb (by unfold ir; omega) dX12_arguments_14 (by decide) (fun c_14 => ?_) (fun c_14 => ?_)
  · refine lv_aload_n hx hb dX12_arguments_97 rfl (lv_at hl 1 rfl) ?_
    refine lv_bipush (v := iv 41) hx hb dX12_arguments_98 rfl ?_
    refine xc_vV G (b := 111) (rest := []) (As := [.int (iv 41)]) (c_X12_closesWith ω l μ2 41 (by unfold ir; omega) hp_5 (by omega) (by omega)) (wm 9 110 rfl rfl) (wm 9 112 rfl rfl) (wm 0 140 rfl rfl) rfl rfl (by decide) rfl (wm 1 18 rfl rfl) (wm 9 113 rfl rfl) (by decide) hR ⟨nfr hF (by decide), nlo hLo (by decide)⟩ (n := 1) rfl rfl (Nat.le_of_ble_eq_true rfl) hl.1 dX12_arguments_100 (fun μ21 ρ d0 H locs hp G => ?_)
    obtain ⟨F_22, hp_23, hp_24, hp_25, hp_26, hp_27, hp_28⟩ := hp
    have hpl_29 := hp_24.pl
    have hw_30 := wr_r (μ := μ21)
    have e_31 : μ21.1 111 31 = μ.1 111 31 := ((hp_23 31 (by decide)).trans (hp_4 31 (by decide)))
    refine lv_iload_n hx hb dX12_arguments_103 rfl (lv_at hl 0 rfl) ?_
    have e_32 : μ21.1 111 22 = μ.1 111 22 := ((hp_23 22 (by decide)).trans (hp_4 22 (by decide)))
    have e_33 : μ21.1 111 29 = μ.1 111 29 := ((hp_23 29 (by decide)).trans (hp_4 29 (by decide)))
    have e_34 : μ21.1 111 39 = μ.1 111 39 := ((hp_23 39 (by decide)).trans (hp_4 39 (by decide)))
    have e_35 : μ21.1 111 39 = μ.1 111 39 := ((hp_23 39 (by decide)).trans (hp_4 39 (by decide)))
    have e_36 : μ21.1 111 22 = μ.1 111 22 := ((hp_23 22 (by decide)).trans (hp_4 22 (by decide)))
    have e_37 : μ21.1 111 39 = μ.1 111 39 := ((hp_23 39 (by decide)).trans (hp_4 39 (by decide)))
    have e_38 : μ21.1 111 22 = μ.1 111 22 := ((hp_23 22 (by decide)).trans (hp_4 22 (by decide)))
    have e_39 : μ21.1 111 29 = μ.1 111 29 := ((hp_23 29 (by decide)).trans (hp_4 29 (by decide)))
    have e_41 : μ21.1 111 29 = μ.1 111 29 := ((hp_23 29 (by decide)).trans (hp_4 29 (by decide)))
    have hX_40 : ∀ _ : Unit, bd μ21 = 0 → mPX μo μ21 tt x1 1 HH (wls μ ff (μ.1 111 39) ++ []) := fun _ h0 => (hX_14 () (by have e9 : bd μ2 = bd μ2 := rfl; have e8 : bd μ21 = bd μ21 := rfl; omega)).qm (q0m.fr (K := [111]) (FrM.tr FrM.rf F_22 (by decide)) (by decide) (by decide) (by decide) ((((hp_23 22 (by decide)).trans (hp_4 22 (by decide)))).trans ((hp_4 22 (by decide))).symm) (nS.le (by omega) (Int.le_of_eq (((((hp_23 31 (by decide)).trans (hp_4 31 (by decide)))).trans ((hp_4 31 (by decide))).symm)).symm)))
    have e_42 : μ21.1 111 29 = μ.1 111 29 := ((hp_23 29 (by decide)).trans (hp_4 29 (by decide)))
    have hxt_43 : mEXT μ μ21 := (q0m.fr (K := [111]) (FrM.tr (FrM.tr FrM.rf F_3 (by decide)) F_22 (by decide)) (by decide) (by decide) (by decide) ((hp_23 22 (by decide)).trans (hp_4 22 (by decide))) (nS.le (by omega) (Int.le_of_eq (((hp_23 31 (by decide)).trans (hp_4 31 (by decide)))).symm))).1
    have e_44 : μ21.1 111 22 = μ.1 111 22 := ((hp_23 22 (by decide)).trans (hp_4 22 (by decide)))
    have e_45 : μ21.1 111 22 = μ.1 111 22 := ((hp_23 22 (by decide)).trans (hp_4 22 (by decide)))
    have e_46 : μ21.1 111 29 = μ.1 111 29 := ((hp_23 29 (by decide)).trans (hp_4 29 (by decide)))
    have e_47 : μ21.1 111 39 = μ.1 111 39 := ((hp_23 39 (by decide)).trans (hp_4 39 (by decide)))
    have e_48 : μ21.1 111 39 = μ.1 111 39 := ((hp_23 39 (by decide)).trans (hp_4 39 (by decide)))
    have e_49 : μ21.1 111 22 = μ.1 111 22 := ((hp_23 22 (by decide)).trans (hp_4 22 (by decide)))
    exact xr_i G (x := 0) hret hlk (by unfold ir; omega) rfl dX12_arguments_104 ⟨(FrM.tr (FrM.tr FrM.rf F_3 (by decide)) F_22 (by decide)), (fun j hj => ((hp_23 j (fun h9 => hj ((by decide : ∀ x ∈ ([6, 8, 9, 10, 11, 12, 13, 15, 18] : List Int), x ∈ ([6, 8, 9, 10, 11, 12, 13, 15, 16, 17, 18, 22, 29, 39] : List Int)) j h9))).trans (hp_4 j (fun h9 => hj ((by decide : ∀ x ∈ ([6, 8, 9, 10, 11, 12, 13, 15, 18] : List Int), x ∈ ([6, 8, 9, 10, 11, 12, 13, 15, 16, 17, 18, 22, 29, 39] : List Int)) j h9))))), hp_24, (by omega), (by omega), (by omega), (by omega), (by omega), (by omega), (fun j hj => ((F_22.1 126 (by decide) j).trans (F_3.1 126 (by decide) j))), (by omega), (fun j h1 h2 => by rcases Int.lt_or_le j (μ.1 111 39) with h9 | h9; (have b9 := hwk j h1 h9; rw [show μ21.1 126 j = μ.1 126 j from ((F_22.1 126 (by decide) j).trans (F_3.1 126 (by decide) j))]; exact ⟨b9.1, by omega⟩); (omega)), (fun _ h0 => (((hX_40 ()) h0).ee (by omega)).mem (fun i => wls_cg (fun j h1 h9 => ((F_22.1 126 (by decide) j).trans (F_3.1 126 (by decide) j))) (by omega))), hxt_43⟩
  · refine lv_iconst (v := iv 1) hx hb dX12_arguments_17 rfl ?_
    refine lv_istore_n (lv' := [(3, .int (iv 1)), (2, .int (iv 0)), (0, .ref (oP ω 111)), (1, .int (iv x1))]) hx hb dX12_arguments_18 rfl hl (by decide) rfl (fun ls hl => ?_)
    have e_50 : μ2.1 111 22 = μ.1 111 22 := (hp_4 22 (by decide))
    have e_51 : μ2.1 111 22 = μ.1 111 22 := (hp_4 22 (by decide))
    have e_52 : μ2.1 111 29 = μ.1 111 29 := (hp_4 29 (by decide))
    have e_53 : μ2.1 111 39 = μ.1 111 39 := (hp_4 39 (by decide))
    have e_54 : μ2.1 111 39 = μ.1 111 39 := (hp_4 39 (by decide))
    have e_55 : μ2.1 111 22 = μ.1 111 22 := (hp_4 22 (by decide))
    have e_56 : μ2.1 111 39 = μ.1 111 39 := (hp_4 39 (by decide))
    have e_57 : μ2.1 111 22 = μ.1 111 22 := (hp_4 22 (by decide))
    have e_58 : μ2.1 111 39 = μ.1 111 39 := (hp_4 39 (by decide))
    have e_59 : μ2.1 111 22 = μ.1 111 22 := (hp_4 22 (by decide))
    have e_60 : μ2.1 111 29 = μ.1 111 29 := (hp_4 29 (by decide))
    have hxt_61 : mEXT μ μ2 := (q0m.fr (K := [111]) (FrM.tr FrM.rf F_3 (by decide)) (by decide) (by decide) (by decide) (hp_4 22 (by decide)) (nS.le (by omega) (Int.le_of_eq ((hp_4 31 (by decide))).symm))).1
    refine xl (fun n_9 μ' ls => ∃ (c9 : Int), ∃ (m9 : Int), (FrM [111, 113, 115, 116, 117, 123, 126] μ2 μ') ∧ (-2147483648 ≤ c9 ∧ c9 ≤ 2147483647) ∧ (-2147483648 ≤ m9 ∧ m9 ≤ 2147483647) ∧ (∀ j, j ∉ ([6, 8, 9, 10, 11, 12, 13, 15, 16, 17, 18, 22, 29, 39] : List Int) → μ'.1 111 j = μ2.1 111 j) ∧ (0 ≤ c9) ∧ (0 ≤ m9 ∧ m9 ≤ 1) ∧ (c9 + m9 ≤ μ'.1 111 9 + 1) ∧ (c9 ≤ 8 + 3000 * bd μ') ∧ (PM μ') ∧ (μ.1 111 22 ≤ μ'.1 111 22 ∧ μ'.1 111 22 ≤ μ.1 111 22 + 2 * (μ'.1 111 9 - μ.1 111 9) + (- 2 + 3 * wr μ')) ∧ (μ.1 111 9 ≤ μ'.1 111 9) ∧ (μ.1 111 29 ≤ μ'.1 111 29) ∧ (wr μ ≤ wr μ' ∧ bd μ ≤ bd μ') ∧ (nn μ ≤ nn μ' ∧ nn μ' ≤ nn μ + 1 + 9 * wr μ' ∧ nn μ' ≤ 9 ∧ nn μ + 1 ≤ nn μ' + wr μ ∧ nn μ' ≤ 8 + wr μ' ∧ 9 * wr μ' ≤ nn μ') ∧ (μ.1 111 39 ≤ μ'.1 111 39 ∧ μ'.1 111 39 ≤ μ'.1 111 22) ∧ (∀ j, j < μ.1 111 39 → μ'.1 126 j = μ.1 126 j) ∧ (∀ j, ff ≤ j → j < μ'.1 111 39 → cc ≤ μ'.1 126 j ∧ μ'.1 126 j < μ'.1 111 22) ∧ (∀ _ : Unit, bd μ' = 0 → mPX μo μ' tt (x1 + c9) 1 HH (wls μ' ff (μ'.1 111 39))) ∧ (mEXT μ μ') ∧ n_9 = Int.toNat (3001 - μ'.1 111 9 + m9) ∧ lv_has ls 5 [(3, .int (iv m9)), (2, .int (iv c9)), (0, .ref (oP ω 111)), (1, .int (iv x1))]) (fun n_9 ρ μL62 d0 H locs ls hI_l G ih => ?_) _ _ _ _ _ _ _ ⟨0, 1, FrM.rf, (by omega), (by omega), (fun j hj => rfl), (by omega), (by omega), (by omega), (by omega), hp_5, (by omega), (by omega), (by omega), (by omega), (by omega), (by omega), (fun j hj => (F_3.1 126 (by decide) j)), (fun j h1 h2 => by rcases Int.lt_or_le j (μ.1 111 39) with h9 | h9; (have b9 := hwk j h1 h9; rw [show μ2.1 126 j = μ.1 126 j from (F_3.1 126 (by decide) j)]; exact ⟨b9.1, by omega⟩); (omega)), (fun _ h0 => (((hX_14 ()) h0).ee (by omega)).mem (fun i => wls_cg (fun j h1 h9 => (F_3.1 126 (by decide) j)) (by omega))), hxt_61, rfl, lv_sub hl [0, 1, 2, 3] rfl⟩ G
    obtain ⟨c9, m9, FL63, hi_65, hi_66, hi_67, hi_68, hi_69, hi_70, hi_71, hi_72, hi_73, hi_74, hi_75, hi_76, hi_77, hi_78, hi_79, hi_80, hi_81, hi_82, hn64, hl⟩ := hI_l
    have hw_83 := wr_r (μ := μL62)
    have hw_84 := wr_r (μ := μL62)
    have hpl_85 := hi_72.pl
    have hX_86 : ∀ _ : Unit, bd μL62 = 0 → mPX μo μL62 tt (x1 + c9) 1 HH (wls μL62 ff (μL62.1 111 39) ++ []) := fun _ h0 => (by rw [List.append_nil]; exact hi_81 () h0)
    refine lv_iload_n hx hb dX12_arguments_19 rfl (lv_at hl 0 rfl) ?_
    refine xb_if_eq (tgt := 97) hx hb (by unfold ir; omega) dX12_arguments_20 (by decide) (fun c_20 => ?_) (fun c_20 => ?_)
    · refine lv_aload_n hx hb dX12_arguments_97 rfl (lv_at hl 2 rfl) ?_
      refine lv_bipush (v := iv 41) hx hb dX12_arguments_98 rfl ?_
      have hw_87 := wr_r (μ := μL62)
      refine xc_vV G (b := 111) (rest := []) (As := [.int (iv 41)]) (c_X12_closesWith ω l μL62 41 (by unfold ir; omega) hi_72 (by omega) (by omega)) (wm 9 110 rfl rfl) (wm 9 112 rfl rfl) (wm 0 140 rfl rfl) rfl rfl (by decide) rfl (wm 1 18 rfl rfl) (wm 9 113 rfl rfl) (by decide) hR ⟨nfr hF (by decide), nlo hLo (by decide)⟩ (n := 1) rfl rfl (Nat.le_of_ble_eq_true rfl) hl.1 dX12_arguments_100 (fun μ88 ρ d0 H locs hp G => ?_)
      obtain ⟨F_89, hp_90, hp_91, hp_92, hp_93, hp_94, hp_95⟩ := hp
      have hpl_96 := hp_91.pl
      have hw_97 := wr_r (μ := μ88)
      have e_98 : μ88.1 111 31 = μ.1 111 31 := ((hp_90 31 (by decide)).trans ((hi_67 31 (by decide)).trans (hp_4 31 (by decide))))
      refine lv_iload_n hx hb dX12_arguments_103 rfl (lv_at hl 1 rfl) ?_
      have e_99 : μ88.1 111 22 = μL62.1 111 22 := (hp_90 22 (by decide))
      have e_100 : μ88.1 111 29 = μL62.1 111 29 := (hp_90 29 (by decide))
      have e_101 : μ88.1 111 39 = μL62.1 111 39 := (hp_90 39 (by decide))
      have e_102 : μ88.1 111 39 = μL62.1 111 39 := (hp_90 39 (by decide))
      have e_103 : μ88.1 111 22 = μL62.1 111 22 := (hp_90 22 (by decide))
      have e_104 : μ88.1 111 39 = μL62.1 111 39 := (hp_90 39 (by decide))
      have e_105 : μ88.1 111 22 = μL62.1 111 22 := (hp_90 22 (by decide))
      have e_106 : μ88.1 111 29 = μL62.1 111 29 := (hp_90 29 (by decide))
      have e_108 : μ88.1 111 29 = μL62.1 111 29 := (hp_90 29 (by decide))
      have hX_107 : ∀ _ : Unit, bd μ88 = 0 → mPX μo μ88 tt (x1 + c9) 1 HH (wls μL62 ff (μL62.1 111 39) ++ []) := fun _ h0 => (hX_86 () (by have e9 : bd μL62 = bd μL62 := rfl; have e8 : bd μ88 = bd μ88 := rfl; omega)).qm (q0m.fr (K := [111]) (FrM.tr FrM.rf F_89 (by decide)) (by decide) (by decide) (by decide) (hp_90 22 (by decide)) (nS.le (by omega) (Int.le_of_eq (((((hp_90 31 (by decide)).trans ((hi_67 31 (by decide)).trans (hp_4 31 (by decide))))).trans (((hi_67 31 (by decide)).trans (hp_4 31 (by decide)))).symm)).symm)))
      have e_109 : μ88.1 111 29 = μL62.1 111 29 := (hp_90 29 (by decide))
      have hxt_110 : mEXT μ μ88 := hi_82.tr (q0m.fr (K := [111]) (FrM.tr FrM.rf F_89 (by decide)) (by decide) (by decide) (by decide) (hp_90 22 (by decide)) (nS.le (by omega) (Int.le_of_eq (((((hp_90 31 (by decide)).trans ((hi_67 31 (by decide)).trans (hp_4 31 (by decide))))).trans (((hi_67 31 (by decide)).trans (hp_4 31 (by decide)))).symm)).symm))).1
      have e_111 : μ88.1 111 22 = μL62.1 111 22 := (hp_90 22 (by decide))
      have e_112 : μ88.1 111 22 = μL62.1 111 22 := (hp_90 22 (by decide))
      have e_113 : μ88.1 111 29 = μL62.1 111 29 := (hp_90 29 (by decide))
      have e_114 : μ88.1 111 39 = μL62.1 111 39 := (hp_90 39 (by decide))
      have e_115 : μ88.1 111 39 = μL62.1 111 39 := (hp_90 39 (by decide))
      have e_116 : μ88.1 111 22 = μL62.1 111 22 := (hp_90 22 (by decide))
      exact xr_i G (x := c9) hret hlk (by unfold ir; omega) rfl dX12_arguments_104 ⟨(FrM.tr (FrM.tr (FrM.tr FrM.rf F_3 (by decide)) FL63 (by decide)) F_89 (by decide)), (fun j hj => ((hp_90 j (fun h9 => hj ((by decide : ∀ x ∈ ([6, 8, 9, 10, 11, 12, 13, 15, 18] : List Int), x ∈ ([6, 8, 9, 10, 11, 12, 13, 15, 16, 17, 18, 22, 29, 39] : List Int)) j h9))).trans ((hi_67 j (fun h9 => hj ((by decide : ∀ x ∈ ([6, 8, 9, 10, 11, 12, 13, 15, 16, 17, 18, 22, 29, 39] : List Int), x ∈ ([6, 8, 9, 10, 11, 12, 13, 15, 16, 17, 18, 22, 29, 39] : List Int)) j h9))).trans (hp_4 j (fun h9 => hj ((by decide : ∀ x ∈ ([6, 8, 9, 10, 11, 12, 13, 15, 18] : List Int), x ∈ ([6, 8, 9, 10, 11, 12, 13, 15, 16, 17, 18, 22, 29, 39] : List Int)) j h9)))))), hp_91, (by omega), (by omega), (by omega), (by omega), (by omega), (by omega), (fun j hj => ((F_89.1 126 (by decide) j).trans (hi_79 j (by omega)))), (by omega), (fun j h1 h2 => by rcases Int.lt_or_le j (μL62.1 111 39) with h9 | h9; (have b9 := hi_80 j h1 h9; rw [show μ88.1 126 j = μL62.1 126 j from (F_89.1 126 (by decide) j)]; exact ⟨b9.1, by omega⟩); (omega)), (fun _ h0 => (((hX_107 ()) h0).ee (by omega)).mem (fun i => wls_cg (fun j h1 h9 => (F_89.1 126 (by decide) j)) (by omega))), hxt_110⟩
    · refine lv_aload_n hx hb dX12_arguments_23 rfl (lv_at hl 2 rfl) ?_
      have hw_117 := wr_r (μ := μL62)
      refine xc_iV G (b := 111) (rest := []) (As := []) (c_X12_isWrong ω l μL62  ) (wm 9 4 rfl rfl) (wm 9 6 rfl rfl) (wm 0 120 rfl rfl) rfl rfl (by decide) rfl (wm 1 18 rfl rfl) (wm 9 7 rfl rfl) (by decide) hR ⟨nfr hF (by decide), nlo hLo (by decide)⟩ (n := 0) rfl rfl (Nat.le_of_ble_eq_true rfl) hl.1 dX12_arguments_24 (fun r_119 μ118 ρ d0 H locs hr_r_119 hp G => ?_)
      have hr_r_119 : -2147483648 ≤ r_119 ∧ r_119 ≤ 2147483647 := hr_r_119
      obtain ⟨hsm_120, hp_121⟩ := hp
      have hsm_120 := Eq.symm hsm_120
      subst hsm_120
      have e_122 : μL62.1 111 31 = μ.1 111 31 := ((hi_67 31 (by decide)).trans (hp_4 31 (by decide)))
      refine xb_if_ne (tgt := 97) hx hb (by unfold ir; omega) dX12_arguments_27 (by decide) (fun c_27 => ?_) (fun c_27 => ?_)
      · refine lv_aload_n hx hb dX12_arguments_97 rfl (lv_at hl 2 rfl) ?_
        refine lv_bipush (v := iv 41) hx hb dX12_arguments_98 rfl ?_
        refine xc_vV G (b := 111) (rest := []) (As := [.int (iv 41)]) (c_X12_closesWith ω l μL62 41 (by unfold ir; omega) hi_72 (by omega) (by omega)) (wm 9 110 rfl rfl) (wm 9 112 rfl rfl) (wm 0 140 rfl rfl) rfl rfl (by decide) rfl (wm 1 18 rfl rfl) (wm 9 113 rfl rfl) (by decide) hR ⟨nfr hF (by decide), nlo hLo (by decide)⟩ (n := 1) rfl rfl (Nat.le_of_ble_eq_true rfl) hl.1 dX12_arguments_100 (fun μ123 ρ d0 H locs hp G => ?_)
        obtain ⟨F_124, hp_125, hp_126, hp_127, hp_128, hp_129, hp_130⟩ := hp
        have hpl_131 := hp_126.pl
        have hw_132 := wr_r (μ := μ123)
        have e_133 : μ123.1 111 31 = μ.1 111 31 := ((hp_125 31 (by decide)).trans ((hi_67 31 (by decide)).trans (hp_4 31 (by decide))))
        refine lv_iload_n hx hb dX12_arguments_103 rfl (lv_at hl 1 rfl) ?_
        have e_134 : μ123.1 111 22 = μL62.1 111 22 := (hp_125 22 (by decide))
        have e_135 : μ123.1 111 29 = μL62.1 111 29 := (hp_125 29 (by decide))
        have e_136 : μ123.1 111 39 = μL62.1 111 39 := (hp_125 39 (by decide))
        have e_137 : μ123.1 111 39 = μL62.1 111 39 := (hp_125 39 (by decide))
        have e_138 : μ123.1 111 22 = μL62.1 111 22 := (hp_125 22 (by decide))
        have e_139 : μ123.1 111 39 = μL62.1 111 39 := (hp_125 39 (by decide))
        have e_140 : μ123.1 111 22 = μL62.1 111 22 := (hp_125 22 (by decide))
        have e_141 : μ123.1 111 29 = μL62.1 111 29 := (hp_125 29 (by decide))
        have e_143 : μ123.1 111 29 = μL62.1 111 29 := (hp_125 29 (by decide))
        have hX_142 : ∀ _ : Unit, bd μ123 = 0 → mPX μo μ123 tt (x1 + c9) 1 HH (wls μL62 ff (μL62.1 111 39) ++ []) := fun _ h0 => (hX_86 () (by have e9 : bd μL62 = bd μL62 := rfl; have e8 : bd μ123 = bd μ123 := rfl; omega)).qm (q0m.fr (K := [111]) (FrM.tr FrM.rf F_124 (by decide)) (by decide) (by decide) (by decide) (hp_125 22 (by decide)) (nS.le (by omega) (Int.le_of_eq (((((hp_125 31 (by decide)).trans ((hi_67 31 (by decide)).trans (hp_4 31 (by decide))))).trans (((hi_67 31 (by decide)).trans (hp_4 31 (by decide)))).symm)).symm)))
        have e_144 : μ123.1 111 29 = μL62.1 111 29 := (hp_125 29 (by decide))
        have hxt_145 : mEXT μ μ123 := hi_82.tr (q0m.fr (K := [111]) (FrM.tr FrM.rf F_124 (by decide)) (by decide) (by decide) (by decide) (hp_125 22 (by decide)) (nS.le (by omega) (Int.le_of_eq (((((hp_125 31 (by decide)).trans ((hi_67 31 (by decide)).trans (hp_4 31 (by decide))))).trans (((hi_67 31 (by decide)).trans (hp_4 31 (by decide)))).symm)).symm))).1
        have e_146 : μ123.1 111 22 = μL62.1 111 22 := (hp_125 22 (by decide))
        have e_147 : μ123.1 111 22 = μL62.1 111 22 := (hp_125 22 (by decide))
        have e_148 : μ123.1 111 29 = μL62.1 111 29 := (hp_125 29 (by decide))
        have e_149 : μ123.1 111 39 = μL62.1 111 39 := (hp_125 39 (by decide))
        have e_150 : μ123.1 111 39 = μL62.1 111 39 := (hp_125 39 (by decide))
        have e_151 : μ123.1 111 22 = μL62.1 111 22 := (hp_125 22 (by decide))
        exact xr_i G (x := c9) hret hlk (by unfold ir; omega) rfl dX12_arguments_104 ⟨(FrM.tr (FrM.tr (FrM.tr FrM.rf F_3 (by decide)) FL63 (by decide)) F_124 (by decide)), (fun j hj => ((hp_125 j (fun h9 => hj ((by decide : ∀ x ∈ ([6, 8, 9, 10, 11, 12, 13, 15, 18] : List Int), x ∈ ([6, 8, 9, 10, 11, 12, 13, 15, 16, 17, 18, 22, 29, 39] : List Int)) j h9))).trans ((hi_67 j (fun h9 => hj ((by decide : ∀ x ∈ ([6, 8, 9, 10, 11, 12, 13, 15, 16, 17, 18, 22, 29, 39] : List Int), x ∈ ([6, 8, 9, 10, 11, 12, 13, 15, 16, 17, 18, 22, 29, 39] : List Int)) j h9))).trans (hp_4 j (fun h9 => hj ((by decide : ∀ x ∈ ([6, 8, 9, 10, 11, 12, 13, 15, 18] : List Int), x ∈ ([6, 8, 9, 10, 11, 12, 13, 15, 16, 17, 18, 22, 29, 39] : List Int)) j h9)))))), hp_126, (by omega), (by omega), (by omega), (by omega), (by omega), (by omega), (fun j hj => ((F_124.1 126 (by decide) j).trans (hi_79 j (by omega)))), (by omega), (fun j h1 h2 => by rcases Int.lt_or_le j (μL62.1 111 39) with h9 | h9; (have b9 := hi_80 j h1 h9; rw [show μ123.1 126 j = μL62.1 126 j from (F_124.1 126 (by decide) j)]; exact ⟨b9.1, by omega⟩); (omega)), (fun _ h0 => (((hX_142 ()) h0).ee (by omega)).mem (fun i => wls_cg (fun j h1 h9 => (F_124.1 126 (by decide) j)) (by omega))), hxt_145⟩
      · refine lv_iload_n hx hb dX12_arguments_30 rfl (lv_at hl 1 rfl) ?_
        refine lv_bipush (v := iv 8) hx hb dX12_arguments_31 rfl ?_
        refine xb_icmp_ne (tgt := 44) hx hb (by unfold ir; omega) (by unfold ir; omega) dX12_arguments_33 (by decide) (fun c_33 => ?_) (fun c_33 => ?_)
        · refine lv_aload_n hx hb dX12_arguments_44 rfl (lv_at hl 2 rfl) ?_
          have e_152 : μL62.1 111 14 = tt := ((hi_67 14 (by decide)).trans ((hp_4 14 (by decide)).trans htt.symm))
          have e_153 : μL62.1 111 31 = μ.1 111 31 := ((hi_67 31 (by decide)).trans (hp_4 31 (by decide)))
          have e_154 : μL62.1 111 31 = μ.1 111 31 := ((hi_67 31 (by decide)).trans (hp_4 31 (by decide)))
          refine xc_vV G (b := 111) (rest := []) (As := []) (((fun (_ : Om) (_ : Launch) => hE)) ω l μL62 tt (by omega) hi_72 (by omega) (by omega) (by omega) (by omega) (by omega) (by omega) (fun _ h0 => ((hX_86 ()) h0).h1.1)) (wm 9 139 rfl rfl) (wm 9 141 rfl rfl) (wm 0 147 rfl rfl) rfl rfl (by decide) rfl (wm 1 18 rfl rfl) (wm 9 142 rfl rfl) (by decide) hR ⟨sfr (F := F) (a := 0) (by decide), slo (L := Lo) (m := 1) (a := 0) (by decide)⟩ (n := 0) rfl rfl (Nat.le_of_ble_eq_true rfl) hl.1 dX12_arguments_45 (fun μ155 ρ d0 H locs hp G => ?_)
          obtain ⟨F_156, hp_157, hp_158, hp_159, hp_160, hp_161, hp_162, hp_163, hp_164, hp_165, hp_166, hp_167⟩ := hp
          have hpl_168 := hp_158.pl
          have hw_169 := wr_r (μ := μ155)
          have hxt_170 : mEXT μ μ155 := hi_82.tr hp_167
          have e_171 : μ155.1 111 31 = μ.1 111 31 := ((hp_157 31 (by decide)).trans ((hi_67 31 (by decide)).trans (hp_4 31 (by decide))))
          have hX_172 : ∀ _ : Unit, bd μ155 = 0 → mPX μo μ155 tt ((x1 + c9) + 1) 1 HH (wls μL62 ff (μL62.1 111 39) ++ []) := fun _ h0 => (((hX_86 ()) (by have e9 : bd μL62 = bd μL62 := rfl; have e8 : bd μ155 = bd μ155 := rfl; omega)).app (hp_166 () h0) (by omega)).ee (by omega)
          refine lv_aload_n hx hb dX12_arguments_48 rfl (lv_at hl 2 rfl) ?_
          refine lv_iload_n hx hb dX12_arguments_49 rfl (lv_at hl 3 rfl) ?_
          refine lv_iload_n hx hb dX12_arguments_50 rfl (lv_at hl 1 rfl) ?_
          refine xb_iadd hx hb dX12_arguments_51 ?_
          have e_173 : μ155.1 111 14 = tt := ((hp_157 14 (by decide)).trans ((hi_67 14 (by decide)).trans ((hp_4 14 (by decide)).trans htt.symm)))
          refine xc_iV G (b := 111) (rest := []) (As := [.int (iv (x1 + c9))]) (c_X12_skips ω l μ155 (x1 + c9) tt (by unfold ir; omega) (by omega) (by omega)) (wm 9 159 rfl rfl) (wm 9 161 rfl rfl) (wm 0 152 rfl rfl) rfl rfl (by decide) rfl (wm 1 18 rfl rfl) (wm 9 162 rfl rfl) (by decide) hR ⟨nfr hF (by decide), nlo hLo (by decide)⟩ (n := 1) rfl rfl (Nat.le_of_ble_eq_true rfl) hl.1 dX12_arguments_52 (fun r_175 μ174 ρ d0 H locs hr_r_175 hp G => ?_)
          have hr_r_175 : -2147483648 ≤ r_175 ∧ r_175 ≤ 2147483647 := hr_r_175
          obtain ⟨F_176, hp_177, hp_178, hp_179⟩ := hp
          have hqr_r_175 : (r_175 = -1) ∨ (μ.1 111 22 ≤ r_175 ∧ r_175 < μ174.1 111 22) := by rcases hp_178 with ⟨q1, q2, q3, q4⟩ | ⟨q1, q2, q3⟩; (right; have := q2.2.1; omega); (left; exact q2)
          have hxt_180 : mEXT μ μ174 := hxt_170.tr hp_178.ext
          have e_181 : μ174.1 111 31 = μ.1 111 31 := ((hp_177 31 (by decide)).trans ((hp_157 31 (by decide)).trans ((hi_67 31 (by decide)).trans (hp_4 31 (by decide)))))
          have e_182 : wr μ174 = wr μ155 := (wr_cg (hp_177 15 (by decide)))
          have e_183 : bd μ174 = bd μ155 := (bd_cg (hp_177 15 (by decide)) (hp_177 16 (by decide)) (hp_177 17 (by decide)))
          have e_184 : nn μ174 = nn μ155 := (nn_cg (hp_177 15 (by decide)) (hp_177 18 (by decide)))
          replace hp_178 := fun _ : Unit => hp_178
          have e_186 : μ174.1 111 29 = μ155.1 111 29 := (hp_177 29 (by decide))
          have hX_185 : ∀ _ : Unit, bd μ174 = 0 → mPX μo μ174 tt ((x1 + c9) + 1) 1 HH (lsk r_175 ++ (wls μL62 ff (μL62.1 111 39) ++ [])) := fun _ h0 => mPX.sk ((hX_172 ()) (by have e9 : bd μ155 = bd μ155 := rfl; have e8 : bd μ174 = bd μ155 := (bd_cg (hp_177 15 (by decide)) (hp_177 16 (by decide)) (hp_177 17 (by decide))); omega)) (hp_178 ()) (by omega) (by omega) (by decide)
          have hqs_r_175 : (r_175 = -1) ∨ (μ174.1 111 22 = μ155.1 111 22 + 1 ∧ r_175 = μ155.1 111 22) := by rcases hp_178 () with ⟨q1, q2, q3, q4⟩ | ⟨q1, q2, q3⟩; (right; exact ⟨q2.2.1, q3⟩); (left; exact q2)
          refine lv_istore (lv' := [(4, .int (iv r_175)), (3, .int (iv m9)), (2, .int (iv c9)), (0, .ref (oP ω 111)), (1, .int (iv x1))]) hx hb dX12_arguments_55 hl (by decide) rfl (fun ls hl => ?_)
          refine lv_iload hx hb dX12_arguments_57 (lv_at hl 0 rfl) ?_
          refine lv_iconst (v := iv (-1)) hx hb dX12_arguments_59 rfl ?_
          refine xb_icmp_eq (tgt := 84) hx hb (by unfold ir; omega) (by unfold ir; omega) dX12_arguments_60 (by decide) (fun c_60 => ?_) (fun c_60 => ?_)
          · refine lv_iinc (v := iv (c9 + 1)) (lv' := [(2, .int (iv (c9 + 1))), (4, .int (iv r_175)), (3, .int (iv m9)), (0, .ref (oP ω 111)), (1, .int (iv x1))]) hx hb dX12_arguments_84 hl (k := 2) rfl (by rw [show Int32.ofInt 1 = iv 1 from rfl, iv_add]) (by decide) rfl (fun ls hl => ?_)
            refine lv_aload_n hx hb dX12_arguments_87 rfl (lv_at hl 3 rfl) ?_
            refine lv_bipush (v := iv 44) hx hb dX12_arguments_88 rfl ?_
            have hPM_187 : PM μ174 := hp_158.cg ((((hp_177 4 (by decide)).trans ((hp_157 4 (by decide)).trans ((hi_67 4 (by decide)).trans (hp_4 4 (by decide)))))).trans (((hp_157 4 (by decide)).trans ((hi_67 4 (by decide)).trans (hp_4 4 (by decide))))).symm) (hp_177 6 (by decide)) ((((hp_177 7 (by decide)).trans ((hp_157 7 (by decide)).trans ((hi_67 7 (by decide)).trans (hp_4 7 (by decide)))))).trans (((hp_157 7 (by decide)).trans ((hi_67 7 (by decide)).trans (hp_4 7 (by decide))))).symm) (hp_177 8 (by decide)) (hp_177 9 (by decide)) (hp_177 11 (by decide)) (hp_177 12 (by decide)) ((((hp_177 14 (by decide)).trans ((hp_157 14 (by decide)).trans ((hi_67 14 (by decide)).trans ((hp_4 14 (by decide)).trans htt.symm))))).trans (((hp_157 14 (by decide)).trans ((hi_67 14 (by decide)).trans ((hp_4 14 (by decide)).trans htt.symm)))).symm) (hp_177 15 (by decide)) (hp_177 29 (by decide)) (fun j => (F_176.1 123 (by decide) j))
            have e_188 : wr μ174 = wr μ155 := (wr_cg (hp_177 15 (by decide)))
            have e_189 : nn μ174 = nn μ155 := (nn_cg (hp_177 15 (by decide)) (hp_177 18 (by decide)))
            have e_190 : μ174.1 111 9 = μ155.1 111 9 := (hp_177 9 (by decide))
            have e_191 : wr μ174 = wr μ155 := (wr_cg (hp_177 15 (by decide)))
            have e_192 : wr μ174 = wr μ155 := (wr_cg (hp_177 15 (by decide)))
            have e_193 : bd μ174 = bd μ155 := (bd_cg (hp_177 15 (by decide)) (hp_177 16 (by decide)) (hp_177 17 (by decide)))
            have e_194 : nn μ174 = nn μ155 := (nn_cg (hp_177 15 (by decide)) (hp_177 18 (by decide)))
            refine xc_iV G (b := 111) (rest := []) (As := [.int (iv 44)]) (c_X12_takesSign ω l μ174 44 (by unfold ir; omega) hPM_187 (by omega)) (wm 9 106 rfl rfl) (wm 9 108 rfl rfl) (wm 0 139 rfl rfl) rfl rfl (by decide) rfl (wm 1 18 rfl rfl) (wm 9 109 rfl rfl) (by decide) hR ⟨nfr hF (by decide), nlo hLo (by decide)⟩ (n := 1) rfl rfl (Nat.le_of_ble_eq_true rfl) hl.1 dX12_arguments_90 (fun r_196 μ195 ρ d0 H locs hr_r_196 hp G => ?_)
            have hr_r_196 : -2147483648 ≤ r_196 ∧ r_196 ≤ 2147483647 := hr_r_196
            obtain ⟨F_197, hp_198, hp_199, hp_200, hp_201, hp_202, hp_203⟩ := hp
            have hpl_204 := hp_199.pl
            have hw_205 := wr_r (μ := μ174)
            have hw_206 := wr_r (μ := μ195)
            have e_207 : μ195.1 111 31 = μ.1 111 31 := ((hp_198 31 (by decide)).trans ((hp_177 31 (by decide)).trans ((hp_157 31 (by decide)).trans ((hi_67 31 (by decide)).trans (hp_4 31 (by decide))))))
            refine lv_istore_n (lv' := [(3, .int (iv r_196)), (2, .int (iv (c9 + 1))), (4, .int (iv r_175)), (0, .ref (oP ω 111)), (1, .int (iv x1))]) hx hb dX12_arguments_93 rfl hl (by decide) rfl (fun ls hl => ?_)
            refine lv_goto (tgt := 19) hx hb dX12_arguments_94 (by decide) ?_
            have e_208 : μ195.1 111 22 = μ174.1 111 22 := (hp_198 22 (by decide))
            have e_209 : μ195.1 111 22 = μ174.1 111 22 := (hp_198 22 (by decide))
            have e_210 : μ195.1 111 29 = μ155.1 111 29 := ((hp_198 29 (by decide)).trans (hp_177 29 (by decide)))
            have e_211 : μ195.1 111 39 = μ155.1 111 39 := ((hp_198 39 (by decide)).trans (hp_177 39 (by decide)))
            have e_212 : μ195.1 111 39 = μ155.1 111 39 := ((hp_198 39 (by decide)).trans (hp_177 39 (by decide)))
            have e_213 : μ195.1 111 22 = μ174.1 111 22 := (hp_198 22 (by decide))
            have e_214 : μ195.1 111 39 = μ155.1 111 39 := ((hp_198 39 (by decide)).trans (hp_177 39 (by decide)))
            have e_215 : μ195.1 111 22 = μ174.1 111 22 := (hp_198 22 (by decide))
            have e_216 : μ195.1 111 39 = μ155.1 111 39 := ((hp_198 39 (by decide)).trans (hp_177 39 (by decide)))
            have e_217 : μ195.1 111 22 = μ174.1 111 22 := (hp_198 22 (by decide))
            have e_218 : μ195.1 111 29 = μ155.1 111 29 := ((hp_198 29 (by decide)).trans (hp_177 29 (by decide)))
            have e_220 : μ195.1 111 29 = μ155.1 111 29 := ((hp_198 29 (by decide)).trans (hp_177 29 (by decide)))
            have hX_219 : ∀ _ : Unit, bd μ195 = 0 → mPX μo μ195 tt ((x1 + c9) + 1) 1 HH (lsk r_175 ++ (wls μL62 ff (μL62.1 111 39) ++ [])) := fun _ h0 => (hX_185 () (by have e9 : bd μ174 = bd μ155 := (bd_cg (hp_177 15 (by decide)) (hp_177 16 (by decide)) (hp_177 17 (by decide))); have e8 : bd μ195 = bd μ195 := rfl; omega)).qm (q0m.fr (K := [111]) (FrM.tr FrM.rf F_197 (by decide)) (by decide) (by decide) (by decide) (hp_198 22 (by decide)) (nS.le (by omega) (Int.le_of_eq (((((hp_198 31 (by decide)).trans ((hp_177 31 (by decide)).trans ((hp_157 31 (by decide)).trans ((hi_67 31 (by decide)).trans (hp_4 31 (by decide))))))).trans (((hp_177 31 (by decide)).trans ((hp_157 31 (by decide)).trans ((hi_67 31 (by decide)).trans (hp_4 31 (by decide)))))).symm)).symm)))
            have e_221 : μ195.1 111 29 = μ155.1 111 29 := ((hp_198 29 (by decide)).trans (hp_177 29 (by decide)))
            have hxt_222 : mEXT μ μ195 := hxt_180.tr (q0m.fr (K := [111]) (FrM.tr FrM.rf F_197 (by decide)) (by decide) (by decide) (by decide) (hp_198 22 (by decide)) (nS.le (by omega) (Int.le_of_eq (((((hp_198 31 (by decide)).trans ((hp_177 31 (by decide)).trans ((hp_157 31 (by decide)).trans ((hi_67 31 (by decide)).trans (hp_4 31 (by decide))))))).trans (((hp_177 31 (by decide)).trans ((hp_157 31 (by decide)).trans ((hi_67 31 (by decide)).trans (hp_4 31 (by decide)))))).symm)).symm))).1
            exact ih _ _ _ _ _ _ _ (by omega) ⟨c9 + 1, r_196, (FrM.tr (FrM.tr (FrM.tr FL63 F_156 (by decide)) F_176 (by decide)) F_197 (by decide)), (by omega), (by omega), (fun j hj => ((hp_198 j (fun h9 => hj ((by decide : ∀ x ∈ ([6, 8, 9, 10, 11, 12, 13, 15] : List Int), x ∈ ([6, 8, 9, 10, 11, 12, 13, 15, 16, 17, 18, 22, 29, 39] : List Int)) j h9))).trans ((hp_177 j (fun h9 => hj ((by decide : ∀ x ∈ ([22] : List Int), x ∈ ([6, 8, 9, 10, 11, 12, 13, 15, 16, 17, 18, 22, 29, 39] : List Int)) j h9))).trans ((hp_157 j (fun h9 => hj ((by decide : ∀ x ∈ ([6, 8, 9, 10, 11, 12, 13, 15, 16, 17, 18, 22, 29, 39] : List Int), x ∈ ([6, 8, 9, 10, 11, 12, 13, 15, 16, 17, 18, 22, 29, 39] : List Int)) j h9))).trans (hi_67 j (fun h9 => hj ((by decide : ∀ x ∈ ([6, 8, 9, 10, 11, 12, 13, 15, 16, 17, 18, 22, 29, 39] : List Int), x ∈ ([6, 8, 9, 10, 11, 12, 13, 15, 16, 17, 18, 22, 29, 39] : List Int)) j h9))))))), (by omega), (by omega), (by omega), (by omega), hp_199, (by omega), (by omega), (by omega), (by omega), (by omega), (by omega), (fun j hj => ((F_197.1 126 (by decide) j).trans ((F_176.1 126 (by decide) j).trans ((hp_165 j (by omega)).trans (hi_79 j (by omega)))))), (fun j h1 h2 => by rcases Int.lt_or_le j (μL62.1 111 39) with h9 | h9; (have b9 := hi_80 j h1 h9; rw [show μ195.1 126 j = μL62.1 126 j from ((F_197.1 126 (by decide) j).trans ((F_176.1 126 (by decide) j).trans (hp_165 j (by omega))))]; exact ⟨b9.1, by omega⟩); (omega)), (fun _ h0 => (((hX_219 ()) h0).ee (by omega)).mem (fun i => wls_old (fun j h1 h9 => ((F_197.1 126 (by decide) j).trans ((F_176.1 126 (by decide) j).trans (hp_165 j (by omega))))) (by omega) (by omega))), hxt_222, rfl, lv_sub hl [0, 1, 3, 4] rfl⟩ G
          · refine lv_aload_n hx hb dX12_arguments_63 rfl (lv_at hl 3 rfl) ?_
            refine xa_getr G fd_X12 (a := 111) (x := 126) 38 rfl (by decide) rfl (wm 7 187 rfl rfl) ⟨rfl, rfl, rfl⟩ dX12_arguments_64 rfl (G.sk 124 rfl) (by decide) rfl ?_
            refine lv_aload_n hx hb dX12_arguments_67 rfl (lv_at hl 3 rfl) ?_
            refine xa_geti G fd_X12 (a := 111) (x := μ155.1 111 39) 39 rfl (by decide) rfl (wm 7 188 rfl rfl) ⟨rfl, rfl, rfl⟩ dX12_arguments_68 rfl (hp_177 39 (by decide)) ?_
            have hr_223 : -2147483648 ≤ μ155.1 111 39 ∧ μ155.1 111 39 ≤ 2147483647 := by have h9 := G.hr (a := 111) (k := 39) rfl; rw [show μ174.1 111 39 = μ155.1 111 39 from (hp_177 39 (by decide))] at h9; exact h9
            refine lv_iload hx hb dX12_arguments_71 (lv_at hl 0 rfl) ?_
            have e_224 : μ174.1 111 39 = μ155.1 111 39 := (hp_177 39 (by decide))
            refine xa_iast G (a := 126) (i := μ155.1 111 39) (x := r_175) rfl (by have h9 := G.lc (a := 126) (n := 12000) 64 rfl; omega) (by unfold ir; omega) dX12_arguments_73 rfl (fun H locs G => ?_)
            refine lv_aload_n hx hb dX12_arguments_74 rfl (lv_at hl 3 rfl) ?_
            refine lv_dup hx hb dX12_arguments_75 rfl ?_
            refine xa_geti G fd_X12 (a := 111) (x := μ155.1 111 39) 39 rfl (by decide) rfl (wm 7 188 rfl rfl) ⟨rfl, rfl, rfl⟩ dX12_arguments_76 rfl ((sv_n _ (fun h9 => absurd h9.1 (by decide))).trans (hp_177 39 (by decide))) ?_
            refine lv_iconst (v := iv 1) hx hb dX12_arguments_79 rfl ?_
            refine xb_iadd hx hb dX12_arguments_80 ?_
            refine xa_puti G fd_X12 (a := 111) (x := (μ155.1 111 39) + 1) 39 (kz := 39) rfl rfl (by decide) rfl (by unfold ir; omega) (wm 7 188 rfl rfl) ⟨rfl, rfl, rfl, rfl⟩ rfl dX12_arguments_81 rfl (fun H locs G => ?_)
            refine lv_iinc (v := iv (c9 + 1)) (lv' := [(2, .int (iv (c9 + 1))), (4, .int (iv r_175)), (3, .int (iv m9)), (0, .ref (oP ω 111)), (1, .int (iv x1))]) hx hb dX12_arguments_84 hl (k := 2) rfl (by rw [show Int32.ofInt 1 = iv 1 from rfl, iv_add]) (by decide) rfl (fun ls hl => ?_)
            refine lv_aload_n hx hb dX12_arguments_87 rfl (lv_at hl 3 rfl) ?_
            refine lv_bipush (v := iv 44) hx hb dX12_arguments_88 rfl ?_
            have e_225 : (sv (sv μ174 126 (μ155.1 111 39) r_175) 111 39 ((μ155.1 111 39) + 1)).1 111 29 = μ155.1 111 29 := ((sv_n _ (by decide)).trans ((sv_n _ (fun h9 => absurd h9.1 (by decide))).trans (hp_177 29 (by decide))))
            have e_226 : wr (sv (sv μ174 126 (μ155.1 111 39) r_175) 111 39 ((μ155.1 111 39) + 1)) = wr μ155 := ((wr_cg (sv_n _ (by decide))).trans ((wr_cg (sv_n _ (fun h9 => absurd h9.1 (by decide)))).trans (wr_cg (hp_177 15 (by decide)))))
            have e_227 : bd (sv (sv μ174 126 (μ155.1 111 39) r_175) 111 39 ((μ155.1 111 39) + 1)) = bd μ155 := ((bd_cg (sv_n _ (by decide)) (sv_n _ (by decide)) (sv_n _ (by decide))).trans ((bd_cg (sv_n _ (fun h9 => absurd h9.1 (by decide))) (sv_n _ (fun h9 => absurd h9.1 (by decide))) (sv_n _ (fun h9 => absurd h9.1 (by decide)))).trans (bd_cg (hp_177 15 (by decide)) (hp_177 16 (by decide)) (hp_177 17 (by decide)))))
            have e_228 : nn (sv (sv μ174 126 (μ155.1 111 39) r_175) 111 39 ((μ155.1 111 39) + 1)) = nn μ155 := ((nn_cg (sv_n _ (by decide)) (sv_n _ (by decide))).trans ((nn_cg (sv_n _ (fun h9 => absurd h9.1 (by decide))) (sv_n _ (fun h9 => absurd h9.1 (by decide)))).trans (nn_cg (hp_177 15 (by decide)) (hp_177 18 (by decide)))))
            have e_230 : (sv (sv μ174 126 (μ155.1 111 39) r_175) 111 39 ((μ155.1 111 39) + 1)).1 111 29 = μ155.1 111 29 := ((sv_n _ (by decide)).trans ((sv_n _ (fun h9 => absurd h9.1 (by decide))).trans (hp_177 29 (by decide))))
            have hX_229 : ∀ _ : Unit, bd (sv (sv μ174 126 (μ155.1 111 39) r_175) 111 39 ((μ155.1 111 39) + 1)) = 0 → mPX μo (sv (sv μ174 126 (μ155.1 111 39) r_175) 111 39 ((μ155.1 111 39) + 1)) tt ((x1 + c9) + 1) 1 HH (lsk r_175 ++ (wls μL62 ff (μL62.1 111 39) ++ [])) := fun _ h0 => (hX_185 () (by have e9 : bd μ174 = bd μ155 := (bd_cg (hp_177 15 (by decide)) (hp_177 16 (by decide)) (hp_177 17 (by decide))); have e8 : bd (sv (sv μ174 126 (μ155.1 111 39) r_175) 111 39 ((μ155.1 111 39) + 1)) = bd μ155 := ((bd_cg (sv_n _ (by decide)) (sv_n _ (by decide)) (sv_n _ (by decide))).trans ((bd_cg (sv_n _ (fun h9 => absurd h9.1 (by decide))) (sv_n _ (fun h9 => absurd h9.1 (by decide))) (sv_n _ (fun h9 => absurd h9.1 (by decide)))).trans (bd_cg (hp_177 15 (by decide)) (hp_177 16 (by decide)) (hp_177 17 (by decide))))); omega)).qm (q0m.fr (K := [111, 126]) (FrM.put (FrM.put FrM.rf (by decide)) (by decide)) (by decide) (by decide) (by decide) ((sv_n _ (by decide)).trans (sv_n _ (fun h9 => absurd h9.1 (by decide)))) (nS.le (by omega) (Int.le_of_eq (((((sv_n _ (by decide)).trans ((sv_n _ (fun h9 => absurd h9.1 (by decide))).trans ((hp_177 31 (by decide)).trans ((hp_157 31 (by decide)).trans ((hi_67 31 (by decide)).trans (hp_4 31 (by decide)))))))).trans (((hp_177 31 (by decide)).trans ((hp_157 31 (by decide)).trans ((hi_67 31 (by decide)).trans (hp_4 31 (by decide)))))).symm)).symm)))
            have hPM_231 : PM (sv (sv μ174 126 (μ155.1 111 39) r_175) 111 39 ((μ155.1 111 39) + 1)) := hp_158.cg ((((sv_n _ (by decide)).trans ((sv_n _ (fun h9 => absurd h9.1 (by decide))).trans ((hp_177 4 (by decide)).trans ((hp_157 4 (by decide)).trans ((hi_67 4 (by decide)).trans (hp_4 4 (by decide)))))))).trans (((hp_157 4 (by decide)).trans ((hi_67 4 (by decide)).trans (hp_4 4 (by decide))))).symm) ((sv_n _ (by decide)).trans ((sv_n _ (fun h9 => absurd h9.1 (by decide))).trans (hp_177 6 (by decide)))) ((((sv_n _ (by decide)).trans ((sv_n _ (fun h9 => absurd h9.1 (by decide))).trans ((hp_177 7 (by decide)).trans ((hp_157 7 (by decide)).trans ((hi_67 7 (by decide)).trans (hp_4 7 (by decide)))))))).trans (((hp_157 7 (by decide)).trans ((hi_67 7 (by decide)).trans (hp_4 7 (by decide))))).symm) ((sv_n _ (by decide)).trans ((sv_n _ (fun h9 => absurd h9.1 (by decide))).trans (hp_177 8 (by decide)))) ((sv_n _ (by decide)).trans ((sv_n _ (fun h9 => absurd h9.1 (by decide))).trans (hp_177 9 (by decide)))) ((sv_n _ (by decide)).trans ((sv_n _ (fun h9 => absurd h9.1 (by decide))).trans (hp_177 11 (by decide)))) ((sv_n _ (by decide)).trans ((sv_n _ (fun h9 => absurd h9.1 (by decide))).trans (hp_177 12 (by decide)))) ((((sv_n _ (by decide)).trans ((sv_n _ (fun h9 => absurd h9.1 (by decide))).trans ((hp_177 14 (by decide)).trans ((hp_157 14 (by decide)).trans ((hi_67 14 (by decide)).trans ((hp_4 14 (by decide)).trans htt.symm))))))).trans (((hp_157 14 (by decide)).trans ((hi_67 14 (by decide)).trans ((hp_4 14 (by decide)).trans htt.symm)))).symm) ((sv_n _ (by decide)).trans ((sv_n _ (fun h9 => absurd h9.1 (by decide))).trans (hp_177 15 (by decide)))) ((sv_n _ (by decide)).trans ((sv_n _ (fun h9 => absurd h9.1 (by decide))).trans (hp_177 29 (by decide)))) (fun j => ((sv_n _ (by omega)).trans ((sv_n _ (by omega)).trans (F_176.1 123 (by decide) j))))
            have e_232 : wr (sv (sv μ174 126 (μ155.1 111 39) r_175) 111 39 ((μ155.1 111 39) + 1)) = wr μ155 := ((wr_cg (sv_n _ (by decide))).trans ((wr_cg (sv_n _ (fun h9 => absurd h9.1 (by decide)))).trans (wr_cg (hp_177 15 (by decide)))))
            have e_233 : nn (sv (sv μ174 126 (μ155.1 111 39) r_175) 111 39 ((μ155.1 111 39) + 1)) = nn μ155 := ((nn_cg (sv_n _ (by decide)) (sv_n _ (by decide))).trans ((nn_cg (sv_n _ (fun h9 => absurd h9.1 (by decide))) (sv_n _ (fun h9 => absurd h9.1 (by decide)))).trans (nn_cg (hp_177 15 (by decide)) (hp_177 18 (by decide)))))
            have e_234 : (sv (sv μ174 126 (μ155.1 111 39) r_175) 111 39 ((μ155.1 111 39) + 1)).1 111 9 = μ155.1 111 9 := ((sv_n _ (by decide)).trans ((sv_n _ (fun h9 => absurd h9.1 (by decide))).trans (hp_177 9 (by decide))))
            have e_235 : wr (sv (sv μ174 126 (μ155.1 111 39) r_175) 111 39 ((μ155.1 111 39) + 1)) = wr μ155 := ((wr_cg (sv_n _ (by decide))).trans ((wr_cg (sv_n _ (fun h9 => absurd h9.1 (by decide)))).trans (wr_cg (hp_177 15 (by decide)))))
            have e_236 : wr (sv (sv μ174 126 (μ155.1 111 39) r_175) 111 39 ((μ155.1 111 39) + 1)) = wr μ155 := ((wr_cg (sv_n _ (by decide))).trans ((wr_cg (sv_n _ (fun h9 => absurd h9.1 (by decide)))).trans (wr_cg (hp_177 15 (by decide)))))
            have e_237 : bd (sv (sv μ174 126 (μ155.1 111 39) r_175) 111 39 ((μ155.1 111 39) + 1)) = bd μ155 := ((bd_cg (sv_n _ (by decide)) (sv_n _ (by decide)) (sv_n _ (by decide))).trans ((bd_cg (sv_n _ (fun h9 => absurd h9.1 (by decide))) (sv_n _ (fun h9 => absurd h9.1 (by decide))) (sv_n _ (fun h9 => absurd h9.1 (by decide)))).trans (bd_cg (hp_177 15 (by decide)) (hp_177 16 (by decide)) (hp_177 17 (by decide)))))
            have e_238 : nn (sv (sv μ174 126 (μ155.1 111 39) r_175) 111 39 ((μ155.1 111 39) + 1)) = nn μ155 := ((nn_cg (sv_n _ (by decide)) (sv_n _ (by decide))).trans ((nn_cg (sv_n _ (fun h9 => absurd h9.1 (by decide))) (sv_n _ (fun h9 => absurd h9.1 (by decide)))).trans (nn_cg (hp_177 15 (by decide)) (hp_177 18 (by decide)))))
            refine xc_iV G (b := 111) (rest := []) (As := [.int (iv 44)]) (c_X12_takesSign ω l (sv (sv μ174 126 (μ155.1 111 39) r_175) 111 39 ((μ155.1 111 39) + 1)) 44 (by unfold ir; omega) hPM_231 (by omega)) (wm 9 106 rfl rfl) (wm 9 108 rfl rfl) (wm 0 139 rfl rfl) rfl rfl (by decide) rfl (wm 1 18 rfl rfl) (wm 9 109 rfl rfl) (by decide) hR ⟨nfr hF (by decide), nlo hLo (by decide)⟩ (n := 1) rfl rfl (Nat.le_of_ble_eq_true rfl) hl.1 dX12_arguments_90 (fun r_240 μ239 ρ d0 H locs hr_r_240 hp G => ?_)
            have hr_r_240 : -2147483648 ≤ r_240 ∧ r_240 ≤ 2147483647 := hr_r_240
            obtain ⟨F_241, hp_242, hp_243, hp_244, hp_245, hp_246, hp_247⟩ := hp
            have hpl_248 := hp_243.pl
            have hw_249 := wr_r (μ := μ239)
            have e_250 : μ239.1 111 31 = μ.1 111 31 := ((hp_242 31 (by decide)).trans ((sv_n _ (by decide)).trans ((sv_n _ (fun h9 => absurd h9.1 (by decide))).trans ((hp_177 31 (by decide)).trans ((hp_157 31 (by decide)).trans ((hi_67 31 (by decide)).trans (hp_4 31 (by decide))))))))
            refine lv_istore_n (lv' := [(3, .int (iv r_240)), (2, .int (iv (c9 + 1))), (4, .int (iv r_175)), (0, .ref (oP ω 111)), (1, .int (iv x1))]) hx hb dX12_arguments_93 rfl hl (by decide) rfl (fun ls hl => ?_)
            refine lv_goto (tgt := 19) hx hb dX12_arguments_94 (by decide) ?_
            have e_251 : μ239.1 111 22 = μ174.1 111 22 := ((hp_242 22 (by decide)).trans ((sv_n _ (by decide)).trans (sv_n _ (fun h9 => absurd h9.1 (by decide)))))
            have e_252 : μ239.1 111 22 = μ174.1 111 22 := ((hp_242 22 (by decide)).trans ((sv_n _ (by decide)).trans (sv_n _ (fun h9 => absurd h9.1 (by decide)))))
            have e_253 : μ239.1 111 29 = μ155.1 111 29 := ((hp_242 29 (by decide)).trans ((sv_n _ (by decide)).trans ((sv_n _ (fun h9 => absurd h9.1 (by decide))).trans (hp_177 29 (by decide)))))
            have e_254 : μ239.1 111 39 = (μ155.1 111 39) + 1 := ((hp_242 39 (by decide)).trans (sv_s _ _ _ _))
            have e_255 : μ239.1 111 39 = (μ155.1 111 39) + 1 := ((hp_242 39 (by decide)).trans (sv_s _ _ _ _))
            have e_256 : μ239.1 111 22 = μ174.1 111 22 := ((hp_242 22 (by decide)).trans ((sv_n _ (by decide)).trans (sv_n _ (fun h9 => absurd h9.1 (by decide)))))
            have e_257 : μ239.1 111 39 = (μ155.1 111 39) + 1 := ((hp_242 39 (by decide)).trans (sv_s _ _ _ _))
            have e_258 : μ239.1 111 22 = μ174.1 111 22 := ((hp_242 22 (by decide)).trans ((sv_n _ (by decide)).trans (sv_n _ (fun h9 => absurd h9.1 (by decide)))))
            have e_259 : μ239.1 111 39 = (μ155.1 111 39) + 1 := ((hp_242 39 (by decide)).trans (sv_s _ _ _ _))
            have e_260 : μ239.1 111 22 = μ174.1 111 22 := ((hp_242 22 (by decide)).trans ((sv_n _ (by decide)).trans (sv_n _ (fun h9 => absurd h9.1 (by decide)))))
            have e_261 : μ239.1 111 29 = μ155.1 111 29 := ((hp_242 29 (by decide)).trans ((sv_n _ (by decide)).trans ((sv_n _ (fun h9 => absurd h9.1 (by decide))).trans (hp_177 29 (by decide)))))
            have e_263 : μ239.1 111 29 = μ155.1 111 29 := ((hp_242 29 (by decide)).trans ((sv_n _ (by decide)).trans ((sv_n _ (fun h9 => absurd h9.1 (by decide))).trans (hp_177 29 (by decide)))))
            have hX_262 : ∀ _ : Unit, bd μ239 = 0 → mPX μo μ239 tt ((x1 + c9) + 1) 1 HH (lsk r_175 ++ (wls μL62 ff (μL62.1 111 39) ++ [])) := fun _ h0 => (hX_229 () (by have e9 : bd (sv (sv μ174 126 (μ155.1 111 39) r_175) 111 39 ((μ155.1 111 39) + 1)) = bd μ155 := ((bd_cg (sv_n _ (by decide)) (sv_n _ (by decide)) (sv_n _ (by decide))).trans ((bd_cg (sv_n _ (fun h9 => absurd h9.1 (by decide))) (sv_n _ (fun h9 => absurd h9.1 (by decide))) (sv_n _ (fun h9 => absurd h9.1 (by decide)))).trans (bd_cg (hp_177 15 (by decide)) (hp_177 16 (by decide)) (hp_177 17 (by decide))))); have e8 : bd μ239 = bd μ239 := rfl; omega)).qm (q0m.fr (K := [111]) (FrM.tr FrM.rf F_241 (by decide)) (by decide) (by decide) (by decide) ((((hp_242 22 (by decide)).trans ((sv_n _ (by decide)).trans (sv_n _ (fun h9 => absurd h9.1 (by decide)))))).trans (((sv_n _ (by decide)).trans (sv_n _ (fun h9 => absurd h9.1 (by decide))))).symm) (nS.le (by omega) (Int.le_of_eq (((((hp_242 31 (by decide)).trans ((sv_n _ (by decide)).trans ((sv_n _ (fun h9 => absurd h9.1 (by decide))).trans ((hp_177 31 (by decide)).trans ((hp_157 31 (by decide)).trans ((hi_67 31 (by decide)).trans (hp_4 31 (by decide))))))))).trans (((sv_n _ (by decide)).trans ((sv_n _ (fun h9 => absurd h9.1 (by decide))).trans ((hp_177 31 (by decide)).trans ((hp_157 31 (by decide)).trans ((hi_67 31 (by decide)).trans (hp_4 31 (by decide)))))))).symm)).symm)))
            have e_264 : μ239.1 111 29 = μ155.1 111 29 := ((hp_242 29 (by decide)).trans ((sv_n _ (by decide)).trans ((sv_n _ (fun h9 => absurd h9.1 (by decide))).trans (hp_177 29 (by decide)))))
            have hxt_265 : mEXT μ μ239 := hxt_180.tr (q0m.fr (K := [111, 126]) (FrM.tr (FrM.put (FrM.put FrM.rf (by decide)) (by decide)) F_241 (by decide)) (by decide) (by decide) (by decide) ((hp_242 22 (by decide)).trans ((sv_n _ (by decide)).trans (sv_n _ (fun h9 => absurd h9.1 (by decide))))) (nS.le (by omega) (Int.le_of_eq (((((hp_242 31 (by decide)).trans ((sv_n _ (by decide)).trans ((sv_n _ (fun h9 => absurd h9.1 (by decide))).trans ((hp_177 31 (by decide)).trans ((hp_157 31 (by decide)).trans ((hi_67 31 (by decide)).trans (hp_4 31 (by decide))))))))).trans (((hp_177 31 (by decide)).trans ((hp_157 31 (by decide)).trans ((hi_67 31 (by decide)).trans (hp_4 31 (by decide)))))).symm)).symm))).1
            exact ih _ _ _ _ _ _ _ (by omega) ⟨c9 + 1, r_240, (FrM.tr (FrM.put (FrM.put (FrM.tr (FrM.tr FL63 F_156 (by decide)) F_176 (by decide)) (by decide)) (by decide)) F_241 (by decide)), (by omega), (by omega), (fun j hj => ((hp_242 j (fun h9 => hj ((by decide : ∀ x ∈ ([6, 8, 9, 10, 11, 12, 13, 15] : List Int), x ∈ ([6, 8, 9, 10, 11, 12, 13, 15, 16, 17, 18, 22, 29, 39] : List Int)) j h9))).trans ((sv_n _ (fun h9 => hj (by rw [h9.2]; decide))).trans ((sv_n _ (fun h9 => absurd h9.1 (by decide))).trans ((hp_177 j (fun h9 => hj ((by decide : ∀ x ∈ ([22] : List Int), x ∈ ([6, 8, 9, 10, 11, 12, 13, 15, 16, 17, 18, 22, 29, 39] : List Int)) j h9))).trans ((hp_157 j (fun h9 => hj ((by decide : ∀ x ∈ ([6, 8, 9, 10, 11, 12, 13, 15, 16, 17, 18, 22, 29, 39] : List Int), x ∈ ([6, 8, 9, 10, 11, 12, 13, 15, 16, 17, 18, 22, 29, 39] : List Int)) j h9))).trans (hi_67 j (fun h9 => hj ((by decide : ∀ x ∈ ([6, 8, 9, 10, 11, 12, 13, 15, 16, 17, 18, 22, 29, 39] : List Int), x ∈ ([6, 8, 9, 10, 11, 12, 13, 15, 16, 17, 18, 22, 29, 39] : List Int)) j h9))))))))), (by omega), (by omega), (by omega), (by omega), hp_243, (by omega), (by omega), (by omega), (by omega), (by omega), (by omega), (fun j hj => ((F_241.1 126 (by decide) j).trans ((sv_n _ (fun h9 => absurd h9.1 (by decide))).trans ((sv_n _ (by omega)).trans ((F_176.1 126 (by decide) j).trans ((hp_165 j (by omega)).trans (hi_79 j (by omega)))))))), (fun j h1 h2 => by rcases Int.lt_or_le j (μL62.1 111 39) with h9 | h9; (have b9 := hi_80 j h1 h9; rw [show μ239.1 126 j = μL62.1 126 j from ((F_241.1 126 (by decide) j).trans ((sv_n _ (fun h9 => absurd h9.1 (by decide))).trans ((sv_n _ (by omega)).trans ((F_176.1 126 (by decide) j).trans (hp_165 j (by omega))))))]; exact ⟨b9.1, by omega⟩); (rw [show j = μ155.1 111 39 by omega, show μ239.1 126 (μ155.1 111 39) = r_175 from ((F_241.1 126 (by decide) (μ155.1 111 39)).trans ((sv_n _ (fun h9 => absurd h9.1 (by decide))).trans (sv_s _ _ _ _)))]; omega)), (fun _ h0 => (((hX_262 ()) h0).ee (by omega)).mem (fun i => wls_new (by omega) (fun j h1 h9 => ((F_241.1 126 (by decide) j).trans ((sv_n _ (fun h9 => absurd h9.1 (by decide))).trans ((sv_n _ (by omega)).trans ((F_176.1 126 (by decide) j).trans (hp_165 j (by omega))))))) (by omega) (by rw [show μL62.1 111 39 = μ155.1 111 39 by omega]; exact ((F_241.1 126 (by decide) (μ155.1 111 39)).trans ((sv_n _ (fun h9 => absurd h9.1 (by decide))).trans (sv_s _ _ _ _)))) (by omega))), hxt_265, rfl, lv_sub hl [0, 1, 3, 4] rfl⟩ G
        · refine lv_aload_n hx hb dX12_arguments_36 rfl (lv_at hl 2 rfl) ?_
          refine lv_aload_n hx hb dX12_arguments_37 rfl (lv_at hl 2 rfl) ?_
          refine xa_geti G fd_X12 (a := 111) (x := μL62.1 111 9) 9 rfl (by decide) rfl (wm 7 158 rfl rfl) ⟨rfl, rfl, rfl⟩ dX12_arguments_38 rfl rfl ?_
          have hr_266 : -2147483648 ≤ μL62.1 111 9 ∧ μL62.1 111 9 ≤ 2147483647 := by have h9 := G.hr (a := 111) (k := 9) rfl; exact h9
          refine xc_vV G (b := 111) (rest := []) (As := [.int (iv (μL62.1 111 9))]) (c_X12_wrong2 ω l μL62 (μL62.1 111 9) (by unfold ir; omega) (by omega)) (wm 9 78 rfl rfl) (wm 9 80 rfl rfl) (wm 0 132 rfl rfl) rfl rfl (by decide) rfl (wm 1 18 rfl rfl) (wm 9 81 rfl rfl) (by decide) hR ⟨nfr hF (by decide), nlo hLo (by decide)⟩ (n := 1) rfl rfl (Nat.le_of_ble_eq_true rfl) hl.1 dX12_arguments_41 (fun μ267 ρ d0 H locs hp G => ?_)
          obtain ⟨F_268, hp_269, hp_270⟩ := hp
          have hw_271 := wr_r (μ := μ267)
          have e_272 : μ267.1 111 31 = μ.1 111 31 := ((hp_269 31 (by decide)).trans ((hi_67 31 (by decide)).trans (hp_4 31 (by decide))))
          have e_273 : wr μ267 = wr μL62 := (wr_cg (hp_269 15 (by decide)))
          have e_274 : nn μ267 = nn μL62 := (nn_cg (hp_269 15 (by decide)) (hp_269 18 (by decide)))
          refine lv_aload_n hx hb dX12_arguments_44 rfl (lv_at hl 2 rfl) ?_
          have e_275 : μ267.1 111 29 = μL62.1 111 29 := (hp_269 29 (by decide))
          have e_276 : wr μ267 = wr μL62 := (wr_cg (hp_269 15 (by decide)))
          have e_277 : nn μ267 = nn μL62 := (nn_cg (hp_269 15 (by decide)) (hp_269 18 (by decide)))
          have e_279 : μ267.1 111 29 = μL62.1 111 29 := (hp_269 29 (by decide))
          have hX_278 : ∀ _ : Unit, bd μ267 = 0 → mPX μo μ267 tt (x1 + c9) 1 HH (wls μL62 ff (μL62.1 111 39) ++ []) := fun _ h0 => (hX_86 () (by have e9 : bd μL62 = bd μL62 := rfl; have e8 : bd μ267 = bd μ267 := rfl; omega)).qm (q0m.fr (K := [111]) (FrM.tr FrM.rf F_268 (by decide)) (by decide) (by decide) (by decide) (hp_269 22 (by decide)) (nS.le (by omega) (Int.le_of_eq (((((hp_269 31 (by decide)).trans ((hi_67 31 (by decide)).trans (hp_4 31 (by decide))))).trans (((hi_67 31 (by decide)).trans (hp_4 31 (by decide)))).symm)).symm)))
          have e_280 : μ267.1 111 29 = μL62.1 111 29 := (hp_269 29 (by decide))
          have e_281 : μ267.1 111 29 = μL62.1 111 29 := (hp_269 29 (by decide))
          have hxt_282 : mEXT μ μ267 := hi_82.tr (q0m.fr (K := [111]) (FrM.tr FrM.rf F_268 (by decide)) (by decide) (by decide) (by decide) (hp_269 22 (by decide)) (nS.le (by omega) (Int.le_of_eq (((((hp_269 31 (by decide)).trans ((hi_67 31 (by decide)).trans (hp_4 31 (by decide))))).trans (((hi_67 31 (by decide)).trans (hp_4 31 (by decide)))).symm)).symm))).1
          have e_283 : μ267.1 111 14 = tt := ((hp_269 14 (by decide)).trans ((hi_67 14 (by decide)).trans ((hp_4 14 (by decide)).trans htt.symm)))
          have hPM_284 : PM μ267 := hi_72.cg ((((hp_269 4 (by decide)).trans ((hi_67 4 (by decide)).trans (hp_4 4 (by decide))))).trans (((hi_67 4 (by decide)).trans (hp_4 4 (by decide)))).symm) (hp_269 6 (by decide)) ((((hp_269 7 (by decide)).trans ((hi_67 7 (by decide)).trans (hp_4 7 (by decide))))).trans (((hi_67 7 (by decide)).trans (hp_4 7 (by decide)))).symm) (hp_269 8 (by decide)) (hp_269 9 (by decide)) (hp_269 11 (by decide)) (hp_269 12 (by decide)) ((((hp_269 14 (by decide)).trans ((hi_67 14 (by decide)).trans ((hp_4 14 (by decide)).trans htt.symm)))).trans (((hi_67 14 (by decide)).trans ((hp_4 14 (by decide)).trans htt.symm))).symm) (hp_269 15 (by decide)) (hp_269 29 (by decide)) (fun j => (F_268.1 123 (by decide) j))
          have e_285 : wr μ267 = wr μL62 := (wr_cg (hp_269 15 (by decide)))
          have e_286 : nn μ267 = nn μL62 := (nn_cg (hp_269 15 (by decide)) (hp_269 18 (by decide)))
          have e_287 : wr μ267 = wr μL62 := (wr_cg (hp_269 15 (by decide)))
          have e_288 : nn μ267 = nn μL62 := (nn_cg (hp_269 15 (by decide)) (hp_269 18 (by decide)))
          have e_289 : μ267.1 111 22 = μL62.1 111 22 := (hp_269 22 (by decide))
          have e_290 : μ267.1 111 22 = μL62.1 111 22 := (hp_269 22 (by decide))
          have e_291 : μ267.1 111 9 = μL62.1 111 9 := (hp_269 9 (by decide))
          have e_292 : wr μ267 = wr μL62 := (wr_cg (hp_269 15 (by decide)))
          have e_293 : μ267.1 111 39 = μL62.1 111 39 := (hp_269 39 (by decide))
          have e_294 : μ267.1 111 39 = μL62.1 111 39 := (hp_269 39 (by decide))
          have e_295 : μ267.1 111 22 = μL62.1 111 22 := (hp_269 22 (by decide))
          have e_296 : μ267.1 111 31 = μ.1 111 31 := ((hp_269 31 (by decide)).trans ((hi_67 31 (by decide)).trans (hp_4 31 (by decide))))
          have e_297 : μ267.1 111 31 = μ.1 111 31 := ((hp_269 31 (by decide)).trans ((hi_67 31 (by decide)).trans (hp_4 31 (by decide))))
          have e_298 : nn μ267 = nn μL62 := (nn_cg (hp_269 15 (by decide)) (hp_269 18 (by decide)))
          have e_299 : μ267.1 111 22 = μL62.1 111 22 := (hp_269 22 (by decide))
          have e_300 : μ267.1 111 22 = μL62.1 111 22 := (hp_269 22 (by decide))
          have e_301 : μ267.1 111 9 = μL62.1 111 9 := (hp_269 9 (by decide))
          have e_302 : wr μ267 = wr μL62 := (wr_cg (hp_269 15 (by decide)))
          have e_303 : μ267.1 111 9 = μL62.1 111 9 := (hp_269 9 (by decide))
          have e_304 : μ267.1 111 29 = μL62.1 111 29 := (hp_269 29 (by decide))
          have e_305 : wr μ267 = wr μL62 := (wr_cg (hp_269 15 (by decide)))
          have e_306 : nn μ267 = nn μL62 := (nn_cg (hp_269 15 (by decide)) (hp_269 18 (by decide)))
          have e_307 : μ267.1 111 39 = μL62.1 111 39 := (hp_269 39 (by decide))
          refine xc_vV G (b := 111) (rest := []) (As := []) (((fun (_ : Om) (_ : Launch) => hE)) ω l μ267 tt (by omega) hPM_284 (by omega) (by omega) (by omega) (by omega) (by omega) (by omega) (fun _ h0 => ((hX_278 ()) h0).h1.1)) (wm 9 139 rfl rfl) (wm 9 141 rfl rfl) (wm 0 147 rfl rfl) rfl rfl (by decide) rfl (wm 1 18 rfl rfl) (wm 9 142 rfl rfl) (by decide) hR ⟨sfr (F := F) (a := 0) (by decide), slo (L := Lo) (m := 1) (a := 0) (by decide)⟩ (n := 0) rfl rfl (Nat.le_of_ble_eq_true rfl) hl.1 dX12_arguments_45 (fun μ308 ρ d0 H locs hp G => ?_)
          obtain ⟨F_309, hp_310, hp_311, hp_312, hp_313, hp_314, hp_315, hp_316, hp_317, hp_318, hp_319, hp_320⟩ := hp
          have hpl_321 := hp_311.pl
          have hw_322 := wr_r (μ := μ308)
          have hxt_323 : mEXT μ μ308 := hxt_282.tr hp_320
          have e_324 : μ308.1 111 31 = μ.1 111 31 := ((hp_310 31 (by decide)).trans ((hp_269 31 (by decide)).trans ((hi_67 31 (by decide)).trans (hp_4 31 (by decide)))))
          have hX_325 : ∀ _ : Unit, bd μ308 = 0 → mPX μo μ308 tt ((x1 + c9) + 1) 1 HH (wls μL62 ff (μL62.1 111 39) ++ []) := fun _ h0 => (((hX_278 ()) (by have e9 : bd μ267 = bd μ267 := rfl; have e8 : bd μ308 = bd μ308 := rfl; omega)).app (hp_319 () h0) (by omega)).ee (by omega)
          refine lv_aload_n hx hb dX12_arguments_48 rfl (lv_at hl 2 rfl) ?_
          refine lv_iload_n hx hb dX12_arguments_49 rfl (lv_at hl 3 rfl) ?_
          refine lv_iload_n hx hb dX12_arguments_50 rfl (lv_at hl 1 rfl) ?_
          refine xb_iadd hx hb dX12_arguments_51 ?_
          have e_326 : μ308.1 111 14 = tt := ((hp_310 14 (by decide)).trans ((hp_269 14 (by decide)).trans ((hi_67 14 (by decide)).trans ((hp_4 14 (by decide)).trans htt.symm))))
          refine xc_iV G (b := 111) (rest := []) (As := [.int (iv (x1 + c9))]) (c_X12_skips ω l μ308 (x1 + c9) tt (by unfold ir; omega) (by omega) (by omega)) (wm 9 159 rfl rfl) (wm 9 161 rfl rfl) (wm 0 152 rfl rfl) rfl rfl (by decide) rfl (wm 1 18 rfl rfl) (wm 9 162 rfl rfl) (by decide) hR ⟨nfr hF (by decide), nlo hLo (by decide)⟩ (n := 1) rfl rfl (Nat.le_of_ble_eq_true rfl) hl.1 dX12_arguments_52 (fun r_328 μ327 ρ d0 H locs hr_r_328 hp G => ?_)
          have hr_r_328 : -2147483648 ≤ r_328 ∧ r_328 ≤ 2147483647 := hr_r_328
          obtain ⟨F_329, hp_330, hp_331, hp_332⟩ := hp
          have hqr_r_328 : (r_328 = -1) ∨ (μ.1 111 22 ≤ r_328 ∧ r_328 < μ327.1 111 22) := by rcases hp_331 with ⟨q1, q2, q3, q4⟩ | ⟨q1, q2, q3⟩; (right; have := q2.2.1; omega); (left; exact q2)
          have hxt_333 : mEXT μ μ327 := hxt_323.tr hp_331.ext
          have e_334 : μ327.1 111 31 = μ.1 111 31 := ((hp_330 31 (by decide)).trans ((hp_310 31 (by decide)).trans ((hp_269 31 (by decide)).trans ((hi_67 31 (by decide)).trans (hp_4 31 (by decide))))))
          have e_335 : wr μ327 = wr μ308 := (wr_cg (hp_330 15 (by decide)))
          have e_336 : bd μ327 = bd μ308 := (bd_cg (hp_330 15 (by decide)) (hp_330 16 (by decide)) (hp_330 17 (by decide)))
          have e_337 : nn μ327 = nn μ308 := (nn_cg (hp_330 15 (by decide)) (hp_330 18 (by decide)))
          replace hp_331 := fun _ : Unit => hp_331
          have e_339 : μ327.1 111 29 = μ308.1 111 29 := (hp_330 29 (by decide))
          have hX_338 : ∀ _ : Unit, bd μ327 = 0 → mPX μo μ327 tt ((x1 + c9) + 1) 1 HH (lsk r_328 ++ (wls μL62 ff (μL62.1 111 39) ++ [])) := fun _ h0 => mPX.sk ((hX_325 ()) (by have e9 : bd μ308 = bd μ308 := rfl; have e8 : bd μ327 = bd μ308 := (bd_cg (hp_330 15 (by decide)) (hp_330 16 (by decide)) (hp_330 17 (by decide))); omega)) (hp_331 ()) (by omega) (by omega) (by decide)
          have hqs_r_328 : (r_328 = -1) ∨ (μ327.1 111 22 = μ308.1 111 22 + 1 ∧ r_328 = μ308.1 111 22) := by rcases hp_331 () with ⟨q1, q2, q3, q4⟩ | ⟨q1, q2, q3⟩; (right; exact ⟨q2.2.1, q3⟩); (left; exact q2)
          refine lv_istore (lv' := [(4, .int (iv r_328)), (3, .int (iv m9)), (2, .int (iv c9)), (0, .ref (oP ω 111)), (1, .int (iv x1))]) hx hb dX12_arguments_55 hl (by decide) rfl (fun ls hl => ?_)
          refine lv_iload hx hb dX12_arguments_57 (lv_at hl 0 rfl) ?_
          refine lv_iconst (v := iv (-1)) hx hb dX12_arguments_59 rfl ?_
          refine xb_icmp_eq (tgt := 84) hx hb (by unfold ir; omega) (by unfold ir; omega) dX12_arguments_60 (by decide) (fun c_60 => ?_) (fun c_60 => ?_)
          · refine lv_iinc (v := iv (c9 + 1)) (lv' := [(2, .int (iv (c9 + 1))), (4, .int (iv r_328)), (3, .int (iv m9)), (0, .ref (oP ω 111)), (1, .int (iv x1))]) hx hb dX12_arguments_84 hl (k := 2) rfl (by rw [show Int32.ofInt 1 = iv 1 from rfl, iv_add]) (by decide) rfl (fun ls hl => ?_)
            refine lv_aload_n hx hb dX12_arguments_87 rfl (lv_at hl 3 rfl) ?_
            refine lv_bipush (v := iv 44) hx hb dX12_arguments_88 rfl ?_
            have hPM_340 : PM μ327 := hp_311.cg ((((hp_330 4 (by decide)).trans ((hp_310 4 (by decide)).trans ((hp_269 4 (by decide)).trans ((hi_67 4 (by decide)).trans (hp_4 4 (by decide))))))).trans (((hp_310 4 (by decide)).trans ((hp_269 4 (by decide)).trans ((hi_67 4 (by decide)).trans (hp_4 4 (by decide)))))).symm) (hp_330 6 (by decide)) ((((hp_330 7 (by decide)).trans ((hp_310 7 (by decide)).trans ((hp_269 7 (by decide)).trans ((hi_67 7 (by decide)).trans (hp_4 7 (by decide))))))).trans (((hp_310 7 (by decide)).trans ((hp_269 7 (by decide)).trans ((hi_67 7 (by decide)).trans (hp_4 7 (by decide)))))).symm) (hp_330 8 (by decide)) (hp_330 9 (by decide)) (hp_330 11 (by decide)) (hp_330 12 (by decide)) ((((hp_330 14 (by decide)).trans ((hp_310 14 (by decide)).trans ((hp_269 14 (by decide)).trans ((hi_67 14 (by decide)).trans ((hp_4 14 (by decide)).trans htt.symm)))))).trans (((hp_310 14 (by decide)).trans ((hp_269 14 (by decide)).trans ((hi_67 14 (by decide)).trans ((hp_4 14 (by decide)).trans htt.symm))))).symm) (hp_330 15 (by decide)) (hp_330 29 (by decide)) (fun j => (F_329.1 123 (by decide) j))
            have e_341 : wr μ327 = wr μ308 := (wr_cg (hp_330 15 (by decide)))
            have e_342 : nn μ327 = nn μ308 := (nn_cg (hp_330 15 (by decide)) (hp_330 18 (by decide)))
            have e_343 : μ327.1 111 9 = μ308.1 111 9 := (hp_330 9 (by decide))
            have e_344 : wr μ327 = wr μ308 := (wr_cg (hp_330 15 (by decide)))
            have e_345 : wr μ327 = wr μ308 := (wr_cg (hp_330 15 (by decide)))
            have e_346 : bd μ327 = bd μ308 := (bd_cg (hp_330 15 (by decide)) (hp_330 16 (by decide)) (hp_330 17 (by decide)))
            have e_347 : nn μ327 = nn μ308 := (nn_cg (hp_330 15 (by decide)) (hp_330 18 (by decide)))
            refine xc_iV G (b := 111) (rest := []) (As := [.int (iv 44)]) (c_X12_takesSign ω l μ327 44 (by unfold ir; omega) hPM_340 (by omega)) (wm 9 106 rfl rfl) (wm 9 108 rfl rfl) (wm 0 139 rfl rfl) rfl rfl (by decide) rfl (wm 1 18 rfl rfl) (wm 9 109 rfl rfl) (by decide) hR ⟨nfr hF (by decide), nlo hLo (by decide)⟩ (n := 1) rfl rfl (Nat.le_of_ble_eq_true rfl) hl.1 dX12_arguments_90 (fun r_349 μ348 ρ d0 H locs hr_r_349 hp G => ?_)
            have hr_r_349 : -2147483648 ≤ r_349 ∧ r_349 ≤ 2147483647 := hr_r_349
            obtain ⟨F_350, hp_351, hp_352, hp_353, hp_354, hp_355, hp_356⟩ := hp
            have hpl_357 := hp_352.pl
            have hw_358 := wr_r (μ := μ327)
            have hw_359 := wr_r (μ := μ348)
            have e_360 : μ348.1 111 31 = μ.1 111 31 := ((hp_351 31 (by decide)).trans ((hp_330 31 (by decide)).trans ((hp_310 31 (by decide)).trans ((hp_269 31 (by decide)).trans ((hi_67 31 (by decide)).trans (hp_4 31 (by decide)))))))
            refine lv_istore_n (lv' := [(3, .int (iv r_349)), (2, .int (iv (c9 + 1))), (4, .int (iv r_328)), (0, .ref (oP ω 111)), (1, .int (iv x1))]) hx hb dX12_arguments_93 rfl hl (by decide) rfl (fun ls hl => ?_)
            refine lv_goto (tgt := 19) hx hb dX12_arguments_94 (by decide) ?_
            have e_361 : μ348.1 111 22 = μ327.1 111 22 := (hp_351 22 (by decide))
            have e_362 : μ348.1 111 22 = μ327.1 111 22 := (hp_351 22 (by decide))
            have e_363 : μ348.1 111 29 = μ308.1 111 29 := ((hp_351 29 (by decide)).trans (hp_330 29 (by decide)))
            have e_364 : μ348.1 111 39 = μ308.1 111 39 := ((hp_351 39 (by decide)).trans (hp_330 39 (by decide)))
            have e_365 : μ348.1 111 39 = μ308.1 111 39 := ((hp_351 39 (by decide)).trans (hp_330 39 (by decide)))
            have e_366 : μ348.1 111 22 = μ327.1 111 22 := (hp_351 22 (by decide))
            have e_367 : μ348.1 111 39 = μ308.1 111 39 := ((hp_351 39 (by decide)).trans (hp_330 39 (by decide)))
            have e_368 : μ348.1 111 22 = μ327.1 111 22 := (hp_351 22 (by decide))
            have e_369 : μ348.1 111 39 = μ308.1 111 39 := ((hp_351 39 (by decide)).trans (hp_330 39 (by decide)))
            have e_370 : μ348.1 111 22 = μ327.1 111 22 := (hp_351 22 (by decide))
            have e_371 : μ348.1 111 29 = μ308.1 111 29 := ((hp_351 29 (by decide)).trans (hp_330 29 (by decide)))
            have e_373 : μ348.1 111 29 = μ308.1 111 29 := ((hp_351 29 (by decide)).trans (hp_330 29 (by decide)))
            have hX_372 : ∀ _ : Unit, bd μ348 = 0 → mPX μo μ348 tt ((x1 + c9) + 1) 1 HH (lsk r_328 ++ (wls μL62 ff (μL62.1 111 39) ++ [])) := fun _ h0 => (hX_338 () (by have e9 : bd μ327 = bd μ308 := (bd_cg (hp_330 15 (by decide)) (hp_330 16 (by decide)) (hp_330 17 (by decide))); have e8 : bd μ348 = bd μ348 := rfl; omega)).qm (q0m.fr (K := [111]) (FrM.tr FrM.rf F_350 (by decide)) (by decide) (by decide) (by decide) (hp_351 22 (by decide)) (nS.le (by omega) (Int.le_of_eq (((((hp_351 31 (by decide)).trans ((hp_330 31 (by decide)).trans ((hp_310 31 (by decide)).trans ((hp_269 31 (by decide)).trans ((hi_67 31 (by decide)).trans (hp_4 31 (by decide)))))))).trans (((hp_330 31 (by decide)).trans ((hp_310 31 (by decide)).trans ((hp_269 31 (by decide)).trans ((hi_67 31 (by decide)).trans (hp_4 31 (by decide))))))).symm)).symm)))
            have e_374 : μ348.1 111 29 = μ308.1 111 29 := ((hp_351 29 (by decide)).trans (hp_330 29 (by decide)))
            have hxt_375 : mEXT μ μ348 := hxt_333.tr (q0m.fr (K := [111]) (FrM.tr FrM.rf F_350 (by decide)) (by decide) (by decide) (by decide) (hp_351 22 (by decide)) (nS.le (by omega) (Int.le_of_eq (((((hp_351 31 (by decide)).trans ((hp_330 31 (by decide)).trans ((hp_310 31 (by decide)).trans ((hp_269 31 (by decide)).trans ((hi_67 31 (by decide)).trans (hp_4 31 (by decide)))))))).trans (((hp_330 31 (by decide)).trans ((hp_310 31 (by decide)).trans ((hp_269 31 (by decide)).trans ((hi_67 31 (by decide)).trans (hp_4 31 (by decide))))))).symm)).symm))).1
            exact ih _ _ _ _ _ _ _ (by omega) ⟨c9 + 1, r_349, (FrM.tr (FrM.tr (FrM.tr (FrM.tr FL63 F_268 (by decide)) F_309 (by decide)) F_329 (by decide)) F_350 (by decide)), (by omega), (by omega), (fun j hj => ((hp_351 j (fun h9 => hj ((by decide : ∀ x ∈ ([6, 8, 9, 10, 11, 12, 13, 15] : List Int), x ∈ ([6, 8, 9, 10, 11, 12, 13, 15, 16, 17, 18, 22, 29, 39] : List Int)) j h9))).trans ((hp_330 j (fun h9 => hj ((by decide : ∀ x ∈ ([22] : List Int), x ∈ ([6, 8, 9, 10, 11, 12, 13, 15, 16, 17, 18, 22, 29, 39] : List Int)) j h9))).trans ((hp_310 j (fun h9 => hj ((by decide : ∀ x ∈ ([6, 8, 9, 10, 11, 12, 13, 15, 16, 17, 18, 22, 29, 39] : List Int), x ∈ ([6, 8, 9, 10, 11, 12, 13, 15, 16, 17, 18, 22, 29, 39] : List Int)) j h9))).trans ((hp_269 j (fun h9 => hj ((by decide : ∀ x ∈ ([16] : List Int), x ∈ ([6, 8, 9, 10, 11, 12, 13, 15, 16, 17, 18, 22, 29, 39] : List Int)) j h9))).trans (hi_67 j (fun h9 => hj ((by decide : ∀ x ∈ ([6, 8, 9, 10, 11, 12, 13, 15, 16, 17, 18, 22, 29, 39] : List Int), x ∈ ([6, 8, 9, 10, 11, 12, 13, 15, 16, 17, 18, 22, 29, 39] : List Int)) j h9)))))))), (by omega), (by omega), (by omega), (by omega), hp_352, (by omega), (by omega), (by omega), (by omega), (by omega), (by omega), (fun j hj => ((F_350.1 126 (by decide) j).trans ((F_329.1 126 (by decide) j).trans ((hp_318 j (by omega)).trans ((F_268.1 126 (by decide) j).trans (hi_79 j (by omega))))))), (fun j h1 h2 => by rcases Int.lt_or_le j (μL62.1 111 39) with h9 | h9; (have b9 := hi_80 j h1 h9; rw [show μ348.1 126 j = μL62.1 126 j from ((F_350.1 126 (by decide) j).trans ((F_329.1 126 (by decide) j).trans ((hp_318 j (by omega)).trans (F_268.1 126 (by decide) j))))]; exact ⟨b9.1, by omega⟩); (omega)), (fun _ h0 => (((hX_372 ()) h0).ee (by omega)).mem (fun i => wls_old (fun j h1 h9 => ((F_350.1 126 (by decide) j).trans ((F_329.1 126 (by decide) j).trans ((hp_318 j (by omega)).trans (F_268.1 126 (by decide) j))))) (by omega) (by omega))), hxt_375, rfl, lv_sub hl [0, 1, 3, 4] rfl⟩ G
          · refine lv_aload_n hx hb dX12_arguments_63 rfl (lv_at hl 3 rfl) ?_
            refine xa_getr G fd_X12 (a := 111) (x := 126) 38 rfl (by decide) rfl (wm 7 187 rfl rfl) ⟨rfl, rfl, rfl⟩ dX12_arguments_64 rfl (G.sk 124 rfl) (by decide) rfl ?_
            refine lv_aload_n hx hb dX12_arguments_67 rfl (lv_at hl 3 rfl) ?_
            refine xa_geti G fd_X12 (a := 111) (x := μ308.1 111 39) 39 rfl (by decide) rfl (wm 7 188 rfl rfl) ⟨rfl, rfl, rfl⟩ dX12_arguments_68 rfl (hp_330 39 (by decide)) ?_
            have hr_376 : -2147483648 ≤ μ308.1 111 39 ∧ μ308.1 111 39 ≤ 2147483647 := by have h9 := G.hr (a := 111) (k := 39) rfl; rw [show μ327.1 111 39 = μ308.1 111 39 from (hp_330 39 (by decide))] at h9; exact h9
            refine lv_iload hx hb dX12_arguments_71 (lv_at hl 0 rfl) ?_
            have e_377 : μ327.1 111 39 = μ308.1 111 39 := (hp_330 39 (by decide))
            refine xa_iast G (a := 126) (i := μ308.1 111 39) (x := r_328) rfl (by have h9 := G.lc (a := 126) (n := 12000) 64 rfl; omega) (by unfold ir; omega) dX12_arguments_73 rfl (fun H locs G => ?_)
            refine lv_aload_n hx hb dX12_arguments_74 rfl (lv_at hl 3 rfl) ?_
            refine lv_dup hx hb dX12_arguments_75 rfl ?_
            refine xa_geti G fd_X12 (a := 111) (x := μ308.1 111 39) 39 rfl (by decide) rfl (wm 7 188 rfl rfl) ⟨rfl, rfl, rfl⟩ dX12_arguments_76 rfl ((sv_n _ (fun h9 => absurd h9.1 (by decide))).trans (hp_330 39 (by decide))) ?_
            refine lv_iconst (v := iv 1) hx hb dX12_arguments_79 rfl ?_
            refine xb_iadd hx hb dX12_arguments_80 ?_
            refine xa_puti G fd_X12 (a := 111) (x := (μ308.1 111 39) + 1) 39 (kz := 39) rfl rfl (by decide) rfl (by unfold ir; omega) (wm 7 188 rfl rfl) ⟨rfl, rfl, rfl, rfl⟩ rfl dX12_arguments_81 rfl (fun H locs G => ?_)
            refine lv_iinc (v := iv (c9 + 1)) (lv' := [(2, .int (iv (c9 + 1))), (4, .int (iv r_328)), (3, .int (iv m9)), (0, .ref (oP ω 111)), (1, .int (iv x1))]) hx hb dX12_arguments_84 hl (k := 2) rfl (by rw [show Int32.ofInt 1 = iv 1 from rfl, iv_add]) (by decide) rfl (fun ls hl => ?_)
            refine lv_aload_n hx hb dX12_arguments_87 rfl (lv_at hl 3 rfl) ?_
            refine lv_bipush (v := iv 44) hx hb dX12_arguments_88 rfl ?_
            have e_378 : (sv (sv μ327 126 (μ308.1 111 39) r_328) 111 39 ((μ308.1 111 39) + 1)).1 111 29 = μ308.1 111 29 := ((sv_n _ (by decide)).trans ((sv_n _ (fun h9 => absurd h9.1 (by decide))).trans (hp_330 29 (by decide))))
            have e_379 : wr (sv (sv μ327 126 (μ308.1 111 39) r_328) 111 39 ((μ308.1 111 39) + 1)) = wr μ308 := ((wr_cg (sv_n _ (by decide))).trans ((wr_cg (sv_n _ (fun h9 => absurd h9.1 (by decide)))).trans (wr_cg (hp_330 15 (by decide)))))
            have e_380 : bd (sv (sv μ327 126 (μ308.1 111 39) r_328) 111 39 ((μ308.1 111 39) + 1)) = bd μ308 := ((bd_cg (sv_n _ (by decide)) (sv_n _ (by decide)) (sv_n _ (by decide))).trans ((bd_cg (sv_n _ (fun h9 => absurd h9.1 (by decide))) (sv_n _ (fun h9 => absurd h9.1 (by decide))) (sv_n _ (fun h9 => absurd h9.1 (by decide)))).trans (bd_cg (hp_330 15 (by decide)) (hp_330 16 (by decide)) (hp_330 17 (by decide)))))
            have e_381 : nn (sv (sv μ327 126 (μ308.1 111 39) r_328) 111 39 ((μ308.1 111 39) + 1)) = nn μ308 := ((nn_cg (sv_n _ (by decide)) (sv_n _ (by decide))).trans ((nn_cg (sv_n _ (fun h9 => absurd h9.1 (by decide))) (sv_n _ (fun h9 => absurd h9.1 (by decide)))).trans (nn_cg (hp_330 15 (by decide)) (hp_330 18 (by decide)))))
            have e_383 : (sv (sv μ327 126 (μ308.1 111 39) r_328) 111 39 ((μ308.1 111 39) + 1)).1 111 29 = μ308.1 111 29 := ((sv_n _ (by decide)).trans ((sv_n _ (fun h9 => absurd h9.1 (by decide))).trans (hp_330 29 (by decide))))
            have hX_382 : ∀ _ : Unit, bd (sv (sv μ327 126 (μ308.1 111 39) r_328) 111 39 ((μ308.1 111 39) + 1)) = 0 → mPX μo (sv (sv μ327 126 (μ308.1 111 39) r_328) 111 39 ((μ308.1 111 39) + 1)) tt ((x1 + c9) + 1) 1 HH (lsk r_328 ++ (wls μL62 ff (μL62.1 111 39) ++ [])) := fun _ h0 => (hX_338 () (by have e9 : bd μ327 = bd μ308 := (bd_cg (hp_330 15 (by decide)) (hp_330 16 (by decide)) (hp_330 17 (by decide))); have e8 : bd (sv (sv μ327 126 (μ308.1 111 39) r_328) 111 39 ((μ308.1 111 39) + 1)) = bd μ308 := ((bd_cg (sv_n _ (by decide)) (sv_n _ (by decide)) (sv_n _ (by decide))).trans ((bd_cg (sv_n _ (fun h9 => absurd h9.1 (by decide))) (sv_n _ (fun h9 => absurd h9.1 (by decide))) (sv_n _ (fun h9 => absurd h9.1 (by decide)))).trans (bd_cg (hp_330 15 (by decide)) (hp_330 16 (by decide)) (hp_330 17 (by decide))))); omega)).qm (q0m.fr (K := [111, 126]) (FrM.put (FrM.put FrM.rf (by decide)) (by decide)) (by decide) (by decide) (by decide) ((sv_n _ (by decide)).trans (sv_n _ (fun h9 => absurd h9.1 (by decide)))) (nS.le (by omega) (Int.le_of_eq (((((sv_n _ (by decide)).trans ((sv_n _ (fun h9 => absurd h9.1 (by decide))).trans ((hp_330 31 (by decide)).trans ((hp_310 31 (by decide)).trans ((hp_269 31 (by decide)).trans ((hi_67 31 (by decide)).trans (hp_4 31 (by decide))))))))).trans (((hp_330 31 (by decide)).trans ((hp_310 31 (by decide)).trans ((hp_269 31 (by decide)).trans ((hi_67 31 (by decide)).trans (hp_4 31 (by decide))))))).symm)).symm)))
            have hPM_384 : PM (sv (sv μ327 126 (μ308.1 111 39) r_328) 111 39 ((μ308.1 111 39) + 1)) := hp_311.cg ((((sv_n _ (by decide)).trans ((sv_n _ (fun h9 => absurd h9.1 (by decide))).trans ((hp_330 4 (by decide)).trans ((hp_310 4 (by decide)).trans ((hp_269 4 (by decide)).trans ((hi_67 4 (by decide)).trans (hp_4 4 (by decide))))))))).trans (((hp_310 4 (by decide)).trans ((hp_269 4 (by decide)).trans ((hi_67 4 (by decide)).trans (hp_4 4 (by decide)))))).symm) ((sv_n _ (by decide)).trans ((sv_n _ (fun h9 => absurd h9.1 (by decide))).trans (hp_330 6 (by decide)))) ((((sv_n _ (by decide)).trans ((sv_n _ (fun h9 => absurd h9.1 (by decide))).trans ((hp_330 7 (by decide)).trans ((hp_310 7 (by decide)).trans ((hp_269 7 (by decide)).trans ((hi_67 7 (by decide)).trans (hp_4 7 (by decide))))))))).trans (((hp_310 7 (by decide)).trans ((hp_269 7 (by decide)).trans ((hi_67 7 (by decide)).trans (hp_4 7 (by decide)))))).symm) ((sv_n _ (by decide)).trans ((sv_n _ (fun h9 => absurd h9.1 (by decide))).trans (hp_330 8 (by decide)))) ((sv_n _ (by decide)).trans ((sv_n _ (fun h9 => absurd h9.1 (by decide))).trans (hp_330 9 (by decide)))) ((sv_n _ (by decide)).trans ((sv_n _ (fun h9 => absurd h9.1 (by decide))).trans (hp_330 11 (by decide)))) ((sv_n _ (by decide)).trans ((sv_n _ (fun h9 => absurd h9.1 (by decide))).trans (hp_330 12 (by decide)))) ((((sv_n _ (by decide)).trans ((sv_n _ (fun h9 => absurd h9.1 (by decide))).trans ((hp_330 14 (by decide)).trans ((hp_310 14 (by decide)).trans ((hp_269 14 (by decide)).trans ((hi_67 14 (by decide)).trans ((hp_4 14 (by decide)).trans htt.symm)))))))).trans (((hp_310 14 (by decide)).trans ((hp_269 14 (by decide)).trans ((hi_67 14 (by decide)).trans ((hp_4 14 (by decide)).trans htt.symm))))).symm) ((sv_n _ (by decide)).trans ((sv_n _ (fun h9 => absurd h9.1 (by decide))).trans (hp_330 15 (by decide)))) ((sv_n _ (by decide)).trans ((sv_n _ (fun h9 => absurd h9.1 (by decide))).trans (hp_330 29 (by decide)))) (fun j => ((sv_n _ (by omega)).trans ((sv_n _ (by omega)).trans (F_329.1 123 (by decide) j))))
            have e_385 : wr (sv (sv μ327 126 (μ308.1 111 39) r_328) 111 39 ((μ308.1 111 39) + 1)) = wr μ308 := ((wr_cg (sv_n _ (by decide))).trans ((wr_cg (sv_n _ (fun h9 => absurd h9.1 (by decide)))).trans (wr_cg (hp_330 15 (by decide)))))
            have e_386 : nn (sv (sv μ327 126 (μ308.1 111 39) r_328) 111 39 ((μ308.1 111 39) + 1)) = nn μ308 := ((nn_cg (sv_n _ (by decide)) (sv_n _ (by decide))).trans ((nn_cg (sv_n _ (fun h9 => absurd h9.1 (by decide))) (sv_n _ (fun h9 => absurd h9.1 (by decide)))).trans (nn_cg (hp_330 15 (by decide)) (hp_330 18 (by decide)))))
            have e_387 : (sv (sv μ327 126 (μ308.1 111 39) r_328) 111 39 ((μ308.1 111 39) + 1)).1 111 9 = μ308.1 111 9 := ((sv_n _ (by decide)).trans ((sv_n _ (fun h9 => absurd h9.1 (by decide))).trans (hp_330 9 (by decide))))
            have e_388 : wr (sv (sv μ327 126 (μ308.1 111 39) r_328) 111 39 ((μ308.1 111 39) + 1)) = wr μ308 := ((wr_cg (sv_n _ (by decide))).trans ((wr_cg (sv_n _ (fun h9 => absurd h9.1 (by decide)))).trans (wr_cg (hp_330 15 (by decide)))))
            have e_389 : wr (sv (sv μ327 126 (μ308.1 111 39) r_328) 111 39 ((μ308.1 111 39) + 1)) = wr μ308 := ((wr_cg (sv_n _ (by decide))).trans ((wr_cg (sv_n _ (fun h9 => absurd h9.1 (by decide)))).trans (wr_cg (hp_330 15 (by decide)))))
            have e_390 : bd (sv (sv μ327 126 (μ308.1 111 39) r_328) 111 39 ((μ308.1 111 39) + 1)) = bd μ308 := ((bd_cg (sv_n _ (by decide)) (sv_n _ (by decide)) (sv_n _ (by decide))).trans ((bd_cg (sv_n _ (fun h9 => absurd h9.1 (by decide))) (sv_n _ (fun h9 => absurd h9.1 (by decide))) (sv_n _ (fun h9 => absurd h9.1 (by decide)))).trans (bd_cg (hp_330 15 (by decide)) (hp_330 16 (by decide)) (hp_330 17 (by decide)))))
            have e_391 : nn (sv (sv μ327 126 (μ308.1 111 39) r_328) 111 39 ((μ308.1 111 39) + 1)) = nn μ308 := ((nn_cg (sv_n _ (by decide)) (sv_n _ (by decide))).trans ((nn_cg (sv_n _ (fun h9 => absurd h9.1 (by decide))) (sv_n _ (fun h9 => absurd h9.1 (by decide)))).trans (nn_cg (hp_330 15 (by decide)) (hp_330 18 (by decide)))))
            refine xc_iV G (b := 111) (rest := []) (As := [.int (iv 44)]) (c_X12_takesSign ω l (sv (sv μ327 126 (μ308.1 111 39) r_328) 111 39 ((μ308.1 111 39) + 1)) 44 (by unfold ir; omega) hPM_384 (by omega)) (wm 9 106 rfl rfl) (wm 9 108 rfl rfl) (wm 0 139 rfl rfl) rfl rfl (by decide) rfl (wm 1 18 rfl rfl) (wm 9 109 rfl rfl) (by decide) hR ⟨nfr hF (by decide), nlo hLo (by decide)⟩ (n := 1) rfl rfl (Nat.le_of_ble_eq_true rfl) hl.1 dX12_arguments_90 (fun r_393 μ392 ρ d0 H locs hr_r_393 hp G => ?_)
            have hr_r_393 : -2147483648 ≤ r_393 ∧ r_393 ≤ 2147483647 := hr_r_393
            obtain ⟨F_394, hp_395, hp_396, hp_397, hp_398, hp_399, hp_400⟩ := hp
            have hpl_401 := hp_396.pl
            have hw_402 := wr_r (μ := μ392)
            have e_403 : μ392.1 111 31 = μ.1 111 31 := ((hp_395 31 (by decide)).trans ((sv_n _ (by decide)).trans ((sv_n _ (fun h9 => absurd h9.1 (by decide))).trans ((hp_330 31 (by decide)).trans ((hp_310 31 (by decide)).trans ((hp_269 31 (by decide)).trans ((hi_67 31 (by decide)).trans (hp_4 31 (by decide)))))))))
            refine lv_istore_n (lv' := [(3, .int (iv r_393)), (2, .int (iv (c9 + 1))), (4, .int (iv r_328)), (0, .ref (oP ω 111)), (1, .int (iv x1))]) hx hb dX12_arguments_93 rfl hl (by decide) rfl (fun ls hl => ?_)
            refine lv_goto (tgt := 19) hx hb dX12_arguments_94 (by decide) ?_
            have e_404 : μ392.1 111 22 = μ327.1 111 22 := ((hp_395 22 (by decide)).trans ((sv_n _ (by decide)).trans (sv_n _ (fun h9 => absurd h9.1 (by decide)))))
            have e_405 : μ392.1 111 22 = μ327.1 111 22 := ((hp_395 22 (by decide)).trans ((sv_n _ (by decide)).trans (sv_n _ (fun h9 => absurd h9.1 (by decide)))))
            have e_406 : μ392.1 111 29 = μ308.1 111 29 := ((hp_395 29 (by decide)).trans ((sv_n _ (by decide)).trans ((sv_n _ (fun h9 => absurd h9.1 (by decide))).trans (hp_330 29 (by decide)))))
            have e_407 : μ392.1 111 39 = (μ308.1 111 39) + 1 := ((hp_395 39 (by decide)).trans (sv_s _ _ _ _))
            have e_408 : μ392.1 111 39 = (μ308.1 111 39) + 1 := ((hp_395 39 (by decide)).trans (sv_s _ _ _ _))
            have e_409 : μ392.1 111 22 = μ327.1 111 22 := ((hp_395 22 (by decide)).trans ((sv_n _ (by decide)).trans (sv_n _ (fun h9 => absurd h9.1 (by decide)))))
            have e_410 : μ392.1 111 39 = (μ308.1 111 39) + 1 := ((hp_395 39 (by decide)).trans (sv_s _ _ _ _))
            have e_411 : μ392.1 111 22 = μ327.1 111 22 := ((hp_395 22 (by decide)).trans ((sv_n _ (by decide)).trans (sv_n _ (fun h9 => absurd h9.1 (by decide)))))
            have e_412 : μ392.1 111 39 = (μ308.1 111 39) + 1 := ((hp_395 39 (by decide)).trans (sv_s _ _ _ _))
            have e_413 : μ392.1 111 22 = μ327.1 111 22 := ((hp_395 22 (by decide)).trans ((sv_n _ (by decide)).trans (sv_n _ (fun h9 => absurd h9.1 (by decide)))))
            have e_414 : μ392.1 111 29 = μ308.1 111 29 := ((hp_395 29 (by decide)).trans ((sv_n _ (by decide)).trans ((sv_n _ (fun h9 => absurd h9.1 (by decide))).trans (hp_330 29 (by decide)))))
            have e_416 : μ392.1 111 29 = μ308.1 111 29 := ((hp_395 29 (by decide)).trans ((sv_n _ (by decide)).trans ((sv_n _ (fun h9 => absurd h9.1 (by decide))).trans (hp_330 29 (by decide)))))
            have hX_415 : ∀ _ : Unit, bd μ392 = 0 → mPX μo μ392 tt ((x1 + c9) + 1) 1 HH (lsk r_328 ++ (wls μL62 ff (μL62.1 111 39) ++ [])) := fun _ h0 => (hX_382 () (by have e9 : bd (sv (sv μ327 126 (μ308.1 111 39) r_328) 111 39 ((μ308.1 111 39) + 1)) = bd μ308 := ((bd_cg (sv_n _ (by decide)) (sv_n _ (by decide)) (sv_n _ (by decide))).trans ((bd_cg (sv_n _ (fun h9 => absurd h9.1 (by decide))) (sv_n _ (fun h9 => absurd h9.1 (by decide))) (sv_n _ (fun h9 => absurd h9.1 (by decide)))).trans (bd_cg (hp_330 15 (by decide)) (hp_330 16 (by decide)) (hp_330 17 (by decide))))); have e8 : bd μ392 = bd μ392 := rfl; omega)).qm (q0m.fr (K := [111]) (FrM.tr FrM.rf F_394 (by decide)) (by decide) (by decide) (by decide) ((((hp_395 22 (by decide)).trans ((sv_n _ (by decide)).trans (sv_n _ (fun h9 => absurd h9.1 (by decide)))))).trans (((sv_n _ (by decide)).trans (sv_n _ (fun h9 => absurd h9.1 (by decide))))).symm) (nS.le (by omega) (Int.le_of_eq (((((hp_395 31 (by decide)).trans ((sv_n _ (by decide)).trans ((sv_n _ (fun h9 => absurd h9.1 (by decide))).trans ((hp_330 31 (by decide)).trans ((hp_310 31 (by decide)).trans ((hp_269 31 (by decide)).trans ((hi_67 31 (by decide)).trans (hp_4 31 (by decide)))))))))).trans (((sv_n _ (by decide)).trans ((sv_n _ (fun h9 => absurd h9.1 (by decide))).trans ((hp_330 31 (by decide)).trans ((hp_310 31 (by decide)).trans ((hp_269 31 (by decide)).trans ((hi_67 31 (by decide)).trans (hp_4 31 (by decide))))))))).symm)).symm)))
            have e_417 : μ392.1 111 29 = μ308.1 111 29 := ((hp_395 29 (by decide)).trans ((sv_n _ (by decide)).trans ((sv_n _ (fun h9 => absurd h9.1 (by decide))).trans (hp_330 29 (by decide)))))
            have hxt_418 : mEXT μ μ392 := hxt_333.tr (q0m.fr (K := [111, 126]) (FrM.tr (FrM.put (FrM.put FrM.rf (by decide)) (by decide)) F_394 (by decide)) (by decide) (by decide) (by decide) ((hp_395 22 (by decide)).trans ((sv_n _ (by decide)).trans (sv_n _ (fun h9 => absurd h9.1 (by decide))))) (nS.le (by omega) (Int.le_of_eq (((((hp_395 31 (by decide)).trans ((sv_n _ (by decide)).trans ((sv_n _ (fun h9 => absurd h9.1 (by decide))).trans ((hp_330 31 (by decide)).trans ((hp_310 31 (by decide)).trans ((hp_269 31 (by decide)).trans ((hi_67 31 (by decide)).trans (hp_4 31 (by decide)))))))))).trans (((hp_330 31 (by decide)).trans ((hp_310 31 (by decide)).trans ((hp_269 31 (by decide)).trans ((hi_67 31 (by decide)).trans (hp_4 31 (by decide))))))).symm)).symm))).1
            exact ih _ _ _ _ _ _ _ (by omega) ⟨c9 + 1, r_393, (FrM.tr (FrM.put (FrM.put (FrM.tr (FrM.tr (FrM.tr FL63 F_268 (by decide)) F_309 (by decide)) F_329 (by decide)) (by decide)) (by decide)) F_394 (by decide)), (by omega), (by omega), (fun j hj => ((hp_395 j (fun h9 => hj ((by decide : ∀ x ∈ ([6, 8, 9, 10, 11, 12, 13, 15] : List Int), x ∈ ([6, 8, 9, 10, 11, 12, 13, 15, 16, 17, 18, 22, 29, 39] : List Int)) j h9))).trans ((sv_n _ (fun h9 => hj (by rw [h9.2]; decide))).trans ((sv_n _ (fun h9 => absurd h9.1 (by decide))).trans ((hp_330 j (fun h9 => hj ((by decide : ∀ x ∈ ([22] : List Int), x ∈ ([6, 8, 9, 10, 11, 12, 13, 15, 16, 17, 18, 22, 29, 39] : List Int)) j h9))).trans ((hp_310 j (fun h9 => hj ((by decide : ∀ x ∈ ([6, 8, 9, 10, 11, 12, 13, 15, 16, 17, 18, 22, 29, 39] : List Int), x ∈ ([6, 8, 9, 10, 11, 12, 13, 15, 16, 17, 18, 22, 29, 39] : List Int)) j h9))).trans ((hp_269 j (fun h9 => hj ((by decide : ∀ x ∈ ([16] : List Int), x ∈ ([6, 8, 9, 10, 11, 12, 13, 15, 16, 17, 18, 22, 29, 39] : List Int)) j h9))).trans (hi_67 j (fun h9 => hj ((by decide : ∀ x ∈ ([6, 8, 9, 10, 11, 12, 13, 15, 16, 17, 18, 22, 29, 39] : List Int), x ∈ ([6, 8, 9, 10, 11, 12, 13, 15, 16, 17, 18, 22, 29, 39] : List Int)) j h9)))))))))), (by omega), (by omega), (by omega), (by omega), hp_396, (by omega), (by omega), (by omega), (by omega), (by omega), (by omega), (fun j hj => ((F_394.1 126 (by decide) j).trans ((sv_n _ (fun h9 => absurd h9.1 (by decide))).trans ((sv_n _ (by omega)).trans ((F_329.1 126 (by decide) j).trans ((hp_318 j (by omega)).trans ((F_268.1 126 (by decide) j).trans (hi_79 j (by omega))))))))), (fun j h1 h2 => by rcases Int.lt_or_le j (μL62.1 111 39) with h9 | h9; (have b9 := hi_80 j h1 h9; rw [show μ392.1 126 j = μL62.1 126 j from ((F_394.1 126 (by decide) j).trans ((sv_n _ (fun h9 => absurd h9.1 (by decide))).trans ((sv_n _ (by omega)).trans ((F_329.1 126 (by decide) j).trans ((hp_318 j (by omega)).trans (F_268.1 126 (by decide) j))))))]; exact ⟨b9.1, by omega⟩); (rw [show j = μ308.1 111 39 by omega, show μ392.1 126 (μ308.1 111 39) = r_328 from ((F_394.1 126 (by decide) (μ308.1 111 39)).trans ((sv_n _ (fun h9 => absurd h9.1 (by decide))).trans (sv_s _ _ _ _)))]; omega)), (fun _ h0 => (((hX_415 ()) h0).ee (by omega)).mem (fun i => wls_new (by omega) (fun j h1 h9 => ((F_394.1 126 (by decide) j).trans ((sv_n _ (fun h9 => absurd h9.1 (by decide))).trans ((sv_n _ (by omega)).trans ((F_329.1 126 (by decide) j).trans ((hp_318 j (by omega)).trans (F_268.1 126 (by decide) j))))))) (by omega) (by rw [show μL62.1 111 39 = μ308.1 111 39 by omega]; exact ((F_394.1 126 (by decide) (μ308.1 111 39)).trans ((sv_n _ (fun h9 => absurd h9.1 (by decide))).trans (sv_s _ _ _ _)))) (by omega))), hxt_418, rfl, lv_sub hl [0, 1, 3, 4] rfl⟩ G
