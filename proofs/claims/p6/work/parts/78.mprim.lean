abbrev cX12_arguments : ByteArray := prog_14_method_70_code
def yX12_arguments : MethodName := ⟨RX12, "arguments", "(I)I"⟩
abbrev cX12_landsFrom : ByteArray := prog_14_method_71_code
def yX12_landsFrom : MethodName := ⟨RX12, "landsFrom", "(I)V"⟩
theorem dX12_arguments_0 : decode cX12_arguments 0 = .ok (.iconst 0, 1) := by decide +kernel
theorem dX12_arguments_1 : decode cX12_arguments 1 = .ok (.istore_n 2, 1) := by decide +kernel
theorem dX12_arguments_2 : decode cX12_arguments 2 = .ok (.aload_n 0, 1) := by decide +kernel
theorem dX12_arguments_3 : decode cX12_arguments 3 = .ok (.bipush 40, 2) := by decide +kernel
theorem dX12_arguments_5 : decode cX12_arguments 5 = .ok (.invokevirtual 378, 3) := by decide +kernel
theorem dX12_arguments_8 : decode cX12_arguments 8 = .ok (.aload_n 0, 1) := by decide +kernel
theorem dX12_arguments_9 : decode cX12_arguments 9 = .ok (.bipush 41, 2) := by decide +kernel
theorem dX12_arguments_11 : decode cX12_arguments 11 = .ok (.invokevirtual 292, 3) := by decide +kernel
theorem dX12_arguments_14 : decode cX12_arguments 14 = .ok (.ifCond .ne 83, 3) := by decide +kernel
theorem dX12_arguments_17 : decode cX12_arguments 17 = .ok (.iconst 1, 1) := by decide +kernel
theorem dX12_arguments_18 : decode cX12_arguments 18 = .ok (.istore_n 3, 1) := by decide +kernel
theorem dX12_arguments_19 : decode cX12_arguments 19 = .ok (.iload_n 3, 1) := by decide +kernel
theorem dX12_arguments_20 : decode cX12_arguments 20 = .ok (.ifCond .eq 77, 3) := by decide +kernel
theorem dX12_arguments_23 : decode cX12_arguments 23 = .ok (.aload_n 0, 1) := by decide +kernel
theorem dX12_arguments_24 : decode cX12_arguments 24 = .ok (.invokevirtual 215, 3) := by decide +kernel
theorem dX12_arguments_27 : decode cX12_arguments 27 = .ok (.ifCond .ne 70, 3) := by decide +kernel
theorem dX12_arguments_30 : decode cX12_arguments 30 = .ok (.iload_n 2, 1) := by decide +kernel
theorem dX12_arguments_31 : decode cX12_arguments 31 = .ok (.bipush 8, 2) := by decide +kernel
theorem dX12_arguments_33 : decode cX12_arguments 33 = .ok (.if_icmp .ne 11, 3) := by decide +kernel
theorem dX12_arguments_36 : decode cX12_arguments 36 = .ok (.aload_n 0, 1) := by decide +kernel
theorem dX12_arguments_37 : decode cX12_arguments 37 = .ok (.aload_n 0, 1) := by decide +kernel
theorem dX12_arguments_38 : decode cX12_arguments 38 = .ok (.getfield 222, 3) := by decide +kernel
theorem dX12_arguments_41 : decode cX12_arguments 41 = .ok (.invokevirtual 359, 3) := by decide +kernel
theorem dX12_arguments_44 : decode cX12_arguments 44 = .ok (.aload_n 0, 1) := by decide +kernel
theorem dX12_arguments_45 : decode cX12_arguments 45 = .ok (.invokevirtual 402, 3) := by decide +kernel
theorem dX12_arguments_48 : decode cX12_arguments 48 = .ok (.aload_n 0, 1) := by decide +kernel
theorem dX12_arguments_49 : decode cX12_arguments 49 = .ok (.iload_n 1, 1) := by decide +kernel
theorem dX12_arguments_50 : decode cX12_arguments 50 = .ok (.iload_n 2, 1) := by decide +kernel
theorem dX12_arguments_51 : decode cX12_arguments 51 = .ok (.iadd, 1) := by decide +kernel
theorem dX12_arguments_52 : decode cX12_arguments 52 = .ok (.invokevirtual 468, 3) := by decide +kernel
theorem dX12_arguments_55 : decode cX12_arguments 55 = .ok (.istore 4, 2) := by decide +kernel
theorem dX12_arguments_57 : decode cX12_arguments 57 = .ok (.iload 4, 2) := by decide +kernel
theorem dX12_arguments_59 : decode cX12_arguments 59 = .ok (.iconst (-1), 1) := by decide +kernel
theorem dX12_arguments_60 : decode cX12_arguments 60 = .ok (.if_icmp .eq 24, 3) := by decide +kernel
theorem dX12_arguments_63 : decode cX12_arguments 63 = .ok (.aload_n 0, 1) := by decide +kernel
theorem dX12_arguments_64 : decode cX12_arguments 64 = .ok (.getfield 54, 3) := by decide +kernel
theorem dX12_arguments_67 : decode cX12_arguments 67 = .ok (.aload_n 0, 1) := by decide +kernel
theorem dX12_arguments_68 : decode cX12_arguments 68 = .ok (.getfield 505, 3) := by decide +kernel
theorem dX12_arguments_71 : decode cX12_arguments 71 = .ok (.iload 4, 2) := by decide +kernel
theorem dX12_arguments_73 : decode cX12_arguments 73 = .ok (.iastore, 1) := by decide +kernel
theorem dX12_arguments_74 : decode cX12_arguments 74 = .ok (.aload_n 0, 1) := by decide +kernel
theorem dX12_arguments_75 : decode cX12_arguments 75 = .ok (.dup, 1) := by decide +kernel
theorem dX12_arguments_76 : decode cX12_arguments 76 = .ok (.getfield 505, 3) := by decide +kernel
theorem dX12_arguments_79 : decode cX12_arguments 79 = .ok (.iconst 1, 1) := by decide +kernel
theorem dX12_arguments_80 : decode cX12_arguments 80 = .ok (.iadd, 1) := by decide +kernel
theorem dX12_arguments_81 : decode cX12_arguments 81 = .ok (.putfield 505, 3) := by decide +kernel
theorem dX12_arguments_84 : decode cX12_arguments 84 = .ok (.iinc 2 1, 3) := by decide +kernel
theorem dX12_arguments_87 : decode cX12_arguments 87 = .ok (.aload_n 0, 1) := by decide +kernel
theorem dX12_arguments_88 : decode cX12_arguments 88 = .ok (.bipush 44, 2) := by decide +kernel
theorem dX12_arguments_90 : decode cX12_arguments 90 = .ok (.invokevirtual 301, 3) := by decide +kernel
theorem dX12_arguments_93 : decode cX12_arguments 93 = .ok (.istore_n 3, 1) := by decide +kernel
theorem dX12_arguments_94 : decode cX12_arguments 94 = .ok (.goto (-75), 3) := by decide +kernel
theorem dX12_arguments_97 : decode cX12_arguments 97 = .ok (.aload_n 0, 1) := by decide +kernel
theorem dX12_arguments_98 : decode cX12_arguments 98 = .ok (.bipush 41, 2) := by decide +kernel
theorem dX12_arguments_100 : decode cX12_arguments 100 = .ok (.invokevirtual 387, 3) := by decide +kernel
theorem dX12_arguments_103 : decode cX12_arguments 103 = .ok (.iload_n 2, 1) := by decide +kernel
theorem dX12_arguments_104 : decode cX12_arguments 104 = .ok (.ireturn, 1) := by decide +kernel
theorem dX12_landsFrom_0 : decode cX12_landsFrom 0 = .ok (.aload_n 0, 1) := by decide +kernel
theorem dX12_landsFrom_1 : decode cX12_landsFrom 1 = .ok (.getfield 505, 3) := by decide +kernel
theorem dX12_landsFrom_4 : decode cX12_landsFrom 4 = .ok (.iload_n 1, 1) := by decide +kernel
theorem dX12_landsFrom_5 : decode cX12_landsFrom 5 = .ok (.if_icmp .le 29, 3) := by decide +kernel
theorem dX12_landsFrom_8 : decode cX12_landsFrom 8 = .ok (.aload_n 0, 1) := by decide +kernel
theorem dX12_landsFrom_9 : decode cX12_landsFrom 9 = .ok (.dup, 1) := by decide +kernel
theorem dX12_landsFrom_10 : decode cX12_landsFrom 10 = .ok (.getfield 505, 3) := by decide +kernel
theorem dX12_landsFrom_13 : decode cX12_landsFrom 13 = .ok (.iconst 1, 1) := by decide +kernel
theorem dX12_landsFrom_14 : decode cX12_landsFrom 14 = .ok (.isub, 1) := by decide +kernel
theorem dX12_landsFrom_15 : decode cX12_landsFrom 15 = .ok (.putfield 505, 3) := by decide +kernel
theorem dX12_landsFrom_18 : decode cX12_landsFrom 18 = .ok (.aload_n 0, 1) := by decide +kernel
theorem dX12_landsFrom_19 : decode cX12_landsFrom 19 = .ok (.aload_n 0, 1) := by decide +kernel
theorem dX12_landsFrom_20 : decode cX12_landsFrom 20 = .ok (.getfield 54, 3) := by decide +kernel
theorem dX12_landsFrom_23 : decode cX12_landsFrom 23 = .ok (.aload_n 0, 1) := by decide +kernel
theorem dX12_landsFrom_24 : decode cX12_landsFrom 24 = .ok (.getfield 505, 3) := by decide +kernel
theorem dX12_landsFrom_27 : decode cX12_landsFrom 27 = .ok (.iaload, 1) := by decide +kernel
theorem dX12_landsFrom_28 : decode cX12_landsFrom 28 = .ok (.invokevirtual 421, 3) := by decide +kernel
theorem dX12_landsFrom_31 : decode cX12_landsFrom 31 = .ok (.goto (-31), 3) := by decide +kernel
theorem dX12_landsFrom_34 : decode cX12_landsFrom 34 = .ok (.return_, 1) := by decide +kernel
/-- what waits: numbers f to n of the list -/
def wls (μ : M3) (f n : Int) : List Int := (List.range (n - f).toNat).map (fun k : Nat => μ.1 126 (f + (k : Int)))
theorem mem_wls {μ : M3} {f n i : Int} : i ∈ wls μ f n ↔ ∃ k, (f ≤ k ∧ k < n) ∧ i = μ.1 126 k := by
  unfold wls
  rw [List.mem_map]
  constructor
  · intro h
    obtain ⟨a, ha, hi⟩ := h
    have := List.mem_range.1 ha
    exact ⟨f + (a : Int), ⟨by omega, by omega⟩, hi.symm⟩
  · intro h
    obtain ⟨k, hk, hi⟩ := h
    exact ⟨(k - f).toNat, List.mem_range.2 (by omega), by rw [show f + ((k - f).toNat : Int) = k by omega]; exact hi.symm⟩
theorem mAIM.mem {μ ν : M3} {T : Int} {L K : List Int} (h : mAIM μ ν L T) (e : ∀ i, i ∈ K ↔ i ∈ L) : mAIM μ ν K T := ⟨h.1, h.2.1, fun i hi => h.2.2.1 i ((e i).1 hi), fun i k hk hi hn => h.2.2.2 i k hk hi (fun q z => hn q ((e i).2 z))⟩
theorem mPX.mem {μ ν : M3} {t e w H : Int} {L K : List Int} (h : mPX μ ν t e w H L) (q : ∀ i, i ∈ K ↔ i ∈ L) : mPX μ ν t e w H K := by
  obtain ⟨h1, h2, h3, h4⟩ := h
  refine ⟨h1, h2.mn (Int.le_refl _) (Int.le_refl _) (fun i _ _ z => (q i).2 z), fun z => ?_, fun i hi => h4 i ((q i).1 hi)⟩
  cases K with
  | nil => exact absurd rfl z
  | cons a K => exact h3 (fun y => by have := (q a).1 (List.mem_cons_self ..); rw [y] at this; cases this)
theorem mAIM.w0 {μ : M3} {n T : Int} : mAIM μ μ (wls μ n n) T := (mAIM.nil q0m.rf).mem (fun i => by
  rw [mem_wls]
  constructor
  · intro h
    obtain ⟨k, hk, _⟩ := h
    omega
  · intro h
    cases h)
theorem mAIM.wst {μo μ ν π : M3} {T n m N q : Int} (h : mAIM μo μ (wls μo n N) T) (g : q0m μ ν) (l : mMF ν π q (ν.1 111 22)) (hT : ν.1 111 22 = T) (hq : q = μo.1 126 (n - 1)) (hm : m = n - 1) (hn : n ≤ N) : mAIM μo π (wls μo m N) T := by
  rw [hT] at l
  rw [← hm] at hq
  refine ((h.qm g).tr (mAIM.one l)).mem (fun i => ?_)
  rw [List.mem_append, mem_wls, mem_wls, List.mem_singleton]
  constructor
  · intro z
    obtain ⟨k, hk, hi⟩ := z
    by_cases e : k = m
    · exact Or.inr (by rw [hi, e, hq])
    · exact Or.inl ⟨k, by omega, hi⟩
  · intro z
    rcases z with ⟨k, hk, hi⟩ | z
    · exact ⟨k, by omega, hi⟩
    · exact ⟨m, by omega, by rw [z, hq]⟩
theorem wls_new {μ ν : M3} {f n m r i : Int} (hf : f ≤ n) (k : ∀ j, f ≤ j → j < n → ν.1 126 j = μ.1 126 j) (hr : r ≠ -1) (hv : ν.1 126 n = r) (hm : m = n + 1) : i ∈ wls ν f m ↔ i ∈ lsk r ++ (wls μ f n ++ []) := by
  rw [List.append_nil, List.mem_append, mem_wls, mem_wls, mem_lsk, hm]
  constructor
  · intro z
    obtain ⟨j, hj, hi⟩ := z
    by_cases e : j = n
    · exact Or.inl ⟨hr, by rw [hi, e, hv]⟩
    · exact Or.inr ⟨j, by omega, by rw [hi, k j hj.1 (by omega)]⟩
  · intro z
    rcases z with ⟨_, z⟩ | ⟨j, hj, hi⟩
    · exact ⟨n, by omega, by rw [z, hv]⟩
    · exact ⟨j, by omega, by rw [hi, k j hj.1 hj.2]⟩
theorem wls_old {μ ν : M3} {f n m r i : Int} (k : ∀ j, f ≤ j → j < n → ν.1 126 j = μ.1 126 j) (hr : r = -1) (hm : m = n) : i ∈ wls ν f m ↔ i ∈ lsk r ++ (wls μ f n ++ []) := by
  rw [List.append_nil, List.mem_append, mem_wls, mem_wls, mem_lsk, hm]
  constructor
  · intro z
    obtain ⟨j, hj, hi⟩ := z
    exact Or.inr ⟨j, hj, by rw [hi, k j hj.1 hj.2]⟩
  · intro z
    rcases z with ⟨z, _⟩ | ⟨j, hj, hi⟩
    · exact absurd hr z
    · exact ⟨j, hj, by rw [hi, k j hj.1 hj.2]⟩
theorem wls_cg {μ ν : M3} {f n m i : Int} (k : ∀ j, f ≤ j → j < n → ν.1 126 j = μ.1 126 j) (hm : m = n) : i ∈ wls ν f m ↔ i ∈ wls μ f n ++ [] := by
  rw [List.append_nil, mem_wls, mem_wls, hm]
  constructor
  · intro z
    obtain ⟨j, hj, hi⟩ := z
    exact ⟨j, hj, by rw [hi, k j hj.1 hj.2]⟩
  · intro z
    obtain ⟨j, hj, hi⟩ := z
    exact ⟨j, hj, by rw [hi, k j hj.1 hj.2]⟩
set_option maxHeartbeats 4000000 in
set_option maxRecDepth 100000 in
theorem c_X12_landsFrom (ω : Om) (l : Launch) (μ : M3) (x1 : Int) (hx1 : ir x1) (hcd : 0 ≤ μ.1 111 22 ∧ μ.1 111 22 ≤ 8995) (hW : 0 ≤ x1 ∧ x1 ≤ μ.1 111 39 ∧ μ.1 111 39 ≤ μ.1 111 22) (hwk : ∀ j, x1 ≤ j → j < μ.1 111 39 → 0 ≤ μ.1 126 j ∧ μ.1 126 j < μ.1 111 22) : CtV ω l yX12_landsFrom cX12_landsFrom 2 1 21 [.ref (oP ω 111), .int (iv x1)] μ (fun (μ' : M3) => (Fr [111, 116] μ μ') ∧ (∀ j, j ∉ ([39] : List Int) → μ'.1 111 j = μ.1 111 j) ∧ (mAIM μ μ' (wls μ x1 (μ.1 111 39)) (μ.1 111 22)) ∧ (μ'.1 111 39 = x1)) := by
  refine CtV.go (by decide) (Nat.le_of_ble_eq_true rfl) (fun ρ p e s m below meth c R ls G hR hret hlk hl => ?_)
  have hx := G.1.1
  have hb := G.1.2.1
  have hl : lv_has ls 2 [(0, .ref (oP ω 111)), (1, .int (iv x1))] := hl
  generalize s.drawn = d0 at G ⊢
  have hr_x1 : -2147483648 ≤ x1 ∧ x1 ≤ 2147483647 := hx1
  refine xl (fun n_9 μ' ls => (Fr [111, 116] μ μ') ∧ (∀ j, j ∉ ([39] : List Int) → μ'.1 111 j = μ.1 111 j) ∧ (x1 ≤ μ'.1 111 39 ∧ μ'.1 111 39 ≤ μ.1 111 39) ∧ (mAIM μ μ' (wls μ (μ'.1 111 39) (μ.1 111 39)) (μ.1 111 22)) ∧ n_9 = Int.toNat (μ'.1 111 39) ∧ lv_has ls 2 [(0, .ref (oP ω 111)), (1, .int (iv x1))]) (fun n_9 ρ μL1 d0 H locs ls hI_l G ih => ?_) _ _ _ _ _ _ _ ⟨Fr.rf, (fun j hj => rfl), (by omega), mAIM.w0, rfl, lv_sub hl [0, 1] rfl⟩ G
  obtain ⟨FL2, hi_4, hi_5, hi_6, hn3, hl⟩ := hI_l
  refine lv_aload_n hx hb dX12_landsFrom_0 rfl (lv_at hl 0 rfl) ?_
  refine xa_geti G fd_X12 (a := 111) (x := μL1.1 111 39) 39 rfl (by decide) rfl (wm 7 188 rfl rfl) ⟨rfl, rfl, rfl⟩ dX12_landsFrom_1 rfl rfl ?_
  have hr_7 : -2147483648 ≤ μL1.1 111 39 ∧ μL1.1 111 39 ≤ 2147483647 := by have h9 := G.hr (a := 111) (k := 39) rfl; exact h9
  refine lv_iload_n hx hb dX12_landsFrom_4 rfl (lv_at hl 1 rfl) ?_
  refine xb_icmp_le (tgt := 34) hx hb (by unfold ir; omega) (by unfold ir; omega) dX12_landsFrom_5 (by decide) (fun c_5 => ?_) (fun c_5 => ?_)
  · exact xr_v G hret hlk dX12_landsFrom_34 ⟨(Fr.tr Fr.rf FL2 (by decide)), (fun j hj => (hi_4 j (fun h9 => hj ((by decide : ∀ x ∈ ([39] : List Int), x ∈ ([39] : List Int)) j h9)))), (by have h9 := hi_6; rw [show μL1.1 111 39 = x1 by omega] at h9; exact h9), (by omega)⟩
  · refine lv_aload_n hx hb dX12_landsFrom_8 rfl (lv_at hl 0 rfl) ?_
    refine lv_dup hx hb dX12_landsFrom_9 rfl ?_
    refine xa_geti G fd_X12 (a := 111) (x := μL1.1 111 39) 39 rfl (by decide) rfl (wm 7 188 rfl rfl) ⟨rfl, rfl, rfl⟩ dX12_landsFrom_10 rfl rfl ?_
    refine lv_iconst (v := iv 1) hx hb dX12_landsFrom_13 rfl ?_
    refine xb_isub hx hb dX12_landsFrom_14 ?_
    refine xa_puti G fd_X12 (a := 111) (x := (μL1.1 111 39) - 1) 39 (kz := 39) rfl rfl (by decide) rfl (by unfold ir; omega) (wm 7 188 rfl rfl) ⟨rfl, rfl, rfl, rfl⟩ rfl dX12_landsFrom_15 rfl (fun H locs G => ?_)
    refine lv_aload_n hx hb dX12_landsFrom_18 rfl (lv_at hl 0 rfl) ?_
    refine lv_aload_n hx hb dX12_landsFrom_19 rfl (lv_at hl 0 rfl) ?_
    refine xa_getr G fd_X12 (a := 111) (x := 126) 38 rfl (by decide) rfl (wm 7 187 rfl rfl) ⟨rfl, rfl, rfl⟩ dX12_landsFrom_20 rfl (G.sk 124 rfl) (by decide) rfl ?_
    refine lv_aload_n hx hb dX12_landsFrom_23 rfl (lv_at hl 0 rfl) ?_
    refine xa_geti G fd_X12 (a := 111) (x := (μL1.1 111 39) - 1) 39 rfl (by decide) rfl (wm 7 188 rfl rfl) ⟨rfl, rfl, rfl⟩ dX12_landsFrom_24 rfl (sv_s _ _ _ _) ?_
    have hr_8 : -2147483648 ≤ (μL1.1 111 39) - 1 ∧ (μL1.1 111 39) - 1 ≤ 2147483647 := by have h9 := G.hr (a := 111) (k := 39) rfl; rw [show (sv μL1 111 39 ((μL1.1 111 39) - 1)).1 111 39 = (μL1.1 111 39) - 1 from (sv_s _ _ _ _)] at h9; exact h9
    have e_9 : (sv μL1 111 39 ((μL1.1 111 39) - 1)).1 111 39 = (μL1.1 111 39) - 1 := (sv_s _ _ _ _)
    refine xa_iald G (a := 126) (i := (μL1.1 111 39) - 1) rfl (by have h9 := G.lc (a := 126) (n := 12000) 64 rfl; omega) dX12_landsFrom_27 rfl ?_
    refine xb_ti (y := μ.1 126 (μL1.1 111 39 - 1)) ((sv_n _ (fun h9 => absurd h9.1 (by decide))).trans (FL2.1 126 (by decide) (μL1.1 111 39 - 1))) ?_
    have hr_10 : -2147483648 ≤ μ.1 126 (μL1.1 111 39 - 1) ∧ μ.1 126 (μL1.1 111 39 - 1) ≤ 2147483647 := by have h9 := G.hr (a := 126) (k := (μL1.1 111 39) - 1) rfl; rw [((sv_n _ (fun h9 => absurd h9.1 (by decide))).trans (FL2.1 126 (by decide) (μL1.1 111 39 - 1)))] at h9; exact h9
    have e_11 : (sv μL1 111 39 ((μL1.1 111 39) - 1)).1 111 22 = μ.1 111 22 := ((sv_n _ (by decide)).trans (hi_4 22 (by decide)))
    have e_12 : (sv μL1 111 39 ((μL1.1 111 39) - 1)).1 111 39 = (μL1.1 111 39) - 1 := (sv_s _ _ _ _)
    have e_13 : (sv μL1 111 39 ((μL1.1 111 39) - 1)).1 111 29 = μ.1 111 29 := ((sv_n _ (by decide)).trans (hi_4 29 (by decide)))
    have hwk_ := hwk _ (by omega : x1 ≤ (μL1.1 111 39) - 1) (by omega)
    have e_14 : (sv μL1 111 39 ((μL1.1 111 39) - 1)).1 111 22 = μ.1 111 22 := ((sv_n _ (by decide)).trans (hi_4 22 (by decide)))
    have e_15 : (sv μL1 111 39 ((μL1.1 111 39) - 1)).1 111 22 = μ.1 111 22 := ((sv_n _ (by decide)).trans (hi_4 22 (by decide)))
    have e_16 : (sv μL1 111 39 ((μL1.1 111 39) - 1)).1 126 (μL1.1 111 39 - 1) = μ.1 126 (μL1.1 111 39 - 1) := ((sv_n _ (fun h9 => absurd h9.1 (by decide))).trans (FL2.1 126 (by decide) (μL1.1 111 39 - 1)))
    have e_17 : (sv μL1 111 39 ((μL1.1 111 39) - 1)).1 126 (μL1.1 111 39 - 1) = μ.1 126 (μL1.1 111 39 - 1) := ((sv_n _ (fun h9 => absurd h9.1 (by decide))).trans (FL2.1 126 (by decide) (μL1.1 111 39 - 1)))
    have e_18 : (sv μL1 111 39 ((μL1.1 111 39) - 1)).1 111 22 = μ.1 111 22 := ((sv_n _ (by decide)).trans (hi_4 22 (by decide)))
    have e_19 : (sv μL1 111 39 ((μL1.1 111 39) - 1)).1 126 (μL1.1 111 39 - 1) = μ.1 126 (μL1.1 111 39 - 1) := ((sv_n _ (fun h9 => absurd h9.1 (by decide))).trans (FL2.1 126 (by decide) (μL1.1 111 39 - 1)))
    have e_20 : (sv μL1 111 39 ((μL1.1 111 39) - 1)).1 111 22 = μ.1 111 22 := ((sv_n _ (by decide)).trans (hi_4 22 (by decide)))
    refine xc_vV G (b := 111) (rest := []) (As := [.int (iv (μ.1 126 (μL1.1 111 39 - 1)))]) (c_X12_lands ω l (sv μL1 111 39 ((μL1.1 111 39) - 1)) (μ.1 126 (μL1.1 111 39 - 1)) (by unfold ir; omega) (by omega) (by omega)) (wm 9 167 rfl rfl) (wm 9 169 rfl rfl) (wm 0 154 rfl rfl) rfl rfl (by decide) rfl (wm 1 18 rfl rfl) (wm 9 170 rfl rfl) (by decide) hR (by decide) (n := 1) rfl rfl (Nat.le_of_ble_eq_true rfl) hl.1 dX12_landsFrom_28 (fun μ21 ρ d0 H locs hp G => ?_)
    obtain ⟨F_22, hp_23⟩ := hp
    have e_24 : μ21.1 111 22 = μ.1 111 22 := ((F_22.1 111 (by decide) 22).trans ((sv_n _ (by decide)).trans (hi_4 22 (by decide))))
    have e_25 : μ21.1 111 39 = (μL1.1 111 39) - 1 := ((F_22.1 111 (by decide) 39).trans (sv_s _ _ _ _))
    have e_26 : μ21.1 111 29 = μ.1 111 29 := ((F_22.1 111 (by decide) 29).trans ((sv_n _ (by decide)).trans (hi_4 29 (by decide))))
    refine lv_goto (tgt := 0) hx hb dX12_landsFrom_31 (by decide) ?_
    have e_27 : μ21.1 111 39 = (μL1.1 111 39) - 1 := ((F_22.1 111 (by decide) 39).trans (sv_s _ _ _ _))
    have e_28 : μ21.1 111 39 = (μL1.1 111 39) - 1 := ((F_22.1 111 (by decide) 39).trans (sv_s _ _ _ _))
    exact ih _ _ _ _ _ _ _ (by omega) ⟨(Fr.tr (Fr.put FL2 (by decide)) F_22 (by decide)), (fun j hj => ((F_22.1 111 (by decide) j).trans ((sv_n _ (fun h9 => hj (by rw [h9.2]; decide))).trans (hi_4 j (fun h9 => hj ((by decide : ∀ x ∈ ([39] : List Int), x ∈ ([39] : List Int)) j h9)))))), (by omega), (mAIM.wst hi_6 (q0m.fr (K := [111]) (Fr.put Fr.rf (by decide)) (by decide) (by decide) (by decide) ((((sv_n _ (by decide)).trans (hi_4 22 (by decide)))).trans ((hi_4 22 (by decide))).symm) (Int.le_of_eq (((((sv_n _ (by decide)).trans (hi_4 29 (by decide)))).trans ((hi_4 29 (by decide))).symm)).symm)) hp_23 ((sv_n _ (by decide)).trans (hi_4 22 (by decide))) rfl (by omega) (by omega)), rfl, lv_sub hl [0, 1] rfl⟩ G

set_option maxHeartbeats 4000000 in
set_option maxRecDepth 100000 in
theorem c_X12_arguments (ω : Om) (l : Launch) (μ : M3) (x1 : Int) (F : Nat) (Lo : Nat) (Fu : Nat) (Lu : Nat) (kf : Int) (μo : M3) (HH : Int) (ff : Int) (cc : Int) (tt : Int) (hx1 : ir x1) (htt : tt = μ.1 111 14) (hF : 60 ≤ F) (hLo : 2000 ≤ Lo) (hFu : Fu ≤ F) (hLu : Lu ≤ Lo) (hE : ∀ (μ : M3) (tt : Int) (htt : tt = μ.1 111 14) (hPM : PM μ) (hnn : 0 ≤ nn μ ∧ nn μ ≤ 9 ∧ 9 * wr μ ≤ nn μ) (hn8 : nn μ ≤ 8 + wr μ) (hcd : 0 ≤ μ.1 111 22 ∧ μ.1 111 22 ≤ 2 * μ.1 111 9 + 200 + 40 * wr μ) (hW : 0 ≤ μ.1 111 39 ∧ μ.1 111 39 ≤ μ.1 111 22) (hsl : 0 ≤ μ.1 111 31 ∧ μ.1 111 31 ≤ 300) (hfu : 0 ≤ (kf - 1) ∧ 9 ≤ nn μ + (kf - 1)) (hH0 : ∀ _ : Unit, bd μ = 0 → mH0 μ), CtV ω l yX12_expr cX12_expr 1 (F + 0) (Lo + 0) [.ref (oP ω 111)] μ (fun (μ' : M3) => (Fr [111, 113, 115, 116, 117, 123, 126] μ μ') ∧ (∀ j, j ∉ ([6, 8, 9, 10, 11, 12, 13, 15, 16, 17, 18, 22, 29, 39] : List Int) → μ'.1 111 j = μ.1 111 j) ∧ (PM μ') ∧ (μ.1 111 22 ≤ μ'.1 111 22 ∧ μ'.1 111 22 ≤ μ.1 111 22 + 2 * (μ'.1 111 9 - μ.1 111 9) + (- 1 + 3 * wr μ' - 2 * wr μ)) ∧ (μ.1 111 9 ≤ μ'.1 111 9) ∧ (μ.1 111 29 ≤ μ'.1 111 29) ∧ (wr μ ≤ wr μ' ∧ bd μ ≤ bd μ') ∧ (nn μ ≤ nn μ' ∧ nn μ' ≤ nn μ + 9 * wr μ' ∧ nn μ' ≤ 9 ∧ 9 * wr μ' ≤ nn μ') ∧ (μ'.1 111 39 = μ.1 111 39) ∧ (∀ j, j < μ.1 111 39 → μ'.1 126 j = μ.1 126 j) ∧ (∀ _ : Unit, bd μ' = 0 → mEX μ μ' tt 1 0 (11 * (9 - nn μ))) ∧ (mEXT μ μ'))) (hU : ∀ (μ : M3) (tt : Int) (htt : tt = μ.1 111 14) (hPM : PM μ) (hnn : 0 ≤ nn μ ∧ nn μ ≤ 9 ∧ 9 * wr μ ≤ nn μ) (hn8 : nn μ ≤ 8 + wr μ) (hcd : 0 ≤ μ.1 111 22 ∧ μ.1 111 22 ≤ 2 * μ.1 111 9 + 200 + 40 * wr μ) (hW : 0 ≤ μ.1 111 39 ∧ μ.1 111 39 ≤ μ.1 111 22) (hsl : 0 ≤ μ.1 111 31 ∧ μ.1 111 31 ≤ 300) (hfu : 0 ≤ (kf - 1) ∧ 9 ≤ nn μ + (kf - 1)) (hH0 : ∀ _ : Unit, bd μ = 0 → mH0 μ), CtV ω l yX12_unary cX12_unary 6 (Fu + 0) (Lu + 0) [.ref (oP ω 111)] μ (fun (μ' : M3) => (Fr [111, 113, 115, 116, 117, 123, 126] μ μ') ∧ (∀ j, j ∉ ([6, 8, 9, 10, 11, 12, 13, 15, 16, 17, 18, 22, 29, 39] : List Int) → μ'.1 111 j = μ.1 111 j) ∧ (PM μ') ∧ (μ.1 111 22 ≤ μ'.1 111 22 ∧ μ'.1 111 22 ≤ μ.1 111 22 + 2 * (μ'.1 111 9 - μ.1 111 9) + (- 1 + 3 * wr μ' - 2 * wr μ)) ∧ (μ.1 111 9 ≤ μ'.1 111 9) ∧ (μ.1 111 29 ≤ μ'.1 111 29) ∧ (wr μ ≤ wr μ' ∧ bd μ ≤ bd μ') ∧ (nn μ ≤ nn μ' ∧ nn μ' ≤ nn μ + 9 * wr μ' ∧ nn μ' ≤ 9 ∧ 9 * wr μ' ≤ nn μ') ∧ (μ'.1 111 39 = μ.1 111 39) ∧ (∀ j, j < μ.1 111 39 → μ'.1 126 j = μ.1 126 j) ∧ (∀ _ : Unit, bd μ' = 0 → mEX μ μ' tt 1 0 (11 * (9 - nn μ) - 3)) ∧ (mEXT μ μ'))) (hPM : PM μ) (hnn : 0 ≤ nn μ ∧ nn μ ≤ 9 ∧ 9 * wr μ ≤ nn μ) (hn8 : nn μ ≤ 8 + wr μ) (hcd : 0 ≤ μ.1 111 22 ∧ μ.1 111 22 ≤ 2 * μ.1 111 9 + 200 + 40 * wr μ) (hW : 0 ≤ μ.1 111 39 ∧ μ.1 111 39 ≤ μ.1 111 22) (hsl : 0 ≤ μ.1 111 31 ∧ μ.1 111 31 ≤ 300) (hfu : 0 ≤ kf ∧ 9 ≤ nn μ + kf) (hu : x1 = 0 ∨ x1 = 1) (hff : 0 ≤ ff ∧ ff ≤ μ.1 111 39) (hcc : 0 ≤ cc ∧ cc ≤ μ.1 111 22) (hwk : ∀ j, ff ≤ j → j < μ.1 111 39 → cc ≤ μ.1 126 j ∧ μ.1 126 j < μ.1 111 22) (hX : ∀ _ : Unit, bd μ = 0 → mPX μo μ tt x1 1 HH (wls μ ff (μ.1 111 39))) (hHH : 11 * (9 - nn μ) - 3 ≤ HH) : CtI ω l yX12_arguments cX12_arguments 5 .int (F + 1) (Lo + 20) [.ref (oP ω 111), .int (iv x1)] μ (fun (r : Int) (μ' : M3) => (Fr [111, 113, 115, 116, 117, 123, 126] μ μ') ∧ (∀ j, j ∉ ([6, 8, 9, 10, 11, 12, 13, 15, 16, 17, 18, 22, 29, 39] : List Int) → μ'.1 111 j = μ.1 111 j) ∧ (PM μ') ∧ (μ.1 111 22 ≤ μ'.1 111 22 ∧ μ'.1 111 22 ≤ μ.1 111 22 + 2 * (μ'.1 111 9 - μ.1 111 9) + (- 2 + 3 * wr μ')) ∧ (μ.1 111 9 ≤ μ'.1 111 9) ∧ (μ.1 111 29 ≤ μ'.1 111 29) ∧ (wr μ ≤ wr μ' ∧ bd μ ≤ bd μ') ∧ (nn μ ≤ nn μ' ∧ nn μ' ≤ nn μ + 9 * wr μ' ∧ nn μ' ≤ 9 ∧ 9 * wr μ' ≤ nn μ') ∧ (μ.1 111 39 ≤ μ'.1 111 39 ∧ μ'.1 111 39 ≤ μ'.1 111 22) ∧ (∀ j, j < μ.1 111 39 → μ'.1 126 j = μ.1 126 j) ∧ ((0 ≤ r ∧ r ≤ 3001) ∧ r ≤ 8 + 3000 * bd μ') ∧ (∀ j, ff ≤ j → j < μ'.1 111 39 → cc ≤ μ'.1 126 j ∧ μ'.1 126 j < μ'.1 111 22) ∧ (∀ _ : Unit, bd μ' = 0 → mPX μo μ' tt (x1 + r) 1 HH (wls μ' ff (μ'.1 111 39))) ∧ (mEXT μ μ')) := by
  refine CtI.go (by decide) (Nat.le_of_ble_eq_true rfl) (fun ρ p e s m below meth c R ls G hR hret hlk hl => ?_)
  have hx := G.1.1
  have hb := G.1.2.1
  have hl : lv_has ls 5 [(0, .ref (oP ω 111)), (1, .int (iv x1))] := hl
  generalize s.drawn = d0 at G ⊢
  have hr_x1 : -2147483648 ≤ x1 ∧ x1 ≤ 2147483647 := hx1
  have hw_0 := wr_r (μ := μ)
  have hpp_ := hPM.1.2.1
  have hpn_ := hPM.2.1
  have hpt_ := hPM.1.2.2.2.1
  have hpw_ := hPM.1.2.2.2.2.1
  have hpa_ := hPM.1.1
  have hX_1 : ∀ _ : Unit, bd μ = 0 → mPX μo μ tt x1 1 HH (wls μ ff (μ.1 111 39) ++ []) := fun _ h0 => (by rw [List.append_nil]; exact hX () h0)
  refine lv_iconst (v := iv 0) hx hb dX12_arguments_0 rfl ?_
  refine lv_istore_n (lv' := [(2, .int (iv 0)), (0, .ref (oP ω 111)), (1, .int (iv x1))]) hx hb dX12_arguments_1 rfl hl (by decide) rfl (fun ls hl => ?_)
  refine lv_aload_n hx hb dX12_arguments_2 rfl (lv_at hl 1 rfl) ?_
  refine lv_bipush (v := iv 40) hx hb dX12_arguments_3 rfl ?_
  refine xc_vV G (b := 111) (rest := []) (As := [.int (iv 40)]) (c_X12_opensWith ω l μ 40 (by unfold ir; omega) hPM (by omega) (by omega)) (wm 9 86 rfl rfl) (wm 9 88 rfl rfl) (wm 0 134 rfl rfl) rfl rfl (by decide) rfl (wm 1 18 rfl rfl) (wm 9 89 rfl rfl) (by decide) hR ⟨nfr hF (by decide), nlo hLo (by decide)⟩ (n := 1) rfl rfl (Nat.le_of_ble_eq_true rfl) hl.1 dX12_arguments_5 (fun μ2 ρ d0 H locs hp G => ?_)
  obtain ⟨F_3, hp_4, hp_5, hp_6, hp_7, hp_8, hp_9⟩ := hp
  have hpl_10 := hp_5.pl
  have hw_11 := wr_r (μ := μ2)
  refine lv_aload_n hx hb dX12_arguments_8 rfl (lv_at hl 1 rfl) ?_
  refine lv_bipush (v := iv 41) hx hb dX12_arguments_9 rfl ?_
  have e_12 : μ2.1 111 29 = μ.1 111 29 := (hp_4 29 (by decide))
  have e_14 : μ2.1 111 29 = μ.1 111 29 := (hp_4 29 (by decide))
  have hX_13 : ∀ _ : Unit, bd μ2 = 0 → mPX μo μ2 tt x1 1 HH (wls μ ff (μ.1 111 39) ++ []) := fun _ h0 => (hX_1 () (by have e9 : bd μ = bd μ := rfl; have e8 : bd μ2 = bd μ2 := rfl; omega)).qm (q0m.fr (K := [111]) (Fr.tr Fr.rf F_3 (by decide)) (by decide) (by decide) (by decide) (hp_4 22 (by decide)) (by omega))
  refine xc_iV G (b := 111) (rest := []) (As := [.int (iv 41)]) (c_X12_isSign ω l μ2 41 (by unfold ir; omega)) (wm 9 90 rfl rfl) (wm 9 92 rfl rfl) (wm 0 135 rfl rfl) rfl rfl (by decide) rfl (wm 1 18 rfl rfl) (wm 9 93 rfl rfl) (by decide) hR ⟨nfr hF (by decide), nlo hLo (by decide)⟩ (n := 1) rfl rfl (Nat.le_of_ble_eq_true rfl) hl.1 dX12_arguments_11 (fun r_16 μ15 ρ d0 H locs hr_r_16 hp G => ?_)
  have hr_r_16 : -2147483648 ≤ r_16 ∧ r_16 ≤ 2147483647 := hr_r_16
  obtain ⟨hsm_17, hp_18⟩ := hp
  have hsm_17 := Eq.symm hsm_17
  subst hsm_17
  refine xb_if_ne (tgt := 97) hx hb (by unfold ir; omega) dX12_arguments_14 (by decide) (fun c_14 => ?_) (fun c_14 => ?_)
  · refine lv_aload_n hx hb dX12_arguments_97 rfl (lv_at hl 1 rfl) ?_
    refine lv_bipush (v := iv 41) hx hb dX12_arguments_98 rfl ?_
    refine xc_vV G (b := 111) (rest := []) (As := [.int (iv 41)]) (c_X12_closesWith ω l μ2 41 (by unfold ir; omega) hp_5 (by omega) (by omega)) (wm 9 110 rfl rfl) (wm 9 112 rfl rfl) (wm 0 140 rfl rfl) rfl rfl (by decide) rfl (wm 1 18 rfl rfl) (wm 9 113 rfl rfl) (by decide) hR ⟨nfr hF (by decide), nlo hLo (by decide)⟩ (n := 1) rfl rfl (Nat.le_of_ble_eq_true rfl) hl.1 dX12_arguments_100 (fun μ19 ρ d0 H locs hp G => ?_)
    obtain ⟨F_20, hp_21, hp_22, hp_23, hp_24, hp_25, hp_26⟩ := hp
    have hpl_27 := hp_22.pl
    have hw_28 := wr_r (μ := μ19)
    refine lv_iload_n hx hb dX12_arguments_103 rfl (lv_at hl 0 rfl) ?_
    have e_29 : μ19.1 111 22 = μ.1 111 22 := ((hp_21 22 (by decide)).trans (hp_4 22 (by decide)))
    have e_30 : μ19.1 111 29 = μ.1 111 29 := ((hp_21 29 (by decide)).trans (hp_4 29 (by decide)))
    have e_31 : μ19.1 111 39 = μ.1 111 39 := ((hp_21 39 (by decide)).trans (hp_4 39 (by decide)))
    have e_32 : μ19.1 111 39 = μ.1 111 39 := ((hp_21 39 (by decide)).trans (hp_4 39 (by decide)))
    have e_33 : μ19.1 111 22 = μ.1 111 22 := ((hp_21 22 (by decide)).trans (hp_4 22 (by decide)))
    have e_34 : μ19.1 111 39 = μ.1 111 39 := ((hp_21 39 (by decide)).trans (hp_4 39 (by decide)))
    have e_35 : μ19.1 111 22 = μ.1 111 22 := ((hp_21 22 (by decide)).trans (hp_4 22 (by decide)))
    have e_36 : μ19.1 111 29 = μ.1 111 29 := ((hp_21 29 (by decide)).trans (hp_4 29 (by decide)))
    have e_38 : μ19.1 111 29 = μ.1 111 29 := ((hp_21 29 (by decide)).trans (hp_4 29 (by decide)))
    have hX_37 : ∀ _ : Unit, bd μ19 = 0 → mPX μo μ19 tt x1 1 HH (wls μ ff (μ.1 111 39) ++ []) := fun _ h0 => (hX_13 () (by have e9 : bd μ2 = bd μ2 := rfl; have e8 : bd μ19 = bd μ19 := rfl; omega)).qm (q0m.fr (K := [111]) (Fr.tr Fr.rf F_20 (by decide)) (by decide) (by decide) (by decide) ((((hp_21 22 (by decide)).trans (hp_4 22 (by decide)))).trans ((hp_4 22 (by decide))).symm) (by omega))
    have e_39 : μ19.1 111 29 = μ.1 111 29 := ((hp_21 29 (by decide)).trans (hp_4 29 (by decide)))
    have hxt_40 : mEXT μ μ19 := (q0m.fr (K := [111]) (Fr.tr (Fr.tr Fr.rf F_3 (by decide)) F_20 (by decide)) (by decide) (by decide) (by decide) ((hp_21 22 (by decide)).trans (hp_4 22 (by decide))) (by omega)).1
    have e_41 : μ19.1 111 22 = μ.1 111 22 := ((hp_21 22 (by decide)).trans (hp_4 22 (by decide)))
    have e_42 : μ19.1 111 22 = μ.1 111 22 := ((hp_21 22 (by decide)).trans (hp_4 22 (by decide)))
    have e_43 : μ19.1 111 29 = μ.1 111 29 := ((hp_21 29 (by decide)).trans (hp_4 29 (by decide)))
    have e_44 : μ19.1 111 39 = μ.1 111 39 := ((hp_21 39 (by decide)).trans (hp_4 39 (by decide)))
    have e_45 : μ19.1 111 39 = μ.1 111 39 := ((hp_21 39 (by decide)).trans (hp_4 39 (by decide)))
    have e_46 : μ19.1 111 22 = μ.1 111 22 := ((hp_21 22 (by decide)).trans (hp_4 22 (by decide)))
    exact xr_i G (x := 0) hret hlk (by unfold ir; omega) rfl dX12_arguments_104 ⟨(Fr.tr (Fr.tr Fr.rf F_3 (by decide)) F_20 (by decide)), (fun j hj => ((hp_21 j (fun h9 => hj ((by decide : ∀ x ∈ ([6, 8, 9, 10, 11, 12, 13, 15, 18] : List Int), x ∈ ([6, 8, 9, 10, 11, 12, 13, 15, 16, 17, 18, 22, 29, 39] : List Int)) j h9))).trans (hp_4 j (fun h9 => hj ((by decide : ∀ x ∈ ([6, 8, 9, 10, 11, 12, 13, 15, 18] : List Int), x ∈ ([6, 8, 9, 10, 11, 12, 13, 15, 16, 17, 18, 22, 29, 39] : List Int)) j h9))))), hp_22, (by omega), (by omega), (by omega), (by omega), (by omega), (by omega), (fun j hj => ((F_20.1 126 (by decide) j).trans (F_3.1 126 (by decide) j))), (by omega), (fun j h1 h2 => by rcases Int.lt_or_le j (μ.1 111 39) with h9 | h9; (have b9 := hwk j h1 h9; rw [show μ19.1 126 j = μ.1 126 j from ((F_20.1 126 (by decide) j).trans (F_3.1 126 (by decide) j))]; exact ⟨b9.1, by omega⟩); (omega)), (fun _ h0 => (((hX_37 ()) h0).ee (by omega)).mem (fun i => wls_cg (fun j h1 h9 => ((F_20.1 126 (by decide) j).trans (F_3.1 126 (by decide) j))) (by omega))), hxt_40⟩
  · refine lv_iconst (v := iv 1) hx hb dX12_arguments_17 rfl ?_
    refine lv_istore_n (lv' := [(3, .int (iv 1)), (2, .int (iv 0)), (0, .ref (oP ω 111)), (1, .int (iv x1))]) hx hb dX12_arguments_18 rfl hl (by decide) rfl (fun ls hl => ?_)
    have e_47 : μ2.1 111 22 = μ.1 111 22 := (hp_4 22 (by decide))
    have e_48 : μ2.1 111 22 = μ.1 111 22 := (hp_4 22 (by decide))
    have e_49 : μ2.1 111 29 = μ.1 111 29 := (hp_4 29 (by decide))
    have e_50 : μ2.1 111 39 = μ.1 111 39 := (hp_4 39 (by decide))
    have e_51 : μ2.1 111 39 = μ.1 111 39 := (hp_4 39 (by decide))
    have e_52 : μ2.1 111 22 = μ.1 111 22 := (hp_4 22 (by decide))
    have e_53 : μ2.1 111 39 = μ.1 111 39 := (hp_4 39 (by decide))
    have e_54 : μ2.1 111 22 = μ.1 111 22 := (hp_4 22 (by decide))
    have e_55 : μ2.1 111 39 = μ.1 111 39 := (hp_4 39 (by decide))
    have e_56 : μ2.1 111 22 = μ.1 111 22 := (hp_4 22 (by decide))
    have e_57 : μ2.1 111 29 = μ.1 111 29 := (hp_4 29 (by decide))
    have hxt_58 : mEXT μ μ2 := (q0m.fr (K := [111]) (Fr.tr Fr.rf F_3 (by decide)) (by decide) (by decide) (by decide) (hp_4 22 (by decide)) (by omega)).1
    refine xl (fun n_9 μ' ls => ∃ (c9 : Int), ∃ (m9 : Int), (Fr [111, 113, 115, 116, 117, 123, 126] μ2 μ') ∧ (-2147483648 ≤ c9 ∧ c9 ≤ 2147483647) ∧ (-2147483648 ≤ m9 ∧ m9 ≤ 2147483647) ∧ (∀ j, j ∉ ([6, 8, 9, 10, 11, 12, 13, 15, 16, 17, 18, 22, 29, 39] : List Int) → μ'.1 111 j = μ2.1 111 j) ∧ (0 ≤ c9) ∧ (0 ≤ m9 ∧ m9 ≤ 1) ∧ (c9 + m9 ≤ μ'.1 111 9 + 1) ∧ (c9 ≤ 8 + 3000 * bd μ') ∧ (PM μ') ∧ (μ.1 111 22 ≤ μ'.1 111 22 ∧ μ'.1 111 22 ≤ μ.1 111 22 + 2 * (μ'.1 111 9 - μ.1 111 9) + (- 2 + 3 * wr μ')) ∧ (μ.1 111 9 ≤ μ'.1 111 9) ∧ (μ.1 111 29 ≤ μ'.1 111 29) ∧ (wr μ ≤ wr μ' ∧ bd μ ≤ bd μ') ∧ (nn μ ≤ nn μ' ∧ nn μ' ≤ nn μ + 1 + 9 * wr μ' ∧ nn μ' ≤ 9 ∧ nn μ + 1 ≤ nn μ' + wr μ ∧ nn μ' ≤ 8 + wr μ' ∧ 9 * wr μ' ≤ nn μ') ∧ (μ.1 111 39 ≤ μ'.1 111 39 ∧ μ'.1 111 39 ≤ μ'.1 111 22) ∧ (∀ j, j < μ.1 111 39 → μ'.1 126 j = μ.1 126 j) ∧ (∀ j, ff ≤ j → j < μ'.1 111 39 → cc ≤ μ'.1 126 j ∧ μ'.1 126 j < μ'.1 111 22) ∧ (∀ _ : Unit, bd μ' = 0 → mPX μo μ' tt (x1 + c9) 1 HH (wls μ' ff (μ'.1 111 39))) ∧ (mEXT μ μ') ∧ n_9 = Int.toNat (3001 - μ'.1 111 9 + m9) ∧ lv_has ls 5 [(3, .int (iv m9)), (2, .int (iv c9)), (0, .ref (oP ω 111)), (1, .int (iv x1))]) (fun n_9 ρ μL59 d0 H locs ls hI_l G ih => ?_) _ _ _ _ _ _ _ ⟨0, 1, Fr.rf, (by omega), (by omega), (fun j hj => rfl), (by omega), (by omega), (by omega), (by omega), hp_5, (by omega), (by omega), (by omega), (by omega), (by omega), (by omega), (fun j hj => (F_3.1 126 (by decide) j)), (fun j h1 h2 => by rcases Int.lt_or_le j (μ.1 111 39) with h9 | h9; (have b9 := hwk j h1 h9; rw [show μ2.1 126 j = μ.1 126 j from (F_3.1 126 (by decide) j)]; exact ⟨b9.1, by omega⟩); (omega)), (fun _ h0 => (((hX_13 ()) h0).ee (by omega)).mem (fun i => wls_cg (fun j h1 h9 => (F_3.1 126 (by decide) j)) (by omega))), hxt_58, rfl, lv_sub hl [0, 1, 2, 3] rfl⟩ G
    obtain ⟨c9, m9, FL60, hi_62, hi_63, hi_64, hi_65, hi_66, hi_67, hi_68, hi_69, hi_70, hi_71, hi_72, hi_73, hi_74, hi_75, hi_76, hi_77, hi_78, hi_79, hn61, hl⟩ := hI_l
    have hw_80 := wr_r (μ := μL59)
    have hw_81 := wr_r (μ := μL59)
    have hpl_82 := hi_69.pl
    have hX_83 : ∀ _ : Unit, bd μL59 = 0 → mPX μo μL59 tt (x1 + c9) 1 HH (wls μL59 ff (μL59.1 111 39) ++ []) := fun _ h0 => (by rw [List.append_nil]; exact hi_78 () h0)
    refine lv_iload_n hx hb dX12_arguments_19 rfl (lv_at hl 0 rfl) ?_
    refine xb_if_eq (tgt := 97) hx hb (by unfold ir; omega) dX12_arguments_20 (by decide) (fun c_20 => ?_) (fun c_20 => ?_)
    · refine lv_aload_n hx hb dX12_arguments_97 rfl (lv_at hl 2 rfl) ?_
      refine lv_bipush (v := iv 41) hx hb dX12_arguments_98 rfl ?_
      have hw_84 := wr_r (μ := μL59)
      refine xc_vV G (b := 111) (rest := []) (As := [.int (iv 41)]) (c_X12_closesWith ω l μL59 41 (by unfold ir; omega) hi_69 (by omega) (by omega)) (wm 9 110 rfl rfl) (wm 9 112 rfl rfl) (wm 0 140 rfl rfl) rfl rfl (by decide) rfl (wm 1 18 rfl rfl) (wm 9 113 rfl rfl) (by decide) hR ⟨nfr hF (by decide), nlo hLo (by decide)⟩ (n := 1) rfl rfl (Nat.le_of_ble_eq_true rfl) hl.1 dX12_arguments_100 (fun μ85 ρ d0 H locs hp G => ?_)
      obtain ⟨F_86, hp_87, hp_88, hp_89, hp_90, hp_91, hp_92⟩ := hp
      have hpl_93 := hp_88.pl
      have hw_94 := wr_r (μ := μ85)
      refine lv_iload_n hx hb dX12_arguments_103 rfl (lv_at hl 1 rfl) ?_
      have e_95 : μ85.1 111 22 = μL59.1 111 22 := (hp_87 22 (by decide))
      have e_96 : μ85.1 111 29 = μL59.1 111 29 := (hp_87 29 (by decide))
      have e_97 : μ85.1 111 39 = μL59.1 111 39 := (hp_87 39 (by decide))
      have e_98 : μ85.1 111 39 = μL59.1 111 39 := (hp_87 39 (by decide))
      have e_99 : μ85.1 111 22 = μL59.1 111 22 := (hp_87 22 (by decide))
      have e_100 : μ85.1 111 39 = μL59.1 111 39 := (hp_87 39 (by decide))
      have e_101 : μ85.1 111 22 = μL59.1 111 22 := (hp_87 22 (by decide))
      have e_102 : μ85.1 111 29 = μL59.1 111 29 := (hp_87 29 (by decide))
      have e_104 : μ85.1 111 29 = μL59.1 111 29 := (hp_87 29 (by decide))
      have hX_103 : ∀ _ : Unit, bd μ85 = 0 → mPX μo μ85 tt (x1 + c9) 1 HH (wls μL59 ff (μL59.1 111 39) ++ []) := fun _ h0 => (hX_83 () (by have e9 : bd μL59 = bd μL59 := rfl; have e8 : bd μ85 = bd μ85 := rfl; omega)).qm (q0m.fr (K := [111]) (Fr.tr Fr.rf F_86 (by decide)) (by decide) (by decide) (by decide) (hp_87 22 (by decide)) (by omega))
      have e_105 : μ85.1 111 29 = μL59.1 111 29 := (hp_87 29 (by decide))
      have hxt_106 : mEXT μ μ85 := hi_79.tr (q0m.fr (K := [111]) (Fr.tr Fr.rf F_86 (by decide)) (by decide) (by decide) (by decide) (hp_87 22 (by decide)) (by omega)).1
      have e_107 : μ85.1 111 22 = μL59.1 111 22 := (hp_87 22 (by decide))
      have e_108 : μ85.1 111 22 = μL59.1 111 22 := (hp_87 22 (by decide))
      have e_109 : μ85.1 111 29 = μL59.1 111 29 := (hp_87 29 (by decide))
      have e_110 : μ85.1 111 39 = μL59.1 111 39 := (hp_87 39 (by decide))
      have e_111 : μ85.1 111 39 = μL59.1 111 39 := (hp_87 39 (by decide))
      have e_112 : μ85.1 111 22 = μL59.1 111 22 := (hp_87 22 (by decide))
      exact xr_i G (x := c9) hret hlk (by unfold ir; omega) rfl dX12_arguments_104 ⟨(Fr.tr (Fr.tr (Fr.tr Fr.rf F_3 (by decide)) FL60 (by decide)) F_86 (by decide)), (fun j hj => ((hp_87 j (fun h9 => hj ((by decide : ∀ x ∈ ([6, 8, 9, 10, 11, 12, 13, 15, 18] : List Int), x ∈ ([6, 8, 9, 10, 11, 12, 13, 15, 16, 17, 18, 22, 29, 39] : List Int)) j h9))).trans ((hi_64 j (fun h9 => hj ((by decide : ∀ x ∈ ([6, 8, 9, 10, 11, 12, 13, 15, 16, 17, 18, 22, 29, 39] : List Int), x ∈ ([6, 8, 9, 10, 11, 12, 13, 15, 16, 17, 18, 22, 29, 39] : List Int)) j h9))).trans (hp_4 j (fun h9 => hj ((by decide : ∀ x ∈ ([6, 8, 9, 10, 11, 12, 13, 15, 18] : List Int), x ∈ ([6, 8, 9, 10, 11, 12, 13, 15, 16, 17, 18, 22, 29, 39] : List Int)) j h9)))))), hp_88, (by omega), (by omega), (by omega), (by omega), (by omega), (by omega), (fun j hj => ((F_86.1 126 (by decide) j).trans (hi_76 j (by omega)))), (by omega), (fun j h1 h2 => by rcases Int.lt_or_le j (μL59.1 111 39) with h9 | h9; (have b9 := hi_77 j h1 h9; rw [show μ85.1 126 j = μL59.1 126 j from (F_86.1 126 (by decide) j)]; exact ⟨b9.1, by omega⟩); (omega)), (fun _ h0 => (((hX_103 ()) h0).ee (by omega)).mem (fun i => wls_cg (fun j h1 h9 => (F_86.1 126 (by decide) j)) (by omega))), hxt_106⟩
    · refine lv_aload_n hx hb dX12_arguments_23 rfl (lv_at hl 2 rfl) ?_
      have hw_113 := wr_r (μ := μL59)
      refine xc_iV G (b := 111) (rest := []) (As := []) (c_X12_isWrong ω l μL59  ) (wm 9 4 rfl rfl) (wm 9 6 rfl rfl) (wm 0 120 rfl rfl) rfl rfl (by decide) rfl (wm 1 18 rfl rfl) (wm 9 7 rfl rfl) (by decide) hR ⟨nfr hF (by decide), nlo hLo (by decide)⟩ (n := 0) rfl rfl (Nat.le_of_ble_eq_true rfl) hl.1 dX12_arguments_24 (fun r_115 μ114 ρ d0 H locs hr_r_115 hp G => ?_)
      have hr_r_115 : -2147483648 ≤ r_115 ∧ r_115 ≤ 2147483647 := hr_r_115
      obtain ⟨hsm_116, hp_117⟩ := hp
      have hsm_116 := Eq.symm hsm_116
      subst hsm_116
      refine xb_if_ne (tgt := 97) hx hb (by unfold ir; omega) dX12_arguments_27 (by decide) (fun c_27 => ?_) (fun c_27 => ?_)
      · refine lv_aload_n hx hb dX12_arguments_97 rfl (lv_at hl 2 rfl) ?_
        refine lv_bipush (v := iv 41) hx hb dX12_arguments_98 rfl ?_
        refine xc_vV G (b := 111) (rest := []) (As := [.int (iv 41)]) (c_X12_closesWith ω l μL59 41 (by unfold ir; omega) hi_69 (by omega) (by omega)) (wm 9 110 rfl rfl) (wm 9 112 rfl rfl) (wm 0 140 rfl rfl) rfl rfl (by decide) rfl (wm 1 18 rfl rfl) (wm 9 113 rfl rfl) (by decide) hR ⟨nfr hF (by decide), nlo hLo (by decide)⟩ (n := 1) rfl rfl (Nat.le_of_ble_eq_true rfl) hl.1 dX12_arguments_100 (fun μ118 ρ d0 H locs hp G => ?_)
        obtain ⟨F_119, hp_120, hp_121, hp_122, hp_123, hp_124, hp_125⟩ := hp
        have hpl_126 := hp_121.pl
        have hw_127 := wr_r (μ := μ118)
        refine lv_iload_n hx hb dX12_arguments_103 rfl (lv_at hl 1 rfl) ?_
        have e_128 : μ118.1 111 22 = μL59.1 111 22 := (hp_120 22 (by decide))
        have e_129 : μ118.1 111 29 = μL59.1 111 29 := (hp_120 29 (by decide))
        have e_130 : μ118.1 111 39 = μL59.1 111 39 := (hp_120 39 (by decide))
        have e_131 : μ118.1 111 39 = μL59.1 111 39 := (hp_120 39 (by decide))
        have e_132 : μ118.1 111 22 = μL59.1 111 22 := (hp_120 22 (by decide))
        have e_133 : μ118.1 111 39 = μL59.1 111 39 := (hp_120 39 (by decide))
        have e_134 : μ118.1 111 22 = μL59.1 111 22 := (hp_120 22 (by decide))
        have e_135 : μ118.1 111 29 = μL59.1 111 29 := (hp_120 29 (by decide))
        have e_137 : μ118.1 111 29 = μL59.1 111 29 := (hp_120 29 (by decide))
        have hX_136 : ∀ _ : Unit, bd μ118 = 0 → mPX μo μ118 tt (x1 + c9) 1 HH (wls μL59 ff (μL59.1 111 39) ++ []) := fun _ h0 => (hX_83 () (by have e9 : bd μL59 = bd μL59 := rfl; have e8 : bd μ118 = bd μ118 := rfl; omega)).qm (q0m.fr (K := [111]) (Fr.tr Fr.rf F_119 (by decide)) (by decide) (by decide) (by decide) (hp_120 22 (by decide)) (by omega))
        have e_138 : μ118.1 111 29 = μL59.1 111 29 := (hp_120 29 (by decide))
        have hxt_139 : mEXT μ μ118 := hi_79.tr (q0m.fr (K := [111]) (Fr.tr Fr.rf F_119 (by decide)) (by decide) (by decide) (by decide) (hp_120 22 (by decide)) (by omega)).1
        have e_140 : μ118.1 111 22 = μL59.1 111 22 := (hp_120 22 (by decide))
        have e_141 : μ118.1 111 22 = μL59.1 111 22 := (hp_120 22 (by decide))
        have e_142 : μ118.1 111 29 = μL59.1 111 29 := (hp_120 29 (by decide))
        have e_143 : μ118.1 111 39 = μL59.1 111 39 := (hp_120 39 (by decide))
        have e_144 : μ118.1 111 39 = μL59.1 111 39 := (hp_120 39 (by decide))
        have e_145 : μ118.1 111 22 = μL59.1 111 22 := (hp_120 22 (by decide))
        exact xr_i G (x := c9) hret hlk (by unfold ir; omega) rfl dX12_arguments_104 ⟨(Fr.tr (Fr.tr (Fr.tr Fr.rf F_3 (by decide)) FL60 (by decide)) F_119 (by decide)), (fun j hj => ((hp_120 j (fun h9 => hj ((by decide : ∀ x ∈ ([6, 8, 9, 10, 11, 12, 13, 15, 18] : List Int), x ∈ ([6, 8, 9, 10, 11, 12, 13, 15, 16, 17, 18, 22, 29, 39] : List Int)) j h9))).trans ((hi_64 j (fun h9 => hj ((by decide : ∀ x ∈ ([6, 8, 9, 10, 11, 12, 13, 15, 16, 17, 18, 22, 29, 39] : List Int), x ∈ ([6, 8, 9, 10, 11, 12, 13, 15, 16, 17, 18, 22, 29, 39] : List Int)) j h9))).trans (hp_4 j (fun h9 => hj ((by decide : ∀ x ∈ ([6, 8, 9, 10, 11, 12, 13, 15, 18] : List Int), x ∈ ([6, 8, 9, 10, 11, 12, 13, 15, 16, 17, 18, 22, 29, 39] : List Int)) j h9)))))), hp_121, (by omega), (by omega), (by omega), (by omega), (by omega), (by omega), (fun j hj => ((F_119.1 126 (by decide) j).trans (hi_76 j (by omega)))), (by omega), (fun j h1 h2 => by rcases Int.lt_or_le j (μL59.1 111 39) with h9 | h9; (have b9 := hi_77 j h1 h9; rw [show μ118.1 126 j = μL59.1 126 j from (F_119.1 126 (by decide) j)]; exact ⟨b9.1, by omega⟩); (omega)), (fun _ h0 => (((hX_136 ()) h0).ee (by omega)).mem (fun i => wls_cg (fun j h1 h9 => (F_119.1 126 (by decide) j)) (by omega))), hxt_139⟩
      · refine lv_iload_n hx hb dX12_arguments_30 rfl (lv_at hl 1 rfl) ?_
        refine lv_bipush (v := iv 8) hx hb dX12_arguments_31 rfl ?_
        refine xb_icmp_ne (tgt := 44) hx hb (by unfold ir; omega) (by unfold ir; omega) dX12_arguments_33 (by decide) (fun c_33 => ?_) (fun c_33 => ?_)
        · refine lv_aload_n hx hb dX12_arguments_44 rfl (lv_at hl 2 rfl) ?_
          have e_146 : μL59.1 111 14 = tt := ((hi_64 14 (by decide)).trans ((hp_4 14 (by decide)).trans htt.symm))
          have e_147 : μL59.1 111 31 = μ.1 111 31 := ((hi_64 31 (by decide)).trans (hp_4 31 (by decide)))
          have e_148 : μL59.1 111 31 = μ.1 111 31 := ((hi_64 31 (by decide)).trans (hp_4 31 (by decide)))
          refine xc_vV G (b := 111) (rest := []) (As := []) (((fun (_ : Om) (_ : Launch) => hE)) ω l μL59 tt (by omega) hi_69 (by omega) (by omega) (by omega) (by omega) (by omega) (by omega) (fun _ h0 => ((hX_83 ()) h0).h1.1)) (wm 9 139 rfl rfl) (wm 9 141 rfl rfl) (wm 0 147 rfl rfl) rfl rfl (by decide) rfl (wm 1 18 rfl rfl) (wm 9 142 rfl rfl) (by decide) hR ⟨sfr (F := F) (a := 0) (by decide), slo (L := Lo) (m := 1) (a := 0) (by decide)⟩ (n := 0) rfl rfl (Nat.le_of_ble_eq_true rfl) hl.1 dX12_arguments_45 (fun μ149 ρ d0 H locs hp G => ?_)
          obtain ⟨F_150, hp_151, hp_152, hp_153, hp_154, hp_155, hp_156, hp_157, hp_158, hp_159, hp_160, hp_161⟩ := hp
          have hpl_162 := hp_152.pl
          have hw_163 := wr_r (μ := μ149)
          have hxt_164 : mEXT μ μ149 := hi_79.tr hp_161
          have hX_165 : ∀ _ : Unit, bd μ149 = 0 → mPX μo μ149 tt ((x1 + c9) + 1) 1 HH (wls μL59 ff (μL59.1 111 39) ++ []) := fun _ h0 => (((hX_83 ()) (by have e9 : bd μL59 = bd μL59 := rfl; have e8 : bd μ149 = bd μ149 := rfl; omega)).app (hp_160 () h0) (by omega)).ee (by omega)
          refine lv_aload_n hx hb dX12_arguments_48 rfl (lv_at hl 2 rfl) ?_
          refine lv_iload_n hx hb dX12_arguments_49 rfl (lv_at hl 3 rfl) ?_
          refine lv_iload_n hx hb dX12_arguments_50 rfl (lv_at hl 1 rfl) ?_
          refine xb_iadd hx hb dX12_arguments_51 ?_
          have e_166 : μ149.1 111 14 = tt := ((hp_151 14 (by decide)).trans ((hi_64 14 (by decide)).trans ((hp_4 14 (by decide)).trans htt.symm)))
          refine xc_iV G (b := 111) (rest := []) (As := [.int (iv (x1 + c9))]) (c_X12_skips ω l μ149 (x1 + c9) tt (by unfold ir; omega) (by omega) (by omega)) (wm 9 159 rfl rfl) (wm 9 161 rfl rfl) (wm 0 152 rfl rfl) rfl rfl (by decide) rfl (wm 1 18 rfl rfl) (wm 9 162 rfl rfl) (by decide) hR ⟨nfr hF (by decide), nlo hLo (by decide)⟩ (n := 1) rfl rfl (Nat.le_of_ble_eq_true rfl) hl.1 dX12_arguments_52 (fun r_168 μ167 ρ d0 H locs hr_r_168 hp G => ?_)
          have hr_r_168 : -2147483648 ≤ r_168 ∧ r_168 ≤ 2147483647 := hr_r_168
          obtain ⟨F_169, hp_170, hp_171, hp_172⟩ := hp
          have hqr_r_168 : (r_168 = -1) ∨ (μ.1 111 22 ≤ r_168 ∧ r_168 < μ167.1 111 22) := by rcases hp_171 with ⟨q1, q2, q3, q4⟩ | ⟨q1, q2, q3⟩; (right; have := q2.2.1; omega); (left; exact q2)
          have hxt_173 : mEXT μ μ167 := hxt_164.tr hp_171.ext
          have e_174 : wr μ167 = wr μ149 := (wr_cg (hp_170 15 (by decide)))
          have e_175 : bd μ167 = bd μ149 := (bd_cg (hp_170 15 (by decide)) (hp_170 16 (by decide)))
          have e_176 : nn μ167 = nn μ149 := (nn_cg (hp_170 15 (by decide)) (hp_170 18 (by decide)))
          replace hp_171 := fun _ : Unit => hp_171
          have e_178 : μ167.1 111 29 = μ149.1 111 29 := (hp_170 29 (by decide))
          have hX_177 : ∀ _ : Unit, bd μ167 = 0 → mPX μo μ167 tt ((x1 + c9) + 1) 1 HH (lsk r_168 ++ (wls μL59 ff (μL59.1 111 39) ++ [])) := fun _ h0 => mPX.sk ((hX_165 ()) (by have e9 : bd μ149 = bd μ149 := rfl; have e8 : bd μ167 = bd μ149 := (bd_cg (hp_170 15 (by decide)) (hp_170 16 (by decide))); omega)) (hp_171 ()) (by omega) (by omega) (by decide)
          have hqs_r_168 : (r_168 = -1) ∨ (μ167.1 111 22 = μ149.1 111 22 + 1 ∧ r_168 = μ149.1 111 22) := by rcases hp_171 () with ⟨q1, q2, q3, q4⟩ | ⟨q1, q2, q3⟩; (right; exact ⟨q2.2.1, q3⟩); (left; exact q2)
          refine lv_istore (lv' := [(4, .int (iv r_168)), (3, .int (iv m9)), (2, .int (iv c9)), (0, .ref (oP ω 111)), (1, .int (iv x1))]) hx hb dX12_arguments_55 hl (by decide) rfl (fun ls hl => ?_)
          refine lv_iload hx hb dX12_arguments_57 (lv_at hl 0 rfl) ?_
          refine lv_iconst (v := iv (-1)) hx hb dX12_arguments_59 rfl ?_
          refine xb_icmp_eq (tgt := 84) hx hb (by unfold ir; omega) (by unfold ir; omega) dX12_arguments_60 (by decide) (fun c_60 => ?_) (fun c_60 => ?_)
          · refine lv_iinc (v := iv (c9 + 1)) (lv' := [(2, .int (iv (c9 + 1))), (4, .int (iv r_168)), (3, .int (iv m9)), (0, .ref (oP ω 111)), (1, .int (iv x1))]) hx hb dX12_arguments_84 hl (k := 2) rfl (by rw [show Int32.ofInt 1 = iv 1 from rfl, iv_add]) (by decide) rfl (fun ls hl => ?_)
            refine lv_aload_n hx hb dX12_arguments_87 rfl (lv_at hl 3 rfl) ?_
            refine lv_bipush (v := iv 44) hx hb dX12_arguments_88 rfl ?_
            have hPM_179 : PM μ167 := hp_152.cg ((((hp_170 4 (by decide)).trans ((hp_151 4 (by decide)).trans ((hi_64 4 (by decide)).trans (hp_4 4 (by decide)))))).trans (((hp_151 4 (by decide)).trans ((hi_64 4 (by decide)).trans (hp_4 4 (by decide))))).symm) (hp_170 6 (by decide)) ((((hp_170 7 (by decide)).trans ((hp_151 7 (by decide)).trans ((hi_64 7 (by decide)).trans (hp_4 7 (by decide)))))).trans (((hp_151 7 (by decide)).trans ((hi_64 7 (by decide)).trans (hp_4 7 (by decide))))).symm) (hp_170 8 (by decide)) (hp_170 9 (by decide)) (hp_170 11 (by decide)) (hp_170 12 (by decide)) ((((hp_170 14 (by decide)).trans ((hp_151 14 (by decide)).trans ((hi_64 14 (by decide)).trans ((hp_4 14 (by decide)).trans htt.symm))))).trans (((hp_151 14 (by decide)).trans ((hi_64 14 (by decide)).trans ((hp_4 14 (by decide)).trans htt.symm)))).symm) (hp_170 15 (by decide)) (hp_170 29 (by decide)) (fun j => (F_169.1 123 (by decide) j))
            have e_180 : wr μ167 = wr μ149 := (wr_cg (hp_170 15 (by decide)))
            have e_181 : nn μ167 = nn μ149 := (nn_cg (hp_170 15 (by decide)) (hp_170 18 (by decide)))
            have e_182 : μ167.1 111 9 = μ149.1 111 9 := (hp_170 9 (by decide))
            have e_183 : wr μ167 = wr μ149 := (wr_cg (hp_170 15 (by decide)))
            have e_184 : wr μ167 = wr μ149 := (wr_cg (hp_170 15 (by decide)))
            have e_185 : bd μ167 = bd μ149 := (bd_cg (hp_170 15 (by decide)) (hp_170 16 (by decide)))
            have e_186 : nn μ167 = nn μ149 := (nn_cg (hp_170 15 (by decide)) (hp_170 18 (by decide)))
            refine xc_iV G (b := 111) (rest := []) (As := [.int (iv 44)]) (c_X12_takesSign ω l μ167 44 (by unfold ir; omega) hPM_179 (by omega)) (wm 9 106 rfl rfl) (wm 9 108 rfl rfl) (wm 0 139 rfl rfl) rfl rfl (by decide) rfl (wm 1 18 rfl rfl) (wm 9 109 rfl rfl) (by decide) hR ⟨nfr hF (by decide), nlo hLo (by decide)⟩ (n := 1) rfl rfl (Nat.le_of_ble_eq_true rfl) hl.1 dX12_arguments_90 (fun r_188 μ187 ρ d0 H locs hr_r_188 hp G => ?_)
            have hr_r_188 : -2147483648 ≤ r_188 ∧ r_188 ≤ 2147483647 := hr_r_188
            obtain ⟨F_189, hp_190, hp_191, hp_192, hp_193, hp_194, hp_195⟩ := hp
            have hpl_196 := hp_191.pl
            have hw_197 := wr_r (μ := μ167)
            have hw_198 := wr_r (μ := μ187)
            refine lv_istore_n (lv' := [(3, .int (iv r_188)), (2, .int (iv (c9 + 1))), (4, .int (iv r_168)), (0, .ref (oP ω 111)), (1, .int (iv x1))]) hx hb dX12_arguments_93 rfl hl (by decide) rfl (fun ls hl => ?_)
            refine lv_goto (tgt := 19) hx hb dX12_arguments_94 (by decide) ?_
            have e_199 : μ187.1 111 22 = μ167.1 111 22 := (hp_190 22 (by decide))
            have e_200 : μ187.1 111 22 = μ167.1 111 22 := (hp_190 22 (by decide))
            have e_201 : μ187.1 111 29 = μ149.1 111 29 := ((hp_190 29 (by decide)).trans (hp_170 29 (by decide)))
            have e_202 : μ187.1 111 39 = μ149.1 111 39 := ((hp_190 39 (by decide)).trans (hp_170 39 (by decide)))
            have e_203 : μ187.1 111 39 = μ149.1 111 39 := ((hp_190 39 (by decide)).trans (hp_170 39 (by decide)))
            have e_204 : μ187.1 111 22 = μ167.1 111 22 := (hp_190 22 (by decide))
            have e_205 : μ187.1 111 39 = μ149.1 111 39 := ((hp_190 39 (by decide)).trans (hp_170 39 (by decide)))
            have e_206 : μ187.1 111 22 = μ167.1 111 22 := (hp_190 22 (by decide))
            have e_207 : μ187.1 111 39 = μ149.1 111 39 := ((hp_190 39 (by decide)).trans (hp_170 39 (by decide)))
            have e_208 : μ187.1 111 22 = μ167.1 111 22 := (hp_190 22 (by decide))
            have e_209 : μ187.1 111 29 = μ149.1 111 29 := ((hp_190 29 (by decide)).trans (hp_170 29 (by decide)))
            have e_211 : μ187.1 111 29 = μ149.1 111 29 := ((hp_190 29 (by decide)).trans (hp_170 29 (by decide)))
            have hX_210 : ∀ _ : Unit, bd μ187 = 0 → mPX μo μ187 tt ((x1 + c9) + 1) 1 HH (lsk r_168 ++ (wls μL59 ff (μL59.1 111 39) ++ [])) := fun _ h0 => (hX_177 () (by have e9 : bd μ167 = bd μ149 := (bd_cg (hp_170 15 (by decide)) (hp_170 16 (by decide))); have e8 : bd μ187 = bd μ187 := rfl; omega)).qm (q0m.fr (K := [111]) (Fr.tr Fr.rf F_189 (by decide)) (by decide) (by decide) (by decide) (hp_190 22 (by decide)) (by omega))
            have e_212 : μ187.1 111 29 = μ149.1 111 29 := ((hp_190 29 (by decide)).trans (hp_170 29 (by decide)))
            have hxt_213 : mEXT μ μ187 := hxt_173.tr (q0m.fr (K := [111]) (Fr.tr Fr.rf F_189 (by decide)) (by decide) (by decide) (by decide) (hp_190 22 (by decide)) (by omega)).1
            exact ih _ _ _ _ _ _ _ (by omega) ⟨c9 + 1, r_188, (Fr.tr (Fr.tr (Fr.tr FL60 F_150 (by decide)) F_169 (by decide)) F_189 (by decide)), (by omega), (by omega), (fun j hj => ((hp_190 j (fun h9 => hj ((by decide : ∀ x ∈ ([6, 8, 9, 10, 11, 12, 13, 15] : List Int), x ∈ ([6, 8, 9, 10, 11, 12, 13, 15, 16, 17, 18, 22, 29, 39] : List Int)) j h9))).trans ((hp_170 j (fun h9 => hj ((by decide : ∀ x ∈ ([22] : List Int), x ∈ ([6, 8, 9, 10, 11, 12, 13, 15, 16, 17, 18, 22, 29, 39] : List Int)) j h9))).trans ((hp_151 j (fun h9 => hj ((by decide : ∀ x ∈ ([6, 8, 9, 10, 11, 12, 13, 15, 16, 17, 18, 22, 29, 39] : List Int), x ∈ ([6, 8, 9, 10, 11, 12, 13, 15, 16, 17, 18, 22, 29, 39] : List Int)) j h9))).trans (hi_64 j (fun h9 => hj ((by decide : ∀ x ∈ ([6, 8, 9, 10, 11, 12, 13, 15, 16, 17, 18, 22, 29, 39] : List Int), x ∈ ([6, 8, 9, 10, 11, 12, 13, 15, 16, 17, 18, 22, 29, 39] : List Int)) j h9))))))), (by omega), (by omega), (by omega), (by omega), hp_191, (by omega), (by omega), (by omega), (by omega), (by omega), (by omega), (fun j hj => ((F_189.1 126 (by decide) j).trans ((F_169.1 126 (by decide) j).trans ((hp_159 j (by omega)).trans (hi_76 j (by omega)))))), (fun j h1 h2 => by rcases Int.lt_or_le j (μL59.1 111 39) with h9 | h9; (have b9 := hi_77 j h1 h9; rw [show μ187.1 126 j = μL59.1 126 j from ((F_189.1 126 (by decide) j).trans ((F_169.1 126 (by decide) j).trans (hp_159 j (by omega))))]; exact ⟨b9.1, by omega⟩); (omega)), (fun _ h0 => (((hX_210 ()) h0).ee (by omega)).mem (fun i => wls_old (fun j h1 h9 => ((F_189.1 126 (by decide) j).trans ((F_169.1 126 (by decide) j).trans (hp_159 j (by omega))))) (by omega) (by omega))), hxt_213, rfl, lv_sub hl [0, 1, 3, 4] rfl⟩ G
          · refine lv_aload_n hx hb dX12_arguments_63 rfl (lv_at hl 3 rfl) ?_
            refine xa_getr G fd_X12 (a := 111) (x := 126) 38 rfl (by decide) rfl (wm 7 187 rfl rfl) ⟨rfl, rfl, rfl⟩ dX12_arguments_64 rfl (G.sk 124 rfl) (by decide) rfl ?_
            refine lv_aload_n hx hb dX12_arguments_67 rfl (lv_at hl 3 rfl) ?_
            refine xa_geti G fd_X12 (a := 111) (x := μ149.1 111 39) 39 rfl (by decide) rfl (wm 7 188 rfl rfl) ⟨rfl, rfl, rfl⟩ dX12_arguments_68 rfl (hp_170 39 (by decide)) ?_
            have hr_214 : -2147483648 ≤ μ149.1 111 39 ∧ μ149.1 111 39 ≤ 2147483647 := by have h9 := G.hr (a := 111) (k := 39) rfl; rw [show μ167.1 111 39 = μ149.1 111 39 from (hp_170 39 (by decide))] at h9; exact h9
            refine lv_iload hx hb dX12_arguments_71 (lv_at hl 0 rfl) ?_
            have e_215 : μ167.1 111 39 = μ149.1 111 39 := (hp_170 39 (by decide))
            refine xa_iast G (a := 126) (i := μ149.1 111 39) (x := r_168) rfl (by have h9 := G.lc (a := 126) (n := 12000) 64 rfl; omega) (by unfold ir; omega) dX12_arguments_73 rfl (fun H locs G => ?_)
            refine lv_aload_n hx hb dX12_arguments_74 rfl (lv_at hl 3 rfl) ?_
            refine lv_dup hx hb dX12_arguments_75 rfl ?_
            refine xa_geti G fd_X12 (a := 111) (x := μ149.1 111 39) 39 rfl (by decide) rfl (wm 7 188 rfl rfl) ⟨rfl, rfl, rfl⟩ dX12_arguments_76 rfl ((sv_n _ (fun h9 => absurd h9.1 (by decide))).trans (hp_170 39 (by decide))) ?_
            refine lv_iconst (v := iv 1) hx hb dX12_arguments_79 rfl ?_
            refine xb_iadd hx hb dX12_arguments_80 ?_
            refine xa_puti G fd_X12 (a := 111) (x := (μ149.1 111 39) + 1) 39 (kz := 39) rfl rfl (by decide) rfl (by unfold ir; omega) (wm 7 188 rfl rfl) ⟨rfl, rfl, rfl, rfl⟩ rfl dX12_arguments_81 rfl (fun H locs G => ?_)
            refine lv_iinc (v := iv (c9 + 1)) (lv' := [(2, .int (iv (c9 + 1))), (4, .int (iv r_168)), (3, .int (iv m9)), (0, .ref (oP ω 111)), (1, .int (iv x1))]) hx hb dX12_arguments_84 hl (k := 2) rfl (by rw [show Int32.ofInt 1 = iv 1 from rfl, iv_add]) (by decide) rfl (fun ls hl => ?_)
            refine lv_aload_n hx hb dX12_arguments_87 rfl (lv_at hl 3 rfl) ?_
            refine lv_bipush (v := iv 44) hx hb dX12_arguments_88 rfl ?_
            have e_216 : (sv (sv μ167 126 (μ149.1 111 39) r_168) 111 39 ((μ149.1 111 39) + 1)).1 111 29 = μ149.1 111 29 := ((sv_n _ (by decide)).trans ((sv_n _ (fun h9 => absurd h9.1 (by decide))).trans (hp_170 29 (by decide))))
            have e_217 : wr (sv (sv μ167 126 (μ149.1 111 39) r_168) 111 39 ((μ149.1 111 39) + 1)) = wr μ149 := ((wr_cg (sv_n _ (by decide))).trans ((wr_cg (sv_n _ (fun h9 => absurd h9.1 (by decide)))).trans (wr_cg (hp_170 15 (by decide)))))
            have e_218 : bd (sv (sv μ167 126 (μ149.1 111 39) r_168) 111 39 ((μ149.1 111 39) + 1)) = bd μ149 := ((bd_cg (sv_n _ (by decide)) (sv_n _ (by decide))).trans ((bd_cg (sv_n _ (fun h9 => absurd h9.1 (by decide))) (sv_n _ (fun h9 => absurd h9.1 (by decide)))).trans (bd_cg (hp_170 15 (by decide)) (hp_170 16 (by decide)))))
            have e_219 : nn (sv (sv μ167 126 (μ149.1 111 39) r_168) 111 39 ((μ149.1 111 39) + 1)) = nn μ149 := ((nn_cg (sv_n _ (by decide)) (sv_n _ (by decide))).trans ((nn_cg (sv_n _ (fun h9 => absurd h9.1 (by decide))) (sv_n _ (fun h9 => absurd h9.1 (by decide)))).trans (nn_cg (hp_170 15 (by decide)) (hp_170 18 (by decide)))))
            have e_221 : (sv (sv μ167 126 (μ149.1 111 39) r_168) 111 39 ((μ149.1 111 39) + 1)).1 111 29 = μ149.1 111 29 := ((sv_n _ (by decide)).trans ((sv_n _ (fun h9 => absurd h9.1 (by decide))).trans (hp_170 29 (by decide))))
            have hX_220 : ∀ _ : Unit, bd (sv (sv μ167 126 (μ149.1 111 39) r_168) 111 39 ((μ149.1 111 39) + 1)) = 0 → mPX μo (sv (sv μ167 126 (μ149.1 111 39) r_168) 111 39 ((μ149.1 111 39) + 1)) tt ((x1 + c9) + 1) 1 HH (lsk r_168 ++ (wls μL59 ff (μL59.1 111 39) ++ [])) := fun _ h0 => (hX_177 () (by have e9 : bd μ167 = bd μ149 := (bd_cg (hp_170 15 (by decide)) (hp_170 16 (by decide))); have e8 : bd (sv (sv μ167 126 (μ149.1 111 39) r_168) 111 39 ((μ149.1 111 39) + 1)) = bd μ149 := ((bd_cg (sv_n _ (by decide)) (sv_n _ (by decide))).trans ((bd_cg (sv_n _ (fun h9 => absurd h9.1 (by decide))) (sv_n _ (fun h9 => absurd h9.1 (by decide)))).trans (bd_cg (hp_170 15 (by decide)) (hp_170 16 (by decide))))); omega)).qm (q0m.fr (K := [111, 126]) (Fr.put (Fr.put Fr.rf (by decide)) (by decide)) (by decide) (by decide) (by decide) ((sv_n _ (by decide)).trans (sv_n _ (fun h9 => absurd h9.1 (by decide)))) (by omega))
            have hPM_222 : PM (sv (sv μ167 126 (μ149.1 111 39) r_168) 111 39 ((μ149.1 111 39) + 1)) := hp_152.cg ((((sv_n _ (by decide)).trans ((sv_n _ (fun h9 => absurd h9.1 (by decide))).trans ((hp_170 4 (by decide)).trans ((hp_151 4 (by decide)).trans ((hi_64 4 (by decide)).trans (hp_4 4 (by decide)))))))).trans (((hp_151 4 (by decide)).trans ((hi_64 4 (by decide)).trans (hp_4 4 (by decide))))).symm) ((sv_n _ (by decide)).trans ((sv_n _ (fun h9 => absurd h9.1 (by decide))).trans (hp_170 6 (by decide)))) ((((sv_n _ (by decide)).trans ((sv_n _ (fun h9 => absurd h9.1 (by decide))).trans ((hp_170 7 (by decide)).trans ((hp_151 7 (by decide)).trans ((hi_64 7 (by decide)).trans (hp_4 7 (by decide)))))))).trans (((hp_151 7 (by decide)).trans ((hi_64 7 (by decide)).trans (hp_4 7 (by decide))))).symm) ((sv_n _ (by decide)).trans ((sv_n _ (fun h9 => absurd h9.1 (by decide))).trans (hp_170 8 (by decide)))) ((sv_n _ (by decide)).trans ((sv_n _ (fun h9 => absurd h9.1 (by decide))).trans (hp_170 9 (by decide)))) ((sv_n _ (by decide)).trans ((sv_n _ (fun h9 => absurd h9.1 (by decide))).trans (hp_170 11 (by decide)))) ((sv_n _ (by decide)).trans ((sv_n _ (fun h9 => absurd h9.1 (by decide))).trans (hp_170 12 (by decide)))) ((((sv_n _ (by decide)).trans ((sv_n _ (fun h9 => absurd h9.1 (by decide))).trans ((hp_170 14 (by decide)).trans ((hp_151 14 (by decide)).trans ((hi_64 14 (by decide)).trans ((hp_4 14 (by decide)).trans htt.symm))))))).trans (((hp_151 14 (by decide)).trans ((hi_64 14 (by decide)).trans ((hp_4 14 (by decide)).trans htt.symm)))).symm) ((sv_n _ (by decide)).trans ((sv_n _ (fun h9 => absurd h9.1 (by decide))).trans (hp_170 15 (by decide)))) ((sv_n _ (by decide)).trans ((sv_n _ (fun h9 => absurd h9.1 (by decide))).trans (hp_170 29 (by decide)))) (fun j => ((sv_n _ (by omega)).trans ((sv_n _ (by omega)).trans (F_169.1 123 (by decide) j))))
            have e_223 : wr (sv (sv μ167 126 (μ149.1 111 39) r_168) 111 39 ((μ149.1 111 39) + 1)) = wr μ149 := ((wr_cg (sv_n _ (by decide))).trans ((wr_cg (sv_n _ (fun h9 => absurd h9.1 (by decide)))).trans (wr_cg (hp_170 15 (by decide)))))
            have e_224 : nn (sv (sv μ167 126 (μ149.1 111 39) r_168) 111 39 ((μ149.1 111 39) + 1)) = nn μ149 := ((nn_cg (sv_n _ (by decide)) (sv_n _ (by decide))).trans ((nn_cg (sv_n _ (fun h9 => absurd h9.1 (by decide))) (sv_n _ (fun h9 => absurd h9.1 (by decide)))).trans (nn_cg (hp_170 15 (by decide)) (hp_170 18 (by decide)))))
            have e_225 : (sv (sv μ167 126 (μ149.1 111 39) r_168) 111 39 ((μ149.1 111 39) + 1)).1 111 9 = μ149.1 111 9 := ((sv_n _ (by decide)).trans ((sv_n _ (fun h9 => absurd h9.1 (by decide))).trans (hp_170 9 (by decide))))
            have e_226 : wr (sv (sv μ167 126 (μ149.1 111 39) r_168) 111 39 ((μ149.1 111 39) + 1)) = wr μ149 := ((wr_cg (sv_n _ (by decide))).trans ((wr_cg (sv_n _ (fun h9 => absurd h9.1 (by decide)))).trans (wr_cg (hp_170 15 (by decide)))))
            have e_227 : wr (sv (sv μ167 126 (μ149.1 111 39) r_168) 111 39 ((μ149.1 111 39) + 1)) = wr μ149 := ((wr_cg (sv_n _ (by decide))).trans ((wr_cg (sv_n _ (fun h9 => absurd h9.1 (by decide)))).trans (wr_cg (hp_170 15 (by decide)))))
            have e_228 : bd (sv (sv μ167 126 (μ149.1 111 39) r_168) 111 39 ((μ149.1 111 39) + 1)) = bd μ149 := ((bd_cg (sv_n _ (by decide)) (sv_n _ (by decide))).trans ((bd_cg (sv_n _ (fun h9 => absurd h9.1 (by decide))) (sv_n _ (fun h9 => absurd h9.1 (by decide)))).trans (bd_cg (hp_170 15 (by decide)) (hp_170 16 (by decide)))))
            have e_229 : nn (sv (sv μ167 126 (μ149.1 111 39) r_168) 111 39 ((μ149.1 111 39) + 1)) = nn μ149 := ((nn_cg (sv_n _ (by decide)) (sv_n _ (by decide))).trans ((nn_cg (sv_n _ (fun h9 => absurd h9.1 (by decide))) (sv_n _ (fun h9 => absurd h9.1 (by decide)))).trans (nn_cg (hp_170 15 (by decide)) (hp_170 18 (by decide)))))
            refine xc_iV G (b := 111) (rest := []) (As := [.int (iv 44)]) (c_X12_takesSign ω l (sv (sv μ167 126 (μ149.1 111 39) r_168) 111 39 ((μ149.1 111 39) + 1)) 44 (by unfold ir; omega) hPM_222 (by omega)) (wm 9 106 rfl rfl) (wm 9 108 rfl rfl) (wm 0 139 rfl rfl) rfl rfl (by decide) rfl (wm 1 18 rfl rfl) (wm 9 109 rfl rfl) (by decide) hR ⟨nfr hF (by decide), nlo hLo (by decide)⟩ (n := 1) rfl rfl (Nat.le_of_ble_eq_true rfl) hl.1 dX12_arguments_90 (fun r_231 μ230 ρ d0 H locs hr_r_231 hp G => ?_)
            have hr_r_231 : -2147483648 ≤ r_231 ∧ r_231 ≤ 2147483647 := hr_r_231
            obtain ⟨F_232, hp_233, hp_234, hp_235, hp_236, hp_237, hp_238⟩ := hp
            have hpl_239 := hp_234.pl
            have hw_240 := wr_r (μ := μ230)
            refine lv_istore_n (lv' := [(3, .int (iv r_231)), (2, .int (iv (c9 + 1))), (4, .int (iv r_168)), (0, .ref (oP ω 111)), (1, .int (iv x1))]) hx hb dX12_arguments_93 rfl hl (by decide) rfl (fun ls hl => ?_)
            refine lv_goto (tgt := 19) hx hb dX12_arguments_94 (by decide) ?_
            have e_241 : μ230.1 111 22 = μ167.1 111 22 := ((hp_233 22 (by decide)).trans ((sv_n _ (by decide)).trans (sv_n _ (fun h9 => absurd h9.1 (by decide)))))
            have e_242 : μ230.1 111 22 = μ167.1 111 22 := ((hp_233 22 (by decide)).trans ((sv_n _ (by decide)).trans (sv_n _ (fun h9 => absurd h9.1 (by decide)))))
            have e_243 : μ230.1 111 29 = μ149.1 111 29 := ((hp_233 29 (by decide)).trans ((sv_n _ (by decide)).trans ((sv_n _ (fun h9 => absurd h9.1 (by decide))).trans (hp_170 29 (by decide)))))
            have e_244 : μ230.1 111 39 = (μ149.1 111 39) + 1 := ((hp_233 39 (by decide)).trans (sv_s _ _ _ _))
            have e_245 : μ230.1 111 39 = (μ149.1 111 39) + 1 := ((hp_233 39 (by decide)).trans (sv_s _ _ _ _))
            have e_246 : μ230.1 111 22 = μ167.1 111 22 := ((hp_233 22 (by decide)).trans ((sv_n _ (by decide)).trans (sv_n _ (fun h9 => absurd h9.1 (by decide)))))
            have e_247 : μ230.1 111 39 = (μ149.1 111 39) + 1 := ((hp_233 39 (by decide)).trans (sv_s _ _ _ _))
            have e_248 : μ230.1 111 22 = μ167.1 111 22 := ((hp_233 22 (by decide)).trans ((sv_n _ (by decide)).trans (sv_n _ (fun h9 => absurd h9.1 (by decide)))))
            have e_249 : μ230.1 111 39 = (μ149.1 111 39) + 1 := ((hp_233 39 (by decide)).trans (sv_s _ _ _ _))
            have e_250 : μ230.1 111 22 = μ167.1 111 22 := ((hp_233 22 (by decide)).trans ((sv_n _ (by decide)).trans (sv_n _ (fun h9 => absurd h9.1 (by decide)))))
            have e_251 : μ230.1 111 29 = μ149.1 111 29 := ((hp_233 29 (by decide)).trans ((sv_n _ (by decide)).trans ((sv_n _ (fun h9 => absurd h9.1 (by decide))).trans (hp_170 29 (by decide)))))
            have e_253 : μ230.1 111 29 = μ149.1 111 29 := ((hp_233 29 (by decide)).trans ((sv_n _ (by decide)).trans ((sv_n _ (fun h9 => absurd h9.1 (by decide))).trans (hp_170 29 (by decide)))))
            have hX_252 : ∀ _ : Unit, bd μ230 = 0 → mPX μo μ230 tt ((x1 + c9) + 1) 1 HH (lsk r_168 ++ (wls μL59 ff (μL59.1 111 39) ++ [])) := fun _ h0 => (hX_220 () (by have e9 : bd (sv (sv μ167 126 (μ149.1 111 39) r_168) 111 39 ((μ149.1 111 39) + 1)) = bd μ149 := ((bd_cg (sv_n _ (by decide)) (sv_n _ (by decide))).trans ((bd_cg (sv_n _ (fun h9 => absurd h9.1 (by decide))) (sv_n _ (fun h9 => absurd h9.1 (by decide)))).trans (bd_cg (hp_170 15 (by decide)) (hp_170 16 (by decide))))); have e8 : bd μ230 = bd μ230 := rfl; omega)).qm (q0m.fr (K := [111]) (Fr.tr Fr.rf F_232 (by decide)) (by decide) (by decide) (by decide) ((((hp_233 22 (by decide)).trans ((sv_n _ (by decide)).trans (sv_n _ (fun h9 => absurd h9.1 (by decide)))))).trans (((sv_n _ (by decide)).trans (sv_n _ (fun h9 => absurd h9.1 (by decide))))).symm) (by omega))
            have e_254 : μ230.1 111 29 = μ149.1 111 29 := ((hp_233 29 (by decide)).trans ((sv_n _ (by decide)).trans ((sv_n _ (fun h9 => absurd h9.1 (by decide))).trans (hp_170 29 (by decide)))))
            have hxt_255 : mEXT μ μ230 := hxt_173.tr (q0m.fr (K := [111, 126]) (Fr.tr (Fr.put (Fr.put Fr.rf (by decide)) (by decide)) F_232 (by decide)) (by decide) (by decide) (by decide) ((hp_233 22 (by decide)).trans ((sv_n _ (by decide)).trans (sv_n _ (fun h9 => absurd h9.1 (by decide))))) (by omega)).1
            exact ih _ _ _ _ _ _ _ (by omega) ⟨c9 + 1, r_231, (Fr.tr (Fr.put (Fr.put (Fr.tr (Fr.tr FL60 F_150 (by decide)) F_169 (by decide)) (by decide)) (by decide)) F_232 (by decide)), (by omega), (by omega), (fun j hj => ((hp_233 j (fun h9 => hj ((by decide : ∀ x ∈ ([6, 8, 9, 10, 11, 12, 13, 15] : List Int), x ∈ ([6, 8, 9, 10, 11, 12, 13, 15, 16, 17, 18, 22, 29, 39] : List Int)) j h9))).trans ((sv_n _ (fun h9 => hj (by rw [h9.2]; decide))).trans ((sv_n _ (fun h9 => absurd h9.1 (by decide))).trans ((hp_170 j (fun h9 => hj ((by decide : ∀ x ∈ ([22] : List Int), x ∈ ([6, 8, 9, 10, 11, 12, 13, 15, 16, 17, 18, 22, 29, 39] : List Int)) j h9))).trans ((hp_151 j (fun h9 => hj ((by decide : ∀ x ∈ ([6, 8, 9, 10, 11, 12, 13, 15, 16, 17, 18, 22, 29, 39] : List Int), x ∈ ([6, 8, 9, 10, 11, 12, 13, 15, 16, 17, 18, 22, 29, 39] : List Int)) j h9))).trans (hi_64 j (fun h9 => hj ((by decide : ∀ x ∈ ([6, 8, 9, 10, 11, 12, 13, 15, 16, 17, 18, 22, 29, 39] : List Int), x ∈ ([6, 8, 9, 10, 11, 12, 13, 15, 16, 17, 18, 22, 29, 39] : List Int)) j h9))))))))), (by omega), (by omega), (by omega), (by omega), hp_234, (by omega), (by omega), (by omega), (by omega), (by omega), (by omega), (fun j hj => ((F_232.1 126 (by decide) j).trans ((sv_n _ (fun h9 => absurd h9.1 (by decide))).trans ((sv_n _ (by omega)).trans ((F_169.1 126 (by decide) j).trans ((hp_159 j (by omega)).trans (hi_76 j (by omega)))))))), (fun j h1 h2 => by rcases Int.lt_or_le j (μL59.1 111 39) with h9 | h9; (have b9 := hi_77 j h1 h9; rw [show μ230.1 126 j = μL59.1 126 j from ((F_232.1 126 (by decide) j).trans ((sv_n _ (fun h9 => absurd h9.1 (by decide))).trans ((sv_n _ (by omega)).trans ((F_169.1 126 (by decide) j).trans (hp_159 j (by omega))))))]; exact ⟨b9.1, by omega⟩); (rw [show j = μ149.1 111 39 by omega, show μ230.1 126 (μ149.1 111 39) = r_168 from ((F_232.1 126 (by decide) (μ149.1 111 39)).trans ((sv_n _ (fun h9 => absurd h9.1 (by decide))).trans (sv_s _ _ _ _)))]; omega)), (fun _ h0 => (((hX_252 ()) h0).ee (by omega)).mem (fun i => wls_new (by omega) (fun j h1 h9 => ((F_232.1 126 (by decide) j).trans ((sv_n _ (fun h9 => absurd h9.1 (by decide))).trans ((sv_n _ (by omega)).trans ((F_169.1 126 (by decide) j).trans (hp_159 j (by omega))))))) (by omega) (by rw [show μL59.1 111 39 = μ149.1 111 39 by omega]; exact ((F_232.1 126 (by decide) (μ149.1 111 39)).trans ((sv_n _ (fun h9 => absurd h9.1 (by decide))).trans (sv_s _ _ _ _)))) (by omega))), hxt_255, rfl, lv_sub hl [0, 1, 3, 4] rfl⟩ G
        · refine lv_aload_n hx hb dX12_arguments_36 rfl (lv_at hl 2 rfl) ?_
          refine lv_aload_n hx hb dX12_arguments_37 rfl (lv_at hl 2 rfl) ?_
          refine xa_geti G fd_X12 (a := 111) (x := μL59.1 111 9) 9 rfl (by decide) rfl (wm 7 158 rfl rfl) ⟨rfl, rfl, rfl⟩ dX12_arguments_38 rfl rfl ?_
          have hr_256 : -2147483648 ≤ μL59.1 111 9 ∧ μL59.1 111 9 ≤ 2147483647 := by have h9 := G.hr (a := 111) (k := 9) rfl; exact h9
          refine xc_vV G (b := 111) (rest := []) (As := [.int (iv (μL59.1 111 9))]) (c_X12_wrong2 ω l μL59 (μL59.1 111 9) (by unfold ir; omega) (by omega)) (wm 9 78 rfl rfl) (wm 9 80 rfl rfl) (wm 0 132 rfl rfl) rfl rfl (by decide) rfl (wm 1 18 rfl rfl) (wm 9 81 rfl rfl) (by decide) hR ⟨nfr hF (by decide), nlo hLo (by decide)⟩ (n := 1) rfl rfl (Nat.le_of_ble_eq_true rfl) hl.1 dX12_arguments_41 (fun μ257 ρ d0 H locs hp G => ?_)
          obtain ⟨F_258, hp_259, hp_260⟩ := hp
          have hw_261 := wr_r (μ := μ257)
          have e_262 : wr μ257 = wr μL59 := (wr_cg (hp_259 15 (by decide)))
          have e_263 : nn μ257 = nn μL59 := (nn_cg (hp_259 15 (by decide)) (hp_259 18 (by decide)))
          refine lv_aload_n hx hb dX12_arguments_44 rfl (lv_at hl 2 rfl) ?_
          have e_264 : μ257.1 111 29 = μL59.1 111 29 := (hp_259 29 (by decide))
          have e_265 : wr μ257 = wr μL59 := (wr_cg (hp_259 15 (by decide)))
          have e_266 : nn μ257 = nn μL59 := (nn_cg (hp_259 15 (by decide)) (hp_259 18 (by decide)))
          have e_268 : μ257.1 111 29 = μL59.1 111 29 := (hp_259 29 (by decide))
          have hX_267 : ∀ _ : Unit, bd μ257 = 0 → mPX μo μ257 tt (x1 + c9) 1 HH (wls μL59 ff (μL59.1 111 39) ++ []) := fun _ h0 => (hX_83 () (by have e9 : bd μL59 = bd μL59 := rfl; have e8 : bd μ257 = bd μ257 := rfl; omega)).qm (q0m.fr (K := [111]) (Fr.tr Fr.rf F_258 (by decide)) (by decide) (by decide) (by decide) (hp_259 22 (by decide)) (by omega))
          have e_269 : μ257.1 111 29 = μL59.1 111 29 := (hp_259 29 (by decide))
          have e_270 : μ257.1 111 29 = μL59.1 111 29 := (hp_259 29 (by decide))
          have hxt_271 : mEXT μ μ257 := hi_79.tr (q0m.fr (K := [111]) (Fr.tr Fr.rf F_258 (by decide)) (by decide) (by decide) (by decide) (hp_259 22 (by decide)) (by omega)).1
          have e_272 : μ257.1 111 14 = tt := ((hp_259 14 (by decide)).trans ((hi_64 14 (by decide)).trans ((hp_4 14 (by decide)).trans htt.symm)))
          have hPM_273 : PM μ257 := hi_69.cg ((((hp_259 4 (by decide)).trans ((hi_64 4 (by decide)).trans (hp_4 4 (by decide))))).trans (((hi_64 4 (by decide)).trans (hp_4 4 (by decide)))).symm) (hp_259 6 (by decide)) ((((hp_259 7 (by decide)).trans ((hi_64 7 (by decide)).trans (hp_4 7 (by decide))))).trans (((hi_64 7 (by decide)).trans (hp_4 7 (by decide)))).symm) (hp_259 8 (by decide)) (hp_259 9 (by decide)) (hp_259 11 (by decide)) (hp_259 12 (by decide)) ((((hp_259 14 (by decide)).trans ((hi_64 14 (by decide)).trans ((hp_4 14 (by decide)).trans htt.symm)))).trans (((hi_64 14 (by decide)).trans ((hp_4 14 (by decide)).trans htt.symm))).symm) (hp_259 15 (by decide)) (hp_259 29 (by decide)) (fun j => (F_258.1 123 (by decide) j))
          have e_274 : wr μ257 = wr μL59 := (wr_cg (hp_259 15 (by decide)))
          have e_275 : nn μ257 = nn μL59 := (nn_cg (hp_259 15 (by decide)) (hp_259 18 (by decide)))
          have e_276 : wr μ257 = wr μL59 := (wr_cg (hp_259 15 (by decide)))
          have e_277 : nn μ257 = nn μL59 := (nn_cg (hp_259 15 (by decide)) (hp_259 18 (by decide)))
          have e_278 : μ257.1 111 22 = μL59.1 111 22 := (hp_259 22 (by decide))
          have e_279 : μ257.1 111 22 = μL59.1 111 22 := (hp_259 22 (by decide))
          have e_280 : μ257.1 111 9 = μL59.1 111 9 := (hp_259 9 (by decide))
          have e_281 : wr μ257 = wr μL59 := (wr_cg (hp_259 15 (by decide)))
          have e_282 : μ257.1 111 39 = μL59.1 111 39 := (hp_259 39 (by decide))
          have e_283 : μ257.1 111 39 = μL59.1 111 39 := (hp_259 39 (by decide))
          have e_284 : μ257.1 111 22 = μL59.1 111 22 := (hp_259 22 (by decide))
          have e_285 : μ257.1 111 31 = μ.1 111 31 := ((hp_259 31 (by decide)).trans ((hi_64 31 (by decide)).trans (hp_4 31 (by decide))))
          have e_286 : μ257.1 111 31 = μ.1 111 31 := ((hp_259 31 (by decide)).trans ((hi_64 31 (by decide)).trans (hp_4 31 (by decide))))
          have e_287 : nn μ257 = nn μL59 := (nn_cg (hp_259 15 (by decide)) (hp_259 18 (by decide)))
          have e_288 : μ257.1 111 22 = μL59.1 111 22 := (hp_259 22 (by decide))
          have e_289 : μ257.1 111 22 = μL59.1 111 22 := (hp_259 22 (by decide))
          have e_290 : μ257.1 111 9 = μL59.1 111 9 := (hp_259 9 (by decide))
          have e_291 : wr μ257 = wr μL59 := (wr_cg (hp_259 15 (by decide)))
          have e_292 : μ257.1 111 9 = μL59.1 111 9 := (hp_259 9 (by decide))
          have e_293 : μ257.1 111 29 = μL59.1 111 29 := (hp_259 29 (by decide))
          have e_294 : wr μ257 = wr μL59 := (wr_cg (hp_259 15 (by decide)))
          have e_295 : nn μ257 = nn μL59 := (nn_cg (hp_259 15 (by decide)) (hp_259 18 (by decide)))
          have e_296 : μ257.1 111 39 = μL59.1 111 39 := (hp_259 39 (by decide))
          refine xc_vV G (b := 111) (rest := []) (As := []) (((fun (_ : Om) (_ : Launch) => hE)) ω l μ257 tt (by omega) hPM_273 (by omega) (by omega) (by omega) (by omega) (by omega) (by omega) (fun _ h0 => ((hX_267 ()) h0).h1.1)) (wm 9 139 rfl rfl) (wm 9 141 rfl rfl) (wm 0 147 rfl rfl) rfl rfl (by decide) rfl (wm 1 18 rfl rfl) (wm 9 142 rfl rfl) (by decide) hR ⟨sfr (F := F) (a := 0) (by decide), slo (L := Lo) (m := 1) (a := 0) (by decide)⟩ (n := 0) rfl rfl (Nat.le_of_ble_eq_true rfl) hl.1 dX12_arguments_45 (fun μ297 ρ d0 H locs hp G => ?_)
          obtain ⟨F_298, hp_299, hp_300, hp_301, hp_302, hp_303, hp_304, hp_305, hp_306, hp_307, hp_308, hp_309⟩ := hp
          have hpl_310 := hp_300.pl
          have hw_311 := wr_r (μ := μ297)
          have hxt_312 : mEXT μ μ297 := hxt_271.tr hp_309
          have hX_313 : ∀ _ : Unit, bd μ297 = 0 → mPX μo μ297 tt ((x1 + c9) + 1) 1 HH (wls μL59 ff (μL59.1 111 39) ++ []) := fun _ h0 => (((hX_267 ()) (by have e9 : bd μ257 = bd μ257 := rfl; have e8 : bd μ297 = bd μ297 := rfl; omega)).app (hp_308 () h0) (by omega)).ee (by omega)
          refine lv_aload_n hx hb dX12_arguments_48 rfl (lv_at hl 2 rfl) ?_
          refine lv_iload_n hx hb dX12_arguments_49 rfl (lv_at hl 3 rfl) ?_
          refine lv_iload_n hx hb dX12_arguments_50 rfl (lv_at hl 1 rfl) ?_
          refine xb_iadd hx hb dX12_arguments_51 ?_
          have e_314 : μ297.1 111 14 = tt := ((hp_299 14 (by decide)).trans ((hp_259 14 (by decide)).trans ((hi_64 14 (by decide)).trans ((hp_4 14 (by decide)).trans htt.symm))))
          refine xc_iV G (b := 111) (rest := []) (As := [.int (iv (x1 + c9))]) (c_X12_skips ω l μ297 (x1 + c9) tt (by unfold ir; omega) (by omega) (by omega)) (wm 9 159 rfl rfl) (wm 9 161 rfl rfl) (wm 0 152 rfl rfl) rfl rfl (by decide) rfl (wm 1 18 rfl rfl) (wm 9 162 rfl rfl) (by decide) hR ⟨nfr hF (by decide), nlo hLo (by decide)⟩ (n := 1) rfl rfl (Nat.le_of_ble_eq_true rfl) hl.1 dX12_arguments_52 (fun r_316 μ315 ρ d0 H locs hr_r_316 hp G => ?_)
          have hr_r_316 : -2147483648 ≤ r_316 ∧ r_316 ≤ 2147483647 := hr_r_316
          obtain ⟨F_317, hp_318, hp_319, hp_320⟩ := hp
          have hqr_r_316 : (r_316 = -1) ∨ (μ.1 111 22 ≤ r_316 ∧ r_316 < μ315.1 111 22) := by rcases hp_319 with ⟨q1, q2, q3, q4⟩ | ⟨q1, q2, q3⟩; (right; have := q2.2.1; omega); (left; exact q2)
          have hxt_321 : mEXT μ μ315 := hxt_312.tr hp_319.ext
          have e_322 : wr μ315 = wr μ297 := (wr_cg (hp_318 15 (by decide)))
          have e_323 : bd μ315 = bd μ297 := (bd_cg (hp_318 15 (by decide)) (hp_318 16 (by decide)))
          have e_324 : nn μ315 = nn μ297 := (nn_cg (hp_318 15 (by decide)) (hp_318 18 (by decide)))
          replace hp_319 := fun _ : Unit => hp_319
          have e_326 : μ315.1 111 29 = μ297.1 111 29 := (hp_318 29 (by decide))
          have hX_325 : ∀ _ : Unit, bd μ315 = 0 → mPX μo μ315 tt ((x1 + c9) + 1) 1 HH (lsk r_316 ++ (wls μL59 ff (μL59.1 111 39) ++ [])) := fun _ h0 => mPX.sk ((hX_313 ()) (by have e9 : bd μ297 = bd μ297 := rfl; have e8 : bd μ315 = bd μ297 := (bd_cg (hp_318 15 (by decide)) (hp_318 16 (by decide))); omega)) (hp_319 ()) (by omega) (by omega) (by decide)
          have hqs_r_316 : (r_316 = -1) ∨ (μ315.1 111 22 = μ297.1 111 22 + 1 ∧ r_316 = μ297.1 111 22) := by rcases hp_319 () with ⟨q1, q2, q3, q4⟩ | ⟨q1, q2, q3⟩; (right; exact ⟨q2.2.1, q3⟩); (left; exact q2)
          refine lv_istore (lv' := [(4, .int (iv r_316)), (3, .int (iv m9)), (2, .int (iv c9)), (0, .ref (oP ω 111)), (1, .int (iv x1))]) hx hb dX12_arguments_55 hl (by decide) rfl (fun ls hl => ?_)
          refine lv_iload hx hb dX12_arguments_57 (lv_at hl 0 rfl) ?_
          refine lv_iconst (v := iv (-1)) hx hb dX12_arguments_59 rfl ?_
          refine xb_icmp_eq (tgt := 84) hx hb (by unfold ir; omega) (by unfold ir; omega) dX12_arguments_60 (by decide) (fun c_60 => ?_) (fun c_60 => ?_)
          · refine lv_iinc (v := iv (c9 + 1)) (lv' := [(2, .int (iv (c9 + 1))), (4, .int (iv r_316)), (3, .int (iv m9)), (0, .ref (oP ω 111)), (1, .int (iv x1))]) hx hb dX12_arguments_84 hl (k := 2) rfl (by rw [show Int32.ofInt 1 = iv 1 from rfl, iv_add]) (by decide) rfl (fun ls hl => ?_)
            refine lv_aload_n hx hb dX12_arguments_87 rfl (lv_at hl 3 rfl) ?_
            refine lv_bipush (v := iv 44) hx hb dX12_arguments_88 rfl ?_
            have hPM_327 : PM μ315 := hp_300.cg ((((hp_318 4 (by decide)).trans ((hp_299 4 (by decide)).trans ((hp_259 4 (by decide)).trans ((hi_64 4 (by decide)).trans (hp_4 4 (by decide))))))).trans (((hp_299 4 (by decide)).trans ((hp_259 4 (by decide)).trans ((hi_64 4 (by decide)).trans (hp_4 4 (by decide)))))).symm) (hp_318 6 (by decide)) ((((hp_318 7 (by decide)).trans ((hp_299 7 (by decide)).trans ((hp_259 7 (by decide)).trans ((hi_64 7 (by decide)).trans (hp_4 7 (by decide))))))).trans (((hp_299 7 (by decide)).trans ((hp_259 7 (by decide)).trans ((hi_64 7 (by decide)).trans (hp_4 7 (by decide)))))).symm) (hp_318 8 (by decide)) (hp_318 9 (by decide)) (hp_318 11 (by decide)) (hp_318 12 (by decide)) ((((hp_318 14 (by decide)).trans ((hp_299 14 (by decide)).trans ((hp_259 14 (by decide)).trans ((hi_64 14 (by decide)).trans ((hp_4 14 (by decide)).trans htt.symm)))))).trans (((hp_299 14 (by decide)).trans ((hp_259 14 (by decide)).trans ((hi_64 14 (by decide)).trans ((hp_4 14 (by decide)).trans htt.symm))))).symm) (hp_318 15 (by decide)) (hp_318 29 (by decide)) (fun j => (F_317.1 123 (by decide) j))
            have e_328 : wr μ315 = wr μ297 := (wr_cg (hp_318 15 (by decide)))
            have e_329 : nn μ315 = nn μ297 := (nn_cg (hp_318 15 (by decide)) (hp_318 18 (by decide)))
            have e_330 : μ315.1 111 9 = μ297.1 111 9 := (hp_318 9 (by decide))
            have e_331 : wr μ315 = wr μ297 := (wr_cg (hp_318 15 (by decide)))
            have e_332 : wr μ315 = wr μ297 := (wr_cg (hp_318 15 (by decide)))
            have e_333 : bd μ315 = bd μ297 := (bd_cg (hp_318 15 (by decide)) (hp_318 16 (by decide)))
            have e_334 : nn μ315 = nn μ297 := (nn_cg (hp_318 15 (by decide)) (hp_318 18 (by decide)))
            refine xc_iV G (b := 111) (rest := []) (As := [.int (iv 44)]) (c_X12_takesSign ω l μ315 44 (by unfold ir; omega) hPM_327 (by omega)) (wm 9 106 rfl rfl) (wm 9 108 rfl rfl) (wm 0 139 rfl rfl) rfl rfl (by decide) rfl (wm 1 18 rfl rfl) (wm 9 109 rfl rfl) (by decide) hR ⟨nfr hF (by decide), nlo hLo (by decide)⟩ (n := 1) rfl rfl (Nat.le_of_ble_eq_true rfl) hl.1 dX12_arguments_90 (fun r_336 μ335 ρ d0 H locs hr_r_336 hp G => ?_)
            have hr_r_336 : -2147483648 ≤ r_336 ∧ r_336 ≤ 2147483647 := hr_r_336
            obtain ⟨F_337, hp_338, hp_339, hp_340, hp_341, hp_342, hp_343⟩ := hp
            have hpl_344 := hp_339.pl
            have hw_345 := wr_r (μ := μ315)
            have hw_346 := wr_r (μ := μ335)
            refine lv_istore_n (lv' := [(3, .int (iv r_336)), (2, .int (iv (c9 + 1))), (4, .int (iv r_316)), (0, .ref (oP ω 111)), (1, .int (iv x1))]) hx hb dX12_arguments_93 rfl hl (by decide) rfl (fun ls hl => ?_)
            refine lv_goto (tgt := 19) hx hb dX12_arguments_94 (by decide) ?_
            have e_347 : μ335.1 111 22 = μ315.1 111 22 := (hp_338 22 (by decide))
            have e_348 : μ335.1 111 22 = μ315.1 111 22 := (hp_338 22 (by decide))
            have e_349 : μ335.1 111 29 = μ297.1 111 29 := ((hp_338 29 (by decide)).trans (hp_318 29 (by decide)))
            have e_350 : μ335.1 111 39 = μ297.1 111 39 := ((hp_338 39 (by decide)).trans (hp_318 39 (by decide)))
            have e_351 : μ335.1 111 39 = μ297.1 111 39 := ((hp_338 39 (by decide)).trans (hp_318 39 (by decide)))
            have e_352 : μ335.1 111 22 = μ315.1 111 22 := (hp_338 22 (by decide))
            have e_353 : μ335.1 111 39 = μ297.1 111 39 := ((hp_338 39 (by decide)).trans (hp_318 39 (by decide)))
            have e_354 : μ335.1 111 22 = μ315.1 111 22 := (hp_338 22 (by decide))
            have e_355 : μ335.1 111 39 = μ297.1 111 39 := ((hp_338 39 (by decide)).trans (hp_318 39 (by decide)))
            have e_356 : μ335.1 111 22 = μ315.1 111 22 := (hp_338 22 (by decide))
            have e_357 : μ335.1 111 29 = μ297.1 111 29 := ((hp_338 29 (by decide)).trans (hp_318 29 (by decide)))
            have e_359 : μ335.1 111 29 = μ297.1 111 29 := ((hp_338 29 (by decide)).trans (hp_318 29 (by decide)))
            have hX_358 : ∀ _ : Unit, bd μ335 = 0 → mPX μo μ335 tt ((x1 + c9) + 1) 1 HH (lsk r_316 ++ (wls μL59 ff (μL59.1 111 39) ++ [])) := fun _ h0 => (hX_325 () (by have e9 : bd μ315 = bd μ297 := (bd_cg (hp_318 15 (by decide)) (hp_318 16 (by decide))); have e8 : bd μ335 = bd μ335 := rfl; omega)).qm (q0m.fr (K := [111]) (Fr.tr Fr.rf F_337 (by decide)) (by decide) (by decide) (by decide) (hp_338 22 (by decide)) (by omega))
            have e_360 : μ335.1 111 29 = μ297.1 111 29 := ((hp_338 29 (by decide)).trans (hp_318 29 (by decide)))
            have hxt_361 : mEXT μ μ335 := hxt_321.tr (q0m.fr (K := [111]) (Fr.tr Fr.rf F_337 (by decide)) (by decide) (by decide) (by decide) (hp_338 22 (by decide)) (by omega)).1
            exact ih _ _ _ _ _ _ _ (by omega) ⟨c9 + 1, r_336, (Fr.tr (Fr.tr (Fr.tr (Fr.tr FL60 F_258 (by decide)) F_298 (by decide)) F_317 (by decide)) F_337 (by decide)), (by omega), (by omega), (fun j hj => ((hp_338 j (fun h9 => hj ((by decide : ∀ x ∈ ([6, 8, 9, 10, 11, 12, 13, 15] : List Int), x ∈ ([6, 8, 9, 10, 11, 12, 13, 15, 16, 17, 18, 22, 29, 39] : List Int)) j h9))).trans ((hp_318 j (fun h9 => hj ((by decide : ∀ x ∈ ([22] : List Int), x ∈ ([6, 8, 9, 10, 11, 12, 13, 15, 16, 17, 18, 22, 29, 39] : List Int)) j h9))).trans ((hp_299 j (fun h9 => hj ((by decide : ∀ x ∈ ([6, 8, 9, 10, 11, 12, 13, 15, 16, 17, 18, 22, 29, 39] : List Int), x ∈ ([6, 8, 9, 10, 11, 12, 13, 15, 16, 17, 18, 22, 29, 39] : List Int)) j h9))).trans ((hp_259 j (fun h9 => hj ((by decide : ∀ x ∈ ([16] : List Int), x ∈ ([6, 8, 9, 10, 11, 12, 13, 15, 16, 17, 18, 22, 29, 39] : List Int)) j h9))).trans (hi_64 j (fun h9 => hj ((by decide : ∀ x ∈ ([6, 8, 9, 10, 11, 12, 13, 15, 16, 17, 18, 22, 29, 39] : List Int), x ∈ ([6, 8, 9, 10, 11, 12, 13, 15, 16, 17, 18, 22, 29, 39] : List Int)) j h9)))))))), (by omega), (by omega), (by omega), (by omega), hp_339, (by omega), (by omega), (by omega), (by omega), (by omega), (by omega), (fun j hj => ((F_337.1 126 (by decide) j).trans ((F_317.1 126 (by decide) j).trans ((hp_307 j (by omega)).trans ((F_258.1 126 (by decide) j).trans (hi_76 j (by omega))))))), (fun j h1 h2 => by rcases Int.lt_or_le j (μL59.1 111 39) with h9 | h9; (have b9 := hi_77 j h1 h9; rw [show μ335.1 126 j = μL59.1 126 j from ((F_337.1 126 (by decide) j).trans ((F_317.1 126 (by decide) j).trans ((hp_307 j (by omega)).trans (F_258.1 126 (by decide) j))))]; exact ⟨b9.1, by omega⟩); (omega)), (fun _ h0 => (((hX_358 ()) h0).ee (by omega)).mem (fun i => wls_old (fun j h1 h9 => ((F_337.1 126 (by decide) j).trans ((F_317.1 126 (by decide) j).trans ((hp_307 j (by omega)).trans (F_258.1 126 (by decide) j))))) (by omega) (by omega))), hxt_361, rfl, lv_sub hl [0, 1, 3, 4] rfl⟩ G
          · refine lv_aload_n hx hb dX12_arguments_63 rfl (lv_at hl 3 rfl) ?_
            refine xa_getr G fd_X12 (a := 111) (x := 126) 38 rfl (by decide) rfl (wm 7 187 rfl rfl) ⟨rfl, rfl, rfl⟩ dX12_arguments_64 rfl (G.sk 124 rfl) (by decide) rfl ?_
            refine lv_aload_n hx hb dX12_arguments_67 rfl (lv_at hl 3 rfl) ?_
            refine xa_geti G fd_X12 (a := 111) (x := μ297.1 111 39) 39 rfl (by decide) rfl (wm 7 188 rfl rfl) ⟨rfl, rfl, rfl⟩ dX12_arguments_68 rfl (hp_318 39 (by decide)) ?_
            have hr_362 : -2147483648 ≤ μ297.1 111 39 ∧ μ297.1 111 39 ≤ 2147483647 := by have h9 := G.hr (a := 111) (k := 39) rfl; rw [show μ315.1 111 39 = μ297.1 111 39 from (hp_318 39 (by decide))] at h9; exact h9
            refine lv_iload hx hb dX12_arguments_71 (lv_at hl 0 rfl) ?_
            have e_363 : μ315.1 111 39 = μ297.1 111 39 := (hp_318 39 (by decide))
            refine xa_iast G (a := 126) (i := μ297.1 111 39) (x := r_316) rfl (by have h9 := G.lc (a := 126) (n := 12000) 64 rfl; omega) (by unfold ir; omega) dX12_arguments_73 rfl (fun H locs G => ?_)
            refine lv_aload_n hx hb dX12_arguments_74 rfl (lv_at hl 3 rfl) ?_
            refine lv_dup hx hb dX12_arguments_75 rfl ?_
            refine xa_geti G fd_X12 (a := 111) (x := μ297.1 111 39) 39 rfl (by decide) rfl (wm 7 188 rfl rfl) ⟨rfl, rfl, rfl⟩ dX12_arguments_76 rfl ((sv_n _ (fun h9 => absurd h9.1 (by decide))).trans (hp_318 39 (by decide))) ?_
            refine lv_iconst (v := iv 1) hx hb dX12_arguments_79 rfl ?_
            refine xb_iadd hx hb dX12_arguments_80 ?_
            refine xa_puti G fd_X12 (a := 111) (x := (μ297.1 111 39) + 1) 39 (kz := 39) rfl rfl (by decide) rfl (by unfold ir; omega) (wm 7 188 rfl rfl) ⟨rfl, rfl, rfl, rfl⟩ rfl dX12_arguments_81 rfl (fun H locs G => ?_)
            refine lv_iinc (v := iv (c9 + 1)) (lv' := [(2, .int (iv (c9 + 1))), (4, .int (iv r_316)), (3, .int (iv m9)), (0, .ref (oP ω 111)), (1, .int (iv x1))]) hx hb dX12_arguments_84 hl (k := 2) rfl (by rw [show Int32.ofInt 1 = iv 1 from rfl, iv_add]) (by decide) rfl (fun ls hl => ?_)
            refine lv_aload_n hx hb dX12_arguments_87 rfl (lv_at hl 3 rfl) ?_
            refine lv_bipush (v := iv 44) hx hb dX12_arguments_88 rfl ?_
            have e_364 : (sv (sv μ315 126 (μ297.1 111 39) r_316) 111 39 ((μ297.1 111 39) + 1)).1 111 29 = μ297.1 111 29 := ((sv_n _ (by decide)).trans ((sv_n _ (fun h9 => absurd h9.1 (by decide))).trans (hp_318 29 (by decide))))
            have e_365 : wr (sv (sv μ315 126 (μ297.1 111 39) r_316) 111 39 ((μ297.1 111 39) + 1)) = wr μ297 := ((wr_cg (sv_n _ (by decide))).trans ((wr_cg (sv_n _ (fun h9 => absurd h9.1 (by decide)))).trans (wr_cg (hp_318 15 (by decide)))))
            have e_366 : bd (sv (sv μ315 126 (μ297.1 111 39) r_316) 111 39 ((μ297.1 111 39) + 1)) = bd μ297 := ((bd_cg (sv_n _ (by decide)) (sv_n _ (by decide))).trans ((bd_cg (sv_n _ (fun h9 => absurd h9.1 (by decide))) (sv_n _ (fun h9 => absurd h9.1 (by decide)))).trans (bd_cg (hp_318 15 (by decide)) (hp_318 16 (by decide)))))
            have e_367 : nn (sv (sv μ315 126 (μ297.1 111 39) r_316) 111 39 ((μ297.1 111 39) + 1)) = nn μ297 := ((nn_cg (sv_n _ (by decide)) (sv_n _ (by decide))).trans ((nn_cg (sv_n _ (fun h9 => absurd h9.1 (by decide))) (sv_n _ (fun h9 => absurd h9.1 (by decide)))).trans (nn_cg (hp_318 15 (by decide)) (hp_318 18 (by decide)))))
            have e_369 : (sv (sv μ315 126 (μ297.1 111 39) r_316) 111 39 ((μ297.1 111 39) + 1)).1 111 29 = μ297.1 111 29 := ((sv_n _ (by decide)).trans ((sv_n _ (fun h9 => absurd h9.1 (by decide))).trans (hp_318 29 (by decide))))
            have hX_368 : ∀ _ : Unit, bd (sv (sv μ315 126 (μ297.1 111 39) r_316) 111 39 ((μ297.1 111 39) + 1)) = 0 → mPX μo (sv (sv μ315 126 (μ297.1 111 39) r_316) 111 39 ((μ297.1 111 39) + 1)) tt ((x1 + c9) + 1) 1 HH (lsk r_316 ++ (wls μL59 ff (μL59.1 111 39) ++ [])) := fun _ h0 => (hX_325 () (by have e9 : bd μ315 = bd μ297 := (bd_cg (hp_318 15 (by decide)) (hp_318 16 (by decide))); have e8 : bd (sv (sv μ315 126 (μ297.1 111 39) r_316) 111 39 ((μ297.1 111 39) + 1)) = bd μ297 := ((bd_cg (sv_n _ (by decide)) (sv_n _ (by decide))).trans ((bd_cg (sv_n _ (fun h9 => absurd h9.1 (by decide))) (sv_n _ (fun h9 => absurd h9.1 (by decide)))).trans (bd_cg (hp_318 15 (by decide)) (hp_318 16 (by decide))))); omega)).qm (q0m.fr (K := [111, 126]) (Fr.put (Fr.put Fr.rf (by decide)) (by decide)) (by decide) (by decide) (by decide) ((sv_n _ (by decide)).trans (sv_n _ (fun h9 => absurd h9.1 (by decide)))) (by omega))
            have hPM_370 : PM (sv (sv μ315 126 (μ297.1 111 39) r_316) 111 39 ((μ297.1 111 39) + 1)) := hp_300.cg ((((sv_n _ (by decide)).trans ((sv_n _ (fun h9 => absurd h9.1 (by decide))).trans ((hp_318 4 (by decide)).trans ((hp_299 4 (by decide)).trans ((hp_259 4 (by decide)).trans ((hi_64 4 (by decide)).trans (hp_4 4 (by decide))))))))).trans (((hp_299 4 (by decide)).trans ((hp_259 4 (by decide)).trans ((hi_64 4 (by decide)).trans (hp_4 4 (by decide)))))).symm) ((sv_n _ (by decide)).trans ((sv_n _ (fun h9 => absurd h9.1 (by decide))).trans (hp_318 6 (by decide)))) ((((sv_n _ (by decide)).trans ((sv_n _ (fun h9 => absurd h9.1 (by decide))).trans ((hp_318 7 (by decide)).trans ((hp_299 7 (by decide)).trans ((hp_259 7 (by decide)).trans ((hi_64 7 (by decide)).trans (hp_4 7 (by decide))))))))).trans (((hp_299 7 (by decide)).trans ((hp_259 7 (by decide)).trans ((hi_64 7 (by decide)).trans (hp_4 7 (by decide)))))).symm) ((sv_n _ (by decide)).trans ((sv_n _ (fun h9 => absurd h9.1 (by decide))).trans (hp_318 8 (by decide)))) ((sv_n _ (by decide)).trans ((sv_n _ (fun h9 => absurd h9.1 (by decide))).trans (hp_318 9 (by decide)))) ((sv_n _ (by decide)).trans ((sv_n _ (fun h9 => absurd h9.1 (by decide))).trans (hp_318 11 (by decide)))) ((sv_n _ (by decide)).trans ((sv_n _ (fun h9 => absurd h9.1 (by decide))).trans (hp_318 12 (by decide)))) ((((sv_n _ (by decide)).trans ((sv_n _ (fun h9 => absurd h9.1 (by decide))).trans ((hp_318 14 (by decide)).trans ((hp_299 14 (by decide)).trans ((hp_259 14 (by decide)).trans ((hi_64 14 (by decide)).trans ((hp_4 14 (by decide)).trans htt.symm)))))))).trans (((hp_299 14 (by decide)).trans ((hp_259 14 (by decide)).trans ((hi_64 14 (by decide)).trans ((hp_4 14 (by decide)).trans htt.symm))))).symm) ((sv_n _ (by decide)).trans ((sv_n _ (fun h9 => absurd h9.1 (by decide))).trans (hp_318 15 (by decide)))) ((sv_n _ (by decide)).trans ((sv_n _ (fun h9 => absurd h9.1 (by decide))).trans (hp_318 29 (by decide)))) (fun j => ((sv_n _ (by omega)).trans ((sv_n _ (by omega)).trans (F_317.1 123 (by decide) j))))
            have e_371 : wr (sv (sv μ315 126 (μ297.1 111 39) r_316) 111 39 ((μ297.1 111 39) + 1)) = wr μ297 := ((wr_cg (sv_n _ (by decide))).trans ((wr_cg (sv_n _ (fun h9 => absurd h9.1 (by decide)))).trans (wr_cg (hp_318 15 (by decide)))))
            have e_372 : nn (sv (sv μ315 126 (μ297.1 111 39) r_316) 111 39 ((μ297.1 111 39) + 1)) = nn μ297 := ((nn_cg (sv_n _ (by decide)) (sv_n _ (by decide))).trans ((nn_cg (sv_n _ (fun h9 => absurd h9.1 (by decide))) (sv_n _ (fun h9 => absurd h9.1 (by decide)))).trans (nn_cg (hp_318 15 (by decide)) (hp_318 18 (by decide)))))
            have e_373 : (sv (sv μ315 126 (μ297.1 111 39) r_316) 111 39 ((μ297.1 111 39) + 1)).1 111 9 = μ297.1 111 9 := ((sv_n _ (by decide)).trans ((sv_n _ (fun h9 => absurd h9.1 (by decide))).trans (hp_318 9 (by decide))))
            have e_374 : wr (sv (sv μ315 126 (μ297.1 111 39) r_316) 111 39 ((μ297.1 111 39) + 1)) = wr μ297 := ((wr_cg (sv_n _ (by decide))).trans ((wr_cg (sv_n _ (fun h9 => absurd h9.1 (by decide)))).trans (wr_cg (hp_318 15 (by decide)))))
            have e_375 : wr (sv (sv μ315 126 (μ297.1 111 39) r_316) 111 39 ((μ297.1 111 39) + 1)) = wr μ297 := ((wr_cg (sv_n _ (by decide))).trans ((wr_cg (sv_n _ (fun h9 => absurd h9.1 (by decide)))).trans (wr_cg (hp_318 15 (by decide)))))
            have e_376 : bd (sv (sv μ315 126 (μ297.1 111 39) r_316) 111 39 ((μ297.1 111 39) + 1)) = bd μ297 := ((bd_cg (sv_n _ (by decide)) (sv_n _ (by decide))).trans ((bd_cg (sv_n _ (fun h9 => absurd h9.1 (by decide))) (sv_n _ (fun h9 => absurd h9.1 (by decide)))).trans (bd_cg (hp_318 15 (by decide)) (hp_318 16 (by decide)))))
            have e_377 : nn (sv (sv μ315 126 (μ297.1 111 39) r_316) 111 39 ((μ297.1 111 39) + 1)) = nn μ297 := ((nn_cg (sv_n _ (by decide)) (sv_n _ (by decide))).trans ((nn_cg (sv_n _ (fun h9 => absurd h9.1 (by decide))) (sv_n _ (fun h9 => absurd h9.1 (by decide)))).trans (nn_cg (hp_318 15 (by decide)) (hp_318 18 (by decide)))))
            refine xc_iV G (b := 111) (rest := []) (As := [.int (iv 44)]) (c_X12_takesSign ω l (sv (sv μ315 126 (μ297.1 111 39) r_316) 111 39 ((μ297.1 111 39) + 1)) 44 (by unfold ir; omega) hPM_370 (by omega)) (wm 9 106 rfl rfl) (wm 9 108 rfl rfl) (wm 0 139 rfl rfl) rfl rfl (by decide) rfl (wm 1 18 rfl rfl) (wm 9 109 rfl rfl) (by decide) hR ⟨nfr hF (by decide), nlo hLo (by decide)⟩ (n := 1) rfl rfl (Nat.le_of_ble_eq_true rfl) hl.1 dX12_arguments_90 (fun r_379 μ378 ρ d0 H locs hr_r_379 hp G => ?_)
            have hr_r_379 : -2147483648 ≤ r_379 ∧ r_379 ≤ 2147483647 := hr_r_379
            obtain ⟨F_380, hp_381, hp_382, hp_383, hp_384, hp_385, hp_386⟩ := hp
            have hpl_387 := hp_382.pl
            have hw_388 := wr_r (μ := μ378)
            refine lv_istore_n (lv' := [(3, .int (iv r_379)), (2, .int (iv (c9 + 1))), (4, .int (iv r_316)), (0, .ref (oP ω 111)), (1, .int (iv x1))]) hx hb dX12_arguments_93 rfl hl (by decide) rfl (fun ls hl => ?_)
            refine lv_goto (tgt := 19) hx hb dX12_arguments_94 (by decide) ?_
            have e_389 : μ378.1 111 22 = μ315.1 111 22 := ((hp_381 22 (by decide)).trans ((sv_n _ (by decide)).trans (sv_n _ (fun h9 => absurd h9.1 (by decide)))))
            have e_390 : μ378.1 111 22 = μ315.1 111 22 := ((hp_381 22 (by decide)).trans ((sv_n _ (by decide)).trans (sv_n _ (fun h9 => absurd h9.1 (by decide)))))
            have e_391 : μ378.1 111 29 = μ297.1 111 29 := ((hp_381 29 (by decide)).trans ((sv_n _ (by decide)).trans ((sv_n _ (fun h9 => absurd h9.1 (by decide))).trans (hp_318 29 (by decide)))))
            have e_392 : μ378.1 111 39 = (μ297.1 111 39) + 1 := ((hp_381 39 (by decide)).trans (sv_s _ _ _ _))
            have e_393 : μ378.1 111 39 = (μ297.1 111 39) + 1 := ((hp_381 39 (by decide)).trans (sv_s _ _ _ _))
            have e_394 : μ378.1 111 22 = μ315.1 111 22 := ((hp_381 22 (by decide)).trans ((sv_n _ (by decide)).trans (sv_n _ (fun h9 => absurd h9.1 (by decide)))))
            have e_395 : μ378.1 111 39 = (μ297.1 111 39) + 1 := ((hp_381 39 (by decide)).trans (sv_s _ _ _ _))
            have e_396 : μ378.1 111 22 = μ315.1 111 22 := ((hp_381 22 (by decide)).trans ((sv_n _ (by decide)).trans (sv_n _ (fun h9 => absurd h9.1 (by decide)))))
            have e_397 : μ378.1 111 39 = (μ297.1 111 39) + 1 := ((hp_381 39 (by decide)).trans (sv_s _ _ _ _))
            have e_398 : μ378.1 111 22 = μ315.1 111 22 := ((hp_381 22 (by decide)).trans ((sv_n _ (by decide)).trans (sv_n _ (fun h9 => absurd h9.1 (by decide)))))
            have e_399 : μ378.1 111 29 = μ297.1 111 29 := ((hp_381 29 (by decide)).trans ((sv_n _ (by decide)).trans ((sv_n _ (fun h9 => absurd h9.1 (by decide))).trans (hp_318 29 (by decide)))))
            have e_401 : μ378.1 111 29 = μ297.1 111 29 := ((hp_381 29 (by decide)).trans ((sv_n _ (by decide)).trans ((sv_n _ (fun h9 => absurd h9.1 (by decide))).trans (hp_318 29 (by decide)))))
            have hX_400 : ∀ _ : Unit, bd μ378 = 0 → mPX μo μ378 tt ((x1 + c9) + 1) 1 HH (lsk r_316 ++ (wls μL59 ff (μL59.1 111 39) ++ [])) := fun _ h0 => (hX_368 () (by have e9 : bd (sv (sv μ315 126 (μ297.1 111 39) r_316) 111 39 ((μ297.1 111 39) + 1)) = bd μ297 := ((bd_cg (sv_n _ (by decide)) (sv_n _ (by decide))).trans ((bd_cg (sv_n _ (fun h9 => absurd h9.1 (by decide))) (sv_n _ (fun h9 => absurd h9.1 (by decide)))).trans (bd_cg (hp_318 15 (by decide)) (hp_318 16 (by decide))))); have e8 : bd μ378 = bd μ378 := rfl; omega)).qm (q0m.fr (K := [111]) (Fr.tr Fr.rf F_380 (by decide)) (by decide) (by decide) (by decide) ((((hp_381 22 (by decide)).trans ((sv_n _ (by decide)).trans (sv_n _ (fun h9 => absurd h9.1 (by decide)))))).trans (((sv_n _ (by decide)).trans (sv_n _ (fun h9 => absurd h9.1 (by decide))))).symm) (by omega))
            have e_402 : μ378.1 111 29 = μ297.1 111 29 := ((hp_381 29 (by decide)).trans ((sv_n _ (by decide)).trans ((sv_n _ (fun h9 => absurd h9.1 (by decide))).trans (hp_318 29 (by decide)))))
            have hxt_403 : mEXT μ μ378 := hxt_321.tr (q0m.fr (K := [111, 126]) (Fr.tr (Fr.put (Fr.put Fr.rf (by decide)) (by decide)) F_380 (by decide)) (by decide) (by decide) (by decide) ((hp_381 22 (by decide)).trans ((sv_n _ (by decide)).trans (sv_n _ (fun h9 => absurd h9.1 (by decide))))) (by omega)).1
            exact ih _ _ _ _ _ _ _ (by omega) ⟨c9 + 1, r_379, (Fr.tr (Fr.put (Fr.put (Fr.tr (Fr.tr (Fr.tr FL60 F_258 (by decide)) F_298 (by decide)) F_317 (by decide)) (by decide)) (by decide)) F_380 (by decide)), (by omega), (by omega), (fun j hj => ((hp_381 j (fun h9 => hj ((by decide : ∀ x ∈ ([6, 8, 9, 10, 11, 12, 13, 15] : List Int), x ∈ ([6, 8, 9, 10, 11, 12, 13, 15, 16, 17, 18, 22, 29, 39] : List Int)) j h9))).trans ((sv_n _ (fun h9 => hj (by rw [h9.2]; decide))).trans ((sv_n _ (fun h9 => absurd h9.1 (by decide))).trans ((hp_318 j (fun h9 => hj ((by decide : ∀ x ∈ ([22] : List Int), x ∈ ([6, 8, 9, 10, 11, 12, 13, 15, 16, 17, 18, 22, 29, 39] : List Int)) j h9))).trans ((hp_299 j (fun h9 => hj ((by decide : ∀ x ∈ ([6, 8, 9, 10, 11, 12, 13, 15, 16, 17, 18, 22, 29, 39] : List Int), x ∈ ([6, 8, 9, 10, 11, 12, 13, 15, 16, 17, 18, 22, 29, 39] : List Int)) j h9))).trans ((hp_259 j (fun h9 => hj ((by decide : ∀ x ∈ ([16] : List Int), x ∈ ([6, 8, 9, 10, 11, 12, 13, 15, 16, 17, 18, 22, 29, 39] : List Int)) j h9))).trans (hi_64 j (fun h9 => hj ((by decide : ∀ x ∈ ([6, 8, 9, 10, 11, 12, 13, 15, 16, 17, 18, 22, 29, 39] : List Int), x ∈ ([6, 8, 9, 10, 11, 12, 13, 15, 16, 17, 18, 22, 29, 39] : List Int)) j h9)))))))))), (by omega), (by omega), (by omega), (by omega), hp_382, (by omega), (by omega), (by omega), (by omega), (by omega), (by omega), (fun j hj => ((F_380.1 126 (by decide) j).trans ((sv_n _ (fun h9 => absurd h9.1 (by decide))).trans ((sv_n _ (by omega)).trans ((F_317.1 126 (by decide) j).trans ((hp_307 j (by omega)).trans ((F_258.1 126 (by decide) j).trans (hi_76 j (by omega))))))))), (fun j h1 h2 => by rcases Int.lt_or_le j (μL59.1 111 39) with h9 | h9; (have b9 := hi_77 j h1 h9; rw [show μ378.1 126 j = μL59.1 126 j from ((F_380.1 126 (by decide) j).trans ((sv_n _ (fun h9 => absurd h9.1 (by decide))).trans ((sv_n _ (by omega)).trans ((F_317.1 126 (by decide) j).trans ((hp_307 j (by omega)).trans (F_258.1 126 (by decide) j))))))]; exact ⟨b9.1, by omega⟩); (rw [show j = μ297.1 111 39 by omega, show μ378.1 126 (μ297.1 111 39) = r_316 from ((F_380.1 126 (by decide) (μ297.1 111 39)).trans ((sv_n _ (fun h9 => absurd h9.1 (by decide))).trans (sv_s _ _ _ _)))]; omega)), (fun _ h0 => (((hX_400 ()) h0).ee (by omega)).mem (fun i => wls_new (by omega) (fun j h1 h9 => ((F_380.1 126 (by decide) j).trans ((sv_n _ (fun h9 => absurd h9.1 (by decide))).trans ((sv_n _ (by omega)).trans ((F_317.1 126 (by decide) j).trans ((hp_307 j (by omega)).trans (F_258.1 126 (by decide) j))))))) (by omega) (by rw [show μL59.1 111 39 = μ297.1 111 39 by omega]; exact ((F_380.1 126 (by decide) (μ297.1 111 39)).trans ((sv_n _ (fun h9 => absurd h9.1 (by decide))).trans (sv_s _ _ _ _)))) (by omega))), hxt_403, rfl, lv_sub hl [0, 1, 3, 4] rfl⟩ G
