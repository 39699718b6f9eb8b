abbrev cX12_arguments : ByteArray := prog_14_method_70_code
def yX12_arguments : MethodName := ⟨RX12, "arguments", "(I)I"⟩
abbrev cX12_landsFrom : ByteArray := prog_14_method_71_code
def yX12_landsFrom : MethodName := ⟨RX12, "landsFrom", "(I)V"⟩
theorem dX12_arguments_0 : decode cX12_arguments 0 = .ok (.iconst 0, 1) := by decide +kernel
theorem dX12_arguments_1 : decode cX12_arguments 1 = .ok (.istore_n 2, 1) := by decide +kernel
theorem dX12_arguments_2 : decode cX12_arguments 2 = .ok (.aload_n 0, 1) := by decide +kernel
theorem dX12_arguments_3 : decode cX12_arguments 3 = .ok (.bipush 40, 2) := by decide +kernel
theorem dX12_arguments_5 : decode cX12_arguments 5 = .ok (.invokevirtual 378, 3) := by decide +kernel
theorem dX12_arguments_8 : decode cX12_arguments 8 = .ok (.aload_n 0, 1) := by decide +kernel
theorem dX12_arguments_9 : decode cX12_arguments 9 = .ok (.bipush 41, 2) := by decide +kernel
theorem dX12_arguments_11 : decode cX12_arguments 11 = .ok (.invokevirtual 292, 3) := by decide +kernel
theorem dX12_arguments_14 : decode cX12_arguments 14 = .ok (.ifCond .ne 83, 3) := by decide +kernel
theorem dX12_arguments_17 : decode cX12_arguments 17 = .ok (.iconst 1, 1) := by decide +kernel
theorem dX12_arguments_18 : decode cX12_arguments 18 = .ok (.istore_n 3, 1) := by decide +kernel
theorem dX12_arguments_19 : decode cX12_arguments 19 = .ok (.iload_n 3, 1) := by decide +kernel
theorem dX12_arguments_20 : decode cX12_arguments 20 = .ok (.ifCond .eq 77, 3) := by decide +kernel
theorem dX12_arguments_23 : decode cX12_arguments 23 = .ok (.aload_n 0, 1) := by decide +kernel
theorem dX12_arguments_24 : decode cX12_arguments 24 = .ok (.invokevirtual 215, 3) := by decide +kernel
theorem dX12_arguments_27 : decode cX12_arguments 27 = .ok (.ifCond .ne 70, 3) := by decide +kernel
theorem dX12_arguments_30 : decode cX12_arguments 30 = .ok (.iload_n 2, 1) := by decide +kernel
theorem dX12_arguments_31 : decode cX12_arguments 31 = .ok (.bipush 8, 2) := by decide +kernel
theorem dX12_arguments_33 : decode cX12_arguments 33 = .ok (.if_icmp .ne 11, 3) := by decide +kernel
theorem dX12_arguments_36 : decode cX12_arguments 36 = .ok (.aload_n 0, 1) := by decide +kernel
theorem dX12_arguments_37 : decode cX12_arguments 37 = .ok (.aload_n 0, 1) := by decide +kernel
theorem dX12_arguments_38 : decode cX12_arguments 38 = .ok (.getfield 222, 3) := by decide +kernel
theorem dX12_arguments_41 : decode cX12_arguments 41 = .ok (.invokevirtual 359, 3) := by decide +kernel
theorem dX12_arguments_44 : decode cX12_arguments 44 = .ok (.aload_n 0, 1) := by decide +kernel
theorem dX12_arguments_45 : decode cX12_arguments 45 = .ok (.invokevirtual 402, 3) := by decide +kernel
theorem dX12_arguments_48 : decode cX12_arguments 48 = .ok (.aload_n 0, 1) := by decide +kernel
theorem dX12_arguments_49 : decode cX12_arguments 49 = .ok (.iload_n 1, 1) := by decide +kernel
theorem dX12_arguments_50 : decode cX12_arguments 50 = .ok (.iload_n 2, 1) := by decide +kernel
theorem dX12_arguments_51 : decode cX12_arguments 51 = .ok (.iadd, 1) := by decide +kernel
theorem dX12_arguments_52 : decode cX12_arguments 52 = .ok (.invokevirtual 468, 3) := by decide +kernel
theorem dX12_arguments_55 : decode cX12_arguments 55 = .ok (.istore 4, 2) := by decide +kernel
theorem dX12_arguments_57 : decode cX12_arguments 57 = .ok (.iload 4, 2) := by decide +kernel
theorem dX12_arguments_59 : decode cX12_arguments 59 = .ok (.iconst (-1), 1) := by decide +kernel
theorem dX12_arguments_60 : decode cX12_arguments 60 = .ok (.if_icmp .eq 24, 3) := by decide +kernel
theorem dX12_arguments_63 : decode cX12_arguments 63 = .ok (.aload_n 0, 1) := by decide +kernel
theorem dX12_arguments_64 : decode cX12_arguments 64 = .ok (.getfield 54, 3) := by decide +kernel
theorem dX12_arguments_67 : decode cX12_arguments 67 = .ok (.aload_n 0, 1) := by decide +kernel
theorem dX12_arguments_68 : decode cX12_arguments 68 = .ok (.getfield 505, 3) := by decide +kernel
theorem dX12_arguments_71 : decode cX12_arguments 71 = .ok (.iload 4, 2) := by decide +kernel
theorem dX12_arguments_73 : decode cX12_arguments 73 = .ok (.iastore, 1) := by decide +kernel
theorem dX12_arguments_74 : decode cX12_arguments 74 = .ok (.aload_n 0, 1) := by decide +kernel
theorem dX12_arguments_75 : decode cX12_arguments 75 = .ok (.dup, 1) := by decide +kernel
theorem dX12_arguments_76 : decode cX12_arguments 76 = .ok (.getfield 505, 3) := by decide +kernel
theorem dX12_arguments_79 : decode cX12_arguments 79 = .ok (.iconst 1, 1) := by decide +kernel
theorem dX12_arguments_80 : decode cX12_arguments 80 = .ok (.iadd, 1) := by decide +kernel
theorem dX12_arguments_81 : decode cX12_arguments 81 = .ok (.putfield 505, 3) := by decide +kernel
theorem dX12_arguments_84 : decode cX12_arguments 84 = .ok (.iinc 2 1, 3) := by decide +kernel
theorem dX12_arguments_87 : decode cX12_arguments 87 = .ok (.aload_n 0, 1) := by decide +kernel
theorem dX12_arguments_88 : decode cX12_arguments 88 = .ok (.bipush 44, 2) := by decide +kernel
theorem dX12_arguments_90 : decode cX12_arguments 90 = .ok (.invokevirtual 301, 3) := by decide +kernel
theorem dX12_arguments_93 : decode cX12_arguments 93 = .ok (.istore_n 3, 1) := by decide +kernel
theorem dX12_arguments_94 : decode cX12_arguments 94 = .ok (.goto (-75), 3) := by decide +kernel
theorem dX12_arguments_97 : decode cX12_arguments 97 = .ok (.aload_n 0, 1) := by decide +kernel
theorem dX12_arguments_98 : decode cX12_arguments 98 = .ok (.bipush 41, 2) := by decide +kernel
theorem dX12_arguments_100 : decode cX12_arguments 100 = .ok (.invokevirtual 387, 3) := by decide +kernel
theorem dX12_arguments_103 : decode cX12_arguments 103 = .ok (.iload_n 2, 1) := by decide +kernel
theorem dX12_arguments_104 : decode cX12_arguments 104 = .ok (.ireturn, 1) := by decide +kernel
theorem dX12_landsFrom_0 : decode cX12_landsFrom 0 = .ok (.aload_n 0, 1) := by decide +kernel
theorem dX12_landsFrom_1 : decode cX12_landsFrom 1 = .ok (.getfield 505, 3) := by decide +kernel
theorem dX12_landsFrom_4 : decode cX12_landsFrom 4 = .ok (.iload_n 1, 1) := by decide +kernel
theorem dX12_landsFrom_5 : decode cX12_landsFrom 5 = .ok (.if_icmp .le 29, 3) := by decide +kernel
theorem dX12_landsFrom_8 : decode cX12_landsFrom 8 = .ok (.aload_n 0, 1) := by decide +kernel
theorem dX12_landsFrom_9 : decode cX12_landsFrom 9 = .ok (.dup, 1) := by decide +kernel
theorem dX12_landsFrom_10 : decode cX12_landsFrom 10 = .ok (.getfield 505, 3) := by decide +kernel
theorem dX12_landsFrom_13 : decode cX12_landsFrom 13 = .ok (.iconst 1, 1) := by decide +kernel
theorem dX12_landsFrom_14 : decode cX12_landsFrom 14 = .ok (.isub, 1) := by decide +kernel
theorem dX12_landsFrom_15 : decode cX12_landsFrom 15 = .ok (.putfield 505, 3) := by decide +kernel
theorem dX12_landsFrom_18 : decode cX12_landsFrom 18 = .ok (.aload_n 0, 1) := by decide +kernel
theorem dX12_landsFrom_19 : decode cX12_landsFrom 19 = .ok (.aload_n 0, 1) := by decide +kernel
theorem dX12_landsFrom_20 : decode cX12_landsFrom 20 = .ok (.getfield 54, 3) := by decide +kernel
theorem dX12_landsFrom_23 : decode cX12_landsFrom 23 = .ok (.aload_n 0, 1) := by decide +kernel
theorem dX12_landsFrom_24 : decode cX12_landsFrom 24 = .ok (.getfield 505, 3) := by decide +kernel
theorem dX12_landsFrom_27 : decode cX12_landsFrom 27 = .ok (.iaload, 1) := by decide +kernel
theorem dX12_landsFrom_28 : decode cX12_landsFrom 28 = .ok (.invokevirtual 421, 3) := by decide +kernel
theorem dX12_landsFrom_31 : decode cX12_landsFrom 31 = .ok (.goto (-31), 3) := by decide +kernel
theorem dX12_landsFrom_34 : decode cX12_landsFrom 34 = .ok (.return_, 1) := by decide +kernel
/-- what waits: numbers f to n of the list -/
def wls (μ : M3) (f n : Int) : List Int := (List.range (n - f).toNat).map (fun k : Nat => μ.1 126 (f + (k : Int)))
theorem mem_wls {μ : M3} {f n i : Int} : i ∈ wls μ f n ↔ ∃ k, (f ≤ k ∧ k < n) ∧ i = μ.1 126 k := by
  unfold wls
  rw [List.mem_map]
  constructor
  · intro h
    obtain ⟨a, ha, hi⟩ := h
    have := List.mem_range.1 ha
    exact ⟨f + (a : Int), ⟨by omega, by omega⟩, hi.symm⟩
  · intro h
    obtain ⟨k, hk, hi⟩ := h
    exact ⟨(k - f).toNat, List.mem_range.2 (by omega), by rw [show f + ((k - f).toNat : Int) = k by omega]; exact hi.symm⟩
theorem mAIM.mem {μ ν : M3} {T : Int} {L K : List Int} (h : mAIM μ ν L T) (e : ∀ i, i ∈ K ↔ i ∈ L) : mAIM μ ν K T := ⟨h.1, h.2.1, fun i hi => h.2.2.1 i ((e i).1 hi), fun i k hk hi hn => h.2.2.2 i k hk hi (fun q z => hn q ((e i).2 z))⟩
theorem mPX.mem {μ ν : M3} {t e w H : Int} {L K : List Int} (h : mPX μ ν t e w H L) (q : ∀ i, i ∈ K ↔ i ∈ L) : mPX μ ν t e w H K := by
  obtain ⟨h1, h2, h3, h4⟩ := h
  refine ⟨h1, h2.mn (Int.le_refl _) (Int.le_refl _) (fun i _ _ z => (q i).2 z), fun z => ?_, fun i hi => h4 i ((q i).1 hi)⟩
  cases K with
  | nil => exact absurd rfl z
  | cons a K => exact h3 (fun y => by have := (q a).1 (List.mem_cons_self ..); rw [y] at this; cases this)
theorem mAIM.w0 {μ : M3} {n T : Int} : mAIM μ μ (wls μ n n) T := (mAIM.nil q0m.rf).mem (fun i => by
  rw [mem_wls]
  constructor
  · intro h
    obtain ⟨k, hk, _⟩ := h
    omega
  · intro h
    cases h)
theorem mAIM.wst {μo μ ν π : M3} {T n m N q : Int} (h : mAIM μo μ (wls μo n N) T) (g : q0m μ ν) (l : mMF ν π q (ν.1 111 22)) (hT : ν.1 111 22 = T) (hq : q = μo.1 126 (n - 1)) (hm : m = n - 1) (hn : n ≤ N) : mAIM μo π (wls μo m N) T := by
  rw [hT] at l
  rw [← hm] at hq
  refine ((h.qm g).tr (mAIM.one l)).mem (fun i => ?_)
  rw [List.mem_append, mem_wls, mem_wls, List.mem_singleton]
  constructor
  · intro z
    obtain ⟨k, hk, hi⟩ := z
    by_cases e : k = m
    · exact Or.inr (by rw [hi, e, hq])
    · exact Or.inl ⟨k, by omega, hi⟩
  · intro z
    rcases z with ⟨k, hk, hi⟩ | z
    · exact ⟨k, by omega, hi⟩
    · exact ⟨m, by omega, by rw [z, hq]⟩
theorem wls_new {μ ν : M3} {f n m r i : Int} (hf : f ≤ n) (k : ∀ j, f ≤ j → j < n → ν.1 126 j = μ.1 126 j) (hr : r ≠ -1) (hv : ν.1 126 n = r) (hm : m = n + 1) : i ∈ wls ν f m ↔ i ∈ lsk r ++ (wls μ f n ++ []) := by
  rw [List.append_nil, List.mem_append, mem_wls, mem_wls, mem_lsk, hm]
  constructor
  · intro z
    obtain ⟨j, hj, hi⟩ := z
    by_cases e : j = n
    · exact Or.inl ⟨hr, by rw [hi, e, hv]⟩
    · exact Or.inr ⟨j, by omega, by rw [hi, k j hj.1 (by omega)]⟩
  · intro z
    rcases z with ⟨_, z⟩ | ⟨j, hj, hi⟩
    · exact ⟨n, by omega, by rw [z, hv]⟩
    · exact ⟨j, by omega, by rw [hi, k j hj.1 hj.2]⟩
theorem wls_old {μ ν : M3} {f n m r i : Int} (k : ∀ j, f ≤ j → j < n → ν.1 126 j = μ.1 126 j) (hr : r = -1) (hm : m = n) : i ∈ wls ν f m ↔ i ∈ lsk r ++ (wls μ f n ++ []) := by
  rw [List.append_nil, List.mem_append, mem_wls, mem_wls, mem_lsk, hm]
  constructor
  · intro z
    obtain ⟨j, hj, hi⟩ := z
    exact Or.inr ⟨j, hj, by rw [hi, k j hj.1 hj.2]⟩
  · intro z
    rcases z with ⟨z, _⟩ | ⟨j, hj, hi⟩
    · exact absurd hr z
    · exact ⟨j, hj, by rw [hi, k j hj.1 hj.2]⟩
theorem wls_cg {μ ν : M3} {f n m i : Int} (k : ∀ j, f ≤ j → j < n → ν.1 126 j = μ.1 126 j) (hm : m = n) : i ∈ wls ν f m ↔ i ∈ wls μ f n ++ [] := by
  rw [List.append_nil, mem_wls, mem_wls, hm]
  constructor
  · intro z
    obtain ⟨j, hj, hi⟩ := z
    exact ⟨j, hj, by rw [hi, k j hj.1 hj.2]⟩
  · intro z
    obtain ⟨j, hj, hi⟩ := z
    exact ⟨j, hj, by rw [hi, k j hj.1 hj.2]⟩
set_option maxHeartbeats 4000000 in
set_option maxRecDepth 100000 in
theorem c_X12_landsFrom (ω : Om) (l : Launch) (μ : M3) (x1 : Int) (hx1 : ir x1) (hcd : 0 ≤ μ.1 111 22 ∧ μ.1 111 22 ≤ 8995) (hW : 0 ≤ x1 ∧ x1 ≤ μ.1 111 39 ∧ μ.1 111 39 ≤ μ.1 111 22) (hwk : ∀ j, x1 ≤ j → j < μ.1 111 39 → 0 ≤ μ.1 126 j ∧ μ.1 126 j < μ.1 111 22) : CtV ω l yX12_landsFrom cX12_landsFrom 2 1 21 [.ref (oP ω 111), .int (iv x1)] μ (fun (μ' : M3) => (Fr [111, 116] μ μ') ∧ (∀ j, j ∉ ([39] : List Int) → μ'.1 111 j = μ.1 111 j) ∧ (mAIM μ μ' (wls μ x1 (μ.1 111 39)) (μ.1 111 22)) ∧ (μ'.1 111 39 = x1)) := by
  refine CtV.go (by decide) (Nat.le_of_ble_eq_true rfl) (fun ρ p e s m below meth c R ls G hR hret hlk hl => ?_)
  have hx := G.1.1
  have hb := G.1.2.1
  have hl : lv_has ls 2 [(0, .ref (oP ω 111)), (1, .int (iv x1))] := hl
  generalize s.drawn = d0 at G ⊢
  have hr_x1 : -2147483648 ≤ x1 ∧ x1 ≤ 2147483647 := hx1
  refine xl (fun n_9 μ' ls => (Fr [111, 116] μ μ') ∧ (∀ j, j ∉ ([39] : List Int) → μ'.1 111 j = μ.1 111 j) ∧ (x1 ≤ μ'.1 111 39 ∧ μ'.1 111 39 ≤ μ.1 111 39) ∧ (mAIM μ μ' (wls μ (μ'.1 111 39) (μ.1 111 39)) (μ.1 111 22)) ∧ n_9 = Int.toNat (μ'.1 111 39) ∧ lv_has ls 2 [(0, .ref (oP ω 111)), (1, .int (iv x1))]) (fun n_9 ρ μL1 d0 H locs ls hI_l G ih => ?_) _ _ _ _ _ _ _ ⟨Fr.rf, (fun j hj => rfl), (by omega), mAIM.w0, rfl, lv_sub hl [0, 1] rfl⟩ G
  obtain ⟨FL2, hi_4, hi_5, hi_6, hn3, hl⟩ := hI_l
  refine lv_aload_n hx hb dX12_landsFrom_0 rfl (lv_at hl 0 rfl) ?_
  refine xa_geti G fd_X12 (a := 111) (x := μL1.1 111 39) 39 rfl (by decide) rfl (wm 7 188 rfl rfl) ⟨rfl, rfl, rfl⟩ dX12_landsFrom_1 rfl rfl ?_
  have hr_7 : -2147483648 ≤ μL1.1 111 39 ∧ μL1.1 111 39 ≤ 2147483647 := by have h9 := G.hr (a := 111) (k := 39) rfl; exact h9
  refine lv_iload_n hx hb dX12_landsFrom_4 rfl (lv_at hl 1 rfl) ?_
  refine xb_icmp_le (tgt := 34) hx hb (by unfold ir; omega) (by unfold ir; omega) dX12_landsFrom_5 (by decide) (fun c_5 => ?_) (fun c_5 => ?_)
  · exact xr_v G hret hlk dX12_landsFrom_34 ⟨(Fr.tr Fr.rf FL2 (by decide)), (fun j hj => (hi_4 j (fun h9 => hj ((by decide : ∀ x ∈ ([39] : List Int), x ∈ ([39] : List Int)) j h9)))), (by have h9 := hi_6; rw [show μL1.1 111 39 = x1 by omega] at h9; exact h9), (by omega)⟩
  · refine lv_aload_n hx hb dX12_landsFrom_8 rfl (lv_at hl 0 rfl) ?_
    refine lv_dup hx hb dX12_landsFrom_9 rfl ?_
    refine xa_geti G fd_X12 (a := 111) (x := μL1.1 111 39) 39 rfl (by decide) rfl (wm 7 188 rfl rfl) ⟨rfl, rfl, rfl⟩ dX12_landsFrom_10 rfl rfl ?_
    refine lv_iconst (v := iv 1) hx hb dX12_landsFrom_13 rfl ?_
    refine xb_isub hx hb dX12_landsFrom_14 ?_
    refine xa_puti G fd_X12 (a := 111) (x := (μL1.1 111 39) - 1) 39 (kz := 39) rfl rfl (by decide) rfl (by unfold ir; omega) (wm 7 188 rfl rfl) ⟨rfl, rfl, rfl, rfl⟩ rfl dX12_landsFrom_15 rfl (fun H locs G => ?_)
    refine lv_aload_n hx hb dX12_landsFrom_18 rfl (lv_at hl 0 rfl) ?_
    refine lv_aload_n hx hb dX12_landsFrom_19 rfl (lv_at hl 0 rfl) ?_
    refine xa_getr G fd_X12 (a := 111) (x := 126) 38 rfl (by decide) rfl (wm 7 187 rfl rfl) ⟨rfl, rfl, rfl⟩ dX12_landsFrom_20 rfl (G.sk 124 rfl) (by decide) rfl ?_
    refine lv_aload_n hx hb dX12_landsFrom_23 rfl (lv_at hl 0 rfl) ?_
    refine xa_geti G fd_X12 (a := 111) (x := (μL1.1 111 39) - 1) 39 rfl (by decide) rfl (wm 7 188 rfl rfl) ⟨rfl, rfl, rfl⟩ dX12_landsFrom_24 rfl (sv_s _ _ _ _) ?_
    have hr_8 : -2147483648 ≤ (μL1.1 111 39) - 1 ∧ (μL1.1 111 39) - 1 ≤ 2147483647 := by have h9 := G.hr (a := 111) (k := 39) rfl; rw [show (sv μL1 111 39 ((μL1.1 111 39) - 1)).1 111 39 = (μL1.1 111 39) - 1 from (sv_s _ _ _ _)] at h9; exact h9
    have e_9 : (sv μL1 111 39 ((μL1.1 111 39) - 1)).1 111 39 = (μL1.1 111 39) - 1 := (sv_s _ _ _ _)
    refine xa_iald G (a := 126) (i := (μL1.1 111 39) - 1) rfl (by have h9 := G.lc (a := 126) (n := 12000) 64 rfl; omega) dX12_landsFrom_27 rfl ?_
    refine xb_ti (y := μ.1 126 (μL1.1 111 39 - 1)) ((sv_n _ (fun h9 => absurd h9.1 (by decide))).trans (FL2.1 126 (by decide) (μL1.1 111 39 - 1))) ?_
    have hr_10 : -2147483648 ≤ μ.1 126 (μL1.1 111 39 - 1) ∧ μ.1 126 (μL1.1 111 39 - 1) ≤ 2147483647 := by have h9 := G.hr (a := 126) (k := (μL1.1 111 39) - 1) rfl; rw [((sv_n _ (fun h9 => absurd h9.1 (by decide))).trans (FL2.1 126 (by decide) (μL1.1 111 39 - 1)))] at h9; exact h9
    have e_11 : (sv μL1 111 39 ((μL1.1 111 39) - 1)).1 111 22 = μ.1 111 22 := ((sv_n _ (by decide)).trans (hi_4 22 (by decide)))
    have e_12 : (sv μL1 111 39 ((μL1.1 111 39) - 1)).1 111 39 = (μL1.1 111 39) - 1 := (sv_s _ _ _ _)
    have e_13 : (sv μL1 111 39 ((μL1.1 111 39) - 1)).1 111 29 = μ.1 111 29 := ((sv_n _ (by decide)).trans (hi_4 29 (by decide)))
    have hwk_ := hwk _ (by omega : x1 ≤ (μL1.1 111 39) - 1) (by omega)
    have e_14 : (sv μL1 111 39 ((μL1.1 111 39) - 1)).1 111 22 = μ.1 111 22 := ((sv_n _ (by decide)).trans (hi_4 22 (by decide)))
    have e_15 : (sv μL1 111 39 ((μL1.1 111 39) - 1)).1 111 22 = μ.1 111 22 := ((sv_n _ (by decide)).trans (hi_4 22 (by decide)))
    have e_16 : (sv μL1 111 39 ((μL1.1 111 39) - 1)).1 126 (μL1.1 111 39 - 1) = μ.1 126 (μL1.1 111 39 - 1) := ((sv_n _ (fun h9 => absurd h9.1 (by decide))).trans (FL2.1 126 (by decide) (μL1.1 111 39 - 1)))
    have e_17 : (sv μL1 111 39 ((μL1.1 111 39) - 1)).1 126 (μL1.1 111 39 - 1) = μ.1 126 (μL1.1 111 39 - 1) := ((sv_n _ (fun h9 => absurd h9.1 (by decide))).trans (FL2.1 126 (by decide) (μL1.1 111 39 - 1)))
    have e_18 : (sv μL1 111 39 ((μL1.1 111 39) - 1)).1 111 22 = μ.1 111 22 := ((sv_n _ (by decide)).trans (hi_4 22 (by decide)))
    have e_19 : (sv μL1 111 39 ((μL1.1 111 39) - 1)).1 126 (μL1.1 111 39 - 1) = μ.1 126 (μL1.1 111 39 - 1) := ((sv_n _ (fun h9 => absurd h9.1 (by decide))).trans (FL2.1 126 (by decide) (μL1.1 111 39 - 1)))
    have e_20 : (sv μL1 111 39 ((μL1.1 111 39) - 1)).1 111 22 = μ.1 111 22 := ((sv_n _ (by decide)).trans (hi_4 22 (by decide)))
    refine xc_vV G (b := 111) (rest := []) (As := [.int (iv (μ.1 126 (μL1.1 111 39 - 1)))]) (c_X12_lands ω l (sv μL1 111 39 ((μL1.1 111 39) - 1)) (μ.1 126 (μL1.1 111 39 - 1)) (by unfold ir; omega) (by omega) (by omega)) (wm 9 167 rfl rfl) (wm 9 169 rfl rfl) (wm 0 154 rfl rfl) rfl rfl (by decide) rfl (wm 1 18 rfl rfl) (wm 9 170 rfl rfl) (by decide) hR (by decide) (n := 1) rfl rfl (Nat.le_of_ble_eq_true rfl) hl.1 dX12_landsFrom_28 (fun μ21 ρ d0 H locs hp G => ?_)
    obtain ⟨F_22, hp_23⟩ := hp
    have e_24 : μ21.1 111 22 = μ.1 111 22 := ((F_22.1 111 (by decide) 22).trans ((sv_n _ (by decide)).trans (hi_4 22 (by decide))))
    have e_25 : μ21.1 111 39 = (μL1.1 111 39) - 1 := ((F_22.1 111 (by decide) 39).trans (sv_s _ _ _ _))
    have e_26 : μ21.1 111 29 = μ.1 111 29 := ((F_22.1 111 (by decide) 29).trans ((sv_n _ (by decide)).trans (hi_4 29 (by decide))))
    refine lv_goto (tgt := 0) hx hb dX12_landsFrom_31 (by decide) ?_
    have e_27 : μ21.1 111 39 = (μL1.1 111 39) - 1 := ((F_22.1 111 (by decide) 39).trans (sv_s _ _ _ _))
    have e_28 : μ21.1 111 39 = (μL1.1 111 39) - 1 := ((F_22.1 111 (by decide) 39).trans (sv_s _ _ _ _))
    exact ih _ _ _ _ _ _ _ (by omega) ⟨(Fr.tr (Fr.put FL2 (by decide)) F_22 (by decide)), (fun j hj => ((F_22.1 111 (by decide) j).trans ((sv_n _ (fun h9 => hj (by rw [h9.2]; decide))).trans (hi_4 j (fun h9 => hj ((by decide : ∀ x ∈ ([39] : List Int), x ∈ ([39] : List Int)) j h9)))))), (by omega), (mAIM.wst hi_6 (q0m.fr (K := [111]) (Fr.put Fr.rf (by decide)) (by decide) (by decide) (by decide) ((((sv_n _ (by decide)).trans (hi_4 22 (by decide)))).trans ((hi_4 22 (by decide))).symm) (Int.le_of_eq (((((sv_n _ (by decide)).trans (hi_4 29 (by decide)))).trans ((hi_4 29 (by decide))).symm)).symm)) hp_23 ((sv_n _ (by decide)).trans (hi_4 22 (by decide))) rfl (by omega) (by omega)), rfl, lv_sub hl [0, 1] rfl⟩ G

set_option maxHeartbeats 4000000 in
set_option maxRecDepth 100000 in
theorem c_X12_arguments (ω : Om) (l : Launch) (μ : M3) (x1 : Int) (F : Nat) (Lo : Nat) (Fu : Nat) (Lu : Nat) (kf : Int) (μo : M3) (HH : Int) (ff : Int) (tt : Int) (hx1 : ir x1) (htt : tt = μ.1 111 14) (hF : 60 ≤ F) (hLo : 2000 ≤ Lo) (hFu : Fu ≤ F) (hLu : Lu ≤ Lo) (hE : ∀ (μ : M3) (tt : Int) (htt : tt = μ.1 111 14) (hPM : PM μ) (hnn : 0 ≤ nn μ ∧ nn μ ≤ 9 ∧ 9 * wr μ ≤ nn μ) (hn8 : nn μ ≤ 8 + wr μ) (hcd : 0 ≤ μ.1 111 22 ∧ μ.1 111 22 ≤ 2 * μ.1 111 9 + 200 + 40 * wr μ) (hW : 0 ≤ μ.1 111 39 ∧ μ.1 111 39 ≤ μ.1 111 22) (hsl : 0 ≤ μ.1 111 31 ∧ μ.1 111 31 ≤ 300) (hfu : 0 ≤ (kf - 1) ∧ 9 ≤ nn μ + (kf - 1)) (hH0 : ∀ _ : Unit, bd μ = 0 → mH0 μ), CtV ω l yX12_expr cX12_expr 1 (F + 0) (Lo + 0) [.ref (oP ω 111)] μ (fun (μ' : M3) => (Fr [111, 113, 115, 116, 117, 123, 126] μ μ') ∧ (∀ j, j ∉ ([6, 8, 9, 10, 11, 12, 13, 15, 16, 17, 18, 22, 29, 39] : List Int) → μ'.1 111 j = μ.1 111 j) ∧ (PM μ') ∧ (μ.1 111 22 ≤ μ'.1 111 22 ∧ μ'.1 111 22 ≤ μ.1 111 22 + 2 * (μ'.1 111 9 - μ.1 111 9) + (- 1 + 3 * wr μ' - 2 * wr μ)) ∧ (μ.1 111 9 ≤ μ'.1 111 9) ∧ (μ.1 111 29 ≤ μ'.1 111 29) ∧ (wr μ ≤ wr μ' ∧ bd μ ≤ bd μ') ∧ (nn μ ≤ nn μ' ∧ nn μ' ≤ nn μ + 9 * wr μ' ∧ nn μ' ≤ 9 ∧ 9 * wr μ' ≤ nn μ') ∧ (μ'.1 111 39 = μ.1 111 39) ∧ (∀ j, j < μ.1 111 39 → μ'.1 126 j = μ.1 126 j) ∧ (∀ _ : Unit, bd μ' = 0 → mEX μ μ' tt 1 0 (11 * (9 - nn μ))))) (hU : ∀ (μ : M3) (tt : Int) (htt : tt = μ.1 111 14) (hPM : PM μ) (hnn : 0 ≤ nn μ ∧ nn μ ≤ 9 ∧ 9 * wr μ ≤ nn μ) (hn8 : nn μ ≤ 8 + wr μ) (hcd : 0 ≤ μ.1 111 22 ∧ μ.1 111 22 ≤ 2 * μ.1 111 9 + 200 + 40 * wr μ) (hW : 0 ≤ μ.1 111 39 ∧ μ.1 111 39 ≤ μ.1 111 22) (hsl : 0 ≤ μ.1 111 31 ∧ μ.1 111 31 ≤ 300) (hfu : 0 ≤ (kf - 1) ∧ 9 ≤ nn μ + (kf - 1)) (hH0 : ∀ _ : Unit, bd μ = 0 → mH0 μ), CtV ω l yX12_unary cX12_unary 6 (Fu + 0) (Lu + 0) [.ref (oP ω 111)] μ (fun (μ' : M3) => (Fr [111, 113, 115, 116, 117, 123, 126] μ μ') ∧ (∀ j, j ∉ ([6, 8, 9, 10, 11, 12, 13, 15, 16, 17, 18, 22, 29, 39] : List Int) → μ'.1 111 j = μ.1 111 j) ∧ (PM μ') ∧ (μ.1 111 22 ≤ μ'.1 111 22 ∧ μ'.1 111 22 ≤ μ.1 111 22 + 2 * (μ'.1 111 9 - μ.1 111 9) + (- 1 + 3 * wr μ' - 2 * wr μ)) ∧ (μ.1 111 9 ≤ μ'.1 111 9) ∧ (μ.1 111 29 ≤ μ'.1 111 29) ∧ (wr μ ≤ wr μ' ∧ bd μ ≤ bd μ') ∧ (nn μ ≤ nn μ' ∧ nn μ' ≤ nn μ + 9 * wr μ' ∧ nn μ' ≤ 9 ∧ 9 * wr μ' ≤ nn μ') ∧ (μ'.1 111 39 = μ.1 111 39) ∧ (∀ j, j < μ.1 111 39 → μ'.1 126 j = μ.1 126 j) ∧ (∀ _ : Unit, bd μ' = 0 → mEX μ μ' tt 1 0 (11 * (9 - nn μ) - 3)))) (hPM : PM μ) (hnn : 0 ≤ nn μ ∧ nn μ ≤ 9 ∧ 9 * wr μ ≤ nn μ) (hn8 : nn μ ≤ 8 + wr μ) (hcd : 0 ≤ μ.1 111 22 ∧ μ.1 111 22 ≤ 2 * μ.1 111 9 + 200 + 40 * wr μ) (hW : 0 ≤ μ.1 111 39 ∧ μ.1 111 39 ≤ μ.1 111 22) (hsl : 0 ≤ μ.1 111 31 ∧ μ.1 111 31 ≤ 300) (hfu : 0 ≤ kf ∧ 9 ≤ nn μ + kf) (hu : x1 = 0 ∨ x1 = 1) (hff : 0 ≤ ff ∧ ff ≤ μ.1 111 39) (hwk : ∀ j, ff ≤ j → j < μ.1 111 39 → 0 ≤ μ.1 126 j ∧ μ.1 126 j < μ.1 111 22) (hX : ∀ _ : Unit, bd μ = 0 → mPX μo μ tt x1 1 HH (wls μ ff (μ.1 111 39))) (hHH : 11 * (9 - nn μ) - 3 ≤ HH) : CtI ω l yX12_arguments cX12_arguments 5 .int (F + 1) (Lo + 20) [.ref (oP ω 111), .int (iv x1)] μ (fun (r : Int) (μ' : M3) => (Fr [111, 113, 115, 116, 117, 123, 126] μ μ') ∧ (∀ j, j ∉ ([6, 8, 9, 10, 11, 12, 13, 15, 16, 17, 18, 22, 29, 39] : List Int) → μ'.1 111 j = μ.1 111 j) ∧ (PM μ') ∧ (μ.1 111 22 ≤ μ'.1 111 22 ∧ μ'.1 111 22 ≤ μ.1 111 22 + 2 * (μ'.1 111 9 - μ.1 111 9) + (- 2 + 3 * wr μ')) ∧ (μ.1 111 9 ≤ μ'.1 111 9) ∧ (μ.1 111 29 ≤ μ'.1 111 29) ∧ (wr μ ≤ wr μ' ∧ bd μ ≤ bd μ') ∧ (nn μ ≤ nn μ' ∧ nn μ' ≤ nn μ + 9 * wr μ' ∧ nn μ' ≤ 9 ∧ 9 * wr μ' ≤ nn μ') ∧ (μ.1 111 39 ≤ μ'.1 111 39 ∧ μ'.1 111 39 ≤ μ'.1 111 22) ∧ (∀ j, j < μ.1 111 39 → μ'.1 126 j = μ.1 126 j) ∧ ((0 ≤ r ∧ r ≤ 3001) ∧ r ≤ 8 + 3000 * bd μ') ∧ (∀ j, ff ≤ j → j < μ'.1 111 39 → 0 ≤ μ'.1 126 j ∧ μ'.1 126 j < μ'.1 111 22) ∧ (∀ _ : Unit, bd μ' = 0 → mPX μo μ' tt (x1 + r) 1 HH (wls μ' ff (μ'.1 111 39)))) := by
  refine CtI.go (by decide) (Nat.le_of_ble_eq_true rfl) (fun ρ p e s m below meth c R ls G hR hret hlk hl => ?_)
  have hx := G.1.1
  have hb := G.1.2.1
  have hl : lv_has ls 5 [(0, .ref (oP ω 111)), (1, .int (iv x1))] := hl
  generalize s.drawn = d0 at G ⊢
  have hr_x1 : -2147483648 ≤ x1 ∧ x1 ≤ 2147483647 := hx1
  have hw_0 := wr_r (μ := μ)
  have hpp_ := hPM.1.2.1
  have hpn_ := hPM.2.1
  have hpt_ := hPM.1.2.2.2.1
  have hpw_ := hPM.1.2.2.2.2.1
  have hpa_ := hPM.1.1
  have hX_1 : ∀ _ : Unit, bd μ = 0 → mPX μo μ tt x1 1 HH (wls μ ff (μ.1 111 39) ++ []) := fun _ h0 => (by rw [List.append_nil]; exact hX () h0)
  refine lv_iconst (v := iv 0) hx hb dX12_arguments_0 rfl ?_
  refine lv_istore_n (lv' := [(2, .int (iv 0)), (0, .ref (oP ω 111)), (1, .int (iv x1))]) hx hb dX12_arguments_1 rfl hl (by decide) rfl (fun ls hl => ?_)
  refine lv_aload_n hx hb dX12_arguments_2 rfl (lv_at hl 1 rfl) ?_
  refine lv_bipush (v := iv 40) hx hb dX12_arguments_3 rfl ?_
  refine xc_vV G (b := 111) (rest := []) (As := [.int (iv 40)]) (c_X12_opensWith ω l μ 40 (by unfold ir; omega) hPM (by omega) (by omega)) (wm 9 86 rfl rfl) (wm 9 88 rfl rfl) (wm 0 134 rfl rfl) rfl rfl (by decide) rfl (wm 1 18 rfl rfl) (wm 9 89 rfl rfl) (by decide) hR ⟨nfr hF (by decide), nlo hLo (by decide)⟩ (n := 1) rfl rfl (Nat.le_of_ble_eq_true rfl) hl.1 dX12_arguments_5 (fun μ2 ρ d0 H locs hp G => ?_)
  obtain ⟨F_3, hp_4, hp_5, hp_6, hp_7, hp_8, hp_9⟩ := hp
  have hpl_10 := hp_5.pl
  have hw_11 := wr_r (μ := μ2)
  refine lv_aload_n hx hb dX12_arguments_8 rfl (lv_at hl 1 rfl) ?_
  refine lv_bipush (v := iv 41) hx hb dX12_arguments_9 rfl ?_
  have e_12 : μ2.1 111 29 = μ.1 111 29 := (hp_4 29 (by decide))
  have e_14 : μ2.1 111 29 = μ.1 111 29 := (hp_4 29 (by decide))
  have hX_13 : ∀ _ : Unit, bd μ2 = 0 → mPX μo μ2 tt x1 1 HH (wls μ ff (μ.1 111 39) ++ []) := fun _ h0 => (hX_1 () (by have e9 : bd μ = bd μ := rfl; have e8 : bd μ2 = bd μ2 := rfl; omega)).qm (q0m.fr (K := [111]) (Fr.tr Fr.rf F_3 (by decide)) (by decide) (by decide) (by decide) (hp_4 22 (by decide)) (by omega))
  refine xc_iV G (b := 111) (rest := []) (As := [.int (iv 41)]) (c_X12_isSign ω l μ2 41 (by unfold ir; omega)) (wm 9 90 rfl rfl) (wm 9 92 rfl rfl) (wm 0 135 rfl rfl) rfl rfl (by decide) rfl (wm 1 18 rfl rfl) (wm 9 93 rfl rfl) (by decide) hR ⟨nfr hF (by decide), nlo hLo (by decide)⟩ (n := 1) rfl rfl (Nat.le_of_ble_eq_true rfl) hl.1 dX12_arguments_11 (fun r_16 μ15 ρ d0 H locs hr_r_16 hp G => ?_)
  have hr_r_16 : -2147483648 ≤ r_16 ∧ r_16 ≤ 2147483647 := hr_r_16
  obtain ⟨hsm_17, hp_18⟩ := hp
  have hsm_17 := Eq.symm hsm_17
  subst hsm_17
  refine xb_if_ne (tgt := 97) hx hb (by unfold ir; omega) dX12_arguments_14 (by decide) (fun c_14 => ?_) (fun c_14 => ?_)
  · refine lv_aload_n hx hb dX12_arguments_97 rfl (lv_at hl 1 rfl) ?_
    refine lv_bipush (v := iv 41) hx hb dX12_arguments_98 rfl ?_
    refine xc_vV G (b := 111) (rest := []) (As := [.int (iv 41)]) (c_X12_closesWith ω l μ2 41 (by unfold ir; omega) hp_5 (by omega) (by omega)) (wm 9 110 rfl rfl) (wm 9 112 rfl rfl) (wm 0 140 rfl rfl) rfl rfl (by decide) rfl (wm 1 18 rfl rfl) (wm 9 113 rfl rfl) (by decide) hR ⟨nfr hF (by decide), nlo hLo (by decide)⟩ (n := 1) rfl rfl (Nat.le_of_ble_eq_true rfl) hl.1 dX12_arguments_100 (fun μ19 ρ d0 H locs hp G => ?_)
    obtain ⟨F_20, hp_21, hp_22, hp_23, hp_24, hp_25, hp_26⟩ := hp
    have hpl_27 := hp_22.pl
    have hw_28 := wr_r (μ := μ19)
    refine lv_iload_n hx hb dX12_arguments_103 rfl (lv_at hl 0 rfl) ?_
    have e_29 : μ19.1 111 22 = μ.1 111 22 := ((hp_21 22 (by decide)).trans (hp_4 22 (by decide)))
    have e_30 : μ19.1 111 29 = μ.1 111 29 := ((hp_21 29 (by decide)).trans (hp_4 29 (by decide)))
    have e_31 : μ19.1 111 39 = μ.1 111 39 := ((hp_21 39 (by decide)).trans (hp_4 39 (by decide)))
    have e_32 : μ19.1 111 39 = μ.1 111 39 := ((hp_21 39 (by decide)).trans (hp_4 39 (by decide)))
    have e_33 : μ19.1 111 22 = μ.1 111 22 := ((hp_21 22 (by decide)).trans (hp_4 22 (by decide)))
    have e_34 : μ19.1 111 39 = μ.1 111 39 := ((hp_21 39 (by decide)).trans (hp_4 39 (by decide)))
    have e_35 : μ19.1 111 22 = μ.1 111 22 := ((hp_21 22 (by decide)).trans (hp_4 22 (by decide)))
    have e_36 : μ19.1 111 29 = μ.1 111 29 := ((hp_21 29 (by decide)).trans (hp_4 29 (by decide)))
    have e_38 : μ19.1 111 29 = μ.1 111 29 := ((hp_21 29 (by decide)).trans (hp_4 29 (by decide)))
    have hX_37 : ∀ _ : Unit, bd μ19 = 0 → mPX μo μ19 tt x1 1 HH (wls μ ff (μ.1 111 39) ++ []) := fun _ h0 => (hX_13 () (by have e9 : bd μ2 = bd μ2 := rfl; have e8 : bd μ19 = bd μ19 := rfl; omega)).qm (q0m.fr (K := [111]) (Fr.tr Fr.rf F_20 (by decide)) (by decide) (by decide) (by decide) ((((hp_21 22 (by decide)).trans (hp_4 22 (by decide)))).trans ((hp_4 22 (by decide))).symm) (by omega))
    have e_39 : μ19.1 111 22 = μ.1 111 22 := ((hp_21 22 (by decide)).trans (hp_4 22 (by decide)))
    have e_40 : μ19.1 111 22 = μ.1 111 22 := ((hp_21 22 (by decide)).trans (hp_4 22 (by decide)))
    have e_41 : μ19.1 111 29 = μ.1 111 29 := ((hp_21 29 (by decide)).trans (hp_4 29 (by decide)))
    have e_42 : μ19.1 111 39 = μ.1 111 39 := ((hp_21 39 (by decide)).trans (hp_4 39 (by decide)))
    have e_43 : μ19.1 111 39 = μ.1 111 39 := ((hp_21 39 (by decide)).trans (hp_4 39 (by decide)))
    have e_44 : μ19.1 111 22 = μ.1 111 22 := ((hp_21 22 (by decide)).trans (hp_4 22 (by decide)))
    exact xr_i G (x := 0) hret hlk (by unfold ir; omega) rfl dX12_arguments_104 ⟨(Fr.tr (Fr.tr Fr.rf F_3 (by decide)) F_20 (by decide)), (fun j hj => ((hp_21 j (fun h9 => hj ((by decide : ∀ x ∈ ([6, 8, 9, 10, 11, 12, 13, 15, 18] : List Int), x ∈ ([6, 8, 9, 10, 11, 12, 13, 15, 16, 17, 18, 22, 29, 39] : List Int)) j h9))).trans (hp_4 j (fun h9 => hj ((by decide : ∀ x ∈ ([6, 8, 9, 10, 11, 12, 13, 15, 18] : List Int), x ∈ ([6, 8, 9, 10, 11, 12, 13, 15, 16, 17, 18, 22, 29, 39] : List Int)) j h9))))), hp_22, (by omega), (by omega), (by omega), (by omega), (by omega), (by omega), (fun j hj => ((F_20.1 126 (by decide) j).trans (F_3.1 126 (by decide) j))), (by omega), (fun j h1 h2 => by rcases Int.lt_or_le j (μ.1 111 39) with h9 | h9; (have b9 := hwk j h1 h9; rw [show μ19.1 126 j = μ.1 126 j from ((F_20.1 126 (by decide) j).trans (F_3.1 126 (by decide) j))]; exact ⟨b9.1, by omega⟩); (omega)), (fun _ h0 => (((hX_37 ()) h0).ee (by omega)).mem (fun i => wls_cg (fun j h1 h9 => ((F_20.1 126 (by decide) j).trans (F_3.1 126 (by decide) j))) (by omega)))⟩
  · refine lv_iconst (v := iv 1) hx hb dX12_arguments_17 rfl ?_
    refine lv_istore_n (lv' := [(3, .int (iv 1)), (2, .int (iv 0)), (0, .ref (oP ω 111)), (1, .int (iv x1))]) hx hb dX12_arguments_18 rfl hl (by decide) rfl (fun ls hl => ?_)
    have e_45 : μ2.1 111 22 = μ.1 111 22 := (hp_4 22 (by decide))
    have e_46 : μ2.1 111 22 = μ.1 111 22 := (hp_4 22 (by decide))
    have e_47 : μ2.1 111 29 = μ.1 111 29 := (hp_4 29 (by decide))
    have e_48 : μ2.1 111 39 = μ.1 111 39 := (hp_4 39 (by decide))
    have e_49 : μ2.1 111 39 = μ.1 111 39 := (hp_4 39 (by decide))
    have e_50 : μ2.1 111 22 = μ.1 111 22 := (hp_4 22 (by decide))
    have e_51 : μ2.1 111 39 = μ.1 111 39 := (hp_4 39 (by decide))
    have e_52 : μ2.1 111 22 = μ.1 111 22 := (hp_4 22 (by decide))
    have e_53 : μ2.1 111 39 = μ.1 111 39 := (hp_4 39 (by decide))
    have e_54 : μ2.1 111 22 = μ.1 111 22 := (hp_4 22 (by decide))
    refine xl (fun n_9 μ' ls => ∃ (c9 : Int), ∃ (m9 : Int), (Fr [111, 113, 115, 116, 117, 123, 126] μ2 μ') ∧ (-2147483648 ≤ c9 ∧ c9 ≤ 2147483647) ∧ (-2147483648 ≤ m9 ∧ m9 ≤ 2147483647) ∧ (∀ j, j ∉ ([6, 8, 9, 10, 11, 12, 13, 15, 16, 17, 18, 22, 29, 39] : List Int) → μ'.1 111 j = μ2.1 111 j) ∧ (0 ≤ c9) ∧ (0 ≤ m9 ∧ m9 ≤ 1) ∧ (c9 + m9 ≤ μ'.1 111 9 + 1) ∧ (c9 ≤ 8 + 3000 * bd μ') ∧ (PM μ') ∧ (μ.1 111 22 ≤ μ'.1 111 22 ∧ μ'.1 111 22 ≤ μ.1 111 22 + 2 * (μ'.1 111 9 - μ.1 111 9) + (- 2 + 3 * wr μ')) ∧ (μ.1 111 9 ≤ μ'.1 111 9) ∧ (μ.1 111 29 ≤ μ'.1 111 29) ∧ (wr μ ≤ wr μ' ∧ bd μ ≤ bd μ') ∧ (nn μ ≤ nn μ' ∧ nn μ' ≤ nn μ + 1 + 9 * wr μ' ∧ nn μ' ≤ 9 ∧ nn μ + 1 ≤ nn μ' + wr μ ∧ nn μ' ≤ 8 + wr μ' ∧ 9 * wr μ' ≤ nn μ') ∧ (μ.1 111 39 ≤ μ'.1 111 39 ∧ μ'.1 111 39 ≤ μ'.1 111 22) ∧ (∀ j, j < μ.1 111 39 → μ'.1 126 j = μ.1 126 j) ∧ (∀ j, ff ≤ j → j < μ'.1 111 39 → 0 ≤ μ'.1 126 j ∧ μ'.1 126 j < μ'.1 111 22) ∧ (∀ _ : Unit, bd μ' = 0 → mPX μo μ' tt (x1 + c9) 1 HH (wls μ' ff (μ'.1 111 39))) ∧ n_9 = Int.toNat (3001 - μ'.1 111 9 + m9) ∧ lv_has ls 5 [(3, .int (iv m9)), (2, .int (iv c9)), (0, .ref (oP ω 111)), (1, .int (iv x1))]) (fun n_9 ρ μL55 d0 H locs ls hI_l G ih => ?_) _ _ _ _ _ _ _ ⟨0, 1, Fr.rf, (by omega), (by omega), (fun j hj => rfl), (by omega), (by omega), (by omega), (by omega), hp_5, (by omega), (by omega), (by omega), (by omega), (by omega), (by omega), (fun j hj => (F_3.1 126 (by decide) j)), (fun j h1 h2 => by rcases Int.lt_or_le j (μ.1 111 39) with h9 | h9; (have b9 := hwk j h1 h9; rw [show μ2.1 126 j = μ.1 126 j from (F_3.1 126 (by decide) j)]; exact ⟨b9.1, by omega⟩); (omega)), (fun _ h0 => (((hX_13 ()) h0).ee (by omega)).mem (fun i => wls_cg (fun j h1 h9 => (F_3.1 126 (by decide) j)) (by omega))), rfl, lv_sub hl [0, 1, 2, 3] rfl⟩ G
    obtain ⟨c9, m9, FL56, hi_58, hi_59, hi_60, hi_61, hi_62, hi_63, hi_64, hi_65, hi_66, hi_67, hi_68, hi_69, hi_70, hi_71, hi_72, hi_73, hi_74, hn57, hl⟩ := hI_l
    have hw_75 := wr_r (μ := μL55)
    have hw_76 := wr_r (μ := μL55)
    have hpl_77 := hi_65.pl
    have hX_78 : ∀ _ : Unit, bd μL55 = 0 → mPX μo μL55 tt (x1 + c9) 1 HH (wls μL55 ff (μL55.1 111 39) ++ []) := fun _ h0 => (by rw [List.append_nil]; exact hi_74 () h0)
    refine lv_iload_n hx hb dX12_arguments_19 rfl (lv_at hl 0 rfl) ?_
    refine xb_if_eq (tgt := 97) hx hb (by unfold ir; omega) dX12_arguments_20 (by decide) (fun c_20 => ?_) (fun c_20 => ?_)
    · refine lv_aload_n hx hb dX12_arguments_97 rfl (lv_at hl 2 rfl) ?_
      refine lv_bipush (v := iv 41) hx hb dX12_arguments_98 rfl ?_
      have hw_79 := wr_r (μ := μL55)
      refine xc_vV G (b := 111) (rest := []) (As := [.int (iv 41)]) (c_X12_closesWith ω l μL55 41 (by unfold ir; omega) hi_65 (by omega) (by omega)) (wm 9 110 rfl rfl) (wm 9 112 rfl rfl) (wm 0 140 rfl rfl) rfl rfl (by decide) rfl (wm 1 18 rfl rfl) (wm 9 113 rfl rfl) (by decide) hR ⟨nfr hF (by decide), nlo hLo (by decide)⟩ (n := 1) rfl rfl (Nat.le_of_ble_eq_true rfl) hl.1 dX12_arguments_100 (fun μ80 ρ d0 H locs hp G => ?_)
      obtain ⟨F_81, hp_82, hp_83, hp_84, hp_85, hp_86, hp_87⟩ := hp
      have hpl_88 := hp_83.pl
      have hw_89 := wr_r (μ := μ80)
      refine lv_iload_n hx hb dX12_arguments_103 rfl (lv_at hl 1 rfl) ?_
      have e_90 : μ80.1 111 22 = μL55.1 111 22 := (hp_82 22 (by decide))
      have e_91 : μ80.1 111 29 = μL55.1 111 29 := (hp_82 29 (by decide))
      have e_92 : μ80.1 111 39 = μL55.1 111 39 := (hp_82 39 (by decide))
      have e_93 : μ80.1 111 39 = μL55.1 111 39 := (hp_82 39 (by decide))
      have e_94 : μ80.1 111 22 = μL55.1 111 22 := (hp_82 22 (by decide))
      have e_95 : μ80.1 111 39 = μL55.1 111 39 := (hp_82 39 (by decide))
      have e_96 : μ80.1 111 22 = μL55.1 111 22 := (hp_82 22 (by decide))
      have e_97 : μ80.1 111 29 = μL55.1 111 29 := (hp_82 29 (by decide))
      have e_99 : μ80.1 111 29 = μL55.1 111 29 := (hp_82 29 (by decide))
      have hX_98 : ∀ _ : Unit, bd μ80 = 0 → mPX μo μ80 tt (x1 + c9) 1 HH (wls μL55 ff (μL55.1 111 39) ++ []) := fun _ h0 => (hX_78 () (by have e9 : bd μL55 = bd μL55 := rfl; have e8 : bd μ80 = bd μ80 := rfl; omega)).qm (q0m.fr (K := [111]) (Fr.tr Fr.rf F_81 (by decide)) (by decide) (by decide) (by decide) (hp_82 22 (by decide)) (by omega))
      have e_100 : μ80.1 111 22 = μL55.1 111 22 := (hp_82 22 (by decide))
      have e_101 : μ80.1 111 22 = μL55.1 111 22 := (hp_82 22 (by decide))
      have e_102 : μ80.1 111 29 = μL55.1 111 29 := (hp_82 29 (by decide))
      have e_103 : μ80.1 111 39 = μL55.1 111 39 := (hp_82 39 (by decide))
      have e_104 : μ80.1 111 39 = μL55.1 111 39 := (hp_82 39 (by decide))
      have e_105 : μ80.1 111 22 = μL55.1 111 22 := (hp_82 22 (by decide))
      exact xr_i G (x := c9) hret hlk (by unfold ir; omega) rfl dX12_arguments_104 ⟨(Fr.tr (Fr.tr (Fr.tr Fr.rf F_3 (by decide)) FL56 (by decide)) F_81 (by decide)), (fun j hj => ((hp_82 j (fun h9 => hj ((by decide : ∀ x ∈ ([6, 8, 9, 10, 11, 12, 13, 15, 18] : List Int), x ∈ ([6, 8, 9, 10, 11, 12, 13, 15, 16, 17, 18, 22, 29, 39] : List Int)) j h9))).trans ((hi_60 j (fun h9 => hj ((by decide : ∀ x ∈ ([6, 8, 9, 10, 11, 12, 13, 15, 16, 17, 18, 22, 29, 39] : List Int), x ∈ ([6, 8, 9, 10, 11, 12, 13, 15, 16, 17, 18, 22, 29, 39] : List Int)) j h9))).trans (hp_4 j (fun h9 => hj ((by decide : ∀ x ∈ ([6, 8, 9, 10, 11, 12, 13, 15, 18] : List Int), x ∈ ([6, 8, 9, 10, 11, 12, 13, 15, 16, 17, 18, 22, 29, 39] : List Int)) j h9)))))), hp_83, (by omega), (by omega), (by omega), (by omega), (by omega), (by omega), (fun j hj => ((F_81.1 126 (by decide) j).trans (hi_72 j (by omega)))), (by omega), (fun j h1 h2 => by rcases Int.lt_or_le j (μL55.1 111 39) with h9 | h9; (have b9 := hi_73 j h1 h9; rw [show μ80.1 126 j = μL55.1 126 j from (F_81.1 126 (by decide) j)]; exact ⟨b9.1, by omega⟩); (omega)), (fun _ h0 => (((hX_98 ()) h0).ee (by omega)).mem (fun i => wls_cg (fun j h1 h9 => (F_81.1 126 (by decide) j)) (by omega)))⟩
    · refine lv_aload_n hx hb dX12_arguments_23 rfl (lv_at hl 2 rfl) ?_
      have hw_106 := wr_r (μ := μL55)
      refine xc_iV G (b := 111) (rest := []) (As := []) (c_X12_isWrong ω l μL55  ) (wm 9 4 rfl rfl) (wm 9 6 rfl rfl) (wm 0 120 rfl rfl) rfl rfl (by decide) rfl (wm 1 18 rfl rfl) (wm 9 7 rfl rfl) (by decide) hR ⟨nfr hF (by decide), nlo hLo (by decide)⟩ (n := 0) rfl rfl (Nat.le_of_ble_eq_true rfl) hl.1 dX12_arguments_24 (fun r_108 μ107 ρ d0 H locs hr_r_108 hp G => ?_)
      have hr_r_108 : -2147483648 ≤ r_108 ∧ r_108 ≤ 2147483647 := hr_r_108
      obtain ⟨hsm_109, hp_110⟩ := hp
      have hsm_109 := Eq.symm hsm_109
      subst hsm_109
      refine xb_if_ne (tgt := 97) hx hb (by unfold ir; omega) dX12_arguments_27 (by decide) (fun c_27 => ?_) (fun c_27 => ?_)
      · refine lv_aload_n hx hb dX12_arguments_97 rfl (lv_at hl 2 rfl) ?_
        refine lv_bipush (v := iv 41) hx hb dX12_arguments_98 rfl ?_
        refine xc_vV G (b := 111) (rest := []) (As := [.int (iv 41)]) (c_X12_closesWith ω l μL55 41 (by unfold ir; omega) hi_65 (by omega) (by omega)) (wm 9 110 rfl rfl) (wm 9 112 rfl rfl) (wm 0 140 rfl rfl) rfl rfl (by decide) rfl (wm 1 18 rfl rfl) (wm 9 113 rfl rfl) (by decide) hR ⟨nfr hF (by decide), nlo hLo (by decide)⟩ (n := 1) rfl rfl (Nat.le_of_ble_eq_true rfl) hl.1 dX12_arguments_100 (fun μ111 ρ d0 H locs hp G => ?_)
        obtain ⟨F_112, hp_113, hp_114, hp_115, hp_116, hp_117, hp_118⟩ := hp
        have hpl_119 := hp_114.pl
        have hw_120 := wr_r (μ := μ111)
        refine lv_iload_n hx hb dX12_arguments_103 rfl (lv_at hl 1 rfl) ?_
        have e_121 : μ111.1 111 22 = μL55.1 111 22 := (hp_113 22 (by decide))
        have e_122 : μ111.1 111 29 = μL55.1 111 29 := (hp_113 29 (by decide))
        have e_123 : μ111.1 111 39 = μL55.1 111 39 := (hp_113 39 (by decide))
        have e_124 : μ111.1 111 39 = μL55.1 111 39 := (hp_113 39 (by decide))
        have e_125 : μ111.1 111 22 = μL55.1 111 22 := (hp_113 22 (by decide))
        have e_126 : μ111.1 111 39 = μL55.1 111 39 := (hp_113 39 (by decide))
        have e_127 : μ111.1 111 22 = μL55.1 111 22 := (hp_113 22 (by decide))
        have e_128 : μ111.1 111 29 = μL55.1 111 29 := (hp_113 29 (by decide))
        have e_130 : μ111.1 111 29 = μL55.1 111 29 := (hp_113 29 (by decide))
        have hX_129 : ∀ _ : Unit, bd μ111 = 0 → mPX μo μ111 tt (x1 + c9) 1 HH (wls μL55 ff (μL55.1 111 39) ++ []) := fun _ h0 => (hX_78 () (by have e9 : bd μL55 = bd μL55 := rfl; have e8 : bd μ111 = bd μ111 := rfl; omega)).qm (q0m.fr (K := [111]) (Fr.tr Fr.rf F_112 (by decide)) (by decide) (by decide) (by decide) (hp_113 22 (by decide)) (by omega))
        have e_131 : μ111.1 111 22 = μL55.1 111 22 := (hp_113 22 (by decide))
        have e_132 : μ111.1 111 22 = μL55.1 111 22 := (hp_113 22 (by decide))
        have e_133 : μ111.1 111 29 = μL55.1 111 29 := (hp_113 29 (by decide))
        have e_134 : μ111.1 111 39 = μL55.1 111 39 := (hp_113 39 (by decide))
        have e_135 : μ111.1 111 39 = μL55.1 111 39 := (hp_113 39 (by decide))
        have e_136 : μ111.1 111 22 = μL55.1 111 22 := (hp_113 22 (by decide))
        exact xr_i G (x := c9) hret hlk (by unfold ir; omega) rfl dX12_arguments_104 ⟨(Fr.tr (Fr.tr (Fr.tr Fr.rf F_3 (by decide)) FL56 (by decide)) F_112 (by decide)), (fun j hj => ((hp_113 j (fun h9 => hj ((by decide : ∀ x ∈ ([6, 8, 9, 10, 11, 12, 13, 15, 18] : List Int), x ∈ ([6, 8, 9, 10, 11, 12, 13, 15, 16, 17, 18, 22, 29, 39] : List Int)) j h9))).trans ((hi_60 j (fun h9 => hj ((by decide : ∀ x ∈ ([6, 8, 9, 10, 11, 12, 13, 15, 16, 17, 18, 22, 29, 39] : List Int), x ∈ ([6, 8, 9, 10, 11, 12, 13, 15, 16, 17, 18, 22, 29, 39] : List Int)) j h9))).trans (hp_4 j (fun h9 => hj ((by decide : ∀ x ∈ ([6, 8, 9, 10, 11, 12, 13, 15, 18] : List Int), x ∈ ([6, 8, 9, 10, 11, 12, 13, 15, 16, 17, 18, 22, 29, 39] : List Int)) j h9)))))), hp_114, (by omega), (by omega), (by omega), (by omega), (by omega), (by omega), (fun j hj => ((F_112.1 126 (by decide) j).trans (hi_72 j (by omega)))), (by omega), (fun j h1 h2 => by rcases Int.lt_or_le j (μL55.1 111 39) with h9 | h9; (have b9 := hi_73 j h1 h9; rw [show μ111.1 126 j = μL55.1 126 j from (F_112.1 126 (by decide) j)]; exact ⟨b9.1, by omega⟩); (omega)), (fun _ h0 => (((hX_129 ()) h0).ee (by omega)).mem (fun i => wls_cg (fun j h1 h9 => (F_112.1 126 (by decide) j)) (by omega)))⟩
      · refine lv_iload_n hx hb dX12_arguments_30 rfl (lv_at hl 1 rfl) ?_
        refine lv_bipush (v := iv 8) hx hb dX12_arguments_31 rfl ?_
        refine xb_icmp_ne (tgt := 44) hx hb (by unfold ir; omega) (by unfold ir; omega) dX12_arguments_33 (by decide) (fun c_33 => ?_) (fun c_33 => ?_)
        · refine lv_aload_n hx hb dX12_arguments_44 rfl (lv_at hl 2 rfl) ?_
          have e_137 : μL55.1 111 14 = tt := ((hi_60 14 (by decide)).trans ((hp_4 14 (by decide)).trans htt.symm))
          have e_138 : μL55.1 111 31 = μ.1 111 31 := ((hi_60 31 (by decide)).trans (hp_4 31 (by decide)))
          have e_139 : μL55.1 111 31 = μ.1 111 31 := ((hi_60 31 (by decide)).trans (hp_4 31 (by decide)))
          refine xc_vV G (b := 111) (rest := []) (As := []) (((fun (_ : Om) (_ : Launch) => hE)) ω l μL55 tt (by omega) hi_65 (by omega) (by omega) (by omega) (by omega) (by omega) (by omega) (fun _ h0 => ((hX_78 ()) h0).h1.1)) (wm 9 139 rfl rfl) (wm 9 141 rfl rfl) (wm 0 147 rfl rfl) rfl rfl (by decide) rfl (wm 1 18 rfl rfl) (wm 9 142 rfl rfl) (by decide) hR ⟨sfr (F := F) (a := 0) (by decide), slo (L := Lo) (m := 1) (a := 0) (by decide)⟩ (n := 0) rfl rfl (Nat.le_of_ble_eq_true rfl) hl.1 dX12_arguments_45 (fun μ140 ρ d0 H locs hp G => ?_)
          obtain ⟨F_141, hp_142, hp_143, hp_144, hp_145, hp_146, hp_147, hp_148, hp_149, hp_150, hp_151⟩ := hp
          have hpl_152 := hp_143.pl
          have hw_153 := wr_r (μ := μ140)
          have hX_154 : ∀ _ : Unit, bd μ140 = 0 → mPX μo μ140 tt ((x1 + c9) + 1) 1 HH (wls μL55 ff (μL55.1 111 39) ++ []) := fun _ h0 => (((hX_78 ()) (by have e9 : bd μL55 = bd μL55 := rfl; have e8 : bd μ140 = bd μ140 := rfl; omega)).app (hp_151 () h0) (by omega)).ee (by omega)
          refine lv_aload_n hx hb dX12_arguments_48 rfl (lv_at hl 2 rfl) ?_
          refine lv_iload_n hx hb dX12_arguments_49 rfl (lv_at hl 3 rfl) ?_
          refine lv_iload_n hx hb dX12_arguments_50 rfl (lv_at hl 1 rfl) ?_
          refine xb_iadd hx hb dX12_arguments_51 ?_
          have e_155 : μ140.1 111 14 = tt := ((hp_142 14 (by decide)).trans ((hi_60 14 (by decide)).trans ((hp_4 14 (by decide)).trans htt.symm)))
          refine xc_iV G (b := 111) (rest := []) (As := [.int (iv (x1 + c9))]) (c_X12_skips ω l μ140 (x1 + c9) tt (by unfold ir; omega) (by omega) (by omega)) (wm 9 159 rfl rfl) (wm 9 161 rfl rfl) (wm 0 152 rfl rfl) rfl rfl (by decide) rfl (wm 1 18 rfl rfl) (wm 9 162 rfl rfl) (by decide) hR ⟨nfr hF (by decide), nlo hLo (by decide)⟩ (n := 1) rfl rfl (Nat.le_of_ble_eq_true rfl) hl.1 dX12_arguments_52 (fun r_157 μ156 ρ d0 H locs hr_r_157 hp G => ?_)
          have hr_r_157 : -2147483648 ≤ r_157 ∧ r_157 ≤ 2147483647 := hr_r_157
          obtain ⟨F_158, hp_159, hp_160, hp_161⟩ := hp
          have e_162 : wr μ156 = wr μ140 := (wr_cg (hp_159 15 (by decide)))
          have e_163 : bd μ156 = bd μ140 := (bd_cg (hp_159 15 (by decide)) (hp_159 16 (by decide)))
          have e_164 : nn μ156 = nn μ140 := (nn_cg (hp_159 15 (by decide)) (hp_159 18 (by decide)))
          replace hp_160 := fun _ : Unit => hp_160
          have e_166 : μ156.1 111 29 = μ140.1 111 29 := (hp_159 29 (by decide))
          have hX_165 : ∀ _ : Unit, bd μ156 = 0 → mPX μo μ156 tt ((x1 + c9) + 1) 1 HH (lsk r_157 ++ (wls μL55 ff (μL55.1 111 39) ++ [])) := fun _ h0 => mPX.sk ((hX_154 ()) (by have e9 : bd μ140 = bd μ140 := rfl; have e8 : bd μ156 = bd μ140 := (bd_cg (hp_159 15 (by decide)) (hp_159 16 (by decide))); omega)) (hp_160 ()) (by omega) (by omega) (by decide)
          have hqr_r_157 : (r_157 = -1) ∨ (0 ≤ r_157 ∧ r_157 < μ156.1 111 22) := by rcases hp_160 () with ⟨q1, q2, q3, q4⟩ | ⟨q1, q2, q3⟩; (right; have := q2.2.1; omega); (left; exact q2)
          have hqs_r_157 : (r_157 = -1) ∨ (μ156.1 111 22 = μ140.1 111 22 + 1 ∧ r_157 = μ140.1 111 22) := by rcases hp_160 () with ⟨q1, q2, q3, q4⟩ | ⟨q1, q2, q3⟩; (right; exact ⟨q2.2.1, q3⟩); (left; exact q2)
          refine lv_istore (lv' := [(4, .int (iv r_157)), (3, .int (iv m9)), (2, .int (iv c9)), (0, .ref (oP ω 111)), (1, .int (iv x1))]) hx hb dX12_arguments_55 hl (by decide) rfl (fun ls hl => ?_)
          refine lv_iload hx hb dX12_arguments_57 (lv_at hl 0 rfl) ?_
          refine lv_iconst (v := iv (-1)) hx hb dX12_arguments_59 rfl ?_
          refine xb_icmp_eq (tgt := 84) hx hb (by unfold ir; omega) (by unfold ir; omega) dX12_arguments_60 (by decide) (fun c_60 => ?_) (fun c_60 => ?_)
          · refine lv_iinc (v := iv (c9 + 1)) (lv' := [(2, .int (iv (c9 + 1))), (4, .int (iv r_157)), (3, .int (iv m9)), (0, .ref (oP ω 111)), (1, .int (iv x1))]) hx hb dX12_arguments_84 hl (k := 2) rfl (by rw [show Int32.ofInt 1 = iv 1 from rfl, iv_add]) (by decide) rfl (fun ls hl => ?_)
            refine lv_aload_n hx hb dX12_arguments_87 rfl (lv_at hl 3 rfl) ?_
            refine lv_bipush (v := iv 44) hx hb dX12_arguments_88 rfl ?_
            have hPM_167 : PM μ156 := hp_143.cg ((((hp_159 4 (by decide)).trans ((hp_142 4 (by decide)).trans ((hi_60 4 (by decide)).trans (hp_4 4 (by decide)))))).trans (((hp_142 4 (by decide)).trans ((hi_60 4 (by decide)).trans (hp_4 4 (by decide))))).symm) (hp_159 6 (by decide)) ((((hp_159 7 (by decide)).trans ((hp_142 7 (by decide)).trans ((hi_60 7 (by decide)).trans (hp_4 7 (by decide)))))).trans (((hp_142 7 (by decide)).trans ((hi_60 7 (by decide)).trans (hp_4 7 (by decide))))).symm) (hp_159 8 (by decide)) (hp_159 9 (by decide)) (hp_159 11 (by decide)) (hp_159 12 (by decide)) ((((hp_159 14 (by decide)).trans ((hp_142 14 (by decide)).trans ((hi_60 14 (by decide)).trans ((hp_4 14 (by decide)).trans htt.symm))))).trans (((hp_142 14 (by decide)).trans ((hi_60 14 (by decide)).trans ((hp_4 14 (by decide)).trans htt.symm)))).symm) (hp_159 15 (by decide)) (hp_159 29 (by decide)) (fun j => (F_158.1 123 (by decide) j))
            have e_168 : wr μ156 = wr μ140 := (wr_cg (hp_159 15 (by decide)))
            have e_169 : nn μ156 = nn μ140 := (nn_cg (hp_159 15 (by decide)) (hp_159 18 (by decide)))
            have e_170 : μ156.1 111 9 = μ140.1 111 9 := (hp_159 9 (by decide))
            have e_171 : wr μ156 = wr μ140 := (wr_cg (hp_159 15 (by decide)))
            have e_172 : wr μ156 = wr μ140 := (wr_cg (hp_159 15 (by decide)))
            have e_173 : bd μ156 = bd μ140 := (bd_cg (hp_159 15 (by decide)) (hp_159 16 (by decide)))
            have e_174 : nn μ156 = nn μ140 := (nn_cg (hp_159 15 (by decide)) (hp_159 18 (by decide)))
            refine xc_iV G (b := 111) (rest := []) (As := [.int (iv 44)]) (c_X12_takesSign ω l μ156 44 (by unfold ir; omega) hPM_167 (by omega)) (wm 9 106 rfl rfl) (wm 9 108 rfl rfl) (wm 0 139 rfl rfl) rfl rfl (by decide) rfl (wm 1 18 rfl rfl) (wm 9 109 rfl rfl) (by decide) hR ⟨nfr hF (by decide), nlo hLo (by decide)⟩ (n := 1) rfl rfl (Nat.le_of_ble_eq_true rfl) hl.1 dX12_arguments_90 (fun r_176 μ175 ρ d0 H locs hr_r_176 hp G => ?_)
            have hr_r_176 : -2147483648 ≤ r_176 ∧ r_176 ≤ 2147483647 := hr_r_176
            obtain ⟨F_177, hp_178, hp_179, hp_180, hp_181, hp_182, hp_183⟩ := hp
            have hpl_184 := hp_179.pl
            have hw_185 := wr_r (μ := μ156)
            have hw_186 := wr_r (μ := μ175)
            refine lv_istore_n (lv' := [(3, .int (iv r_176)), (2, .int (iv (c9 + 1))), (4, .int (iv r_157)), (0, .ref (oP ω 111)), (1, .int (iv x1))]) hx hb dX12_arguments_93 rfl hl (by decide) rfl (fun ls hl => ?_)
            refine lv_goto (tgt := 19) hx hb dX12_arguments_94 (by decide) ?_
            have e_187 : μ175.1 111 22 = μ156.1 111 22 := (hp_178 22 (by decide))
            have e_188 : μ175.1 111 22 = μ156.1 111 22 := (hp_178 22 (by decide))
            have e_189 : μ175.1 111 29 = μ140.1 111 29 := ((hp_178 29 (by decide)).trans (hp_159 29 (by decide)))
            have e_190 : μ175.1 111 39 = μ140.1 111 39 := ((hp_178 39 (by decide)).trans (hp_159 39 (by decide)))
            have e_191 : μ175.1 111 39 = μ140.1 111 39 := ((hp_178 39 (by decide)).trans (hp_159 39 (by decide)))
            have e_192 : μ175.1 111 22 = μ156.1 111 22 := (hp_178 22 (by decide))
            have e_193 : μ175.1 111 39 = μ140.1 111 39 := ((hp_178 39 (by decide)).trans (hp_159 39 (by decide)))
            have e_194 : μ175.1 111 22 = μ156.1 111 22 := (hp_178 22 (by decide))
            have e_195 : μ175.1 111 39 = μ140.1 111 39 := ((hp_178 39 (by decide)).trans (hp_159 39 (by decide)))
            have e_196 : μ175.1 111 22 = μ156.1 111 22 := (hp_178 22 (by decide))
            have e_197 : μ175.1 111 29 = μ140.1 111 29 := ((hp_178 29 (by decide)).trans (hp_159 29 (by decide)))
            have e_199 : μ175.1 111 29 = μ140.1 111 29 := ((hp_178 29 (by decide)).trans (hp_159 29 (by decide)))
            have hX_198 : ∀ _ : Unit, bd μ175 = 0 → mPX μo μ175 tt ((x1 + c9) + 1) 1 HH (lsk r_157 ++ (wls μL55 ff (μL55.1 111 39) ++ [])) := fun _ h0 => (hX_165 () (by have e9 : bd μ156 = bd μ140 := (bd_cg (hp_159 15 (by decide)) (hp_159 16 (by decide))); have e8 : bd μ175 = bd μ175 := rfl; omega)).qm (q0m.fr (K := [111]) (Fr.tr Fr.rf F_177 (by decide)) (by decide) (by decide) (by decide) (hp_178 22 (by decide)) (by omega))
            exact ih _ _ _ _ _ _ _ (by omega) ⟨c9 + 1, r_176, (Fr.tr (Fr.tr (Fr.tr FL56 F_141 (by decide)) F_158 (by decide)) F_177 (by decide)), (by omega), (by omega), (fun j hj => ((hp_178 j (fun h9 => hj ((by decide : ∀ x ∈ ([6, 8, 9, 10, 11, 12, 13, 15] : List Int), x ∈ ([6, 8, 9, 10, 11, 12, 13, 15, 16, 17, 18, 22, 29, 39] : List Int)) j h9))).trans ((hp_159 j (fun h9 => hj ((by decide : ∀ x ∈ ([22] : List Int), x ∈ ([6, 8, 9, 10, 11, 12, 13, 15, 16, 17, 18, 22, 29, 39] : List Int)) j h9))).trans ((hp_142 j (fun h9 => hj ((by decide : ∀ x ∈ ([6, 8, 9, 10, 11, 12, 13, 15, 16, 17, 18, 22, 29, 39] : List Int), x ∈ ([6, 8, 9, 10, 11, 12, 13, 15, 16, 17, 18, 22, 29, 39] : List Int)) j h9))).trans (hi_60 j (fun h9 => hj ((by decide : ∀ x ∈ ([6, 8, 9, 10, 11, 12, 13, 15, 16, 17, 18, 22, 29, 39] : List Int), x ∈ ([6, 8, 9, 10, 11, 12, 13, 15, 16, 17, 18, 22, 29, 39] : List Int)) j h9))))))), (by omega), (by omega), (by omega), (by omega), hp_179, (by omega), (by omega), (by omega), (by omega), (by omega), (by omega), (fun j hj => ((F_177.1 126 (by decide) j).trans ((F_158.1 126 (by decide) j).trans ((hp_150 j (by omega)).trans (hi_72 j (by omega)))))), (fun j h1 h2 => by rcases Int.lt_or_le j (μL55.1 111 39) with h9 | h9; (have b9 := hi_73 j h1 h9; rw [show μ175.1 126 j = μL55.1 126 j from ((F_177.1 126 (by decide) j).trans ((F_158.1 126 (by decide) j).trans (hp_150 j (by omega))))]; exact ⟨b9.1, by omega⟩); (omega)), (fun _ h0 => (((hX_198 ()) h0).ee (by omega)).mem (fun i => wls_old (fun j h1 h9 => ((F_177.1 126 (by decide) j).trans ((F_158.1 126 (by decide) j).trans (hp_150 j (by omega))))) (by omega) (by omega))), rfl, lv_sub hl [0, 1, 3, 4] rfl⟩ G
          · refine lv_aload_n hx hb dX12_arguments_63 rfl (lv_at hl 3 rfl) ?_
            refine xa_getr G fd_X12 (a := 111) (x := 126) 38 rfl (by decide) rfl (wm 7 187 rfl rfl) ⟨rfl, rfl, rfl⟩ dX12_arguments_64 rfl (G.sk 124 rfl) (by decide) rfl ?_
            refine lv_aload_n hx hb dX12_arguments_67 rfl (lv_at hl 3 rfl) ?_
            refine xa_geti G fd_X12 (a := 111) (x := μ140.1 111 39) 39 rfl (by decide) rfl (wm 7 188 rfl rfl) ⟨rfl, rfl, rfl⟩ dX12_arguments_68 rfl (hp_159 39 (by decide)) ?_
            have hr_200 : -2147483648 ≤ μ140.1 111 39 ∧ μ140.1 111 39 ≤ 2147483647 := by have h9 := G.hr (a := 111) (k := 39) rfl; rw [show μ156.1 111 39 = μ140.1 111 39 from (hp_159 39 (by decide))] at h9; exact h9
            refine lv_iload hx hb dX12_arguments_71 (lv_at hl 0 rfl) ?_
            have e_201 : μ156.1 111 39 = μ140.1 111 39 := (hp_159 39 (by decide))
            refine xa_iast G (a := 126) (i := μ140.1 111 39) (x := r_157) rfl (by have h9 := G.lc (a := 126) (n := 12000) 64 rfl; omega) (by unfold ir; omega) dX12_arguments_73 rfl (fun H locs G => ?_)
            refine lv_aload_n hx hb dX12_arguments_74 rfl (lv_at hl 3 rfl) ?_
            refine lv_dup hx hb dX12_arguments_75 rfl ?_
            refine xa_geti G fd_X12 (a := 111) (x := μ140.1 111 39) 39 rfl (by decide) rfl (wm 7 188 rfl rfl) ⟨rfl, rfl, rfl⟩ dX12_arguments_76 rfl ((sv_n _ (fun h9 => absurd h9.1 (by decide))).trans (hp_159 39 (by decide))) ?_
            refine lv_iconst (v := iv 1) hx hb dX12_arguments_79 rfl ?_
            refine xb_iadd hx hb dX12_arguments_80 ?_
            refine xa_puti G fd_X12 (a := 111) (x := (μ140.1 111 39) + 1) 39 (kz := 39) rfl rfl (by decide) rfl (by unfold ir; omega) (wm 7 188 rfl rfl) ⟨rfl, rfl, rfl, rfl⟩ rfl dX12_arguments_81 rfl (fun H locs G => ?_)
            refine lv_iinc (v := iv (c9 + 1)) (lv' := [(2, .int (iv (c9 + 1))), (4, .int (iv r_157)), (3, .int (iv m9)), (0, .ref (oP ω 111)), (1, .int (iv x1))]) hx hb dX12_arguments_84 hl (k := 2) rfl (by rw [show Int32.ofInt 1 = iv 1 from rfl, iv_add]) (by decide) rfl (fun ls hl => ?_)
            refine lv_aload_n hx hb dX12_arguments_87 rfl (lv_at hl 3 rfl) ?_
            refine lv_bipush (v := iv 44) hx hb dX12_arguments_88 rfl ?_
            have e_202 : (sv (sv μ156 126 (μ140.1 111 39) r_157) 111 39 ((μ140.1 111 39) + 1)).1 111 29 = μ140.1 111 29 := ((sv_n _ (by decide)).trans ((sv_n _ (fun h9 => absurd h9.1 (by decide))).trans (hp_159 29 (by decide))))
            have e_203 : wr (sv (sv μ156 126 (μ140.1 111 39) r_157) 111 39 ((μ140.1 111 39) + 1)) = wr μ140 := ((wr_cg (sv_n _ (by decide))).trans ((wr_cg (sv_n _ (fun h9 => absurd h9.1 (by decide)))).trans (wr_cg (hp_159 15 (by decide)))))
            have e_204 : bd (sv (sv μ156 126 (μ140.1 111 39) r_157) 111 39 ((μ140.1 111 39) + 1)) = bd μ140 := ((bd_cg (sv_n _ (by decide)) (sv_n _ (by decide))).trans ((bd_cg (sv_n _ (fun h9 => absurd h9.1 (by decide))) (sv_n _ (fun h9 => absurd h9.1 (by decide)))).trans (bd_cg (hp_159 15 (by decide)) (hp_159 16 (by decide)))))
            have e_205 : nn (sv (sv μ156 126 (μ140.1 111 39) r_157) 111 39 ((μ140.1 111 39) + 1)) = nn μ140 := ((nn_cg (sv_n _ (by decide)) (sv_n _ (by decide))).trans ((nn_cg (sv_n _ (fun h9 => absurd h9.1 (by decide))) (sv_n _ (fun h9 => absurd h9.1 (by decide)))).trans (nn_cg (hp_159 15 (by decide)) (hp_159 18 (by decide)))))
            have e_207 : (sv (sv μ156 126 (μ140.1 111 39) r_157) 111 39 ((μ140.1 111 39) + 1)).1 111 29 = μ140.1 111 29 := ((sv_n _ (by decide)).trans ((sv_n _ (fun h9 => absurd h9.1 (by decide))).trans (hp_159 29 (by decide))))
            have hX_206 : ∀ _ : Unit, bd (sv (sv μ156 126 (μ140.1 111 39) r_157) 111 39 ((μ140.1 111 39) + 1)) = 0 → mPX μo (sv (sv μ156 126 (μ140.1 111 39) r_157) 111 39 ((μ140.1 111 39) + 1)) tt ((x1 + c9) + 1) 1 HH (lsk r_157 ++ (wls μL55 ff (μL55.1 111 39) ++ [])) := fun _ h0 => (hX_165 () (by have e9 : bd μ156 = bd μ140 := (bd_cg (hp_159 15 (by decide)) (hp_159 16 (by decide))); have e8 : bd (sv (sv μ156 126 (μ140.1 111 39) r_157) 111 39 ((μ140.1 111 39) + 1)) = bd μ140 := ((bd_cg (sv_n _ (by decide)) (sv_n _ (by decide))).trans ((bd_cg (sv_n _ (fun h9 => absurd h9.1 (by decide))) (sv_n _ (fun h9 => absurd h9.1 (by decide)))).trans (bd_cg (hp_159 15 (by decide)) (hp_159 16 (by decide))))); omega)).qm (q0m.fr (K := [111, 126]) (Fr.put (Fr.put Fr.rf (by decide)) (by decide)) (by decide) (by decide) (by decide) ((sv_n _ (by decide)).trans (sv_n _ (fun h9 => absurd h9.1 (by decide)))) (by omega))
            have hPM_208 : PM (sv (sv μ156 126 (μ140.1 111 39) r_157) 111 39 ((μ140.1 111 39) + 1)) := hp_143.cg ((((sv_n _ (by decide)).trans ((sv_n _ (fun h9 => absurd h9.1 (by decide))).trans ((hp_159 4 (by decide)).trans ((hp_142 4 (by decide)).trans ((hi_60 4 (by decide)).trans (hp_4 4 (by decide)))))))).trans (((hp_142 4 (by decide)).trans ((hi_60 4 (by decide)).trans (hp_4 4 (by decide))))).symm) ((sv_n _ (by decide)).trans ((sv_n _ (fun h9 => absurd h9.1 (by decide))).trans (hp_159 6 (by decide)))) ((((sv_n _ (by decide)).trans ((sv_n _ (fun h9 => absurd h9.1 (by decide))).trans ((hp_159 7 (by decide)).trans ((hp_142 7 (by decide)).trans ((hi_60 7 (by decide)).trans (hp_4 7 (by decide)))))))).trans (((hp_142 7 (by decide)).trans ((hi_60 7 (by decide)).trans (hp_4 7 (by decide))))).symm) ((sv_n _ (by decide)).trans ((sv_n _ (fun h9 => absurd h9.1 (by decide))).trans (hp_159 8 (by decide)))) ((sv_n _ (by decide)).trans ((sv_n _ (fun h9 => absurd h9.1 (by decide))).trans (hp_159 9 (by decide)))) ((sv_n _ (by decide)).trans ((sv_n _ (fun h9 => absurd h9.1 (by decide))).trans (hp_159 11 (by decide)))) ((sv_n _ (by decide)).trans ((sv_n _ (fun h9 => absurd h9.1 (by decide))).trans (hp_159 12 (by decide)))) ((((sv_n _ (by decide)).trans ((sv_n _ (fun h9 => absurd h9.1 (by decide))).trans ((hp_159 14 (by decide)).trans ((hp_142 14 (by decide)).trans ((hi_60 14 (by decide)).trans ((hp_4 14 (by decide)).trans htt.symm))))))).trans (((hp_142 14 (by decide)).trans ((hi_60 14 (by decide)).trans ((hp_4 14 (by decide)).trans htt.symm)))).symm) ((sv_n _ (by decide)).trans ((sv_n _ (fun h9 => absurd h9.1 (by decide))).trans (hp_159 15 (by decide)))) ((sv_n _ (by decide)).trans ((sv_n _ (fun h9 => absurd h9.1 (by decide))).trans (hp_159 29 (by decide)))) (fun j => ((sv_n _ (by omega)).trans ((sv_n _ (by omega)).trans (F_158.1 123 (by decide) j))))
            have e_209 : wr (sv (sv μ156 126 (μ140.1 111 39) r_157) 111 39 ((μ140.1 111 39) + 1)) = wr μ140 := ((wr_cg (sv_n _ (by decide))).trans ((wr_cg (sv_n _ (fun h9 => absurd h9.1 (by decide)))).trans (wr_cg (hp_159 15 (by decide)))))
            have e_210 : nn (sv (sv μ156 126 (μ140.1 111 39) r_157) 111 39 ((μ140.1 111 39) + 1)) = nn μ140 := ((nn_cg (sv_n _ (by decide)) (sv_n _ (by decide))).trans ((nn_cg (sv_n _ (fun h9 => absurd h9.1 (by decide))) (sv_n _ (fun h9 => absurd h9.1 (by decide)))).trans (nn_cg (hp_159 15 (by decide)) (hp_159 18 (by decide)))))
            have e_211 : (sv (sv μ156 126 (μ140.1 111 39) r_157) 111 39 ((μ140.1 111 39) + 1)).1 111 9 = μ140.1 111 9 := ((sv_n _ (by decide)).trans ((sv_n _ (fun h9 => absurd h9.1 (by decide))).trans (hp_159 9 (by decide))))
            have e_212 : wr (sv (sv μ156 126 (μ140.1 111 39) r_157) 111 39 ((μ140.1 111 39) + 1)) = wr μ140 := ((wr_cg (sv_n _ (by decide))).trans ((wr_cg (sv_n _ (fun h9 => absurd h9.1 (by decide)))).trans (wr_cg (hp_159 15 (by decide)))))
            have e_213 : wr (sv (sv μ156 126 (μ140.1 111 39) r_157) 111 39 ((μ140.1 111 39) + 1)) = wr μ140 := ((wr_cg (sv_n _ (by decide))).trans ((wr_cg (sv_n _ (fun h9 => absurd h9.1 (by decide)))).trans (wr_cg (hp_159 15 (by decide)))))
            have e_214 : bd (sv (sv μ156 126 (μ140.1 111 39) r_157) 111 39 ((μ140.1 111 39) + 1)) = bd μ140 := ((bd_cg (sv_n _ (by decide)) (sv_n _ (by decide))).trans ((bd_cg (sv_n _ (fun h9 => absurd h9.1 (by decide))) (sv_n _ (fun h9 => absurd h9.1 (by decide)))).trans (bd_cg (hp_159 15 (by decide)) (hp_159 16 (by decide)))))
            have e_215 : nn (sv (sv μ156 126 (μ140.1 111 39) r_157) 111 39 ((μ140.1 111 39) + 1)) = nn μ140 := ((nn_cg (sv_n _ (by decide)) (sv_n _ (by decide))).trans ((nn_cg (sv_n _ (fun h9 => absurd h9.1 (by decide))) (sv_n _ (fun h9 => absurd h9.1 (by decide)))).trans (nn_cg (hp_159 15 (by decide)) (hp_159 18 (by decide)))))
            refine xc_iV G (b := 111) (rest := []) (As := [.int (iv 44)]) (c_X12_takesSign ω l (sv (sv μ156 126 (μ140.1 111 39) r_157) 111 39 ((μ140.1 111 39) + 1)) 44 (by unfold ir; omega) hPM_208 (by omega)) (wm 9 106 rfl rfl) (wm 9 108 rfl rfl) (wm 0 139 rfl rfl) rfl rfl (by decide) rfl (wm 1 18 rfl rfl) (wm 9 109 rfl rfl) (by decide) hR ⟨nfr hF (by decide), nlo hLo (by decide)⟩ (n := 1) rfl rfl (Nat.le_of_ble_eq_true rfl) hl.1 dX12_arguments_90 (fun r_217 μ216 ρ d0 H locs hr_r_217 hp G => ?_)
            have hr_r_217 : -2147483648 ≤ r_217 ∧ r_217 ≤ 2147483647 := hr_r_217
            obtain ⟨F_218, hp_219, hp_220, hp_221, hp_222, hp_223, hp_224⟩ := hp
            have hpl_225 := hp_220.pl
            have hw_226 := wr_r (μ := μ216)
            refine lv_istore_n (lv' := [(3, .int (iv r_217)), (2, .int (iv (c9 + 1))), (4, .int (iv r_157)), (0, .ref (oP ω 111)), (1, .int (iv x1))]) hx hb dX12_arguments_93 rfl hl (by decide) rfl (fun ls hl => ?_)
            refine lv_goto (tgt := 19) hx hb dX12_arguments_94 (by decide) ?_
            have e_227 : μ216.1 111 22 = μ156.1 111 22 := ((hp_219 22 (by decide)).trans ((sv_n _ (by decide)).trans (sv_n _ (fun h9 => absurd h9.1 (by decide)))))
            have e_228 : μ216.1 111 22 = μ156.1 111 22 := ((hp_219 22 (by decide)).trans ((sv_n _ (by decide)).trans (sv_n _ (fun h9 => absurd h9.1 (by decide)))))
            have e_229 : μ216.1 111 29 = μ140.1 111 29 := ((hp_219 29 (by decide)).trans ((sv_n _ (by decide)).trans ((sv_n _ (fun h9 => absurd h9.1 (by decide))).trans (hp_159 29 (by decide)))))
            have e_230 : μ216.1 111 39 = (μ140.1 111 39) + 1 := ((hp_219 39 (by decide)).trans (sv_s _ _ _ _))
            have e_231 : μ216.1 111 39 = (μ140.1 111 39) + 1 := ((hp_219 39 (by decide)).trans (sv_s _ _ _ _))
            have e_232 : μ216.1 111 22 = μ156.1 111 22 := ((hp_219 22 (by decide)).trans ((sv_n _ (by decide)).trans (sv_n _ (fun h9 => absurd h9.1 (by decide)))))
            have e_233 : μ216.1 111 39 = (μ140.1 111 39) + 1 := ((hp_219 39 (by decide)).trans (sv_s _ _ _ _))
            have e_234 : μ216.1 111 22 = μ156.1 111 22 := ((hp_219 22 (by decide)).trans ((sv_n _ (by decide)).trans (sv_n _ (fun h9 => absurd h9.1 (by decide)))))
            have e_235 : μ216.1 111 39 = (μ140.1 111 39) + 1 := ((hp_219 39 (by decide)).trans (sv_s _ _ _ _))
            have e_236 : μ216.1 111 22 = μ156.1 111 22 := ((hp_219 22 (by decide)).trans ((sv_n _ (by decide)).trans (sv_n _ (fun h9 => absurd h9.1 (by decide)))))
            have e_237 : μ216.1 111 29 = μ140.1 111 29 := ((hp_219 29 (by decide)).trans ((sv_n _ (by decide)).trans ((sv_n _ (fun h9 => absurd h9.1 (by decide))).trans (hp_159 29 (by decide)))))
            have e_239 : μ216.1 111 29 = μ140.1 111 29 := ((hp_219 29 (by decide)).trans ((sv_n _ (by decide)).trans ((sv_n _ (fun h9 => absurd h9.1 (by decide))).trans (hp_159 29 (by decide)))))
            have hX_238 : ∀ _ : Unit, bd μ216 = 0 → mPX μo μ216 tt ((x1 + c9) + 1) 1 HH (lsk r_157 ++ (wls μL55 ff (μL55.1 111 39) ++ [])) := fun _ h0 => (hX_206 () (by have e9 : bd (sv (sv μ156 126 (μ140.1 111 39) r_157) 111 39 ((μ140.1 111 39) + 1)) = bd μ140 := ((bd_cg (sv_n _ (by decide)) (sv_n _ (by decide))).trans ((bd_cg (sv_n _ (fun h9 => absurd h9.1 (by decide))) (sv_n _ (fun h9 => absurd h9.1 (by decide)))).trans (bd_cg (hp_159 15 (by decide)) (hp_159 16 (by decide))))); have e8 : bd μ216 = bd μ216 := rfl; omega)).qm (q0m.fr (K := [111]) (Fr.tr Fr.rf F_218 (by decide)) (by decide) (by decide) (by decide) ((((hp_219 22 (by decide)).trans ((sv_n _ (by decide)).trans (sv_n _ (fun h9 => absurd h9.1 (by decide)))))).trans (((sv_n _ (by decide)).trans (sv_n _ (fun h9 => absurd h9.1 (by decide))))).symm) (by omega))
            exact ih _ _ _ _ _ _ _ (by omega) ⟨c9 + 1, r_217, (Fr.tr (Fr.put (Fr.put (Fr.tr (Fr.tr FL56 F_141 (by decide)) F_158 (by decide)) (by decide)) (by decide)) F_218 (by decide)), (by omega), (by omega), (fun j hj => ((hp_219 j (fun h9 => hj ((by decide : ∀ x ∈ ([6, 8, 9, 10, 11, 12, 13, 15] : List Int), x ∈ ([6, 8, 9, 10, 11, 12, 13, 15, 16, 17, 18, 22, 29, 39] : List Int)) j h9))).trans ((sv_n _ (fun h9 => hj (by rw [h9.2]; decide))).trans ((sv_n _ (fun h9 => absurd h9.1 (by decide))).trans ((hp_159 j (fun h9 => hj ((by decide : ∀ x ∈ ([22] : List Int), x ∈ ([6, 8, 9, 10, 11, 12, 13, 15, 16, 17, 18, 22, 29, 39] : List Int)) j h9))).trans ((hp_142 j (fun h9 => hj ((by decide : ∀ x ∈ ([6, 8, 9, 10, 11, 12, 13, 15, 16, 17, 18, 22, 29, 39] : List Int), x ∈ ([6, 8, 9, 10, 11, 12, 13, 15, 16, 17, 18, 22, 29, 39] : List Int)) j h9))).trans (hi_60 j (fun h9 => hj ((by decide : ∀ x ∈ ([6, 8, 9, 10, 11, 12, 13, 15, 16, 17, 18, 22, 29, 39] : List Int), x ∈ ([6, 8, 9, 10, 11, 12, 13, 15, 16, 17, 18, 22, 29, 39] : List Int)) j h9))))))))), (by omega), (by omega), (by omega), (by omega), hp_220, (by omega), (by omega), (by omega), (by omega), (by omega), (by omega), (fun j hj => ((F_218.1 126 (by decide) j).trans ((sv_n _ (fun h9 => absurd h9.1 (by decide))).trans ((sv_n _ (by omega)).trans ((F_158.1 126 (by decide) j).trans ((hp_150 j (by omega)).trans (hi_72 j (by omega)))))))), (fun j h1 h2 => by rcases Int.lt_or_le j (μL55.1 111 39) with h9 | h9; (have b9 := hi_73 j h1 h9; rw [show μ216.1 126 j = μL55.1 126 j from ((F_218.1 126 (by decide) j).trans ((sv_n _ (fun h9 => absurd h9.1 (by decide))).trans ((sv_n _ (by omega)).trans ((F_158.1 126 (by decide) j).trans (hp_150 j (by omega))))))]; exact ⟨b9.1, by omega⟩); (rw [show j = μ140.1 111 39 by omega, show μ216.1 126 (μ140.1 111 39) = r_157 from ((F_218.1 126 (by decide) (μ140.1 111 39)).trans ((sv_n _ (fun h9 => absurd h9.1 (by decide))).trans (sv_s _ _ _ _)))]; omega)), (fun _ h0 => (((hX_238 ()) h0).ee (by omega)).mem (fun i => wls_new (by omega) (fun j h1 h9 => ((F_218.1 126 (by decide) j).trans ((sv_n _ (fun h9 => absurd h9.1 (by decide))).trans ((sv_n _ (by omega)).trans ((F_158.1 126 (by decide) j).trans (hp_150 j (by omega))))))) (by omega) (by rw [show μL55.1 111 39 = μ140.1 111 39 by omega]; exact ((F_218.1 126 (by decide) (μ140.1 111 39)).trans ((sv_n _ (fun h9 => absurd h9.1 (by decide))).trans (sv_s _ _ _ _)))) (by omega))), rfl, lv_sub hl [0, 1, 3, 4] rfl⟩ G
        · refine lv_aload_n hx hb dX12_arguments_36 rfl (lv_at hl 2 rfl) ?_
          refine lv_aload_n hx hb dX12_arguments_37 rfl (lv_at hl 2 rfl) ?_
          refine xa_geti G fd_X12 (a := 111) (x := μL55.1 111 9) 9 rfl (by decide) rfl (wm 7 158 rfl rfl) ⟨rfl, rfl, rfl⟩ dX12_arguments_38 rfl rfl ?_
          have hr_240 : -2147483648 ≤ μL55.1 111 9 ∧ μL55.1 111 9 ≤ 2147483647 := by have h9 := G.hr (a := 111) (k := 9) rfl; exact h9
          refine xc_vV G (b := 111) (rest := []) (As := [.int (iv (μL55.1 111 9))]) (c_X12_wrong2 ω l μL55 (μL55.1 111 9) (by unfold ir; omega) (by omega)) (wm 9 78 rfl rfl) (wm 9 80 rfl rfl) (wm 0 132 rfl rfl) rfl rfl (by decide) rfl (wm 1 18 rfl rfl) (wm 9 81 rfl rfl) (by decide) hR ⟨nfr hF (by decide), nlo hLo (by decide)⟩ (n := 1) rfl rfl (Nat.le_of_ble_eq_true rfl) hl.1 dX12_arguments_41 (fun μ241 ρ d0 H locs hp G => ?_)
          obtain ⟨F_242, hp_243, hp_244⟩ := hp
          have hw_245 := wr_r (μ := μ241)
          have e_246 : wr μ241 = wr μL55 := (wr_cg (hp_243 15 (by decide)))
          have e_247 : nn μ241 = nn μL55 := (nn_cg (hp_243 15 (by decide)) (hp_243 18 (by decide)))
          refine lv_aload_n hx hb dX12_arguments_44 rfl (lv_at hl 2 rfl) ?_
          have e_248 : μ241.1 111 29 = μL55.1 111 29 := (hp_243 29 (by decide))
          have e_249 : wr μ241 = wr μL55 := (wr_cg (hp_243 15 (by decide)))
          have e_250 : nn μ241 = nn μL55 := (nn_cg (hp_243 15 (by decide)) (hp_243 18 (by decide)))
          have e_252 : μ241.1 111 29 = μL55.1 111 29 := (hp_243 29 (by decide))
          have hX_251 : ∀ _ : Unit, bd μ241 = 0 → mPX μo μ241 tt (x1 + c9) 1 HH (wls μL55 ff (μL55.1 111 39) ++ []) := fun _ h0 => (hX_78 () (by have e9 : bd μL55 = bd μL55 := rfl; have e8 : bd μ241 = bd μ241 := rfl; omega)).qm (q0m.fr (K := [111]) (Fr.tr Fr.rf F_242 (by decide)) (by decide) (by decide) (by decide) (hp_243 22 (by decide)) (by omega))
          have e_253 : μ241.1 111 14 = tt := ((hp_243 14 (by decide)).trans ((hi_60 14 (by decide)).trans ((hp_4 14 (by decide)).trans htt.symm)))
          have hPM_254 : PM μ241 := hi_65.cg ((((hp_243 4 (by decide)).trans ((hi_60 4 (by decide)).trans (hp_4 4 (by decide))))).trans (((hi_60 4 (by decide)).trans (hp_4 4 (by decide)))).symm) (hp_243 6 (by decide)) ((((hp_243 7 (by decide)).trans ((hi_60 7 (by decide)).trans (hp_4 7 (by decide))))).trans (((hi_60 7 (by decide)).trans (hp_4 7 (by decide)))).symm) (hp_243 8 (by decide)) (hp_243 9 (by decide)) (hp_243 11 (by decide)) (hp_243 12 (by decide)) ((((hp_243 14 (by decide)).trans ((hi_60 14 (by decide)).trans ((hp_4 14 (by decide)).trans htt.symm)))).trans (((hi_60 14 (by decide)).trans ((hp_4 14 (by decide)).trans htt.symm))).symm) (hp_243 15 (by decide)) (hp_243 29 (by decide)) (fun j => (F_242.1 123 (by decide) j))
          have e_255 : wr μ241 = wr μL55 := (wr_cg (hp_243 15 (by decide)))
          have e_256 : nn μ241 = nn μL55 := (nn_cg (hp_243 15 (by decide)) (hp_243 18 (by decide)))
          have e_257 : wr μ241 = wr μL55 := (wr_cg (hp_243 15 (by decide)))
          have e_258 : nn μ241 = nn μL55 := (nn_cg (hp_243 15 (by decide)) (hp_243 18 (by decide)))
          have e_259 : μ241.1 111 22 = μL55.1 111 22 := (hp_243 22 (by decide))
          have e_260 : μ241.1 111 22 = μL55.1 111 22 := (hp_243 22 (by decide))
          have e_261 : μ241.1 111 9 = μL55.1 111 9 := (hp_243 9 (by decide))
          have e_262 : wr μ241 = wr μL55 := (wr_cg (hp_243 15 (by decide)))
          have e_263 : μ241.1 111 39 = μL55.1 111 39 := (hp_243 39 (by decide))
          have e_264 : μ241.1 111 39 = μL55.1 111 39 := (hp_243 39 (by decide))
          have e_265 : μ241.1 111 22 = μL55.1 111 22 := (hp_243 22 (by decide))
          have e_266 : μ241.1 111 31 = μ.1 111 31 := ((hp_243 31 (by decide)).trans ((hi_60 31 (by decide)).trans (hp_4 31 (by decide))))
          have e_267 : μ241.1 111 31 = μ.1 111 31 := ((hp_243 31 (by decide)).trans ((hi_60 31 (by decide)).trans (hp_4 31 (by decide))))
          have e_268 : nn μ241 = nn μL55 := (nn_cg (hp_243 15 (by decide)) (hp_243 18 (by decide)))
          have e_269 : μ241.1 111 22 = μL55.1 111 22 := (hp_243 22 (by decide))
          have e_270 : μ241.1 111 22 = μL55.1 111 22 := (hp_243 22 (by decide))
          have e_271 : μ241.1 111 9 = μL55.1 111 9 := (hp_243 9 (by decide))
          have e_272 : wr μ241 = wr μL55 := (wr_cg (hp_243 15 (by decide)))
          have e_273 : μ241.1 111 9 = μL55.1 111 9 := (hp_243 9 (by decide))
          have e_274 : μ241.1 111 29 = μL55.1 111 29 := (hp_243 29 (by decide))
          have e_275 : wr μ241 = wr μL55 := (wr_cg (hp_243 15 (by decide)))
          have e_276 : nn μ241 = nn μL55 := (nn_cg (hp_243 15 (by decide)) (hp_243 18 (by decide)))
          have e_277 : μ241.1 111 39 = μL55.1 111 39 := (hp_243 39 (by decide))
          refine xc_vV G (b := 111) (rest := []) (As := []) (((fun (_ : Om) (_ : Launch) => hE)) ω l μ241 tt (by omega) hPM_254 (by omega) (by omega) (by omega) (by omega) (by omega) (by omega) (fun _ h0 => ((hX_251 ()) h0).h1.1)) (wm 9 139 rfl rfl) (wm 9 141 rfl rfl) (wm 0 147 rfl rfl) rfl rfl (by decide) rfl (wm 1 18 rfl rfl) (wm 9 142 rfl rfl) (by decide) hR ⟨sfr (F := F) (a := 0) (by decide), slo (L := Lo) (m := 1) (a := 0) (by decide)⟩ (n := 0) rfl rfl (Nat.le_of_ble_eq_true rfl) hl.1 dX12_arguments_45 (fun μ278 ρ d0 H locs hp G => ?_)
          obtain ⟨F_279, hp_280, hp_281, hp_282, hp_283, hp_284, hp_285, hp_286, hp_287, hp_288, hp_289⟩ := hp
          have hpl_290 := hp_281.pl
          have hw_291 := wr_r (μ := μ278)
          have hX_292 : ∀ _ : Unit, bd μ278 = 0 → mPX μo μ278 tt ((x1 + c9) + 1) 1 HH (wls μL55 ff (μL55.1 111 39) ++ []) := fun _ h0 => (((hX_251 ()) (by have e9 : bd μ241 = bd μ241 := rfl; have e8 : bd μ278 = bd μ278 := rfl; omega)).app (hp_289 () h0) (by omega)).ee (by omega)
          refine lv_aload_n hx hb dX12_arguments_48 rfl (lv_at hl 2 rfl) ?_
          refine lv_iload_n hx hb dX12_arguments_49 rfl (lv_at hl 3 rfl) ?_
          refine lv_iload_n hx hb dX12_arguments_50 rfl (lv_at hl 1 rfl) ?_
          refine xb_iadd hx hb dX12_arguments_51 ?_
          have e_293 : μ278.1 111 14 = tt := ((hp_280 14 (by decide)).trans ((hp_243 14 (by decide)).trans ((hi_60 14 (by decide)).trans ((hp_4 14 (by decide)).trans htt.symm))))
          refine xc_iV G (b := 111) (rest := []) (As := [.int (iv (x1 + c9))]) (c_X12_skips ω l μ278 (x1 + c9) tt (by unfold ir; omega) (by omega) (by omega)) (wm 9 159 rfl rfl) (wm 9 161 rfl rfl) (wm 0 152 rfl rfl) rfl rfl (by decide) rfl (wm 1 18 rfl rfl) (wm 9 162 rfl rfl) (by decide) hR ⟨nfr hF (by decide), nlo hLo (by decide)⟩ (n := 1) rfl rfl (Nat.le_of_ble_eq_true rfl) hl.1 dX12_arguments_52 (fun r_295 μ294 ρ d0 H locs hr_r_295 hp G => ?_)
          have hr_r_295 : -2147483648 ≤ r_295 ∧ r_295 ≤ 2147483647 := hr_r_295
          obtain ⟨F_296, hp_297, hp_298, hp_299⟩ := hp
          have e_300 : wr μ294 = wr μ278 := (wr_cg (hp_297 15 (by decide)))
          have e_301 : bd μ294 = bd μ278 := (bd_cg (hp_297 15 (by decide)) (hp_297 16 (by decide)))
          have e_302 : nn μ294 = nn μ278 := (nn_cg (hp_297 15 (by decide)) (hp_297 18 (by decide)))
          replace hp_298 := fun _ : Unit => hp_298
          have e_304 : μ294.1 111 29 = μ278.1 111 29 := (hp_297 29 (by decide))
          have hX_303 : ∀ _ : Unit, bd μ294 = 0 → mPX μo μ294 tt ((x1 + c9) + 1) 1 HH (lsk r_295 ++ (wls μL55 ff (μL55.1 111 39) ++ [])) := fun _ h0 => mPX.sk ((hX_292 ()) (by have e9 : bd μ278 = bd μ278 := rfl; have e8 : bd μ294 = bd μ278 := (bd_cg (hp_297 15 (by decide)) (hp_297 16 (by decide))); omega)) (hp_298 ()) (by omega) (by omega) (by decide)
          have hqr_r_295 : (r_295 = -1) ∨ (0 ≤ r_295 ∧ r_295 < μ294.1 111 22) := by rcases hp_298 () with ⟨q1, q2, q3, q4⟩ | ⟨q1, q2, q3⟩; (right; have := q2.2.1; omega); (left; exact q2)
          have hqs_r_295 : (r_295 = -1) ∨ (μ294.1 111 22 = μ278.1 111 22 + 1 ∧ r_295 = μ278.1 111 22) := by rcases hp_298 () with ⟨q1, q2, q3, q4⟩ | ⟨q1, q2, q3⟩; (right; exact ⟨q2.2.1, q3⟩); (left; exact q2)
          refine lv_istore (lv' := [(4, .int (iv r_295)), (3, .int (iv m9)), (2, .int (iv c9)), (0, .ref (oP ω 111)), (1, .int (iv x1))]) hx hb dX12_arguments_55 hl (by decide) rfl (fun ls hl => ?_)
          refine lv_iload hx hb dX12_arguments_57 (lv_at hl 0 rfl) ?_
          refine lv_iconst (v := iv (-1)) hx hb dX12_arguments_59 rfl ?_
          refine xb_icmp_eq (tgt := 84) hx hb (by unfold ir; omega) (by unfold ir; omega) dX12_arguments_60 (by decide) (fun c_60 => ?_) (fun c_60 => ?_)
          · refine lv_iinc (v := iv (c9 + 1)) (lv' := [(2, .int (iv (c9 + 1))), (4, .int (iv r_295)), (3, .int (iv m9)), (0, .ref (oP ω 111)), (1, .int (iv x1))]) hx hb dX12_arguments_84 hl (k := 2) rfl (by rw [show Int32.ofInt 1 = iv 1 from rfl, iv_add]) (by decide) rfl (fun ls hl => ?_)
            refine lv_aload_n hx hb dX12_arguments_87 rfl (lv_at hl 3 rfl) ?_
            refine lv_bipush (v := iv 44) hx hb dX12_arguments_88 rfl ?_
            have hPM_305 : PM μ294 := hp_281.cg ((((hp_297 4 (by decide)).trans ((hp_280 4 (by decide)).trans ((hp_243 4 (by decide)).trans ((hi_60 4 (by decide)).trans (hp_4 4 (by decide))))))).trans (((hp_280 4 (by decide)).trans ((hp_243 4 (by decide)).trans ((hi_60 4 (by decide)).trans (hp_4 4 (by decide)))))).symm) (hp_297 6 (by decide)) ((((hp_297 7 (by decide)).trans ((hp_280 7 (by decide)).trans ((hp_243 7 (by decide)).trans ((hi_60 7 (by decide)).trans (hp_4 7 (by decide))))))).trans (((hp_280 7 (by decide)).trans ((hp_243 7 (by decide)).trans ((hi_60 7 (by decide)).trans (hp_4 7 (by decide)))))).symm) (hp_297 8 (by decide)) (hp_297 9 (by decide)) (hp_297 11 (by decide)) (hp_297 12 (by decide)) ((((hp_297 14 (by decide)).trans ((hp_280 14 (by decide)).trans ((hp_243 14 (by decide)).trans ((hi_60 14 (by decide)).trans ((hp_4 14 (by decide)).trans htt.symm)))))).trans (((hp_280 14 (by decide)).trans ((hp_243 14 (by decide)).trans ((hi_60 14 (by decide)).trans ((hp_4 14 (by decide)).trans htt.symm))))).symm) (hp_297 15 (by decide)) (hp_297 29 (by decide)) (fun j => (F_296.1 123 (by decide) j))
            have e_306 : wr μ294 = wr μ278 := (wr_cg (hp_297 15 (by decide)))
            have e_307 : nn μ294 = nn μ278 := (nn_cg (hp_297 15 (by decide)) (hp_297 18 (by decide)))
            have e_308 : μ294.1 111 9 = μ278.1 111 9 := (hp_297 9 (by decide))
            have e_309 : wr μ294 = wr μ278 := (wr_cg (hp_297 15 (by decide)))
            have e_310 : wr μ294 = wr μ278 := (wr_cg (hp_297 15 (by decide)))
            have e_311 : bd μ294 = bd μ278 := (bd_cg (hp_297 15 (by decide)) (hp_297 16 (by decide)))
            have e_312 : nn μ294 = nn μ278 := (nn_cg (hp_297 15 (by decide)) (hp_297 18 (by decide)))
            refine xc_iV G (b := 111) (rest := []) (As := [.int (iv 44)]) (c_X12_takesSign ω l μ294 44 (by unfold ir; omega) hPM_305 (by omega)) (wm 9 106 rfl rfl) (wm 9 108 rfl rfl) (wm 0 139 rfl rfl) rfl rfl (by decide) rfl (wm 1 18 rfl rfl) (wm 9 109 rfl rfl) (by decide) hR ⟨nfr hF (by decide), nlo hLo (by decide)⟩ (n := 1) rfl rfl (Nat.le_of_ble_eq_true rfl) hl.1 dX12_arguments_90 (fun r_314 μ313 ρ d0 H locs hr_r_314 hp G => ?_)
            have hr_r_314 : -2147483648 ≤ r_314 ∧ r_314 ≤ 2147483647 := hr_r_314
            obtain ⟨F_315, hp_316, hp_317, hp_318, hp_319, hp_320, hp_321⟩ := hp
            have hpl_322 := hp_317.pl
            have hw_323 := wr_r (μ := μ294)
            have hw_324 := wr_r (μ := μ313)
            refine lv_istore_n (lv' := [(3, .int (iv r_314)), (2, .int (iv (c9 + 1))), (4, .int (iv r_295)), (0, .ref (oP ω 111)), (1, .int (iv x1))]) hx hb dX12_arguments_93 rfl hl (by decide) rfl (fun ls hl => ?_)
            refine lv_goto (tgt := 19) hx hb dX12_arguments_94 (by decide) ?_
            have e_325 : μ313.1 111 22 = μ294.1 111 22 := (hp_316 22 (by decide))
            have e_326 : μ313.1 111 22 = μ294.1 111 22 := (hp_316 22 (by decide))
            have e_327 : μ313.1 111 29 = μ278.1 111 29 := ((hp_316 29 (by decide)).trans (hp_297 29 (by decide)))
            have e_328 : μ313.1 111 39 = μ278.1 111 39 := ((hp_316 39 (by decide)).trans (hp_297 39 (by decide)))
            have e_329 : μ313.1 111 39 = μ278.1 111 39 := ((hp_316 39 (by decide)).trans (hp_297 39 (by decide)))
            have e_330 : μ313.1 111 22 = μ294.1 111 22 := (hp_316 22 (by decide))
            have e_331 : μ313.1 111 39 = μ278.1 111 39 := ((hp_316 39 (by decide)).trans (hp_297 39 (by decide)))
            have e_332 : μ313.1 111 22 = μ294.1 111 22 := (hp_316 22 (by decide))
            have e_333 : μ313.1 111 39 = μ278.1 111 39 := ((hp_316 39 (by decide)).trans (hp_297 39 (by decide)))
            have e_334 : μ313.1 111 22 = μ294.1 111 22 := (hp_316 22 (by decide))
            have e_335 : μ313.1 111 29 = μ278.1 111 29 := ((hp_316 29 (by decide)).trans (hp_297 29 (by decide)))
            have e_337 : μ313.1 111 29 = μ278.1 111 29 := ((hp_316 29 (by decide)).trans (hp_297 29 (by decide)))
            have hX_336 : ∀ _ : Unit, bd μ313 = 0 → mPX μo μ313 tt ((x1 + c9) + 1) 1 HH (lsk r_295 ++ (wls μL55 ff (μL55.1 111 39) ++ [])) := fun _ h0 => (hX_303 () (by have e9 : bd μ294 = bd μ278 := (bd_cg (hp_297 15 (by decide)) (hp_297 16 (by decide))); have e8 : bd μ313 = bd μ313 := rfl; omega)).qm (q0m.fr (K := [111]) (Fr.tr Fr.rf F_315 (by decide)) (by decide) (by decide) (by decide) (hp_316 22 (by decide)) (by omega))
            exact ih _ _ _ _ _ _ _ (by omega) ⟨c9 + 1, r_314, (Fr.tr (Fr.tr (Fr.tr (Fr.tr FL56 F_242 (by decide)) F_279 (by decide)) F_296 (by decide)) F_315 (by decide)), (by omega), (by omega), (fun j hj => ((hp_316 j (fun h9 => hj ((by decide : ∀ x ∈ ([6, 8, 9, 10, 11, 12, 13, 15] : List Int), x ∈ ([6, 8, 9, 10, 11, 12, 13, 15, 16, 17, 18, 22, 29, 39] : List Int)) j h9))).trans ((hp_297 j (fun h9 => hj ((by decide : ∀ x ∈ ([22] : List Int), x ∈ ([6, 8, 9, 10, 11, 12, 13, 15, 16, 17, 18, 22, 29, 39] : List Int)) j h9))).trans ((hp_280 j (fun h9 => hj ((by decide : ∀ x ∈ ([6, 8, 9, 10, 11, 12, 13, 15, 16, 17, 18, 22, 29, 39] : List Int), x ∈ ([6, 8, 9, 10, 11, 12, 13, 15, 16, 17, 18, 22, 29, 39] : List Int)) j h9))).trans ((hp_243 j (fun h9 => hj ((by decide : ∀ x ∈ ([16] : List Int), x ∈ ([6, 8, 9, 10, 11, 12, 13, 15, 16, 17, 18, 22, 29, 39] : List Int)) j h9))).trans (hi_60 j (fun h9 => hj ((by decide : ∀ x ∈ ([6, 8, 9, 10, 11, 12, 13, 15, 16, 17, 18, 22, 29, 39] : List Int), x ∈ ([6, 8, 9, 10, 11, 12, 13, 15, 16, 17, 18, 22, 29, 39] : List Int)) j h9)))))))), (by omega), (by omega), (by omega), (by omega), hp_317, (by omega), (by omega), (by omega), (by omega), (by omega), (by omega), (fun j hj => ((F_315.1 126 (by decide) j).trans ((F_296.1 126 (by decide) j).trans ((hp_288 j (by omega)).trans ((F_242.1 126 (by decide) j).trans (hi_72 j (by omega))))))), (fun j h1 h2 => by rcases Int.lt_or_le j (μL55.1 111 39) with h9 | h9; (have b9 := hi_73 j h1 h9; rw [show μ313.1 126 j = μL55.1 126 j from ((F_315.1 126 (by decide) j).trans ((F_296.1 126 (by decide) j).trans ((hp_288 j (by omega)).trans (F_242.1 126 (by decide) j))))]; exact ⟨b9.1, by omega⟩); (omega)), (fun _ h0 => (((hX_336 ()) h0).ee (by omega)).mem (fun i => wls_old (fun j h1 h9 => ((F_315.1 126 (by decide) j).trans ((F_296.1 126 (by decide) j).trans ((hp_288 j (by omega)).trans (F_242.1 126 (by decide) j))))) (by omega) (by omega))), rfl, lv_sub hl [0, 1, 3, 4] rfl⟩ G
          · refine lv_aload_n hx hb dX12_arguments_63 rfl (lv_at hl 3 rfl) ?_
            refine xa_getr G fd_X12 (a := 111) (x := 126) 38 rfl (by decide) rfl (wm 7 187 rfl rfl) ⟨rfl, rfl, rfl⟩ dX12_arguments_64 rfl (G.sk 124 rfl) (by decide) rfl ?_
            refine lv_aload_n hx hb dX12_arguments_67 rfl (lv_at hl 3 rfl) ?_
            refine xa_geti G fd_X12 (a := 111) (x := μ278.1 111 39) 39 rfl (by decide) rfl (wm 7 188 rfl rfl) ⟨rfl, rfl, rfl⟩ dX12_arguments_68 rfl (hp_297 39 (by decide)) ?_
            have hr_338 : -2147483648 ≤ μ278.1 111 39 ∧ μ278.1 111 39 ≤ 2147483647 := by have h9 := G.hr (a := 111) (k := 39) rfl; rw [show μ294.1 111 39 = μ278.1 111 39 from (hp_297 39 (by decide))] at h9; exact h9
            refine lv_iload hx hb dX12_arguments_71 (lv_at hl 0 rfl) ?_
            have e_339 : μ294.1 111 39 = μ278.1 111 39 := (hp_297 39 (by decide))
            refine xa_iast G (a := 126) (i := μ278.1 111 39) (x := r_295) rfl (by have h9 := G.lc (a := 126) (n := 12000) 64 rfl; omega) (by unfold ir; omega) dX12_arguments_73 rfl (fun H locs G => ?_)
            refine lv_aload_n hx hb dX12_arguments_74 rfl (lv_at hl 3 rfl) ?_
            refine lv_dup hx hb dX12_arguments_75 rfl ?_
            refine xa_geti G fd_X12 (a := 111) (x := μ278.1 111 39) 39 rfl (by decide) rfl (wm 7 188 rfl rfl) ⟨rfl, rfl, rfl⟩ dX12_arguments_76 rfl ((sv_n _ (fun h9 => absurd h9.1 (by decide))).trans (hp_297 39 (by decide))) ?_
            refine lv_iconst (v := iv 1) hx hb dX12_arguments_79 rfl ?_
            refine xb_iadd hx hb dX12_arguments_80 ?_
            refine xa_puti G fd_X12 (a := 111) (x := (μ278.1 111 39) + 1) 39 (kz := 39) rfl rfl (by decide) rfl (by unfold ir; omega) (wm 7 188 rfl rfl) ⟨rfl, rfl, rfl, rfl⟩ rfl dX12_arguments_81 rfl (fun H locs G => ?_)
            refine lv_iinc (v := iv (c9 + 1)) (lv' := [(2, .int (iv (c9 + 1))), (4, .int (iv r_295)), (3, .int (iv m9)), (0, .ref (oP ω 111)), (1, .int (iv x1))]) hx hb dX12_arguments_84 hl (k := 2) rfl (by rw [show Int32.ofInt 1 = iv 1 from rfl, iv_add]) (by decide) rfl (fun ls hl => ?_)
            refine lv_aload_n hx hb dX12_arguments_87 rfl (lv_at hl 3 rfl) ?_
            refine lv_bipush (v := iv 44) hx hb dX12_arguments_88 rfl ?_
            have e_340 : (sv (sv μ294 126 (μ278.1 111 39) r_295) 111 39 ((μ278.1 111 39) + 1)).1 111 29 = μ278.1 111 29 := ((sv_n _ (by decide)).trans ((sv_n _ (fun h9 => absurd h9.1 (by decide))).trans (hp_297 29 (by decide))))
            have e_341 : wr (sv (sv μ294 126 (μ278.1 111 39) r_295) 111 39 ((μ278.1 111 39) + 1)) = wr μ278 := ((wr_cg (sv_n _ (by decide))).trans ((wr_cg (sv_n _ (fun h9 => absurd h9.1 (by decide)))).trans (wr_cg (hp_297 15 (by decide)))))
            have e_342 : bd (sv (sv μ294 126 (μ278.1 111 39) r_295) 111 39 ((μ278.1 111 39) + 1)) = bd μ278 := ((bd_cg (sv_n _ (by decide)) (sv_n _ (by decide))).trans ((bd_cg (sv_n _ (fun h9 => absurd h9.1 (by decide))) (sv_n _ (fun h9 => absurd h9.1 (by decide)))).trans (bd_cg (hp_297 15 (by decide)) (hp_297 16 (by decide)))))
            have e_343 : nn (sv (sv μ294 126 (μ278.1 111 39) r_295) 111 39 ((μ278.1 111 39) + 1)) = nn μ278 := ((nn_cg (sv_n _ (by decide)) (sv_n _ (by decide))).trans ((nn_cg (sv_n _ (fun h9 => absurd h9.1 (by decide))) (sv_n _ (fun h9 => absurd h9.1 (by decide)))).trans (nn_cg (hp_297 15 (by decide)) (hp_297 18 (by decide)))))
            have e_345 : (sv (sv μ294 126 (μ278.1 111 39) r_295) 111 39 ((μ278.1 111 39) + 1)).1 111 29 = μ278.1 111 29 := ((sv_n _ (by decide)).trans ((sv_n _ (fun h9 => absurd h9.1 (by decide))).trans (hp_297 29 (by decide))))
            have hX_344 : ∀ _ : Unit, bd (sv (sv μ294 126 (μ278.1 111 39) r_295) 111 39 ((μ278.1 111 39) + 1)) = 0 → mPX μo (sv (sv μ294 126 (μ278.1 111 39) r_295) 111 39 ((μ278.1 111 39) + 1)) tt ((x1 + c9) + 1) 1 HH (lsk r_295 ++ (wls μL55 ff (μL55.1 111 39) ++ [])) := fun _ h0 => (hX_303 () (by have e9 : bd μ294 = bd μ278 := (bd_cg (hp_297 15 (by decide)) (hp_297 16 (by decide))); have e8 : bd (sv (sv μ294 126 (μ278.1 111 39) r_295) 111 39 ((μ278.1 111 39) + 1)) = bd μ278 := ((bd_cg (sv_n _ (by decide)) (sv_n _ (by decide))).trans ((bd_cg (sv_n _ (fun h9 => absurd h9.1 (by decide))) (sv_n _ (fun h9 => absurd h9.1 (by decide)))).trans (bd_cg (hp_297 15 (by decide)) (hp_297 16 (by decide))))); omega)).qm (q0m.fr (K := [111, 126]) (Fr.put (Fr.put Fr.rf (by decide)) (by decide)) (by decide) (by decide) (by decide) ((sv_n _ (by decide)).trans (sv_n _ (fun h9 => absurd h9.1 (by decide)))) (by omega))
            have hPM_346 : PM (sv (sv μ294 126 (μ278.1 111 39) r_295) 111 39 ((μ278.1 111 39) + 1)) := hp_281.cg ((((sv_n _ (by decide)).trans ((sv_n _ (fun h9 => absurd h9.1 (by decide))).trans ((hp_297 4 (by decide)).trans ((hp_280 4 (by decide)).trans ((hp_243 4 (by decide)).trans ((hi_60 4 (by decide)).trans (hp_4 4 (by decide))))))))).trans (((hp_280 4 (by decide)).trans ((hp_243 4 (by decide)).trans ((hi_60 4 (by decide)).trans (hp_4 4 (by decide)))))).symm) ((sv_n _ (by decide)).trans ((sv_n _ (fun h9 => absurd h9.1 (by decide))).trans (hp_297 6 (by decide)))) ((((sv_n _ (by decide)).trans ((sv_n _ (fun h9 => absurd h9.1 (by decide))).trans ((hp_297 7 (by decide)).trans ((hp_280 7 (by decide)).trans ((hp_243 7 (by decide)).trans ((hi_60 7 (by decide)).trans (hp_4 7 (by decide))))))))).trans (((hp_280 7 (by decide)).trans ((hp_243 7 (by decide)).trans ((hi_60 7 (by decide)).trans (hp_4 7 (by decide)))))).symm) ((sv_n _ (by decide)).trans ((sv_n _ (fun h9 => absurd h9.1 (by decide))).trans (hp_297 8 (by decide)))) ((sv_n _ (by decide)).trans ((sv_n _ (fun h9 => absurd h9.1 (by decide))).trans (hp_297 9 (by decide)))) ((sv_n _ (by decide)).trans ((sv_n _ (fun h9 => absurd h9.1 (by decide))).trans (hp_297 11 (by decide)))) ((sv_n _ (by decide)).trans ((sv_n _ (fun h9 => absurd h9.1 (by decide))).trans (hp_297 12 (by decide)))) ((((sv_n _ (by decide)).trans ((sv_n _ (fun h9 => absurd h9.1 (by decide))).trans ((hp_297 14 (by decide)).trans ((hp_280 14 (by decide)).trans ((hp_243 14 (by decide)).trans ((hi_60 14 (by decide)).trans ((hp_4 14 (by decide)).trans htt.symm)))))))).trans (((hp_280 14 (by decide)).trans ((hp_243 14 (by decide)).trans ((hi_60 14 (by decide)).trans ((hp_4 14 (by decide)).trans htt.symm))))).symm) ((sv_n _ (by decide)).trans ((sv_n _ (fun h9 => absurd h9.1 (by decide))).trans (hp_297 15 (by decide)))) ((sv_n _ (by decide)).trans ((sv_n _ (fun h9 => absurd h9.1 (by decide))).trans (hp_297 29 (by decide)))) (fun j => ((sv_n _ (by omega)).trans ((sv_n _ (by omega)).trans (F_296.1 123 (by decide) j))))
            have e_347 : wr (sv (sv μ294 126 (μ278.1 111 39) r_295) 111 39 ((μ278.1 111 39) + 1)) = wr μ278 := ((wr_cg (sv_n _ (by decide))).trans ((wr_cg (sv_n _ (fun h9 => absurd h9.1 (by decide)))).trans (wr_cg (hp_297 15 (by decide)))))
            have e_348 : nn (sv (sv μ294 126 (μ278.1 111 39) r_295) 111 39 ((μ278.1 111 39) + 1)) = nn μ278 := ((nn_cg (sv_n _ (by decide)) (sv_n _ (by decide))).trans ((nn_cg (sv_n _ (fun h9 => absurd h9.1 (by decide))) (sv_n _ (fun h9 => absurd h9.1 (by decide)))).trans (nn_cg (hp_297 15 (by decide)) (hp_297 18 (by decide)))))
            have e_349 : (sv (sv μ294 126 (μ278.1 111 39) r_295) 111 39 ((μ278.1 111 39) + 1)).1 111 9 = μ278.1 111 9 := ((sv_n _ (by decide)).trans ((sv_n _ (fun h9 => absurd h9.1 (by decide))).trans (hp_297 9 (by decide))))
            have e_350 : wr (sv (sv μ294 126 (μ278.1 111 39) r_295) 111 39 ((μ278.1 111 39) + 1)) = wr μ278 := ((wr_cg (sv_n _ (by decide))).trans ((wr_cg (sv_n _ (fun h9 => absurd h9.1 (by decide)))).trans (wr_cg (hp_297 15 (by decide)))))
            have e_351 : wr (sv (sv μ294 126 (μ278.1 111 39) r_295) 111 39 ((μ278.1 111 39) + 1)) = wr μ278 := ((wr_cg (sv_n _ (by decide))).trans ((wr_cg (sv_n _ (fun h9 => absurd h9.1 (by decide)))).trans (wr_cg (hp_297 15 (by decide)))))
            have e_352 : bd (sv (sv μ294 126 (μ278.1 111 39) r_295) 111 39 ((μ278.1 111 39) + 1)) = bd μ278 := ((bd_cg (sv_n _ (by decide)) (sv_n _ (by decide))).trans ((bd_cg (sv_n _ (fun h9 => absurd h9.1 (by decide))) (sv_n _ (fun h9 => absurd h9.1 (by decide)))).trans (bd_cg (hp_297 15 (by decide)) (hp_297 16 (by decide)))))
            have e_353 : nn (sv (sv μ294 126 (μ278.1 111 39) r_295) 111 39 ((μ278.1 111 39) + 1)) = nn μ278 := ((nn_cg (sv_n _ (by decide)) (sv_n _ (by decide))).trans ((nn_cg (sv_n _ (fun h9 => absurd h9.1 (by decide))) (sv_n _ (fun h9 => absurd h9.1 (by decide)))).trans (nn_cg (hp_297 15 (by decide)) (hp_297 18 (by decide)))))
            refine xc_iV G (b := 111) (rest := []) (As := [.int (iv 44)]) (c_X12_takesSign ω l (sv (sv μ294 126 (μ278.1 111 39) r_295) 111 39 ((μ278.1 111 39) + 1)) 44 (by unfold ir; omega) hPM_346 (by omega)) (wm 9 106 rfl rfl) (wm 9 108 rfl rfl) (wm 0 139 rfl rfl) rfl rfl (by decide) rfl (wm 1 18 rfl rfl) (wm 9 109 rfl rfl) (by decide) hR ⟨nfr hF (by decide), nlo hLo (by decide)⟩ (n := 1) rfl rfl (Nat.le_of_ble_eq_true rfl) hl.1 dX12_arguments_90 (fun r_355 μ354 ρ d0 H locs hr_r_355 hp G => ?_)
            have hr_r_355 : -2147483648 ≤ r_355 ∧ r_355 ≤ 2147483647 := hr_r_355
            obtain ⟨F_356, hp_357, hp_358, hp_359, hp_360, hp_361, hp_362⟩ := hp
            have hpl_363 := hp_358.pl
            have hw_364 := wr_r (μ := μ354)
            refine lv_istore_n (lv' := [(3, .int (iv r_355)), (2, .int (iv (c9 + 1))), (4, .int (iv r_295)), (0, .ref (oP ω 111)), (1, .int (iv x1))]) hx hb dX12_arguments_93 rfl hl (by decide) rfl (fun ls hl => ?_)
            refine lv_goto (tgt := 19) hx hb dX12_arguments_94 (by decide) ?_
            have e_365 : μ354.1 111 22 = μ294.1 111 22 := ((hp_357 22 (by decide)).trans ((sv_n _ (by decide)).trans (sv_n _ (fun h9 => absurd h9.1 (by decide)))))
            have e_366 : μ354.1 111 22 = μ294.1 111 22 := ((hp_357 22 (by decide)).trans ((sv_n _ (by decide)).trans (sv_n _ (fun h9 => absurd h9.1 (by decide)))))
            have e_367 : μ354.1 111 29 = μ278.1 111 29 := ((hp_357 29 (by decide)).trans ((sv_n _ (by decide)).trans ((sv_n _ (fun h9 => absurd h9.1 (by decide))).trans (hp_297 29 (by decide)))))
            have e_368 : μ354.1 111 39 = (μ278.1 111 39) + 1 := ((hp_357 39 (by decide)).trans (sv_s _ _ _ _))
            have e_369 : μ354.1 111 39 = (μ278.1 111 39) + 1 := ((hp_357 39 (by decide)).trans (sv_s _ _ _ _))
            have e_370 : μ354.1 111 22 = μ294.1 111 22 := ((hp_357 22 (by decide)).trans ((sv_n _ (by decide)).trans (sv_n _ (fun h9 => absurd h9.1 (by decide)))))
            have e_371 : μ354.1 111 39 = (μ278.1 111 39) + 1 := ((hp_357 39 (by decide)).trans (sv_s _ _ _ _))
            have e_372 : μ354.1 111 22 = μ294.1 111 22 := ((hp_357 22 (by decide)).trans ((sv_n _ (by decide)).trans (sv_n _ (fun h9 => absurd h9.1 (by decide)))))
            have e_373 : μ354.1 111 39 = (μ278.1 111 39) + 1 := ((hp_357 39 (by decide)).trans (sv_s _ _ _ _))
            have e_374 : μ354.1 111 22 = μ294.1 111 22 := ((hp_357 22 (by decide)).trans ((sv_n _ (by decide)).trans (sv_n _ (fun h9 => absurd h9.1 (by decide)))))
            have e_375 : μ354.1 111 29 = μ278.1 111 29 := ((hp_357 29 (by decide)).trans ((sv_n _ (by decide)).trans ((sv_n _ (fun h9 => absurd h9.1 (by decide))).trans (hp_297 29 (by decide)))))
            have e_377 : μ354.1 111 29 = μ278.1 111 29 := ((hp_357 29 (by decide)).trans ((sv_n _ (by decide)).trans ((sv_n _ (fun h9 => absurd h9.1 (by decide))).trans (hp_297 29 (by decide)))))
            have hX_376 : ∀ _ : Unit, bd μ354 = 0 → mPX μo μ354 tt ((x1 + c9) + 1) 1 HH (lsk r_295 ++ (wls μL55 ff (μL55.1 111 39) ++ [])) := fun _ h0 => (hX_344 () (by have e9 : bd (sv (sv μ294 126 (μ278.1 111 39) r_295) 111 39 ((μ278.1 111 39) + 1)) = bd μ278 := ((bd_cg (sv_n _ (by decide)) (sv_n _ (by decide))).trans ((bd_cg (sv_n _ (fun h9 => absurd h9.1 (by decide))) (sv_n _ (fun h9 => absurd h9.1 (by decide)))).trans (bd_cg (hp_297 15 (by decide)) (hp_297 16 (by decide))))); have e8 : bd μ354 = bd μ354 := rfl; omega)).qm (q0m.fr (K := [111]) (Fr.tr Fr.rf F_356 (by decide)) (by decide) (by decide) (by decide) ((((hp_357 22 (by decide)).trans ((sv_n _ (by decide)).trans (sv_n _ (fun h9 => absurd h9.1 (by decide)))))).trans (((sv_n _ (by decide)).trans (sv_n _ (fun h9 => absurd h9.1 (by decide))))).symm) (by omega))
            exact ih _ _ _ _ _ _ _ (by omega) ⟨c9 + 1, r_355, (Fr.tr (Fr.put (Fr.put (Fr.tr (Fr.tr (Fr.tr FL56 F_242 (by decide)) F_279 (by decide)) F_296 (by decide)) (by decide)) (by decide)) F_356 (by decide)), (by omega), (by omega), (fun j hj => ((hp_357 j (fun h9 => hj ((by decide : ∀ x ∈ ([6, 8, 9, 10, 11, 12, 13, 15] : List Int), x ∈ ([6, 8, 9, 10, 11, 12, 13, 15, 16, 17, 18, 22, 29, 39] : List Int)) j h9))).trans ((sv_n _ (fun h9 => hj (by rw [h9.2]; decide))).trans ((sv_n _ (fun h9 => absurd h9.1 (by decide))).trans ((hp_297 j (fun h9 => hj ((by decide : ∀ x ∈ ([22] : List Int), x ∈ ([6, 8, 9, 10, 11, 12, 13, 15, 16, 17, 18, 22, 29, 39] : List Int)) j h9))).trans ((hp_280 j (fun h9 => hj ((by decide : ∀ x ∈ ([6, 8, 9, 10, 11, 12, 13, 15, 16, 17, 18, 22, 29, 39] : List Int), x ∈ ([6, 8, 9, 10, 11, 12, 13, 15, 16, 17, 18, 22, 29, 39] : List Int)) j h9))).trans ((hp_243 j (fun h9 => hj ((by decide : ∀ x ∈ ([16] : List Int), x ∈ ([6, 8, 9, 10, 11, 12, 13, 15, 16, 17, 18, 22, 29, 39] : List Int)) j h9))).trans (hi_60 j (fun h9 => hj ((by decide : ∀ x ∈ ([6, 8, 9, 10, 11, 12, 13, 15, 16, 17, 18, 22, 29, 39] : List Int), x ∈ ([6, 8, 9, 10, 11, 12, 13, 15, 16, 17, 18, 22, 29, 39] : List Int)) j h9)))))))))), (by omega), (by omega), (by omega), (by omega), hp_358, (by omega), (by omega), (by omega), (by omega), (by omega), (by omega), (fun j hj => ((F_356.1 126 (by decide) j).trans ((sv_n _ (fun h9 => absurd h9.1 (by decide))).trans ((sv_n _ (by omega)).trans ((F_296.1 126 (by decide) j).trans ((hp_288 j (by omega)).trans ((F_242.1 126 (by decide) j).trans (hi_72 j (by omega))))))))), (fun j h1 h2 => by rcases Int.lt_or_le j (μL55.1 111 39) with h9 | h9; (have b9 := hi_73 j h1 h9; rw [show μ354.1 126 j = μL55.1 126 j from ((F_356.1 126 (by decide) j).trans ((sv_n _ (fun h9 => absurd h9.1 (by decide))).trans ((sv_n _ (by omega)).trans ((F_296.1 126 (by decide) j).trans ((hp_288 j (by omega)).trans (F_242.1 126 (by decide) j))))))]; exact ⟨b9.1, by omega⟩); (rw [show j = μ278.1 111 39 by omega, show μ354.1 126 (μ278.1 111 39) = r_295 from ((F_356.1 126 (by decide) (μ278.1 111 39)).trans ((sv_n _ (fun h9 => absurd h9.1 (by decide))).trans (sv_s _ _ _ _)))]; omega)), (fun _ h0 => (((hX_376 ()) h0).ee (by omega)).mem (fun i => wls_new (by omega) (fun j h1 h9 => ((F_356.1 126 (by decide) j).trans ((sv_n _ (fun h9 => absurd h9.1 (by decide))).trans ((sv_n _ (by omega)).trans ((F_296.1 126 (by decide) j).trans ((hp_288 j (by omega)).trans (F_242.1 126 (by decide) j))))))) (by omega) (by rw [show μL55.1 111 39 = μ278.1 111 39 by omega]; exact ((F_356.1 126 (by decide) (μ278.1 111 39)).trans ((sv_n _ (fun h9 => absurd h9.1 (by decide))).trans (sv_s _ _ _ _)))) (by omega))), rfl, lv_sub hl [0, 1, 3, 4] rfl⟩ G
