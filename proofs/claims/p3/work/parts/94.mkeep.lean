/-! what the machine's small steps keep -/
def Eqa (K : List Int) (μ ν : M3) : Prop := ∀ a, a ∈ K → ∀ j, ν.1 a j = μ.1 a j
def Eqf (K : List Int) (μ ν : M3) : Prop := ∀ k, k ∈ K → ν.1 111 k = μ.1 111 k
theorem Eqa.sb {K L : List Int} {μ ν : M3} (h : Eqa K μ ν) (hs : (L.all fun a => K.contains a) = true) : Eqa L μ ν := fun a ha j => h a (List.contains_iff_mem.mp (List.all_eq_true.mp hs a ha)) j
theorem Eqa.rf {K : List Int} {μ : M3} : Eqa K μ μ := fun _ _ _ => rfl
theorem Eqf.rf {K : List Int} {μ : M3} : Eqf K μ μ := fun _ _ => rfl
theorem Eqa.fr {K L : List Int} {μ ν : M3} (F : FrM L μ ν) (h : (K.all fun a => !L.contains a) = true) : Eqa K μ ν := fun a ha j => F.1 a (fun q => by
  have h1 := List.all_eq_true.mp h a ha
  rw [List.contains_iff_mem.mpr q] at h1; cases h1) j
theorem Eqf.fd {K L : List Int} {μ ν : M3} (F : ∀ j, j ∉ L → ν.1 111 j = μ.1 111 j) (h : (K.all fun a => !L.contains a) = true) : Eqf K μ ν := fun a ha => F a (fun q => by
  have h1 := List.all_eq_true.mp h a ha
  rw [List.contains_iff_mem.mpr q] at h1; cases h1)
theorem Eqa.cs {K : List Int} {μ ν : M3} (h : Eqa K μ ν) (hK : (([114, 115, 116, 117, 119, 120, 121, 122] : List Int).all fun a => K.contains a) = true) (h4 : ν.1 111 4 = μ.1 111 4) : Cs μ ν := ⟨h.sb hK, h4⟩
theorem frm {μ ν : M3} {i : Int} (c : Cs μ ν) (e27 : ν.1 127 i = μ.1 127 i) (e28 : ν.1 128 i = μ.1 128 i) : (fA ν i = fA μ i ∧ fS ν i = fS μ i) ∧ fH ν i = fH μ i ∧ fC ν i = fC μ i ∧ fD ν i = fD μ i ∧ fK ν i = fK μ i ∧ fO ν i = fO μ i ∧ ∀ B, fT μ i B → fT ν i B := by
  have f := c.fo (9000 * μ.1 127 i) (μ.1 127 i)
  have c9 := c.1 119 (by decide)
  have c1 := c.1 121 (by decide)
  unfold fA fS fH fC fD fK fO fT fA fS
  rw [e27, e28, c9, c1]
  exact ⟨⟨rfl, rfl⟩, f.1, f.2.1, f.2.2.1, f.2.2.2, c.cd _, fun B h => h.cs c⟩
theorem TP.mv {μ ν : M3} {i pc S bl : Int} (h : TP μ i pc S bl) (c : Cs μ ν) (e27 : ν.1 127 i = μ.1 127 i) (e28 : ν.1 128 i = μ.1 128 i) (e31 : ν.1 131 i = μ.1 131 i) (e32 : ν.1 132 i = μ.1 132 i) (e37 : ∀ j, j < bl → ν.1 137 j = μ.1 137 j) : TP ν i pc S bl := by
  obtain ⟨⟨a1, a2⟩, a3, a4, a5, a6, a7, a8⟩ := frm c e27 e28
  obtain ⟨B, h1, h2, h3, h4, h5⟩ := h
  refine ⟨B, a8 B h1, by rw [a1]; exact h2, by rw [a3, e31]; exact h3, by rw [a5, e32]; exact h4, fun j j0 j1 => ?_⟩
  rw [a5] at j1
  rw [a6, e32, e37 _ (by omega)]
  exact h5 j j0 j1
theorem LD.mv {μ ν : M3} {i k x d : Int} (h : LD μ i k x d) (c : Cs μ ν) (e27 : ν.1 127 i = μ.1 127 i) (e28 : ν.1 128 i = μ.1 128 i) (e32 : ν.1 132 i = μ.1 132 i) (e37 : ∀ j, j < k → ν.1 137 j = μ.1 137 j) : LD ν i k x d := by
  obtain ⟨⟨a1, a2⟩, a3, a4, a5, a6, a7, a8⟩ := frm c e27 e28
  obtain ⟨B, h1, h2, h3, h4, h5, h6, h7⟩ := h
  refine ⟨B, a8 B h1, by rw [a1]; exact h2, by rw [a3]; exact h3, by rw [a4]; exact h4, by rw [a5, e32]; exact h5, by rw [a6, e32]; exact h6, fun j j0 j1 => ?_⟩
  rw [e32] at j1
  rw [a6, e32, e37 _ (by omega)]
  exact h7 j j0 j1
theorem LC.mv {μ ν : M3} {i k x : Int} (h : LC μ i k x) (c : Cs μ ν) (e27 : ν.1 127 i = μ.1 127 i) (e28 : ν.1 128 i = μ.1 128 i) (e32 : ν.1 132 i = μ.1 132 i) (e37 : ∀ j, j < k → ν.1 137 j = μ.1 137 j) : LC ν i k x := by
  obtain ⟨⟨a1, a2⟩, a3, a4, a5, a6, a7, a8⟩ := frm c e27 e28
  obtain ⟨B, h1, h2, h3, h4, h5⟩ := h
  refine ⟨B, a8 B h1, by rw [a1]; exact h2, by rw [a7]; exact h3, by rw [a5, e32]; exact h4, fun j j0 j1 => ?_⟩
  rw [e32] at j1
  rw [a6, e32, e37 _ (by omega)]
  exact h5 j j0 j1
theorem BK.mv {μ ν : M3} {i k : Int} (h : BK μ i k) (c : Cs μ ν) (e27 : ν.1 127 i = μ.1 127 i) (e28 : ν.1 128 i = μ.1 128 i) (e31 : ν.1 131 i = μ.1 131 i) (e32 : ν.1 132 i = μ.1 132 i) (e37 : ∀ j, j ≤ k → ν.1 137 j = μ.1 137 j) (e38 : ν.1 138 k = μ.1 138 k) (e40 : ν.1 140 k = μ.1 140 k) (e41 : ν.1 141 k = μ.1 141 k) (e43 : ν.1 143 k = μ.1 143 k) (e82 : μ.1 111 82 ≤ ν.1 111 82) (e49 : ∀ g, 0 ≤ g → g < μ.1 111 82 → ν.1 149 g = μ.1 149 g) : BK ν i k := by
  obtain ⟨h1, h2, h3, h4, h5, h6, h7, h8⟩ := h
  have q : ∀ j, j < k → ν.1 137 j = μ.1 137 j := fun j hj => e37 j (by omega)
  unfold BK
  rw [e40, e31, e37 k (Int.le_refl _), e27, e38, e41, e43, c.1 116 (by decide)]
  exact ⟨h1, h2, h3, fun z => ⟨(h4 z).1, (h4 z).2.mv c e27 e28 e32 q⟩, fun z => (h5 z).mv c e27 e28 e32 q, fun z => (h6 z).mv c e27 e28 e32 q, h7, fun z z2 => by obtain ⟨y1, y2⟩ := h8 z z2; rw [e49 _ y1.1 y1.2]; exact ⟨⟨y1.1, by omega⟩, y2⟩⟩
theorem TP.d0 {μ : M3} {i pc S bl : Int} (h : TP μ i pc S bl) : μ.1 132 i ≤ bl ∧ bl ≤ μ.1 132 i + 16 ∧ μ.1 131 i ≤ S ∧ S ≤ μ.1 131 i + 101 := by
  obtain ⟨B, h1, h2, h3, h4, -⟩ := h
  have q := (h1.2.1 pc h2.1 h2.2).2
  unfold fH at h3
  unfold fD at h4
  omega
theorem FRS.up {μ : M3} {n bl : Int} (h : FRS μ n bl) : ∀ (k : Nat) (i : Int), 0 ≤ i → i + k < n → μ.1 132 i ≤ μ.1 132 (i + k) ∧ μ.1 131 i ≤ μ.1 131 (i + k)
  | 0, i, _, _ => by rw [show i + ((0 : Nat) : Int) = i by omega]; exact ⟨Int.le_refl _, Int.le_refl _⟩
  | k + 1, i, i0, hk => by
    have ih := h.up k i i0 (by omega)
    obtain ⟨g1, -, g3⟩ := (h (i + k) (by omega) (by omega)).2.1 (by omega)
    have z := g1.d0
    rw [show i + ((k + 1 : Nat) : Int) = i + k + 1 by omega]
    omega
theorem FRS.le {μ : M3} {n bl i j : Int} (h : FRS μ n bl) (h0 : 0 ≤ i) (h1 : i ≤ j) (h2 : j < n) : μ.1 132 i ≤ μ.1 132 j ∧ μ.1 131 i ≤ μ.1 131 j := by
  have q := h.up (j - i).toNat i h0 (by omega)
  rw [show i + ((j - i).toNat : Int) = j by omega] at q
  exact q
theorem FRS.nbl {μ : M3} {n bl i : Int} (h : FRS μ n bl) (hb : FB μ n ≤ bl) (h0 : 0 ≤ i) (hi : i < n) : nb μ n bl i ≤ bl := by
  unfold nb
  rw [FB_1 (by omega)] at hb
  by_cases e : i + 1 < n
  · rw [if_pos e]
    have := (h.le (i := i + 1) (j := n - 1) (by omega) (by omega) (by omega)).1
    omega
  · rw [if_neg e]; exact Int.le_refl _
/-- fewer frames, fewer blocks -/
theorem FRS.mv {μ ν : M3} {n bl m b2 : Int} (h : FRS μ n bl) (hb : FB μ n ≤ bl) (c : Cs μ ν) (hm : m ≤ n) (hm2 : 1 ≤ m → b2 ≤ nb μ n bl (m - 1)) (e27 : ∀ j, j < m → ν.1 127 j = μ.1 127 j) (e28 : ∀ j, j < m → ν.1 128 j = μ.1 128 j) (e29 : ∀ j, j + 1 < m → ν.1 129 j = μ.1 129 j) (e31 : ∀ j, j < m → ν.1 131 j = μ.1 131 j) (e32 : ∀ j, j < m → ν.1 132 j = μ.1 132 j) (e37 : ∀ j, j < bl → ν.1 137 j = μ.1 137 j) (e38 : ∀ j, j < bl → ν.1 138 j = μ.1 138 j) (e40 : ∀ j, j < bl → ν.1 140 j = μ.1 140 j) (e41 : ∀ j, j < bl → ν.1 141 j = μ.1 141 j) (e43 : ∀ j, j < bl → ν.1 143 j = μ.1 143 j) (e82 : μ.1 111 82 ≤ ν.1 111 82) (e49 : ∀ g, 0 ≤ g → g < μ.1 111 82 → ν.1 149 g = μ.1 149 g) : FRS ν m b2 := by
  intro i i0 i1
  obtain ⟨h1, h2, h3⟩ := h i i0 (by omega)
  have hn := h.nbl hb i0 (by omega)
  refine ⟨?_, fun z => ?_, fun k k0 k1 => ?_⟩
  · unfold FRb
    rw [e27 i i1, e28 i i1, e31 i i1, e32 i i1, c.1 122 (by decide)]
    exact h1
  · obtain ⟨g1, g2, g3⟩ := h2 (by omega)
    have hn2 : μ.1 132 (i + 1) ≤ bl := by
      unfold nb at hn
      rw [if_pos (by omega)] at hn
      exact hn
    rw [e29 i z, e31 _ z, e32 _ z, e31 i i1]
    refine ⟨g1.mv c (e27 i i1) (e28 i i1) (e31 i i1) (e32 i i1) (fun j hj => e37 j (by omega)), ?_, g3⟩
    rw [(frm c (e27 i i1) (e28 i i1)).2.2.1]; exact g2
  · have k2 : k < nb μ n bl i := by
      unfold nb at k1 ⊢
      by_cases e : i + 1 < m
      · rw [if_pos e, e32 _ e] at k1
        rw [if_pos (by omega)]; exact k1
      · rw [if_neg e] at k1
        have := hm2 (by omega)
        have e2 : m - 1 = i := by omega
        rw [e2] at this
        unfold nb at this
        omega
    rw [e32 i i1] at k0
    exact (h3 k k0 k2).mv c (e27 i i1) (e28 i i1) (e31 i i1) (e32 i i1) (fun j hj => e37 j (by omega)) (e38 k (by omega)) (e40 k (by omega)) (e41 k (by omega)) (e43 k (by omega)) e82 e49
theorem VR.mv {μ ν : M3} {n m : Int} (h : VR μ n) (hm : m ≤ n) (c : Cs μ ν) (u : up2 μ ν) (e27 : ∀ j, j < m → ν.1 127 j = μ.1 127 j) (e28 : ∀ j, j < m → ν.1 128 j = μ.1 128 j) (e33 : ∀ j, j < 320 * m → ν.1 133 j = μ.1 133 j) (e34 : ∀ j, j < 320 * m → ν.1 134 j = μ.1 134 j) : VR ν m := by
  intro i v i0 i1 v0 v1 v2
  rw [(frm c (e27 i i1) (e28 i i1)).1.2] at v1
  rw [e33 _ (by omega), e34 _ (by omega)]
  exact VV.u (h i v i0 (by omega) v0 v1 v2) u
theorem PD.mv {μ ν : M3} {bl b2 : Int} (h : PD μ bl) (hb : b2 ≤ bl) (u : up2 μ ν) (e37 : ∀ j, j < b2 → ν.1 137 j = μ.1 137 j) (e41 : ∀ j, j < b2 → ν.1 141 j = μ.1 141 j) (e42 : ∀ j, j < b2 → ν.1 142 j = μ.1 142 j) (e43 : ∀ j, j < b2 → ν.1 143 j = μ.1 143 j) : PD ν b2 := by
  intro k k0 k1
  rw [e37 k k1, e41 k k1, e42 k k1, e43 k k1]
  intro z
  obtain ⟨h1, h2, h3⟩ := h k k0 (by omega) z
  exact ⟨h1, fun y => VV.u (h2 y) u, fun y => by have := h3 y; have := u.2; omega⟩
theorem mPR.cs {μ ν : M3} (h : mPR μ) (c : Cs μ ν) : mPR ν := fun u u0 u1 => (h u u0 u1).kp (Int.le_of_eq c.2.symm) (fun j _ _ => c.1 115 (by decide) j) (fun j _ _ => c.1 116 (by decide) j) (fun j _ _ => c.1 117 (by decide) j) (fun j _ _ => c.1 119 (by decide) j) (fun j _ _ => c.1 120 (by decide) j) (fun j _ _ => c.1 121 (by decide) j) (c.1 122 (by decide) u)
theorem NMs.cs {μ ν : M3} (h : NMs μ) (c : Cs μ ν) : NMs ν := by
  unfold NMs
  rw [c.2]
  exact ⟨h.1, h.2.cg (c.1 114 (by decide))⟩
/-- one is as the other, but for STEPS -/
theorem BASE.mv {μ ν : M3} (h : BASE μ) (A : Eqa [114, 115, 116, 117, 119, 120, 121, 122, 144, 145, 146, 147, 148, 149, 150, 151, 152, 156, 157, 158, 159, 163, 165, 166] μ ν) (F : Eqf [4, 65, 68, 69, 81, 82, 95, 96, 97, 104] μ ν) (hs : μ.1 111 83 ≤ ν.1 111 83 ∧ ν.1 111 83 ≤ 5000 ∧ 0 ≤ ν.1 111 84 ∧ ν.1 111 84 ≤ 80000) : BASE ν := by
  obtain ⟨h1, h2, h3, h4, h5, h6, h7⟩ := h
  have c : Cs μ ν := A.cs (by decide) (F 4 (by decide))
  have a := fun k hk => F k hk
  have u : up2 μ ν := up2.eq (F 65 (by decide)) (F 82 (by decide))
  refine ⟨h1.cs c, h2.cs c, ⟨?_, ?_, ?_⟩, ⟨?_, ?_, ?_, ?_⟩, ?_, ?_, hs.2.2⟩
  · rw [F 65 (by decide), F 68 (by decide), F 69 (by decide)]; exact h3.1
  · intro x x0 x1
    rw [F 65 (by decide)] at x1
    rw [A 144 (by decide), A 145 (by decide), A 146 (by decide), F 68 (by decide)]
    exact h3.2.1 x x0 x1
  · exact h3.2.2.mv u (by rw [F 68 (by decide)]; exact Int.le_refl _) (fun j _ _ => A 147 (by decide) j) (fun j _ _ => A 148 (by decide) j)
  · rw [F 82 (by decide), F 81 (by decide)]
    have := h4.1
    omega
  · intro g g0 g1
    rw [F 82 (by decide)] at g1
    rw [A 149 (by decide), A 150 (by decide), A 156 (by decide), A 157 (by decide), F 4 (by decide), F 81 (by decide)]
    exact h4.2.1 g g0 g1
  · exact h4.2.2.1.mv u (by rw [F 82 (by decide)]; exact Int.le_refl _) (fun j _ _ => A 151 (by decide) j) (fun j _ _ => A 152 (by decide) j)
  · intro j j0 j1
    rw [F 81 (by decide)] at j1
    rw [A 158 (by decide), A 159 (by decide), F 82 (by decide)]
    exact h4.2.2.2 j j0 j1
  · unfold EN
    rw [F 104 (by decide), F 4 (by decide)]
    refine ⟨h5.1, fun k t u k0 k1 e => ?_, fun t u => ?_⟩
    · rw [A 163 (by decide)] at e
      rw [A 165 (by decide)]
      exact h5.2.1 k t u k0 k1 e
    · rw [A 166 (by decide)]
      exact h5.2.2 t u
  · unfold AN vv
    rw [F 65 (by decide), F 82 (by decide), F 95 (by decide), F 96 (by decide), F 97 (by decide)]
    exact h6
theorem FB.eq {μ ν : M3} {n : Int} (e : ∀ j, j < n → ν.1 132 j = μ.1 132 j) : FB ν n = FB μ n := by
  unfold FB
  by_cases h : n = 0
  · rw [if_pos h, if_pos h]
  · rw [if_neg h, if_neg h, e _ (by omega)]
theorem FL.eq {μ ν : M3} {n : Int} (e : ∀ j, j < n → ν.1 131 j = μ.1 131 j) : FL ν n = FL μ n := by
  unfold FL
  by_cases h : n = 0
  · rw [if_pos h, if_pos h]
  · rw [if_neg h, if_neg h, e _ (by omega)]
/-- as many frames; blocks, VALUES not more -/
theorem MZx.mv {μ ν : M3} {n bl m b2 m2 : Int} (h : MZx μ n bl m) (A : Eqa [114, 115, 116, 117, 119, 120, 121, 122, 127, 128, 131, 132, 133, 134, 135, 136, 137, 138, 140, 141, 142, 143, 144, 145, 146, 147, 148, 149, 150, 151, 152, 156, 157, 158, 159, 163, 165, 166] μ ν) (F : Eqf [4, 65, 68, 69, 81, 82, 95, 96, 97, 104] μ ν) (e29 : ∀ j, j + 1 < n → ν.1 129 j = μ.1 129 j) (hs : μ.1 111 83 ≤ ν.1 111 83 ∧ ν.1 111 83 ≤ 5000 ∧ 0 ≤ ν.1 111 84 ∧ ν.1 111 84 ≤ 80000) (hb : FB μ n ≤ b2 ∧ b2 ≤ bl) (hm : FL μ n ≤ m2 ∧ m2 ≤ m) : MZx ν n b2 m2 := by
  obtain ⟨h1, h2, h3, h4, h5, h6, h7, h8, h9⟩ := h
  have c : Cs μ ν := A.cs (by decide) (F 4 (by decide))
  have u : up2 μ ν := up2.eq (F 65 (by decide)) (F 82 (by decide))
  have q := fun a ha => A a ha
  refine ⟨h1.mv (A.sb (by decide)) F hs, h2, h3.mv h4.1 c (Int.le_refl _) (fun _ => ?_) (fun j _ => A 127 (by decide) j) (fun j _ => A 128 (by decide) j) e29 (fun j _ => A 131 (by decide) j) (fun j _ => A 132 (by decide) j) (fun j _ => A 137 (by decide) j) (fun j _ => A 138 (by decide) j) (fun j _ => A 140 (by decide) j) (fun j _ => A 141 (by decide) j) (fun j _ => A 143 (by decide) j) u.2 (fun j _ _ => A 149 (by decide) j), ⟨?_, by omega⟩, ?_, h6.mv (Int.le_refl _) c u (fun j _ => A 127 (by decide) j) (fun j _ => A 128 (by decide) j) (fun j _ => A 133 (by decide) j) (fun j _ => A 134 (by decide) j), h7.mv hb.2 u (fun j _ => A 137 (by decide) j) (fun j _ => A 141 (by decide) j) (fun j _ => A 142 (by decide) j) (fun j _ => A 143 (by decide) j), ⟨?_, by omega⟩, h9.mv u hm.2 (fun j _ _ => A 135 (by decide) j) (fun j _ _ => A 136 (by decide) j)⟩
  · unfold nb
    rw [if_neg (by omega)]; exact hb.2
  · rw [FB.eq (fun j _ => A 132 (by decide) j)]; exact hb.1
  · rw [F 81 (by decide)]; omega
  · rw [FL.eq (fun j _ => A 131 (by decide) j)]; exact hm.1
theorem MZx.st {μ : M3} {n bl m : Int} (h : MZx μ n bl m) : 0 ≤ μ.1 111 83 ∧ μ.1 111 83 ≤ 5000 ∧ 0 ≤ μ.1 111 84 ∧ μ.1 111 84 ≤ 80000 := by
  have h1 := h.1.2.2.2.1.1
  have h2 := h.1.2.2.2.2.2.2
  omega
/-- the layers of a walk -/
theorem Eqa.put {K : List Int} {μ : M3} {a k x : Int} (h : K.contains a = false) : Eqa K μ (sv μ a k x) := fun b hb j => sv_a μ k j x (fun z => by
  rw [← z, List.contains_iff_mem.mpr hb] at h; cases h)
theorem Eqf.put {K : List Int} {μ : M3} {k x : Int} (h : K.contains k = false) : Eqf K μ (sv μ 111 k x) := fun b hb => sv_k μ x (fun z => by
  rw [← z, List.contains_iff_mem.mpr hb] at h; cases h)
theorem Eqf.pua {K : List Int} {μ : M3} {a k x : Int} (h : a ≠ 111) : Eqf K μ (sv μ a k x) := fun b _ => sv_a μ k b x (fun z => h z.symm)
theorem MZ.f {μ : M3} {k x : Int} (h : MZ μ) (hk : ([4, 47, 53, 61, 65, 68, 69, 81, 82, 83, 84, 95, 96, 97, 104] : List Int).contains k = false) : MZ (sv μ 111 k x) := by
  have q : ∀ j, j ∈ ([4, 47, 53, 61, 65, 68, 69, 81, 82, 83, 84, 95, 96, 97, 104] : List Int) → (sv μ 111 k x).1 111 j = μ.1 111 j := Eqf.put hk
  have s := h.st
  unfold MZ
  rw [q 47 (by decide), q 53 (by decide), q 61 (by decide)]
  exact h.mv (Eqa.put (by decide)) (fun j hj => q j ((by decide : ∀ j ∈ ([4, 65, 68, 69, 81, 82, 95, 96, 97, 104] : List Int), j ∈ ([4, 47, 53, 61, 65, 68, 69, 81, 82, 83, 84, 95, 96, 97, 104] : List Int)) j hj)) (fun j _ => sv_a μ k j x (by decide)) (by rw [q 83 (by decide), q 84 (by decide)]; omega) ⟨h.2.2.2.1.1, Int.le_refl _⟩ ⟨h.2.2.2.2.2.2.2.1.1, Int.le_refl _⟩
theorem MZ.pua {μ : M3} {a k x : Int} (h : MZ μ) (ha : ((111 :: 129 :: [114, 115, 116, 117, 119, 120, 121, 122, 127, 128, 131, 132, 133, 134, 135, 136, 137, 138, 140, 141, 142, 143, 144, 145, 146, 147, 148, 149, 150, 151, 152, 156, 157, 158, 159, 163, 165, 166]) : List Int).contains a = false) : MZ (sv μ a k x) := by
  have n1 : a ≠ 111 := fun z => by rw [z] at ha; revert ha; decide
  have n2 : a ≠ 129 := fun z => by rw [z] at ha; revert ha; decide
  have q : ∀ j, (sv μ a k x).1 111 j = μ.1 111 j := fun j => sv_a μ k j x (fun z => n1 z.symm)
  have s := h.st
  unfold MZ
  rw [q 47, q 53, q 61]
  exact h.mv (Eqa.put (by rw [List.contains_cons, List.contains_cons, Bool.or_eq_false_iff, Bool.or_eq_false_iff] at ha; exact ha.2.2)) (Eqf.pua n1) (fun j _ => sv_a μ k j x (fun z => n2 z.symm)) (by rw [q 83, q 84]; omega) ⟨h.2.2.2.1.1, Int.le_refl _⟩ ⟨h.2.2.2.2.2.2.2.1.1, Int.le_refl _⟩
theorem MZ.pc {μ : M3} {f x : Int} (h : MZ μ) (hf : f = μ.1 111 47 - 1) : MZ (sv μ 129 f x) := by
  have q : ∀ j, (sv μ 129 f x).1 111 j = μ.1 111 j := fun j => sv_a μ f j x (by decide)
  have s := h.st
  unfold MZ
  rw [q 47, q 53, q 61]
  exact h.mv (Eqa.put (by decide)) (Eqf.pua (by decide)) (fun j hj => sv_k μ x (by omega)) (by rw [q 83, q 84]; omega) ⟨h.2.2.2.1.1, Int.le_refl _⟩ ⟨h.2.2.2.2.2.2.2.1.1, Int.le_refl _⟩
theorem MZ.mn {μ : M3} {x : Int} (h : MZ μ) (hx : FL μ (μ.1 111 47) ≤ x ∧ x ≤ μ.1 111 53) : MZ (sv μ 111 53 x) := by
  have q : ∀ j, j ≠ 53 → (sv μ 111 53 x).1 111 j = μ.1 111 j := fun j hj => sv_k μ x hj
  have s := h.st
  unfold MZ
  rw [q 47 (by decide), sv_s, q 61 (by decide)]
  exact h.mv (Eqa.put (by decide)) (Eqf.put (by decide)) (fun j _ => sv_a μ 53 j x (by decide)) (by rw [q 83 (by decide), q 84 (by decide)]; omega) ⟨h.2.2.2.1.1, Int.le_refl _⟩ hx
theorem MZ.bl {μ : M3} {x : Int} (h : MZ μ) (hx : FB μ (μ.1 111 47) ≤ x ∧ x ≤ μ.1 111 61) : MZ (sv μ 111 61 x) := by
  have q : ∀ j, j ≠ 61 → (sv μ 111 61 x).1 111 j = μ.1 111 j := fun j hj => sv_k μ x hj
  have s := h.st
  unfold MZ
  rw [q 47 (by decide), sv_s, q 53 (by decide)]
  exact h.mv (Eqa.put (by decide)) (Eqf.put (by decide)) (fun j _ => sv_a μ 61 j x (by decide)) (by rw [q 83 (by decide), q 84 (by decide)]; omega) hx ⟨h.2.2.2.2.2.2.2.1.1, Int.le_refl _⟩
/-- STEPS alone -/
theorem MZ.sp {μ ν : M3} (h : MZ μ) (A : Eqa (129 :: [114, 115, 116, 117, 119, 120, 121, 122, 127, 128, 131, 132, 133, 134, 135, 136, 137, 138, 140, 141, 142, 143, 144, 145, 146, 147, 148, 149, 150, 151, 152, 156, 157, 158, 159, 163, 165, 166]) μ ν) (F : Eqf (47 :: 53 :: 61 :: [4, 65, 68, 69, 81, 82, 95, 96, 97, 104]) μ ν) (hs : μ.1 111 83 ≤ ν.1 111 83 ∧ ν.1 111 83 ≤ 5000 ∧ 0 ≤ ν.1 111 84 ∧ ν.1 111 84 ≤ 80000) : MZ ν := by
  unfold MZ
  rw [F 47 (by decide), F 53 (by decide), F 61 (by decide)]
  exact h.mv (A.sb (by decide)) (fun j hj => F j (by simp only [List.mem_cons] at hj ⊢; exact Or.inr (Or.inr (Or.inr hj)))) (fun j _ => A 129 (by decide) j) hs ⟨h.2.2.2.1.1, Int.le_refl _⟩ ⟨h.2.2.2.2.2.2.2.1.1, Int.le_refl _⟩
