/-! where the machine stands behind a step -/
theorem TP.mv2 {μ ν : M3} {i pc S bl S2 b2 : Int} (h : TP μ i pc S bl) (A : Eqa [114, 115, 116, 117, 119, 120, 121, 122, 127, 128, 131, 132, 137] μ ν) (h4 : ν.1 111 4 = μ.1 111 4) (hS : S2 = S) (hb : b2 = bl) : TP ν i pc S2 b2 := by
  rw [hS, hb]
  exact h.mv (A.cs (by decide) h4) (A 127 (by decide) i) (A 128 (by decide) i) (A 131 (by decide) i) (A 132 (by decide) i) (fun j _ => A 137 (by decide) j)
theorem fC.mv {μ ν : M3} {i pc : Int} (A : Eqa [114, 115, 116, 117, 119, 120, 121, 122, 127, 128, 131, 132, 137] μ ν) (h4 : ν.1 111 4 = μ.1 111 4) : fC ν i pc = fC μ i pc := by
  rw [(frm (A.cs (by decide) h4) (A 127 (by decide) i) (A 128 (by decide) i)).2.2.1]
theorem RX.eq {μ ν : M3} (A : Eqa [137] μ ν) (F : Eqf [47, 61] μ ν) : RX ν = RX μ + 200000 * (μ.1 111 83 - ν.1 111 83) := by
  unfold RX
  rw [F 47 (by decide), F 61 (by decide), cB_eq (fun j _ => A 137 (by decide) j)]
  omega
/-- blocks went down -/
theorem RX.dn {μ ν : M3} (A : ∀ j, j < ν.1 111 61 → ν.1 137 j = μ.1 137 j) (e47 : ν.1 111 47 = μ.1 111 47) (e83 : ν.1 111 83 = μ.1 111 83) (h : ν.1 111 61 ≤ μ.1 111 61) : RX ν ≤ RX μ := by
  unfold RX
  rw [e47, e83, cB_eq A]
  have := (cB_le (μ := μ) h).1
  omega
/-- a block that isn't FINISHING went -/
theorem RX.d1 {μ ν : M3} {k : Int} (A : ∀ j, j < ν.1 111 61 → ν.1 137 j = μ.1 137 j) (e47 : ν.1 111 47 = μ.1 111 47) (e83 : ν.1 111 83 = μ.1 111 83) (h : ν.1 111 61 ≤ k) (h2 : k + 1 ≤ μ.1 111 61) (h0 : 0 ≤ k) (hk : μ.1 137 k ≠ 2) : RX ν ≤ RX μ - 9001 := by
  unfold RX
  rw [e47, e83, cB_eq A]
  have q1 := (cB_le (μ := μ) h).1
  have q2 := (cB_le (μ := μ) h2).1
  rw [cB_s h0, if_neg hk] at q2
  omega
/-- a block that isn't FINISHING became one -/
theorem RX.d2 {μ ν : M3} {k : Int} (A : ∀ j, j < k → ν.1 137 j = μ.1 137 j) (e47 : ν.1 111 47 = μ.1 111 47) (e83 : ν.1 111 83 = μ.1 111 83) (h : ν.1 111 61 = k + 1) (h2 : k + 1 ≤ μ.1 111 61) (h0 : 0 ≤ k) (hk : μ.1 137 k ≠ 2) (hk2 : ν.1 137 k = 2) : RX ν ≤ RX μ - 9001 := by
  unfold RX
  rw [e47, e83, h, cB_s h0, if_pos hk2, cB_eq A]
  have q2 := (cB_le (μ := μ) h2).1
  rw [cB_s h0, if_neg hk] at q2
  omega
theorem RES.at_ {μ : M3} {n x : Int} (hM : MZ μ) (en : μ.1 111 47 = n) (h1 : 1 ≤ n) (h94 : μ.1 111 94 = 0) (e29 : μ.1 129 (n - 1) = x) (t : TP μ (n - 1) x (μ.1 111 53) (μ.1 111 61)) (hc : fC μ (n - 1) x = 0) : RES μ (RX μ + 9000 - x) := by
  have hl := hM.n.2.2.2.1
  refine ⟨hM, Or.inr ⟨h94, by omega, ⟨?_, ?_⟩, ?_⟩⟩
  · rw [en, e29]; exact t
  · rw [en, e29, hc]; omega
  · unfold RK
    rw [en, e29, t.rk.2.2 hc]
    omega
theorem A1.mv {μ ν : M3} (h : A1 μ) (A : Eqa [114, 115, 116, 117, 119, 120, 121, 122, 127, 128, 129, 131, 132, 137] μ ν) (F : Eqf [4, 47, 53, 61] μ ν) : A1 ν := by
  unfold A1 at *
  rw [F 47 (by decide), F 53 (by decide), F 61 (by decide), A 129 (by decide)]
  exact ⟨h.1.mv2 (A.sb (by decide)) (F 4 (by decide)) rfl rfl, by rw [fC.mv (A.sb (by decide)) (F 4 (by decide))]; exact h.2⟩
/-- the VALUE that was awaited has come -/
theorem A1.res {μ ν : M3} (h : A1 μ) (hM : MZ ν) (h1 : 1 ≤ μ.1 111 47) (A : Eqa [114, 115, 116, 117, 119, 120, 121, 122, 127, 128, 129, 131, 132, 137] μ ν) (F : Eqf [4, 47, 61] μ ν) (h94 : ν.1 111 94 = 0) (e83 : ν.1 111 83 = μ.1 111 83) (e53 : ν.1 111 53 = μ.1 111 53 + 1) : RES ν (RX μ + 9000) := by
  obtain ⟨t, c⟩ := h
  have t2 : TP ν (μ.1 111 47 - 1) (μ.1 129 (μ.1 111 47 - 1)) (ν.1 111 53) (ν.1 111 61) := t.mv2 (A.sb (by decide)) (F 4 (by decide)) e53 (F 61 (by decide))
  have r := RES.at_ hM (F 47 (by decide)) h1 h94 (A 129 (by decide) _) t2 (by rw [fC.mv (A.sb (by decide)) (F 4 (by decide))]; exact c)
  rw [RX.eq (A.sb (by decide)) (fun k hk => F k ((by decide : ∀ j ∈ ([47, 61] : List Int), j ∈ ([4, 47, 61] : List Int)) k hk)), e83] at r
  exact r.le (by have := t2.pc; omega)
theorem A1.n {μ : M3} (h : A1 μ) (hM : MZ μ) (h1 : 1 ≤ μ.1 111 47) : μ.1 111 53 ≤ 2500 := by
  have t := h.1.d0
  obtain ⟨-, -, t1, t2⟩ := (hM.2.2.1 (μ.1 111 47 - 1) (by omega) (by omega)).1
  have := hM.2.1
  omega
/-- the answer is told -/
theorem MZ.an {μ ν : M3} (h : MZ μ) (A : Eqa (129 :: [114, 115, 116, 117, 119, 120, 121, 122, 127, 128, 131, 132, 133, 134, 135, 136, 137, 138, 140, 141, 142, 143, 144, 145, 146, 147, 148, 149, 150, 151, 152, 156, 157, 158, 159, 163, 165, 166]) μ ν) (F : Eqf [4, 47, 53, 61, 65, 68, 69, 81, 82, 83, 84, 104] μ ν) (hv : vv μ (ν.1 111 95) (ν.1 111 96)) (hf : -1 ≤ ν.1 111 97 ∧ ν.1 111 97 < μ.1 111 82) : MZ ν := by
  obtain ⟨b1, b2, b3, b4, b5, b6, b7, b8, b9⟩ := h
  have c : Cs μ ν := A.cs (by decide) (F 4 (by decide))
  have u : up2 μ ν := up2.eq (F 65 (by decide)) (F 82 (by decide))
  obtain ⟨d1, d2, d3, d4, d5, d6, d7⟩ := b1
  unfold MZ
  rw [F 47 (by decide), F 53 (by decide), F 61 (by decide)]
  refine ⟨⟨d1.cs c, d2.cs c, ⟨?_, ?_, ?_⟩, ⟨?_, ?_, ?_, ?_⟩, ?_, ⟨VV.u hv u, ?_⟩, ?_⟩, b2, b3.mv b4.1 c (Int.le_refl _) (fun _ => ?_) (fun j _ => A 127 (by decide) j) (fun j _ => A 128 (by decide) j) (fun j _ => A 129 (by decide) j) (fun j _ => A 131 (by decide) j) (fun j _ => A 132 (by decide) j) (fun j _ => A 137 (by decide) j) (fun j _ => A 138 (by decide) j) (fun j _ => A 140 (by decide) j) (fun j _ => A 141 (by decide) j) (fun j _ => A 143 (by decide) j) u.2 (fun j _ _ => A 149 (by decide) j), ⟨?_, b4.2⟩, ?_, b6.mv (Int.le_refl _) c u (fun j _ => A 127 (by decide) j) (fun j _ => A 128 (by decide) j) (fun j _ => A 133 (by decide) j) (fun j _ => A 134 (by decide) j), b7.mv (Int.le_refl _) u (fun j _ => A 137 (by decide) j) (fun j _ => A 141 (by decide) j) (fun j _ => A 142 (by decide) j) (fun j _ => A 143 (by decide) j), ⟨?_, b8.2⟩, b9.mv u (Int.le_refl _) (fun j _ _ => A 135 (by decide) j) (fun j _ _ => A 136 (by decide) j)⟩
  · rw [F 65 (by decide), F 68 (by decide), F 69 (by decide)]; exact d3.1
  · intro x x0 x1
    rw [F 65 (by decide)] at x1
    rw [A 144 (by decide), A 145 (by decide), A 146 (by decide), F 68 (by decide)]
    exact d3.2.1 x x0 x1
  · exact d3.2.2.mv u (by rw [F 68 (by decide)]; exact Int.le_refl _) (fun j _ _ => A 147 (by decide) j) (fun j _ _ => A 148 (by decide) j)
  · rw [F 82 (by decide), F 83 (by decide), F 81 (by decide)]; exact d4.1
  · intro g g0 g1
    rw [F 82 (by decide)] at g1
    rw [A 149 (by decide), A 150 (by decide), A 156 (by decide), A 157 (by decide), F 4 (by decide), F 81 (by decide)]
    exact d4.2.1 g g0 g1
  · exact d4.2.2.1.mv u (by rw [F 82 (by decide)]; exact Int.le_refl _) (fun j _ _ => A 151 (by decide) j) (fun j _ _ => A 152 (by decide) j)
  · intro j j0 j1
    rw [F 81 (by decide)] at j1
    rw [A 158 (by decide), A 159 (by decide), F 82 (by decide)]
    exact d4.2.2.2 j j0 j1
  · unfold EN
    rw [F 104 (by decide), F 4 (by decide)]
    refine ⟨d5.1, fun k t u k0 k1 e => ?_, fun t u => ?_⟩
    · rw [A 163 (by decide)] at e
      rw [A 165 (by decide)]
      exact d5.2.1 k t u k0 k1 e
    · rw [A 166 (by decide)]
      exact d5.2.2 t u
  · rw [F 82 (by decide)]; exact hf
  · rw [F 84 (by decide)]; exact d7
  · unfold nb
    rw [if_neg (by omega)]; exact Int.le_refl _
  · rw [FB.eq (fun j _ => A 132 (by decide) j)]; exact b4.1
  · rw [F 81 (by decide), F 83 (by decide)]; exact b5
  · rw [FL.eq (fun j _ => A 131 (by decide) j)]; exact b8.1
theorem cdm_0 {μ : M3} {b i : Int} : cdm μ b i 0 = μ.1 115 (b + i) := if_pos rfl
theorem cdm_1 {μ : M3} {b i : Int} : cdm μ b i 1 = μ.1 116 (b + i) := by unfold cdm; rw [if_neg (by decide), if_pos rfl]
theorem cdm_2 {μ : M3} {b i : Int} : cdm μ b i 2 = μ.1 117 (b + i) := by unfold cdm; rw [if_neg (by decide), if_neg (by decide)]
/-- a CATCH -/
theorem LC.go {μ : M3} {i k x : Int} (h : LC μ i k x) (h0 : μ.1 127 i = 0) (hs : μ.1 117 x ≠ -1) : (0 ≤ x ∧ x ≤ 8989) ∧ (0 ≤ μ.1 116 x ∧ μ.1 116 x < 320) ∧ (TP μ i (x + 2) (μ.1 131 i) k ∧ fC μ i (x + 2) = 0) ∧ (x < μ.1 116 (x + 1) ∧ μ.1 116 (x + 1) ≤ 8989) ∧ LC μ i k (μ.1 116 (x + 1)) := by
  obtain ⟨B, h1, h2, h3, h4, h5⟩ := h
  obtain ⟨⟨f1, f2, f3⟩, f4, -, -⟩ := id h1
  have q := (f4 x h2.1 (by omega)).1
  rw [h0] at q
  obtain ⟨r1, r3, r4, r5, r7, r8, r11, r12, r13, -⟩ := q
  have o0 : cdm μ (9000 * 0) x 0 = 13 := by
    have := h3
    unfold fO at this
    rw [h0] at this; exact this
  have e2 : cdm μ (9000 * 0) x 2 = μ.1 117 x := by rw [cdm_2, show (9000 * 0 + x : Int) = x by omega]
  have e1 : cdm μ (9000 * 0) x 1 = μ.1 116 (0 + x) := cdm_1
  rcases r13 o0 with z | ⟨z1, z2, z⟩
  · exact absurd (e2.symm.trans z.2) hs
  rcases z with z | ⟨z3, z4, z5, z6, z7, z8, z9, z10, z11⟩
  · exact absurd z (by decide)
  have n0 : 0 ≤ x := by omega
  have e3 : cdm μ (9000 * 0) (x + 1) 1 = μ.1 116 (x + 1) := by rw [cdm_1, show (9000 * 0 + (x + 1) : Int) = x + 1 by omega]
  rw [e3] at z7 z8 z9 z10 z11
  rw [e1, show (0 : Int) + x = x by omega] at z1 z2
  have s1 := mh_s (μ := μ) (b := 9000 * 0) n0
  have s2 := mh_s (μ := μ) (b := 9000 * 0) (i := x + 1) (by omega)
  have d1 := md_s (μ := μ) (b := 9000 * 0) (t := 0) n0
  have d2 := md_s (μ := μ) (b := 9000 * 0) (t := 0) (i := x + 1) (by omega)
  have c2 := mc_s (μ := μ) (b := 9000 * 0) (t := 0) (i := x + 1) (by omega)
  have k1 := mk_s (μ := μ) (b := 9000 * 0) (t := 0) n0
  have k2 := mk_s (μ := μ) (b := 9000 * 0) (t := 0) (i := x + 1) (by omega)
  rw [o0] at s1 d1 k1
  rw [z6] at s2 d2 c2 k2
  have eA : ∀ s, eem 13 s = 0 := fun s => rfl
  have eB : ∀ s, eem 8 s = 0 := fun s => rfl
  have dA : ∀ p, dem 0 p 13 = 0 := fun p => rfl
  have dB : ∀ p, dem 0 p 8 = 0 := fun p => rfl
  have cB' : ∀ c, cem 0 8 c = 0 := fun c => rfl
  have kA : ∀ p d (z : Int → Int), bem 0 p 13 d z = z := fun p d z => rfl
  have kB : ∀ p d (z : Int → Int), bem 0 p 8 d z = z := fun p d z => by
    funext j
    unfold bem
    rw [if_neg (by decide), if_neg (by decide), if_neg (by decide), if_neg (by decide), if_neg (by decide), if_pos rfl, if_neg (fun q => absurd q.1 (by decide)), if_neg (fun q => absurd q.1 (by decide))]
  rw [eA] at s1
  rw [eB] at s2
  rw [dA] at d1
  rw [dB] at d2
  rw [cB'] at c2
  rw [kA] at k1
  rw [kB] at k2
  have h4' : md μ (9000 * 0) 0 x = k - μ.1 132 i := by
    have := h4
    unfold fD at this
    rw [h0] at this; exact this
  have h5' : ∀ j, 0 ≤ j → j < k - μ.1 132 i → mk μ (9000 * 0) 0 x j = μ.1 137 (μ.1 132 i + j) := by
    have := h5
    unfold fK at this
    rw [h0] at this; exact this
  have ex : x + 1 + 1 = x + 2 := by omega
  rw [ex] at s2 d2 c2 k2
  refine ⟨⟨n0, by omega⟩, ⟨z1, z2⟩, ⟨⟨B, h1, ⟨by omega, z5⟩, ?_, ?_, ?_⟩, ?_⟩, ⟨z9, by omega⟩, ⟨B, h1, ⟨z7, z8⟩, ?_, ?_, ?_⟩⟩
  · unfold fH
    rw [h0]; omega
  · unfold fD
    rw [h0]; omega
  · unfold fD fK
    rw [h0]
    intro j j0 j1
    rw [k2, k1]
    exact (h5' j j0 (by omega)).symm
  · unfold fC
    rw [h0]; exact c2
  · unfold fO
    rw [h0]; exact z10
  · unfold fD
    rw [h0, z11.1]; exact h4'
  · unfold fK
    rw [h0]
    intro j j0 j1
    rw [z11.2 j (by omega)]
    exact h5' j j0 j1
theorem LC.r {μ : M3} {i k x : Int} (h : LC μ i k x) : 0 ≤ x ∧ x ≤ 8989 := by
  obtain ⟨B, h1, h2, -⟩ := h
  have q : 0 ≤ fA μ i ∧ fA μ i ≤ B ∧ B ≤ 8989 := h1.1
  omega
/-- a frame more -/
theorem MZ.en {μ ν : M3} {t g n : Int} (h : MZ μ) (hn : n = μ.1 111 47) (h23 : n ≤ 23) (ht : 0 ≤ t ∧ t ≤ 3) (hg : 0 ≤ g ∧ g < μ.1 122 t) (hA : 1 ≤ n → A1 μ) (A : Eqa [114, 115, 116, 117, 119, 120, 121, 122, 135, 136, 137, 138, 140, 141, 142, 143, 144, 145, 146, 147, 148, 149, 150, 151, 152, 156, 157, 158, 159, 163, 165, 166] μ ν) (F : Eqf [4, 53, 61, 65, 68, 69, 81, 82, 83, 84, 95, 96, 97, 104] μ ν) (e47 : ν.1 111 47 = n + 1) (e27 : ∀ j, j ≠ n → ν.1 127 j = μ.1 127 j) (e28 : ∀ j, j ≠ n → ν.1 128 j = μ.1 128 j) (e29 : ∀ j, j ≠ n → ν.1 129 j = μ.1 129 j) (e31 : ∀ j, j ≠ n → ν.1 131 j = μ.1 131 j) (e32 : ∀ j, j ≠ n → ν.1 132 j = μ.1 132 j) (v27 : ν.1 127 n = t) (v28 : ν.1 128 n = g) (v29 : ν.1 129 n = μ.1 119 (40 * t + g)) (v31 : ν.1 131 n = μ.1 111 53) (v32 : ν.1 132 n = μ.1 111 61) (e33 : ∀ j, j < 320 * n → ν.1 133 j = μ.1 133 j) (e34 : ∀ j, j < 320 * n → ν.1 134 j = μ.1 134 j) (z33 : ∀ v, 0 ≤ v → v < μ.1 121 (40 * t + g) → v < 320 → ν.1 133 (320 * n + v) = 0) (hm : n = 0 → μ.1 111 53 = 0 ∧ μ.1 111 61 = 0) (h94 : ν.1 111 94 = 0) : MZ ν ∧ RES ν (RX μ + 29000) := by
  have c : Cs μ ν := A.cs (by decide) (F 4 (by decide))
  have u : up2 μ ν := up2.eq (F 65 (by decide)) (F 82 (by decide))
  have hN := h.n
  obtain ⟨E, row⟩ := (h.1.2.1 t ht.1 ht.2).2 g hg.1 hg.2
  have ft := row.ft
  have ftn : FY ν t (μ.1 119 (40 * t + g)) (E + 1) (μ.1 121 (40 * t + g)) := ft.cs c
  have fo := c.fo (9000 * t) t
  obtain ⟨b1, b2, b3, b4, b5, b6, b7, b8, b9⟩ := h
  have hA2 : 1 ≤ n → 1 ≤ μ.1 111 47 ∧ A1 μ := fun z => ⟨by omega, hA z⟩
  have tpn : TP ν n (μ.1 119 (40 * t + g)) (μ.1 111 53) (μ.1 111 61) ∧ fC ν n (μ.1 119 (40 * t + g)) = 0 := by
    refine ⟨⟨E + 1, ?_, ?_, ?_, ?_, ?_⟩, ?_⟩
    · unfold fT fA fS
      rw [v27, v28, c.1 119 (by decide), c.1 121 (by decide)]; exact ftn
    · unfold fA
      rw [v27, v28, c.1 119 (by decide)]; have := ft.1; omega
    · unfold fH
      rw [v27, v31, ftn.2.2.1.1]; omega
    · unfold fD
      rw [v27, v32, ftn.2.2.1.2.2]; omega
    · unfold fD
      rw [v27, ftn.2.2.1.2.2]
      intro j j0 j1
      omega
    · unfold fC
      rw [v27]; exact ftn.2.2.1.2.1
  have hM : MZ ν := by
    unfold MZ
    rw [e47, F 61 (by decide), F 53 (by decide)]
    have b3' : FRS ν n (μ.1 111 61) := by
      have q := b3.mv (m := n) (b2 := μ.1 111 61) b4.1 c (by omega) (fun z => by unfold nb; rw [if_neg (by omega)]; exact Int.le_refl _) (fun j hj => e27 j (by omega)) (fun j hj => e28 j (by omega)) (fun j hj => e29 j (by omega)) (fun j hj => e31 j (by omega)) (fun j hj => e32 j (by omega)) (fun j _ => A 137 (by decide) j) (fun j _ => A 138 (by decide) j) (fun j _ => A 140 (by decide) j) (fun j _ => A 141 (by decide) j) (fun j _ => A 143 (by decide) j) u.2 (fun j _ _ => A 149 (by decide) j)
      exact q
    refine ⟨b1.mv (A.sb (by decide)) (fun j hj => F j ((by decide : ∀ j ∈ ([4, 65, 68, 69, 81, 82, 95, 96, 97, 104] : List Int), j ∈ ([4, 53, 61, 65, 68, 69, 81, 82, 83, 84, 95, 96, 97, 104] : List Int)) j hj)) ?_, by omega, fun i i0 i1 => ?_, ⟨?_, b4.2⟩, ?_, fun i v i0 i1 v0 v1 v2 => ?_, b7.mv (Int.le_refl _) u (fun j _ => A 137 (by decide) j) (fun j _ => A 141 (by decide) j) (fun j _ => A 142 (by decide) j) (fun j _ => A 143 (by decide) j), ⟨?_, b8.2⟩, b9.mv u (Int.le_refl _) (fun j _ _ => A 135 (by decide) j) (fun j _ _ => A 136 (by decide) j)⟩
    · have s1 := b1.2.2.2.1.1
      have s2 := b1.2.2.2.2.2.2
      rw [F 83 (by decide), F 84 (by decide)]; omega
    · by_cases e : i = n
      · subst e
        refine ⟨?_, fun z => absurd z (by omega), fun k k0 k1 => ?_⟩
        · unfold FRb
          rw [v27, v28, v31, v32, c.1 122 (by decide)]
          refine ⟨ht, hg, ?_, ?_⟩
          · by_cases z : 1 ≤ i
            · have t1 := (hA2 z).2.1.d0
              have t2 := (b3 (μ.1 111 47 - 1) (by omega) (by omega)).1.2.2.1
              omega
            · have := hm (by omega); omega
          · by_cases z : 1 ≤ i
            · have t1 := (hA2 z).2.1.d0
              have t2 := (b3 (μ.1 111 47 - 1) (by omega) (by omega)).1.2.2.2
              omega
            · have := hm (by omega); omega
        · unfold nb at k1
          rw [if_neg (by omega)] at k1
          rw [v32] at k0; omega
      · obtain ⟨g1, g2, g3⟩ := b3' i i0 (by omega)
        refine ⟨g1, fun z => ?_, fun k k0 k1 => ?_⟩
        · by_cases e2 : i + 1 = n
          · have t1 := (hA2 (by omega)).2
            have hi : μ.1 111 47 - 1 = i := by omega
            unfold A1 at t1
            rw [hi] at t1
            rw [e2, v31, v32, e29 i e, e31 i e]
            refine ⟨t1.1.mv c (e27 i e) (e28 i e) (e31 i e) (e32 i e) (fun j _ => A 137 (by decide) j), ?_, ?_⟩
            · rw [(frm c (e27 i e) (e28 i e)).2.2.1]; exact t1.2
            · have := b8.1
              rw [FL_1 (by omega), hi] at this; exact this
          · exact g2 (by omega)
        · refine g3 k k0 ?_
          unfold nb at k1 ⊢
          rw [if_pos (by omega)] at k1
          by_cases e2 : i + 1 = n
          · rw [if_neg (by omega)]
            rw [e2, v32] at k1; exact k1
          · rw [if_pos (by omega)]; exact k1
    · rw [FB_1 (by omega), show n + 1 - 1 = n by omega, v32]; exact Int.le_refl _
    · rw [F 81 (by decide), F 83 (by decide)]; exact b5
    · by_cases e : i = n
      · subst e
        unfold fS at v1
        rw [v27, v28, c.1 121 (by decide)] at v1
        rw [z33 v v0 v1 v2]; exact VV.n0
      · unfold fS at v1
        rw [e27 i e, e28 i e, c.1 121 (by decide)] at v1
        rw [e33 _ (by omega), e34 _ (by omega)]
        exact VV.u (b6 i v i0 (by omega) v0 v1 v2) u
    · rw [FL_1 (by omega), show n + 1 - 1 = n by omega, v31]; exact Int.le_refl _
  refine ⟨hM, ?_⟩
  have r := RES.at_ (n := n + 1) (x := μ.1 119 (40 * t + g)) hM e47 (by omega) h94 (by rw [show n + 1 - 1 = n by omega]; exact v29) (by rw [show n + 1 - 1 = n by omega, F 53 (by decide), F 61 (by decide)]; exact tpn.1) (by rw [show n + 1 - 1 = n by omega]; exact tpn.2)
  have q : RX ν = RX μ + 20000 := by
    unfold RX
    rw [e47, F 61 (by decide), F 83 (by decide), cB_eq (fun j _ => A 137 (by decide) j)]
    omega
  exact r.le (by have := tpn.1.pc; omega)
/-- what a FAILURE came from -/
theorem MZ.gf {μ : M3} {g x : Int} (h : MZ μ) (hx : -1 ≤ x ∧ x < g) : MZ (sv μ 156 g x) := by
  have q : ∀ j, (sv μ 156 g x).1 111 j = μ.1 111 j := fun j => sv_a μ g j x (by decide)
  have e : ∀ a, a ≠ 156 → ∀ j, (sv μ 156 g x).1 a j = μ.1 a j := fun a ha j => sv_a μ g j x ha
  obtain ⟨b1, b2, b3, b4, b5, b6, b7, b8, b9⟩ := h
  have c : Cs μ (sv μ 156 g x) := ⟨fun a ha j => e a (fun z => by rw [z] at ha; revert ha; decide) j, q 4⟩
  have u : up2 μ (sv μ 156 g x) := up2.eq (q 65) (q 82)
  obtain ⟨d1, d2, d3, d4, d5, d6, d7⟩ := b1
  have y := fun a (ha : a ≠ 156) => e a ha
  unfold MZ
  rw [q 47, q 53, q 61]
  refine ⟨⟨d1.cs c, d2.cs c, ⟨?_, ?_, ?_⟩, ⟨?_, ?_, ?_, ?_⟩, ?_, ⟨?_, ?_⟩, ?_⟩, b2, b3.mv b4.1 c (Int.le_refl _) (fun _ => ?_) (fun j _ => e 127 (by decide) j) (fun j _ => e 128 (by decide) j) (fun j _ => e 129 (by decide) j) (fun j _ => e 131 (by decide) j) (fun j _ => e 132 (by decide) j) (fun j _ => e 137 (by decide) j) (fun j _ => e 138 (by decide) j) (fun j _ => e 140 (by decide) j) (fun j _ => e 141 (by decide) j) (fun j _ => e 143 (by decide) j) u.2 (fun j _ _ => e 149 (by decide) j), ⟨?_, b4.2⟩, ?_, b6.mv (Int.le_refl _) c u (fun j _ => e 127 (by decide) j) (fun j _ => e 128 (by decide) j) (fun j _ => e 133 (by decide) j) (fun j _ => e 134 (by decide) j), b7.mv (Int.le_refl _) u (fun j _ => e 137 (by decide) j) (fun j _ => e 141 (by decide) j) (fun j _ => e 142 (by decide) j) (fun j _ => e 143 (by decide) j), ⟨?_, b8.2⟩, b9.mv u (Int.le_refl _) (fun j _ _ => e 135 (by decide) j) (fun j _ _ => e 136 (by decide) j)⟩
  · rw [q 65, q 68, q 69]; exact d3.1
  · intro x2 x0 x1
    rw [q 65] at x1
    rw [e 144 (by decide), e 145 (by decide), e 146 (by decide), q 68]
    exact d3.2.1 x2 x0 x1
  · exact d3.2.2.mv u (by rw [q 68]; exact Int.le_refl _) (fun j _ _ => e 147 (by decide) j) (fun j _ _ => e 148 (by decide) j)
  · rw [q 82, q 83, q 81]; exact d4.1
  · intro y g0 g1
    rw [q 82] at g1
    rw [e 149 (by decide), e 150 (by decide), e 157 (by decide), q 4, q 81]
    have z := d4.2.1 y g0 g1
    refine ⟨z.1, z.2.1, ?_, z.2.2.2⟩
    by_cases hy : y = g
    · rw [hy, sv_s]; exact hx
    · rw [sv_k μ x hy]; exact z.2.2.1
  · exact d4.2.2.1.mv u (by rw [q 82]; exact Int.le_refl _) (fun j _ _ => e 151 (by decide) j) (fun j _ _ => e 152 (by decide) j)
  · intro j j0 j1
    rw [q 81] at j1
    rw [e 158 (by decide), e 159 (by decide), q 82]
    exact d4.2.2.2 j j0 j1
  · unfold EN
    rw [q 104, q 4]
    refine ⟨d5.1, fun k t u k0 k1 h => ?_, fun t u => ?_⟩
    · rw [e 163 (by decide)] at h
      rw [e 165 (by decide)]
      exact d5.2.1 k t u k0 k1 h
    · rw [e 166 (by decide)]
      exact d5.2.2 t u
  · rw [q 95, q 96]; exact VV.u d6.1 u
  · rw [q 97, q 82]; exact d6.2
  · rw [q 84]; exact d7
  · unfold nb
    rw [if_neg (by omega)]; exact Int.le_refl _
  · rw [FB.eq (fun j _ => e 132 (by decide) j)]; exact b4.1
  · rw [q 81, q 83]; exact b5
  · rw [FL.eq (fun j _ => e 131 (by decide) j)]; exact b8.1
theorem MZ.bk {μ : M3} {n k : Int} (h : MZ μ) (en : μ.1 111 47 = n) (h1 : 1 ≤ n) (hk : μ.1 132 (n - 1) ≤ k ∧ k < μ.1 111 61) : BK μ (n - 1) k ∧ (μ.1 137 k = 2 → (0 ≤ μ.1 141 k ∧ μ.1 141 k ≤ 2) ∧ (μ.1 141 k = 1 → vv μ (μ.1 142 k) (μ.1 143 k)) ∧ (μ.1 141 k = 2 → 0 ≤ μ.1 143 k ∧ μ.1 143 k < μ.1 111 82)) := by
  have q := h.2.2.1 (n - 1) (by omega) (by omega)
  have t := q.1.2.2.2
  refine ⟨q.2.2 k hk.1 ?_, h.2.2.2.2.2.2.1 k (by omega) hk.2⟩
  unfold nb
  rw [if_neg (by omega)]; exact hk.2
theorem BK.f {μ : M3} {i k j x : Int} (h : BK μ i k) (hj : j ≠ 4 ∧ j ≠ 82) : BK (sv μ 111 j x) i k :=
  have e : ∀ a, a ≠ 111 → ∀ y, (sv μ 111 j x).1 a y = μ.1 a y := fun a ha y => sv_a μ j y x ha
  h.mv ⟨fun a ha y => e a (fun z => by rw [z] at ha; revert ha; decide) y, sv_k μ x (fun z => hj.1 z.symm)⟩ (e 127 (by decide) i) (e 128 (by decide) i) (e 131 (by decide) i) (e 132 (by decide) i) (fun y _ => e 137 (by decide) y) (e 138 (by decide) k) (e 140 (by decide) k) (e 141 (by decide) k) (e 143 (by decide) k) (Int.le_of_eq (sv_k μ x (fun z => hj.2 z.symm)).symm) (fun g _ _ => e 149 (by decide) g)
theorem BK.fr {L : List Int} {μ ν : M3} {i k : Int} (h : BK μ i k) (F : FrM L μ ν) (hL : (([114, 115, 116, 117, 119, 120, 121, 122, 127, 128, 131, 132, 137, 138, 140, 141, 143, 149] : List Int).all fun a => !L.contains a) = true) (h4 : ν.1 111 4 = μ.1 111 4) (h82 : μ.1 111 82 ≤ ν.1 111 82) : BK ν i k := by
  have A := Eqa.fr F hL
  exact h.mv (A.cs (by decide) h4) (A 127 (by decide) i) (A 128 (by decide) i) (A 131 (by decide) i) (A 132 (by decide) i) (fun y _ => A 137 (by decide) y) (A 138 (by decide) k) (A 140 (by decide) k) (A 141 (by decide) k) (A 143 (by decide) k) h82 (fun g _ _ => A 149 (by decide) g)
/-- the part that finishes begins -/
theorem MZ.fin {μ ν : M3} {n k how kd it : Int} (h : MZ μ) (en : μ.1 111 47 = n) (h1 : 1 ≤ n) (hkb : μ.1 132 (n - 1) ≤ k) (ek : μ.1 111 61 = k + 1) (hκ : μ.1 137 k = 1) (A : Eqa [114, 115, 116, 117, 119, 120, 121, 122, 127, 128, 131, 132, 133, 134, 135, 136, 144, 145, 146, 147, 148, 149, 150, 151, 152, 156, 157, 158, 159, 163, 165, 166] μ ν) (F : Eqf [4, 47, 65, 68, 69, 81, 82, 83, 84, 95, 96, 97, 104] μ ν) (e29 : ∀ j, j + 1 < n → ν.1 129 j = μ.1 129 j) (v29 : ν.1 129 (n - 1) = μ.1 138 k) (e61 : ν.1 111 61 = k + 1) (e53 : ν.1 111 53 = μ.1 140 k) (E : ∀ a, a ∈ ([137, 138, 140, 141, 142, 143] : List Int) → ∀ j, j ≠ k → ν.1 a j = μ.1 a j) (v37 : ν.1 137 k = 2) (v40 : ν.1 140 k = μ.1 140 k) (v41 : ν.1 141 k = how) (v42 : how = 1 → ν.1 142 k = kd) (v43 : 1 ≤ how → ν.1 143 k = it) (hhow : 0 ≤ how ∧ how ≤ 2) (hv : how = 1 → vv μ kd it) (hg : how = 2 → (0 ≤ it ∧ it < μ.1 111 82) ∧ μ.1 149 it = μ.1 127 (n - 1)) (h94 : ν.1 111 94 = 0) : RES ν (RX μ - 1) := by
  have c : Cs μ ν := A.cs (by decide) (F 4 (by decide))
  have hN := h.n
  have bk := (h.bk en h1 ⟨hkb, by omega⟩).1
  have hp : MZ (sv μ 111 61 k) := h.bl1 en rfl h1 ⟨hkb, by omega⟩
  have p1 : ∀ j, j ≠ 61 → (sv μ 111 61 k).1 111 j = μ.1 111 j := fun j hj => sv_k μ k hj
  have p2 : (sv μ 111 61 k).1 111 61 = k := sv_s _ _ _ _
  have p3 : ∀ a, a ≠ 111 → ∀ j, (sv μ 111 61 k).1 a j = μ.1 a j := fun a ha j => sv_a μ 61 j k ha
  have fl := hN.2.2.1
  rw [en, FL_1 h1] at fl
  have fb := hN.2.1
  rw [en, FB_1 h1] at fb
  obtain ⟨k1, k2, k3, k4, k5, k6, k7, k8⟩ := bk
  have ld := k5 hκ
  have ldn : LD ν (n - 1) k (μ.1 138 k) 1 := ld.mv c (A 127 (by decide) _) (A 128 (by decide) _) (A 132 (by decide) _) (fun j hj => E 137 (by decide) j (by omega))
  have t1 : μ.1 127 (n - 1) ≠ 1 := fun z => by have := k3 z; omega
  have hM : MZ ν := by
    refine MZ.bp hp (by rw [p1 47 (by decide)]; omega) (fun a ha j => (A a ha j).trans (p3 a (fun z => by rw [z] at ha; revert ha; decide) j).symm) (fun j hj => (F j hj).trans (p1 j (fun z => by rw [z] at hj; revert hj; decide)).symm) ?_ (by rw [e61, p2]) ?_ ?_ (fun a ha j hj => ?_) ?_ ?_
    · rw [p1 47 (by decide), en]
      intro j hj
      rw [p3 129 (by decide)]; exact e29 j hj
    · rw [p2, p1 81 (by decide), p1 83 (by decide)]; omega
    · rw [p1 47 (by decide), p1 53 (by decide), e53, k1, FL.eq (fun j _ => p3 131 (by decide) j), en, FL_1 h1]; omega
    · rw [p2] at hj
      rw [p3 a (fun z => by rw [z] at ha; revert ha; decide)]; exact E a ha j hj
    · rw [p1 47 (by decide), p2, en]
      unfold BK
      rw [v37, v40, v41, A 127 (by decide), A 131 (by decide)]
      refine ⟨k1, by decide, fun z => absurd z t1, fun z => absurd z (by decide), fun z => absurd z (by decide), fun z => absurd z (by decide), fun z => absurd z (by decide), fun _ z => ?_⟩
      have q := hg z
      rw [v43 (by omega), A 149 (by decide), F 82 (by decide)]; exact q
    · rw [p2, v37, v41, p1 82 (by decide)]
      intro _
      refine ⟨hhow, fun z => ?_, fun z => ?_⟩
      · rw [v42 z, v43 (by omega)]
        show VV _ _ _ _
        rw [p1 65 (by decide), p1 82 (by decide)]; exact hv z
      · rw [v43 (by omega)]; exact (hg z).1
  have tp := ldn.tp1 v37
  have r := RES.at_ (n := n) hM (by rw [F 47 (by decide)]; exact en) h1 h94 v29 (by rw [e53, k1, e61, ← A 131 (by decide)]; exact tp.1) tp.2
  have q := RX.d2 (μ := μ) (ν := ν) (k := k) (fun j hj => E 137 (by decide) j (by omega)) (F 47 (by decide)) (F 83 (by decide)) e61 (by omega) (by omega) (by omega) v37
  exact r.le (by have := tp.1.pc; omega)
