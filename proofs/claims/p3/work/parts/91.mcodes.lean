/-! the reference's four codes, between two calls -/
/-- function k of TONGUE t: typed from its place to E -/
def fROW (μ : M3) (t k E : Int) : Prop := fOK μ (9000 * t) t (μ.1 111 4) (μ.1 119 (40 * t + k)) E (μ.1 121 (40 * t + k)) ∧ E + 2 ≤ 8990 ∧ (0 ≤ μ.1 120 (40 * t + k) ∧ μ.1 120 (40 * t + k) ≤ 300) ∧ (0 ≤ μ.1 121 (40 * t + k) ∧ μ.1 121 (40 * t + k) ≤ 300)
/-- TONGUE t's code and functions -/
def mCD (μ : M3) (t : Int) : Prop := (0 ≤ μ.1 122 t ∧ μ.1 122 t ≤ 40) ∧ ∀ k, 0 ≤ k → k < μ.1 122 t → ∃ E, fROW μ t k E
theorem fROW.kp {μ ν : M3} {u k E : Int} (h : fROW μ u k E) (hN : μ.1 111 4 ≤ ν.1 111 4) (k15 : ∀ j, 9000 * u ≤ j → j < 9000 * u + 8990 → ν.1 115 j = μ.1 115 j) (k16 : ∀ j, 9000 * u ≤ j → j < 9000 * u + 8990 → ν.1 116 j = μ.1 116 j) (k17 : ∀ j, 9000 * u ≤ j → j < 9000 * u + 8990 → ν.1 117 j = μ.1 117 j) (k19 : ν.1 119 (40 * u + k) = μ.1 119 (40 * u + k)) (k20 : ν.1 120 (40 * u + k) = μ.1 120 (40 * u + k)) (k21 : ν.1 121 (40 * u + k) = μ.1 121 (40 * u + k)) : fROW ν u k E := by
  obtain ⟨h1, h2, h3, h4⟩ := h
  refine ⟨?_, h2, by rw [k20]; exact h3, by rw [k21]; exact h4⟩
  rw [k19, k21]
  refine h1.mv h2 hN (fun i k _ i0 i1 => ?_)
  unfold cdm
  rw [k15 _ (by omega) (by omega), k16 _ (by omega) (by omega), k17 _ (by omega) (by omega)]
theorem mCD.kp {μ ν : M3} {u : Int} (h : mCD μ u) (hN : μ.1 111 4 ≤ ν.1 111 4) (k15 : ∀ j, 9000 * u ≤ j → j < 9000 * u + 8990 → ν.1 115 j = μ.1 115 j) (k16 : ∀ j, 9000 * u ≤ j → j < 9000 * u + 8990 → ν.1 116 j = μ.1 116 j) (k17 : ∀ j, 9000 * u ≤ j → j < 9000 * u + 8990 → ν.1 117 j = μ.1 117 j) (k19 : ∀ j, 40 * u ≤ j → j < 40 * u + 40 → ν.1 119 j = μ.1 119 j) (k20 : ∀ j, 40 * u ≤ j → j < 40 * u + 40 → ν.1 120 j = μ.1 120 j) (k21 : ∀ j, 40 * u ≤ j → j < 40 * u + 40 → ν.1 121 j = μ.1 121 j) (k22 : ν.1 122 u = μ.1 122 u) : mCD ν u := by
  obtain ⟨h4, h5⟩ := h
  refine ⟨by rw [k22]; exact h4, fun k k0 k1 => ?_⟩
  rw [k22] at k1
  obtain ⟨E, q⟩ := h5 k k0 k1
  exact ⟨E, q.kp hN k15 k16 k17 (k19 _ (by omega) (by omega)) (k20 _ (by omega) (by omega)) (k21 _ (by omega) (by omega))⟩
/-- a text that was read becomes the TONGUE's code -/
theorem mCD.of {μ ν : M3} {t : Int} (h : mFN μ t) (hn : μ.1 111 22 ≤ 8990) (hN : ν.1 111 4 = μ.1 111 29) (c15 : ∀ j, 0 ≤ j → j < μ.1 111 22 → ν.1 115 (9000 * t + j) = μ.1 115 (36000 + j)) (c16 : ∀ j, 0 ≤ j → j < μ.1 111 22 → ν.1 116 (9000 * t + j) = μ.1 116 (36000 + j)) (c17 : ∀ j, 0 ≤ j → j < μ.1 111 22 → ν.1 117 (9000 * t + j) = μ.1 117 (36000 + j)) (c19 : ∀ j, 0 ≤ j → j < μ.1 122 4 → ν.1 119 (40 * t + j) = μ.1 119 (160 + j)) (c20 : ∀ j, 0 ≤ j → j < μ.1 122 4 → ν.1 120 (40 * t + j) = μ.1 120 (160 + j)) (c21 : ∀ j, 0 ≤ j → j < μ.1 122 4 → ν.1 121 (40 * t + j) = μ.1 121 (160 + j)) (c22 : ν.1 122 t = μ.1 122 4) : mCD ν t := by
  obtain ⟨h1, h3, h4⟩ := h
  refine ⟨by rw [c22]; exact h3, fun k k0 k1 => ?_⟩
  rw [c22] at k1
  obtain ⟨⟨E, q, qe⟩, q2, q3⟩ := h4 k k0 k1
  refine ⟨E, ?_, by omega, by rw [c20 k k0 k1]; exact q2, by rw [c21 k k0 k1]; exact q3⟩
  rw [c19 k k0 k1, c21 k k0 k1]
  refine q.mv (b := cR) qe (by omega) (fun i k _ i0 i1 => ?_)
  unfold cdm cR
  rw [c15 i i0 i1, c16 i i0 i1, c17 i i0 i1]
def mPR (μ : M3) : Prop := ∀ u, 0 ≤ u → u ≤ 3 → mCD μ u
theorem NPr.cp {μ ν : M3} {a b n : Int} (h : NPr μ a n) (hn : n ≤ 64) (e : ∀ j, 0 ≤ j → j < 64 → ν.1 b j = μ.1 a j) : NPr ν b n := by
  obtain ⟨rk, q⟩ := h
  exact ⟨rk, fun k k1 k2 => by rw [e k (by omega) (by omega)]; exact q k k1 k2⟩
/-- what load rests on, and keeps -/
def mLI (μ : M3) : Prop := (12 ≤ μ.1 111 4 ∧ μ.1 111 4 ≤ 52) ∧ NPr μ 114 (μ.1 111 4) ∧ (0 ≤ μ.1 111 31 ∧ μ.1 111 31 ≤ 300) ∧ (-1 ≤ μ.1 111 11 ∧ μ.1 111 11 ≤ 32) ∧ (0 ≤ μ.1 111 2 ∧ μ.1 111 2 ≤ 3000) ∧ mPR μ
