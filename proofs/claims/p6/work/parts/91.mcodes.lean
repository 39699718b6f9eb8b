/-! the reference's four codes, between two calls -/
def shM (ν : M3) (d : Int) : M3 := (fun a k => ν.1 a (k + d), ν.2)
theorem shM.c {ν : M3} {b d : Int} : cdm (shM ν d) b = cdm ν (b + d) := by
  funext i k
  unfold cdm shM
  show (if k = 0 then ν.1 115 (b + i + d) else if k = 1 then ν.1 116 (b + i + d) else ν.1 117 (b + i + d)) = _
  rw [show b + i + d = b + d + i by omega]
theorem mSX.sh {π ν : M3} {b b2 t N A B e M H : Int} {X : Int → Prop} (e0 : cdm π b = cdm ν b2) : (mh π b = mh ν b2 ∧ mc π b t = mc ν b2 t ∧ md π b t = md ν b2 t ∧ mk π b t = mk ν b2 t) ∧ (mSX π b t N A B e M H X → mSX ν b2 t N A B e M H X) := by
  have key : ∀ n : Nat, mpN π b n = mpN ν b2 n ∧ mhN π b n = mhN ν b2 n ∧ mcN π b t n = mcN ν b2 t n ∧ mdN π b t n = mdN ν b2 t n ∧ mkN π b t n = mkN ν b2 t n := by
    intro n
    induction n with
    | zero => exact ⟨rfl, rfl, rfl, rfl, rfl⟩
    | succ n ih =>
      obtain ⟨a0, a1, a2, a3, a4⟩ := ih
      refine ⟨?_, ?_, ?_, ?_, ?_⟩
      · show cdm π b n 0 = cdm ν b2 n 0
        rw [e0]
      · show mhN π b n + eem (cdm π b n 0) (cdm π b n 2) = mhN ν b2 n + eem (cdm ν b2 n 0) (cdm ν b2 n 2)
        rw [a1, e0]
      · show cem t (cdm π b n 0) (mcN π b t n) = cem t (cdm ν b2 n 0) (mcN ν b2 t n)
        rw [a2, e0]
      · show mdN π b t n + dem t (mpN π b n) (cdm π b n 0) = mdN ν b2 t n + dem t (mpN ν b2 n) (cdm ν b2 n 0)
        rw [a3, a0, e0]
      · show bem t (mpN π b n) (cdm π b n 0) (mdN π b t n) (mkN π b t n) = bem t (mpN ν b2 n) (cdm ν b2 n 0) (mdN ν b2 t n) (mkN ν b2 t n)
        rw [a4, a3, a0, e0]
  have e1 : mh π b = mh ν b2 := funext fun i => (key i.toNat).2.1
  have e2 : mc π b t = mc ν b2 t := funext fun i => (key i.toNat).2.2.1
  have e3 : md π b t = md ν b2 t := funext fun i => (key i.toNat).2.2.2.1
  have e4 : mk π b t = mk ν b2 t := funext fun i => (key i.toNat).2.2.2.2
  refine ⟨⟨e1, e2, e3, e4⟩, fun h => ?_⟩
  unfold mSX lcq lcq0 mtg msd at h ⊢
  rw [e0, e1, e2, e3, e4] at h
  exact h
/-- TONGUE t's code and functions -/
def mCD (μ : M3) (t : Int) : Prop := ∃ n, (0 ≤ n ∧ n ≤ 8990) ∧ mSX μ (9000 * t) t (μ.1 111 4) 0 n 0 18 101 NX ∧ mc μ (9000 * t) t n = 0 ∧ (0 ≤ μ.1 122 t ∧ μ.1 122 t ≤ 40) ∧ ∀ k, 0 ≤ k → k < μ.1 122 t → (0 ≤ μ.1 119 (40 * t + k) ∧ μ.1 119 (40 * t + k) < n) ∧ mh μ (9000 * t) (μ.1 119 (40 * t + k)) = 0 ∧ mc μ (9000 * t) t (μ.1 119 (40 * t + k)) = 0 ∧ md μ (9000 * t) t (μ.1 119 (40 * t + k)) = 0 ∧ (0 ≤ μ.1 120 (40 * t + k) ∧ μ.1 120 (40 * t + k) ≤ 300) ∧ (0 ≤ μ.1 121 (40 * t + k) ∧ μ.1 121 (40 * t + k) ≤ 300)
theorem mCD.kp {μ ν : M3} {u : Int} (h : mCD μ u) (hN : μ.1 111 4 ≤ ν.1 111 4) (k15 : ∀ j, 9000 * u ≤ j → j < 9000 * u + 8990 → ν.1 115 j = μ.1 115 j) (k16 : ∀ j, 9000 * u ≤ j → j < 9000 * u + 8990 → ν.1 116 j = μ.1 116 j) (k17 : ∀ j, 9000 * u ≤ j → j < 9000 * u + 8990 → ν.1 117 j = μ.1 117 j) (k19 : ∀ j, 40 * u ≤ j → j < 40 * u + 40 → ν.1 119 j = μ.1 119 j) (k20 : ∀ j, 40 * u ≤ j → j < 40 * u + 40 → ν.1 120 j = μ.1 120 j) (k21 : ∀ j, 40 * u ≤ j → j < 40 * u + 40 → ν.1 121 j = μ.1 121 j) (k22 : ν.1 122 u = μ.1 122 u) : mCD ν u := by
  obtain ⟨n, h1, h2, h3, h4, h5⟩ := h
  have cd : ∀ i k, 0 ≤ i → i < n → cdm ν (9000 * u) i k = cdm μ (9000 * u) i k := fun i k i0 i1 => by
    unfold cdm
    rw [k15 _ (by omega) (by omega), k16 _ (by omega) (by omega), k17 _ (by omega) (by omega)]
  have z := mfolds (μ := μ) (ν := ν) (b := 9000 * u) (t := u) (n := n) (fun i i0 i1 => by rw [cd i 0 i0 i1, cd i 2 i0 i1]; exact ⟨rfl, rfl⟩)
  have K : mKX μ ν (9000 * u) u 0 n NX := ⟨fun i k _ i0 i1 _ => cd i k i0 i1, fun i _ i1 => z i i1⟩
  refine ⟨n, h1, h2.kx K hN (fun _ _ _ z => z.elim) (fun _ _ _ _ _ _ _ z => z) (fun _ _ _ z => z.elim), by rw [(z n (Int.le_refl _)).2.1]; exact h3, by rw [k22]; exact h4, fun k k0 k1 => ?_⟩
  rw [k22] at k1
  have q := h5 k k0 k1
  have y := z (μ.1 119 (40 * u + k)) (by omega)
  rw [k19 _ (by omega) (by omega), k20 _ (by omega) (by omega), k21 _ (by omega) (by omega), y.1, y.2.1, y.2.2.1]
  exact q
/-- a text that was read becomes the TONGUE's code -/
theorem mCD.of {μ ν : M3} {t : Int} (h : mFN μ t) (hn : μ.1 111 22 ≤ 8990) (hN : ν.1 111 4 = μ.1 111 29) (c15 : ∀ j, 0 ≤ j → j < μ.1 111 22 → ν.1 115 (9000 * t + j) = μ.1 115 (36000 + j)) (c16 : ∀ j, 0 ≤ j → j < μ.1 111 22 → ν.1 116 (9000 * t + j) = μ.1 116 (36000 + j)) (c17 : ∀ j, 0 ≤ j → j < μ.1 111 22 → ν.1 117 (9000 * t + j) = μ.1 117 (36000 + j)) (c19 : ∀ j, 0 ≤ j → j < μ.1 122 4 → ν.1 119 (40 * t + j) = μ.1 119 (160 + j)) (c20 : ∀ j, 0 ≤ j → j < μ.1 122 4 → ν.1 120 (40 * t + j) = μ.1 120 (160 + j)) (c21 : ∀ j, 0 ≤ j → j < μ.1 122 4 → ν.1 121 (40 * t + j) = μ.1 121 (160 + j)) (c22 : ν.1 122 t = μ.1 122 4) : mCD ν t := by
  obtain ⟨h1, h2, h3, h4⟩ := h
  have e0 : cdm (shM ν (9000 * t - 36000)) cR = cdm ν (9000 * t) := by
    rw [shM.c]
    unfold cR
    rw [show (36000 : Int) + (9000 * t - 36000) = 9000 * t by omega]
  have cd : ∀ i k, 0 ≤ i → i < μ.1 111 22 → cdm (shM ν (9000 * t - 36000)) cR i k = cdm μ cR i k := fun i k i0 i1 => by
    rw [e0]
    unfold cdm cR
    rw [c15 i i0 i1, c16 i i0 i1, c17 i i0 i1]
  have z := mfolds (μ := μ) (ν := shM ν (9000 * t - 36000)) (b := cR) (t := t) (n := μ.1 111 22) (fun i i0 i1 => by rw [cd i 0 i0 i1, cd i 2 i0 i1]; exact ⟨rfl, rfl⟩)
  have K : mKX μ (shM ν (9000 * t - 36000)) cR t 0 (μ.1 111 22) NX := ⟨fun i k _ i0 i1 _ => cd i k i0 i1, fun i _ i1 => z i i1⟩
  have s := h1.kx K (N2 := ν.1 111 4) (by rw [hN]; exact Int.le_refl _) (fun _ _ _ z => z.elim) (fun _ _ _ _ _ _ _ z => z) (fun _ _ _ z => z.elim)
  obtain ⟨⟨f1, f2, f3, f4⟩, g⟩ := mSX.sh (t := t) (N := ν.1 111 4) (A := 0) (B := μ.1 111 22) (e := 0) (M := 18) (H := 101) (X := NX) e0
  refine ⟨μ.1 111 22, ⟨h1.1.2, hn⟩, g s, by rw [← f2, (z _ (Int.le_refl _)).2.1]; exact h2, by rw [c22]; exact h3, fun k k0 k1 => ?_⟩
  rw [c22] at k1
  have q := h4 k k0 k1
  have y := z (μ.1 119 (160 + k)) (by omega)
  rw [c19 k k0 k1, c20 k k0 k1, c21 k k0 k1, ← f1, ← f2, ← f3, y.1, y.2.1, y.2.2.1]
  exact q
def mPR (μ : M3) : Prop := ∀ u, 0 ≤ u → u ≤ 3 → mCD μ u
theorem NPr.cp {μ ν : M3} {a b n : Int} (h : NPr μ a n) (hn : n ≤ 64) (e : ∀ j, 0 ≤ j → j < 64 → ν.1 b j = μ.1 a j) : NPr ν b n := by
  obtain ⟨rk, q⟩ := h
  exact ⟨rk, fun k k1 k2 => by rw [e k (by omega) (by omega)]; exact q k k1 k2⟩
/-- what load rests on, and keeps -/
def mLI (μ : M3) : Prop := (12 ≤ μ.1 111 4 ∧ μ.1 111 4 ≤ 52) ∧ NPr μ 114 (μ.1 111 4) ∧ (0 ≤ μ.1 111 31 ∧ μ.1 111 31 ≤ 300) ∧ (-1 ≤ μ.1 111 11 ∧ μ.1 111 11 ≤ 32) ∧ (0 ≤ μ.1 111 2 ∧ μ.1 111 2 ≤ 3000) ∧ mPR μ
