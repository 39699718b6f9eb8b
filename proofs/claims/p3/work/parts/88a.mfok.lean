/-! a function's code -/
def shM (ν : M3) (d : Int) : M3 := (fun a k => ν.1 a (k + d), ν.2)
theorem shM.c {ν : M3} {b d : Int} : cdm (shM ν d) b = cdm ν (b + d) := by
  funext i k
  unfold cdm shM
  show (if k = 0 then ν.1 115 (b + i + d) else if k = 1 then ν.1 116 (b + i + d) else ν.1 117 (b + i + d)) = _
  rw [show b + i + d = b + d + i by omega]
theorem mSX.sh {π ν : M3} {b b2 t : Int} {N : NS} {A B e M H : Int} {X : Int → Prop} (e0 : cdm π b = cdm ν b2) : (mh π b = mh ν b2 ∧ mc π b t = mc ν b2 t ∧ md π b t = md ν b2 t ∧ mk π b t = mk ν b2 t) ∧ (mSX π b t N A B e M H X → mSX ν b2 t N A B e M H X) := by
  have key : ∀ n : Nat, mpN π b n = mpN ν b2 n ∧ mhN π b n = mhN ν b2 n ∧ mcN π b t n = mcN ν b2 t n ∧ mdN π b t n = mdN ν b2 t n ∧ mkN π b t n = mkN ν b2 t n := by
    intro n
    induction n with
    | zero => exact ⟨rfl, rfl, rfl, rfl, rfl⟩
    | succ n ih =>
      obtain ⟨a0, a1, a2, a3, a4⟩ := ih
      refine ⟨?_, ?_, ?_, ?_, ?_⟩
      · show cdm π b n 0 = cdm ν b2 n 0
        rw [e0]
      · show mhN π b n + eem (cdm π b n 0) (cdm π b n 2) = mhN ν b2 n + eem (cdm ν b2 n 0) (cdm ν b2 n 2)
        rw [a1, e0]
      · show cem t (cdm π b n 0) (mcN π b t n) = cem t (cdm ν b2 n 0) (mcN ν b2 t n)
        rw [a2, e0]
      · show mdN π b t n + dem t (mpN π b n) (cdm π b n 0) = mdN ν b2 t n + dem t (mpN ν b2 n) (cdm ν b2 n 0)
        rw [a3, a0, e0]
      · show bem t (mpN π b n) (cdm π b n 0) (mdN π b t n) (mkN π b t n) = bem t (mpN ν b2 n) (cdm ν b2 n 0) (mdN ν b2 t n) (mkN ν b2 t n)
        rw [a4, a3, a0, e0]
  have e1 : mh π b = mh ν b2 := funext fun i => (key i.toNat).2.1
  have e2 : mc π b t = mc ν b2 t := funext fun i => (key i.toNat).2.2.1
  have e3 : md π b t = md ν b2 t := funext fun i => (key i.toNat).2.2.2.1
  have e4 : mk π b t = mk ν b2 t := funext fun i => (key i.toNat).2.2.2.2
  refine ⟨⟨e1, e2, e3, e4⟩, fun h => ?_⟩
  unfold mSX lcq lcq0 mtg msd at h ⊢
  rw [e0, e1, e2, e3, e4] at h
  exact h
/-- from A to E typed code, then NONE, RETURN; S slots -/
def fOK (μ : M3) (b t nm A E S : Int) : Prop := mSX μ b t ⟨nm, S⟩ A E 0 16 101 NX ∧ mh μ b A = 0 ∧ mc μ b t A = 0 ∧ mc μ b t E = 0 ∧ md μ b t A = 0 ∧ cdm μ b E 0 = 2 ∧ cdm μ b (E + 1) 0 = 9
theorem fOK.mv {μ ν : M3} {b b2 t nm nm2 A E S n : Int} (h : fOK μ b t nm A E S) (hE : E + 2 ≤ n) (hn : nm ≤ nm2) (cd : ∀ i k, kk k → 0 ≤ i → i < n → cdm ν b2 i k = cdm μ b i k) : fOK ν b2 t nm2 A E S := by
  have e0 : cdm (shM ν (b2 - b)) b = cdm ν b2 := by
    rw [shM.c, show b + (b2 - b) = b2 by omega]
  have cd2 : ∀ i k, kk k → 0 ≤ i → i < n → cdm (shM ν (b2 - b)) b i k = cdm μ b i k := fun i k hk i0 i1 => by rw [e0]; exact cd i k hk i0 i1
  have z := mfolds (μ := μ) (ν := shM ν (b2 - b)) (b := b) (t := t) (n := n) (fun i i0 i1 => by rw [cd2 i 0 k0 i0 i1, cd2 i 2 k2 i0 i1]; exact ⟨rfl, rfl⟩)
  obtain ⟨h1, h2, h3, h4, h5, h6, h7⟩ := h
  have b0 := h1.1
  have K : mKX μ (shM ν (b2 - b)) b t A E NX := ⟨fun i k hk i0 i1 _ => cd2 i k hk (by omega) (by omega), fun i _ i1 => z i (by omega)⟩
  have s := h1.kx K (N2 := ⟨nm2, S⟩) ⟨hn, Int.le_refl _⟩ (fun _ _ _ z => z.elim) (fun _ _ _ _ _ _ _ z => z) (fun _ _ _ z => z.elim)
  obtain ⟨⟨f1, f2, f3, f4⟩, g⟩ := mSX.sh (t := t) (N := ⟨nm2, S⟩) (A := A) (B := E) (e := 0) (M := 16) (H := 101) (X := NX) e0
  have zA := z A (by omega)
  have zE := z E (by omega)
  exact ⟨g s, by rw [← f1, zA.1]; exact h2, by rw [← f2, zA.2.1]; exact h3, by rw [← f2, zE.2.1]; exact h4, by rw [← f3, zA.2.2.1]; exact h5, by rw [cd _ _ k0 (by omega) (by omega)]; exact h6, by rw [cd _ _ k0 (by omega) (by omega)]; exact h7⟩
/-- code is added behind; the slots may be told anew -/
def mEXn (μ ν : M3) : Prop := μ.1 111 22 ≤ ν.1 111 22 ∧ μ.1 111 29 ≤ ν.1 111 29 ∧ ∀ i k, kk k → i < μ.1 111 22 → cdm ν cR i k = cdm μ cR i k
theorem mEXT.n {μ ν : M3} (h : mEXT μ ν) : mEXn μ ν := ⟨h.1, h.2.1.1, h.2.2⟩
theorem mEXn.rf {μ : M3} : mEXn μ μ := ⟨Int.le_refl _, Int.le_refl _, fun _ _ _ _ => rfl⟩
theorem mEXn.tr {μ ν π : M3} (h : mEXn μ ν) (g : mEXn ν π) : mEXn μ π := ⟨Int.le_trans h.1 g.1, Int.le_trans h.2.1 g.2.1, fun i k hk hi => (g.2.2 i k hk (by have := h.1; omega)).trans (h.2.2 i k hk hi)⟩
theorem mEXn.fo {μ ν : M3} {t : Int} (h : mEXn μ ν) : ∀ i, i ≤ μ.1 111 22 → mh ν cR i = mh μ cR i ∧ mc ν cR t i = mc μ cR t i ∧ md ν cR t i = md μ cR t i ∧ ∀ j, mk ν cR t i j = mk μ cR t i j :=
  mfolds (fun i _ hi => ⟨h.2.2 i 0 k0 hi, by rw [h.2.2 i 0 k0 hi, h.2.2 i 2 k2 hi]⟩)
def q0n (μ ν : M3) : Prop := mEXn μ ν ∧ ν.1 111 22 = μ.1 111 22
theorem q0m.n {μ ν : M3} (h : q0m μ ν) : q0n μ ν := ⟨h.1.n, h.2⟩
theorem q0n.rf {μ : M3} : q0n μ μ := ⟨mEXn.rf, rfl⟩
theorem q0n.tr {μ ν π : M3} (h : q0n μ ν) (g : q0n ν π) : q0n μ π := ⟨h.1.tr g.1, g.2.trans h.2⟩
theorem q0n.fr {K : List Int} {μ ν : M3} (F : FrM K μ ν) (h0 : 115 ∉ K) (h1 : 116 ∉ K) (h2 : 117 ∉ K) (e : ν.1 111 22 = μ.1 111 22) (n : μ.1 111 29 ≤ ν.1 111 29) : q0n μ ν := ⟨⟨by omega, n, fun i k _ _ => cdm_fr F h0 h1 h2 _ i k⟩, e⟩
theorem mHt.qn {μ ν : M3} {h : Int} (k : mHt μ h) (g : q0n μ ν) : mHt ν h := by
  have z := g.1.fo (t := 0) _ (Int.le_refl _)
  unfold mHt at *
  rw [g.2, z.1]; exact k
/-- the text so far: its functions stand -/
def mFN (μ : M3) (t : Int) : Prop := (0 ≤ μ.1 111 22 ∧ mh μ cR (μ.1 111 22) = 0 ∧ mc μ cR t (μ.1 111 22) = 0 ∧ md μ cR t (μ.1 111 22) = 0) ∧ (0 ≤ μ.1 122 4 ∧ μ.1 122 4 ≤ 40) ∧ ∀ k, 0 ≤ k → k < μ.1 122 4 → (∃ E, fOK μ cR t (μ.1 111 29) (μ.1 119 (160 + k)) E (μ.1 121 (160 + k)) ∧ E + 2 ≤ μ.1 111 22) ∧ (0 ≤ μ.1 120 (160 + k) ∧ μ.1 120 (160 + k) ≤ 300) ∧ (0 ≤ μ.1 121 (160 + k) ∧ μ.1 121 (160 + k) ≤ 300)
theorem mFN.nil {μ : M3} {t : Int} (h : μ.1 111 22 = 0) (h4 : μ.1 122 4 = 0) : mFN μ t := by
  unfold mFN
  rw [h, h4]
  exact ⟨⟨Int.le_refl _, rfl, rfl, rfl⟩, by decide, fun k h1 h2 => absurd h2 (by omega)⟩
theorem mFN.s0 {μ : M3} {t : Int} (h : mFN μ t) : mS0 μ := ⟨h.1.1, h.1.2.1⟩
theorem mFN.qm {μ ν : M3} {t : Int} (h : mFN μ t) (g : q0n μ ν) (k9 : ∀ j, ν.1 119 j = μ.1 119 j) (k20 : ∀ j, ν.1 120 j = μ.1 120 j) (k21 : ∀ j, ν.1 121 j = μ.1 121 j) (k22 : ν.1 122 4 = μ.1 122 4) : mFN ν t := by
  obtain ⟨h1, h3, h4⟩ := h
  have z := g.1.fo (t := t) _ (Int.le_refl _)
  refine ⟨by rw [g.2, z.1, z.2.1, z.2.2.1]; exact h1, by rw [k22]; exact h3, fun k k1 k2 => ?_⟩
  rw [k22] at k2
  obtain ⟨⟨E, q, qe⟩, q2⟩ := h4 k k1 k2
  rw [k9, k20, k21, g.2]
  exact ⟨⟨E, q.mv qe g.1.2.1 (fun i k hk _ hi => g.1.2.2 i k hk hi), qe⟩, q2⟩
/-- a function more -/
theorem as_fn {μ μ1 μ2 μ3 ν : M3} {t f : Int} (h : mFN μ t) (q : q0n μ μ1) (b : mEX μ1 μ2 t 0 16 101) (g : mAD μ2 μ3 2 0 0) (g2 : mAD μ3 ν 9 0 0) (hf : f = μ.1 122 4) (f4 : ν.1 122 4 = f + 1) (hf2 : f < 40) (at_ : ν.1 119 (160 + f) = μ.1 111 22) (pa : 0 ≤ ν.1 120 (160 + f) ∧ ν.1 120 (160 + f) ≤ 300) (sl : 0 ≤ ν.1 121 (160 + f) ∧ ν.1 121 (160 + f) ≤ 300) (sS : ν.1 121 (160 + f) = ν.1 111 31) (k9 : ∀ j, j ≠ 160 + f → ν.1 119 j = μ.1 119 j) (k20 : ∀ j, j ≠ 160 + f → ν.1 120 j = μ.1 120 j) (k21 : ∀ j, j ≠ 160 + f → ν.1 121 j = μ.1 121 j) : mFN ν t := by
  obtain ⟨h1, h3, h4⟩ := h
  have E2 := g.1.tr g2.1
  have E1 := b.1.n.tr E2.n
  have E0 := q.1.tr E1
  have z0 := E0.fo (t := t) _ (Int.le_refl _)
  have zE := E2.fo (t := t) (μ2.1 111 22) (Int.le_refl _)
  have l1 := g.2.1
  have l2 := g2.2.1
  have lb := b.1.1
  have lq := q.2
  have s := mSg.kx0 b.2 (E2.kx (Y := NX) (Int.le_refl _)) E2.2.1 (fun _ _ _ z => z)
  rw [lq] at s
  have o0 : cdm ν cR (μ2.1 111 22) 0 = 2 := by rw [g2.1.2.2 _ 0 k0 (by omega)]; exact g.2.2.1
  have o1 : cdm ν cR (μ2.1 111 22 + 1) 0 = 9 := by rw [← l1]; exact g2.2.2.1
  have cE : mc ν cR t (μ2.1 111 22) = 0 := by
    by_cases e : μ.1 111 22 < μ2.1 111 22
    · exact s.2.2.1 e
    · have e2 : μ2.1 111 22 = μ.1 111 22 := by omega
      rw [e2, z0.2.1]; exact h1.2.2.1
  have F : fOK ν cR t (ν.1 111 29) (μ.1 111 22) (μ2.1 111 22) (ν.1 111 31) := ⟨s, by rw [z0.1]; exact h1.2.1, by rw [z0.2.1]; exact h1.2.2.1, cE, by rw [z0.2.2.1]; exact h1.2.2.2, o0, o1⟩
  have hE := s.2.1
  rw [F.2.1] at hE
  have dE := s.2.2.2.1
  rw [F.2.2.2.2.1] at dE
  have hn : 0 ≤ μ2.1 111 22 := by have := h1.1; omega
  have e2 : ν.1 111 22 = μ2.1 111 22 + 1 + 1 := by omega
  have s2 : cdm ν cR (μ2.1 111 22) 2 = 0 := by rw [g2.1.2.2 _ 2 k2 (by omega)]; exact g.2.2.2.2
  have s3 : cdm ν cR (μ2.1 111 22 + 1) 2 = 0 := by rw [← l1]; exact g2.2.2.2.2
  refine ⟨⟨by omega, ?_, ?_, ?_⟩, by omega, fun k k1 k2 => ?_⟩
  · rw [e2, mh_s (by omega), mh_s hn, o0, o1, s2, s3, hE]; rfl
  · rw [e2, mc_s (by omega), o1]; rfl
  · rw [e2, md_s (by omega), md_s hn, o0, o1, dE]; rfl
  by_cases e : k = f
  · rw [e]
    refine ⟨⟨μ2.1 111 22, ?_, by omega⟩, pa, sl⟩
    rw [at_, sS]; exact F
  · obtain ⟨⟨E, qk, qe⟩, q2⟩ := h4 k k1 (by omega)
    rw [k9 _ (by omega), k20 _ (by omega), k21 _ (by omega)]
    exact ⟨⟨E, qk.mv qe E0.2.1 (fun i k hk _ hi => E0.2.2 i k hk hi), by have := E0.1; omega⟩, q2⟩
