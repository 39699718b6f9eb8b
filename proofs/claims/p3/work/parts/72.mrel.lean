/-! the reference's parser: what its methods do to the code -/
theorem mfolds {μ ν : M3} {b t n : Int} (h : ∀ i, 0 ≤ i → i < n → cdm ν b i 0 = cdm μ b i 0 ∧ eem (cdm ν b i 0) (cdm ν b i 2) = eem (cdm μ b i 0) (cdm μ b i 2)) : ∀ i, i ≤ n → mh ν b i = mh μ b i ∧ mc ν b t i = mc μ b t i ∧ md ν b t i = md μ b t i ∧ ∀ j, mk ν b t i j = mk μ b t i j := by
  have key : ∀ k : Nat, (k : Int) ≤ n → mpN ν b k = mpN μ b k ∧ mhN ν b k = mhN μ b k ∧ mcN ν b t k = mcN μ b t k ∧ mdN ν b t k = mdN μ b t k ∧ mkN ν b t k = mkN μ b t k := by
    intro k
    induction k with
    | zero => intro _; exact ⟨rfl, rfl, rfl, rfl, rfl⟩
    | succ k ih =>
      intro hk
      obtain ⟨a0, a1, a2, a3, a4⟩ := ih (by omega)
      obtain ⟨b1, b2⟩ := h k (by omega) (by omega)
      refine ⟨b1, ?_, ?_, ?_, ?_⟩
      · show mhN ν b k + eem (cdm ν b k 0) (cdm ν b k 2) = mhN μ b k + eem (cdm μ b k 0) (cdm μ b k 2)
        rw [a1, b2]
      · show cem t (cdm ν b k 0) (mcN ν b t k) = cem t (cdm μ b k 0) (mcN μ b t k)
        rw [a2, b1]
      · show mdN ν b t k + dem t (mpN ν b k) (cdm ν b k 0) = mdN μ b t k + dem t (mpN μ b k) (cdm μ b k 0)
        rw [a3, a0, b1]
      · show bem t (mpN ν b k) (cdm ν b k 0) (mdN ν b t k) (mkN ν b t k) = bem t (mpN μ b k) (cdm μ b k 0) (mdN μ b t k) (mkN μ b t k)
        rw [a4, a3, a0, b1]
  intro i hi
  by_cases h0 : 0 ≤ i
  · have q := key i.toNat (by omega)
    exact ⟨q.2.1, q.2.2.1, q.2.2.2.1, fun j => congrFun q.2.2.2.2 j⟩
  · have : i.toNat = 0 := by omega
    unfold mh mc md mk
    rw [this]
    exact ⟨rfl, rfl, rfl, fun _ => rfl⟩
def cR : Int := 36000
/-- code is added behind -/
def mEXT (μ ν : M3) : Prop := μ.1 111 22 ≤ ν.1 111 22 ∧ nle (nS μ) (nS ν) ∧ ∀ i k, kk k → i < μ.1 111 22 → cdm ν cR i k = cdm μ cR i k
theorem mEXT.rf {μ : M3} : mEXT μ μ := ⟨Int.le_refl _, NS.rf, fun _ _ _ _ => rfl⟩
theorem mEXT.tr {μ ν π : M3} (h : mEXT μ ν) (g : mEXT ν π) : mEXT μ π := ⟨Int.le_trans h.1 g.1, NS.tr h.2.1 g.2.1, fun i k hk hi => (g.2.2 i k hk (by have := h.1; omega)).trans (h.2.2 i k hk hi)⟩
theorem mEXT.fo {μ ν : M3} {t : Int} (h : mEXT μ ν) : ∀ i, i ≤ μ.1 111 22 → mh ν cR i = mh μ cR i ∧ mc ν cR t i = mc μ cR t i ∧ md ν cR t i = md μ cR t i ∧ ∀ j, mk ν cR t i j = mk μ cR t i j :=
  mfolds (fun i _ hi => ⟨h.2.2 i 0 k0 hi, by rw [h.2.2 i 0 k0 hi, h.2.2 i 2 k2 hi]⟩)
theorem mEXT.kx {μ ν : M3} {t A B : Int} {Y : Int → Prop} (h : mEXT μ ν) (hb : B ≤ μ.1 111 22) : mKX μ ν cR t A B Y :=
  ⟨fun i k hk h1 h2 _ => h.2.2 i k hk (by omega), fun i h1 h2 => h.fo (t := t) i (by omega)⟩
theorem cdm_fr {K : List Int} {μ ν : M3} (F : FrM K μ ν) (h0 : 115 ∉ K) (h1 : 116 ∉ K) (h2 : 117 ∉ K) (b i k : Int) : cdm ν b i k = cdm μ b i k := by
  unfold cdm; rw [F.1 115 h0, F.1 116 h1, F.1 117 h2]
/-- nothing of the code is changed -/
def q0m (μ ν : M3) : Prop := mEXT μ ν ∧ ν.1 111 22 = μ.1 111 22
theorem q0m.rf {μ : M3} : q0m μ μ := ⟨mEXT.rf, rfl⟩
theorem q0m.fr {K : List Int} {μ ν : M3} (F : FrM K μ ν) (h0 : 115 ∉ K) (h1 : 116 ∉ K) (h2 : 117 ∉ K) (e : ν.1 111 22 = μ.1 111 22) (n : nle (nS μ) (nS ν)) : q0m μ ν := ⟨⟨by omega, n, fun i k _ _ => cdm_fr F h0 h1 h2 _ i k⟩, e⟩
theorem q0m.tr {μ ν π : M3} (h : q0m μ ν) (g : q0m ν π) : q0m μ π := ⟨h.1.tr g.1, g.2.trans h.2⟩
/-- one instruction's target is set -/
def mMF (μ ν : M3) (q T : Int) : Prop := ν.1 111 22 = μ.1 111 22 ∧ nle (nS μ) (nS ν) ∧ (0 ≤ q ∧ q < μ.1 111 22) ∧ cdm ν cR q 1 = T ∧ ∀ i k, kk k → i < μ.1 111 22 → ¬ (i = q ∧ k = 1) → cdm ν cR i k = cdm μ cR i k
theorem mMF.fo {μ ν : M3} {t q T : Int} (h : mMF μ ν q T) : ∀ i, i ≤ μ.1 111 22 → mh ν cR i = mh μ cR i ∧ mc ν cR t i = mc μ cR t i ∧ md ν cR t i = md μ cR t i ∧ ∀ j, mk ν cR t i j = mk μ cR t i j :=
  mfolds (fun j _ hj => by rw [h.2.2.2.2 j 0 k0 hj (fun z => absurd z.2 (by decide)), h.2.2.2.2 j 2 k2 hj (fun z => absurd z.2 (by decide))]; exact ⟨rfl, rfl⟩)
theorem mMF.kx {μ ν : M3} {t q T A B : Int} (h : mMF μ ν q T) (hB : B ≤ μ.1 111 22) : mKX μ ν cR t A B (fun i => i = q) :=
  ⟨fun i k hk _ _ hy => h.2.2.2.2 i k hk (by omega) (fun z => hy (by rw [z.2]; decide) z.1), fun i _ _ => h.fo i (by omega)⟩
theorem mMF.qm {μ ν π : M3} {q T : Int} (h : mMF μ ν q T) (g : q0m ν π) : mMF μ π q T := ⟨g.2.trans h.1, NS.tr h.2.1 g.1.2.1, h.2.2.1, by rw [g.1.2.2 q 1 k1 (by have := h.1; have := h.2.2.1; omega)]; exact h.2.2.2.1, fun i k hk hi hn => by rw [g.1.2.2 i k hk (by rw [h.1]; exact hi)]; exact h.2.2.2.2 i k hk hi hn⟩
/-- an instruction is added -/
def mAD (μ ν : M3) (o f s : Int) : Prop := mEXT μ ν ∧ ν.1 111 22 = μ.1 111 22 + 1 ∧ cdm ν cR (μ.1 111 22) 0 = o ∧ cdm ν cR (μ.1 111 22) 1 = f ∧ cdm ν cR (μ.1 111 22) 2 = s
theorem mAD.qm {μ ν π : M3} {o f s : Int} (h : mAD μ ν o f s) (g : q0m ν π) : mAD μ π o f s := by
  have hl : μ.1 111 22 < ν.1 111 22 := by rw [h.2.1]; omega
  exact ⟨h.1.tr g.1, g.2.trans h.2.1, by rw [g.1.2.2 _ 0 k0 hl]; exact h.2.2.1, by rw [g.1.2.2 _ 1 k1 hl]; exact h.2.2.2.1, by rw [g.1.2.2 _ 2 k2 hl]; exact h.2.2.2.2⟩
/-- typed code is added -/
def mEX (μ ν : M3) (t e M H : Int) : Prop := mEXT μ ν ∧ mSg ν cR t (nS ν) (μ.1 111 22) (ν.1 111 22) e M H
theorem mSg.kx0 {μ ν : M3} {t : Int} {N N2 : NS} {A B e M H : Int} {X Y : Int → Prop} (h : mSX μ cR t N A B e M H X) (hk : mKX μ ν cR t A B Y) (hN : nle N N2) (hY : ∀ i, A ≤ i → i < B → ¬ Y i) : mSX ν cR t N2 A B e M H X := by
  have hk2 : mKX μ ν cR t A B NX := ⟨fun i k q h1 h2 _ => hk.1 i k q h1 h2 (fun _ => hY i h1 h2), hk.2⟩
  exact h.kx hk2 hN (fun _ _ _ z => z.elim) (fun _ _ _ _ _ _ _ z => z) (fun _ _ _ z => z.elim)
theorem mEX.qm {μ ν π : M3} {t e M H : Int} (h : mEX μ ν t e M H) (g : q0m ν π) : mEX μ π t e M H := by
  refine ⟨h.1.tr g.1, ?_⟩
  rw [g.2]
  exact mSg.kx0 h.2 (g.1.kx (Y := NX) (Int.le_refl _)) g.1.2.1 (fun _ _ _ z => z)
theorem mEX.ql {μ ν π : M3} {t e M H : Int} (g : q0m μ ν) (h : mEX ν π t e M H) : mEX μ π t e M H := ⟨g.1.tr h.1, by rw [← g.2]; exact h.2⟩
theorem mAD.ql {μ ν π : M3} {o f s : Int} (g : q0m μ ν) (h : mAD ν π o f s) : mAD μ π o f s := by
  obtain ⟨a, b, c, d, e⟩ := h
  rw [g.2] at b c d e
  exact ⟨g.1.tr a, b, c, d, e⟩
theorem mEX.tr {μ ν π : M3} {t e f M H G : Int} (h : mEX μ ν t e M H) (g : mEX ν π t f M G) (hG : G + e ≤ H) : mEX μ π t (e + f) M H := by
  refine ⟨h.1.tr g.1, ?_⟩
  have s1 := mSg.kx0 h.2 (g.1.kx (Y := NX) (Int.le_refl _)) g.1.2.1 (fun _ _ _ z => z)
  exact (mSX.app s1 (g.2.mn (Int.le_refl _) (by omega) (fun _ _ _ z => z))).mn (Int.le_refl _) (Int.le_refl _) (fun _ _ _ z => z.elim id id)
theorem mEX.mn {μ ν : M3} {t e M H M2 H2 : Int} (h : mEX μ ν t e M H) (hM : M ≤ M2) (hH : H ≤ H2) : mEX μ ν t e M2 H2 := ⟨h.1, h.2.mn hM hH (fun _ _ _ z => z)⟩
theorem mEX.e {μ ν : M3} {t e f M H : Int} (h : mEX μ ν t e M H) (he : e = f) : mEX μ ν t f M H := by rw [← he]; exact h
theorem mEX.h {μ ν : M3} {t e M H : Int} (h : mEX μ ν t e M H) : mh ν cR (ν.1 111 22) = mh μ cR (μ.1 111 22) + e := by
  rw [h.2.2.1, (h.1.fo (t := t) _ (Int.le_refl _)).1]
/-- where the next part begins: the height isn't below 0 -/
def mH0 (μ : M3) : Prop := 0 ≤ μ.1 111 22 ∧ 0 ≤ mh μ cR (μ.1 111 22)
theorem mH0.qm {μ ν : M3} (h : mH0 μ) (g : q0m μ ν) : mH0 ν := by
  unfold mH0
  rw [g.2, (g.1.fo (t := 0) _ (Int.le_refl _)).1]; exact h
theorem mEX.h0 {μ ν : M3} {t e M H : Int} (h : mEX μ ν t e M H) : mH0 μ := by
  have q := h.2.2.2.2.2.2 (μ.1 111 22) (Int.le_refl _) h.1.1
  refine ⟨h.2.1.1, ?_⟩
  have := q.2.1.1
  rw [(h.1.fo (t := t) _ (Int.le_refl _)).1] at this
  exact this
theorem mEX.h1 {μ ν : M3} {t e M H : Int} (h : mEX μ ν t e M H) : mH0 ν := by
  have q := h.2.2.2.2.2.2 (ν.1 111 22) h.1.1 (Int.le_refl _)
  exact ⟨by have := h.2.1.1; have := h.1.1; omega, q.2.1.1⟩
theorem mEX.rf {μ : M3} {t : Int} (h : mH0 μ) : mEX μ μ t 0 0 0 := ⟨mEXT.rf, mSX.nil h.1 h.2⟩
/-- one op that opens and leaves nothing -/
def mpl (o : Int) : Prop := (1 ≤ o ∧ o ≤ 7) ∨ (9 ≤ o ∧ o ≤ 11) ∨ o = 18 ∨ o = 20 ∨ (22 ≤ o ∧ o ≤ 34)
theorem mAD.ex {μ ν : M3} {t o f s e : Int} (h : mAD μ ν o f s) (h0 : mH0 μ) (hp : mpl o) (he : eem o s = e) (h1 : 0 ≤ mh μ cR (μ.1 111 22) + e) (hl : lcq0 ν cR t (nS ν) (μ.1 111 22) (μ.1 111 22) (μ.1 111 22 + 1) o f s) : mEX μ ν t e 0 (max e 0) := by
  refine ⟨h.1, ?_⟩
  have z := h.1.fo (t := t) _ (Int.le_refl _)
  rw [h.2.1]
  unfold mpl at hp
  refine mSX.one h0.1 (by rw [z.1]; exact h0.2) (by rw [h.2.2.1, h.2.2.2.2]; exact he) (by rw [z.1]; exact h1) ?_ ?_ ?_ (Or.inr ?_)
  · rw [h.2.2.1]; unfold cem; rw [if_neg (by omega), if_neg (by omega)]
  · rw [h.2.2.1]; unfold dem; rw [if_neg (by omega), if_neg (by omega), if_neg (by omega), if_neg (by omega)]
  · rw [h.2.2.1]; funext j; unfold bem
    rw [if_neg (by omega), if_neg (by omega), if_neg (by omega), if_neg (by omega), if_neg (by omega), if_neg (by omega)]
  · unfold lcq
    rw [h.2.2.1, h.2.2.2.1, h.2.2.2.2]; exact hl
/-- what waits: SKIPs whose target is behind the last op -/
def mPX (μo μ : M3) (t e w H : Int) (L : List Int) : Prop := mEXT μo μ ∧ mSX μ cR t (nS μ) (μo.1 111 22) (μ.1 111 22) e 0 H (fun i => i ∈ L) ∧ (L ≠ [] → t = 2) ∧ ∀ i ∈ L, (μo.1 111 22 ≤ i ∧ i < μ.1 111 22) ∧ cdm μ cR i 0 = 33 ∧ 0 ≤ cdm μ cR i 2 ∧ cdm μ cR i 2 + 1 ≤ mh μ cR i ∧ mh μ cR i - cdm μ cR i 2 = mh μ cR (μo.1 111 22) + w
theorem mPX.of {μ ν : M3} {t e w H : Int} (h : mEX μ ν t e 0 H) : mPX μ ν t e w H [] := ⟨h.1, h.2.mn (Int.le_refl _) (Int.le_refl _) (fun _ _ _ z => z.elim), fun z => absurd rfl z, fun i hi => by cases hi⟩
theorem mPX.ex {μ ν : M3} {t e w H : Int} (h : mPX μ ν t e w H []) : mEX μ ν t e 0 H := ⟨h.1, h.2.1.mn (Int.le_refl _) (Int.le_refl _) (fun _ _ _ z => by cases z)⟩
theorem mPX.qm {μ ν π : M3} {t e w H : Int} {L : List Int} (h : mPX μ ν t e w H L) (g : q0m ν π) : mPX μ π t e w H L := by
  obtain ⟨h1, h2, h3, h4⟩ := h
  have z := fun i (hi : i ≤ ν.1 111 22) => g.1.fo (t := t) i hi
  refine ⟨h1.tr g.1, ?_, h3, fun i hi => ?_⟩
  · rw [g.2]; exact mSg.kx0 h2 (g.1.kx (Y := NX) (Int.le_refl _)) g.1.2.1 (fun _ _ _ z => z)
  · have a := h4 i hi
    rw [g.2, g.1.2.2 i 0 k0 a.1.2, g.1.2.2 i 2 k2 a.1.2, (z i (by omega)).1, (z _ h1.1).1]
    exact a
theorem mPX.app {μo μ ν : M3} {t e f w H G : Int} {L : List Int} (h : mPX μo μ t e w H L) (g : mEX μ ν t f 0 G) (hG : G + e ≤ H) : mPX μo ν t (e + f) w H L := by
  obtain ⟨h1, h2, h3, h4⟩ := h
  have z := fun i (hi : i ≤ μ.1 111 22) => g.1.fo (t := t) i hi
  have s1 := mSg.kx0 h2 (g.1.kx (Y := NX) (Int.le_refl _)) g.1.2.1 (fun _ _ _ z => z)
  refine ⟨h1.tr g.1, (mSX.app s1 (g.2.mn (Int.le_refl _) (by omega) (fun _ _ _ z => z))).mn (Int.le_refl _) (Int.le_refl _) (fun _ _ _ z => z.elim id (fun z => z.elim)), h3, fun i hi => ?_⟩
  have a := h4 i hi
  rw [g.1.2.2 i 0 k0 a.1.2, g.1.2.2 i 2 k2 a.1.2, (z i (by omega)).1, (z _ h1.1).1]
  exact ⟨⟨a.1.1, by have := g.1.1; omega⟩, a.2⟩
/-- SKIP -/
theorem mPX.skp {μo μ ν : M3} {t e s w H : Int} {L : List Int} (h : mPX μo μ t e w H L) (g : mAD μ ν 33 0 s) (ht : t = 2) (hs : 0 ≤ s) (he : e = w + s) (hw : 1 ≤ w) : mPX μo ν t e w H (μ.1 111 22 :: L) := by
  obtain ⟨h1, h2, h3, h4⟩ := h
  have E := g.1
  have z := fun i (hi : i ≤ μ.1 111 22) => E.fo (t := t) i hi
  have l0 := h2.1.1
  have l1 := h1.1
  have q0 := h2.2.2.2.2.2 _ (Int.le_refl _) h2.1.2
  have q1 := h2.2.2.2.2.2 _ h2.1.2 (Int.le_refl _)
  have s1 := mSg.kx0 h2 (E.kx (Y := NX) (Int.le_refl _)) E.2.1 (fun _ _ _ z => z)
  have zc := z (μ.1 111 22) (Int.le_refl _)
  have za := z (μo.1 111 22) l1
  have one : mSX ν cR t (nS ν) (μ.1 111 22) (μ.1 111 22 + 1) 0 0 (max 0 0) (fun i => i = μ.1 111 22) := by
    refine mSX.one (by omega) (by rw [zc.1]; exact q1.2.1.1) (by rw [g.2.2.1]; rfl) (by rw [zc.1]; have := q1.2.1.1; omega) (by rw [g.2.2.1]; rfl) (by rw [g.2.2.1]; rfl) (by rw [g.2.2.1]; rfl) (Or.inl rfl)
  have hh := h2.2.1
  refine ⟨h1.tr E, ?_, fun _ => ht, fun i hi => ?_⟩
  · rw [g.2.1]
    have q := mSX.app s1 (one.mn (Int.le_refl _) (show (max 0 0 : Int) ≤ H - e by have := q1.2.1.2; rw [hh] at this; omega) (fun _ _ _ z => z))
    have e0 : e + 0 = e := by omega
    rw [e0] at q
    exact q.mn (Int.le_refl _) (Int.le_refl _) (fun i _ _ q => q.elim (fun q => List.mem_cons_of_mem _ q) (fun q => by rw [q]; exact List.mem_cons_self ..))
  · rcases List.mem_cons.1 hi with q | q
    · rw [q, g.2.2.1, g.2.2.2.2, zc.1, za.1]
      exact ⟨⟨l1, by rw [g.2.1]; omega⟩, rfl, hs, by have := q0.2.1.1; omega, by omega⟩
    · have a := h4 i q
      rw [E.2.2 i 0 k0 a.1.2, E.2.2 i 2 k2 a.1.2, (z i (by omega)).1, za.1, g.2.1]
      exact ⟨⟨a.1.1, by omega⟩, a.2⟩
/-- the targets of some are set -/
def mAIM (μ ν : M3) (L : List Int) (T : Int) : Prop := ν.1 111 22 = μ.1 111 22 ∧ nle (nS μ) (nS ν) ∧ (∀ i ∈ L, i < μ.1 111 22 ∧ cdm ν cR i 1 = T) ∧ ∀ i k, kk k → i < μ.1 111 22 → (k = 1 → i ∉ L) → cdm ν cR i k = cdm μ cR i k
theorem mAIM.nil {μ ν : M3} {T : Int} (g : q0m μ ν) : mAIM μ ν [] T := ⟨g.2, g.1.2.1, fun i hi => (by cases hi), fun i k hk hi _ => g.1.2.2 i k hk hi⟩
theorem mAIM.one {μ ν : M3} {q T : Int} (m : mMF μ ν q T) : mAIM μ ν [q] T := ⟨m.1, m.2.1, fun i hi => by
  have : i = q := by simpa using hi
  rw [this]; exact ⟨m.2.2.1.2, m.2.2.2.1⟩, fun i k hk hi hn => m.2.2.2.2 i k hk hi (fun z => hn z.2 (by rw [z.1]; exact List.mem_cons_self ..))⟩
theorem mAIM.tr {μ ν π : M3} {L K : List Int} {T : Int} (h : mAIM μ ν L T) (g : mAIM ν π K T) : mAIM μ π (L ++ K) T := by
  refine ⟨g.1.trans h.1, NS.tr h.2.1 g.2.1, fun i hi => ?_, fun i k hk hi hn => ?_⟩
  · by_cases hK : i ∈ K
    · exact ⟨by have := (g.2.2.1 i hK).1; rw [h.1] at this; exact this, (g.2.2.1 i hK).2⟩
    · have hL : i ∈ L := (List.mem_append.1 hi).resolve_right hK
      have q := h.2.2.1 i hL
      exact ⟨q.1, by rw [g.2.2.2 i 1 k1 (by rw [h.1]; exact q.1) (fun _ => hK)]; exact q.2⟩
  · rw [g.2.2.2 i k hk (by rw [h.1]; exact hi) (fun q z => hn q (List.mem_append.2 (Or.inr z)))]
    exact h.2.2.2 i k hk hi (fun q z => hn q (List.mem_append.2 (Or.inl z)))
theorem mAIM.qm {μ ν π : M3} {L : List Int} {T : Int} (h : mAIM μ ν L T) (g : q0m ν π) : mAIM μ π L T := by
  have := h.tr (mAIM.nil (T := T) g)
  rw [List.append_nil] at this
  exact this
theorem mAIM.fo {μ ν : M3} {t T : Int} {L : List Int} (h : mAIM μ ν L T) : ∀ i, i ≤ μ.1 111 22 → mh ν cR i = mh μ cR i ∧ mc ν cR t i = mc μ cR t i ∧ md ν cR t i = md μ cR t i ∧ ∀ j, mk ν cR t i j = mk μ cR t i j :=
  mfolds (fun j _ hj => by rw [h.2.2.2 j 0 k0 hj (fun z => absurd z (by decide)), h.2.2.2 j 2 k2 hj (fun z => absurd z (by decide))]; exact ⟨rfl, rfl⟩)
theorem mAIM.kx {μ ν : M3} {t T A B : Int} {L : List Int} (h : mAIM μ ν L T) (hB : B ≤ μ.1 111 22) : mKX μ ν cR t A B (fun i => i ∈ L) :=
  ⟨fun i k hk _ _ hy => h.2.2.2 i k hk (by omega) (fun z => hy (by rw [z]; decide)), fun i _ _ => h.fo i (by omega)⟩
/-- an expression's last op, then all that waits is aimed behind it -/
theorem mPX.fin {μo μ ν : M3} {t w H T : Int} {L K : List Int} (h : mPX μo μ t w w H L) (g : mAIM μ ν K T) (hT : T = μ.1 111 22) (hw : 1 ≤ w) (hLK : ∀ i, i ∈ K ↔ i ∈ L) : mEX μo ν t w 0 H := by
  obtain ⟨h1, h2, h3, h4⟩ := h
  have z := g.fo (t := t)
  have l1 := h1.1
  refine ⟨⟨by rw [g.1]; exact h1.1, NS.tr h1.2.1 g.2.1, fun i k hk hi => ?_⟩, ?_⟩
  · rw [g.2.2.2 i k hk (by omega) (fun _ hm => by have := (h4 i ((hLK i).1 hm)).1; omega)]
    exact h1.2.2 i k hk hi
  rw [g.1]
  have no13 : ∀ i, μo.1 111 22 ≤ i → i < μ.1 111 22 → ¬ i ∈ L → cdm μ cR i 0 = 13 → cdm μ cR (i + 1) 0 = 8 → i < cdm μ cR (i + 1) 1 → ¬ (i + 1) ∈ K := fun i _ _ _ _ h8 _ hm => by
    have := (h4 _ ((hLK _).1 hm)).2.1
    omega
  have no8 : ∀ x, μo.1 111 22 ≤ x → x < μ.1 111 22 → x ∈ K → cdm ν cR x 0 = 8 → x < cdm ν cR x 1 := fun x _ h2 hm h8 => by
    rw [g.2.2.2 x 0 k0 h2 (fun q => absurd q (by decide)), (h4 _ ((hLK _).1 hm)).2.1] at h8
    exact absurd h8 (by decide)
  have s := h2.kx (g.kx (Int.le_refl _)) g.2.1 (fun i _ _ hi => (hLK i).1 hi) no13 no8
  have hh := s.2.1
  have hcs := s.2.2.1
  refine s.cls (fun i i1 i2 hi => Or.inr ?_)
  obtain ⟨a1, a2, a3, a4, a5⟩ := h4 i hi
  have ht := h3 (fun e => by rw [e] at hi; cases hi)
  have zi := z i (by omega)
  have zB := z (μ.1 111 22) (Int.le_refl _)
  have zA := z (μo.1 111 22) l1
  have ri := s.2.2.2.2.2 i i1 (by omega)
  have rB := s.2.2.2.2.2 _ l1 (Int.le_refl _)
  have dB := s.2.2.2.1
  have dmax : md ν cR t i = md ν cR t (μo.1 111 22) := by have := ri.1; omega
  unfold lcq
  rw [g.2.2.2 i 0 k0 a1.2 (fun q => absurd q (by decide)), g.2.2.2 i 2 k2 a1.2 (fun q => absurd q (by decide)), (g.2.2.1 i ((hLK i).2 hi)).2, a2, hT]
  exact ⟨fun q => absurd q (by decide), ⟨fun q => absurd q (by decide), fun q => absurd q (by decide)⟩, fun q => absurd q (by decide), fun q => absurd q (by decide), fun q => absurd q (by decide), fun q => absurd q (by decide), fun q => absurd q (by decide), fun q => absurd q (by decide), fun q => absurd q (by decide), fun q => absurd q (by decide), fun q => absurd q (by decide), fun q => absurd q (by decide), fun q => absurd q (by decide), fun q => absurd q (by decide), fun q => absurd q (by decide), fun q => absurd q (by decide), fun q => absurd q (by decide), fun q => absurd q (by decide), fun q => absurd q (by decide), fun _ => ⟨ht, a3, by rw [zi.1]; exact a4, ⟨by omega, Int.le_refl _, hcs (by omega)⟩, a1.2, by have e1 := zi.1; have e2 := zA.1; omega, by omega, fun j hj => by rw [rB.2.2 j (by omega), ri.2.2 j (by omega)]⟩, fun q => absurd q (by decide), ⟨fun q => absurd q (by decide), fun q => absurd q (by decide), fun q => absurd q (by decide)⟩, ⟨by decide, by decide⟩⟩
/-- SKIP in VALUES; its number or none -/
def lsk (r : Int) : List Int := if r = -1 then [] else [r]
def qK (t u r : Int) (μ ν : M3) : Prop := (t = 2 ∧ mAD μ ν 33 0 u ∧ r = μ.1 111 22 ∧ 0 ≤ r) ∨ (t ≠ 2 ∧ r = -1 ∧ q0m μ ν)
theorem mPX.sk {μo μ ν : M3} {t e s w H r : Int} {L : List Int} (h : mPX μo μ t e w H L) (g : qK t s r μ ν) (hs : 0 ≤ s) (he : e = w + s) (hw : 1 ≤ w) : mPX μo ν t e w H (lsk r ++ L) := by
  rcases g with ⟨ht, g, hr, h0⟩ | ⟨ht, hr, g⟩
  · unfold lsk
    rw [if_neg (by omega), hr]
    exact h.skp g ht hs he hw
  · rw [hr]
    exact h.qm g
def qL (k T : Int) (μ ν : M3) : Prop := mAIM μ ν (lsk k) T
theorem mem_lsk {i r : Int} : i ∈ lsk r ↔ (r ≠ -1 ∧ i = r) := by
  unfold lsk
  by_cases h : r = -1
  · rw [if_pos h]; simp [h]
  · rw [if_neg h]; simp [h]
theorem mEXT.mf {μ ν π : M3} {q T : Int} (h : mEXT μ ν) (l : mMF ν π q T) (hq : μ.1 111 22 ≤ q) : mEXT μ π := ⟨by rw [l.1]; exact h.1, NS.tr h.2.1 l.2.1, fun i k hk hi => (l.2.2.2.2 i k hk (by have := h.1; omega) (fun z => by omega)).trans (h.2.2 i k hk hi)⟩
theorem mEXT.am {μ ν π : M3} {L : List Int} {T : Int} (h : mEXT μ ν) (l : mAIM ν π L T) (hq : ∀ i, i ∈ L → μ.1 111 22 ≤ i) : mEXT μ π := ⟨by rw [l.1]; exact h.1, NS.tr h.2.1 l.2.1, fun i k hk hi => (l.2.2.2 i k hk (by have := h.1; omega) (fun _ z => by have := hq i z; omega)).trans (h.2.2 i k hk hi)⟩
theorem mEXT.aim {μ ν π : M3} {a T : Int} (h : mEXT μ ν) (l : mAIM ν π (lsk a) T) (hq : a = -1 ∨ μ.1 111 22 ≤ a) : mEXT μ π := h.am l (fun i hi => by have := mem_lsk.1 hi; omega)
theorem qK.ext {t u r : Int} {μ ν : M3} (k : qK t u r μ ν) : mEXT μ ν := by
  rcases k with ⟨_, g, _⟩ | ⟨_, _, g⟩
  · exact g.1
  · exact g.1
theorem as_twoE {μ μ1 μ2 μ3 ν : M3} {t u a b o f s T T2 : Int} (k : qK t u b μ μ1) (g : mAD μ1 μ2 o f s) (la : mAIM μ2 μ3 (lsk a) T) (lb : mAIM μ3 ν (lsk b) T2) : ∀ π : M3, mEXT π μ → (a = -1 ∨ π.1 111 22 ≤ a) → mEXT π ν := fun π h ha => by
  have hb : b = -1 ∨ π.1 111 22 ≤ b := by
    rcases k with ⟨_, _, q, _⟩ | ⟨_, q, _⟩
    · right; rw [q]; exact h.1
    · exact Or.inl q
  exact ((((h.tr k.ext).tr g.1).aim la ha).aim lb hb)
/-- two parts and their sign -/
theorem as_two {μo μ μ1 μ2 μ3 ν : M3} {t a b c H : Int} (hc : sgn c) (h : mPX μo μ t 2 1 H (lsk a ++ [])) (k : qK t 1 b μ μ1) (g : mAD μ1 μ2 31 c 0) (la : mAIM μ2 μ3 (lsk a) (μ2.1 111 22)) (lb : mAIM μ3 ν (lsk b) (μ3.1 111 22)) : mEX μo ν t 1 0 H := by
  rw [List.append_nil] at h
  have h1 := h.sk k (by decide) (by decide) (by decide)
  have p1 := h1.2.1.2.2.2.2.2 _ h1.1.1 (Int.le_refl _)
  have p0 := h1.2.1.2.2.2.2.2 _ (Int.le_refl _) h1.1.1
  have e1 := h1.2.1.2.1
  have hd := g.ex (t := t) (e := -1) ⟨by have := h1.2.1.1; omega, p1.2.1.1⟩ (by unfold mpl; omega) rfl (by have := p0.2.1.1; omega) ⟨fun q => absurd q (by decide), ⟨fun q => absurd q (by decide), fun q => absurd q (by decide)⟩, fun q => absurd q (by decide), fun q => absurd q (by decide), fun q => absurd q (by decide), fun q => absurd q (by decide), fun q => absurd q (by decide), fun q => absurd q (by decide), fun q => absurd q (by decide), fun q => absurd q (by decide), fun q => absurd q (by decide), fun q => absurd q (by decide), fun q => absurd q (by decide), fun q => absurd q (by decide), fun q => absurd q (by decide), fun _ => by rw [(g.1.fo (t := t) _ (Int.le_refl _)).1]; have := p0.2.1.1; omega, fun q => absurd q (by decide), fun q => absurd q (by decide), fun q => absurd q (by decide), fun q => absurd q (by decide), fun q => absurd q (by decide), ⟨fun q => absurd q (by decide), fun _ => hc, fun q => absurd q (by decide)⟩, ⟨by decide, by decide⟩⟩
  have h2 := (h1.app hd (by have := p1.2.1; have := p0.2.1; omega))
  have lab := la.tr (K := lsk b) (T := μ2.1 111 22) (by rw [la.1] at lb; exact lb)
  exact mPX.fin h2 lab rfl (by decide) (fun i => by simp only [List.mem_append]; exact Or.comm)
/-- one part, its SKIP, an op on it -/
theorem as_part {μo μ μ1 μ2 ν : M3} {t a o f s H : Int} (h : mEX μo μ t 1 0 H) (k : qK t 0 a μ μ1) (g : mAD μ1 μ2 o f s) (ho : o = 22 ∨ o = 23 ∨ o = 29 ∨ o = 32) (hb9 : o = 29 → t = 2) (la : mAIM μ2 ν (lsk a) (μ2.1 111 22)) : mEX μo ν t 1 0 H := by
  have h0 : mPX μo μ t 1 1 H [] := mPX.of h
  have h1 := h0.sk k (by decide) (by decide) (by decide)
  rw [List.append_nil] at h1
  have p1 := h1.2.1.2.2.2.2.2 _ h1.1.1 (Int.le_refl _)
  have p0 := h1.2.1.2.2.2.2.2 _ (Int.le_refl _) h1.1.1
  have e1 := h1.2.1.2.1
  have e0 : eem o s = 0 := by rcases ho with q | q | q | q <;> (rw [q]; rfl)
  have hd := g.ex (t := t) (e := 0) ⟨by have := h1.2.1.1; omega, p1.2.1.1⟩ (by unfold mpl; omega) e0 (by have := p0.2.1.1; omega) (by
    have hh := (g.1.fo (t := t) _ (Int.le_refl _)).1
    have h9 := p0.2.1.1
    rcases ho with q | q | q | q <;> rw [q] at hb9 ⊢ <;> exact ⟨fun q => absurd q (by decide), ⟨fun q => absurd q (by decide), fun q => absurd q (by decide)⟩, fun _ => by rw [hh]; omega, fun q => absurd q (by decide), fun q => absurd q (by decide), fun q => absurd q (by decide), fun q => absurd q (by decide), fun q => absurd q (by decide), fun q => absurd q (by decide), fun q => absurd q (by decide), fun q => absurd q (by decide), fun q => absurd q (by decide), fun q => absurd q (by decide), fun q => absurd q (by decide), fun q => absurd q (by decide), fun q => absurd q (by decide), fun q => absurd q (by decide), fun q => absurd q (by decide), fun q => absurd q (by decide), fun q => absurd q (by decide), fun q => absurd q (by decide), ⟨fun z => absurd z (by decide), fun z => absurd z (by decide), hb9⟩, ⟨by decide, by decide⟩⟩)
  have h2 := (h1.app hd (by have := p1.2.1; have := p0.2.1; omega))
  exact mPX.fin h2 la rfl (by decide) (fun i => Iff.rfl)
/-- x [ i ] -/
theorem as_get {μo μ μ1 μ2 μ3 ν : M3} {t a b H : Int} (h : mPX μo μ t 2 1 H (lsk a ++ [])) (k : qK t 1 b μ μ1) (g : mAD μ1 μ2 24 0 0) (la : mAIM μ2 μ3 (lsk a) (μ2.1 111 22)) (lb : mAIM μ3 ν (lsk b) (μ3.1 111 22)) : mEX μo ν t 1 0 H := by
  rw [List.append_nil] at h
  have h1 := h.sk k (by decide) (by decide) (by decide)
  have p1 := h1.2.1.2.2.2.2.2 _ h1.1.1 (Int.le_refl _)
  have p0 := h1.2.1.2.2.2.2.2 _ (Int.le_refl _) h1.1.1
  have e1 := h1.2.1.2.1
  have hd := g.ex (t := t) (e := -1) ⟨by have := h1.2.1.1; omega, p1.2.1.1⟩ (by unfold mpl; omega) rfl (by have := p0.2.1.1; omega) ⟨fun q => absurd q (by decide), ⟨fun q => absurd q (by decide), fun q => absurd q (by decide)⟩, fun q => absurd q (by decide), fun q => absurd q (by decide), fun q => absurd q (by decide), fun q => absurd q (by decide), fun q => absurd q (by decide), fun q => absurd q (by decide), fun q => absurd q (by decide), fun q => absurd q (by decide), fun q => absurd q (by decide), fun q => absurd q (by decide), fun q => absurd q (by decide), fun q => absurd q (by decide), fun q => absurd q (by decide), fun _ => by rw [(g.1.fo (t := t) _ (Int.le_refl _)).1]; have := p0.2.1.1; omega, fun q => absurd q (by decide), fun q => absurd q (by decide), fun q => absurd q (by decide), fun q => absurd q (by decide), fun q => absurd q (by decide), ⟨fun q => absurd q (by decide), fun q => absurd q (by decide), fun q => absurd q (by decide)⟩, ⟨by decide, by decide⟩⟩
  have h2 := (h1.app hd (by have := p1.2.1; have := p0.2.1; omega))
  have lab := la.tr (K := lsk b) (T := μ2.1 111 22) (by rw [la.1] at lb; exact lb)
  exact mPX.fin h2 lab rfl (by decide) (fun i => by simp only [List.mem_append]; exact Or.comm)
/-- Q else E -/
theorem as_els {μo μ μ1 μ2 ν : M3} {t H : Int} (h : mEX μo μ t 1 0 H) (ht : t = 2) (g : mAD μ μ1 34 0 0) (k : mEX μ1 μ2 t 1 0 H) (l : mMF μ2 ν (μ.1 111 22) (μ2.1 111 22)) : mEX μo ν t 1 0 H := by
  have E := h.1.tr (g.1.tr k.1)
  have l0 := h.1.1
  have l1 := g.2.1
  have l2 := k.1.1
  have z1 := fun i (hi : i ≤ μ.1 111 22) => g.1.fo (t := t) i hi
  have zc := z1 (μ.1 111 22) (Int.le_refl _)
  have zA := z1 (μo.1 111 22) l0
  have ph := h.2.2.2.2.2.2 _ l0 (Int.le_refl _)
  have p0 := h.2.2.2.2.2.2 _ (Int.le_refl _) l0
  have e1 := h.2.2.1
  have s1 := mSg.kx0 h.2 (g.1.kx (Y := NX) (Int.le_refl _)) g.1.2.1 (fun _ _ _ z => z)
  have one : mSX μ1 cR t (nS μ1) (μ.1 111 22) (μ.1 111 22 + 1) (-1) 0 (max (-1) 0) (fun i => i = μ.1 111 22) :=
    mSX.one (by have := h.2.1.1; omega) (by rw [zc.1]; exact ph.2.1.1) (by rw [g.2.2.1]; rfl) (by rw [zc.1]; have := p0.2.1.1; omega) (by rw [g.2.2.1]; rfl) (by rw [g.2.2.1]; rfl) (by rw [g.2.2.1]; rfl) (Or.inl rfl)
  have s2 := mSX.app s1 (one.mn (Int.le_refl _) (show (max (-1) 0 : Int) ≤ H - 1 by have := ph.2.1; have := p0.2.1; omega) (fun _ _ _ z => z))
  rw [← l1] at s2
  have s3 := mSg.kx0 s2 (k.1.kx (Y := NX) (Int.le_refl _)) k.1.2.1 (fun _ _ _ z => z)
  have s4 := mSX.app s3 (k.2.mn (Int.le_refl _) (show H ≤ H - (1 + -1) by omega) (fun _ _ _ z => z))
  have o2 : cdm μ2 cR (μ.1 111 22) 0 = 34 := by rw [k.1.2.2 _ 0 k0 (by omega)]; exact g.2.2.1
  have o3 : cdm μ2 cR (μ.1 111 22) 2 = 0 := by rw [k.1.2.2 _ 2 k2 (by omega)]; exact g.2.2.2.2
  have s5 : mSX μ2 cR t (nS μ2) (μo.1 111 22) (μ2.1 111 22) 1 0 H (fun i => i = μ.1 111 22) := s4.mn (Int.le_refl _) (Int.le_refl _) (fun i _ _ q => by
    rcases q with (q | q) | q
    · exact q.elim
    · exact q
    · exact q.elim)
  have no13 : ∀ i, μo.1 111 22 ≤ i → i < μ2.1 111 22 → ¬ i = μ.1 111 22 → cdm μ2 cR i 0 = 13 → cdm μ2 cR (i + 1) 0 = 8 → i < cdm μ2 cR (i + 1) 1 → ¬ (i + 1) = μ.1 111 22 := fun i _ _ _ _ h8 _ hm => by rw [hm, o2] at h8; exact absurd h8 (by decide)
  have no8 : ∀ x, μo.1 111 22 ≤ x → x < μ2.1 111 22 → x = μ.1 111 22 → cdm ν cR x 0 = 8 → x < cdm ν cR x 1 := fun x _ h2 hm h8 => by
    rw [hm, l.2.2.2.2 _ 0 k0 (by omega) (fun q => absurd q.2 (by decide)), o2] at h8
    exact absurd h8 (by decide)
  have s6 := s5.kx (l.kx (Int.le_refl _)) l.2.1 (fun _ _ _ z => z) no13 no8
  refine ⟨⟨by rw [l.1]; exact E.1, NS.tr E.2.1 l.2.1, fun i x hx hi => ?_⟩, ?_⟩
  · rw [l.2.2.2.2 i x hx (by omega) (fun q => by omega)]; exact E.2.2 i x hx hi
  rw [l.1]
  have zi := l.fo (t := t) (μ.1 111 22) (by omega)
  have hcs := s6.2.2.1
  have dB := s6.2.2.2.1
  have rB := s6.2.2.2.2.2 _ E.1 (Int.le_refl _)
  have ri := s6.2.2.2.2.2 (μ.1 111 22) l0 (by omega)
  have rA := s6.2.2.2.2.2 _ (Int.le_refl _) E.1
  have hB := s6.2.1
  have k2 := (k.1.fo (t := t) (μ.1 111 22) (by omega)).1
  have hi : mh ν cR (μ.1 111 22) = mh ν cR (μo.1 111 22) + 1 := by
    have w1 := (l.fo (t := t) (μo.1 111 22) (by omega)).1
    have w2 := (k.1.fo (t := t) (μo.1 111 22) (by omega)).1
    rw [zi.1, k2, zc.1, w1, w2, zA.1]; exact e1
  refine s6.cls (fun i i1 i2 q => Or.inr ?_)
  rw [q]
  unfold lcq
  rw [l.2.2.2.2 _ 0 k0 (by omega) (fun q => absurd q.2 (by decide)), l.2.2.2.2 _ 2 (kk2) (by omega) (fun q => absurd q.2 (by decide)), l.2.2.2.1, o2, o3]
  exact ⟨fun q => absurd q (by decide), ⟨fun q => absurd q (by decide), fun q => absurd q (by decide)⟩, fun q => absurd q (by decide), fun q => absurd q (by decide), fun q => absurd q (by decide), fun q => absurd q (by decide), fun q => absurd q (by decide), fun q => absurd q (by decide), fun q => absurd q (by decide), fun q => absurd q (by decide), fun q => absurd q (by decide), fun q => absurd q (by decide), fun q => absurd q (by decide), fun q => absurd q (by decide), fun q => absurd q (by decide), fun q => absurd q (by decide), fun q => absurd q (by decide), fun q => absurd q (by decide), fun q => absurd q (by decide), fun q => absurd q (by decide), fun _ => ⟨ht, by have := rA.2.1.1; omega, ⟨by omega, Int.le_refl _, hcs (by omega)⟩, by omega, by omega, by omega, fun j hj => by rw [rB.2.2 j (by omega), ri.2.2 j (by omega)]⟩, ⟨fun q => absurd q (by decide), fun q => absurd q (by decide), fun q => absurd q (by decide)⟩, ⟨by decide, by decide⟩⟩
theorem mAD.of {μ ν : M3} {n o f s : Int} (hn : n = μ.1 111 22) (h1 : ν.1 111 22 = n + 1) (h29 : ν.1 111 29 = μ.1 111 29) (h31 : ν.1 111 31 = μ.1 111 31) (a0 : ν.1 115 (36000 + n) = o) (a1 : ν.1 116 (36000 + n) = f) (a2 : ν.1 117 (36000 + n) = s) (k0 : ∀ j, j ≠ 36000 + n → ν.1 115 j = μ.1 115 j) (k1 : ∀ j, j ≠ 36000 + n → ν.1 116 j = μ.1 116 j) (k2 : ∀ j, j ≠ 36000 + n → ν.1 117 j = μ.1 117 j) : mAD μ ν o f s := by
  refine ⟨⟨by omega, nS.le (by omega) (by omega), fun i k hk hi => ?_⟩, by omega, ?_, ?_, ?_⟩
  · unfold cdm cR
    rw [k0 _ (by omega), k1 _ (by omega), k2 _ (by omega)]
  · rw [← hn]; unfold cdm cR; rw [if_pos rfl]; exact a0
  · rw [← hn]; unfold cdm cR; rw [if_neg (by decide), if_pos rfl]; exact a1
  · rw [← hn]; unfold cdm cR; rw [if_neg (by decide), if_neg (by decide)]; exact a2
theorem mMF.of {μ ν : M3} {q T : Int} (h1 : ν.1 111 22 = μ.1 111 22) (h29 : ν.1 111 29 = μ.1 111 29) (h31 : ν.1 111 31 = μ.1 111 31) (hq : 0 ≤ q ∧ q < μ.1 111 22) (a1 : ν.1 116 (36000 + q) = T) (k0 : ∀ j, ν.1 115 j = μ.1 115 j) (k1 : ∀ j, j ≠ 36000 + q → ν.1 116 j = μ.1 116 j) (k2 : ∀ j, ν.1 117 j = μ.1 117 j) : mMF μ ν q T := by
  refine ⟨h1, nS.le (by omega) (by omega), hq, ?_, fun i k hk hi hn => ?_⟩
  · unfold cdm cR; rw [if_neg (by decide), if_pos rfl]; exact a1
  · unfold cdm cR
    rw [k0, k2]
    by_cases e : k = 1
    · rw [e, if_neg (by decide), if_pos rfl, if_neg (by decide), if_pos rfl, k1 _ (by omega)]
    · by_cases e0 : k = 0
      · rw [if_pos e0, if_pos e0]
      · rw [if_neg e0, if_neg e, if_neg e0, if_neg e]
theorem mPX.h1 {μo μ : M3} {t e w H : Int} {L : List Int} (h : mPX μo μ t e w H L) : mH0 μ ∧ mh μ cR (μ.1 111 22) = mh μo cR (μo.1 111 22) + e ∧ 0 ≤ mh μo cR (μo.1 111 22) ∧ e ≤ H := by
  have p1 := h.2.1.2.2.2.2.2 _ h.1.1 (Int.le_refl _)
  have p0 := h.2.1.2.2.2.2.2 _ (Int.le_refl _) h.1.1
  have e1 := h.2.1.2.1
  have z := (h.1.fo (t := t) _ (Int.le_refl _)).1
  exact ⟨⟨by have := h.2.1.1; omega, p1.2.1.1⟩, by rw [e1, z], by have := p0.2.1.1; rw [z] at this; exact this, by have := p1.2.1.2; omega⟩
theorem mPX.nil {μ : M3} {t w H : Int} (h : mH0 μ) (hH : 0 ≤ H) : mPX μ μ t 0 w H [] := mPX.of ((mEX.rf h).mn (Int.le_refl _) hH)
theorem mPX.ee {μo μ : M3} {t e f w H : Int} {L : List Int} (h : mPX μo μ t e w H L) (he : e = f) : mPX μo μ t f w H L := by rw [← he]; exact h
theorem mPX.ql {μo μ ν : M3} {t e w H : Int} {L : List Int} (g : q0m μo μ) (h : mPX μ ν t e w H L) : mPX μo ν t e w H L := by
  obtain ⟨h1, h2, h3, h4⟩ := h
  rw [g.2] at h2
  exact ⟨g.1.tr h1, h2, h3, fun i hi => by rw [← g.2]; exact h4 i hi⟩
/-- parts of a call that wait -/
def wlt (μ : M3) (f n : Int) (K : List Int) : Prop := (K.length : Int) = n - f ∧ ∀ k : Nat, k < K.length → K[k]? = some (μ.1 126 (f + k))
