/-! the reference's statements: a stretch under way -/
/-- what the folds tell at a place -/
def mPt (μ : M3) (t q h c d : Int) (K : Int → Int) : Prop := (0 ≤ q ∧ q ≤ μ.1 111 22) ∧ mh μ cR q = h ∧ mc μ cR t q = c ∧ md μ cR t q = d ∧ ∀ j, j < d → mk μ cR t q j = K j
theorem mPt.fo {μ ν : M3} {t q h c d : Int} {K : Int → Int} (p : mPt μ t q h c d K) (hl : μ.1 111 22 ≤ ν.1 111 22) (z : ∀ i, i ≤ μ.1 111 22 → mh ν cR i = mh μ cR i ∧ mc ν cR t i = mc μ cR t i ∧ md ν cR t i = md μ cR t i ∧ ∀ j, mk ν cR t i j = mk μ cR t i j) : mPt ν t q h c d K := by
  obtain ⟨p0, p1, p2, p3, p4⟩ := p
  have y := z q p0.2
  exact ⟨⟨p0.1, by omega⟩, y.1.trans p1, y.2.1.trans p2, y.2.2.1.trans p3, fun j hj => (y.2.2.2 j).trans (p4 j hj)⟩
theorem mPt.ext {μ ν : M3} {t q h c d : Int} {K : Int → Int} (p : mPt μ t q h c d K) (e : mEXT μ ν) : mPt ν t q h c d K := p.fo e.1 (fun i hi => e.fo i hi)
theorem mPt.mf {μ ν : M3} {t q h c d r T : Int} {K : Int → Int} (p : mPt μ t q h c d K) (l : mMF μ ν r T) : mPt ν t q h c d K := p.fo (by rw [l.1]; exact Int.le_refl _) (fun i hi => l.fo i hi)
theorem mPt.e {μ : M3} {t q h c d h2 c2 d2 : Int} {K K2 : Int → Int} (p : mPt μ t q h c d K) (hh : h = h2) (hc : c = c2) (hd : d = d2) (hK : ∀ j, j < d2 → K j = K2 j) : mPt μ t q h2 c2 d2 K2 := by
  subst hh; subst hc; subst hd
  exact ⟨p.1, p.2.1, p.2.2.1, p.2.2.2.1, fun j hj => (p.2.2.2.2 j hj).trans (hK j hj)⟩
def mup (K : Int → Int) (d v : Int) : Int → Int := fun j => if j = d then v else K j
theorem mup_s {K : Int → Int} {d v : Int} : mup K d v d = v := if_pos rfl
theorem mup_n {K : Int → Int} {d v j : Int} (h : j ≠ d) : mup K d v j = K j := if_neg h
/-- an op more: what the folds tell behind it -/
theorem mPt.ad0 {μ ν : M3} {t h c d o f s d2 : Int} {K K2 : Int → Int} (p : mPt μ t (μ.1 111 22) h c d K) (g : mAD μ ν o f s) (hd : d + dem t (mp μ cR (μ.1 111 22)) o = d2) (hK : ∀ k : Int → Int, (∀ j, j < d → k j = K j) → ∀ j, j < d2 → bem t (mp μ cR (μ.1 111 22)) o d k j = K2 j) : mPt ν t (ν.1 111 22) (h + eem o s) (cem t o c) d2 K2 := by
  have q := p.ext g.1
  have h0 := p.1.1
  have em : mp ν cR (μ.1 111 22) = mp μ cR (μ.1 111 22) := by
    by_cases e : μ.1 111 22 = 0
    · rw [e]; rfl
    · have e1 : μ.1 111 22 = μ.1 111 22 - 1 + 1 := by omega
      rw [e1, mp_s (by omega), mp_s (by omega)]
      exact g.1.2.2 _ 0 k0 (by omega)
  rw [g.2.1]
  refine ⟨⟨by omega, by rw [g.2.1]; exact Int.le_refl _⟩, ?_, ?_, ?_, fun j hj => ?_⟩
  · rw [mh_s h0, q.2.1, g.2.2.1, g.2.2.2.2]
  · rw [mc_s h0, q.2.2.1, g.2.2.1]
  · rw [md_s h0, q.2.2.2.1, g.2.2.1, em]; exact hd
  · rw [mk_s h0, g.2.2.1, em, q.2.2.2.1]
    exact hK _ q.2.2.2.2 j hj
/-- ops that open and leave nothing -/
theorem mPt.pl {μ ν : M3} {t h c d o f s : Int} {K : Int → Int} (p : mPt μ t (μ.1 111 22) h c d K) (g : mAD μ ν o f s) (ho : mpl o ∨ o = 0 ∨ o = 13 ∨ (o = 8 ∧ (t = 3 → mp μ cR (μ.1 111 22) ≠ 14 ∧ mp μ cR (μ.1 111 22) ≠ 17))) : mPt ν t (ν.1 111 22) (h + eem o s) (cem t o c) d K := by
  unfold mpl at ho
  refine p.ad0 g ?_ ?_
  · unfold dem
    rw [if_neg (by omega), if_neg (by omega), if_neg (by omega)]
    by_cases h8 : o = 8
    · rw [if_pos h8, if_neg (fun z => by omega)]; omega
    · rw [if_neg h8]; omega
  · intro k hk j hj
    unfold bem
    rw [if_neg (by omega), if_neg (by omega), if_neg (by omega), if_neg (by omega), if_neg (by omega)]
    by_cases h8 : o = 8
    · rw [if_pos h8, if_neg (fun z => by omega), if_neg (fun z => by omega)]; exact hk j hj
    · rw [if_neg h8]; exact hk j hj
theorem mPt.fin {μ ν : M3} {t h c d f s : Int} {K : Int → Int} (p : mPt μ t (μ.1 111 22) h c d K) (g : mAD μ ν 14 f s) : mPt ν t (ν.1 111 22) (h + 0) (max (c - 1) 0) (d + 1) (mup K d 1) :=
  p.ad0 g rfl (fun k hk j hj => by
    show (if j = d then 1 else k j) = if j = d then 1 else K j
    by_cases e : j = d
    · rw [if_pos e, if_pos e]
    · rw [if_neg e, if_neg e]; exact hk j (by omega))
theorem mPt.try_ {μ ν : M3} {t h c d f s : Int} {K : Int → Int} (p : mPt μ t (μ.1 111 22) h c d K) (g : mAD μ ν 12 f s) : mPt ν t (ν.1 111 22) (h + 0) (max (c - 1) 0) (d + 1) (mup K d 0) :=
  p.ad0 g rfl (fun k hk j hj => by
    show (if j = d then 0 else k j) = if j = d then 0 else K j
    by_cases e : j = d
    · rw [if_pos e, if_pos e]
    · rw [if_neg e, if_neg e]; exact hk j (by omega))
theorem mPt.on {μ ν : M3} {t h c d f s : Int} {K : Int → Int} (p : mPt μ t (μ.1 111 22) h c d K) (g : mAD μ ν 19 f s) : mPt ν t (ν.1 111 22) (h + 0) (max (c - 1) 0) (d + 1) (mup K d 3) :=
  p.ad0 g rfl (fun k hk j hj => by
    show (if j = d then 3 else k j) = if j = d then 3 else K j
    by_cases e : j = d
    · rw [if_pos e, if_pos e]
    · rw [if_neg e, if_neg e]; exact hk j (by omega))
theorem mPt.opn {μ ν : M3} {t h c d f s : Int} {K : Int → Int} (p : mPt μ t (μ.1 111 22) h c d K) (g : mAD μ ν 21 f s) : mPt ν t (ν.1 111 22) (h + 0) (max (c - 1) 0) (d + 1) (mup K d 4) :=
  p.ad0 g rfl (fun k hk j hj => by
    show (if j = d then 4 else k j) = if j = d then 4 else K j
    by_cases e : j = d
    · rw [if_pos e, if_pos e]
    · rw [if_neg e, if_neg e]; exact hk j (by omega))
theorem mPt.lv {μ ν : M3} {t h c d o f s : Int} {K : Int → Int} (p : mPt μ t (μ.1 111 22) h c d K) (g : mAD μ ν o f s) (ho : o = 15 ∨ o = 17) : mPt ν t (ν.1 111 22) (h + 0) 0 (d - 1) K := by
  rcases ho with e | e <;> subst e <;> exact p.ad0 g (by show d + -1 = _; omega) (fun k hk j hj => hk j (by omega))
/-- LEAVEFIN -/
theorem mPt.lf {μ ν : M3} {t h c d f s : Int} {K : Int → Int} (p : mPt μ t (μ.1 111 22) h c d K) (g : mAD μ ν 16 f s) (ht : t ≠ 3) : mPt ν t (ν.1 111 22) (h + 0) 0 d (mup K (d - 1) 2) :=
  p.ad0 g (by show d + (if t = 3 then -1 else 0) = d; rw [if_neg ht]; omega) (fun k hk j hj => by
    show (if t ≠ 3 ∧ j = d - 1 then 2 else k j) = if j = d - 1 then 2 else K j
    by_cases e : j = d - 1
    · rw [if_pos ⟨ht, e⟩, if_pos e]
    · rw [if_neg (fun z => e z.2), if_neg e]; exact hk j hj)
theorem mPt.lf3 {μ ν : M3} {t h c d f s : Int} {K : Int → Int} (p : mPt μ t (μ.1 111 22) h c d K) (g : mAD μ ν 16 f s) (ht : t = 3) : mPt ν t (ν.1 111 22) (h + 0) 0 (d - 1) K :=
  p.ad0 g (by show d + (if t = 3 then -1 else 0) = d - 1; rw [if_pos ht]; omega) (fun k hk j hj => by
    show (if t ≠ 3 ∧ j = d - 1 then 2 else k j) = K j
    rw [if_neg (fun z => z.1 ht)]; exact hk j (by omega))
/-- in EXITS: JUMP behind FIN -/
theorem mPt.jf {μ ν : M3} {t h c d f s : Int} {K : Int → Int} (p : mPt μ t (μ.1 111 22) h c d K) (g : mAD μ ν 8 f s) (ht : t = 3) (hp : mp μ cR (μ.1 111 22) = 14) : mPt ν t (ν.1 111 22) (h + 0) 0 d (mup K (d - 1) 2) :=
  p.ad0 g (by rw [hp]; show d + (if t = 3 ∧ (14 : Int) = 17 then 1 else 0) = d; rw [if_neg (fun z => absurd z.2 (by decide))]; omega) (fun k hk j hj => by
    rw [hp]
    show (if t = 3 ∧ (14 : Int) = 14 ∧ j = d - 1 then 2 else if t = 3 ∧ (14 : Int) = 17 ∧ j = d then 1 else k j) = if j = d - 1 then 2 else K j
    by_cases e : j = d - 1
    · rw [if_pos ⟨ht, rfl, e⟩, if_pos e]
    · rw [if_neg (fun z => e z.2.2), if_neg (fun z => absurd z.2.1 (by decide)), if_neg e]; exact hk j hj)
/-- in EXITS: JUMP behind ENDFIN -/
theorem mPt.je {μ ν : M3} {t h c d f s : Int} {K : Int → Int} (p : mPt μ t (μ.1 111 22) h c d K) (g : mAD μ ν 8 f s) (ht : t = 3) (hp : mp μ cR (μ.1 111 22) = 17) : mPt ν t (ν.1 111 22) (h + 0) 0 (d + 1) (mup K d 1) :=
  p.ad0 g (by rw [hp]; show d + (if t = 3 ∧ (17 : Int) = 17 then 1 else 0) = d + 1; rw [if_pos ⟨ht, rfl⟩]) (fun k hk j hj => by
    rw [hp]
    show (if t = 3 ∧ (17 : Int) = 14 ∧ j = d - 1 then 2 else if t = 3 ∧ (17 : Int) = 17 ∧ j = d then 1 else k j) = if j = d then 1 else K j
    rw [if_neg (fun z => absurd z.2.1 (by decide))]
    by_cases e : j = d
    · rw [if_pos ⟨ht, rfl, e⟩, if_pos e]
    · rw [if_neg (fun z => e z.2.2), if_neg e]; exact hk j (by omega))
/-- an op that waits or is looked at later -/
def mMk (μ : M3) (t q o s h c d : Int) (K : Int → Int) : Prop := q < μ.1 111 22 ∧ cdm μ cR q 0 = o ∧ cdm μ cR q 2 = s ∧ mPt μ t q h c d K
theorem mMk.of {μ ν : M3} {t h c d o f s : Int} {K : Int → Int} (p : mPt μ t (μ.1 111 22) h c d K) (g : mAD μ ν o f s) : mMk ν t (μ.1 111 22) o s h c d K := ⟨by rw [g.2.1]; omega, g.2.2.1, g.2.2.2.2, p.ext g.1⟩
theorem mMk.ext {μ ν : M3} {t q o s h c d : Int} {K : Int → Int} (m : mMk μ t q o s h c d K) (e : mEXT μ ν) : mMk ν t q o s h c d K := ⟨by have := e.1; have := m.1; omega, by rw [e.2.2 q 0 k0 m.1]; exact m.2.1, by rw [e.2.2 q 2 k2 m.1]; exact m.2.2.1, m.2.2.2.ext e⟩
theorem mMk.mf {μ ν : M3} {t q o s h c d r T : Int} {K : Int → Int} (m : mMk μ t q o s h c d K) (l : mMF μ ν r T) : mMk ν t q o s h c d K := ⟨by rw [l.1]; exact m.1, by rw [l.2.2.2.2 q 0 k0 m.1 (fun z => absurd z.2 (by decide))]; exact m.2.1, by rw [l.2.2.2.2 q 2 k2 m.1 (fun z => absurd z.2 (by decide))]; exact m.2.2.1, m.2.2.2.mf l⟩
/-- a stretch under way from μo on: L waits; h, c, d, K at its end -/
def mWS (μo μ : M3) (t M dA : Int) (KA : Int → Int) (L : List Int) (h c d : Int) (K : Int → Int) : Prop := mEXT μo μ ∧ mPt μ t (μo.1 111 22) 0 (mc μ cR t (μo.1 111 22)) dA KA ∧ mPt μ t (μ.1 111 22) h c d K ∧ (∀ i, μo.1 111 22 ≤ i → i < μ.1 111 22 → i ∉ L → lcq μ cR t (nS μ) i (μo.1 111 22) (μ.1 111 22)) ∧ (∀ i, μo.1 111 22 ≤ i → i ≤ μ.1 111 22 → (dA ≤ md μ cR t i ∧ md μ cR t i ≤ dA + M) ∧ (0 ≤ mh μ cR i ∧ mh μ cR i ≤ 101) ∧ ∀ j, j < dA → mk μ cR t i j = KA j)
/-- a statement's first op, STEP, was just added -/
def mS1 (μ : M3) (t : Int) : Prop := 0 ≤ μ.1 111 22 ∧ mh μ cR (μ.1 111 22) = 0 ∧ mc μ cR t (μ.1 111 22) = (if t = 0 then 2 else 1)
def mS0 (μ : M3) : Prop := 0 ≤ μ.1 111 22 ∧ mh μ cR (μ.1 111 22) = 0
def mEY (μ ν : M3) (t M : Int) : Prop := mEX μ ν t 0 M 101 ∧ mc ν cR t (ν.1 111 22) = 0
theorem mS1.qm {μ ν : M3} {t : Int} (h : mS1 μ t) (g : q0m μ ν) : mS1 ν t := by
  have z := g.1.fo (t := t) _ (Int.le_refl _)
  unfold mS1 at *
  rw [g.2, z.1, z.2.1]; exact h
theorem mS0.qm {μ ν : M3} (h : mS0 μ) (g : q0m μ ν) : mS0 ν := by
  have z := g.1.fo (t := 0) _ (Int.le_refl _)
  unfold mS0 at *
  rw [g.2, z.1]; exact h
theorem mS0.h {μ : M3} (h : mS0 μ) : mH0 μ := ⟨h.1, by rw [h.2]; exact Int.le_refl _⟩
theorem mS1.s {μ : M3} {t : Int} (h : mS1 μ t) : mS0 μ := ⟨h.1, h.2.1⟩
theorem mEX.s0 {μ ν : M3} {t M H : Int} (h : mS0 μ) (k : mEX μ ν t 0 M H) : mS0 ν := ⟨k.h1.1, by rw [k.h, h.2]; rfl⟩
theorem mS0.stp {μ ν : M3} {t p : Int} (h : mS0 μ) (g : mAD μ ν 0 p 0) : mS1 ν t := by
  have z := g.1.fo (t := t) _ (Int.le_refl _)
  have h0 := h.1
  refine ⟨by rw [g.2.1]; omega, ?_, ?_⟩
  · rw [g.2.1, mh_s h0, z.1, h.2, g.2.2.1, g.2.2.2.2]; rfl
  · rw [g.2.1, mc_s h0, g.2.2.1]; rfl
/-- STEP, then what the statement leaves behind -/
theorem mEY.stp {π μ ν : M3} {t p M : Int} (h : mS0 π) (g : mAD π μ 0 p 0) (k : mEY μ ν t M) : mEX π ν t 0 M 101 := by
  obtain ⟨k, hc⟩ := k
  refine ⟨g.1.tr k.1, ?_⟩
  have z := fun i (hi : i ≤ π.1 111 22) => (g.1.tr k.1).fo (t := t) i hi
  have l1 := g.2.1
  have l2 := k.1.1
  have h0 := h.1
  have m0 := k.2.2.2.2.2.2 (μ.1 111 22) (Int.le_refl _) l2
  have za := z (π.1 111 22) (Int.le_refl _)
  have oa : cdm ν cR (π.1 111 22) 0 = 0 := by rw [k.1.2.2 _ 0 k0 (by omega)]; exact g.2.2.1
  have sa : cdm ν cR (π.1 111 22) 2 = 0 := by rw [k.1.2.2 _ 2 k2 (by omega)]; exact g.2.2.2.2
  have mB : mh ν cR (μ.1 111 22) = mh ν cR (π.1 111 22) := by rw [l1, mh_s h0, oa, sa]; show _ + 0 = _; omega
  have dB : md ν cR t (μ.1 111 22) = md ν cR t (π.1 111 22) := by rw [l1, md_s h0, oa]; show _ + 0 = _; omega
  have kB : mk ν cR t (μ.1 111 22) = mk ν cR t (π.1 111 22) := by rw [l1, mk_s h0, oa]; rfl
  have hz : mh ν cR (π.1 111 22) = 0 := by rw [za.1]; exact h.2
  obtain ⟨s0, s1, s2, s3, s4, s5⟩ := k.2
  refine ⟨⟨h0, by omega⟩, by omega, fun _ => hc, by omega, fun i ha hb hX => ?_, fun i ha hb => ?_⟩
  · by_cases e : i = π.1 111 22
    · rw [e]
      unfold lcq
      rw [oa]
      exact ⟨fun q => absurd q (by decide), ⟨fun q => absurd q (by decide), fun q => absurd q (by decide)⟩, fun q => absurd q (by decide), fun q => absurd q (by decide), fun q => absurd q (by decide), fun q => absurd q (by decide), fun q => absurd q (by decide), fun q => absurd q (by decide), fun q => absurd q (by decide), fun q => absurd q (by decide), fun q => absurd q (by decide), fun q => absurd q (by decide), fun q => absurd q (by decide), fun q => absurd q (by decide), fun q => absurd q (by decide), fun q => absurd q (by decide), fun q => absurd q (by decide), fun q => absurd q (by decide), fun q => absurd q (by decide), fun q => absurd q (by decide), fun q => absurd q (by decide), ⟨fun q => absurd q (by decide), fun q => absurd q (by decide), fun q => absurd q (by decide)⟩, ⟨by decide, by decide⟩⟩
    · exact (s4 i (by omega) hb hX).up (by omega) (Int.le_refl _) (by omega)
  · by_cases e : i = π.1 111 22
    · rw [e]
      exact ⟨by omega, by omega, fun _ _ => rfl⟩
    · have q := s5 i (by omega) hb
      refine ⟨by omega, by omega, fun j hj => ?_⟩
      rw [q.2.2 j (by omega), kB]
theorem mWS.nil {μ : M3} {t M : Int} (h : mS0 μ) (hM : 0 ≤ M) : mWS μ μ t M (md μ cR t (μ.1 111 22)) (mk μ cR t (μ.1 111 22)) [] 0 (mc μ cR t (μ.1 111 22)) (md μ cR t (μ.1 111 22)) (mk μ cR t (μ.1 111 22)) := by
  have hz := h.2
  refine ⟨mEXT.rf, ⟨⟨h.1, Int.le_refl _⟩, h.2, rfl, rfl, fun _ _ => rfl⟩, ⟨⟨h.1, Int.le_refl _⟩, h.2, rfl, rfl, fun _ _ => rfl⟩, fun i h1 h2 _ => absurd h1 (by omega), fun i h1 h2 => ?_⟩
  have e : i = μ.1 111 22 := by omega
  rw [e]
  exact ⟨by omega, by omega, fun _ _ => rfl⟩
theorem mWS.ad {μo μ ν : M3} {t M dA h c d o f s h2 c2 d2 : Int} {KA K K2 : Int → Int} {L : List Int} (w : mWS μo μ t M dA KA L h c d K) (g : mAD μ ν o f s) (p : mPt ν t (ν.1 111 22) h2 c2 d2 K2) (hh : 0 ≤ h2 ∧ h2 ≤ 101) (hd : dA ≤ d2 ∧ d2 ≤ dA + M) (hK : ∀ j, j < dA → K2 j = KA j) : mWS μo ν t M dA KA (μ.1 111 22 :: L) h2 c2 d2 K2 := by
  obtain ⟨w1, w2, w3, w4, w5⟩ := w
  have z := fun i (hi : i ≤ μ.1 111 22) => g.1.fo (t := t) i hi
  have za := z _ w1.1
  refine ⟨w1.tr g.1, by rw [za.2.1]; exact w2.ext g.1, p, fun i i1 i2 i3 => ?_, fun i i1 i2 => ?_⟩
  · have i4 : i ≠ μ.1 111 22 ∧ i ∉ L := ⟨fun e => i3 (by rw [e]; exact List.mem_cons_self ..), fun e => i3 (List.mem_cons_of_mem _ e)⟩
    have i5 : i < μ.1 111 22 := by have := g.2.1; omega
    exact ((w4 i i1 i5 i4.2).kx (g.1.kx (Y := NX) (Int.le_refl _)) i1 i5 (fun z => z) (fun _ _ _ z => z) g.1.2.1 (fun _ _ _ z => z.elim)).up (Int.le_refl _) g.1.1 (Int.le_refl _)
  · by_cases e : i = ν.1 111 22
    · rw [e, p.2.1, p.2.2.2.1]
      exact ⟨hd, hh, fun j hj => by rw [p.2.2.2.2 j (by omega)]; exact hK j hj⟩
    · have i5 : i ≤ μ.1 111 22 := by have := g.2.1; omega
      have y := z i i5
      rw [y.1, y.2.2.1]
      exact ⟨(w5 i i1 i5).1, (w5 i i1 i5).2.1, fun j hj => by rw [y.2.2.2]; exact (w5 i i1 i5).2.2 j hj⟩
theorem mWS.cls {μo μ : M3} {t M dA h c d q : Int} {KA K : Int → Int} {L Z : List Int} (w : mWS μo μ t M dA KA L h c d K) (hq : lcq μ cR t (nS μ) q (μo.1 111 22) (μ.1 111 22)) (hz : ∀ i, i ∈ L → i = q ∨ i ∈ Z) : mWS μo μ t M dA KA Z h c d K := by
  obtain ⟨w1, w2, w3, w4, w5⟩ := w
  refine ⟨w1, w2, w3, fun i i1 i2 i3 => ?_, w5⟩
  by_cases e : i ∈ L
  · rcases hz i e with q | q
    · rw [q]; exact hq
    · exact absurd q i3
  · exact w4 i i1 i2 e
theorem mWS.pc {μo μ : M3} {t M dA h c d h2 c2 d2 : Int} {KA K K2 : Int → Int} {L : List Int} (w : mWS μo μ t M dA KA L h c d K) (hh : h = h2) (hc : c = c2) (hd : d = d2) (hK : ∀ j, j < d2 → K j = K2 j) : mWS μo μ t M dA KA L h2 c2 d2 K2 := ⟨w.1, w.2.1, w.2.2.1.e hh hc hd hK, w.2.2.2⟩
/-- typed code is added -/
theorem mWS.ex {μo μ ν : M3} {t M dA h c d e M2 H2 : Int} {KA K : Int → Int} {L : List Int} (w : mWS μo μ t M dA KA L h c d K) (k : mEX μ ν t e M2 H2) (hM : d + M2 ≤ dA + M) (hd : dA ≤ d) (hH : h + H2 ≤ 101) (hK : ∀ j, j < dA → K j = KA j) : mWS μo ν t M dA KA L (h + e) (mc ν cR t (ν.1 111 22)) d K := by
  obtain ⟨w1, w2, w3, w4, w5⟩ := w
  have z := fun i (hi : i ≤ μ.1 111 22) => k.1.fo (t := t) i hi
  have za := z _ w1.1
  have zb := z _ (Int.le_refl _)
  have b := w3.ext k.1
  have rB := k.2.2.2.2.2.2 _ k.1.1 (Int.le_refl _)
  refine ⟨w1.tr k.1, by rw [za.2.1]; exact w2.ext k.1, ⟨⟨by have := w3.1.1; have := k.1.1; omega, Int.le_refl _⟩, by rw [k.2.2.1, b.2.1], rfl, by rw [k.2.2.2.2.1, b.2.2.2.1], fun j hj => by rw [rB.2.2 j (by rw [b.2.2.2.1]; exact hj)]; exact b.2.2.2.2 j hj⟩, fun i i1 i2 i3 => ?_, fun i i1 i2 => ?_⟩
  · by_cases i5 : i < μ.1 111 22
    · exact ((w4 i i1 i5 i3).kx (k.1.kx (Y := NX) (Int.le_refl _)) i1 i5 (fun z => z) (fun _ _ _ z => z) k.1.2.1 (fun _ _ _ z => z.elim)).up (Int.le_refl _) k.1.1 (Int.le_refl _)
    · exact (k.2.2.2.2.2.1 i (by omega) i2 (fun z => z)).up w1.1 (Int.le_refl _) (by rw [za.2.2.1, zb.2.2.1, w2.2.2.2.1, w3.2.2.2.1]; exact hd)
  · by_cases i5 : i ≤ μ.1 111 22
    · have y := z i i5
      rw [y.1, y.2.2.1]
      exact ⟨(w5 i i1 i5).1, (w5 i i1 i5).2.1, fun j hj => by rw [y.2.2.2]; exact (w5 i i1 i5).2.2 j hj⟩
    · have q := k.2.2.2.2.2.2 i (by omega) i2
      rw [b.2.1, b.2.2.2.1] at q
      refine ⟨by omega, by omega, fun j hj => ?_⟩
      rw [q.2.2 j (by omega), b.2.2.2.2 j (by omega)]; exact hK j hj
theorem mEX.c0 {μ ν : M3} {t e M H : Int} (k : mEX μ ν t e M H) (h : mc μ cR t (μ.1 111 22) = 0) : mc ν cR t (ν.1 111 22) = 0 := by
  by_cases e : μ.1 111 22 < ν.1 111 22
  · exact k.2.2.2.1 e
  · have e2 : ν.1 111 22 = μ.1 111 22 := by have := k.1.1; omega
    rw [e2, (k.1.fo (t := t) _ (Int.le_refl _)).2.1]; exact h
theorem mWS.ex0 {μo μ ν : M3} {t M dA h d e M2 H2 : Int} {KA K : Int → Int} {L : List Int} (w : mWS μo μ t M dA KA L h 0 d K) (k : mEX μ ν t e M2 H2) (hM : d + M2 ≤ dA + M) (hd : dA ≤ d) (hH : h + H2 ≤ 101) (hK : ∀ j, j < dA → K j = KA j) : mWS μo ν t M dA KA L (h + e) 0 d K := by
  have q := w.ex k hM hd hH hK
  rw [k.c0 w.2.2.1.2.2.1] at q
  exact q
/-- one that waits is aimed -/
theorem mWS.mf {μo μ ν : M3} {t M dA h c d q T : Int} {KA K : Int → Int} {L : List Int} (w : mWS μo μ t M dA KA L h c d K) (l : mMF μ ν q T) (hq : μo.1 111 22 ≤ q) (hL : q ∈ L) (h8 : cdm μ cR q 0 = 8 → cdm μ cR q 1 < q ∧ q < T) : mWS μo ν t M dA KA L h c d K := by
  obtain ⟨w1, w2, w3, w4, w5⟩ := w
  have z := fun i (hi : i ≤ μ.1 111 22) => l.fo (t := t) i hi
  have za := z _ w1.1
  have p3 := w3.mf l
  rw [← l.1] at p3
  refine ⟨⟨by rw [l.1]; exact w1.1, NS.tr w1.2.1 l.2.1, fun i k hk hi => ?_⟩, by rw [za.2.1]; exact w2.mf l, p3, fun i i1 i2 i3 => ?_, fun i i1 i2 => ?_⟩
  · rw [l.2.2.2.2 i k hk (by have := w1.1; omega) (fun z => by omega)]; exact w1.2.2 i k hk hi
  · rw [l.1] at i2 ⊢
    refine (w4 i i1 i2 i3).kx (l.kx (Int.le_refl _)) i1 i2 (fun z => i3 (by rw [z]; exact hL)) (fun _ x8 x9 z => ?_) l.2.1 (fun x _ x2 x3 x4 => ?_)
    · rw [z] at x8 x9
      have := (h8 x8).1
      omega
    · rw [x3] at x4 ⊢
      rw [l.2.2.2.2 q 0 k0 l.2.2.1.2 (fun z => absurd z.2 (by decide))] at x4
      rw [l.2.2.2.1]
      exact (h8 x4).2
  · rw [l.1] at i2
    have y := z i i2
    rw [y.1, y.2.2.1]
    exact ⟨(w5 i i1 i2).1, (w5 i i1 i2).2.1, fun j hj => by rw [y.2.2.2]; exact (w5 i i1 i2).2.2 j hj⟩
theorem mWS.end {μo μ : M3} {t M dA : Int} {KA K : Int → Int} (w : mWS μo μ t M dA KA [] 0 0 dA K) : mEY μo μ t M := by
  obtain ⟨w1, w2, w3, w4, w5⟩ := w
  refine ⟨⟨w1, ⟨w2.1.1, w1.1⟩, by rw [w2.2.1, w3.2.1]; rfl, fun _ => w3.2.2.1, by rw [w2.2.2.2.1, w3.2.2.2.1], fun i i1 i2 _ => w4 i i1 i2 (fun z => by cases z), fun i i1 i2 => ?_⟩, w3.2.2.1⟩
  have q := w5 i i1 i2
  rw [w2.2.1, w2.2.2.2.1]
  refine ⟨q.1, by omega, fun j hj => ?_⟩
  rw [q.2.2 j hj, w2.2.2.2.2 j hj]
