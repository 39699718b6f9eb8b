/-! TRY, CATCH, FINALLY of the reference -/
theorem mWS.sub {μo μ : M3} {t M dA h c d : Int} {KA K : Int → Int} {L Z : List Int} (w : mWS μo μ t M dA KA L h c d K) (hz : ∀ i, i ∈ L → i ∈ Z) : mWS μo μ t M dA KA Z h c d K :=
  ⟨w.1, w.2.1, w.2.2.1, fun i i1 i2 i3 => w.2.2.2.1 i i1 i2 (fun z => i3 (hz i z)), w.2.2.2.2⟩
/-- the JUMPs that wait, from x down to o: each tells the one below it -/
def mDn (μ : M3) (o : Int) : Nat → Int → Prop
  | 0, x => x = o
  | n + 1, x => (o < x ∧ x < μ.1 111 22) ∧ (o ≤ cdm μ cR x 1 ∧ cdm μ cR x 1 < x) ∧ mDn μ o n (cdm μ cR x 1)
def mDc (μ : M3) (o x : Int) : Prop := ∃ n, mDn μ o n x
theorem mDn.lt {μ : M3} {o : Int} : ∀ {n : Nat} {x : Int}, mDn μ o n x → o ≤ x
  | 0, x, h => by have : x = o := h; omega
  | n + 1, x, h => by have := h.1.1; omega
theorem mDn.kp {μ ν : M3} {o : Int} (hl : μ.1 111 22 ≤ ν.1 111 22) : ∀ {n : Nat} {x : Int}, mDn μ o n x → (∀ y, o < y → y ≤ x → y < μ.1 111 22 → cdm ν cR y 1 = cdm μ cR y 1) → mDn ν o n x
  | 0, x, h, _ => h
  | n + 1, x, h, k => by
    have e := k x h.1.1 (Int.le_refl _) h.1.2
    refine ⟨⟨h.1.1, by have := h.1.2; omega⟩, by rw [e]; exact h.2.1, ?_⟩
    rw [e]
    exact mDn.kp hl h.2.2 (fun y y1 y2 y3 => k y y1 (by have := h.2.1.2; omega) y3)
theorem mDc.ext {μ ν : M3} {o x : Int} (h : mDc μ o x) (e : mEXT μ ν) : mDc ν o x := by
  obtain ⟨n, h⟩ := h
  exact ⟨n, h.kp e.1 (fun y _ _ y3 => e.2.2 y 1 k1 y3)⟩
theorem mDc.mf {μ ν : M3} {o x q T : Int} (h : mDc μ o x) (l : mMF μ ν q T) (hq : x < q ∨ q ≤ o) : mDc ν o x := by
  obtain ⟨n, h⟩ := h
  exact ⟨n, h.kp (by rw [l.1]; exact Int.le_refl _) (fun y y1 y2 y3 => l.2.2.2.2 y 1 k1 y3 (fun z => by omega))⟩
theorem mDc.o {μ : M3} {o : Int} : mDc μ o o := ⟨0, rfl⟩
theorem mDc.ad {μ ν : M3} {o x : Int} (h : mDc μ o x) (g : mAD μ ν 8 x 0) (ho : o < μ.1 111 22) (hx : x < μ.1 111 22) : mDc ν o (μ.1 111 22) := by
  have h2 := h.ext g.1
  obtain ⟨n, h2⟩ := h2
  have := h2.lt
  exact ⟨n + 1, ⟨ho, by rw [g.2.1]; omega⟩, by rw [g.2.2.2.1]; omega, by rw [g.2.2.2.1]; exact h2⟩
theorem mDc.lt {μ : M3} {o x : Int} (h : mDc μ o x) : o ≤ x := by
  obtain ⟨n, h⟩ := h
  exact h.lt
theorem mDc.dn {μ : M3} {o x : Int} (h : mDc μ o x) (hx : x ≠ o) : (o < x ∧ x < μ.1 111 22) ∧ (o ≤ cdm μ cR x 1 ∧ cdm μ cR x 1 < x) ∧ mDc μ o (cdm μ cR x 1) := by
  obtain ⟨n, h⟩ := h
  cases n with
  | zero => exact absurd h hx
  | succ n => exact ⟨h.1, h.2.1, n, h.2.2⟩
/-- the same JUMPs, typed -/
def mJs (μ : M3) (t o d : Int) (K : Int → Int) : List Int → Int → Prop
  | [], x => x = o
  | y :: L, x => x = y ∧ o < y ∧ (∃ c, mMk μ t y 8 0 0 c d K) ∧ cdm μ cR y 1 < y ∧ mJs μ t o d K L (cdm μ cR y 1)
theorem mJs.ext {μ ν : M3} {t o d : Int} {K : Int → Int} (e : mEXT μ ν) : ∀ {L : List Int} {x : Int}, mJs μ t o d K L x → mJs ν t o d K L x
  | [], x, h => h
  | y :: L, x, h => by
    obtain ⟨h1, h2, ⟨c, h3⟩, h4, h5⟩ := h
    have a := e.2.2 y 1 k1 h3.1
    refine ⟨h1, h2, ⟨c, h3.ext e⟩, by rw [a]; exact h4, ?_⟩
    rw [a]
    exact mJs.ext e h5
theorem mJs.mf {μ ν : M3} {t o d q T : Int} {K : Int → Int} (l : mMF μ ν q T) : ∀ {L : List Int} {x : Int}, mJs μ t o d K L x → (x < q ∨ q ≤ o) → mJs ν t o d K L x
  | [], x, h, _ => h
  | y :: L, x, h, hq => by
    obtain ⟨h1, h2, ⟨c, h3⟩, h4, h5⟩ := h
    have a : cdm ν cR y 1 = cdm μ cR y 1 := l.2.2.2.2 y 1 k1 h3.1 (fun z => by omega)
    refine ⟨h1, h2, ⟨c, h3.mf l⟩, by rw [a]; exact h4, ?_⟩
    rw [a]
    exact mJs.mf l h5 (by omega)
/-- TRY, a CATCH: what its target will be is at hand -/
def mPd (μ : M3) (t p d : Int) (K : Int → Int) : Prop := (∃ c s, mMk μ t p 12 s 0 c d K ∧ 1 ≤ c ∧ cdm μ cR p 1 = μ.1 111 22) ∨ (∃ c s, mMk μ t p 13 s 0 c d K ∧ (0 ≤ cdm μ cR p 1 ∧ cdm μ cR p 1 < 320) ∧ p + 1 < μ.1 111 22 ∧ cdm μ cR (p + 1) 0 = 8 ∧ cdm μ cR (p + 1) 1 = μ.1 111 22)
def mTS (μo μ : M3) (t M f o x : Int) (L : List Int) : Prop := ∃ dA s c, ∃ KA K : Int → Int, ∃ J : List Int, mWS μo μ t (M + 2) dA KA (f :: o :: (L ++ J)) 0 0 (dA + 1) K ∧ (∀ j, j < dA + 1 → K j = mup KA dA 1 j) ∧ (mMk μ t f 14 s 0 c dA KA ∧ 1 ≤ c) ∧ (∃ c, mMk μ t o 8 0 0 c (dA + 1) (mup KA dA 1)) ∧ cdm μ cR o 1 = 0 ∧ 0 < o ∧ mJs μ t o (dA + 1) (mup KA dA 1) J x ∧ (μo.1 111 22 ≤ f ∧ f < o) ∧ (∀ p ∈ L, mPd μ t p (dA + 1) (mup KA dA 1) ∧ μo.1 111 22 ≤ p)
def mTR (μo μ : M3) (t M f o x : Int) : Prop := ∃ p, mTS μo μ t M f o x [p]
theorem mPd.qm {μ ν : M3} {t p d : Int} {K : Int → Int} (h : mPd μ t p d K) (g : q0m μ ν) : mPd ν t p d K := by
  rcases h with ⟨c, s, h1, h2, h3⟩ | ⟨c, s, h1, h2, h3, h4, h5⟩
  · exact Or.inl ⟨c, s, h1.ext g.1, h2, by rw [g.1.2.2 _ 1 k1 h1.1, g.2]; exact h3⟩
  · exact Or.inr ⟨c, s, h1.ext g.1, by rw [g.1.2.2 _ 1 k1 h1.1]; exact h2, by rw [g.2]; exact h3, by rw [g.1.2.2 _ 0 k0 h3]; exact h4, by rw [g.1.2.2 _ 1 k1 h3, g.2]; exact h5⟩
theorem mTS.qm {μo μ ν : M3} {t M f o x : Int} {L : List Int} (h : mTS μo μ t M f o x L) (g : q0m μ ν) : mTS μo ν t M f o x L := by
  obtain ⟨dA, s, c, KA, K, J, h1, h2, h3, ⟨c2, h4⟩, h5, h6, h7, h8, h9⟩ := h
  exact ⟨dA, s, c, KA, K, J, h1.qm g, h2, ⟨h3.1.ext g.1, h3.2⟩, ⟨c2, h4.ext g.1⟩, by rw [g.1.2.2 _ 1 k1 h4.1]; exact h5, h6, h7.ext g.1, h8, fun p hp => ⟨(h9 p hp).1.qm g, (h9 p hp).2⟩⟩
theorem mTR.qm {μo μ ν : M3} {t M f o x : Int} (h : mTR μo μ t M f o x) (g : q0m μ ν) : mTR μo ν t M f o x := by
  obtain ⟨p, h⟩ := h
  exact ⟨p, h.qm g⟩
/-- TRY, its part -/
theorem mTR.st {μ μ1 μ2 μ3 μ4 μ5 ν : M3} {t M q T s0 s1 : Int} (s : mS1 μ t) (ht : t = 0) (g : mAD μ μ1 14 0 s0) (g2 : mAD μ1 μ2 12 0 s1) (b : mEX μ2 μ3 t 0 M 101) (e : mAD μ3 μ4 15 0 0) (j : mAD μ4 μ5 8 0 0) (l : mMF μ5 ν q T) (hq : q = μ1.1 111 22) (hT : T = μ5.1 111 22) (hM : 0 ≤ M) : mTR μ ν t M (μ.1 111 22) (μ4.1 111 22) (μ4.1 111 22) := by
  subst hq
  have h0 := s.1
  have l1 := g.2.1
  have l2 := g2.2.1
  have l3 := b.1.1
  have l4 := e.2.1
  have l5 := j.2.1
  have w0 := mWS.nil (t := t) (M := M + 2) s.s (by omega)
  have p0 := w0.2.2.1
  have hc : mc μ cR t (μ.1 111 22) = 2 := by rw [s.2.2, if_pos ht]
  rw [hc] at p0
  have w1 := mWS.ad (h2 := 0) (c2 := 1) w0 g (p0.fin g) (by decide) (by omega) (fun j hj => mup_n (by omega))
  have m1 := mMk.of p0 g
  have p1 := w1.2.2.1
  have w2 := mWS.ad (h2 := 0) (c2 := 0) w1 g2 (p1.try_ g2) (by decide) (by omega) (fun j hj => by rw [mup_n (by omega), mup_n (by omega)])
  have m2 := m1.ext g2.1
  have n2 := mMk.of p1 g2
  have w3 := w2.ex0 b (by omega) (by omega) (by omega) (fun j hj => by rw [mup_n (by omega), mup_n (by omega)])
  have m3 := m2.ext b.1
  have n3 := n2.ext b.1
  have p3 := w3.2.2.1
  have w4 := mWS.ado (h2 := 0) (c2 := 0) w3 e ((p3.lv e (Or.inl rfl)).e (d2 := md μ cR t (μ.1 111 22) + 1) (K2 := mup (mk μ cR t (μ.1 111 22)) (md μ cR t (μ.1 111 22)) 1) rfl rfl (by omega) (fun j hj => mup_n (by omega))) (by decide) (by omega) (fun j hj => mup_n (by omega)) (fun x y => ⟨fun q => absurd q (by decide), ⟨fun q => absurd q (by decide), fun q => absurd q (by decide)⟩, fun q => absurd q (by decide), fun q => absurd q (by decide), fun q => absurd q (by decide), fun q => absurd q (by decide), fun q => absurd q (by decide), fun q => absurd q (by decide), fun q => absurd q (by decide), fun q => absurd q (by decide), fun _ => ⟨by rw [x.2.2.2.1, y.2.2.2.1]; omega, x.2.1⟩, fun q => absurd q (by decide), fun q => absurd q (by decide), fun q => absurd q (by decide), fun q => absurd q (by decide), fun q => absurd q (by decide), fun q => absurd q (by decide), fun q => absurd q (by decide), fun q => absurd q (by decide), fun q => absurd q (by decide), fun q => absurd q (by decide), ⟨fun q => absurd q (by decide), fun q => absurd q (by decide), fun q => absurd q (by decide)⟩, ⟨by decide, by decide⟩⟩)
  have m4 := m3.ext e.1
  have n4 := n3.ext e.1
  have p4 := w4.2.2.1
  have w5 := mWS.ad (h2 := 0) (c2 := 0) w4 j (p4.pl j (Or.inr (Or.inr (Or.inr ⟨rfl, fun z => by omega⟩)))) (by decide) (by omega) (fun j hj => mup_n (by omega))
  have m5 := m4.ext j.1
  have n5 := n4.ext j.1
  have o5 := mMk.of p4 j
  have w6 := w5.mf l (by omega) (List.mem_cons_of_mem _ (List.mem_cons_self ..)) (fun z => absurd (n5.2.1.symm.trans z) (by decide))
  refine ⟨μ1.1 111 22, md μ cR t (μ.1 111 22), s0, 2, mk μ cR t (μ.1 111 22), _, [], w6.sub (fun i hi => by simp only [List.mem_cons, List.mem_append, List.not_mem_nil, or_false, List.append_nil] at hi ⊢; omega), fun j hj => rfl, ⟨m5.mf l, by decide⟩, ⟨_, o5.mf l⟩, by rw [l.2.2.2.2 _ 1 k1 (by omega) (fun z => by omega)]; exact j.2.2.2.1, by omega, rfl, by omega, fun p hp => ?_⟩
  · have e9 : p = μ1.1 111 22 := by simpa using hp
    rw [e9]
    exact ⟨Or.inl ⟨_, _, n5.mf l, by decide, by rw [l.2.2.2.1, l.1]; exact hT⟩, by omega⟩
/-- a CATCH: what waited for it has its rule -/
theorem mPd.cls {μo μ ν : M3} {t M dA h c d p v n : Int} {KA K K1 : Int → Int} {L Z : List Int} (w : mWS μo ν t M dA KA L h c d K) (ht : t = 0) (m : mPd μ t p (dA + 1) K1) (hp : μo.1 111 22 ≤ p) (g : mAD μ ν 13 v n) (q : mPt ν t (μ.1 111 22) 0 0 (dA + 1) K1) (hz : ∀ i, i ∈ L → i = p ∨ i ∈ Z) : mWS μo ν t M dA KA Z h c d K := by
  have l1 := g.2.1
  refine w.cls ?_ hz
  unfold lcq
  rcases m with ⟨c1, s1, h1, h2, h3⟩ | ⟨c1, s1, h1, h2, h3, h4, h5⟩
  · have x := h1.ext g.1
    have a1 : cdm ν cR p 1 = μ.1 111 22 := by rw [g.1.2.2 _ 1 k1 h1.1]; exact h3
    rw [x.2.1, a1]
    exact ⟨fun q => absurd q (by decide), ⟨fun q => absurd q (by decide), fun q => absurd q (by decide)⟩, fun q => absurd q (by decide), fun q => absurd q (by decide), fun q => absurd q (by decide), fun q => absurd q (by decide), fun q => absurd q (by decide), fun _ => ⟨ht, by rw [x.2.2.2.2.2.1]; exact h2, x.2.2.2.2.1, by have := h1.1; omega, by omega, g.2.2.1, by rw [q.2.2.2.1, x.2.2.2.2.2.2.1], fun j hj => by rw [x.2.2.2.2.2.2.1] at hj; rw [q.2.2.2.2 j hj, x.2.2.2.2.2.2.2 j hj]⟩, fun q => absurd q (by decide), fun q => absurd q (by decide), fun q => absurd q (by decide), fun q => absurd q (by decide), fun q => absurd q (by decide), fun q => absurd q (by decide), fun q => absurd q (by decide), fun q => absurd q (by decide), fun q => absurd q (by decide), fun q => absurd q (by decide), fun q => absurd q (by decide), fun q => absurd q (by decide), fun q => absurd q (by decide), ⟨fun q => absurd q (by decide), fun q => absurd q (by decide), fun q => absurd q (by decide)⟩, ⟨by decide, by decide⟩⟩
  · have x := h1.ext g.1
    have a1 : cdm ν cR p 1 = cdm μ cR p 1 := g.1.2.2 _ 1 k1 h1.1
    have b0 : cdm ν cR (p + 1) 0 = 8 := by rw [g.1.2.2 _ 0 k0 h3]; exact h4
    have b1 : cdm ν cR (p + 1) 1 = μ.1 111 22 := by rw [g.1.2.2 _ 1 k1 h3]; exact h5
    rw [x.2.1, a1]
    exact ⟨fun q => absurd q (by decide), ⟨fun q => absurd q (by decide), fun q => absurd q (by decide)⟩, fun q => absurd q (by decide), fun q => absurd q (by decide), fun q => absurd q (by decide), fun q => absurd q (by decide), fun q => absurd q (by decide), fun q => absurd q (by decide), fun _ => Or.inr ⟨h2.1, h2.2, Or.inr ⟨ht, x.2.2.2.2.1, by omega, b0, by rw [b1]; omega, by rw [b1]; omega, by rw [b1]; omega, by rw [b1]; exact g.2.2.1, by rw [b1]; exact ⟨by rw [q.2.2.2.1, x.2.2.2.2.2.2.1], fun j hj => by rw [x.2.2.2.2.2.2.1] at hj; rw [q.2.2.2.2 j hj, x.2.2.2.2.2.2.2 j hj]⟩⟩⟩, fun q => absurd q (by decide), fun q => absurd q (by decide), fun q => absurd q (by decide), fun q => absurd q (by decide), fun q => absurd q (by decide), fun q => absurd q (by decide), fun q => absurd q (by decide), fun q => absurd q (by decide), fun q => absurd q (by decide), fun q => absurd q (by decide), fun q => absurd q (by decide), fun q => absurd q (by decide), ⟨fun q => absurd q (by decide), fun q => absurd q (by decide), fun q => absurd q (by decide)⟩, ⟨by decide, by decide⟩⟩
theorem mJs.lt {μ : M3} {t o d : Int} {K : Int → Int} : ∀ {J : List Int} {x : Int}, mJs μ t o d K J x → o ≤ x ∧ (o < μ.1 111 22 → x < μ.1 111 22) ∧ ∀ i, i ∈ J → o < i ∧ i ≤ x
  | [], x, h => by
    have : x = o := h
    exact ⟨by omega, fun z => by omega, fun i hi => by cases hi⟩
  | y :: L, x, h => by
    obtain ⟨h1, h2, ⟨c, h3⟩, h4, h5⟩ := h
    have q := mJs.lt h5
    refine ⟨by omega, fun _ => by rw [h1]; exact h3.1, fun i hi => ?_⟩
    rcases List.mem_cons.1 hi with e | e
    · omega
    · have := q.2.2 i e; omega
theorem mTR.step {μo μ μ1 μ2 μ3 μ4 ν : M3} {t M f o x v n q T : Int} (h : mTR μo μ t M f o x) (ht : t = 0) (g : mAD μ μ1 13 v n) (hv : 0 ≤ v ∧ v < 320) (j : mAD μ1 μ2 8 0 0) (b : mEX μ2 μ3 t 0 M 101) (j2 : mAD μ3 μ4 8 x 0) (l : mMF μ4 ν q T) (hq : q = μ1.1 111 22) (hT : T = μ4.1 111 22) (hM : 0 ≤ M) : mTR μo ν t M f o (μ3.1 111 22) := by
  subst hq
  obtain ⟨p, dA, s, c, KA, K, J, w0, hK, hf, ⟨c2, ho⟩, ha, ho0, hJ, hfo, hp⟩ := h
  have hp := hp p (List.mem_cons_self ..)
  have l1 := g.2.1
  have l2 := j.2.1
  have l3 := b.1.1
  have l4 := j2.2.1
  have h0 := w0.2.1.1.1
  have h00 := w0.1.1
  have w0 := w0.pc rfl rfl rfl hK
  have p0 := w0.2.2.1
  have kl : ∀ j, j < dA → mup KA dA 1 j = KA j := fun j hj => mup_n (by omega)
  have w1 := mWS.ad (h2 := 0) (c2 := 0) w0 g (p0.pl g (Or.inr (Or.inr (Or.inl rfl)))) (by decide) (by omega) kl
  have m1 := mMk.of p0 g
  have w1 := mPd.cls (Z := μ.1 111 22 :: f :: o :: J) w1 ht hp.1 hp.2 g (p0.ext g.1) (fun i hi => by simp only [List.mem_cons, List.mem_append, List.not_mem_nil, or_false] at hi ⊢; rcases hi with e | e | e | e | e <;> simp [e])
  have p1 := w1.2.2.1
  have mp1 := mPt.mp p0.1.1 g
  have w2 := mWS.ad (h2 := 0) (c2 := 0) w1 j (p1.pl j (Or.inr (Or.inr (Or.inr ⟨rfl, fun z => by omega⟩)))) (by decide) (by omega) kl
  have m2 := m1.ext j.1
  have n2 := mMk.of p1 j
  have w3 := w2.ex0 b (by omega) (by omega) (by omega) kl
  have m3 := m2.ext b.1
  have n3 := n2.ext b.1
  have p3 := w3.2.2.1
  have w4 := mWS.ad (h2 := 0) (c2 := 0) w3 j2 (p3.pl j2 (Or.inr (Or.inr (Or.inr ⟨rfl, fun z => by omega⟩)))) (by decide) (by omega) kl
  have m4 := m3.ext j2.1
  have n4 := n3.ext j2.1
  have i4 := mMk.of p3 j2
  have a4 : cdm μ4 cR (μ1.1 111 22) 1 = 0 := by
    rw [j2.1.2.2 _ 1 k1 (by omega), b.1.2.2 _ 1 k1 (by omega)]; exact j.2.2.2.1
  have lJ := hJ.lt
  have hx := lJ.2.1 ho.1
  have w5 := mWS.aim8 (h := 0) w4 n4 l hT (by omega) (by simp) (by omega) (fun _ _ => rfl) (Z := μ3.1 111 22 :: μ.1 111 22 :: f :: o :: J) (fun i hi => by simp only [List.mem_cons] at hi ⊢; rcases hi with e | e | e | e | e | e <;> simp [e])
  have E := ((g.1.tr j.1).tr b.1).tr j2.1
  have ol := ho.1
  refine ⟨μ.1 111 22, dA, s, c, KA, _, μ3.1 111 22 :: J, w5.sub (fun i hi => by simp only [List.mem_cons, List.mem_append, List.not_mem_nil, or_false] at hi ⊢; rcases hi with e | e | e | e | e <;> simp [e]), fun _ _ => rfl, ⟨(hf.1.ext E).mf l, hf.2⟩, ⟨c2, (ho.ext E).mf l⟩, by rw [l.2.2.2.2 _ 1 k1 (by omega) (fun z => by omega), E.2.2 _ 1 k1 ol]; exact ha, ho0, ⟨rfl, by omega, ⟨_, i4.mf l⟩, ?_, ?_⟩, hfo, fun p hp => ?_⟩
  · rw [l.2.2.2.2 _ 1 k1 (by omega) (fun z => by omega), j2.2.2.2.1]; omega
  · rw [l.2.2.2.2 _ 1 k1 (by omega) (fun z => by omega), j2.2.2.2.1]
    exact (hJ.ext E).mf l (by omega)
  · have e9 : p = μ.1 111 22 := by simpa using hp
    rw [e9]
    have E2 := (j.1.tr b.1).tr j2.1
    have av : cdm ν cR (μ.1 111 22) 1 = v := by rw [l.2.2.2.2 _ 1 k1 (by omega) (fun z => by omega), E2.2.2 _ 1 k1 (by omega)]; exact g.2.2.2.1
    have n5 := n4.mf l
    rw [l1] at n5 l
    exact ⟨Or.inr ⟨_, _, m4.mf l, by rw [av]; exact hv, n5.1, n5.2.1, by rw [l.2.2.2.1, l.1]; exact hT⟩, by omega⟩
/-- the CATCH of none -/
theorem mTR.none {μo μ ν : M3} {t M f o x v n : Int} (h : mTR μo μ t M f o x) (ht : t = 0) (g : mAD μ ν 13 v n) (hn : n = -1) (hM : 0 ≤ M) : mTS μo ν t M f o x [] := by
  obtain ⟨p, dA, s, c, KA, K, J, w0, hK, hf, ⟨c2, ho⟩, ha, ho0, hJ, hfo, hp⟩ := h
  have hp := hp p (List.mem_cons_self ..)
  have w0 := w0.pc rfl rfl rfl hK
  have p0 := w0.2.2.1
  have kl : ∀ j, j < dA → mup KA dA 1 j = KA j := fun j hj => mup_n (by omega)
  have w1 := mWS.ado (h2 := 0) (c2 := 0) w0 g (p0.pl g (Or.inr (Or.inr (Or.inl rfl)))) (by decide) (by omega) kl (fun _ _ => ⟨fun q => absurd q (by decide), ⟨fun q => absurd q (by decide), fun q => absurd q (by decide)⟩, fun q => absurd q (by decide), fun q => absurd q (by decide), fun q => absurd q (by decide), fun q => absurd q (by decide), fun q => absurd q (by decide), fun q => absurd q (by decide), fun _ => Or.inl ⟨ht, hn⟩, fun q => absurd q (by decide), fun q => absurd q (by decide), fun q => absurd q (by decide), fun q => absurd q (by decide), fun q => absurd q (by decide), fun q => absurd q (by decide), fun q => absurd q (by decide), fun q => absurd q (by decide), fun q => absurd q (by decide), fun q => absurd q (by decide), fun q => absurd q (by decide), fun q => absurd q (by decide), ⟨fun q => absurd q (by decide), fun q => absurd q (by decide), fun q => absurd q (by decide)⟩, ⟨by decide, by decide⟩⟩)
  have w1 := mPd.cls (Z := f :: o :: J) w1 ht hp.1 hp.2 g (p0.ext g.1) (fun i hi => by simp only [List.mem_cons, List.mem_append, List.not_mem_nil, or_false] at hi ⊢; rcases hi with e | e | e | e <;> simp [e])
  exact ⟨dA, s, c, KA, _, J, w1, fun _ _ => rfl, ⟨hf.1.ext g.1, hf.2⟩, ⟨c2, ho.ext g.1⟩, by rw [g.1.2.2 _ 1 k1 ho.1]; exact ha, ho0, hJ.ext g.1, hfo, fun p hp => by cases hp⟩
/-- one of the JUMPs is aimed -/
theorem mTS.lnd {μo μ ν : M3} {t M f o x T : Int} (h : mTS μo μ t M f o x []) (l : mMF μ ν x T) (hx : x ≠ o) (hT : T = μ.1 111 22) : mTS μo ν t M f o (cdm μ cR x 1) [] := by
  obtain ⟨dA, s, c, KA, K, J, w0, hK, hf, ⟨c2, ho⟩, ha, ho0, hJ, hfo, hp⟩ := h
  cases J with
  | nil => exact absurd hJ hx
  | cons y J =>
    obtain ⟨h1, h2, ⟨c3, h3⟩, h4, h5⟩ := hJ
    subst h1
    have w0 := w0.pc rfl rfl rfl hK
    have w1 := mWS.aim8 (h := 0) w0 h3 l hT (by omega) (by simp) h4 (fun _ _ => rfl) (Z := f :: o :: ([] ++ J)) (fun i hi => by simp only [List.mem_cons, List.nil_append] at hi ⊢; rcases hi with e | e | e | e <;> simp [e])
    exact ⟨dA, s, c, KA, _, J, w1, fun _ _ => rfl, ⟨hf.1.mf l, hf.2⟩, ⟨c2, ho.mf l⟩, by rw [l.2.2.2.2 _ 1 k1 ho.1 (fun z => by omega)]; exact ha, ho0, h5.mf l (by omega), hfo, fun p hp => by cases hp⟩
/-- LEAVEFIN, the part behind FINALLY, ENDFIN -/
theorem as_mtry {μo μ μ1 μ2 μ3 μ4 ν : M3} {t M f o T T2 : Int} (h : mTS μo μ t M f o o []) (ht : t = 0) (l : mMF μ μ1 o T) (hT : T = μ.1 111 22) (g : mAD μ1 μ2 16 0 0) (l2 : mMF μ2 μ3 f T2) (hT2 : T2 = μ2.1 111 22) (b : mEX μ3 μ4 t 0 M 101) (e : mAD μ4 ν 17 0 0) (hM : 0 ≤ M) : mEY μo ν t (M + 2) := by
  obtain ⟨dA, s, c, KA, K, J, w0, hK, hf, ⟨c2, ho⟩, ha, ho0, hJ, hfo, hp⟩ := h
  have hJ0 : J = [] := by
    cases J with
    | nil => rfl
    | cons y J => have := hJ.1; have := hJ.2.1; omega
  subst hJ0
  have w0 := w0.pc rfl rfl rfl hK
  have w1 := mWS.aim8 (h := 0) w0 ho l hT (by omega) (by simp) (by omega) (fun _ _ => rfl) (Z := [f]) (fun i hi => by simp only [List.mem_cons, List.nil_append, List.not_mem_nil, or_false] at hi ⊢; omega)
  have m1 := hf.1.mf l
  have p1 := w1.2.2.1
  have kl : ∀ j, j < dA → mup (mup KA dA 1) (dA + 1 - 1) 2 j = KA j := fun j hj => by rw [mup_n (by omega), mup_n (by omega)]
  have ks : mup (mup KA dA 1) (dA + 1 - 1) 2 dA = 2 := by rw [show dA + 1 - 1 = dA by omega]; exact mup_s
  have w2 := mWS.ado (h2 := 0) (c2 := 0) w1 g (p1.lf g (by omega)) (by decide) (by omega) kl (fun x y => ⟨fun q => absurd q (by decide), ⟨fun q => absurd q (by decide), fun q => absurd q (by decide)⟩, fun q => absurd q (by decide), fun q => absurd q (by decide), fun q => absurd q (by decide), fun q => absurd q (by decide), fun q => absurd q (by decide), fun q => absurd q (by decide), fun q => absurd q (by decide), fun q => absurd q (by decide), fun q => absurd q (by decide), fun _ => ⟨by rw [x.2.2.2.1, y.2.2.2.1]; exact Int.le_refl _, x.2.1, by rw [x.2.2.2.1, x.2.2.2.2 _ (by omega), show dA + 1 - 1 = dA by omega]; exact mup_s⟩, fun q => absurd q (by decide), fun q => absurd q (by decide), fun q => absurd q (by decide), fun q => absurd q (by decide), fun q => absurd q (by decide), fun q => absurd q (by decide), fun q => absurd q (by decide), fun q => absurd q (by decide), fun q => absurd q (by decide), ⟨fun q => absurd q (by decide), fun q => absurd q (by decide), fun q => absurd q (by decide)⟩, ⟨by decide, by decide⟩⟩)
  have m2 := m1.ext g.1
  have w3 := w2.aim14 m2 l2 hT2 hfo.1 (by simp) (by omega) (fun z => by omega) hf.2 ks kl (Z := []) (fun i hi => List.mem_cons.1 hi)
  have w4 := w3.ex0 b (by omega) (by omega) (by omega) kl
  have p4 := w4.2.2.1
  have w5 := mWS.ado (h2 := 0) (c2 := 0) w4 e ((p4.lv e (Or.inr rfl)).e (d2 := dA) rfl rfl (by omega) kl) (by decide) (by omega) (fun _ _ => rfl) (fun x y => ⟨fun q => absurd q (by decide), ⟨fun q => absurd q (by decide), fun q => absurd q (by decide)⟩, fun q => absurd q (by decide), fun q => absurd q (by decide), fun q => absurd q (by decide), fun q => absurd q (by decide), fun q => absurd q (by decide), fun q => absurd q (by decide), fun q => absurd q (by decide), fun q => absurd q (by decide), fun q => absurd q (by decide), fun q => absurd q (by decide), fun _ => ⟨fun z => by omega, by rw [x.2.2.2.1, y.2.2.2.1]; exact Int.le_refl _, x.2.1, by rw [x.2.2.2.1, x.2.2.2.2 _ (by omega), show dA + 1 - 1 = dA by omega]; exact mup_s⟩, fun q => absurd q (by decide), fun q => absurd q (by decide), fun q => absurd q (by decide), fun q => absurd q (by decide), fun q => absurd q (by decide), fun q => absurd q (by decide), fun q => absurd q (by decide), fun q => absurd q (by decide), ⟨fun q => absurd q (by decide), fun q => absurd q (by decide), fun q => absurd q (by decide)⟩, ⟨by decide, by decide⟩⟩)
  exact w5.end
theorem mTS.mh {μo μ : M3} {t M f o x : Int} {L : List Int} (h : mTS μo μ t M f o x L) : mS0 μ := by
  obtain ⟨dA, s, c, KA, K, J, w0, _⟩ := h
  exact ⟨w0.2.2.1.1.1, w0.2.2.1.2.1⟩
/-- second of TRY, FIN is set -/
def mMS (μ ν : M3) (q : Int) : Prop := ν.1 111 22 = μ.1 111 22 ∧ nle (nS μ) (nS ν) ∧ (0 ≤ q ∧ q < μ.1 111 22) ∧ ∀ i k, kk k → i < μ.1 111 22 → ¬ (i = q ∧ 2 ≤ k) → cdm ν cR i k = cdm μ cR i k
theorem mMS.fo {μ ν : M3} {t q : Int} (l : mMS μ ν q) (ho : cdm μ cR q 0 = 12 ∨ cdm μ cR q 0 = 14) : ∀ i, i ≤ μ.1 111 22 → mh ν cR i = mh μ cR i ∧ mc ν cR t i = mc μ cR t i ∧ md ν cR t i = md μ cR t i ∧ ∀ j, mk ν cR t i j = mk μ cR t i j :=
  mfolds (fun j _ hj => by
    have e0 := l.2.2.2 j 0 k0 hj (fun z => absurd z.2 (by decide))
    refine ⟨e0, ?_⟩
    by_cases e : j = q
    · rw [e] at e0 ⊢
      rw [e0]
      rcases ho with z | z <;> rw [z] <;> rfl
    · rw [e0, l.2.2.2 j 2 k2 hj (fun z => e z.1)])
theorem mEXT.ms {μ ν π : M3} {q : Int} (h : mEXT μ ν) (l : mMS ν π q) (hq : μ.1 111 22 ≤ q) : mEXT μ π := ⟨by rw [l.1]; exact h.1, NS.tr h.2.1 l.2.1, fun i k hk hi => (l.2.2.2 i k hk (by have := h.1; omega) (fun z => by omega)).trans (h.2.2 i k hk hi)⟩
theorem mEY.ms {μ ν π : M3} {t M q : Int} (h : mEY μ ν t M) (l : mMS ν π q) (ho : cdm ν cR q 0 = 12 ∨ cdm ν cR q 0 = 14) (hq : μ.1 111 22 ≤ q) : mEY μ π t M := by
  obtain ⟨⟨h1, h2⟩, h3⟩ := h
  have z := fun i hi => l.fo (t := t) ho i hi
  refine ⟨⟨h1.ms l hq, ?_⟩, by rw [l.1, (z _ (Int.le_refl _)).2.1]; exact h3⟩
  rw [l.1]
  -- q's rule says nothing of its second
  have zA := z _ h1.1
  have zB := z _ (Int.le_refl _)
  obtain ⟨s0, s1, s2, s3, s4, s5⟩ := h2
  refine ⟨s0, by rw [zA.1, zB.1]; exact s1, fun y => by rw [zB.2.1]; exact s2 y, by rw [zA.2.2.1, zB.2.2.1]; exact s3, fun i i1 i2 i3 => ?_, fun i i1 i2 => ?_⟩
  · have c := s4 i i1 i2 i3
    have op : ∀ x, x < ν.1 111 22 → cdm π cR x 0 = cdm ν cR x 0 := fun x hx => l.2.2.2 x 0 k0 hx (fun z => absurd z.2 (by decide))
    have fi : ∀ x, x < ν.1 111 22 → cdm π cR x 1 = cdm ν cR x 1 := fun x hx => l.2.2.2 x 1 k1 hx (fun z => absurd z.2 (by decide))
    by_cases e : i = q
    · rw [← e] at ho
      have y := z i (Int.le_of_lt i2)
      unfold lcq at c ⊢
      rw [op i i2, fi i i2]
      obtain ⟨r1, r3, r4, r5, r7, r8, r11, r12, r13, r14, rr⟩ := c
      rcases ho with o | o
      · rw [o]
        exact ⟨fun q => absurd q (by decide), ⟨fun q => absurd q (by decide), fun q => absurd q (by decide)⟩, fun q => absurd q (by decide), fun q => absurd q (by decide), fun q => absurd q (by decide), fun q => absurd q (by decide), fun q => absurd q (by decide), fun _ => by
          obtain ⟨q1, q2, q3, q4, q5, q6, q7⟩ := r12 o
          have x := z (cdm ν cR i 1) (Int.le_of_lt q5)
          refine ⟨q1, by rw [y.2.1]; exact q2, by rw [y.1]; exact q3, q4, q5, by rw [op _ q5]; exact q6, by rw [x.2.2.1, y.2.2.1]; exact q7.1, fun j hj => ?_⟩
          rw [x.2.2.2, y.2.2.2]; exact q7.2 j (by rw [← y.2.2.1]; exact hj), fun q => absurd q (by decide), fun q => absurd q (by decide), fun q => absurd q (by decide), fun q => absurd q (by decide), fun q => absurd q (by decide), fun q => absurd q (by decide), fun q => absurd q (by decide), fun q => absurd q (by decide), fun q => absurd q (by decide), fun q => absurd q (by decide), fun q => absurd q (by decide), fun q => absurd q (by decide), fun q => absurd q (by decide), ⟨fun q => absurd q (by decide), fun q => absurd q (by decide), fun q => absurd q (by decide)⟩, ⟨by decide, by decide⟩⟩
      · rw [o]
        exact ⟨fun q => absurd q (by decide), ⟨fun q => absurd q (by decide), fun q => absurd q (by decide)⟩, fun q => absurd q (by decide), fun q => absurd q (by decide), fun q => absurd q (by decide), fun q => absurd q (by decide), fun q => absurd q (by decide), fun q => absurd q (by decide), fun q => absurd q (by decide), fun _ => by
          obtain ⟨q1, q0, q2, q3, q4, q5, q6, q7, q8⟩ := r14 o
          have x := z (cdm ν cR i 1) q4.2.1
          refine ⟨q1, q0, by rw [y.2.1]; exact q2, by rw [y.1]; exact q3, ⟨q4.1, q4.2.1, by rw [x.2.1]; exact q4.2.2⟩, by rw [x.1]; exact q5, by rw [x.2.2.1, y.2.2.1]; exact q6, by rw [y.2.2.1, x.2.2.2]; exact q7, fun j hj => ?_⟩
          rw [x.2.2.2, y.2.2.2]; exact q8 j (by rw [← y.2.2.1]; exact hj), fun q => absurd q (by decide), fun q => absurd q (by decide), fun q => absurd q (by decide), fun q => absurd q (by decide), fun q => absurd q (by decide), fun q => absurd q (by decide), fun q => absurd q (by decide), fun q => absurd q (by decide), fun q => absurd q (by decide), fun q => absurd q (by decide), fun q => absurd q (by decide), ⟨fun q => absurd q (by decide), fun q => absurd q (by decide), fun q => absurd q (by decide)⟩, ⟨by decide, by decide⟩⟩
    · have K : mKX ν π cR t (μ.1 111 22) (ν.1 111 22) (fun x => x = q) := ⟨fun x k hk x1 x2 hy => l.2.2.2 x k hk x2 (fun w => hy (by omega) w.1), fun x x1 x2 => z x x2⟩
      refine c.kx K i1 i2 e (fun _ h8 _ w => ?_) l.2.1 (fun x x1 x2 w h8 => ?_)
      · rw [w] at h8
        omega
      · rw [w, op q (by omega)] at h8
        omega
  · have y := z i i2
    rw [zA.2.2.1, zA.1, y.1, y.2.2.1]
    refine ⟨(s5 i i1 i2).1, (s5 i i1 i2).2.1, fun j hj => ?_⟩
    rw [y.2.2.2, zA.2.2.2]; exact (s5 i i1 i2).2.2 j hj
