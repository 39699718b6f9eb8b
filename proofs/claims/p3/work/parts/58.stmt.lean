/-! statements, typed -/
theorem SgX.M0 {μ : M3} {P t a b e M : Int} {X : Int → Prop} (h : SgX μ P t a b e M X) : 0 ≤ M := by
  have := h.2.2.2.2.2 a (Int.le_refl _) h.1.2
  omega
theorem Sg.ix {μ : M3} {P t a q b M : Int} (h1 : Sg μ P t a q 1 M) (hq : cdp μ P q 0 = 20) (h2 : Sg μ P t (q + 1) b 0 M) : SgX μ P t a b 0 M (fun i => i = q) ∧ hs μ P q = hs μ P a + 1 := by
  have m0 := SgX.M0 h1
  have hh := hs_1 (μ := μ) (P := P) (i := a)
  have e1 := h1.2.1
  have one : SgX μ P t q (q + 1) (-1) M (fun i => i = q) := (SgX.one (X := fun i => i = q) (by have := h1.1; omega) (by rw [hq]; rfl) (by omega) (by rw [hq]; rfl) (by rw [hq]; rfl) (Or.inl rfl)).mn m0 (fun _ _ _ z => z)
  have s := SgX.app (SgX.app h1 one) h2
  refine ⟨?_, e1⟩
  have s2 : SgX μ P t a b (1 + -1 + 0) M (fun i => i = q) := s.mn (Int.le_refl _) (fun i _ _ z => z.elim (fun z => z.elim (fun z => z.elim) id) (fun z => z.elim))
  exact s2
theorem Sg.ifq {μ : M3} {P t a q b M : Int} (h1 : Sg μ P t a q 1 M) (hq : cdp μ P q 0 = 20) (hf : cdp μ P q 1 = b) (h2 : Sg μ P t (q + 1) b 0 M) (ha : hs μ P a = 1) : Sg μ P t a b 0 M := by
  obtain ⟨s, e1⟩ := h1.ix hq h2
  have a1 := h1.1
  have a2 := h2.1
  refine s.cl (fun i _ _ hi => ?_)
  rw [hi]
  unfold lcd
  rw [hq, hf]
  exact ⟨fun q => absurd q (by decide), fun q => absurd q (by decide), fun q => absurd q (by decide), fun _ => ⟨by omega, ⟨by omega, by omega, s.2.2.1 (by omega)⟩, by have := h1.2.2.2.1; have := s.2.2.2.1; omega⟩, fun q => absurd q (by decide), fun q => absurd q (by decide), fun q => absurd q (by decide), fun q => absurd q (by decide), fun q => absurd q (by decide), fun q => absurd q (by decide)⟩
theorem Sg.jmp {μ : M3} {P t a j b M : Int} (h1 : SgX μ P t a j 0 M NX) (hj : cdp μ P j 0 = 19) (h2 : Sg μ P t (j + 1) b 0 M) : SgX μ P t a b 0 M (fun i => i = j) := by
  have m0 := SgX.M0 h1
  have hh := hs_1 (μ := μ) (P := P) (i := j)
  have one : SgX μ P t j (j + 1) 0 M (fun i => i = j) := (SgX.one (X := fun i => i = j) (by have := h1.1; omega) (by rw [hj]; rfl) (by omega) (by rw [hj]; rfl) (by rw [hj]; rfl) (Or.inl rfl)).mn m0 (fun _ _ _ z => z)
  exact ((SgX.app (SgX.app h1 one) h2).mn (Int.le_refl _) (fun i _ _ z => z.elim (fun z => z.elim (fun z => z.elim) id) (fun z => z.elim)) : SgX μ P t a b (0 + 0 + 0) M (fun i => i = j))
theorem Sg.ife {μ : M3} {P t a q j b M : Int} (h1 : Sg μ P t a q 1 M) (hq : cdp μ P q 0 = 20) (hf : cdp μ P q 1 = j + 1) (h2 : Sg μ P t (q + 1) j 0 M) (hj : cdp μ P j 0 = 19) (hb : cdp μ P j 1 = b) (h3 : Sg μ P t (j + 1) b 0 M) (ha : hs μ P a = 1) : Sg μ P t a b 0 M := by
  have a1 := h1.1
  have a2 := h2.1
  have a3 := h3.1
  have s1 := Sg.jmp h2 hj h3
  have m0 := SgX.M0 h1
  have e1 := h1.2.1
  have hh := hs_1 (μ := μ) (P := P) (i := a)
  have one : SgX μ P t q (q + 1) (-1) M (fun i => i = q) := (SgX.one (X := fun i => i = q) (by omega) (by rw [hq]; rfl) (by omega) (by rw [hq]; rfl) (by rw [hq]; rfl) (Or.inl rfl)).mn m0 (fun _ _ _ z => z)
  have s : SgX μ P t a b (1 + -1 + 0) M (fun i => i = q ∨ i = j) := (SgX.app (SgX.app h1 one) s1).mn (Int.le_refl _) (fun i _ _ z => z.elim (fun z => z.elim (fun z => z.elim) Or.inl) Or.inr)
  have dq : ds μ P t q = ds μ P t a := h1.2.2.2.1
  have dj : ds μ P t j = ds μ P t (q + 1) := h2.2.2.2.1
  have db : ds μ P t b = ds μ P t (j + 1) := h3.2.2.2.1
  have dq1 : ds μ P t (q + 1) = ds μ P t q := one.2.2.2.1
  have hq1 : hs μ P (q + 1) = 1 := by have := one.2.1; omega
  have hj1 : hs μ P j = 1 := by have := h2.2.1; omega
  have dsb := s.2.2.2.1
  refine SgX.cl (e := 0) s (fun i _ _ hi => ?_)
  rcases hi with hi | hi
  · rw [hi]
    unfold lcd
    rw [hq, hf]
    exact ⟨fun q => absurd q (by decide), fun q => absurd q (by decide), fun q => absurd q (by decide), fun _ => ⟨by omega, ⟨by omega, by omega, by rw [cs_s (by omega), hj]; rfl⟩, by omega⟩, fun q => absurd q (by decide), fun q => absurd q (by decide), fun q => absurd q (by decide), fun q => absurd q (by decide), fun q => absurd q (by decide), fun q => absurd q (by decide)⟩
  · rw [hi]
    unfold lcd
    rw [hj, hb]
    exact ⟨fun q => absurd q (by decide), fun _ => ⟨by omega, ⟨by omega, by omega, s.2.2.1 (by omega)⟩, by omega⟩, fun q => absurd q (by decide), fun q => absurd q (by decide), fun q => absurd q (by decide), fun q => absurd q (by decide), fun q => absurd q (by decide), fun q => absurd q (by decide), fun q => absurd q (by decide), fun q => absurd q (by decide)⟩
/-- a STEP ahead -/
theorem SgX.stp {μ : M3} {P t a b e M : Int} {X : Int → Prop} (ho : cdp μ P a 0 = 1) (h : SgX μ P t (a + 1) b e M X) (h0 : 0 ≤ a) (hb : a + 1 < b) : SgX μ P t a b e M X := by
  have hh := hs_1 (μ := μ) (P := P) (i := a)
  have h1 : hs μ P (a + 1) = hs μ P a := by rw [hs_s h0, ho]; show max 1 (hs μ P a + 0) = _; omega
  have d1 : ds μ P t (a + 1) = ds μ P t a := by rw [ds_s h0, ho]; show ds μ P t a + 0 = _; omega
  have m0 := h.M0
  obtain ⟨g0, g1, g2, g3, g4, g5⟩ := h
  refine ⟨by omega, by omega, fun _ => g2 hb, by omega, fun i ha hb2 hX => ?_, fun i ha hb2 => ?_⟩
  · by_cases hi : i = a
    · rw [hi]
      unfold lcd
      rw [ho]
      exact ⟨fun q => absurd q (by decide), fun q => absurd q (by decide), fun q => absurd q (by decide), fun q => absurd q (by decide), fun q => absurd q (by decide), fun q => absurd q (by decide), fun q => absurd q (by decide), fun q => absurd q (by decide), fun q => absurd q (by decide), fun q => absurd q (by decide)⟩
    · exact (g4 i (by omega) hb2 hX).up (by omega) (by omega) (by omega)
  · by_cases hi : i = a
    · rw [hi]; omega
    · have := g5 i (by omega) hb2; omega
/-- while -/
theorem Sg.whl {μ : M3} {P t a q j M : Int} (ho : cdp μ P a 0 = 1) (hc : cs μ P t a = 0) (h0 : 0 ≤ a) (h1 : Sg μ P t (a + 1) q 1 M) (hq : cdp μ P q 0 = 20) (hf : cdp μ P q 1 = j + 1) (h2 : Sg μ P t (q + 1) j 0 M) (hj : cdp μ P j 0 = 19) (hb : cdp μ P j 1 = a) (ha : hs μ P a = 1) : Sg μ P t a (j + 1) 0 M := by
  have a1 := h1.1
  have a2 := h2.1
  obtain ⟨s, e1⟩ := h1.ix hq h2
  have m0 := SgX.M0 h1
  have hh := hs_1 (μ := μ) (P := P) (i := j)
  have one : SgX μ P t j (j + 1) 0 M (fun i => i = j) := (SgX.one (X := fun i => i = j) (by omega) (by rw [hj]; rfl) (by omega) (by rw [hj]; rfl) (by rw [hj]; rfl) (Or.inl rfl)).mn m0 (fun _ _ _ z => z)
  have s1 : SgX μ P t a (j + 1) (0 + 0) M (fun i => i = q ∨ i = j) := SgX.stp ho (SgX.app s one) h0 (by omega)
  have ha1 : hs μ P (a + 1) = hs μ P a := by rw [hs_s h0, ho]; show max 1 (hs μ P a + 0) = _; omega
  have da1 : ds μ P t (a + 1) = ds μ P t a := by rw [ds_s h0, ho]; show ds μ P t a + 0 = _; omega
  have dq : ds μ P t q = ds μ P t (a + 1) := h1.2.2.2.1
  have dj := s.2.2.2.1
  have dj1 := one.2.2.2.1
  have hjj := s.2.1
  refine SgX.cl (e := 0) s1 (fun i _ _ hi => ?_)
  rcases hi with hi | hi
  · rw [hi]
    unfold lcd
    rw [hq, hf]
    exact ⟨fun q => absurd q (by decide), fun q => absurd q (by decide), fun q => absurd q (by decide), fun _ => ⟨by omega, ⟨by omega, by omega, s1.2.2.1 (by omega)⟩, by omega⟩, fun q => absurd q (by decide), fun q => absurd q (by decide), fun q => absurd q (by decide), fun q => absurd q (by decide), fun q => absurd q (by decide), fun q => absurd q (by decide)⟩
  · rw [hi]
    unfold lcd
    rw [hj, hb]
    exact ⟨fun q => absurd q (by decide), fun _ => ⟨by omega, ⟨by omega, by omega, hc⟩, by omega⟩, fun q => absurd q (by decide), fun q => absurd q (by decide), fun q => absurd q (by decide), fun q => absurd q (by decide), fun q => absurd q (by decide), fun q => absurd q (by decide), fun q => absurd q (by decide), fun q => absurd q (by decide)⟩

/-- the folds behind one instruction -/
theorem st_h {μ : M3} {P i e : Int} (h0 : 0 ≤ i) (he : eff (cdp μ P i 0) (cdp μ P i 1) = e) : hs μ P (i + 1) = max 1 (hs μ P i + e) := by rw [hs_s h0, he]
theorem st_d {μ : M3} {P t i e : Int} (h0 : 0 ≤ i) (he : def_ t (cdp μ P i 0) = e) : ds μ P t (i + 1) = ds μ P t i + e := by rw [ds_s h0, he]
/-- on .. go, open .. then: behind the guard g two parts -/
theorem Sg.on {μ : M3} {P t g j b M : Int} (h0 : 0 ≤ g) (hc : 1 ≤ cs μ P t g) (og : cdp μ P g 0 = 28) (fg : cdp μ P g 1 = j + 1) (kg : (cdp μ P g 2).tdiv 64 ≠ 1 ∧ (cdp μ P g 2).tdiv 64 ≠ 4) (kt : t = 1 → (cdp μ P g 2).tdiv 64 = 2) (h1 : Sg μ P t (g + 1) j 0 M) (oj : cdp μ P j 0 = 29) (fj : cdp μ P j 1 = b) (h2 : Sg μ P t (j + 1) b 0 M) (hg : hs μ P g = 1) : Sg μ P t g b 0 (M + 1) := by
  have a1 := h1.1
  have a2 := h2.1
  have m0 := SgX.M0 h1
  have g1 : hs μ P (g + 1) = 1 := by rw [st_h (e := 0) h0 (by rw [og]; rfl), hg]; rfl
  have d1 : ds μ P t (g + 1) = ds μ P t g + 1 := st_d h0 (by rw [og]; rfl)
  have g2 : hs μ P j = 1 := by have := h1.2.1; omega
  have d2 : ds μ P t j = ds μ P t (g + 1) := h1.2.2.2.1
  have g3 : hs μ P (j + 1) = 1 := by rw [st_h (e := 0) (by omega) (by rw [oj]; rfl), g2]; rfl
  have d3 : ds μ P t (j + 1) = ds μ P t j + -1 := st_d (by omega) (by rw [oj]; rfl)
  have c3 : cs μ P t (j + 1) = 0 := by rw [cs_s (by omega), oj]; rfl
  have g4 : hs μ P b = 1 := by have := h2.2.1; omega
  have d4 : ds μ P t b = ds μ P t (j + 1) := h2.2.2.2.1
  have cb : cs μ P t b = 0 := by
    by_cases hb : j + 1 < b
    · exact h2.2.2.1 hb
    · have : b = j + 1 := by omega
      rw [this]; exact c3
  refine ⟨by omega, by omega, fun _ => cb, by omega, fun i ha hb _ => ?_, fun i ha hb => ?_⟩
  · by_cases i1 : i = g
    · rw [i1]
      unfold lcd
      rw [og, fg]
      exact ⟨fun q => absurd q (by decide), fun q => absurd q (by decide), fun q => absurd q (by decide), fun q => absurd q (by decide), fun q => absurd q (by decide), fun q => absurd q (by decide), fun q => absurd q (by decide), fun _ => ⟨hc, fun k => absurd k kg.1, fun k => absurd k kg.2, fun _ _ => ⟨⟨by omega, by omega, c3⟩, by omega⟩, kt⟩, fun q => absurd q (by decide), fun q => absurd q (by decide)⟩
    by_cases i2 : i < j
    · exact (h1.2.2.2.2.1 i (by omega) i2 (fun z => z)).up (by omega) (by omega) (by omega)
    by_cases i3 : i = j
    · rw [i3]
      unfold lcd
      rw [oj, fj]
      exact ⟨fun q => absurd q (by decide), fun q => absurd q (by decide), fun q => absurd q (by decide), fun q => absurd q (by decide), fun q => absurd q (by decide), fun q => absurd q (by decide), fun q => absurd q (by decide), fun q => absurd q (by decide), fun _ => ⟨by omega, ⟨by omega, by omega, cb⟩, by omega, by omega⟩, fun q => absurd q (by decide)⟩
    · exact (h2.2.2.2.2.1 i (by omega) hb (fun z => z)).up (by omega) (by omega) (by omega)
  · by_cases i1 : i = g
    · rw [i1]; omega
    by_cases i2 : i ≤ j
    · have := h1.2.2.2.2.2 i (by omega) i2; omega
    · have := h2.2.2.2.2.2 i (by omega) hb; omega
/-- a part that is finished: with .. end, try .. finally -/
theorem Sg.fin {μ : M3} {P t g f k M : Int} (h0 : 0 ≤ g) (ht : t ≠ 1 ∧ t ≠ 3) (hc : 1 ≤ cs μ P t g) (og : cdp μ P g 0 = 28) (fg : cdp μ P g 1 = f + 1) (kg : (cdp μ P g 2).tdiv 64 = 4) (h1 : Sg μ P t (g + 1) f 0 M) (of : cdp μ P f 0 = 31) (ff : cdp μ P f 1 = f + 1) (h2 : Sg μ P t (f + 1) k 0 M) (ok : cdp μ P k 0 = 32) (fk : cdp μ P k 1 = k + 1) (hg : hs μ P g = 1) : Sg μ P t g (k + 1) 0 (M + 1) := by
  have a1 := h1.1
  have a2 := h2.1
  have m0 := SgX.M0 h1
  have g1 : hs μ P (g + 1) = 1 := by rw [st_h (e := 0) h0 (by rw [og]; rfl), hg]; rfl
  have d1 : ds μ P t (g + 1) = ds μ P t g + 1 := st_d h0 (by rw [og]; rfl)
  have g2 : hs μ P f = 1 := by have := h1.2.1; omega
  have d2 : ds μ P t f = ds μ P t (g + 1) := h1.2.2.2.1
  have g3 : hs μ P (f + 1) = 1 := by rw [st_h (e := 0) (by omega) (by rw [of]; rfl), g2]; rfl
  have d3 : ds μ P t (f + 1) = ds μ P t f + 0 := st_d (by omega) (by rw [of]; show (if t = 3 then (-1 : Int) else 0) = 0; rw [if_neg ht.2])
  have c3 : cs μ P t (f + 1) = 0 := by rw [cs_s (by omega), of]; rfl
  have g4 : hs μ P k = 1 := by have := h2.2.1; omega
  have d4 : ds μ P t k = ds μ P t (f + 1) := h2.2.2.2.1
  have g5 : hs μ P (k + 1) = 1 := by rw [st_h (e := 0) (by omega) (by rw [ok]; rfl), g4]; rfl
  have d5 : ds μ P t (k + 1) = ds μ P t k + -1 := st_d (by omega) (by rw [ok]; show (if t = 3 then (0 : Int) else -1) = -1; rw [if_neg ht.2])
  have c5 : cs μ P t (k + 1) = 0 := by rw [cs_s (by omega), ok]; rfl
  refine ⟨by omega, by omega, fun _ => c5, by omega, fun i ha hb _ => ?_, fun i ha hb => ?_⟩
  · by_cases i1 : i = g
    · rw [i1]
      unfold lcd
      rw [og, fg]
      exact ⟨fun q => absurd q (by decide), fun q => absurd q (by decide), fun q => absurd q (by decide), fun q => absurd q (by decide), fun q => absurd q (by decide), fun q => absurd q (by decide), fun q => absurd q (by decide), fun _ => ⟨hc, fun q => absurd (kg.symm.trans q) (by decide), fun _ => ⟨⟨by omega, by omega, c3⟩, by omega⟩, fun _ q => absurd kg q, fun q => absurd q ht.1⟩, fun q => absurd q (by decide), fun q => absurd q (by decide)⟩
    by_cases i2 : i < f
    · exact (h1.2.2.2.2.1 i (by omega) i2 (fun z => z)).up (by omega) (by omega) (by omega)
    by_cases i3 : i = f
    · rw [i3]
      unfold lcd
      rw [of, ff]
      exact ⟨fun q => absurd q (by decide), fun q => absurd q (by decide), fun _ => ⟨by omega, ⟨by omega, by omega, c3⟩, by omega, ht.1, by omega⟩, fun q => absurd q (by decide), fun q => absurd q (by decide), fun q => absurd q (by decide), fun q => absurd q (by decide), fun q => absurd q (by decide), fun q => absurd q (by decide), fun q => absurd q (by decide)⟩
    by_cases i4 : i < k
    · exact (h2.2.2.2.2.1 i (by omega) i4 (fun z => z)).up (by omega) (by omega) (by omega)
    · have i5 : i = k := by omega
      rw [i5]
      unfold lcd
      rw [ok, fk]
      exact ⟨fun q => absurd q (by decide), fun q => absurd q (by decide), fun q => absurd q (by decide), fun q => absurd q (by decide), fun q => absurd q (by decide), fun q => absurd q (by decide), fun q => absurd q (by decide), fun q => absurd q (by decide), fun _ => ⟨by omega, ⟨by omega, by omega, c5⟩, by omega, by omega⟩, fun q => absurd q (by decide)⟩
  · by_cases i1 : i = g
    · rw [i1]; omega
    by_cases i2 : i ≤ f
    · have := h1.2.2.2.2.2 i (by omega) i2; omega
    by_cases i3 : i ≤ k
    · have := h2.2.2.2.2.2 i (by omega) i3; omega
    · have i5 : i = k + 1 := by omega
      rw [i5]; omega
/-- clean .. do (EXITS): the cleaning stands first -/
theorem Sg.cln {μ : M3} {P t g k f M : Int} (h0 : 0 ≤ g) (ht : t = 3) (hc : 1 ≤ cs μ P t g) (og : cdp μ P g 0 = 28) (fg : cdp μ P g 1 = g + 1 + 1) (kg : (cdp μ P g 2).tdiv 64 = 4) (oj : cdp μ P (g + 1) 0 = 19) (fj : cdp μ P (g + 1) 1 = k + 1) (h1 : Sg μ P t (g + 1 + 1) k 0 M) (ok : cdp μ P k 0 = 32) (fk : cdp μ P k 1 = f + 1) (h2 : Sg μ P t (k + 1) f 0 M) (of : cdp μ P f 0 = 31) (ff : cdp μ P f 1 = g + 1 + 1) (hg : hs μ P g = 1) : Sg μ P t g (f + 1) 0 (M + 1) := by
  have a1 := h1.1
  have a2 := h2.1
  have m0 := SgX.M0 h1
  have g1 : hs μ P (g + 1) = 1 := by rw [st_h (e := 0) h0 (by rw [og]; rfl), hg]; rfl
  have d1 : ds μ P t (g + 1) = ds μ P t g + 1 := st_d h0 (by rw [og]; rfl)
  have g2 : hs μ P (g + 1 + 1) = 1 := by rw [st_h (e := 0) (by omega) (by rw [oj]; rfl), g1]; rfl
  have d2 : ds μ P t (g + 1 + 1) = ds μ P t (g + 1) + 0 := st_d (by omega) (by rw [oj]; rfl)
  have c2 : cs μ P t (g + 1 + 1) = 0 := by rw [cs_s (by omega), oj]; rfl
  have g3 : hs μ P k = 1 := by have := h1.2.1; omega
  have d3 : ds μ P t k = ds μ P t (g + 1 + 1) := h1.2.2.2.1
  have g4 : hs μ P (k + 1) = 1 := by rw [st_h (e := 0) (by omega) (by rw [ok]; rfl), g3]; rfl
  have d4 : ds μ P t (k + 1) = ds μ P t k + 0 := st_d (by omega) (by rw [ok, ht]; rfl)
  have c4 : cs μ P t (k + 1) = 0 := by rw [cs_s (by omega), ok]; rfl
  have g5 : hs μ P f = 1 := by have := h2.2.1; omega
  have d5 : ds μ P t f = ds μ P t (k + 1) := h2.2.2.2.1
  have g6 : hs μ P (f + 1) = 1 := by rw [st_h (e := 0) (by omega) (by rw [of]; rfl), g5]; rfl
  have d6 : ds μ P t (f + 1) = ds μ P t f + -1 := st_d (by omega) (by rw [of, ht]; rfl)
  have c6 : cs μ P t (f + 1) = 0 := by rw [cs_s (by omega), of]; rfl
  refine ⟨by omega, by omega, fun _ => c6, by omega, fun i ha hb _ => ?_, fun i ha hb => ?_⟩
  · by_cases i1 : i = g
    · rw [i1]
      unfold lcd
      rw [og, fg]
      exact ⟨fun q => absurd q (by decide), fun q => absurd q (by decide), fun q => absurd q (by decide), fun q => absurd q (by decide), fun q => absurd q (by decide), fun q => absurd q (by decide), fun q => absurd q (by decide), fun _ => ⟨hc, fun q => absurd (kg.symm.trans q) (by decide), fun _ => ⟨⟨by omega, by omega, c2⟩, by omega⟩, fun _ q => absurd kg q, fun q => absurd (ht.symm.trans q) (by decide)⟩, fun q => absurd q (by decide), fun q => absurd q (by decide)⟩
    by_cases i2 : i = g + 1
    · rw [i2]
      unfold lcd
      rw [oj, fj]
      exact ⟨fun q => absurd q (by decide), fun _ => ⟨by omega, ⟨by omega, by omega, c4⟩, by omega⟩, fun q => absurd q (by decide), fun q => absurd q (by decide), fun q => absurd q (by decide), fun q => absurd q (by decide), fun q => absurd q (by decide), fun q => absurd q (by decide), fun q => absurd q (by decide), fun q => absurd q (by decide)⟩
    by_cases i3 : i < k
    · exact (h1.2.2.2.2.1 i (by omega) i3 (fun z => z)).up (by omega) (by omega) (by omega)
    by_cases i4 : i = k
    · rw [i4]
      unfold lcd
      rw [ok, fk]
      exact ⟨fun q => absurd q (by decide), fun q => absurd q (by decide), fun q => absurd q (by decide), fun q => absurd q (by decide), fun q => absurd q (by decide), fun q => absurd q (by decide), fun q => absurd q (by decide), fun q => absurd q (by decide), fun _ => ⟨by omega, ⟨by omega, by omega, c6⟩, by omega, by omega⟩, fun q => absurd q (by decide)⟩
    by_cases i5 : i < f
    · exact (h2.2.2.2.2.1 i (by omega) i5 (fun z => z)).up (by omega) (by omega) (by omega)
    · have i6 : i = f := by omega
      rw [i6]
      unfold lcd
      rw [of, ff]
      exact ⟨fun q => absurd q (by decide), fun q => absurd q (by decide), fun _ => ⟨by omega, ⟨by omega, by omega, c2⟩, by omega, by omega, by omega⟩, fun q => absurd q (by decide), fun q => absurd q (by decide), fun q => absurd q (by decide), fun q => absurd q (by decide), fun q => absurd q (by decide), fun q => absurd q (by decide), fun q => absurd q (by decide)⟩
  · by_cases i1 : i = g
    · rw [i1]; omega
    by_cases i2 : i = g + 1
    · rw [i2]; omega
    by_cases i3 : i ≤ k
    · have := h1.2.2.2.2.2 i (by omega) i3; omega
    by_cases i4 : i ≤ f
    · have := h2.2.2.2.2.2 i (by omega) i4; omega
    · have i5 : i = f + 1 := by omega
      rw [i5]; omega
