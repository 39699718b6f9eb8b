/-! statements behind their STEP -/
theorem kk2 : kk 2 := ⟨by decide, by decide⟩
def STP (μ : M3) (P t : Int) : Prop := 1 ≤ μ.1 P 1 ∧ cdp μ P (μ.1 P 1 - 1) 0 = 1 ∧ hs μ P (μ.1 P 1 - 1) = 1 ∧ cs μ P t (μ.1 P 1 - 1) = 0
def ES (μ ν : M3) (P t M : Int) : Prop := EXT μ ν P ∧ Sg ν P t (μ.1 P 1 - 1) (ν.1 P 1) 0 M
theorem STP.h {μ : M3} {P t : Int} (h : STP μ P t) : hs μ P (μ.1 P 1) = 1 ∧ 1 ≤ cs μ P t (μ.1 P 1) := by
  obtain ⟨h1, h2, h3, h4⟩ := h
  have e : μ.1 P 1 = μ.1 P 1 - 1 + 1 := by omega
  constructor
  · rw [e, hs_s (by omega), h2, h3]; rfl
  · rw [e, cs_s (by omega), h2]
    show 1 ≤ (if t = 0 then (2 : Int) else 1)
    split <;> omega
theorem STP.fr {K : List Int} {μ ν : M3} {P t : Int} (h : STP μ P t) (F : Fr K μ ν) (p1 : P ∉ K) (p2 : P + 1 ∉ K) : STP ν P t := by
  have E := EXT.fr F p1 p2
  have z := E.fo (t := t) (μ.1 P 1 - 1) (by omega)
  unfold STP at *
  rw [F.1 P p1 1, E.2 _ 0 k0 (by omega), z.1, z.2.1]
  exact h
theorem STP.of {μo μ : M3} {P t : Int} (h : AD μo μ P 1 0 0) (h0 : 0 ≤ μo.1 P 1) (hh : hs μo P (μo.1 P 1) = 1) (hc : cs μo P t (μo.1 P 1) = 0) : STP μ P t := by
  have z := h.1.fo (t := t) (μo.1 P 1) (Int.le_refl _)
  have e : μ.1 P 1 - 1 = μo.1 P 1 := by rw [h.2.1]; omega
  unfold STP
  rw [e, z.1, z.2.1, h.2.2.1]
  exact ⟨by rw [h.2.1]; omega, rfl, hh, hc⟩
theorem ES.ex {μo μ ν : M3} {P t M : Int} (h : AD μo μ P 1 0 0) (g : ES μ ν P t M) : EX μo ν P t 0 M := by
  refine ⟨h.1.tr g.1, ?_⟩
  have := g.2
  rw [h.2.1, show μo.1 P 1 + 1 - 1 = μo.1 P 1 by omega] at this
  exact this
/-- the STEP is put ahead of what is typed behind it -/
theorem ES.of {μ ν : M3} {P t M : Int} (s : STP μ P t) (e : EXT μ ν P) (h : Sg ν P t (μ.1 P 1) (ν.1 P 1) 0 M) (hl : μ.1 P 1 < ν.1 P 1) : ES μ ν P t M := by
  have hl1 := s.1
  refine ⟨e, SgX.stp ?_ ?_ (by omega) (by omega)⟩
  · rw [e.2 _ 0 k0 (by omega)]; exact s.2.1
  · rw [show μ.1 P 1 - 1 + 1 = μ.1 P 1 by omega]; exact h
theorem ES.fr {K : List Int} {μ ν π : M3} {P t M : Int} (h : ES μ ν P t M) (F : Fr K ν π) (h1 : P ∉ K) (h2 : P + 1 ∉ K) : ES μ π P t M := by
  refine ⟨h.1.tr (EXT.fr F h1 h2), ?_⟩
  rw [F.1 P h1 1]
  exact h.2.fr F h1 h2 (Int.le_refl _)
/-- the code ahead of n is as it was -/
theorem MF.ex {μ ν π : M3} {P q T : Int} (e : EXT μ ν P) (m : MF ν π P q T) (hq : μ.1 P 1 ≤ q) : EXT μ π P := ⟨by rw [m.1]; exact e.1, fun i k hk hi => by rw [m.2.2.2 i k hk (fun z => absurd z.1 (by omega))]; exact e.2 i k hk hi⟩
/-- if without else -/
theorem ES.ifq {μ ν μ1 μ2 μ3 : M3} {P t M : Int} (s : STP μ P t) (h : EX μ ν P t 1 0) (g : AD ν μ1 P 20 0 0) (k : EX μ1 μ2 P t 0 M) (m : MF μ2 μ3 P (ν.1 P 1) (μ2.1 P 1)) (hM : 0 ≤ M) : ES μ μ3 P t M := by
  have hl1 := s.1
  have l0 := h.1.1
  have l1 := g.2.1
  have l2 := k.1.1
  have l3 := m.1
  have o2 : cdp μ2 P (ν.1 P 1) 0 = 20 := by rw [k.1.2 _ 0 k0 (by omega)]; exact g.2.2.1
  have hq : cdp μ2 P (ν.1 P 1) 0 ≠ 13 ∧ cdp μ2 P (ν.1 P 1) 0 ≠ 14 := by rw [o2]; decide
  have o3 : cdp μ3 P (ν.1 P 1) 0 = 20 := by rw [m.2.2.2 _ 0 k0 (fun z => absurd z.2 (by decide))]; exact o2
  have E : EXT μ μ3 P := MF.ex (h.1.tr (g.1.tr k.1)) m l0
  have s1 : Sg μ3 P t (μ.1 P 1) (ν.1 P 1) 1 M := (SgX.kp h.2 ((g.1.kp l0 (Int.le_refl _)).tr ((k.1.kp l0 (by omega)).tr (m.kp hq (by omega))))).mn hM (fun _ _ _ z => z)
  have s2 : Sg μ3 P t (ν.1 P 1 + 1) (μ2.1 P 1) 0 M := by
    have := k.2
    rw [l1] at this
    exact SgX.kp this (m.kp hq (by omega))
  have hh : hs μ3 P (μ.1 P 1) = 1 := by rw [(E.fo (t := t) _ (Int.le_refl _)).1]; exact s.h.1
  have r := s1.ifq o3 m.2.2.1 s2 hh
  rw [← l3] at r
  exact ES.of s E r (by omega)
/-- if with else -/
theorem ES.ife {μ ν μ1 μ2 μ3 μ4 μ5 μ6 : M3} {P t M : Int} (s : STP μ P t) (h : EX μ ν P t 1 0) (g : AD ν μ1 P 20 0 0) (k : EX μ1 μ2 P t 0 M) (j : AD μ2 μ3 P 19 0 0) (m : MF μ3 μ4 P (ν.1 P 1) (μ3.1 P 1)) (k2 : EX μ4 μ5 P t 0 M) (m2 : MF μ5 μ6 P (μ2.1 P 1) (μ5.1 P 1)) (hM : 0 ≤ M) : ES μ μ6 P t M := by
  have hl1 := s.1
  have l0 := h.1.1
  have l1 := g.2.1
  have l2 := k.1.1
  have l3 := j.2.1
  have l4 := m.1
  have l5 := k2.1.1
  have l6 := m2.1
  have o3 : cdp μ3 P (ν.1 P 1) 0 = 20 := by rw [j.1.2 _ 0 k0 (by omega), k.1.2 _ 0 k0 (by omega)]; exact g.2.2.1
  have hq : cdp μ3 P (ν.1 P 1) 0 ≠ 13 ∧ cdp μ3 P (ν.1 P 1) 0 ≠ 14 := by rw [o3]; decide
  have j4 : cdp μ4 P (μ2.1 P 1) 0 = 19 := by rw [m.2.2.2 _ 0 k0 (fun z => absurd z.2 (by decide))]; exact j.2.2.1
  have j5 : cdp μ5 P (μ2.1 P 1) 0 = 19 := by rw [k2.1.2 _ 0 k0 (by omega)]; exact j4
  have hj : cdp μ5 P (μ2.1 P 1) 0 ≠ 13 ∧ cdp μ5 P (μ2.1 P 1) 0 ≠ 14 := by rw [j5]; decide
  have j6 : cdp μ6 P (μ2.1 P 1) 0 = 19 := by rw [m2.2.2.2 _ 0 k0 (fun z => absurd z.2 (by decide))]; exact j5
  have q6 : cdp μ6 P (ν.1 P 1) 0 = 20 := by rw [m2.2.2.2 _ 0 k0 (fun z => absurd z.2 (by decide)), k2.1.2 _ 0 k0 (by omega), m.2.2.2 _ 0 k0 (fun z => absurd z.2 (by decide))]; exact o3
  have f6 : cdp μ6 P (ν.1 P 1) 1 = μ2.1 P 1 + 1 := by rw [m2.2.2.2 _ 1 k1 (fun z => absurd z.1 (by omega)), k2.1.2 _ 1 k1 (by omega), m.2.2.1]; exact l3
  have E4 : EXT μ μ4 P := MF.ex (h.1.tr (g.1.tr (k.1.tr j.1))) m l0
  have E : EXT μ μ6 P := MF.ex (E4.tr k2.1) m2 (by omega)
  have K45 := fun {a b : Int} (x1 : a ≤ b) (x2 : b ≤ μ4.1 P 1) (x3 : ¬ (a ≤ μ2.1 P 1 ∧ μ2.1 P 1 < b)) => (k2.1.kp (t := t) x1 x2).tr (m2.kp hj x3)
  have s1 : Sg μ6 P t (μ.1 P 1) (ν.1 P 1) 1 M := (SgX.kp h.2 ((g.1.kp l0 (Int.le_refl _)).tr ((k.1.kp l0 (by omega)).tr ((j.1.kp l0 (by omega)).tr ((m.kp hq (by omega)).tr (K45 l0 (by omega) (by omega))))))).mn hM (fun _ _ _ z => z)
  have s2 : Sg μ6 P t (ν.1 P 1 + 1) (μ2.1 P 1) 0 M := by
    have := k.2
    rw [l1] at this
    exact SgX.kp this ((j.1.kp (by omega) (Int.le_refl _)).tr ((m.kp hq (by omega)).tr (K45 (by omega) (by omega) (by omega))))
  have s3 : Sg μ6 P t (μ2.1 P 1 + 1) (μ5.1 P 1) 0 M := by
    have := k2.2
    rw [l4, l3] at this
    exact SgX.kp this (m2.kp hj (by omega))
  have hh : hs μ6 P (μ.1 P 1) = 1 := by rw [(E.fo (t := t) _ (Int.le_refl _)).1]; exact s.h.1
  have r := s1.ife q6 f6 s2 j6 m2.2.2.1 s3 hh
  rw [← l6] at r
  exact ES.of s E r (by omega)
/-- while -/
theorem ES.whl {μ ν μ1 μ2 μ3 μ4 : M3} {P t M : Int} (s : STP μ P t) (h : EX μ ν P t 1 0) (g : AD ν μ1 P 20 0 0) (k : EX μ1 μ2 P t 0 M) (j : AD μ2 μ3 P 19 (μ.1 P 1 - 1) 0) (m : MF μ3 μ4 P (ν.1 P 1) (μ3.1 P 1)) (hM : 0 ≤ M) : ES μ μ4 P t M := by
  have hl1 := s.1
  have l0 := h.1.1
  have l1 := g.2.1
  have l2 := k.1.1
  have l3 := j.2.1
  have l4 := m.1
  have o3 : cdp μ3 P (ν.1 P 1) 0 = 20 := by rw [j.1.2 _ 0 k0 (by omega), k.1.2 _ 0 k0 (by omega)]; exact g.2.2.1
  have hq : cdp μ3 P (ν.1 P 1) 0 ≠ 13 ∧ cdp μ3 P (ν.1 P 1) 0 ≠ 14 := by rw [o3]; decide
  have q4 : cdp μ4 P (ν.1 P 1) 0 = 20 := by rw [m.2.2.2 _ 0 k0 (fun z => absurd z.2 (by decide))]; exact o3
  have j4 : cdp μ4 P (μ2.1 P 1) 0 = 19 := by rw [m.2.2.2 _ 0 k0 (fun z => absurd z.2 (by decide))]; exact j.2.2.1
  have f4 : cdp μ4 P (μ2.1 P 1) 1 = μ.1 P 1 - 1 := by rw [m.2.2.2 _ 1 k1 (fun z => absurd z.1 (by omega))]; exact j.2.2.2.1
  have E : EXT μ μ4 P := MF.ex (h.1.tr (g.1.tr (k.1.tr j.1))) m l0
  have s1 : Sg μ4 P t (μ.1 P 1) (ν.1 P 1) 1 M := (SgX.kp h.2 ((g.1.kp l0 (Int.le_refl _)).tr ((k.1.kp l0 (by omega)).tr ((j.1.kp l0 (by omega)).tr (m.kp hq (by omega)))))).mn hM (fun _ _ _ z => z)
  have s2 : Sg μ4 P t (ν.1 P 1 + 1) (μ2.1 P 1) 0 M := by
    have := k.2
    rw [l1] at this
    exact SgX.kp this ((j.1.kp (by omega) (Int.le_refl _)).tr (m.kp hq (by omega)))
  have z := E.fo (t := t) (μ.1 P 1 - 1) (by omega)
  have e1 : μ.1 P 1 - 1 + 1 = μ.1 P 1 := by omega
  refine ⟨E, ?_⟩
  have r := Sg.whl (a := μ.1 P 1 - 1) (q := ν.1 P 1) (j := μ2.1 P 1) (by rw [E.2 _ 0 k0 (by omega)]; exact s.2.1) (by rw [z.2.1]; exact s.2.2.2) (by omega) (by rw [e1]; exact s1) q4 (by rw [m.2.2.1]; exact l3) s2 j4 f4 (by rw [z.1]; exact s.2.2.1)
  rw [l4, l3]
  exact r

/-- STORE at the height of statements -/
theorem EX.st1 {μ ν : M3} {P t f : Int} (h : AD μ ν P 5 f 0) (h0 : 0 ≤ μ.1 P 1) (hh : hs μ P (μ.1 P 1) = 1) : EX μ ν P t 0 0 := by
  have z := h.1.fo (t := t) _ (Int.le_refl _)
  have d1 : ds ν P t (μ.1 P 1 + 1) = ds ν P t (μ.1 P 1) := by rw [ds_s h0, h.2.2.1]; show _ + (0 : Int) = _; omega
  refine ⟨h.1, ?_⟩
  rw [h.2.1]
  refine ⟨⟨h0, by omega⟩, ?_, fun _ => ?_, d1, fun i ha hb _ => ?_, fun i ha hb => ?_⟩
  · rw [hs_s h0, h.2.2.1, z.1, hh]; rfl
  · rw [cs_s h0, h.2.2.1]; rfl
  · have : i = μ.1 P 1 := by omega
    rw [this]
    unfold lcd
    rw [h.2.2.1]
    exact lcd0.pln (by unfold plain; omega)
  · by_cases hi : i = μ.1 P 1
    · rw [hi]; omega
    · have : i = μ.1 P 1 + 1 := by omega
      rw [this]; omega
/-- on .. go, open .. then -/
theorem ES.on {μ μ1 μ2 μ3 μ4 μ5 μ6 : M3} {P t M sc : Int} (s : STP μ P t) (g : AD μ μ1 P 28 0 sc) (hk : sc.tdiv 64 ≠ 1 ∧ sc.tdiv 64 ≠ 4 ∧ (t = 1 → sc.tdiv 64 = 2)) (k : EX μ1 μ2 P t 0 M) (j : AD μ2 μ3 P 29 0 0) (m : MF μ3 μ4 P (μ.1 P 1) (μ3.1 P 1)) (k2 : EX μ4 μ5 P t 0 M) (m2 : MF μ5 μ6 P (μ2.1 P 1) (μ5.1 P 1)) : ES μ μ6 P t (M + 1) := by
  have hl1 := s.1
  have l1 := g.2.1
  have l2 := k.1.1
  have l3 := j.2.1
  have l4 := m.1
  have l5 := k2.1.1
  have l6 := m2.1
  have o3 : cdp μ3 P (μ.1 P 1) 0 = 28 := by rw [j.1.2 _ 0 k0 (by omega), k.1.2 _ 0 k0 (by omega)]; exact g.2.2.1
  have c3 : cdp μ3 P (μ.1 P 1) 2 = sc := by rw [j.1.2 _ 2 kk2 (by omega), k.1.2 _ 2 kk2 (by omega)]; exact g.2.2.2.2
  have hq : cdp μ3 P (μ.1 P 1) 0 ≠ 13 ∧ cdp μ3 P (μ.1 P 1) 0 ≠ 14 := by rw [o3]; decide
  have j4 : cdp μ4 P (μ2.1 P 1) 0 = 29 := by rw [m.2.2.2 _ 0 k0 (fun z => absurd z.2 (by decide))]; exact j.2.2.1
  have j5 : cdp μ5 P (μ2.1 P 1) 0 = 29 := by rw [k2.1.2 _ 0 k0 (by omega)]; exact j4
  have hj : cdp μ5 P (μ2.1 P 1) 0 ≠ 13 ∧ cdp μ5 P (μ2.1 P 1) 0 ≠ 14 := by rw [j5]; decide
  have j6 : cdp μ6 P (μ2.1 P 1) 0 = 29 := by rw [m2.2.2.2 _ 0 k0 (fun z => absurd z.2 (by decide))]; exact j5
  have g6 : cdp μ6 P (μ.1 P 1) 0 = 28 := by rw [m2.2.2.2 _ 0 k0 (fun z => absurd z.2 (by decide)), k2.1.2 _ 0 k0 (by omega), m.2.2.2 _ 0 k0 (fun z => absurd z.2 (by decide))]; exact o3
  have c6 : cdp μ6 P (μ.1 P 1) 2 = sc := by rw [m2.2.2.2 _ 2 kk2 (fun z => absurd z.2 (by decide)), k2.1.2 _ 2 kk2 (by omega), m.2.2.2 _ 2 kk2 (fun z => absurd z.2 (by decide))]; exact c3
  have f6 : cdp μ6 P (μ.1 P 1) 1 = μ2.1 P 1 + 1 := by rw [m2.2.2.2 _ 1 k1 (fun z => absurd z.1 (by omega)), k2.1.2 _ 1 k1 (by omega), m.2.2.1]; exact l3
  have E4 : EXT μ μ4 P := MF.ex (g.1.tr (k.1.tr j.1)) m (Int.le_refl _)
  have E : EXT μ μ6 P := MF.ex (E4.tr k2.1) m2 (by omega)
  have s2 : Sg μ6 P t (μ.1 P 1 + 1) (μ2.1 P 1) 0 M := by
    have := k.2
    rw [l1] at this
    exact SgX.kp this ((j.1.kp (by omega) (Int.le_refl _)).tr ((m.kp hq (by omega)).tr ((k2.1.kp (by omega) (by omega)).tr (m2.kp hj (by omega)))))
  have s3 : Sg μ6 P t (μ2.1 P 1 + 1) (μ5.1 P 1) 0 M := by
    have := k2.2
    rw [l4, l3] at this
    exact SgX.kp this (m2.kp hj (by omega))
  have z := E.fo (t := t) (μ.1 P 1) (Int.le_refl _)
  have r := Sg.on (g := μ.1 P 1) (j := μ2.1 P 1) (b := μ5.1 P 1) (by omega) (by rw [z.2.1]; exact s.h.2) g6 f6 (by rw [c6]; exact ⟨hk.1, hk.2.1⟩) (by rw [c6]; exact hk.2.2) s2 j6 m2.2.2.1 s3 (by rw [z.1]; exact s.h.1)
  rw [← l6] at r
  exact ES.of s E r (by omega)

/-- one instruction's second detail is set -/
def MS (μ ν : M3) (P q T : Int) : Prop := ν.1 P 1 = μ.1 P 1 ∧ (0 ≤ q ∧ q < μ.1 P 1) ∧ cdp ν P q 2 = T ∧ ∀ i k, kk k → ¬ (i = q ∧ k = 2) → cdp ν P i k = cdp μ P i k
theorem MS.fo {μ ν : M3} {P t q T : Int} (h : MS μ ν P q T) : ∀ i, hs ν P i = hs μ P i ∧ cs ν P t i = cs μ P t i ∧ ds ν P t i = ds μ P t i := by
  intro i
  refine folds (n := max i 0) (fun j _ _ => ⟨h.2.2.2 j 0 k0 (fun z => absurd z.2 (by decide)), ?_⟩) i (by omega)
  rw [h.2.2.2 j 0 k0 (fun z => absurd z.2 (by decide)), h.2.2.2 j 1 k1 (fun z => absurd z.2 (by decide))]
theorem MS.kp {μ ν : M3} {P t q T a b : Int} (h : MS μ ν P q T) (hab : ¬ (a ≤ q ∧ q < b)) : KP μ ν P t a b := by
  refine ⟨fun i k hk h1 h2 => h.2.2.2 i k hk (fun z => hab ⟨by omega, by omega⟩), fun i h1 h2 => ?_⟩
  have z := h.fo (t := t) i
  have z2 := h.fo (t := t) a
  exact ⟨z.1, z.2.1, by rw [z.2.2, z2.2.2]⟩
theorem MS.ex {μ ν π : M3} {P q T : Int} (e : EXT μ ν P) (m : MS ν π P q T) (hq : μ.1 P 1 ≤ q) : EXT μ π P := ⟨by rw [m.1]; exact e.1, fun i k hk hi => by rw [m.2.2.2 i k hk (fun z => absurd z.1 (by omega))]; exact e.2 i k hk hi⟩
theorem MS.of {μ ν : M3} {P q T : Int} (h2 : ν.1 P 1 = μ.1 P 1) (hq : 0 ≤ q ∧ q < μ.1 P 1) (a1 : ν.1 (P + 1) (q * 4 + 2) = T) (hk : ∀ j, j ≠ q * 4 + 2 → ν.1 (P + 1) j = μ.1 (P + 1) j) : MS μ ν P q T := by
  refine ⟨h2, hq, ?_, fun i k h3 hn => ?_⟩
  · unfold cdp; rw [if_pos ⟨hq.1, by omega⟩, show 4 * q + 2 = q * 4 + 2 by omega]; exact a1
  · unfold cdp; rw [h2]
    by_cases hi : 0 ≤ i ∧ i < μ.1 P 1
    · rw [if_pos hi, if_pos hi]
      exact hk _ (fun z => hn (by unfold kk at h3; omega))
    · rw [if_neg hi, if_neg hi]
/-- with .. end -/
theorem ES.wth {μ μ1 μ2 μ3 μ4 μ5 μ6 μ7 : M3} {P t M sc s0 : Int} (s : STP μ P t) (ht : t ≠ 1 ∧ t ≠ 3) (g : AD μ μ1 P 28 0 s0) (k : EX μ1 μ2 P t 0 M) (f : AD μ2 μ3 P 31 (μ2.1 P 1 + 1) 0) (m : MF μ3 μ4 P (μ.1 P 1) (μ3.1 P 1)) (n : MS μ4 μ5 P (μ.1 P 1) sc) (hk : sc.tdiv 64 = 4) (k2 : EX μ5 μ6 P t 0 M) (e : AD μ6 μ7 P 32 (μ6.1 P 1 + 1) 0) : ES μ μ7 P t (M + 1) := by
  have hl1 := s.1
  have l1 := g.2.1
  have l2 := k.1.1
  have l3 := f.2.1
  have l4 := m.1
  have l5 := n.1
  have l6 := k2.1.1
  have l7 := e.2.1
  have o3 : cdp μ3 P (μ.1 P 1) 0 = 28 := by rw [f.1.2 _ 0 k0 (by omega), k.1.2 _ 0 k0 (by omega)]; exact g.2.2.1
  have hq : cdp μ3 P (μ.1 P 1) 0 ≠ 13 ∧ cdp μ3 P (μ.1 P 1) 0 ≠ 14 := by rw [o3]; decide
  have o5 : cdp μ5 P (μ.1 P 1) 0 = 28 := by rw [n.2.2.2 _ 0 k0 (fun z => absurd z.2 (by decide)), m.2.2.2 _ 0 k0 (fun z => absurd z.2 (by decide))]; exact o3
  have f5 : cdp μ5 P (μ.1 P 1) 1 = μ2.1 P 1 + 1 := by rw [n.2.2.2 _ 1 k1 (fun z => absurd z.2 (by decide)), m.2.2.1]; exact l3
  have up : ∀ (i x : Int), kk x → i < μ5.1 P 1 → cdp μ7 P i x = cdp μ5 P i x := fun i x hx hi => by rw [e.1.2 i x hx (by omega), k2.1.2 i x hx hi]
  have p5 : ∀ (x : Int), kk x → cdp μ5 P (μ2.1 P 1) x = cdp μ3 P (μ2.1 P 1) x := fun x hx => by rw [n.2.2.2 _ x hx (fun z => absurd z.1 (by omega)), m.2.2.2 _ x hx (fun z => absurd z.1 (by omega))]
  have E5 : EXT μ μ5 P := MS.ex (MF.ex (g.1.tr (k.1.tr f.1)) m (Int.le_refl _)) n (Int.le_refl _)
  have E : EXT μ μ7 P := E5.tr (k2.1.tr e.1)
  have s2 : Sg μ7 P t (μ.1 P 1 + 1) (μ2.1 P 1) 0 M := by
    have := k.2
    rw [l1] at this
    exact SgX.kp this ((f.1.kp (by omega) (Int.le_refl _)).tr ((m.kp hq (by omega)).tr ((n.kp (by omega)).tr ((k2.1.kp (by omega) (by omega)).tr (e.1.kp (by omega) (by omega))))))
  have s3 : Sg μ7 P t (μ2.1 P 1 + 1) (μ6.1 P 1) 0 M := by
    have := k2.2
    rw [l5, l4, l3] at this
    exact SgX.kp this (e.1.kp (by omega) (Int.le_refl _))
  have z := E.fo (t := t) (μ.1 P 1) (Int.le_refl _)
  have r := Sg.fin (g := μ.1 P 1) (f := μ2.1 P 1) (k := μ6.1 P 1) (by omega) ht (by rw [z.2.1]; exact s.h.2) (by rw [up _ 0 k0 (by omega)]; exact o5) (by rw [up _ 1 k1 (by omega)]; exact f5) (by rw [up _ 2 kk2 (by omega), n.2.2.1]; exact hk) s2 (by rw [up _ 0 k0 (by omega), p5 0 k0]; exact f.2.2.1) (by rw [up _ 1 k1 (by omega), p5 1 k1]; exact f.2.2.2.1) s3 e.2.2.1 e.2.2.2.1 (by rw [z.1]; exact s.h.1)
  rw [← l7] at r
  exact ES.of s E r (by omega)
/-- clean .. do -/
theorem ES.cln {μ μ1 μ2 μ3 μ4 μ5 μ6 μ7 μ8 μ9 : M3} {P t M sc : Int} (s : STP μ P t) (ht : t = 3) (g : AD μ μ1 P 28 0 sc) (hk : sc.tdiv 64 = 4) (j : AD μ1 μ2 P 19 0 0) (m : MF μ2 μ3 P (μ.1 P 1) (μ2.1 P 1)) (k : EX μ3 μ4 P t 0 M) (e : AD μ4 μ5 P 32 0 0) (m2 : MF μ5 μ6 P (μ1.1 P 1) (μ5.1 P 1)) (k2 : EX μ6 μ7 P t 0 M) (f : AD μ7 μ8 P 31 (μ2.1 P 1) 0) (m3 : MF μ8 μ9 P (μ4.1 P 1) (μ8.1 P 1)) : ES μ μ9 P t (M + 1) := by
  have hl1 := s.1
  have l1 := g.2.1
  have l2 := j.2.1
  have l3 := m.1
  have l4 := k.1.1
  have l5 := e.2.1
  have l6 := m2.1
  have l7 := k2.1.1
  have l8 := f.2.1
  have l9 := m3.1
  have a2 : cdp μ2 P (μ.1 P 1) 0 = 28 := by rw [j.1.2 _ 0 k0 (by omega)]; exact g.2.2.1
  have hq : cdp μ2 P (μ.1 P 1) 0 ≠ 13 ∧ cdp μ2 P (μ.1 P 1) 0 ≠ 14 := by rw [a2]; decide
  have b3 : cdp μ3 P (μ1.1 P 1) 0 = 19 := by rw [m.2.2.2 _ 0 k0 (fun z => absurd z.2 (by decide))]; exact j.2.2.1
  have b5 : cdp μ5 P (μ1.1 P 1) 0 = 19 := by rw [e.1.2 _ 0 k0 (by omega), k.1.2 _ 0 k0 (by omega)]; exact b3
  have hj : cdp μ5 P (μ1.1 P 1) 0 ≠ 13 ∧ cdp μ5 P (μ1.1 P 1) 0 ≠ 14 := by rw [b5]; decide
  have c6 : cdp μ6 P (μ4.1 P 1) 0 = 32 := by rw [m2.2.2.2 _ 0 k0 (fun z => absurd z.2 (by decide))]; exact e.2.2.1
  have c8 : cdp μ8 P (μ4.1 P 1) 0 = 32 := by rw [f.1.2 _ 0 k0 (by omega), k2.1.2 _ 0 k0 (by omega)]; exact c6
  have hc : cdp μ8 P (μ4.1 P 1) 0 ≠ 13 ∧ cdp μ8 P (μ4.1 P 1) 0 ≠ 14 := by rw [c8]; decide
  have o0 : ∀ i, i < μ6.1 P 1 → cdp μ9 P i 0 = cdp μ6 P i 0 := fun i hi => by rw [m3.2.2.2 _ 0 k0 (fun z => absurd z.2 (by decide)), f.1.2 i 0 k0 (by omega), k2.1.2 i 0 k0 hi]
  have o1 : ∀ i, i < μ6.1 P 1 → i ≠ μ4.1 P 1 → cdp μ9 P i 1 = cdp μ6 P i 1 := fun i hi hn => by rw [m3.2.2.2 _ 1 k1 (fun z => hn z.1), f.1.2 i 1 k1 (by omega), k2.1.2 i 1 k1 hi]
  have g9 : cdp μ9 P (μ.1 P 1) 0 = 28 := by rw [o0 _ (by omega), m2.2.2.2 _ 0 k0 (fun z => absurd z.2 (by decide)), e.1.2 _ 0 k0 (by omega), k.1.2 _ 0 k0 (by omega), m.2.2.2 _ 0 k0 (fun z => absurd z.2 (by decide))]; exact a2
  have gf9 : cdp μ9 P (μ.1 P 1) 1 = μ.1 P 1 + 1 + 1 := by rw [o1 _ (by omega) (by omega), m2.2.2.2 _ 1 k1 (fun z => absurd z.1 (by omega)), e.1.2 _ 1 k1 (by omega), k.1.2 _ 1 k1 (by omega), m.2.2.1]; omega
  have gs9 : cdp μ9 P (μ.1 P 1) 2 = sc := by rw [m3.2.2.2 _ 2 kk2 (fun z => absurd z.2 (by decide)), f.1.2 _ 2 kk2 (by omega), k2.1.2 _ 2 kk2 (by omega), m2.2.2.2 _ 2 kk2 (fun z => absurd z.2 (by decide)), e.1.2 _ 2 kk2 (by omega), k.1.2 _ 2 kk2 (by omega), m.2.2.2 _ 2 kk2 (fun z => absurd z.2 (by decide)), j.1.2 _ 2 kk2 (by omega)]; exact g.2.2.2.2
  have j9 : cdp μ9 P (μ1.1 P 1) 0 = 19 := by rw [o0 _ (by omega), m2.2.2.2 _ 0 k0 (fun z => absurd z.2 (by decide))]; exact b5
  have jf9 : cdp μ9 P (μ1.1 P 1) 1 = μ4.1 P 1 + 1 := by rw [o1 _ (by omega) (by omega), m2.2.2.1]; exact l5
  have e9 : cdp μ9 P (μ4.1 P 1) 0 = 32 := by rw [o0 _ (by omega)]; exact c6
  have f9 : cdp μ9 P (μ7.1 P 1) 0 = 31 := by rw [m3.2.2.2 _ 0 k0 (fun z => absurd z.2 (by decide))]; exact f.2.2.1
  have ff9 : cdp μ9 P (μ7.1 P 1) 1 = μ.1 P 1 + 1 + 1 := by rw [m3.2.2.2 _ 1 k1 (fun z => absurd z.1 (by omega)), f.2.2.2.1]; omega
  have E3 : EXT μ μ3 P := MF.ex (g.1.tr j.1) m (Int.le_refl _)
  have E6 : EXT μ μ6 P := MF.ex (E3.tr (k.1.tr e.1)) m2 (by omega)
  have E : EXT μ μ9 P := MF.ex (E6.tr (k2.1.tr f.1)) m3 (by omega)
  have s2 : Sg μ9 P t (μ.1 P 1 + 1 + 1) (μ4.1 P 1) 0 M := by
    have := k.2
    rw [l3, l2, l1] at this
    exact SgX.kp this ((e.1.kp (by omega) (Int.le_refl _)).tr ((m2.kp hj (by omega)).tr ((k2.1.kp (by omega) (by omega)).tr ((f.1.kp (by omega) (by omega)).tr (m3.kp hc (by omega))))))
  have s3 : Sg μ9 P t (μ4.1 P 1 + 1) (μ7.1 P 1) 0 M := by
    have := k2.2
    rw [l6, l5] at this
    exact SgX.kp this ((f.1.kp (by omega) (Int.le_refl _)).tr (m3.kp hc (by omega)))
  have z := E.fo (t := t) (μ.1 P 1) (Int.le_refl _)
  rw [l1] at j9 jf9
  have r := Sg.cln (g := μ.1 P 1) (k := μ4.1 P 1) (f := μ7.1 P 1) (by omega) ht (by rw [z.2.1]; exact s.h.2) g9 gf9 (by rw [gs9]; exact hk) j9 jf9 s2 e9 (by rw [m3.2.2.1]; exact l8) s3 f9 ff9 (by rw [z.1]; exact s.h.1)
  rw [← l8, ← l9] at r
  exact ES.of s E r (by omega)
