/-! typed code of the class's programs -/
def rul (μ : M3) (p t i : Int) (h c d : Int → Int) : Prop :=
  ((cdp μ p i 0 < 1 ∨ 32 < cdp μ p i 0) → h i ≤ h (i + 1) ∧ c (i + 1) ≤ c i ∧ d (i + 1) = d i) ∧
  (cdp μ p i 0 = 1 → h i ≤ h (i + 1) ∧ d (i + 1) = d i) ∧
  ((cdp μ p i 0 = 2 ∨ cdp μ p i 0 = 3 ∨ cdp μ p i 0 = 4 ∨ cdp μ p i 0 = 15 ∨ cdp μ p i 0 = 18) → h i + 1 ≤ h (i + 1)) ∧
  ((cdp μ p i 0 = 5 ∨ cdp μ p i 0 = 6 ∨ cdp μ p i 0 = 7 ∨ cdp μ p i 0 = 11 ∨ cdp μ p i 0 = 22) → h i ≤ h (i + 1) + 1) ∧
  ((cdp μ p i 0 = 8 ∨ cdp μ p i 0 = 9 ∨ cdp μ p i 0 = 10 ∨ cdp μ p i 0 = 16 ∨ cdp μ p i 0 = 17) → h i ≤ h (i + 1)) ∧
  (cdp μ p i 0 = 12 → h i ≤ h (i + 1) + 3) ∧
  (cdp μ p i 0 = 13 → 0 ≤ cdp μ p i 1 ∧ cdp μ p i 1 ≤ 400000 ∧ h i + 1 ≤ h (i + 1) + (cdp μ p i 1).tdiv 4) ∧
  (cdp μ p i 0 = 14 → 0 ≤ cdp μ p i 1 ∧ cdp μ p i 1 ≤ 400000 ∧ h i ≤ h (i + 1) + (cdp μ p i 1).tdiv 4) ∧
  (((2 ≤ cdp μ p i 0 ∧ cdp μ p i 0 ≤ 18) ∨ cdp μ p i 0 = 20 ∨ cdp μ p i 0 = 22 ∨ cdp μ p i 0 = 24 ∨ cdp μ p i 0 = 26 ∨ cdp μ p i 0 = 27 ∨ cdp μ p i 0 = 30) → c (i + 1) = 0 ∧ d (i + 1) = d i) ∧
  ((cdp μ p i 0 = 19 ∨ cdp μ p i 0 = 31) → h i ≤ 1 ∧ gtc c (cdp μ p i 1) ∧ d (cdp μ p i 1) = d i) ∧
  (cdp μ p i 0 = 20 → h i ≤ 2 ∧ h i ≤ h (i + 1) + 1 ∧ gtc c (cdp μ p i 1) ∧ d (cdp μ p i 1) = d i) ∧
  ((cdp μ p i 0 = 23 ∨ cdp μ p i 0 = 25) → t ≠ 2) ∧
  (cdp μ p i 0 = 24 → t ≠ 2 ∧ h i ≤ h (i + 1) + 1) ∧
  (cdp μ p i 0 = 26 → 0 ≤ cdp μ p i 2 ∧ cdp μ p i 2 ≤ 100000 ∧ h i ≤ h (i + 1) ∧ h i ≤ h (cdp μ p i 1) + cdp μ p i 2 ∧ gtc c (cdp μ p i 1) ∧ d (cdp μ p i 1) = d i) ∧
  (cdp μ p i 0 = 27 → h i ≤ h (i + 1) + 1 ∧ h i ≤ h (cdp μ p i 1) ∧ gtc c (cdp μ p i 1) ∧ d (cdp μ p i 1) = d i) ∧
  (cdp μ p i 0 = 28 → h i ≤ h (i + 1) ∧ c (i + 1) + 1 ≤ c i ∧ d (i + 1) = d i + 1 ∧ ((cdp μ p i 2).tdiv 64 = 1 → cdp μ p (cdp μ p i 1) 0 = 30 ∧ d (cdp μ p i 1 + 1) = d i) ∧ ((cdp μ p i 2).tdiv 64 = 4 → gtc c (cdp μ p i 1) ∧ d (cdp μ p i 1) = d i + 1) ∧ ((cdp μ p i 2).tdiv 64 ≠ 1 → (cdp μ p i 2).tdiv 64 ≠ 4 → gtc c (cdp μ p i 1) ∧ d (cdp μ p i 1) = d i) ∧ (t = 1 → (cdp μ p i 2).tdiv 64 = 2)) ∧
  ((cdp μ p i 0 = 29 ∨ cdp μ p i 0 = 32) → h i ≤ 1 ∧ 1 ≤ d i ∧ gtc c (cdp μ p i 1) ∧ d (cdp μ p i 1) = d i - 1) ∧
  (cdp μ p i 0 = 30 → h i ≤ h (i + 1) ∧ gtc c (i + 1) ∧ (cdp μ p i 2 < 0 ∨ (cdp μ p (cdp μ p i 2) 0 = 30 ∧ d (cdp μ p i 2 + 1) = d (i + 1)))) ∧
  (cdp μ p i 0 = 31 → t ≠ 1 ∧ 1 ≤ d i)
def TCp (μ : M3) (p t : Int) (h c d : Int → Int) : Prop := (∀ i, 1 ≤ h i ∧ h i ≤ 8001 ∧ 0 ≤ c i ∧ c i ≤ 2 ∧ 0 ≤ d i ∧ d i ≤ 16) ∧ (gtc c (μ.1 p 1) ∧ d (μ.1 p 1) = 0) ∧ (∀ f, 0 ≤ f → f < μ.1 p 7 → gtc c (μ.1 (p + 7) f) ∧ d (μ.1 (p + 7) f) = 0) ∧ ∀ i, rul μ p t i h c d
theorem rul.fr {L : List Int} {μ ν : M3} {p t i : Int} {h c d : Int → Int} (hr : rul μ p t i h c d) (F : Fr L μ ν) (h1 : p ∉ L) (h2 : p + 1 ∉ L) : rul ν p t i h c d := by
  have e : ∀ i k, cdp ν p i k = cdp μ p i k := cdp_fr F h1 h2
  unfold rul at *
  simp only [e]
  exact hr
theorem TCp.fr {L : List Int} {μ ν : M3} {p t : Int} {h c d : Int → Int} (hT : TCp μ p t h c d) (F : Fr L μ ν) (hp : isPr p) (hL : npL L = true) : TCp ν p t h c d := by
  have q := npL_p hL hp
  obtain ⟨a1, a2, a3, a4⟩ := hT
  refine ⟨a1, ?_, ?_, fun i => (a4 i).fr F q.1 q.2.1⟩
  · rw [F.1 p q.1 1]; exact a2
  · intro f h0 h7
    rw [F.1 p q.1 7] at h7
    rw [F.1 (p + 7) q.2.2.2.1 f]
    exact a3 f h0 h7
/-- what workOut may leave is no higher than the next place allows -/
theorem TCp.up {μ : M3} {p t i S f : Int} {h c d : Int → Int} (hT : TCp μ p t h c d) (hf : 0 ≤ f) (hS : S ≤ f + h i) (ho : cdp μ p i 0 < 19) : hup (cdp μ p i 0) (cdp μ p i 1) S ≤ f + h (i + 1) := by
  obtain ⟨r1, r2, r3, r4, r5, r6, r7, r8, -⟩ := hT.2.2.2 i
  have h1 := (hT.1 (i + 1)).1
  unfold hup
  split
  · have := r3 (by omega); omega
  split
  · have := r4 (by omega); omega
  split
  · have := r4 (by omega); omega
  split
  · have := r5 (by omega); omega
  split
  · have := r6 (by omega); omega
  split
  · have := r7 (by omega); omega
  split
  · have := r8 (by omega); omega
  by_cases h0 : cdp μ p i 0 < 1
  · have := (r1 (by omega)).1; omega
  · have := (r2 (by omega)).1; omega
theorem TCp.fall {μ : M3} {p t i S S' f : Int} {h c d : Int → Int} (hT : TCp μ p t h c d) (hf : 0 ≤ f) (hS : S ≤ f + h i) (ho : ¬ cdp μ p i 0 < 19) (hg : gfall (cdp μ p i 0) S S' t) : S' ≤ f + h (i + 1) := by
  obtain ⟨r1, -, -, r4, -, -, -, -, -, -, r20, r23, r24, r26, r27, r28, -, r30, -⟩ := hT.2.2.2 i
  have h1 := (hT.1 (i + 1)).1
  obtain ⟨g1, g2, g3, g4, g5, g6⟩ := hg
  rcases g6 with ⟨g7, g8⟩ | ⟨g7, g8, g9⟩
  · rcases g8 with g8 | g8 | g8
    · exact absurd g7 (r23 (by omega))
    · exact absurd g7 (r24 g8).1
    · exact absurd g7 (r23 (by omega))
  · rcases g9 with ⟨g10, g11⟩ | ⟨g10, g11, g12, g13, g14⟩
    · rcases g10 with q | q | q | q
      · have := (r20 q).2.1; omega
      · have := r4 (by omega); omega
      · have := (r24 q).2; omega
      · have := (r27 q).1; omega
    · by_cases h26 : cdp μ p i 0 = 26
      · have := (r26 h26).2.2.1; omega
      by_cases h28 : cdp μ p i 0 = 28
      · have := (r28 h28).1; omega
      by_cases h30 : cdp μ p i 0 = 30
      · have := (r30 h30).1; omega
      have := (r1 (by omega)).1; omega
theorem TCp.jump {μ : M3} {p t i S S' f : Int} {h c d : Int → Int} (hT : TCp μ p t h c d) (hf : 0 ≤ f) (hS : S ≤ f + h i) (hg : gjump (cdp μ p i 0) (cdp μ p i 2) S S') : S' ≤ f + h (cdp μ p i 1) ∧ gtc c (cdp μ p i 1) ∧ d (cdp μ p i 1) = (if cdp μ p i 0 = 29 ∨ cdp μ p i 0 = 32 then d i - 1 else d i) := by
  obtain ⟨-, -, -, -, -, -, -, -, -, r19, r20, -, -, r26, r27, -, r29, -⟩ := hT.2.2.2 i
  have h1 := (hT.1 (cdp μ p i 1)).1
  rcases hg with ⟨g1, g2⟩ | ⟨g1, g2⟩ | ⟨g1, g2⟩
  · by_cases h19 : cdp μ p i 0 = 19 ∨ cdp μ p i 0 = 31
    · obtain ⟨q1, q2, q3⟩ := r19 h19
      exact ⟨by omega, q2, by rw [if_neg (by omega)]; exact q3⟩
    by_cases h27 : cdp μ p i 0 = 27
    · obtain ⟨q1, q2, q3, q4⟩ := r27 h27
      exact ⟨by omega, q3, by rw [if_neg (by omega)]; exact q4⟩
    obtain ⟨q1, q2, q3, q4⟩ := r29 (by omega)
    exact ⟨by omega, q3, by rw [if_pos (by omega)]; exact q4⟩
  · obtain ⟨q1, q2, q3, q4⟩ := r20 g1
    exact ⟨by omega, q3, by rw [if_neg (by omega)]; exact q4⟩
  · obtain ⟨q1, q2, q3, q4, q5, q6⟩ := r26 g1
    exact ⟨by omega, q5, by rw [if_neg (by omega)]; exact q6⟩
