/-! the turns of run -/
def crf (μ : M3) (cc dd : Int → Int → Int) (i : Int) : Int → Int → Int := fun q x => if dd (μ.1 53 i) x = q - μ.1 59 i then cc (μ.1 53 i) x else 1
theorem crf_g {μ : M3} {cc dd : Int → Int → Int} {i q x : Int} : gtc (crf μ cc dd i q) x ↔ dd (μ.1 53 i) x = q - μ.1 59 i ∧ gtc (cc (μ.1 53 i)) x := by
  unfold gtc crf
  by_cases h : dd (μ.1 53 i) x = q - μ.1 59 i
  · rw [if_pos h]; exact ⟨fun h2 => ⟨h, h2⟩, fun h2 => h2.2⟩
  · rw [if_neg h]; exact ⟨fun h2 => absurd h2.1 (by decide), fun h2 => absurd h2.1 h⟩
theorem crf_eq {μ ν : M3} {cc dd : Int → Int → Int} {i : Int} (h3 : ν.1 53 i = μ.1 53 i) (h9 : ν.1 59 i = μ.1 59 i) : crf ν cc dd i = crf μ cc dd i := by
  unfold crf; rw [h3, h9]
def TA (μ : M3) (hh cc dd : Int → Int → Int) : Prop := ∀ t, 0 ≤ t → t ≤ 3 → isPr (μ.1 12 t) ∧ TCp μ (μ.1 12 t) t (hh t) (cc t) (dd t)
theorem TA.fr {L : List Int} {μ ν : M3} {hh cc dd : Int → Int → Int} (hT : TA μ hh cc dd) (F : Fr L μ ν) (hL : npL L = true) : TA ν hh cc dd := by
  intro t h0 h3
  have q := hT t h0 h3
  rw [F.1 12 (npL_12 hL) t]
  exact ⟨q.1, q.2.fr F q.1 hL⟩
theorem TCp.ctc {μ : M3} {cc dd : Int → Int → Int} {h : Int → Int} {p i : Int} (hT : TCp μ p (μ.1 53 i) h (cc (μ.1 53 i)) (dd (μ.1 53 i))) (q : Int) : ctc μ p (crf μ cc dd i q) := by
  intro t h0 h1 h2
  obtain ⟨-, -, -, -, -, -, -, -, -, -, -, -, -, -, -, -, -, r30, -⟩ := hT.2.2.2 t
  have r := (r30 h1).2.2
  rcases r with r | ⟨r1, r2⟩
  · exact Or.inl r
  · obtain ⟨-, -, -, -, -, -, -, -, -, -, -, -, -, -, -, -, -, s30, -⟩ := hT.2.2.2 (cdp μ p t 2)
    have h3 := crf_g.1 h2
    exact Or.inr ⟨r1, crf_g.2 ⟨by rw [r2]; exact h3.1, (s30 r1).2.1⟩⟩
/-- frames -/
def RFa (μ : M3) (hh cc dd : Int → Int → Int) (n k : Int) : Prop := (1 ≤ n ∧ n ≤ 24) ∧ (∀ i, 0 ≤ i → i < n → 0 ≤ μ.1 53 i ∧ μ.1 53 i ≤ 3 ∧ μ.1 56 i ≤ 9002 * (i + 1) ∧ 0 ≤ μ.1 59 i ∧ μ.1 59 i ≤ 16 * i) ∧ (∀ i, 0 ≤ i → i + 1 < n → -1000000 ≤ μ.1 57 (i + 1) ∧ μ.1 57 (i + 1) + 1 ≤ max (μ.1 56 i) 0 + hh (μ.1 53 i) (μ.1 58 (i + 1) + 1) ∧ 0 ≤ μ.1 58 (i + 1) ∧ μ.1 58 (i + 1) ≤ 10000 + k ∧ cc (μ.1 53 i) (μ.1 58 (i + 1) + 1) = 0 ∧ μ.1 59 (i + 1) = μ.1 59 i + dd (μ.1 53 i) (μ.1 58 (i + 1) + 1))
/-- guards -/
def RFg (μ : M3) (cc dd : Int → Int → Int) (n : Int) : Prop := ∀ i j, 0 ≤ i → i < n → μ.1 59 i ≤ j → j < μ.1 60 6 → (i + 1 < n → j < μ.1 59 (i + 1)) → gok μ (μ.1 12 (μ.1 53 i)) (crf μ cc dd i) j (μ.1 61 j) (μ.1 62 j) ∧ (μ.1 53 i = 1 → μ.1 61 j = 2)
theorem RFa.sub {μ ν : M3} {hh cc dd : Int → Int → Int} {n k m k2 : Int} (h : RFa μ hh cc dd n k) (e3 : ∀ j, j < n → ν.1 53 j = μ.1 53 j) (e6 : ∀ j, j < n → ν.1 56 j = μ.1 56 j) (e7 : ∀ j, j < n → ν.1 57 j = μ.1 57 j) (e8 : ∀ j, j < n → ν.1 58 j = μ.1 58 j) (e9 : ∀ j, j < n → ν.1 59 j = μ.1 59 j) (h1 : 1 ≤ m) (hm : m ≤ n) (hk : k ≤ k2) : RFa ν hh cc dd m k2 := by
  obtain ⟨a, b, c⟩ := h
  refine ⟨⟨h1, by omega⟩, fun i h0 hi => ?_, fun i h0 hi => ?_⟩
  · rw [e3 i (by omega), e6 i (by omega), e9 i (by omega)]; exact b i h0 (by omega)
  · rw [e3 i (by omega), e6 i (by omega), e7 _ (by omega), e8 _ (by omega), e9 (i + 1) (by omega), e9 i (by omega)]
    have := c i h0 (by omega)
    exact ⟨this.1, this.2.1, this.2.2.1, by omega, this.2.2.2.2.1, this.2.2.2.2.2⟩
theorem RFa.push {μ ν : M3} {hh cc dd : Int → Int → Int} {n k k2 : Int} (h : RFa μ hh cc dd n k) (e3 : ∀ j, j ≠ n → ν.1 53 j = μ.1 53 j) (e6 : ∀ j, j ≠ n → ν.1 56 j = μ.1 56 j) (e7 : ∀ j, j ≠ n → ν.1 57 j = μ.1 57 j) (e8 : ∀ j, j ≠ n → ν.1 58 j = μ.1 58 j) (e9 : ∀ j, j ≠ n → ν.1 59 j = μ.1 59 j) (hn : n < 24) (hk : k ≤ k2)
    (a1 : 0 ≤ ν.1 53 n ∧ ν.1 53 n ≤ 3 ∧ ν.1 56 n ≤ 9002 * (n + 1) ∧ 0 ≤ ν.1 59 n ∧ ν.1 59 n ≤ 16 * n) (a2 : -1000000 ≤ ν.1 57 n ∧ ν.1 57 n + 1 ≤ max (μ.1 56 (n - 1)) 0 + hh (μ.1 53 (n - 1)) (ν.1 58 n + 1) ∧ 0 ≤ ν.1 58 n ∧ ν.1 58 n ≤ 10000 + k2 ∧ cc (μ.1 53 (n - 1)) (ν.1 58 n + 1) = 0 ∧ ν.1 59 n = μ.1 59 (n - 1) + dd (μ.1 53 (n - 1)) (ν.1 58 n + 1)) : RFa ν hh cc dd (n + 1) k2 := by
  obtain ⟨a, b, c⟩ := h
  refine ⟨⟨by omega, by omega⟩, fun i h0 hi => ?_, fun i h0 hi => ?_⟩
  · by_cases hin : i = n
    · rw [hin]; exact a1
    · rw [e3 i hin, e6 i hin, e9 i hin]; exact b i h0 (by omega)
  · by_cases hin : i + 1 = n
    · have : i = n - 1 := by omega
      rw [hin, e3 i (by omega), e6 i (by omega), e9 i (by omega), this]; exact a2
    · rw [e3 i (by omega), e6 i (by omega), e7 _ hin, e8 _ hin, e9 _ hin, e9 i (by omega)]
      have := c i h0 (by omega)
      exact ⟨this.1, this.2.1, this.2.2.1, by omega, this.2.2.2.2.1, this.2.2.2.2.2⟩
theorem RFa.mono {μ : M3} {hh cc dd : Int → Int → Int} {n k i j : Int} (h : RFa μ hh cc dd n k) (h0 : 0 ≤ i) (hij : i ≤ j) (hj : j < n) (hd : ∀ t, 0 ≤ t → t ≤ 3 → ∀ x, 0 ≤ dd t x) : μ.1 59 i ≤ μ.1 59 j := by
  obtain ⟨m, hm⟩ : ∃ m : Nat, j = i + m := ⟨(j - i).toNat, by omega⟩
  subst hm
  induction m with
  | zero => simp
  | succ m ih =>
    have h1 := ih (by omega) (by omega)
    have h2 := (h.2.2 (i + m) (by omega) (by omega)).2.2.2.2.2
    have h3 := h.2.1 (i + m) (by omega) (by omega)
    have h4 := hd _ h3.1 h3.2.1 (μ.1 58 (i + m + 1) + 1)
    have e : i + ((m + 1 : Nat) : Int) = i + m + 1 := by omega
    rw [e]; omega
theorem TA.d0 {μ : M3} {hh cc dd : Int → Int → Int} (hT : TA μ hh cc dd) : ∀ t, 0 ≤ t → t ≤ 3 → ∀ x, 0 ≤ dd t x := fun t h0 h3 x => ((hT t h0 h3).2.1 x).2.2.2.2.1
theorem gok_5 {μ : M3} {p j t : Int} {c : Int → Int → Int} : gok μ p c j 5 t := ⟨⟨fun h => absurd h (by decide), fun _ _ h => absurd rfl h⟩, fun h => absurd h (by decide)⟩
theorem RFg.sub {L : List Int} {μ ν : M3} {hh cc dd : Int → Int → Int} {n m k : Int} (h : RFg μ cc dd n) (hA : RFa μ hh cc dd n k) (hT : TA μ hh cc dd) (F : Fr L μ ν) (hL : npL L = true) (e3 : ∀ j, j < n → ν.1 53 j = μ.1 53 j) (e9 : ∀ j, j < n → ν.1 59 j = μ.1 59 j) (g2 : ∀ j, ν.1 62 j = μ.1 62 j) (g1 : ∀ j, ν.1 61 j = μ.1 61 j ∨ (ν.1 61 j = 5 ∧ μ.1 61 j = 4)) (hm : m ≤ n) (hg : ν.1 60 6 ≤ μ.1 60 6) (hgm : m < n → ν.1 60 6 ≤ μ.1 59 m) : RFg ν cc dd m := by
  intro i j h0 hi h9 h6 hn
  rw [e9 i (by omega)] at h9
  have t := hA.2.1 i h0 (by omega)
  have q := h i j h0 (by omega) h9 (by omega) (fun hlt => by
    by_cases hmi : i + 1 < m
    · have := hn hmi
      rw [e9 _ (by omega)] at this; exact this
    · have hme : i + 1 = m := by omega
      have := hgm (by omega)
      rw [hme]; omega)
  have hp := (hT _ t.1 t.2.1).1
  rw [crf_eq (e3 i (by omega)) (e9 i (by omega)), e3 i (by omega), F.1 12 (npL_12 hL), g2]
  rcases g1 j with g | ⟨g, g4⟩
  · rw [g]; exact ⟨q.1.fr F hp hL, q.2⟩
  · rw [g]; exact ⟨gok_5, fun h1 => absurd (q.2 h1) (by omega)⟩
theorem RFg.push {L : List Int} {μ ν : M3} {hh cc dd : Int → Int → Int} {n k : Int} (h : RFg μ cc dd n) (hA : RFa μ hh cc dd n k) (hT : TA μ hh cc dd) (F : Fr L μ ν) (hL : npL L = true) (e3 : ∀ j, j ≠ n → ν.1 53 j = μ.1 53 j) (e9 : ∀ j, j ≠ n → ν.1 59 j = μ.1 59 j) (g1 : ∀ j, ν.1 61 j = μ.1 61 j) (g2 : ∀ j, ν.1 62 j = μ.1 62 j) (hg : ν.1 60 6 = μ.1 60 6) (hn : ν.1 59 n = μ.1 60 6) : RFg ν cc dd (n + 1) := by
  intro i j h0 hi h9 h6 hj
  by_cases hin : i = n
  · rw [hin, hn] at h9; omega
  rw [e9 i hin] at h9
  have t := hA.2.1 i h0 (by omega)
  have q := h i j h0 (by omega) h9 (by omega) (fun hlt => by
    have := hj (by omega)
    rw [e9 _ (by omega)] at this; exact this)
  have hp := (hT _ t.1 t.2.1).1
  rw [crf_eq (e3 i hin) (e9 i hin), e3 i hin, F.1 12 (npL_12 hL), g2, g1]
  exact ⟨q.1.fr F hp hL, q.2⟩
/-- the bottom of the invariant -/
def RB (μ : M3) (hh cc dd : Int → Int → Int) (k : Int) : Prop := TA μ hh cc dd ∧ vrk μ ∧ (0 ≤ k ∧ k ≤ 20000000) ∧ (0 ≤ μ.1 70 2 ∧ μ.1 70 2 ≤ 5000 ∧ 0 ≤ μ.1 70 8 ∧ μ.1 70 8 ≤ 80000 ∧ μ.1 45 1 ≤ μ.1 70 2)
def RN (μ : M3) (hh cc dd : Int → Int → Int) (k : Int) : Prop := RFa μ hh cc dd (μ.1 52 7) k ∧ RFg μ cc dd (μ.1 52 7) ∧ μ.1 32 10 = μ.1 12 (μ.1 53 (μ.1 52 7 - 1)) ∧ μ.1 59 (μ.1 52 7 - 1) ≤ μ.1 60 6 ∧ μ.1 45 4 + μ.1 60 6 ≤ 2 * μ.1 70 2
def GO (μ : M3) (hh cc dd : Int → Int → Int) (k a : Int) : Prop := μ.1 33 3 ≤ max (μ.1 56 (μ.1 52 7 - 1)) 0 + hh (μ.1 53 (μ.1 52 7 - 1)) a ∧ 0 ≤ a ∧ a ≤ 10000 + k ∧ μ.1 60 6 = μ.1 59 (μ.1 52 7 - 1) + dd (μ.1 53 (μ.1 52 7 - 1)) a ∧ μ.1 45 4 + μ.1 60 6 + cc (μ.1 53 (μ.1 52 7 - 1)) a ≤ 2 * μ.1 70 2
def RI (μ : M3) (hh cc dd : Int → Int → Int) (k : Int) : Prop := RB μ hh cc dd k ∧ (μ.1 32 13 ≠ 4 → RN μ hh cc dd k ∧ (μ.1 32 13 = 0 → GO μ hh cc dd k (μ.1 32 12)) ∧ ((μ.1 32 13 = 1 ∨ μ.1 32 13 = 3) → μ.1 33 3 ≤ 230000) ∧ (μ.1 32 13 = 2 → μ.1 53 (μ.1 52 7 - 1) = 1 ∧ μ.1 33 3 + 1 ≤ max (μ.1 56 (μ.1 52 7 - 1)) 0 + hh (μ.1 53 (μ.1 52 7 - 1)) (μ.1 32 12) ∧ 0 ≤ μ.1 32 12 ∧ μ.1 32 12 ≤ 10000 + k ∧ μ.1 60 6 = μ.1 59 (μ.1 52 7 - 1) + dd (μ.1 53 (μ.1 52 7 - 1)) (μ.1 32 12) ∧ cc (μ.1 53 (μ.1 52 7 - 1)) (μ.1 32 12) = 0) ∧ (0 ≤ μ.1 32 13 ∧ μ.1 32 13 ≤ 4))
def RG (μ : M3) (hh cc dd : Int → Int → Int) (k : Int) : Prop := RB μ hh cc dd k ∧ RN μ hh cc dd k ∧ GO μ hh cc dd k (μ.1 32 11) ∧ μ.1 32 12 = μ.1 32 11 + 1 ∧ μ.1 32 13 = 0
theorem RB.fr {L : List Int} {μ ν : M3} {hh cc dd : Int → Int → Int} {k k2 : Int} (h : RB μ hh cc dd k) (F : Fr L μ ν) (hL : npL L = true) (hk : k ≤ k2 ∧ k2 ≤ 20000000) (hs : μ.1 70 2 ≤ ν.1 70 2 ∧ ν.1 70 2 ≤ 5000 ∧ 0 ≤ ν.1 70 8 ∧ ν.1 70 8 ≤ 80000 ∧ ν.1 45 1 ≤ ν.1 70 2) : RB ν hh cc dd k2 :=
  ⟨h.1.fr F hL, h.2.1.fr F hL, ⟨by have := h.2.2.1; omega, hk.2⟩, by have := h.2.2.2; omega, hs.2⟩
theorem RI.at_ {μ ν : M3} {hh cc dd : Int → Int → Int} {k : Int} (h : RI ν hh cc dd k) (h0 : ν.1 32 13 = 0) (F : Fr [32] ν μ) (e10 : μ.1 32 10 = ν.1 32 10) (e13 : μ.1 32 13 = 0) (e11 : μ.1 32 11 = ν.1 32 12) (e12 : μ.1 32 12 = ν.1 32 12 + 1) : RG μ hh cc dd k := by
  have f := fun a (ha : a ∉ [(32 : Int)]) j => F.1 a ha j
  obtain ⟨hB, hN⟩ := h
  obtain ⟨⟨n1, n2, n3, n4, n5⟩, n6, -, -, -⟩ := hN (by omega)
  have e52 := f 52 (by decide) 7
  have e60 := f 60 (by decide) 6
  refine ⟨hB.fr F (by decide) ⟨by omega, hB.2.2.1.2⟩ (by have := hB.2.2.2; rw [f 70 (by decide), f 70 (by decide), f 45 (by decide)]; omega), ⟨?_, ?_, ?_, ?_, ?_⟩, ?_, by omega, e13⟩
  · rw [e52]; exact n1.sub (fun j _ => f 53 (by decide) j) (fun j _ => f 56 (by decide) j) (fun j _ => f 57 (by decide) j) (fun j _ => f 58 (by decide) j) (fun j _ => f 59 (by decide) j) n1.1.1 (by omega) (by omega)
  · rw [e52]; exact n2.sub n1 hB.1 F (by decide) (fun j _ => f 53 (by decide) j) (fun j _ => f 59 (by decide) j) (f 62 (by decide)) (fun j => Or.inl (f 61 (by decide) j)) (by omega) (by omega) (fun h => absurd h (by omega))
  · rw [e52, e10, f 53 (by decide), f 12 (by decide)]; exact n3
  · rw [e52, e60, f 59 (by decide)]; exact n4
  · rw [e60, f 45 (by decide), f 70 (by decide)]; exact n5
  · have g := n6 h0
    unfold GO
    rw [e52, e60, e11, f 33 (by decide), f 56 (by decide), f 53 (by decide), f 59 (by decide), f 45 (by decide), f 70 (by decide)]; exact g

/-- what the calls of the turn ask -/
theorem RG.ask {μ : M3} {hh cc dd : Int → Int → Int} {k P A : Int} (h : RG μ hh cc dd k) (hP : P = μ.1 32 10) (hA : A = μ.1 32 11) : μ.1 33 3 ≤ 230000 ∧ vrk μ ∧ (0 ≤ μ.1 70 2 ∧ μ.1 70 2 ≤ 5000 ∧ 0 ≤ μ.1 70 8 ∧ μ.1 70 8 ≤ 80000 ∧ μ.1 45 1 ≤ μ.1 70 2) ∧ (cdp μ P A 0 = 13 ∨ cdp μ P A 0 = 14 → 0 ≤ cdp μ P A 1 ∧ cdp μ P A 1 ≤ 400000) ∧ (cdp μ P A 0 = 26 → 0 ≤ cdp μ P A 2 ∧ cdp μ P A 2 ≤ 100000) := by
  obtain ⟨hB, ⟨n1, n2, n3, n4, n5⟩, hG, -, -⟩ := h
  have t := n1.2.1 (μ.1 52 7 - 1) (by have := n1.1; omega) (by omega)
  have hp := hB.1 _ t.1 t.2.1
  rw [← n3, ← hP] at hp
  have hr := hp.2.1 (μ.1 32 11)
  rw [← hA] at hr
  obtain ⟨-, -, -, -, -, -, r13, r14, -, -, -, -, -, r26, -⟩ := hp.2.2.2.2 A
  refine ⟨by have h9 := hG.1; have := n1.1; rw [← hA] at h9; omega, hB.2.1, hB.2.2.2, fun h => ?_, fun h => ?_⟩
  · rcases h with h | h
    · have := r13 h; exact ⟨this.1, this.2.1⟩
    · have := r14 h; exact ⟨this.1, this.2.1⟩
  · have := r26 h; exact ⟨this.1, this.2.1⟩
theorem RG.work {μ ν : M3} {hh cc dd : Int → Int → Int} {k S n P A : Int} (h : RG μ hh cc dd k) (hk : k < 20000000) (ho : cdp μ P A 0 < 19) (hS : S = μ.1 33 3) (hn : n = μ.1 52 7) (hP : P = μ.1 32 10) (hA : A = μ.1 32 11) (F : Fr [70, 32, 33, 34, 35, 36, 45, 46, 47, 48, 49, 50, 37, 38, 39, 40, 53, 54, 55, 56, 57, 58, 59, 52] μ ν)
    (h0 : (ν.1 52 7 = n ∧ ν.1 32 13 = 0 ∧ ν.1 33 3 ≤ hup (cdp μ P A 0) (cdp μ P A 1) S ∧ ν.1 32 12 = μ.1 32 12 ∧ ν.1 32 10 = P) ∨ (ν.1 52 7 = n ∧ ν.1 33 3 ≤ S + 1 ∧ (ν.1 32 13 = 1 ∨ ν.1 32 13 = 3 ∨ ν.1 32 13 = 4) ∧ ν.1 32 10 = P) ∨ (n < 24 ∧ ν.1 52 7 = n + 1 ∧ ν.1 32 13 = 0 ∧ 0 ≤ ν.1 53 n ∧ ν.1 53 n ≤ 3 ∧ ν.1 56 n ≤ S + 1000 ∧ -200000 ≤ ν.1 57 n ∧ ν.1 57 n + 1 ≤ hup (cdp μ P A 0) (cdp μ P A 1) S ∧ ν.1 58 n = A ∧ ν.1 59 n = μ.1 60 6 ∧ ν.1 33 3 = max (ν.1 56 n) 0))
    (h1 : ν.1 52 7 = n + 1 → (stt μ (ν.1 53 n) (ν.1 32 12) ∧ ν.1 32 10 = μ.1 12 (ν.1 53 n) ∧ (cdp μ P A 0 = 13 ∨ cdp μ P A 0 = 14))) (h2 : μ.1 70 2 ≤ ν.1 70 2 ∧ ν.1 70 2 ≤ 5000 ∧ 0 ≤ ν.1 70 8 ∧ ν.1 70 8 ≤ 80000 ∧ ν.1 45 1 ≤ ν.1 70 2) (h3 : cdp μ P A 0 = 1 → ν.1 32 13 = 0 → ν.1 70 2 = μ.1 70 2 + 1)
    (e3 : ∀ j, j ≠ n → ν.1 53 j = μ.1 53 j) (e6 : ∀ j, j ≠ n → ν.1 56 j = μ.1 56 j) (e7 : ∀ j, j ≠ n → ν.1 57 j = μ.1 57 j) (e8 : ∀ j, j ≠ n → ν.1 58 j = μ.1 58 j) (e9 : ∀ j, j ≠ n → ν.1 59 j = μ.1 59 j) (h45 : ν.1 45 4 = μ.1 45 4) : RI ν hh cc dd (k + 1) := by
  obtain ⟨hB, ⟨n1, n2, n3, n4, n5⟩, hG, h12, -⟩ := h
  have hL : npL [70, 32, 33, 34, 35, 36, 45, 46, 47, 48, 49, 50, 37, 38, 39, 40, 53, 54, 55, 56, 57, 58, 59, 52] = true := by decide
  have e60 : ν.1 60 6 = μ.1 60 6 := F.1 60 (by decide) 6
  have g1 : ∀ j, ν.1 61 j = μ.1 61 j := fun j => F.1 61 (by decide) j
  have g2 : ∀ j, ν.1 62 j = μ.1 62 j := fun j => F.1 62 (by decide) j
  have e12 : ∀ j, ν.1 12 j = μ.1 12 j := fun j => F.1 12 (by decide) j
  rw [← hn] at n1 n2 n3 n4
  unfold GO at hG
  rw [← hn, ← hS, ← hA] at hG
  rw [← hP] at n3
  have hn1 := n1.1
  have t := n1.2.1 (n - 1) (by omega) (by omega)
  have hp := hB.1 _ t.1 t.2.1
  rw [← n3] at hp
  have hT := hp.2
  have hb0 := hT.1 A
  have hb1 := hT.1 (A + 1)
  have hup := hT.up (i := A) (S := S) (f := max (μ.1 56 (n - 1)) 0) (by omega) (by omega) ho
  obtain ⟨r1, r2, -, -, -, -, -, -, r9, -⟩ := hT.2.2.2 A
  replace r1 := fun _ : Unit => r1
  replace r2 := fun _ : Unit => r2
  replace r9 := fun _ : Unit => r9
  replace h0 := fun _ : Unit => h0
  replace h1 := fun _ : Unit => h1
  replace h3 := fun _ : Unit => h3
  have hk0 := hB.2.2.1
  have hB2 := hB.fr F hL (k2 := k + 1) ⟨by omega, by omega⟩ h2
  have key : ν.1 52 7 = n → ν.1 32 10 = P → RN ν hh cc dd (k + 1) := by
    intro hnn hPP
    have f3 : ∀ j, j < n → ν.1 53 j = μ.1 53 j := fun j hj => e3 j (by omega)
    have f9 : ∀ j, j < n → ν.1 59 j = μ.1 59 j := fun j hj => e9 j (by omega)
    refine ⟨?_, ?_, ?_, ?_, ?_⟩
    · rw [hnn]; exact n1.sub f3 (fun j hj => e6 j (by omega)) (fun j hj => e7 j (by omega)) (fun j hj => e8 j (by omega)) f9 (by omega) (by omega) (by omega)
    · rw [hnn]; exact n2.sub n1 hB.1 F hL f3 f9 g2 (fun j => Or.inl (g1 j)) (by omega) (by omega) (fun h => absurd h (by omega))
    · rw [hnn, hPP, f3 _ (by omega), e12]; exact n3
    · rw [hnn, e60, f9 _ (by omega)]; exact n4
    · rw [e60, h45]; omega
  rcases h0 () with ⟨w1, w2, w3, w4, w5⟩ | ⟨w1, w2, w3, w4⟩ | ⟨w0, w1, w2, w3, w4, w5, w6, w7, w8, w9, w10⟩
  · refine ⟨hB2, fun _ => ⟨key w1 w5, fun _ => ?_, fun h => absurd h (by omega), fun h => absurd h (by omega), by omega⟩⟩
    unfold GO
    rw [w1, e60, e6 _ (by omega), e3 _ (by omega), e9 _ (by omega), h45, w4, h12, ← hA]
    refine ⟨by omega, by omega, by omega, ?_, ?_⟩
    · by_cases o1 : cdp μ P A 0 < 1
      · rw [(r1 () (Or.inl o1)).2.2]; exact hG.2.2.2.1
      by_cases o2 : cdp μ P A 0 = 1
      · rw [(r2 () o2).2]; exact hG.2.2.2.1
      · rw [(r9 () (Or.inl ⟨by omega, by omega⟩)).2]; exact hG.2.2.2.1
    · by_cases o1 : cdp μ P A 0 < 1
      · have := (r1 () (Or.inl o1)).2.1; omega
      by_cases o2 : cdp μ P A 0 = 1
      · have := h3 () o2 w2; omega
      · have := (r9 () (Or.inl ⟨by omega, by omega⟩)).1; omega
  · refine ⟨hB2, fun h4 => ⟨key w1 w4, fun h => absurd h (by omega), fun _ => by omega, fun h => absurd h (by omega), by omega⟩⟩
  · obtain ⟨s1, s2, s3⟩ := h1 () w1
    have hT2 := (hB.1 _ w3 w4).2
    have gt : gtc (cc (ν.1 53 n)) (ν.1 32 12) ∧ dd (ν.1 53 n) (ν.1 32 12) = 0 := by
      rcases s1 with s1 | ⟨f, f1, f2, f3⟩
      · rw [s1]; exact hT2.2.1
      · rw [f3]; exact hT2.2.2.1 f f1 f2
    have rA := r9 () (Or.inl ⟨by omega, by omega⟩)
    have hbp := hT2.1 (ν.1 32 12)
    have nn : n + 1 - 1 = n := by omega
    have a60 : 0 ≤ ν.1 59 n ∧ ν.1 59 n ≤ 16 * n := by rw [w9]; omega
    refine ⟨hB2, fun _ => ⟨⟨?_, ?_, ?_, ?_, ?_⟩, fun _ => ?_, fun h => absurd h (by omega), fun h => absurd h (by omega), by omega⟩⟩
    · rw [w1]
      exact n1.push e3 e6 e7 e8 e9 w0 (by omega) ⟨w3, w4, by omega, a60.1, a60.2⟩ ⟨by omega, by rw [w8]; omega, by omega, by omega, by rw [w8]; exact rA.1, by rw [w8, rA.2, w9]; exact hG.2.2.2.1⟩
    · rw [w1]
      exact n2.push n1 hB.1 F hL e3 e9 g1 g2 e60 w9
    · rw [w1, nn, s2, e12]
    · rw [w1, nn, e60, w9]; omega
    · rw [e60, h45]; omega
    · unfold GO
      rw [w1, nn, e60, h45, w9, gt.2, gt.1.1, w10]
      have := gt.1.2
      exact ⟨by omega, by omega, by omega, by omega, by omega⟩
theorem RG.go {μ ν : M3} {hh cc dd : Int → Int → Int} {k S P A g : Int} (h : RG μ hh cc dd k) (hk : k < 20000000) (ho : ¬ cdp μ P A 0 < 19) (hS : S = μ.1 33 3) (hP : P = μ.1 32 10) (hA : A = μ.1 32 11) (hg : g = μ.1 60 6) (F : Fr [32, 33, 34, 35, 36, 70, 45, 46, 47, 48, 49, 50, 41, 42, 43, 44, 61, 63, 62, 64, 65, 60, 66, 67, 68, 69] μ ν)
    (h0 : (ν.1 32 13 = 0 ∧ ν.1 32 12 = μ.1 32 12 ∧ gfall (cdp μ P A 0) S (ν.1 33 3) (ofF μ 53)) ∨ (ν.1 32 13 = 0 ∧ ν.1 32 12 = cdp μ P A 1 ∧ gjump (cdp μ P A 0) (cdp μ P A 2) S (ν.1 33 3)) ∨ (ν.1 33 3 ≤ S + 1 ∧ (ν.1 32 13 = 1 ∨ ν.1 32 13 = 3 ∨ ν.1 32 13 = 4)))
    (h1 : (cdp μ P A 0 = 28 ∧ ((g < 400 ∧ ν.1 60 6 = g + 1 ∧ ν.1 61 g = (cdp μ P A 2).tdiv 64 ∧ ν.1 62 g = cdp μ P A 1) ∨ (400 ≤ g ∧ ν.1 60 6 = g))) ∨ ((cdp μ P A 0 = 29 ∨ cdp μ P A 0 = 32) ∧ ν.1 60 6 = max (g - 1) 0) ∨ (cdp μ P A 0 ≠ 28 ∧ cdp μ P A 0 ≠ 29 ∧ cdp μ P A 0 ≠ 32 ∧ ν.1 60 6 = g))
    (h2 : ∀ j, 0 ≤ j → j ≠ g → (ν.1 61 j = μ.1 61 j ∨ (ν.1 61 j = 5 ∧ cdp μ P A 0 = 31 ∧ j = g - 1))) (h3 : ∀ j, j ≠ g → ν.1 62 j = μ.1 62 j) (h4 : μ.1 70 2 ≤ ν.1 70 2 ∧ ν.1 70 2 ≤ 5000 ∧ 0 ≤ ν.1 70 8 ∧ ν.1 70 8 ≤ 80000 ∧ ν.1 45 1 ≤ ν.1 70 2) (h10 : ν.1 32 10 = μ.1 32 10) (h45 : ν.1 45 4 = μ.1 45 4) : RI ν hh cc dd (k + 1) := by
  obtain ⟨hB, ⟨n1, n2, n3, n4, n5⟩, hG, h12, -⟩ := h
  have hL : npL [32, 33, 34, 35, 36, 70, 45, 46, 47, 48, 49, 50, 41, 42, 43, 44, 61, 63, 62, 64, 65, 60, 66, 67, 68, 69] = true := by decide
  have e12 : ∀ j, ν.1 12 j = μ.1 12 j := fun j => F.1 12 (by decide) j
  have e3 : ∀ j, ν.1 53 j = μ.1 53 j := fun j => F.1 53 (by decide) j
  have e6 : ∀ j, ν.1 56 j = μ.1 56 j := fun j => F.1 56 (by decide) j
  have e9 : ∀ j, ν.1 59 j = μ.1 59 j := fun j => F.1 59 (by decide) j
  have e52 : ν.1 52 7 = μ.1 52 7 := F.1 52 (by decide) 7
  generalize hn : μ.1 52 7 = n at *
  have hn1 := n1.1
  have hoF : ofF μ 53 = μ.1 53 (n - 1) := ofF_at hn (by omega)
  rw [hoF] at h0
  unfold GO at hG
  rw [hn, ← hS, ← hA] at hG
  rw [← hP] at n3
  rw [← hg] at n4 n5 hG
  have t := n1.2.1 (n - 1) (by omega) (by omega)
  have hp := hB.1 _ t.1 t.2.1
  rw [← n3] at hp
  have hT := hp.2
  have hb0 := hT.1 A
  obtain ⟨r1, -, -, -, -, -, -, -, r9, r19, r20, -, -, r26, r27, r28, r29, r30, r31⟩ := hT.2.2.2 A
  replace r1 := fun _ : Unit => r1
  replace r9 := fun _ : Unit => r9
  replace r28 := fun _ : Unit => r28
  replace r29 := fun _ : Unit => r29
  replace r31 := fun _ : Unit => r31
  clear r19 r20 r26 r27 r30
  replace h0 := fun _ : Unit => h0
  replace h1 := fun _ : Unit => h1
  have hk0 := hB.2.2.1
  have hB2 := hB.fr F hL (k2 := k + 1) ⟨by omega, by omega⟩ h4
  have hg0 : Unit → μ.1 59 (n - 1) ≤ ν.1 60 6 ∧ ν.1 60 6 ≤ g + 1 ∧ (cdp μ P A 0 ≠ 28 → ν.1 60 6 ≤ g) ∧ ((cdp μ P A 0 = 29 ∨ cdp μ P A 0 = 32) → ν.1 60 6 = g - 1) ∧ (cdp μ P A 0 = 28 → ν.1 60 6 = g + 1) ∧ (cdp μ P A 0 ≠ 28 → cdp μ P A 0 ≠ 29 → cdp μ P A 0 ≠ 32 → ν.1 60 6 = g) := by
    intro _
    rcases h1 () with ⟨q, ⟨q1, q2, q3, q4⟩ | ⟨q1, q2⟩⟩ | ⟨q, q1⟩ | ⟨q, q1, q2, q3⟩
    · exact ⟨by omega, by omega, fun h => absurd q h, fun h => by omega, fun _ => q2, fun h => absurd q h⟩
    · exact absurd q1 (by omega)
    · have := (r29 () q).2.1
      exact ⟨by omega, by omega, fun h => by omega, fun h => by omega, fun h => by omega, fun _ _ _ => by omega⟩
    · exact ⟨by omega, by omega, fun h => by omega, fun h => by omega, fun h => by omega, fun _ _ _ => q3⟩
  have rn : ν.1 45 4 + ν.1 60 6 ≤ 2 * ν.1 70 2 → RN ν hh cc dd (k + 1) := by
    intro hly
    refine ⟨?_, ?_, ?_, ?_, hly⟩
    · rw [e52]; exact n1.sub (fun j _ => e3 j) (fun j _ => e6 j) (fun j _ => F.1 57 (by decide) j) (fun j _ => F.1 58 (by decide) j) (fun j _ => e9 j) (by omega) (by omega) (by omega)
    · rw [e52]
      intro i j hi0 hi h9 h6 hj
      rw [e9] at h9
      rw [e9] at hj
      have ti := n1.2.1 i hi0 hi
      rw [crf_eq (e3 i) (e9 i), e3, e12]
      have hpi := hB.1 _ ti.1 ti.2.1
      by_cases hjg : j = g
      · -- the new one
        have o28 : cdp μ P A 0 = 28 := by
          by_cases h28 : cdp μ P A 0 = 28
          · exact h28
          · have := (hg0 ()).2.2.1 h28; omega
        have hin : i = n - 1 := by
          by_cases hlt : i + 1 < n
          · have h5 := hj hlt
            have h7 := n1.2.1 (i + 1) (by omega) hlt
            exact absurd h5 (by have h8 := n1.mono (i := i + 1) (j := n - 1) (by omega) (by omega) (by omega) hB.1.d0; omega)
          · omega
        rcases h1 () with ⟨q, ⟨q1, q2, q3, q4⟩ | ⟨q1, q2⟩⟩ | ⟨q, q1⟩ | ⟨q, q1, q2, q3⟩
        · rw [hjg, q3, q4, hin, ← n3]
          obtain ⟨z1, z2, z3, z4, z5, z6, z7⟩ := r28 () o28
          refine ⟨⟨⟨fun hk1 => ?_, fun k1 k4 _ => crf_g.2 ⟨by have := (z6 k1 k4).2; omega, (z6 k1 k4).1⟩⟩, fun k4 => crf_g.2 ⟨by have := (z5 k4).2; omega, (z5 k4).1⟩⟩, z7⟩
          have z := z4 hk1
          obtain ⟨-, -, -, -, -, -, -, -, -, -, -, -, -, -, -, -, -, s30, -⟩ := hT.2.2.2 (cdp μ P A 1)
          refine Or.inr ⟨?_, crf_g.2 ⟨by have := z.2; omega, (s30 z.1).2.1⟩⟩
          rw [cdp_fr F (npL_p hL hp.1).1 (npL_p hL hp.1).2.1]; exact z.1
        · exact absurd q1 (by omega)
        · exact absurd o28 (by omega)
        · exact absurd o28 (by omega)
      · have hq := n2 i j hi0 hi h9 (by rw [← hg]; have := (hg0 ()).2.1; omega) hj
        rw [h3 j hjg]
        rcases h2 j (by omega) hjg with u | ⟨u, u1, u2⟩
        · rw [u]; exact ⟨hq.1.fr F hpi.1 hL, hq.2⟩
        · rw [u]
          refine ⟨gok_5, fun h1t => ?_⟩
          have z := r31 () u1
          have hin : i = n - 1 := by
            by_cases hlt : i + 1 < n
            · have h5 := hj hlt
              exact absurd h5 (by have h8 := n1.mono (i := i + 1) (j := n - 1) (by omega) (by omega) (by omega) hB.1.d0; omega)
            · omega
          rw [hin] at h1t
          exact absurd h1t z.1
    · rw [e52, h10, e3, e12, ← hP]; exact n3
    · rw [e52, e9]; exact (hg0 ()).1
  have hfl := t.2.2.1
  rcases h0 () with ⟨w1, w2, w3⟩ | ⟨w1, w2, w3⟩ | ⟨w1, w2⟩
  · have hf := hT.fall (i := A) (S := S) (f := max (μ.1 56 (n - 1)) 0) (by omega) (by omega) ho w3
    obtain ⟨f1, f2, f3, f4, f5, f6⟩ := w3
    have hf6 : cdp μ P A 0 ≠ 23 ∧ cdp μ P A 0 ≠ 25 := by
      obtain ⟨-, -, -, -, -, -, -, -, -, -, -, r23, r24, -⟩ := hT.2.2.2 A
      rcases f6 with ⟨q1, q2⟩ | ⟨q1, q2, -⟩
      · rcases q2 with q | q | q
        · exact absurd q1 (r23 (Or.inl q))
        · exact absurd q1 (r24 q).1
        · exact absurd q1 (r23 (Or.inr q))
      · exact ⟨q1, q2⟩
    have hcd : dd (μ.1 53 (n - 1)) (A + 1) = dd (μ.1 53 (n - 1)) A + (if cdp μ P A 0 = 28 then 1 else 0) ∧ cc (μ.1 53 (n - 1)) (A + 1) + (if cdp μ P A 0 = 28 then 1 else 0) ≤ cc (μ.1 53 (n - 1)) A := by
      by_cases o28 : cdp μ P A 0 = 28
      · rw [if_pos o28]; have := r28 () o28; exact ⟨this.2.2.1, this.2.1⟩
      rw [if_neg o28]
      by_cases oo : 32 < cdp μ P A 0
      · have := r1 () (Or.inr oo); exact ⟨by omega, by omega⟩
      · have := r9 () (by omega); exact ⟨by omega, by omega⟩
    have hcnt : ν.1 60 6 = g + (if cdp μ P A 0 = 28 then 1 else 0) := by
      by_cases o28 : cdp μ P A 0 = 28
      · rw [if_pos o28]; exact (hg0 ()).2.2.2.2.1 o28
      · rw [if_neg o28]; have := (hg0 ()).2.2.2.2.2 o28 (by omega) (by omega); omega
    have hb1 := hT.1 (A + 1)
    refine ⟨hB2, fun _ => ⟨rn (by omega), fun _ => ?_, fun h => absurd h (by omega), fun h => absurd h (by omega), by omega⟩⟩
    unfold GO
    rw [e52, e6, e3, e9, h45, w2, h12, ← hA]
    exact ⟨by omega, by omega, by omega, by omega, by omega⟩
  · obtain ⟨j1, j2, j3⟩ := hT.jump (i := A) (S := S) (f := max (μ.1 56 (n - 1)) 0) (by omega) (by omega) w3
    have o28 : cdp μ P A 0 ≠ 28 := by
      rcases w3 with ⟨q, -⟩ | ⟨q, -⟩ | ⟨q, -⟩ <;> omega
    have hcnt : ν.1 60 6 = μ.1 59 (n - 1) + dd (μ.1 53 (n - 1)) (cdp μ P A 1) := by
      rw [j3]
      by_cases o29 : cdp μ P A 0 = 29 ∨ cdp μ P A 0 = 32
      · rw [if_pos o29]; have := (hg0 ()).2.2.2.1 o29; omega
      · rw [if_neg o29]; have := (hg0 ()).2.2.2.2.2 o28 (by omega) (by omega); omega
    have hle := (hg0 ()).2.2.1 o28
    refine ⟨hB2, fun _ => ⟨rn (by omega), fun _ => ?_, fun h => absurd h (by omega), fun h => absurd h (by omega), by omega⟩⟩
    unfold GO
    rw [e52, e6, e3, e9, h45, w2, j2.1]
    have := j2.2
    exact ⟨by omega, by omega, by omega, by omega, by omega⟩
  · refine ⟨hB2, fun h4s => ⟨rn ?_, fun h => absurd h (by omega), fun _ => by omega, fun h => absurd h (by omega), by omega⟩⟩
    by_cases o28 : cdp μ P A 0 = 28
    · have := r28 () o28; have := (hg0 ()).2.2.2.2.1 o28; have := (hT.1 (A + 1)).2.2.1; omega
    · have := (hg0 ()).2.2.1 o28; omega

theorem RN.held {L : List Int} {μ ν : M3} {hh cc dd : Int → Int → Int} {k n : Int} (hN : RN μ hh cc dd k) (hB : RB μ hh cc dd k) (F : Fr L μ ν) (hL : npL L = true) (e12 : ∀ j, ν.1 12 j = μ.1 12 j) (e3 : ∀ j, ν.1 53 j = μ.1 53 j) (e6 : ∀ j, ν.1 56 j = μ.1 56 j) (e7 : ∀ j, ν.1 57 j = μ.1 57 j) (e8 : ∀ j, ν.1 58 j = μ.1 58 j) (e9 : ∀ j, ν.1 59 j = μ.1 59 j) (g2 : ∀ j, ν.1 62 j = μ.1 62 j) (g1 : ∀ j, ν.1 61 j = μ.1 61 j ∨ (ν.1 61 j = 5 ∧ μ.1 61 j = 4)) (hn : n = μ.1 52 7) (hnn : ν.1 52 7 = n) (hPP : ν.1 32 10 = μ.1 32 10) (hge : μ.1 59 (n - 1) ≤ ν.1 60 6) (hle : ν.1 60 6 ≤ μ.1 60 6) (hly : ν.1 45 4 + ν.1 60 6 ≤ μ.1 45 4 + μ.1 60 6) (hst : μ.1 70 2 ≤ ν.1 70 2) : RN ν hh cc dd (k + 1) := by
  obtain ⟨n1, n2, n3, n4, n5⟩ := hN
  rw [← hn] at n1 n2 n3 n4
  have hn1 := n1.1
  refine ⟨?_, ?_, ?_, ?_, ?_⟩
  · rw [hnn]; exact n1.sub (fun j _ => e3 j) (fun j _ => e6 j) (fun j _ => e7 j) (fun j _ => e8 j) (fun j _ => e9 j) (by omega) (by omega) (by omega)
  · rw [hnn]; exact n2.sub n1 hB.1 F hL (fun j _ => e3 j) (fun j _ => e9 j) g2 g1 (by omega) (by omega) (fun h => absurd h (by omega))
  · rw [hnn, hPP, e3, e12]; exact n3
  · rw [hnn, e9]; exact hge
  · omega
theorem RN.out {L : List Int} {μ ν : M3} {hh cc dd : Int → Int → Int} {k n : Int} (hN : RN μ hh cc dd k) (hB : RB μ hh cc dd k) (F : Fr L μ ν) (hL : npL L = true) (e12 : ∀ j, ν.1 12 j = μ.1 12 j) (e3 : ∀ j, ν.1 53 j = μ.1 53 j) (e6 : ∀ j, ν.1 56 j = μ.1 56 j) (e7 : ∀ j, ν.1 57 j = μ.1 57 j) (e8 : ∀ j, ν.1 58 j = μ.1 58 j) (e9 : ∀ j, ν.1 59 j = μ.1 59 j) (g2 : ∀ j, ν.1 62 j = μ.1 62 j) (g1 : ∀ j, ν.1 61 j = μ.1 61 j ∨ (ν.1 61 j = 5 ∧ μ.1 61 j = 4)) (hn : n = μ.1 52 7) (h2n : 2 ≤ n) (hnn : ν.1 52 7 = n - 1) (hPP : ν.1 32 10 = μ.1 12 (μ.1 53 (n - 2))) (hge : ν.1 60 6 = ofF μ 59) (hle : ν.1 60 6 ≤ μ.1 60 6) (hly : ν.1 45 4 + ν.1 60 6 ≤ μ.1 45 4 + μ.1 60 6) (hst : μ.1 70 2 ≤ ν.1 70 2) : RN ν hh cc dd (k + 1) := by
  obtain ⟨n1, n2, n3, n4, n5⟩ := hN
  have o59 : ofF μ 59 = μ.1 59 (n - 1) := ofF_at hn.symm (by omega)
  rw [← hn] at n1 n2 n3 n4
  have hn1 := n1.1
  have hn2 : n - 1 - 1 = n - 2 := by omega
  refine ⟨?_, ?_, ?_, ?_, ?_⟩
  · rw [hnn]; exact n1.sub (fun j _ => e3 j) (fun j _ => e6 j) (fun j _ => e7 j) (fun j _ => e8 j) (fun j _ => e9 j) (by omega) (by omega) (by omega)
  · rw [hnn]; exact n2.sub n1 hB.1 F hL (fun j _ => e3 j) (fun j _ => e9 j) g2 g1 (by omega) (by omega) (fun h => by omega)
  · rw [hnn, hPP, e3, e12, hn2]
  · rw [hnn, e9, hge, o59, hn2]; exact n1.mono (by omega) (by omega) (by omega) hB.1.d0
  · omega
theorem RI.ask {μ : M3} {hh cc dd : Int → Int → Int} {k n P : Int} (h : RI μ hh cc dd k) (h4 : μ.1 32 13 ≠ 4) (h0 : μ.1 32 13 ≠ 0) (hn : n = μ.1 52 7) (hP : P = μ.1 32 10) : (∀ q, ctc μ P (crf μ cc dd (n - 1) q)) ∧ (∀ j, ofF μ 59 ≤ j → j < μ.1 60 6 → gok μ P (crf μ cc dd (n - 1)) j (μ.1 61 j) (μ.1 62 j)) ∧ (0 ≤ ofF μ 59 ∧ ofF μ 59 ≤ μ.1 60 6) ∧ (μ.1 45 4 + μ.1 60 6 ≤ 10010) ∧ (ofF μ 56 ≤ 239000) ∧ (0 ≤ μ.1 70 2 ∧ μ.1 70 2 ≤ 5000 ∧ 0 ≤ μ.1 70 8 ∧ μ.1 70 8 ≤ 80000 ∧ μ.1 45 1 ≤ μ.1 70 2) ∧ 1 ≤ n ∧ (n ≤ 1 ∨ (0 ≤ μ.1 53 (n - 2) ∧ μ.1 53 (n - 2) ≤ 3 ∧ 0 ≤ μ.1 58 (n - 1) ∧ μ.1 58 (n - 1) ≤ 100000000 ∧ μ.1 57 (n - 1) ≤ 239000)) ∧ (n ≤ 1 ∨ -1000000 ≤ μ.1 57 (n - 1)) ∧ μ.1 33 3 < 240099 := by
  obtain ⟨hB, hN⟩ := h
  obtain ⟨⟨n1, n2, n3, n4, n5⟩, -, x1, x2, x3⟩ := hN h4
  rw [← hn] at n1 n2 n3 n4
  rw [← hP] at n3
  clear hN
  replace x1 := fun _ : Unit => x1
  replace x2 := fun _ : Unit => x2
  have hn1 := n1.1
  have o56 : ofF μ 56 = μ.1 56 (n - 1) := ofF_at hn.symm (by omega)
  have o59 : ofF μ 59 = μ.1 59 (n - 1) := ofF_at hn.symm (by omega)
  have t := n1.2.1 (n - 1) (by omega) (by omega)
  have hp := hB.1 _ t.1 t.2.1
  rw [← n3] at hp
  have hst := hB.2.2.2
  have hk := hB.2.2.1
  refine ⟨fun q => hp.2.ctc q, fun j h9 h6 => ?_, by omega, by omega, by omega, hst, by omega, ?_, ?_, ?_⟩
  · rw [o59] at h9
    have := (n2 (n - 1) j (by omega) (by omega) h9 h6 (fun h => absurd h (by omega))).1
    rw [← n3] at this; exact this
  · by_cases h2 : n ≤ 1
    · exact Or.inl h2
    · have u := n1.2.1 (n - 2) (by omega) (by omega)
      have v := n1.2.2 (n - 2) (by omega) (by omega)
      rw [show n - 2 + 1 = n - 1 by omega] at v
      have w := (hB.1 _ u.1 u.2.1).2.1 (μ.1 58 (n - 1) + 1)
      exact Or.inr ⟨u.1, u.2.1, v.2.2.1, by omega, by omega⟩
  · by_cases h2 : n ≤ 1
    · exact Or.inl h2
    · have v := n1.2.2 (n - 2) (by omega) (by omega)
      rw [show n - 2 + 1 = n - 1 by omega] at v
      exact Or.inr v.1
  · by_cases c1 : μ.1 32 13 = 2
    · have := x2 () c1; rw [← hn] at this
      have w := (hB.1 _ t.1 t.2.1).2.1 (μ.1 32 12)
      omega
    · have := x1 () (by omega); omega
theorem RI.carry {μ ν : M3} {hh cc dd : Int → Int → Int} {k S P g y n : Int} (h : RI μ hh cc dd k) (hk : k < 20000000) (hS : S = μ.1 33 3) (hP : P = μ.1 32 10) (hg : g = μ.1 60 6) (hy : y = μ.1 45 4) (hn : n = μ.1 52 7) (h13 : μ.1 32 13 = 1) (F : Fr [32, 45, 46, 51, 60, 66, 67, 68, 69, 33, 34, 35, 36, 61, 64, 65, 52, 70, 47, 48, 49, 50] μ ν)
    (h0 : (ν.1 52 7 = n ∧ ν.1 32 13 = 0 ∧ ν.1 33 3 ≤ max (ofF μ 56) 0 + 1 ∧ ofF μ 59 ≤ ν.1 60 6 ∧ ν.1 32 10 = P) ∨ (n ≤ 1 ∧ ν.1 32 13 = 4 ∧ ν.1 52 7 = n) ∨ (2 ≤ n ∧ ν.1 52 7 = n - 1 ∧ ν.1 60 6 = ofF μ 59 ∧ ν.1 32 12 = μ.1 58 (n - 1) + 1 ∧ ((ν.1 33 3 = max (μ.1 57 (n - 1)) 0 + 1 ∧ ν.1 32 13 = 0) ∨ (ν.1 33 3 = max (μ.1 57 (n - 1)) 0 ∧ (ν.1 32 13 = 1 ∨ ν.1 32 13 = 2 ∨ ν.1 32 13 = 4)))))
    (h1 : ν.1 52 7 = n → ν.1 32 13 = 0 → gtc (crf μ cc dd (n - 1) (ν.1 60 6)) (ν.1 32 12)) (h2 : ν.1 52 7 = n - 1 → ν.1 32 10 = μ.1 12 (μ.1 53 (n - 2))) (h3 : ν.1 60 6 ≤ g ∧ ν.1 45 4 + ν.1 60 6 ≤ y + g) (h4 : ∀ j, ν.1 61 j = μ.1 61 j ∨ (ν.1 61 j = 5 ∧ μ.1 61 j = 4)) (h5 : μ.1 70 2 ≤ ν.1 70 2 ∧ ν.1 70 2 ≤ 5000 ∧ 0 ≤ ν.1 70 8 ∧ ν.1 70 8 ≤ 80000 ∧ ν.1 45 1 ≤ ν.1 70 2) (h6 : ν.1 32 13 ≠ 2 ∨ μ.1 53 (n - 2) = 1) : RI ν hh cc dd (k + 1) := by
  obtain ⟨hB, hN⟩ := h
  obtain ⟨hN1, -, x1, x2, -⟩ := hN (by omega)
  have hL : npL [32, 45, 46, 51, 60, 66, 67, 68, 69, 33, 34, 35, 36, 61, 64, 65, 52, 70, 47, 48, 49, 50] = true := by decide
  have e3 : ∀ j, ν.1 53 j = μ.1 53 j := fun j => F.1 53 (by decide) j
  have e6 : ∀ j, ν.1 56 j = μ.1 56 j := fun j => F.1 56 (by decide) j
  have e7 : ∀ j, ν.1 57 j = μ.1 57 j := fun j => F.1 57 (by decide) j
  have e8 : ∀ j, ν.1 58 j = μ.1 58 j := fun j => F.1 58 (by decide) j
  have e9 : ∀ j, ν.1 59 j = μ.1 59 j := fun j => F.1 59 (by decide) j
  have g2 : ∀ j, ν.1 62 j = μ.1 62 j := fun j => F.1 62 (by decide) j
  have e12 : ∀ j, ν.1 12 j = μ.1 12 j := fun j => F.1 12 (by decide) j
  clear hN
  replace x1 := fun _ : Unit => x1
  replace x2 := fun _ : Unit => x2
  replace h0 := fun _ : Unit => h0
  have hk0 := hB.2.2.1
  have hn1 := hN1.1.1
  rw [← hn] at hn1
  have o56 : ofF μ 56 = μ.1 56 (n - 1) := ofF_at hn.symm (by omega)
  have o59 : ofF μ 59 = μ.1 59 (n - 1) := ofF_at hn.symm (by omega)
  have hB2 := hB.fr F hL (k2 := k + 1) ⟨by omega, by omega⟩ h5
  replace h1 := fun _ : Unit => h1
  replace h2 := fun _ : Unit => h2
  replace h6 := fun _ : Unit => h6
  have n5 := hN1.2.2.2.2
  have n4 := hN1.2.2.2.1
  rcases h0 () with ⟨hs1, w2, w3, w4, hs2⟩ | ⟨w1, w2, w3⟩ | ⟨w1, hs1, hs2, hs3, w5⟩
  · rw [hP] at hs2
    have hr := hN1.held hB F hL e12 e3 e6 e7 e8 e9 g2 h4 hn hs1 hs2 (by omega) (by omega) (by omega) (by omega)
    have gg := crf_g.1 (h1 () hs1 w2)
    have tt := hN1.1.2.1 (n - 1) (by omega) (by omega)
    have hT := (hB.1 _ tt.1 tt.2.1).2.1 (ν.1 32 12)
    have g8 := gg.2.2
    refine ⟨hB2, fun _ => ⟨hr, fun _ => ?_, fun h => absurd h (by omega), fun h => absurd h (by omega), by omega⟩⟩
    unfold GO
    rw [hs1, e6, e3, e9, gg.2.1, gg.1]
    exact ⟨by omega, by omega, by omega, by omega, by omega⟩
  · exact ⟨hB2, fun h => absurd w2 h⟩
  · rw [← hn] at n4
    have hr := hN1.out hB F hL e12 e3 e6 e7 e8 e9 g2 h4 hn w1 hs1 (h2 () hs1) hs2 (by omega) (by omega) (by omega)
    have ff := hN1.1.2.2 (n - 2) (by omega) (by omega)
    rw [show n - 2 + 1 = n - 1 by omega] at ff
    have tt := hN1.1.2.1 (n - 2) (by omega) (by omega)
    have hT := (hB.1 _ tt.1 tt.2.1).2.1 (μ.1 58 (n - 1) + 1)
    have hn2 : n - 1 - 1 = n - 2 := by omega
    rcases w5 with ⟨w5, w6⟩ | ⟨w5, w6⟩
    · refine ⟨hB2, fun _ => ⟨hr, fun _ => ?_, fun h => absurd h (by omega), fun h => absurd h (by omega), by omega⟩⟩
      unfold GO
      rw [hs1, hn2, e6, e3, e9, hs3, ff.2.2.2.2.1, hs2, o59, ff.2.2.2.2.2]
      exact ⟨by omega, by omega, by omega, by omega, by omega⟩
    · have tf := (hN1.1.2.1 (n - 2) (by omega) (by omega)).2.2.1
      refine ⟨hB2, fun _ => ⟨hr, fun h => absurd h (by omega), fun _ => by omega, fun h2s => ?_, by omega⟩⟩
      have t1 : μ.1 53 (n - 2) = 1 := (h6 ()).resolve_left (by omega)
      rw [hs1, hn2, e6, e3, e9, hs3, ff.2.2.2.2.1, hs2, o59, ff.2.2.2.2.2]
      exact ⟨t1, by omega, by omega, by omega, by omega, rfl⟩
theorem RI.leave {μ ν : M3} {hh cc dd : Int → Int → Int} {k S P g y n : Int} (h : RI μ hh cc dd k) (hk : k < 20000000) (hS : S = μ.1 33 3) (hP : P = μ.1 32 10) (hg : g = μ.1 60 6) (hy : y = μ.1 45 4) (hn : n = μ.1 52 7) (h13 : μ.1 32 13 = 3) (F : Fr [32, 45, 46, 51, 60, 66, 67, 68, 69, 70, 34, 35, 36, 33, 52, 47, 48, 49, 50, 61, 64, 65] μ ν)
    (h0 : (ν.1 52 7 = n ∧ ν.1 32 13 = 0 ∧ ν.1 33 3 = max (ofF μ 56) 0 ∧ ofF μ 59 ≤ ν.1 60 6 ∧ ν.1 32 10 = P) ∨ (n ≤ 1 ∧ ν.1 32 13 = 4 ∧ ν.1 52 7 = n) ∨ (2 ≤ n ∧ ν.1 60 6 = ofF μ 59 ∧ ν.1 52 7 = n - 1 ∧ ν.1 32 12 = μ.1 58 (n - 1) + 1 ∧ ((ν.1 33 3 ≤ max (μ.1 57 (n - 1) + 1) 1 ∧ (ν.1 32 13 = 0 ∨ ν.1 32 13 = 1 ∨ ν.1 32 13 = 4)) ∨ (ν.1 33 3 ≤ max (μ.1 57 (n - 1)) 0 ∧ ν.1 32 13 = 2))))
    (h1 : ν.1 52 7 = n → ν.1 32 13 = 0 → gtc (crf μ cc dd (n - 1) (ν.1 60 6)) (ν.1 32 12)) (h2 : ν.1 52 7 = n - 1 → ν.1 32 10 = μ.1 12 (μ.1 53 (n - 2))) (h3 : ν.1 60 6 ≤ g ∧ ν.1 45 4 + ν.1 60 6 ≤ y + g) (h4 : ∀ j, ν.1 61 j = μ.1 61 j ∨ (ν.1 61 j = 5 ∧ μ.1 61 j = 4)) (h5 : μ.1 70 2 ≤ ν.1 70 2 ∧ ν.1 70 2 ≤ 5000 ∧ 0 ≤ ν.1 70 8 ∧ ν.1 70 8 ≤ 80000 ∧ ν.1 45 1 ≤ ν.1 70 2) (h6 : ν.1 32 13 ≠ 2 ∨ μ.1 53 (n - 2) = 1) : RI ν hh cc dd (k + 1) := by
  obtain ⟨hB, hN⟩ := h
  obtain ⟨hN1, -, x1, x2, -⟩ := hN (by omega)
  have hL : npL [32, 45, 46, 51, 60, 66, 67, 68, 69, 70, 34, 35, 36, 33, 52, 47, 48, 49, 50, 61, 64, 65] = true := by decide
  have e3 : ∀ j, ν.1 53 j = μ.1 53 j := fun j => F.1 53 (by decide) j
  have e6 : ∀ j, ν.1 56 j = μ.1 56 j := fun j => F.1 56 (by decide) j
  have e7 : ∀ j, ν.1 57 j = μ.1 57 j := fun j => F.1 57 (by decide) j
  have e8 : ∀ j, ν.1 58 j = μ.1 58 j := fun j => F.1 58 (by decide) j
  have e9 : ∀ j, ν.1 59 j = μ.1 59 j := fun j => F.1 59 (by decide) j
  have g2 : ∀ j, ν.1 62 j = μ.1 62 j := fun j => F.1 62 (by decide) j
  have e12 : ∀ j, ν.1 12 j = μ.1 12 j := fun j => F.1 12 (by decide) j
  clear hN
  replace x1 := fun _ : Unit => x1
  replace x2 := fun _ : Unit => x2
  replace h0 := fun _ : Unit => h0
  have hk0 := hB.2.2.1
  have hn1 := hN1.1.1
  rw [← hn] at hn1
  have o56 : ofF μ 56 = μ.1 56 (n - 1) := ofF_at hn.symm (by omega)
  have o59 : ofF μ 59 = μ.1 59 (n - 1) := ofF_at hn.symm (by omega)
  have hB2 := hB.fr F hL (k2 := k + 1) ⟨by omega, by omega⟩ h5
  replace h1 := fun _ : Unit => h1
  replace h2 := fun _ : Unit => h2
  replace h6 := fun _ : Unit => h6
  have n5 := hN1.2.2.2.2
  have n4 := hN1.2.2.2.1
  rcases h0 () with ⟨hs1, w2, w3, w4, hs2⟩ | ⟨w1, w2, w3⟩ | ⟨w1, hs2, hs1, hs3, w5⟩
  · rw [hP] at hs2
    have hr := hN1.held hB F hL e12 e3 e6 e7 e8 e9 g2 h4 hn hs1 hs2 (by omega) (by omega) (by omega) (by omega)
    have gg := crf_g.1 (h1 () hs1 w2)
    have tt := hN1.1.2.1 (n - 1) (by omega) (by omega)
    have hT := (hB.1 _ tt.1 tt.2.1).2.1 (ν.1 32 12)
    have g8 := gg.2.2
    refine ⟨hB2, fun _ => ⟨hr, fun _ => ?_, fun h => absurd h (by omega), fun h => absurd h (by omega), by omega⟩⟩
    unfold GO
    rw [hs1, e6, e3, e9, gg.2.1, gg.1]
    exact ⟨by omega, by omega, by omega, by omega, by omega⟩
  · exact ⟨hB2, fun h => absurd w2 h⟩
  · rw [← hn] at n4
    have hr := hN1.out hB F hL e12 e3 e6 e7 e8 e9 g2 h4 hn w1 hs1 (h2 () hs1) hs2 (by omega) (by omega) (by omega)
    have ff := hN1.1.2.2 (n - 2) (by omega) (by omega)
    rw [show n - 2 + 1 = n - 1 by omega] at ff
    have tt := hN1.1.2.1 (n - 2) (by omega) (by omega)
    have hT := (hB.1 _ tt.1 tt.2.1).2.1 (μ.1 58 (n - 1) + 1)
    have hn2 : n - 1 - 1 = n - 2 := by omega
    have tf := (hN1.1.2.1 (n - 2) (by omega) (by omega)).2.2.1
    rcases w5 with ⟨w5, w6⟩ | ⟨w5, w6⟩
    · refine ⟨hB2, fun _ => ⟨hr, fun _ => ?_, fun _ => by omega, fun h => absurd h (by omega), by omega⟩⟩
      unfold GO
      rw [hs1, hn2, e6, e3, e9, hs3, ff.2.2.2.2.1, hs2, o59, ff.2.2.2.2.2]
      exact ⟨by omega, by omega, by omega, by omega, by omega⟩
    · refine ⟨hB2, fun _ => ⟨hr, fun h => absurd h (by omega), fun h => absurd h (by omega), fun h2s => ?_, by omega⟩⟩
      have t1 : μ.1 53 (n - 2) = 1 := (h6 ()).resolve_left (by omega)
      rw [hs1, hn2, e6, e3, e9, hs3, ff.2.2.2.2.1, hs2, o59, ff.2.2.2.2.2]
      exact ⟨t1, by omega, by omega, by omega, by omega, rfl⟩
theorem RI.behind {μ ν : M3} {hh cc dd : Int → Int → Int} {k S P g y n : Int} (h : RI μ hh cc dd k) (hk : k < 20000000) (hS : S = μ.1 33 3) (hP : P = μ.1 32 10) (hg : g = μ.1 60 6) (hy : y = μ.1 45 4) (hn : n = μ.1 52 7) (h13 : μ.1 32 13 = 2) (F : Fr [32, 70, 45, 46, 51, 60, 66, 67, 68, 69, 33, 34, 35, 36, 61, 64, 65] μ ν)
    (h0 : (ν.1 33 3 ≤ max (ofF μ 56) 0 + 1 ∧ ofF μ 59 ≤ ν.1 60 6 ∧ gtc (crf μ cc dd (n - 1) (ν.1 60 6)) (ν.1 32 12)) ∨ (ν.1 33 3 = S + 1 ∧ ν.1 60 6 = ofF μ 59 ∧ ν.1 32 12 = μ.1 32 12 ∧ ∀ j, ofF μ 59 ≤ j → j < g → μ.1 61 j ≠ 2))
    (h1 : ν.1 32 13 = 0) (h3 : ν.1 60 6 ≤ g ∧ ν.1 45 4 + ν.1 60 6 ≤ y + g) (h4 : ∀ j, ν.1 61 j = μ.1 61 j ∨ (ν.1 61 j = 5 ∧ μ.1 61 j = 4)) (hs2 : ν.1 32 10 = μ.1 32 10) (e72 : ν.1 70 2 = μ.1 70 2) (e78 : ν.1 70 8 = μ.1 70 8) (e45 : ν.1 45 1 = μ.1 45 1) : RI ν hh cc dd (k + 1) := by
  obtain ⟨hB, hN⟩ := h
  obtain ⟨hN1, -, x1, x2, -⟩ := hN (by omega)
  have hL : npL [32, 70, 45, 46, 51, 60, 66, 67, 68, 69, 33, 34, 35, 36, 61, 64, 65] = true := by decide
  have e3 : ∀ j, ν.1 53 j = μ.1 53 j := fun j => F.1 53 (by decide) j
  have e6 : ∀ j, ν.1 56 j = μ.1 56 j := fun j => F.1 56 (by decide) j
  have e7 : ∀ j, ν.1 57 j = μ.1 57 j := fun j => F.1 57 (by decide) j
  have e8 : ∀ j, ν.1 58 j = μ.1 58 j := fun j => F.1 58 (by decide) j
  have e9 : ∀ j, ν.1 59 j = μ.1 59 j := fun j => F.1 59 (by decide) j
  have g2 : ∀ j, ν.1 62 j = μ.1 62 j := fun j => F.1 62 (by decide) j
  have e12 : ∀ j, ν.1 12 j = μ.1 12 j := fun j => F.1 12 (by decide) j
  clear hN
  replace x1 := fun _ : Unit => x1
  replace x2 := fun _ : Unit => x2
  replace h0 := fun _ : Unit => h0
  have hk0 := hB.2.2.1
  have hn1 := hN1.1.1
  rw [← hn] at hn1
  have o56 : ofF μ 56 = μ.1 56 (n - 1) := ofF_at hn.symm (by omega)
  have o59 : ofF μ 59 = μ.1 59 (n - 1) := ofF_at hn.symm (by omega)
  have hB2 := hB.fr F hL (k2 := k + 1) ⟨by omega, by omega⟩ (by rw [e72, e78, e45]; have := hB.2.2.2; omega)
  have n5 := hN1.2.2.2.2
  have n4 := hN1.2.2.2.1
  have hs1 : ν.1 52 7 = n := (F.1 52 (by decide) 7).trans hn.symm
  rcases h0 () with ⟨w3, w4, w5⟩ | ⟨w3, w4, w5, w6⟩
  · rw [← hn] at n4
    have hr := hN1.held hB F hL e12 e3 e6 e7 e8 e9 g2 h4 hn hs1 hs2 (by omega) (by omega) (by omega) (by omega)
    have gg := crf_g.1 w5
    have tt := hN1.1.2.1 (n - 1) (by omega) (by omega)
    have hT := (hB.1 _ tt.1 tt.2.1).2.1 (ν.1 32 12)
    have g8 := gg.2.2
    refine ⟨hB2, fun _ => ⟨hr, fun _ => ?_, fun h => absurd h (by omega), fun h => absurd h (by omega), by omega⟩⟩
    unfold GO
    rw [hs1, e6, e3, e9, gg.2.1, gg.1]
    exact ⟨by omega, by omega, by omega, by omega, by omega⟩
  · rw [← hn] at n4
    have hr := hN1.held hB F hL e12 e3 e6 e7 e8 e9 g2 h4 hn hs1 hs2 (by omega) (by omega) (by omega) (by omega)
    have xx := x2 () h13
    rw [← hn] at xx
    have tt := hN1.1.2.1 (n - 1) (by omega) (by omega)
    have hT := (hB.1 _ tt.1 tt.2.1).2.1 (μ.1 32 12)
    have hd0 : dd (μ.1 53 (n - 1)) (μ.1 32 12) = 0 := by
      by_cases hd : dd (μ.1 53 (n - 1)) (μ.1 32 12) = 0
      · exact hd
      · have := (hN1.2.1 (n - 1) (g - 1) (by omega) (by omega) (by omega) (by omega) (fun h => absurd h (by omega))).2 xx.1
        exact absurd this (w6 (g - 1) (by omega) (by omega))
    refine ⟨hB2, fun _ => ⟨hr, fun _ => ?_, fun h => absurd h (by omega), fun h => absurd h (by omega), by omega⟩⟩
    unfold GO
    rw [hs1, e6, e3, e9, w5, xx.2.2.2.2.2, hd0]
    exact ⟨by omega, by omega, by omega, by omega, by omega⟩

theorem TA.st {μ : M3} {hh cc dd : Int → Int → Int} {t c : Int} (hT : TA μ hh cc dd) (h0 : 0 ≤ t) (h3 : t ≤ 3) (hs : stt μ t c) : gtc (cc t) c ∧ dd t c = 0 := by
  have hT2 := (hT t h0 h3).2
  rcases hs with s1 | ⟨f, f1, f2, f3⟩
  · rw [s1]; exact hT2.2.1
  · rw [f3]; exact hT2.2.2.1 f f1 f2
theorem RI.init {ν : M3} {hh cc dd : Int → Int → Int} {x1 : Int} (hT : TA ν hh cc dd) (hv : vrk ν) (h70 : ν.1 70 2 = 0 ∧ 0 ≤ ν.1 70 8 ∧ ν.1 70 8 ≤ 80000) (h45 : ν.1 45 1 = 0 ∧ ν.1 45 4 = 0) (h60 : ν.1 60 6 = 0) (hx : 0 ≤ x1 ∧ x1 ≤ 3) (h52 : ν.1 52 7 = 1) (h53 : ν.1 53 0 = x1) (h56 : ν.1 56 0 ≤ 1000) (h59 : ν.1 59 0 = 0) (h33 : ν.1 33 3 = max (ν.1 56 0) 0) (h10 : ν.1 32 10 = ν.1 12 x1) (hs : gtc (cc x1) (ν.1 32 12) ∧ dd x1 (ν.1 32 12) = 0) (h13 : ν.1 32 13 = 0) : RI ν hh cc dd 0 := by
  have hb := (hT x1 hx.1 hx.2).2.1 (ν.1 32 12)
  have e0 : (1 : Int) - 1 = 0 := rfl
  have hs2 := hs.1.2
  refine ⟨⟨hT, hv, ⟨by omega, by omega⟩, by omega, by omega, by omega, by omega, by omega⟩, fun _ => ⟨⟨⟨⟨by omega, by omega⟩, ?_, ?_⟩, ?_, ?_, ?_, ?_⟩, fun _ => ?_, fun h => absurd h (by omega), fun h => absurd h (by omega), by omega⟩⟩
  · intro i h0 hi
    have : i = 0 := by omega
    subst this
    omega
  · intro i h0 hi
    exact absurd hi (by omega)
  · intro i j h0 hi h9 h6
    exact absurd h6 (by have : i = 0 := by omega
                        subst this; omega)
  · rw [h52, e0, h53]; exact h10
  · rw [h52, e0]; omega
  · omega
  · unfold GO
    rw [h52, e0, h53, hs.1.1, hs.2]
    exact ⟨by omega, by omega, by omega, by omega, by omega⟩
