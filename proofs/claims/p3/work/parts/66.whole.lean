/-! a text's whole code -/
def PG (μ : M3) (P t : Int) : Prop := Sg μ P t 0 (μ.1 P 1) 0 16 ∧ cs μ P t (μ.1 P 1) = 0 ∧ ∀ f, 0 ≤ f → f < μ.1 P 7 → (0 ≤ μ.1 (P + 7) f ∧ μ.1 (P + 7) f ≤ μ.1 P 1) ∧ cs μ P t (μ.1 (P + 7) f) = 0 ∧ ds μ P t (μ.1 (P + 7) f) = 0
theorem cdp_o {μ : M3} {P i k : Int} (h : ¬ (0 ≤ i ∧ i < μ.1 P 1)) : cdp μ P i k = 0 := by unfold cdp; rw [if_neg h]
theorem hs_0 {μ : M3} {P i : Int} (h : i ≤ 0) : hs μ P i = 1 := by
  unfold hs; rw [show i.toNat = 0 by omega]; rfl
theorem cs_0 {μ : M3} {P t i : Int} (h : i ≤ 0) : cs μ P t i = 0 := by
  unfold cs; rw [show i.toNat = 0 by omega]; rfl
theorem ds_0 {μ : M3} {P t i : Int} (h : i ≤ 0) : ds μ P t i = 0 := by
  unfold ds; rw [show i.toNat = 0 by omega]; rfl
theorem bey {μ : M3} {P t : Int} (h0 : 0 ≤ μ.1 P 1) (hc : cs μ P t (μ.1 P 1) = 0) : ∀ n : Nat, hs μ P (μ.1 P 1 + n) = hs μ P (μ.1 P 1) ∧ cs μ P t (μ.1 P 1 + n) = 0 ∧ ds μ P t (μ.1 P 1 + n) = ds μ P t (μ.1 P 1) := by
  intro n
  induction n with
  | zero =>
    have e : μ.1 P 1 + ((0 : Nat) : Int) = μ.1 P 1 := by omega
    rw [e]; exact ⟨rfl, hc, rfl⟩
  | succ n ih =>
    have e : μ.1 P 1 + ((n + 1 : Nat) : Int) = μ.1 P 1 + (n : Int) + 1 := by omega
    have hh := hs_1 (μ := μ) (P := P) (i := μ.1 P 1)
    have c0 := fun k => cdp_o (μ := μ) (P := P) (i := μ.1 P 1 + n) (k := k) (by omega)
    rw [e, hs_s (by omega), cs_s (by omega), ds_s (by omega), c0 0, c0 1, ih.1, ih.2.1, ih.2.2]
    refine ⟨?_, rfl, ?_⟩
    · show max 1 (hs μ P (μ.1 P 1) + 0) = _; omega
    · show ds μ P t (μ.1 P 1) + 0 = _; omega
theorem hs_le {μ : M3} {P : Int} (h : ∀ i, 0 ≤ i → i < μ.1 P 1 → (cdp μ P i 0 = 13 ∨ cdp μ P i 0 = 14) → 0 ≤ cdp μ P i 1) : ∀ n : Nat, hsN μ P n ≤ n + 1 := by
  intro n
  induction n with
  | zero => show (1 : Int) ≤ 0 + 1; omega
  | succ n ih =>
    have key : eff (cdp μ P n 0) (cdp μ P n 1) ≤ 1 := by
      unfold eff
      split
      · omega
      split
      · omega
      split
      · omega
      split
      · rename_i q
        by_cases hi : (n : Int) < μ.1 P 1
        · have := h n (by omega) hi (Or.inl q)
          have := Int.tdiv_nonneg this (show (0 : Int) ≤ 4 by decide)
          omega
        · rw [cdp_o (by omega)] at q; omega
      split
      · rename_i q
        by_cases hi : (n : Int) < μ.1 P 1
        · have := h n (by omega) hi (Or.inr q)
          have := Int.tdiv_nonneg this (show (0 : Int) ≤ 4 by decide)
          omega
        · rw [cdp_o (by omega)] at q; omega
      · omega
    show max 1 (hsN μ P n + eff (cdp μ P n 0) (cdp μ P n 1)) ≤ ((n + 1 : Nat) : Int) + 1
    omega
theorem rul.out {μ : M3} {P t i : Int} {h c d : Int → Int} (h0 : cdp μ P i 0 = 0) (h1 : h i ≤ h (i + 1)) (h2 : c (i + 1) ≤ c i) (h3 : d (i + 1) = d i) : rul μ P t i h c d := by
  unfold rul
  rw [h0]
  refine ⟨fun _ => ⟨h1, h2, h3⟩, fun q => ?_, fun q => ?_, fun q => ?_, fun q => ?_, fun q => ?_, fun q => ?_, fun q => ?_, fun q => ?_, fun q => ?_, fun q => ?_, fun q => ?_, fun q => ?_, fun q => ?_, fun q => ?_, fun q => ?_, fun q => ?_, fun q => ?_, fun q => ?_⟩ <;> exact absurd q (by omega)
theorem rul.of {μ : M3} {P t i n : Int} (h : lcd μ P t i 0 n) (h0 : 0 ≤ i) (hn : i < n) (hb : n ≤ 8000) : rul μ P t i (hs μ P) (cs μ P t) (ds μ P t) := by
  have H := hs_s (μ := μ) (P := P) h0
  have C := cs_s (μ := μ) (P := P) (t := t) h0
  have D := ds_s (μ := μ) (P := P) (t := t) h0
  have c0 := cs_r (μ := μ) (P := P) (t := t) (i := i)
  have d0 := ds_0 (μ := μ) (P := P) (t := t) (i := 0) (Int.le_refl 0)
  have gt : ∀ x, tgj μ P t 0 n x → gtc (cs μ P t) x := fun x q => ⟨q.2.2, q.1, by have := q.2.1; omega⟩
  unfold lcd at h
  obtain ⟨r13, r19, r31, r20, r23, r26, r27, r28, r29, r30⟩ := h
  replace r13 := fun _ : Unit => r13
  replace r19 := fun _ : Unit => r19
  replace r31 := fun _ : Unit => r31
  replace r20 := fun _ : Unit => r20
  replace r23 := fun _ : Unit => r23
  replace r26 := fun _ : Unit => r26
  replace r27 := fun _ : Unit => r27
  replace r28 := fun _ : Unit => r28
  replace r29 := fun _ : Unit => r29
  replace r30 := fun _ : Unit => r30
  unfold rul
  have set : ∀ o, cdp μ P i 0 = o → hs μ P (i + 1) = max 1 (hs μ P i + eff o (cdp μ P i 1)) ∧ cs μ P t (i + 1) = cef t o (cs μ P t i) ∧ ds μ P t (i + 1) = ds μ P t i + def_ t o := fun o q => by rw [q] at H C D; exact ⟨H, C, D⟩
  refine ⟨fun q => ?_, fun q => ?_, fun q => ?_, fun q => ?_, fun q => ?_, fun q => ?_, fun q => ?_, fun q => ?_, fun q => ?_, fun q => ?_, fun q => ?_, fun q => ?_, fun q => ?_, fun q => ?_, fun q => ?_, fun q => ?_, fun q => ?_, fun q => ?_, fun q => ?_⟩
  · have e1 : eff (cdp μ P i 0) (cdp μ P i 1) = 0 := by
      unfold eff
      rw [if_neg (by omega), if_neg (by omega), if_neg (by omega), if_neg (by omega), if_neg (by omega)]
    have e2 : cef t (cdp μ P i 0) (cs μ P t i) = max (cs μ P t i - 1) 0 := by
      unfold cef
      rw [if_neg (by omega), if_pos (by omega)]
    have e3 : def_ t (cdp μ P i 0) = 0 := by
      unfold def_
      rw [if_neg (by omega), if_neg (by omega), if_neg (by omega), if_neg (by omega)]
    rw [e1] at H; rw [e2] at C; rw [e3] at D
    exact ⟨by omega, by omega, by omega⟩
  · obtain ⟨a, b, c⟩ := set _ q
    have a : hs μ P (i + 1) = max 1 (hs μ P i + 0) := a
    have c : ds μ P t (i + 1) = ds μ P t i + 0 := c
    exact ⟨by omega, by omega⟩
  · rcases q with q | q | q | q | q <;> (have a : hs μ P (i + 1) = max 1 (hs μ P i + 1) := (set _ q).1; omega)
  · rcases q with q | q | q | q | q <;> (have a : hs μ P (i + 1) = max 1 (hs μ P i + -1) := (set _ q).1; omega)
  · rcases q with q | q | q | q | q <;> (have a : hs μ P (i + 1) = max 1 (hs μ P i + 0) := (set _ q).1; omega)
  · have a : hs μ P (i + 1) = max 1 (hs μ P i + -3) := (set _ q).1
    omega
  · have a : hs μ P (i + 1) = max 1 (hs μ P i + (1 - (cdp μ P i 1).tdiv 4)) := (set _ q).1
    have := r13 () (Or.inl q)
    exact ⟨this.1, this.2, by omega⟩
  · have a : hs μ P (i + 1) = max 1 (hs μ P i + (- (cdp μ P i 1).tdiv 4)) := (set _ q).1
    have := r13 () (Or.inr q)
    exact ⟨this.1, this.2, by omega⟩
  · have e2 : cef t (cdp μ P i 0) (cs μ P t i) = 0 := by
      unfold cef
      rw [if_neg (by omega), if_neg (by omega)]
    have e3 : def_ t (cdp μ P i 0) = 0 := by
      unfold def_
      rw [if_neg (by omega), if_neg (by omega), if_neg (by omega), if_neg (by omega)]
    rw [e2] at C; rw [e3] at D
    exact ⟨C, by omega⟩
  · rcases q with q | q
    · obtain ⟨a, b, c⟩ := r19 () q; exact ⟨a, gt _ b, c⟩
    · obtain ⟨a, b, c, d, e⟩ := r31 () q; exact ⟨a, gt _ b, c⟩
  · obtain ⟨a, b, c⟩ := r20 () q
    have a2 : hs μ P (i + 1) = max 1 (hs μ P i + -1) := (set _ q).1
    exact ⟨a, by omega, gt _ b, c⟩
  · exact r23 () (by omega)
  · have a2 : hs μ P (i + 1) = max 1 (hs μ P i + -1) := (set _ q).1
    exact ⟨r23 () (by omega), by omega⟩
  · obtain ⟨a, b, c, d, e⟩ := r26 () q
    have a2 : hs μ P (i + 1) = max 1 (hs μ P i + 0) := (set _ q).1
    exact ⟨a, b, by omega, c, gt _ d, e⟩
  · obtain ⟨a, b, c⟩ := r27 () q
    have a2 : hs μ P (i + 1) = max 1 (hs μ P i + -1) := (set _ q).1
    exact ⟨by omega, a, gt _ b, c⟩
  · obtain ⟨a, b, c, d, e⟩ := r28 () q
    obtain ⟨s1, s2, s3⟩ := set _ q
    have s1 : hs μ P (i + 1) = max 1 (hs μ P i + 0) := s1
    have s2 : cs μ P t (i + 1) = max (cs μ P t i - 1) 0 := s2
    have s3 : ds μ P t (i + 1) = ds μ P t i + 1 := s3
    refine ⟨by omega, by omega, s3, fun k => ?_, fun k => ?_, fun k k2 => ?_, e⟩
    · exact ⟨(b k).2.2.1, (b k).2.2.2⟩
    · exact ⟨gt _ (c k).1, (c k).2⟩
    · exact ⟨gt _ (d k k2).1, (d k k2).2⟩
  · obtain ⟨a, b, c, d⟩ := r29 () q
    exact ⟨a, by omega, gt _ b, c⟩
  · obtain ⟨s1, s2, s3⟩ := set _ q
    have s1 : hs μ P (i + 1) = max 1 (hs μ P i + 0) := s1
    have s2 : cs μ P t (i + 1) = 0 := s2
    refine ⟨by omega, ⟨s2, by omega, by omega⟩, ?_⟩
    rcases r30 () q with k | ⟨k1, k2, k3, k4⟩
    · exact Or.inl k
    · exact Or.inr ⟨k3, k4⟩
  · obtain ⟨a, b, c, d, e⟩ := r31 () q; exact ⟨d, by omega⟩
theorem TCp.of {μ : M3} {P t : Int} (h : PG μ P t) (hb : μ.1 P 1 ≤ 8000) : TCp μ P t (hs μ P) (cs μ P t) (ds μ P t) := by
  obtain ⟨⟨h0, h1, h2, h3, h4, h5⟩, hc, hf⟩ := h
  have d0 := ds_0 (μ := μ) (P := P) (t := t) (i := 0) (Int.le_refl 0)
  have le := hs_le (μ := μ) (P := P) (fun i i0 i1 q => by have := h4 i i0 i1 (fun z => z); unfold lcd at this; exact (this.1 q).1)
  have B := bey (t := t) h0.2 hc
  have rg : ∀ i, 1 ≤ hs μ P i ∧ hs μ P i ≤ 8001 ∧ 0 ≤ cs μ P t i ∧ cs μ P t i ≤ 2 ∧ 0 ≤ ds μ P t i ∧ ds μ P t i ≤ 16 := by
    intro i
    have c := cs_r (μ := μ) (P := P) (t := t) (i := i)
    refine ⟨hs_1, ?_, c.1, c.2, ?_⟩
    · by_cases hi : i ≤ μ.1 P 1
      · have := le i.toNat
        unfold hs; omega
      · have b := B (i - μ.1 P 1).toNat
        rw [show μ.1 P 1 + (((i - μ.1 P 1).toNat : Nat) : Int) = i by omega] at b
        have := le (μ.1 P 1).toNat
        rw [b.1]; unfold hs; omega
    · by_cases hi : i ≤ μ.1 P 1
      · by_cases hj : 0 ≤ i
        · have := h5 i hj hi; omega
        · rw [ds_0 (by omega)]; omega
      · have b := B (i - μ.1 P 1).toNat
        rw [show μ.1 P 1 + (((i - μ.1 P 1).toNat : Nat) : Int) = i by omega] at b
        rw [b.2.2]; omega
  refine ⟨rg, ⟨⟨hc, h0.2, by omega⟩, by omega⟩, fun f f0 f1 => ?_, fun i => ?_⟩
  · obtain ⟨a, b, c⟩ := hf f f0 f1
    exact ⟨⟨b, a.1, by omega⟩, c⟩
  · by_cases hi : 0 ≤ i ∧ i < μ.1 P 1
    · exact rul.of (h4 i hi.1 hi.2 (fun z => z)) hi.1 hi.2 hb
    · refine rul.out (cdp_o hi) ?_ ?_ ?_
      · by_cases hj : i < 0
        · rw [hs_0 (by omega)]; exact hs_1
        · have b := B (i - μ.1 P 1).toNat
          have b2 := B (i + 1 - μ.1 P 1).toNat
          rw [show μ.1 P 1 + (((i - μ.1 P 1).toNat : Nat) : Int) = i by omega] at b
          rw [show μ.1 P 1 + (((i + 1 - μ.1 P 1).toNat : Nat) : Int) = i + 1 by omega] at b2
          rw [b.1, b2.1]; exact Int.le_refl _
      · by_cases hj : i < 0
        · rw [cs_0 (by omega)]; exact (rg i).2.2.1
        · have b2 := B (i + 1 - μ.1 P 1).toNat
          rw [show μ.1 P 1 + (((i + 1 - μ.1 P 1).toNat : Nat) : Int) = i + 1 by omega] at b2
          rw [b2.2.1]; exact (rg i).2.2.1
      · by_cases hj : i < 0
        · rw [ds_0 (by omega), ds_0 (by omega)]
        · have b := B (i - μ.1 P 1).toNat
          have b2 := B (i + 1 - μ.1 P 1).toNat
          rw [show μ.1 P 1 + (((i - μ.1 P 1).toNat : Nat) : Int) = i by omega] at b
          rw [show μ.1 P 1 + (((i + 1 - μ.1 P 1).toNat : Nat) : Int) = i + 1 by omega] at b2
          rw [b.2.2, b2.2.2]
/-- the beginning; a function more; its code -/
theorem PG.nil {μ : M3} {P t : Int} (h1 : μ.1 P 1 = 0) (h7 : μ.1 P 7 = 0) : PG μ P t := by
  refine ⟨?_, by rw [h1]; exact cs_0 (Int.le_refl 0), fun f f0 f1 => by omega⟩
  rw [h1]
  exact SgX.mn (SgX.nil (Int.le_refl 0)) (by decide) (fun _ _ _ z => z)
theorem PG.fr {K : List Int} {μ ν : M3} {P t : Int} (h : PG μ P t) (F : Fr K μ ν) (p1 : P ∉ K) (p2 : P + 1 ∉ K) (p7 : P + 7 ∉ K) : PG ν P t := by
  obtain ⟨a, b, c⟩ := h
  have E := EXT.fr F p1 p2
  have z := fun i (hi : i ≤ μ.1 P 1) => E.fo (t := t) i hi
  refine ⟨?_, ?_, fun f f0 f1 => ?_⟩
  · rw [F.1 P p1 1]; exact a.fr F p1 p2 (Int.le_refl _)
  · rw [F.1 P p1 1, (z _ (Int.le_refl _)).2.1]; exact b
  · rw [F.1 P p1 7] at f1
    rw [F.1 (P + 7) p7 f, F.1 P p1 1]
    obtain ⟨q1, q2, q3⟩ := c f f0 f1
    rw [(z _ q1.2).2.1, (z _ q1.2).2.2]
    exact ⟨q1, q2, q3⟩
theorem PG.hc {μ : M3} {P t : Int} (h : PG μ P t) : HC μ P t 0 := ⟨h.1.1.2, by rw [h.1.2.1, hs_0 (Int.le_refl 0)]; rfl, h.2.1⟩
/-- the next function begins at the end -/
theorem PG.fn {μ ν : M3} {P t : Int} (h : PG μ P t) (l1 : ν.1 P 1 = μ.1 P 1) (hk : ∀ i k, cdp ν P i k = cdp μ P i k) (hs : (ν.1 P 7 = μ.1 P 7 ∧ ∀ j, ν.1 (P + 7) j = μ.1 (P + 7) j) ∨ (0 ≤ μ.1 P 7 ∧ ν.1 P 7 = μ.1 P 7 + 1 ∧ ν.1 (P + 7) (μ.1 P 7) = μ.1 P 1 ∧ ∀ j, j ≠ μ.1 P 7 → ν.1 (P + 7) j = μ.1 (P + 7) j)) : PG ν P t := by
  obtain ⟨a, b, c⟩ := h
  have E : EXT μ ν P := ⟨by omega, fun i k _ _ => hk i k⟩
  have z := fun i (hi : i ≤ μ.1 P 1) => E.fo (t := t) i hi
  have d0 : ds μ P t (μ.1 P 1) = 0 := by rw [a.2.2.2.1]; exact ds_0 (Int.le_refl 0)
  refine ⟨?_, ?_, fun f f0 f1 => ?_⟩
  · rw [l1]; exact SgX.kp a (E.kp a.1.2 (Int.le_refl _))
  · rw [l1, (z _ (Int.le_refl _)).2.1]; exact b
  · rw [l1]
    rcases hs with ⟨s1, s2⟩ | ⟨s0, s1, s2, s3⟩
    · rw [s2]
      obtain ⟨q1, q2, q3⟩ := c f f0 (by omega)
      rw [(z _ q1.2).2.1, (z _ q1.2).2.2]
      exact ⟨q1, q2, q3⟩
    · by_cases hf : f = μ.1 P 7
      · rw [hf, s2, (z _ (Int.le_refl _)).2.1, (z _ (Int.le_refl _)).2.2]
        exact ⟨⟨a.1.2, Int.le_refl _⟩, b, d0⟩
      · rw [s3 f hf]
        obtain ⟨q1, q2, q3⟩ := c f f0 (by omega)
        rw [(z _ q1.2).2.1, (z _ q1.2).2.2]
        exact ⟨q1, q2, q3⟩
theorem PG.ex {μ ν : M3} {P t M : Int} (h : PG μ P t) (e : EX μ ν P t 0 M) (hM : M ≤ 16) (h7 : ν.1 P 7 = μ.1 P 7) (hs : ∀ j, ν.1 (P + 7) j = μ.1 (P + 7) j) : PG ν P t := by
  obtain ⟨a, b, c⟩ := h
  have z := fun i (hi : i ≤ μ.1 P 1) => e.1.fo (t := t) i hi
  have s := Sg.app (SgX.kp a (e.1.kp a.1.2 (Int.le_refl _))) (e.2.mn hM)
  refine ⟨s, ?_, fun f f0 f1 => ?_⟩
  · have l := e.1.1
    by_cases hb : μ.1 P 1 < ν.1 P 1
    · exact e.2.2.2.1 hb
    · have : ν.1 P 1 = μ.1 P 1 := by omega
      rw [this, (z _ (Int.le_refl _)).2.1]; exact b
  · rw [h7] at f1
    rw [hs]
    obtain ⟨q1, q2, q3⟩ := c f f0 f1
    rw [(z _ q1.2).2.1, (z _ q1.2).2.2]
    exact ⟨⟨q1.1, by have := e.1.1; omega⟩, q2, q3⟩
theorem TK.pl {μ : M3} (h : TK μ) : 0 ≤ μ.1 26 13 := h.2.2.2.1
/-- a program that isn't the draft -/
def vb (L : Int → List Int) : Bool := [(13 : Int), 71, 81, 91, 101].all (fun P => [(13 : Int), 71, 81, 91, 101].all (fun p => !(L P).contains (p + 8) && !(L P).contains (p + 9)))
theorem vrk.fP {P : Int} {L : Int → List Int} {μ ν : M3} (hp : isPr P) (hL : vb L = true) (F : Fr (L P) μ ν) (h : vrk μ) : vrk ν := by
  have key : ∀ p, isPr p → p + 8 ∉ L P ∧ p + 9 ∉ L P := by
    intro p hp2
    have hm : ∀ x, isPr x → x ∈ [(13 : Int), 71, 81, 91, 101] := by
      intro x hx
      rcases hx with rfl | rfl | rfl | rfl | rfl <;> decide
    have q := List.all_eq_true.1 (List.all_eq_true.1 hL P (hm P hp)) p (hm p hp2)
    simpa using q
  intro p k hp2
  obtain ⟨k8, k9⟩ := key p hp2
  rw [F.1 _ k8 k, F.1 _ k9 k]
  exact h p k hp2
def ob (L : Int → List Int) : Bool := [(13 : Int), 71, 81, 91, 101].all (fun P => [(13 : Int), 71, 81, 91, 101].all (fun p => p == P || (!(L P).contains p && !(L P).contains (p + 1) && !(L P).contains (p + 7))))
theorem TCp.fP {P p t : Int} {L : Int → List Int} {μ ν : M3} {h c d : Int → Int} (hp : isPr P) (hq : isPr p) (hne : p ≠ P) (hL : ob L = true) (F : Fr (L P) μ ν) (hT : TCp μ p t h c d) : TCp ν p t h c d := by
  have hm : ∀ x, isPr x → x ∈ [(13 : Int), 71, 81, 91, 101] := by
    intro x hx
    rcases hx with rfl | rfl | rfl | rfl | rfl <;> decide
  have q := List.all_eq_true.1 (List.all_eq_true.1 hL P (hm P hp)) p (hm p hq)
  have q2 : p ∉ L P ∧ p + 1 ∉ L P ∧ p + 7 ∉ L P := by
    have : ¬ (p == P) = true := by simpa using hne
    simp only [Bool.or_eq_true, this, false_or] at q
    simpa [and_assoc] using q
  obtain ⟨a1, a2, a3, a4⟩ := hT
  refine ⟨a1, ?_, ?_, fun i => (a4 i).fr F q2.1 q2.2.1⟩
  · rw [F.1 p q2.1 1]; exact a2
  · intro f h0 h7
    rw [F.1 p q2.1 7] at h7
    rw [F.1 (p + 7) q2.2.2 f]
    exact a3 f h0 h7
/-- what holds of the class between calls -/
def DI (μ : M3) : Prop := isPr (μ.1 0 6) ∧ (∀ t, 0 ≤ t → t ≤ 3 → isPr (μ.1 12 t) ∧ μ.1 12 t ≠ μ.1 0 6) ∧ ∀ t u, 0 ≤ t → t < u → u ≤ 3 → μ.1 12 t ≠ μ.1 12 u
def CI (μ : M3) : Prop := (∃ hh cc dd, TA μ hh cc dd) ∧ vrk μ ∧ DI μ ∧ (0 ≤ μ.1 70 8 ∧ μ.1 70 8 ≤ 80000)
theorem CI.fr {K : List Int} {μ ν : M3} (h : CI μ) (F : Fr K μ ν) (h1 : npL K = true) (h2 : 0 ∉ K ∨ ∀ j, j ≠ 1 → ν.1 0 j = μ.1 0 j) (h3 : 12 ∉ K) (h4 : 70 ∉ K) : CI ν := by
  obtain ⟨⟨hh, cc, dd, a⟩, b, c, d⟩ := h
  have e0 : ν.1 0 6 = μ.1 0 6 := h2.elim (fun q => F.1 0 q 6) (fun q => q 6 (by decide))
  refine ⟨⟨hh, cc, dd, a.fr F h1⟩, b.fr F h1, ?_, by rw [F.1 70 h4]; exact d⟩
  unfold DI at *
  simp only [e0, F.1 12 h3]
  exact c
theorem isPr.m {x : Int} (hx : isPr x) : 13 ≤ x ∧ x ≤ 101 := by rcases hx with h | h | h | h | h <;> omega
theorem CI.run {K : List Int} {μ ν : M3} (h : CI μ) (F : Fr K μ ν) (h1 : npL K = true) (h2 : 0 ∉ K) (h3 : 12 ∉ K) (h4 : 0 ≤ ν.1 70 8 ∧ ν.1 70 8 ≤ 80000) : CI ν := by
  obtain ⟨⟨hh, cc, dd, a⟩, b, c, d⟩ := h
  refine ⟨⟨hh, cc, dd, a.fr F h1⟩, b.fr F h1, ?_, h4⟩
  unfold DI at *
  simp only [F.1 0 h2, F.1 12 h3]
  exact c
theorem CI.keep {P : Int} {L : Int → List Int} {μ ν : M3} (h : CI μ) (hP : P = μ.1 0 6) (hL : ob L = true) (F : Fr (L P) μ ν) (h0 : ν.1 0 6 = μ.1 0 6) (h3 : 12 ∉ L P) (h4 : 70 ∉ L P) (hv : vrk ν) : CI ν := by
  obtain ⟨⟨hh, cc, dd, a⟩, b, c, d⟩ := h
  refine ⟨⟨hh, cc, dd, ?_⟩, hv, ?_, by rw [F.1 70 h4]; exact d⟩
  · intro t t0 t3
    have q := a t t0 t3
    have q2 := c.2.1 t t0 t3
    rw [F.1 12 h3 t]
    exact ⟨q.1, q.2.fP (by rw [hP]; exact c.1) q.1 (by rw [hP]; exact q2.2) hL F⟩
  · unfold DI at *
    simp only [h0, F.1 12 h3]
    exact c
theorem CI.swap {P t : Int} {μ ν : M3} (h : CI μ) (ht : 0 ≤ t ∧ t ≤ 3) (hP : P = μ.1 0 6) (hg : PG μ P t) (hb : μ.1 P 1 ≤ 8000) (F : Fr [0, 12] μ ν) (e1 : ν.1 12 t = P) (e2 : ∀ j, j ≠ t → ν.1 12 j = μ.1 12 j) (e0 : ν.1 0 6 = μ.1 12 t) : CI ν := by
  obtain ⟨⟨hh, cc, dd, a⟩, b, c, d⟩ := h
  have hPr : isPr P := by rw [hP]; exact c.1
  have tc := TCp.of hg hb
  have nl : npL [0, 12] = true ∨ True := Or.inr trivial
  have cd : ∀ p, isPr p → (p ∉ ([0, 12] : List Int) ∧ p + 1 ∉ ([0, 12] : List Int) ∧ p + 7 ∉ ([0, 12] : List Int)) ∧ (p + 8 ∉ ([0, 12] : List Int) ∧ p + 9 ∉ ([0, 12] : List Int)) := by
    intro p hp
    rcases hp with rfl | rfl | rfl | rfl | rfl <;> decide
  have kp : ∀ (p u : Int) (h c d : Int → Int), isPr p → TCp μ p u h c d → TCp ν p u h c d := by
    intro p u h c d hp hT
    obtain ⟨q1, q2, q3⟩ := (cd p hp).1
    obtain ⟨a1, a2, a3, a4⟩ := hT
    refine ⟨a1, ?_, ?_, fun i => (a4 i).fr F q1 q2⟩
    · rw [F.1 p q1 1]; exact a2
    · intro f h0 h7
      rw [F.1 p q1 7] at h7
      rw [F.1 (p + 7) q3 f]
      exact a3 f h0 h7
  refine ⟨⟨fun u => if u = t then hs μ P else hh u, fun u => if u = t then cs μ P t else cc u, fun u => if u = t then ds μ P t else dd u, ?_⟩, ?_, ?_, by rw [F.1 70 (by decide)]; exact d⟩
  · intro u u0 u3
    by_cases hu : u = t
    · subst hu
      show isPr (ν.1 12 u) ∧ TCp ν (ν.1 12 u) u (if u = u then _ else _) (if u = u then _ else _) (if u = u then _ else _)
      rw [e1, if_pos rfl, if_pos rfl, if_pos rfl]
      exact ⟨hPr, kp _ _ _ _ _ hPr tc⟩
    · show isPr (ν.1 12 u) ∧ TCp ν (ν.1 12 u) u (if u = t then _ else _) (if u = t then _ else _) (if u = t then _ else _)
      rw [e2 u hu, if_neg hu, if_neg hu, if_neg hu]
      have q := a u u0 u3
      exact ⟨q.1, kp _ _ _ _ _ q.1 q.2⟩
  · intro p k hp
    have q := (cd p hp).2
    rw [F.1 _ q.1 k, F.1 _ q.2 k]
    exact b p k hp
  · obtain ⟨c1, c2, c3⟩ := c
    have dj : ∀ u v, 0 ≤ u → u ≤ 3 → 0 ≤ v → v ≤ 3 → u ≠ v → μ.1 12 u ≠ μ.1 12 v := by
      intro u v u0 u3 v0 v3 huv
      by_cases hl : u < v
      · exact c3 u v u0 hl v3
      · exact fun z => c3 v u v0 (by omega) u3 z.symm
    refine ⟨by rw [e0]; exact (c2 t ht.1 ht.2).1, fun u u0 u3 => ?_, fun u v u0 uv v3 => ?_⟩
    · rw [e0]
      by_cases hu : u = t
      · rw [hu, e1]; exact ⟨hPr, fun z => (c2 t ht.1 ht.2).2 (by rw [← hP, z])⟩
      · rw [e2 u hu]; exact ⟨(c2 u u0 u3).1, dj u t u0 u3 ht.1 ht.2 hu⟩
    · by_cases hu : u = t
      · rw [hu, e1, e2 v (by omega)]
        exact fun z => (c2 v (by omega) v3).2 (by rw [← hP, z])
      · rw [e2 u hu]
        by_cases hv : v = t
        · rw [hv, e1]; exact fun z => (c2 u u0 (by omega)).2 (by rw [← hP, z])
        · rw [e2 v hv]; exact c3 u v u0 uv v3
theorem vrk.s8 {μ : M3} {P i x : Int} (h : vrk μ) (hp : isPr P) (hx : 0 ≤ x ∧ x ≤ 100000) : vrk (sv μ (P + 8) i x) := by
  intro p k hq
  have h1 : p + 9 ≠ P + 8 := by rcases hp with q | q | q | q | q <;> rcases hq with r | r | r | r | r <;> omega
  have e9 : (sv μ (P + 8) i x).1 (p + 9) k = μ.1 (p + 9) k := sv_n _ (fun z => h1 z.1)
  rw [e9]
  refine ⟨(h p k hq).1, ?_⟩
  by_cases e : p + 8 = P + 8 ∧ k = i
  · rw [e.1, e.2, sv_s]; exact hx
  · rw [sv_n _ e]; exact (h p k hq).2
theorem vrk.s9 {μ : M3} {P i x : Int} (h : vrk μ) (hp : isPr P) (hx : 0 ≤ x ∧ x ≤ 1000) : vrk (sv μ (P + 9) i x) := by
  intro p k hq
  have h1 : p + 8 ≠ P + 9 := by rcases hp with q | q | q | q | q <;> rcases hq with r | r | r | r | r <;> omega
  have e9 : (sv μ (P + 9) i x).1 (p + 8) k = μ.1 (p + 8) k := sv_n _ (fun z => h1 z.1)
  rw [e9]
  refine ⟨?_, (h p k hq).2⟩
  by_cases e : p + 9 = P + 9 ∧ k = i
  · rw [e.1, e.2, sv_s]; exact hx
  · rw [sv_n _ e]; exact (h p k hq).1
