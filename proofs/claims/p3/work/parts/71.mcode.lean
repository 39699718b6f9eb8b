/-! the reference: its code, typed by folds over it -/
def cdm (μ : M3) (b i k : Int) : Int := if k = 0 then μ.1 115 (b + i) else if k = 1 then μ.1 116 (b + i) else μ.1 117 (b + i)
def eem (o s : Int) : Int := if o = 1 ∨ o = 2 ∨ o = 3 ∨ o = 27 ∨ o = 28 then 1 else if o = 4 ∨ o = 6 ∨ o = 7 ∨ o = 9 ∨ o = 10 ∨ o = 11 ∨ o = 18 ∨ o = 20 ∨ o = 24 ∨ o = 31 ∨ o = 34 then -1 else if o = 5 then -3 else if o = 25 then 1 - s.tdiv 4 else if o = 26 then - s else 0
def cem (t o c : Int) : Int := if o = 0 then (if t = 0 then 2 else 1) else if o = 12 ∨ o = 14 ∨ o = 19 ∨ o = 21 then max (c - 1) 0 else 0
def dem (t p o : Int) : Int := if o = 12 ∨ o = 14 ∨ o = 19 ∨ o = 21 then 1 else if o = 15 ∨ o = 17 then -1 else if o = 16 then (if t = 3 then -1 else 0) else if o = 8 then (if t = 3 ∧ p = 17 then 1 else 0) else 0
def bem (t p o d : Int) (k : Int → Int) : Int → Int := fun j => if o = 12 then (if j = d then 0 else k j) else if o = 14 then (if j = d then 1 else k j) else if o = 19 then (if j = d then 3 else k j) else if o = 21 then (if j = d then 4 else k j) else if o = 16 then (if t ≠ 3 ∧ j = d - 1 then 2 else k j) else if o = 8 then (if t = 3 ∧ p = 14 ∧ j = d - 1 then 2 else if t = 3 ∧ p = 17 ∧ j = d then 1 else k j) else k j
def mpN (μ : M3) (b : Int) : Nat → Int
  | 0 => 0
  | n + 1 => cdm μ b n 0
def mhN (μ : M3) (b : Int) : Nat → Int
  | 0 => 0
  | n + 1 => mhN μ b n + eem (cdm μ b n 0) (cdm μ b n 2)
def mcN (μ : M3) (b t : Int) : Nat → Int
  | 0 => 0
  | n + 1 => cem t (cdm μ b n 0) (mcN μ b t n)
def mdN (μ : M3) (b t : Int) : Nat → Int
  | 0 => 0
  | n + 1 => mdN μ b t n + dem t (mpN μ b n) (cdm μ b n 0)
def mkN (μ : M3) (b t : Int) : Nat → Int → Int
  | 0 => fun _ => 0
  | n + 1 => bem t (mpN μ b n) (cdm μ b n 0) (mdN μ b t n) (mkN μ b t n)
def mp (μ : M3) (b i : Int) : Int := mpN μ b i.toNat
def mh (μ : M3) (b i : Int) : Int := mhN μ b i.toNat
def mc (μ : M3) (b t i : Int) : Int := mcN μ b t i.toNat
def md (μ : M3) (b t i : Int) : Int := mdN μ b t i.toNat
def mk (μ : M3) (b t i : Int) : Int → Int := mkN μ b t i.toNat
theorem mp_s {μ : M3} {b i : Int} (h : 0 ≤ i) : mp μ b (i + 1) = cdm μ b i 0 := by
  unfold mp; rw [toN h]; show cdm μ b ((i.toNat : Nat) : Int) 0 = _; rw [Int.toNat_of_nonneg h]
theorem mh_s {μ : M3} {b i : Int} (h : 0 ≤ i) : mh μ b (i + 1) = mh μ b i + eem (cdm μ b i 0) (cdm μ b i 2) := by
  unfold mh; rw [toN h]; show mhN μ b i.toNat + eem (cdm μ b ((i.toNat : Nat) : Int) 0) (cdm μ b ((i.toNat : Nat) : Int) 2) = _; rw [Int.toNat_of_nonneg h]
theorem mc_s {μ : M3} {b t i : Int} (h : 0 ≤ i) : mc μ b t (i + 1) = cem t (cdm μ b i 0) (mc μ b t i) := by
  unfold mc; rw [toN h]; show cem t (cdm μ b ((i.toNat : Nat) : Int) 0) (mcN μ b t i.toNat) = _; rw [Int.toNat_of_nonneg h]
theorem md_s {μ : M3} {b t i : Int} (h : 0 ≤ i) : md μ b t (i + 1) = md μ b t i + dem t (mp μ b i) (cdm μ b i 0) := by
  unfold md mp; rw [toN h]; show mdN μ b t i.toNat + dem t (mpN μ b i.toNat) (cdm μ b ((i.toNat : Nat) : Int) 0) = _; rw [Int.toNat_of_nonneg h]
theorem mk_s {μ : M3} {b t i : Int} (h : 0 ≤ i) : mk μ b t (i + 1) = bem t (mp μ b i) (cdm μ b i 0) (md μ b t i) (mk μ b t i) := by
  unfold mk md mp; rw [toN h]; show bem t (mpN μ b i.toNat) (cdm μ b ((i.toNat : Nat) : Int) 0) (mdN μ b t i.toNat) (mkN μ b t i.toNat) = _; rw [Int.toNat_of_nonneg h]
theorem mc_r {μ : M3} {b t i : Int} : 0 ≤ mc μ b t i ∧ mc μ b t i ≤ 2 := by
  unfold mc
  induction i.toNat with
  | zero => exact ⟨Int.le_refl 0, by show (0 : Int) ≤ 2; omega⟩
  | succ n ih =>
    show 0 ≤ cem t (cdm μ b n 0) (mcN μ b t n) ∧ cem t (cdm μ b n 0) (mcN μ b t n) ≤ 2
    unfold cem
    split
    · split <;> omega
    split
    · omega
    · omega
/-- as deep, with the same open parts -/
def msd (μ : M3) (b t i x : Int) : Prop := md μ b t x = md μ b t i ∧ ∀ j, j < md μ b t i → mk μ b t x j = mk μ b t i j
/-- the names told so far, the function's slots so far -/
abbrev NS := Int × Int
def nle (a b : NS) : Prop := a.1 ≤ b.1 ∧ a.2 ≤ b.2
theorem NS.rf {a : NS} : nle a a := ⟨Int.le_refl _, Int.le_refl _⟩
theorem NS.tr {a b c : NS} (h : nle a b) (g : nle b c) : nle a c := ⟨Int.le_trans h.1 g.1, Int.le_trans h.2 g.2⟩
def nS (μ : M3) : NS := ⟨μ.1 111 29, μ.1 111 31⟩
theorem nS.le {μ ν : M3} (h : μ.1 111 29 ≤ ν.1 111 29) (g : μ.1 111 31 ≤ ν.1 111 31) : nle (nS μ) (nS ν) := ⟨h, g⟩
def mtg (μ : M3) (b t A B x : Int) : Prop := A ≤ x ∧ x ≤ B ∧ mc μ b t x = 0
/-- N: the names told so far; sn: what is no signalling NaN -/
def sn (x : Int) : Prop := vn_snl2d (jv x) = false
/-- the signs of two parts -/
def sgn (c : Int) : Prop := c = 43 ∨ c = 45 ∨ c = 42 ∨ c = 47 ∨ c = 37 ∨ c = 60 ∨ c = 62 ∨ c = 316 ∨ c = 318 ∨ c = 317 ∨ c = 289
def lcq0 (μ : M3) (b t : Int) (N : NS) (i A B o f s : Int) : Prop :=
  (o = 1 → t = 3 → sn f) ∧
  ((o = 3 ∨ o = 4 → 0 ≤ f ∧ f < 320) ∧ (o = 3 → f < N.2)) ∧
  (o = 4 ∨ o = 6 ∨ o = 9 ∨ o = 10 ∨ o = 22 ∨ o = 23 ∨ o = 29 ∨ o = 30 ∨ o = 32 → 1 ≤ mh μ b i) ∧
  (o = 5 → 3 ≤ mh μ b i) ∧
  (o = 7 → 1 ≤ mh μ b i ∧ mtg μ b t A B f ∧ i < f ∧ mh μ b f = mh μ b i - 1 ∧ msd μ b t i f) ∧
  (o = 8 → ((mtg μ b t A B f ∧ i < f) ∨ (A ≤ f ∧ f ≤ i ∧ 1 ≤ mc μ b t i ∧ mc μ b t f ≤ mc μ b t i ∧ ¬ (cdm μ b f 0 = 8 ∧ cdm μ b f 1 ≤ f))) ∧ mh μ b f = mh μ b i ∧ msd μ b t i f) ∧
  (o = 11 ∨ o = 20 → (t = 0 ∨ t = 3) ∧ 1 ≤ mh μ b i ∧ 1 ≤ f ∧ f < N.1) ∧
  (o = 12 → t = 0 ∧ 1 ≤ mc μ b t i ∧ mh μ b i = 0 ∧ A ≤ f ∧ f < B ∧ cdm μ b f 0 = 13 ∧ msd μ b t i f) ∧
  (o = 13 → (t = 0 ∧ s = -1) ∨ (0 ≤ f ∧ f < 320 ∧ (t = 3 ∨ (t = 0 ∧ mh μ b i = 0 ∧ i + 2 ≤ B ∧ cdm μ b (i + 1) 0 = 8 ∧ A ≤ cdm μ b (i + 1) 1 ∧ cdm μ b (i + 1) 1 < B ∧ i < cdm μ b (i + 1) 1 ∧ cdm μ b (cdm μ b (i + 1) 1) 0 = 13 ∧ msd μ b t i (cdm μ b (i + 1) 1))))) ∧
  (o = 14 → t ≠ 1 ∧ (t = 3 → i + 1 < B) ∧ 1 ≤ mc μ b t i ∧ mh μ b i = 0 ∧ mtg μ b t A B f ∧ mh μ b f = 0 ∧ md μ b t f = md μ b t i + 1 ∧ mk μ b t f (md μ b t i) = 2 ∧ ∀ j, j < md μ b t i → mk μ b t f j = mk μ b t i j) ∧
  (o = 15 → md μ b t A + 1 ≤ md μ b t i ∧ mh μ b i = 0) ∧
  (o = 16 → md μ b t A + 1 ≤ md μ b t i ∧ mh μ b i = 0 ∧ mk μ b t i (md μ b t i - 1) = 1) ∧
  (o = 17 → (t = 3 → i + 1 < B) ∧ md μ b t A + 1 ≤ md μ b t i ∧ mh μ b i = 0 ∧ mk μ b t i (md μ b t i - 1) = 2) ∧
  (o = 18 → t = 1 ∧ 1 ≤ mh μ b i) ∧
  (o = 19 ∨ o = 21 → (o = 19 → t = 1) ∧ (o = 21 → t = 3 ∧ i + 1 < B ∧ cdm μ b (i + 1) 0 = 13) ∧ 1 ≤ mc μ b t i ∧ mh μ b i = 0 ∧ mtg μ b t A B f ∧ mh μ b f = 0 ∧ msd μ b t i f) ∧
  (o = 24 ∨ o = 31 → 2 ≤ mh μ b i) ∧
  (o = 25 → 0 ≤ s ∧ s ≤ 400000 ∧ s.tdiv 4 ≤ mh μ b i) ∧
  (o = 26 → 0 ≤ s ∧ s ≤ 100000 ∧ s + 1 ≤ mh μ b i) ∧
  (o = 27 → 0 ≤ s ∧ s ≤ 3) ∧
  (o = 33 → t = 2 ∧ 0 ≤ s ∧ s + 1 ≤ mh μ b i ∧ mtg μ b t A B f ∧ i < f ∧ mh μ b f = mh μ b i - s ∧ msd μ b t i f) ∧
  (o = 34 → t = 2 ∧ 1 ≤ mh μ b i ∧ mtg μ b t A B f ∧ i < f ∧ mh μ b f = mh μ b i ∧ msd μ b t i f) ∧
  ((o = 28 → t = 1) ∧ (o = 31 → sgn f) ∧ (o = 29 → t = 2)) ∧
  (0 ≤ o ∧ o ≤ 34)
def lcq (μ : M3) (b t : Int) (N : NS) (i A B : Int) : Prop := lcq0 μ b t N i A B (cdm μ b i 0) (cdm μ b i 1) (cdm μ b i 2)
/-- a stretch of typed code: height e more at its end, at most H above its beginning; M parts open more; X: what waits -/
def mSX (μ : M3) (b t : Int) (N : NS) (A B e M H : Int) (X : Int → Prop) : Prop := (0 ≤ A ∧ A ≤ B) ∧ mh μ b B = mh μ b A + e ∧ (A < B → mc μ b t B = 0) ∧ md μ b t B = md μ b t A ∧ (∀ i, A ≤ i → i < B → ¬ X i → lcq μ b t N i A B) ∧ (∀ i, A ≤ i → i ≤ B → (md μ b t A ≤ md μ b t i ∧ md μ b t i ≤ md μ b t A + M) ∧ (0 ≤ mh μ b i ∧ mh μ b i ≤ mh μ b A + H) ∧ ∀ j, j < md μ b t A → mk μ b t i j = mk μ b t A j)
def mSg (μ : M3) (b t : Int) (N : NS) (A B e M H : Int) : Prop := mSX μ b t N A B e M H NX
/-- what a stretch rests on is kept: ops, folds; the rest of what isn't in Y -/
def mKX (μ ν : M3) (b t A B : Int) (Y : Int → Prop) : Prop := (∀ i k, kk k → A ≤ i → i < B → (k ≠ 0 → ¬ Y i) → cdm ν b i k = cdm μ b i k) ∧ (∀ i, A ≤ i → i ≤ B → mh ν b i = mh μ b i ∧ mc ν b t i = mc μ b t i ∧ md ν b t i = md μ b t i ∧ ∀ j, mk ν b t i j = mk μ b t i j)
theorem mKX.tr {μ ν π : M3} {b t A B : Int} {Y : Int → Prop} (h : mKX μ ν b t A B Y) (h2 : mKX ν π b t A B Y) : mKX μ π b t A B Y := ⟨fun i k hk ha hb hy => (h2.1 i k hk ha hb hy).trans (h.1 i k hk ha hb hy), fun i ha hb => ⟨(h2.2 i ha hb).1.trans (h.2 i ha hb).1, (h2.2 i ha hb).2.1.trans (h.2 i ha hb).2.1, (h2.2 i ha hb).2.2.1.trans (h.2 i ha hb).2.2.1, fun j => ((h2.2 i ha hb).2.2.2 j).trans ((h.2 i ha hb).2.2.2 j)⟩⟩
theorem mKX.mn {μ ν : M3} {b t A B : Int} {Y Z : Int → Prop} (h : mKX μ ν b t A B Y) (hz : ∀ i, A ≤ i → i < B → Y i → Z i) : mKX μ ν b t A B Z := ⟨fun i k hk ha hb hy => h.1 i k hk ha hb (fun z q => hy z (hz i ha hb q)), h.2⟩
theorem lcq.kx {μ ν : M3} {b t : Int} {N N2 : NS} {i A B : Int} {Y : Int → Prop} (h : lcq μ b t N i A B) (hk : mKX μ ν b t A B Y) (h1 : A ≤ i) (h2 : i < B) (hy : ¬ Y i) (hy1 : cdm μ b i 0 = 13 → cdm μ b (i + 1) 0 = 8 → i < cdm μ b (i + 1) 1 → ¬ Y (i + 1)) (hN : nle N N2) (hy8 : ∀ x, A ≤ x → x < B → Y x → cdm ν b x 0 = 8 → x < cdm ν b x 1) : lcq ν b t N2 i A B := by
  have op : ∀ x, A ≤ x → x < B → cdm ν b x 0 = cdm μ b x 0 := fun x x1 x2 => hk.1 x 0 k0 x1 x2 (fun z => absurd rfl z)
  have hi := hk.2 i h1 (by omega)
  have sd : ∀ x, A ≤ x → x ≤ B → msd μ b t i x → msd ν b t i x := fun x x1 x2 q => by
    have hx := hk.2 x x1 x2
    refine ⟨by rw [hx.2.2.1, hi.2.2.1]; exact q.1, fun j hj => ?_⟩
    rw [hx.2.2.2, hi.2.2.2]; exact q.2 j (by rw [← hi.2.2.1]; exact hj)
  have tg : ∀ x, mtg μ b t A B x → mtg ν b t A B x := fun x q => ⟨q.1, q.2.1, by rw [(hk.2 x q.1 q.2.1).2.1]; exact q.2.2⟩
  have dA : md ν b t A = md μ b t A := (hk.2 A (by omega) (by omega)).2.2.1
  unfold lcq at *
  rw [op i h1 h2, hk.1 i 1 k1 h1 h2 (fun _ => hy), hk.1 i 2 k2 h1 h2 (fun _ => hy)]
  obtain ⟨r1, r3, r4, r5, r7, r8, r11, r12, r13, r14, r15, r16, r17, r18, r19, r24, r25, r26, r27, r33, r34, r28, rr⟩ := h
  refine ⟨r1, ⟨r3.1, fun o => Int.lt_of_lt_of_le (r3.2 o) hN.2⟩, fun o => ?_, fun o => ?_, fun o => ?_, fun o => ?_, fun o => ?_, fun o => ?_, fun o => ?_, fun o => ?_, fun o => ?_, fun o => ?_, fun o => ?_, fun o => ?_, fun o => ?_, fun o => ?_, fun o => ?_, fun o => ?_, r27, fun o => ?_, fun o => ?_, r28, rr⟩
  · rw [hi.1]; exact r4 o
  · rw [hi.1]; exact r5 o
  · obtain ⟨q1, q2, q3, q4, q5⟩ := r7 o
    exact ⟨by rw [hi.1]; exact q1, tg _ q2, q3, by rw [hi.1, (hk.2 _ q2.1 q2.2.1).1]; exact q4, sd _ q2.1 q2.2.1 q5⟩
  · obtain ⟨q2, q4, q5⟩ := r8 o
    have hr : A ≤ cdm μ b i 1 ∧ cdm μ b i 1 ≤ B := by
      rcases q2 with q | q
      · exact ⟨q.1.1, q.1.2.1⟩
      · exact ⟨q.1, by have := q.2.1; omega⟩
    refine ⟨?_, by rw [hi.1, (hk.2 _ hr.1 hr.2).1]; exact q4, sd _ hr.1 hr.2 q5⟩
    rcases q2 with q | ⟨z1, z2, z3, z4, z5⟩
    · exact Or.inl ⟨tg _ q.1, q.2⟩
    · have hf : cdm μ b i 1 < B := by omega
      refine Or.inr ⟨z1, z2, by rw [hi.2.1]; exact z3, by rw [hi.2.1, (hk.2 _ hr.1 hr.2).2.1]; exact z4, fun w => ?_⟩
      rcases Classical.em (Y (cdm μ b i 1)) with y | y
      · have := hy8 _ z1 hf y w.1
        omega
      · rw [op _ z1 hf, hk.1 _ 1 k1 z1 hf (fun _ => y)] at w
        exact z5 w
  · obtain ⟨q1, q2, q3, q4⟩ := r11 o
    exact ⟨q1, by rw [hi.1]; exact q2, q3, Int.lt_of_lt_of_le q4 hN.1⟩
  · obtain ⟨q1, q2, q3, q4, q5, q6, q7⟩ := r12 o
    exact ⟨q1, by rw [hi.2.1]; exact q2, by rw [hi.1]; exact q3, q4, q5, by rw [op _ q4 q5]; exact q6, sd _ q4 (Int.le_of_lt q5) q7⟩
  · rcases r13 o with q | ⟨q1, q2, q | ⟨q3, q4, q5, q6, q7, q8, q9, q10, q11⟩⟩
    · exact Or.inl q
    · exact Or.inr ⟨q1, q2, Or.inl q⟩
    · have e1 : cdm ν b (i + 1) 1 = cdm μ b (i + 1) 1 := hk.1 _ 1 k1 (by omega) (by omega) (fun _ => hy1 o q6 q9)
      refine Or.inr ⟨q1, q2, Or.inr ⟨q3, by rw [hi.1]; exact q4, q5, by rw [op _ (by omega) (by omega)]; exact q6, by rw [e1]; exact q7, by rw [e1]; exact q8, by rw [e1]; exact q9, by rw [e1, op _ q7 q8]; exact q10, by rw [e1]; exact sd _ q7 (Int.le_of_lt q8) q11⟩⟩
  · obtain ⟨q1, q0, q2, q3, q4, q5, q6, q7, q8⟩ := r14 o
    have hx := hk.2 _ q4.1 q4.2.1
    refine ⟨q1, q0, by rw [hi.2.1]; exact q2, by rw [hi.1]; exact q3, tg _ q4, by rw [hx.1]; exact q5, by rw [hx.2.2.1, hi.2.2.1]; exact q6, by rw [hi.2.2.1, hx.2.2.2]; exact q7, fun j hj => ?_⟩
    rw [hx.2.2.2, hi.2.2.2]; exact q8 j (by rw [← hi.2.2.1]; exact hj)
  · rw [dA, hi.2.2.1, hi.1]; exact r15 o
  · rw [dA, hi.2.2.1, hi.1, hi.2.2.2]; exact r16 o
  · rw [dA, hi.2.2.1, hi.1, hi.2.2.2]; exact r17 o
  · rw [hi.1]; exact r18 o
  · obtain ⟨q1, q2, q3, q4, q5, q6, q7⟩ := r19 o
    refine ⟨q1, fun z => ?_, by rw [hi.2.1]; exact q3, by rw [hi.1]; exact q4, tg _ q5, by rw [(hk.2 _ q5.1 q5.2.1).1]; exact q6, sd _ q5.1 q5.2.1 q7⟩
    obtain ⟨z1, z2, z3⟩ := q2 z
    exact ⟨z1, z2, by rw [op _ (by omega) z2]; exact z3⟩
  · rw [hi.1]; exact r24 o
  · rw [hi.1]; exact r25 o
  · rw [hi.1]; exact r26 o
  · obtain ⟨q0, q1, q2, q3, q4, q5, q6⟩ := r33 o
    exact ⟨q0, q1, by rw [hi.1]; exact q2, tg _ q3, q4, by rw [hi.1, (hk.2 _ q3.1 q3.2.1).1]; exact q5, sd _ q3.1 q3.2.1 q6⟩
  · obtain ⟨q0, q1, q2, q3, q4, q5⟩ := r34 o
    exact ⟨q0, by rw [hi.1]; exact q1, tg _ q2, q3, by rw [hi.1, (hk.2 _ q2.1 q2.2.1).1]; exact q4, sd _ q2.1 q2.2.1 q5⟩
theorem lcq.up {μ : M3} {b t : Int} {N : NS} {i A B A2 B2 : Int} (h : lcq μ b t N i A B) (h1 : A2 ≤ A) (h2 : B ≤ B2) (h3 : md μ b t A2 ≤ md μ b t A) : lcq μ b t N i A2 B2 := by
  have tg : ∀ x, mtg μ b t A B x → mtg μ b t A2 B2 x := fun x q => ⟨Int.le_trans h1 q.1, Int.le_trans q.2.1 h2, q.2.2⟩
  obtain ⟨r1, r3, r4, r5, r7, r8, r11, r12, r13, r14, r15, r16, r17, r18, r19, r24, r25, r26, r27, r33, r34, r28, rr⟩ := h
  refine ⟨r1, r3, r4, r5, fun o => ?_, fun o => ?_, r11, fun o => ?_, fun o => ?_, fun o => ?_, fun o => ?_, fun o => ?_, fun o => ?_, r18, fun o => ?_, r24, r25, r26, r27, fun o => ?_, fun o => ?_, r28, rr⟩
  · obtain ⟨q1, q2, q3⟩ := r7 o; exact ⟨q1, tg _ q2, q3⟩
  · obtain ⟨q2, q3⟩ := r8 o; exact ⟨q2.elim (fun q => Or.inl ⟨tg _ q.1, q.2⟩) (fun q => Or.inr ⟨Int.le_trans h1 q.1, q.2⟩), q3⟩
  · obtain ⟨q1, q2, q3, q4, q5, q6⟩ := r12 o; exact ⟨q1, q2, q3, Int.le_trans h1 q4, Int.lt_of_lt_of_le q5 h2, q6⟩
  · rcases r13 o with q | ⟨q1, q2, q | ⟨q3, q4, q5, q6, q7, q8, q9⟩⟩
    · exact Or.inl q
    · exact Or.inr ⟨q1, q2, Or.inl q⟩
    · exact Or.inr ⟨q1, q2, Or.inr ⟨q3, q4, Int.le_trans q5 h2, q6, Int.le_trans h1 q7, Int.lt_of_lt_of_le q8 h2, q9⟩⟩
  · obtain ⟨q1, q0, q2, q3, q4, q5⟩ := r14 o; exact ⟨q1, fun z => Int.lt_of_lt_of_le (q0 z) h2, q2, q3, tg _ q4, q5⟩
  · exact ⟨by have := (r15 o).1; omega, (r15 o).2⟩
  · exact ⟨by have := (r16 o).1; omega, (r16 o).2⟩
  · exact ⟨fun z => Int.lt_of_lt_of_le ((r17 o).1 z) h2, by have := (r17 o).2.1; omega, (r17 o).2.2⟩
  · obtain ⟨q1, q2, q3, q4, q5, q6⟩ := r19 o
    exact ⟨q1, fun z => ⟨(q2 z).1, Int.lt_of_lt_of_le (q2 z).2.1 h2, (q2 z).2.2⟩, q3, q4, tg _ q5, q6⟩
  · obtain ⟨q0, q1, q2, q3, q4⟩ := r33 o; exact ⟨q0, q1, q2, tg _ q3, q4⟩
  · obtain ⟨q0, q1, q2, q3⟩ := r34 o; exact ⟨q0, q1, tg _ q2, q3⟩
theorem mSX.kx {μ ν : M3} {b t : Int} {N N2 : NS} {A B e M H : Int} {X Y : Int → Prop} (h : mSX μ b t N A B e M H X) (hk : mKX μ ν b t A B Y) (hN : nle N N2) (hY : ∀ i, A ≤ i → i < B → Y i → X i) (hY1 : ∀ i, A ≤ i → i < B → ¬ X i → cdm μ b i 0 = 13 → cdm μ b (i + 1) 0 = 8 → i < cdm μ b (i + 1) 1 → ¬ Y (i + 1)) (hY8 : ∀ x, A ≤ x → x < B → Y x → cdm ν b x 0 = 8 → x < cdm ν b x 1) : mSX ν b t N2 A B e M H X := by
  obtain ⟨h0, h1, h2, h3, h4, h5⟩ := h
  have ka := hk.2 A (by omega) h0.2
  have kb := hk.2 B h0.2 (by omega)
  refine ⟨h0, by rw [ka.1, kb.1]; exact h1, fun q => by rw [kb.2.1]; exact h2 q, by rw [ka.2.2.1, kb.2.2.1]; exact h3, fun i ha hb hX => (h4 i ha hb hX).kx hk ha hb (fun z => hX (hY i ha hb z)) (hY1 i ha hb hX) hN hY8, fun i ha hb => ?_⟩
  have hi := hk.2 i ha hb
  have q := h5 i ha hb
  refine ⟨by rw [ka.2.2.1, hi.2.2.1]; exact q.1, by rw [ka.1, hi.1]; exact q.2.1, fun j hj => ?_⟩
  rw [hi.2.2.2, ka.2.2.2]; exact q.2.2 j (by rw [← ka.2.2.1]; exact hj)
theorem mSX.app {μ : M3} {b t : Int} {N : NS} {A B C e f M H : Int} {X Y : Int → Prop} (h : mSX μ b t N A B e M H X) (g : mSX μ b t N B C f M (H - e) Y) : mSX μ b t N A C (e + f) M H (fun i => X i ∨ Y i) := by
  obtain ⟨h0, h1, h2, h3, h4, h5⟩ := h
  obtain ⟨g0, g1, g2, g3, g4, g5⟩ := g
  refine ⟨by omega, by omega, fun q => ?_, by omega, fun i ha hb hX => ?_, fun i ha hb => ?_⟩
  · by_cases hbc : B < C
    · exact g2 hbc
    · have : B = C := by omega
      rw [← this]; exact h2 (by omega)
  · by_cases hi : i < B
    · exact (h4 i ha hi (fun z => hX (Or.inl z))).up (Int.le_refl _) g0.2 (Int.le_refl _)
    · exact (g4 i (by omega) hb (fun z => hX (Or.inr z))).up h0.2 (Int.le_refl _) (by omega)
  · by_cases hi : i ≤ B
    · exact h5 i ha hi
    · have q := g5 i (by omega) hb
      have q0 := h5 B h0.2 (Int.le_refl _)
      refine ⟨by omega, by omega, fun j hj => ?_⟩
      rw [q.2.2 j (by omega)]; exact q0.2.2 j hj
theorem mSX.mn {μ : M3} {b t : Int} {N : NS} {A B e M H M2 H2 : Int} {X Y : Int → Prop} (h : mSX μ b t N A B e M H X) (hM : M ≤ M2) (hH : H ≤ H2) (hX : ∀ i, A ≤ i → i < B → X i → Y i) : mSX μ b t N A B e M2 H2 Y := by
  obtain ⟨h0, h1, h2, h3, h4, h5⟩ := h
  exact ⟨h0, h1, h2, h3, fun i ha hb hY => h4 i ha hb (fun z => hY (hX i ha hb z)), fun i ha hb => by have := h5 i ha hb; exact ⟨by omega, by omega, this.2.2⟩⟩
theorem mSX.cls {μ : M3} {b t : Int} {N : NS} {A B e M H : Int} {X Z : Int → Prop} (h : mSX μ b t N A B e M H X) (hX : ∀ i, A ≤ i → i < B → X i → Z i ∨ lcq μ b t N i A B) : mSX μ b t N A B e M H Z := by
  obtain ⟨h0, h1, h2, h3, h4, h5⟩ := h
  exact ⟨h0, h1, h2, h3, fun i ha hb hz => (Classical.em (X i)).elim (fun x => (hX i ha hb x).elim (fun z => absurd z hz) id) (h4 i ha hb), h5⟩
theorem mSX.nil {μ : M3} {b t : Int} {N : NS} {A : Int} (h : 0 ≤ A) (hh : 0 ≤ mh μ b A) {X : Int → Prop} : mSX μ b t N A A 0 0 0 X := ⟨⟨h, Int.le_refl A⟩, by omega, fun q => absurd q (by omega), rfl, fun i ha hb => absurd hb (by omega), fun i ha hb => by have e9 : i = A := (by omega); rw [e9]; exact ⟨by omega, by omega, fun _ _ => rfl⟩⟩
/-- one instruction that opens and leaves nothing -/
theorem mSX.one {μ : M3} {b t : Int} {N : NS} {A e : Int} {X : Int → Prop} (h : 0 ≤ A) (h0 : 0 ≤ mh μ b A) (he : eem (cdm μ b A 0) (cdm μ b A 2) = e) (h1 : 0 ≤ mh μ b A + e) (hc : cem t (cdm μ b A 0) (mc μ b t A) = 0) (hd : dem t (mp μ b A) (cdm μ b A 0) = 0) (hb : bem t (mp μ b A) (cdm μ b A 0) (md μ b t A) (mk μ b t A) = mk μ b t A) (hl : X A ∨ lcq μ b t N A A (A + 1)) : mSX μ b t N A (A + 1) e 0 (max e 0) X := by
  have d1 : md μ b t (A + 1) = md μ b t A := by rw [md_s h, hd]; omega
  have e1 : mh μ b (A + 1) = mh μ b A + e := by rw [mh_s h, he]
  refine ⟨⟨h, by omega⟩, e1, fun _ => by rw [mc_s h]; exact hc, d1, fun i ha hb hX => ?_, fun i ha hb2 => ?_⟩
  · have : i = A := by omega
    subst this
    exact hl.resolve_left hX
  · by_cases hi : i = A
    · subst hi; exact ⟨by omega, by omega, fun _ _ => rfl⟩
    · have : i = A + 1 := by omega
      subst this
      exact ⟨by omega, by omega, fun j _ => by rw [mk_s h, hb]⟩
