/-! code typed by folds: heights, guards that may be pushed, guards that stand -/
def eff (o f : Int) : Int := if o = 2 ∨ o = 3 ∨ o = 4 ∨ o = 15 ∨ o = 18 then 1 else if o = 5 ∨ o = 6 ∨ o = 7 ∨ o = 11 ∨ o = 20 ∨ o = 21 ∨ o = 22 ∨ o = 23 ∨ o = 24 ∨ o = 25 ∨ o = 27 then -1 else if o = 12 then -3 else if o = 13 then 1 - f.tdiv 4 else if o = 14 then - f.tdiv 4 else 0
def cef (t o c : Int) : Int := if o = 1 then (if t = 0 then 2 else 1) else if o < 1 ∨ 32 < o ∨ o = 28 then max (c - 1) 0 else 0
def def_ (t o : Int) : Int := if o = 28 then 1 else if o = 29 then -1 else if o = 32 then (if t = 3 then 0 else -1) else if o = 31 then (if t = 3 then -1 else 0) else 0
def hsN (μ : M3) (P : Int) : Nat → Int
  | 0 => 1
  | n + 1 => max 1 (hsN μ P n + eff (cdp μ P n 0) (cdp μ P n 1))
def csN (μ : M3) (P t : Int) : Nat → Int
  | 0 => 0
  | n + 1 => cef t (cdp μ P n 0) (csN μ P t n)
def dsN (μ : M3) (P t : Int) : Nat → Int
  | 0 => 0
  | n + 1 => dsN μ P t n + def_ t (cdp μ P n 0)
def hs (μ : M3) (P i : Int) : Int := hsN μ P i.toNat
def cs (μ : M3) (P t i : Int) : Int := csN μ P t i.toNat
def ds (μ : M3) (P t i : Int) : Int := dsN μ P t i.toNat
theorem toN {i : Int} (h : 0 ≤ i) : (i + 1).toNat = i.toNat + 1 := by omega
theorem hs_s {μ : M3} {P i : Int} (h : 0 ≤ i) : hs μ P (i + 1) = max 1 (hs μ P i + eff (cdp μ P i 0) (cdp μ P i 1)) := by
  unfold hs; rw [toN h]; show max 1 (hsN μ P i.toNat + eff (cdp μ P ((i.toNat : Nat) : Int) 0) (cdp μ P ((i.toNat : Nat) : Int) 1)) = _
  rw [Int.toNat_of_nonneg h]
theorem cs_s {μ : M3} {P t i : Int} (h : 0 ≤ i) : cs μ P t (i + 1) = cef t (cdp μ P i 0) (cs μ P t i) := by
  unfold cs; rw [toN h]; show cef t (cdp μ P ((i.toNat : Nat) : Int) 0) (csN μ P t i.toNat) = _
  rw [Int.toNat_of_nonneg h]
theorem ds_s {μ : M3} {P t i : Int} (h : 0 ≤ i) : ds μ P t (i + 1) = ds μ P t i + def_ t (cdp μ P i 0) := by
  unfold ds; rw [toN h]; show dsN μ P t i.toNat + def_ t (cdp μ P ((i.toNat : Nat) : Int) 0) = _
  rw [Int.toNat_of_nonneg h]
theorem hs_1 {μ : M3} {P i : Int} : 1 ≤ hs μ P i := by
  unfold hs
  cases i.toNat with
  | zero => exact Int.le_refl 1
  | succ n => exact Int.le_max_left _ _
theorem cef_r {t o c : Int} (h : 0 ≤ c ∧ c ≤ 2) : 0 ≤ cef t o c ∧ cef t o c ≤ 2 := by
  unfold cef
  split
  · split <;> omega
  · split <;> omega
theorem cs_r {μ : M3} {P t i : Int} : 0 ≤ cs μ P t i ∧ cs μ P t i ≤ 2 := by
  unfold cs
  induction i.toNat with
  | zero => exact ⟨Int.le_refl 0, by show (0 : Int) ≤ 2; omega⟩
  | succ n ih => exact cef_r ih
/-- a target of a jump -/
def tgj (μ : M3) (P t a b x : Int) : Prop := a ≤ x ∧ x ≤ b ∧ cs μ P t x = 0
def lcd0 (μ : M3) (P t i a b o f s : Int) : Prop :=
  (o = 13 ∨ o = 14 → 0 ≤ f ∧ f ≤ 400000) ∧
  (o = 19 → hs μ P i ≤ 1 ∧ tgj μ P t a b f ∧ ds μ P t f = ds μ P t i) ∧
  (o = 31 → hs μ P i ≤ 1 ∧ tgj μ P t a b f ∧ ds μ P t f = ds μ P t i ∧ t ≠ 1 ∧ ds μ P t a + 1 ≤ ds μ P t i) ∧
  (o = 20 → hs μ P i ≤ 2 ∧ tgj μ P t a b f ∧ ds μ P t f = ds μ P t i) ∧
  (o = 23 ∨ o = 24 ∨ o = 25 → t ≠ 2) ∧
  (o = 26 → 0 ≤ s ∧ s ≤ 100000 ∧ hs μ P i ≤ hs μ P f + s ∧ tgj μ P t a b f ∧ ds μ P t f = ds μ P t i) ∧
  (o = 27 → hs μ P i ≤ hs μ P f ∧ tgj μ P t a b f ∧ ds μ P t f = ds μ P t i) ∧
  (o = 28 → 1 ≤ cs μ P t i ∧ (s.tdiv 64 = 1 → a ≤ f ∧ f < b ∧ cdp μ P f 0 = 30 ∧ ds μ P t (f + 1) = ds μ P t i) ∧ (s.tdiv 64 = 4 → tgj μ P t a b f ∧ ds μ P t f = ds μ P t i + 1) ∧ (s.tdiv 64 ≠ 1 → s.tdiv 64 ≠ 4 → tgj μ P t a b f ∧ ds μ P t f = ds μ P t i) ∧ (t = 1 → s.tdiv 64 = 2)) ∧
  (o = 29 ∨ o = 32 → hs μ P i ≤ 1 ∧ tgj μ P t a b f ∧ ds μ P t f = ds μ P t i - 1 ∧ ds μ P t a + 1 ≤ ds μ P t i) ∧
  (o = 30 → s < 0 ∨ (a ≤ s ∧ s < b ∧ cdp μ P s 0 = 30 ∧ ds μ P t (s + 1) = ds μ P t (i + 1)))
def lcd (μ : M3) (P t i a b : Int) : Prop := lcd0 μ P t i a b (cdp μ P i 0) (cdp μ P i 1) (cdp μ P i 2)
/-- a stretch of typed code; X: what waits for its target -/
def SgX (μ : M3) (P t a b e M : Int) (X : Int → Prop) : Prop := (0 ≤ a ∧ a ≤ b) ∧ hs μ P b = hs μ P a + e ∧ (a < b → cs μ P t b = 0) ∧ ds μ P t b = ds μ P t a ∧ (∀ i, a ≤ i → i < b → ¬ X i → lcd μ P t i a b) ∧ (∀ i, a ≤ i → i ≤ b → ds μ P t a ≤ ds μ P t i ∧ ds μ P t i ≤ ds μ P t a + M)
def NX : Int → Prop := fun _ => False
def Sg (μ : M3) (P t a b e M : Int) : Prop := SgX μ P t a b e M NX
/-- what a stretch rests on is kept -/
def kk (k : Int) : Prop := 0 ≤ k ∧ k ≤ 3
theorem k0 : kk 0 := ⟨by decide, by decide⟩
theorem k1 : kk 1 := ⟨by decide, by decide⟩
theorem k2 : kk 2 := ⟨by decide, by decide⟩
def KP (μ ν : M3) (P t a b : Int) : Prop := (∀ i k, kk k → a ≤ i → i < b → cdp ν P i k = cdp μ P i k) ∧ (∀ i, a ≤ i → i ≤ b → hs ν P i = hs μ P i ∧ cs ν P t i = cs μ P t i ∧ ds ν P t i - ds ν P t a = ds μ P t i - ds μ P t a)
theorem KP.rf {μ : M3} {P t a b : Int} : KP μ μ P t a b := ⟨fun _ _ _ _ _ => rfl, fun _ _ _ => ⟨rfl, rfl, rfl⟩⟩
theorem KP.tr {μ ν π : M3} {P t a b : Int} (h : KP μ ν P t a b) (h2 : KP ν π P t a b) : KP μ π P t a b := ⟨fun i k hk ha hb => (h2.1 i k hk ha hb).trans (h.1 i k hk ha hb), fun i ha hb => ⟨(h2.2 i ha hb).1.trans (h.2 i ha hb).1, (h2.2 i ha hb).2.1.trans (h.2 i ha hb).2.1, (h2.2 i ha hb).2.2.trans (h.2 i ha hb).2.2⟩⟩
theorem KP.sub {μ ν : M3} {P t a b a2 b2 : Int} (h : KP μ ν P t a b) (h1 : a ≤ a2) (h2 : b2 ≤ b) (h3 : a2 ≤ b2) : KP μ ν P t a2 b2 := ⟨fun i k hk ha hb => h.1 i k hk (by omega) (by omega), fun i ha hb => ⟨(h.2 i (by omega) (by omega)).1, (h.2 i (by omega) (by omega)).2.1, by have := (h.2 i (by omega) (by omega)).2.2; have := (h.2 a2 (by omega) (by omega)).2.2; omega⟩⟩
theorem lcd.kp {μ ν : M3} {P t i a b : Int} (h : lcd μ P t i a b) (hk : KP μ ν P t a b) (h1 : a ≤ i) (h2 : i < b) : lcd ν P t i a b := by
  have dz : ∀ x y, a ≤ x → x ≤ b → a ≤ y → y ≤ b → ds ν P t x - ds ν P t y = ds μ P t x - ds μ P t y := by
    intro x y x1 x2 y1 y2
    have := (hk.2 x x1 x2).2.2
    have := (hk.2 y y1 y2).2.2
    omega
  have tz : ∀ x, tgj μ P t a b x → tgj ν P t a b x := fun x q => ⟨q.1, q.2.1, by rw [(hk.2 x q.1 q.2.1).2.1]; exact q.2.2⟩
  have hi := hk.2 i h1 (by omega)
  unfold lcd at *
  rw [hk.1 i 0 k0 h1 h2, hk.1 i 1 k1 h1 h2, hk.1 i 2 k2 h1 h2]
  obtain ⟨r13, r19, r31, r20, r23, r26, r27, r28, r29, r30⟩ := h
  refine ⟨r13, fun o => ?_, fun o => ?_, fun o => ?_, r23, fun o => ?_, fun o => ?_, fun o => ?_, fun o => ?_, fun o => ?_⟩
  · obtain ⟨q1, q2, q3⟩ := r19 o
    exact ⟨by rw [hi.1]; exact q1, tz _ q2, by have := dz _ i q2.1 q2.2.1 h1 (by omega); omega⟩
  · obtain ⟨q1, q2, q3, q4, q5⟩ := r31 o
    exact ⟨by rw [hi.1]; exact q1, tz _ q2, by have := dz _ i q2.1 q2.2.1 h1 (by omega); omega, q4, by have := hi.2.2; omega⟩
  · obtain ⟨q1, q2, q3⟩ := r20 o
    exact ⟨by rw [hi.1]; exact q1, tz _ q2, by have := dz _ i q2.1 q2.2.1 h1 (by omega); omega⟩
  · obtain ⟨q0, q00, q1, q2, q3⟩ := r26 o
    exact ⟨q0, q00, by rw [hi.1, (hk.2 _ q2.1 q2.2.1).1]; exact q1, tz _ q2, by have := dz _ i q2.1 q2.2.1 h1 (by omega); omega⟩
  · obtain ⟨q1, q2, q3⟩ := r27 o
    exact ⟨by rw [hi.1, (hk.2 _ q2.1 q2.2.1).1]; exact q1, tz _ q2, by have := dz _ i q2.1 q2.2.1 h1 (by omega); omega⟩
  · obtain ⟨q1, q2, q3, q4, q5⟩ := r28 o
    refine ⟨by rw [hi.2.1]; exact q1, fun k => ?_, fun k => ?_, fun k k2 => ?_, q5⟩
    · obtain ⟨z1, z2, z3, z4⟩ := q2 k
      exact ⟨z1, z2, by rw [hk.1 _ 0 k0 z1 z2]; exact z3, by have := dz (cdp μ P i 1 + 1) i (by omega) (by omega) h1 (by omega); omega⟩
    · obtain ⟨z1, z2⟩ := q3 k
      exact ⟨tz _ z1, by have := dz _ i z1.1 z1.2.1 h1 (by omega); omega⟩
    · obtain ⟨z1, z2⟩ := q4 k k2
      exact ⟨tz _ z1, by have := dz _ i z1.1 z1.2.1 h1 (by omega); omega⟩
  · obtain ⟨q1, q2, q3, q5⟩ := r29 o
    exact ⟨by rw [hi.1]; exact q1, tz _ q2, by have := dz _ i q2.1 q2.2.1 h1 (by omega); omega, by have := hi.2.2; omega⟩
  · rcases r30 o with q | ⟨q1, q2, q3, q4⟩
    · exact Or.inl q
    · exact Or.inr ⟨q1, q2, by rw [hk.1 _ 0 k0 q1 q2]; exact q3, by have := dz (cdp μ P i 2 + 1) (i + 1) (by omega) (by omega) (by omega) (by omega); omega⟩
theorem lcd.up {μ : M3} {P t i a b a2 b2 : Int} (h : lcd μ P t i a b) (h1 : a2 ≤ a) (h2 : b ≤ b2) (h3 : ds μ P t a2 ≤ ds μ P t a) : lcd μ P t i a2 b2 := by
  have tz : ∀ x, tgj μ P t a b x → tgj μ P t a2 b2 x := fun x q => ⟨Int.le_trans h1 q.1, Int.le_trans q.2.1 h2, q.2.2⟩
  obtain ⟨r13, r19, r31, r20, r23, r26, r27, r28, r29, r30⟩ := h
  refine ⟨r13, fun o => ?_, fun o => ?_, fun o => ?_, r23, fun o => ?_, fun o => ?_, fun o => ?_, fun o => ?_, fun o => ?_⟩
  · obtain ⟨q1, q2, q3⟩ := r19 o; exact ⟨q1, tz _ q2, q3⟩
  · obtain ⟨q1, q2, q3, q4, q5⟩ := r31 o; exact ⟨q1, tz _ q2, q3, q4, by omega⟩
  · obtain ⟨q1, q2, q3⟩ := r20 o; exact ⟨q1, tz _ q2, q3⟩
  · obtain ⟨q0, q00, q1, q2, q3⟩ := r26 o; exact ⟨q0, q00, q1, tz _ q2, q3⟩
  · obtain ⟨q1, q2, q3⟩ := r27 o; exact ⟨q1, tz _ q2, q3⟩
  · obtain ⟨q1, q2, q3, q4, q5⟩ := r28 o
    refine ⟨q1, fun k => ?_, fun k => ?_, fun k k2 => ?_, q5⟩
    · obtain ⟨z1, z2, z3, z4⟩ := q2 k; exact ⟨by omega, by omega, z3, z4⟩
    · exact ⟨tz _ (q3 k).1, (q3 k).2⟩
    · exact ⟨tz _ (q4 k k2).1, (q4 k k2).2⟩
  · obtain ⟨q1, q2, q3, q5⟩ := r29 o; exact ⟨q1, tz _ q2, q3, by omega⟩
  · rcases r30 o with q | ⟨q1, q2, q3, q4⟩
    · exact Or.inl q
    · exact Or.inr ⟨by omega, by omega, q3, q4⟩
theorem SgX.kp {μ ν : M3} {P t a b e M : Int} {X : Int → Prop} (h : SgX μ P t a b e M X) (hk : KP μ ν P t a b) : SgX ν P t a b e M X := by
  obtain ⟨h0, h1, h2, h3, h4, h5⟩ := h
  have ka := hk.2 a (by omega) h0.2
  have kb := hk.2 b h0.2 (by omega)
  refine ⟨h0, by rw [ka.1, kb.1]; exact h1, fun q => by rw [kb.2.1]; exact h2 q, by omega, fun i ha hb hX => (h4 i ha hb hX).kp hk ha hb, fun i ha hb => ?_⟩
  have := h5 i ha hb
  have := (hk.2 i ha hb).2.2
  omega
theorem SgX.app {μ : M3} {P t a b c e f M : Int} {X Y : Int → Prop} (h : SgX μ P t a b e M X) (g : SgX μ P t b c f M Y) : SgX μ P t a c (e + f) M (fun i => X i ∨ Y i) := by
  obtain ⟨h0, h1, h2, h3, h4, h5⟩ := h
  obtain ⟨g0, g1, g2, g3, g4, g5⟩ := g
  refine ⟨by omega, by omega, fun q => ?_, by omega, fun i ha hb hX => ?_, fun i ha hb => ?_⟩
  · by_cases hbc : b < c
    · exact g2 hbc
    · have : b = c := by omega
      rw [← this]; exact h2 (by omega)
  · by_cases hi : i < b
    · exact (h4 i ha hi (fun z => hX (Or.inl z))).up (by omega) (by omega) (by omega)
    · exact (g4 i (by omega) hb (fun z => hX (Or.inr z))).up (by omega) (by omega) (by omega)
  · by_cases hi : i ≤ b
    · exact h5 i ha hi
    · have := g5 i (by omega) hb; omega
theorem SgX.mn {μ : M3} {P t a b e M N : Int} {X Y : Int → Prop} (h : SgX μ P t a b e M X) (hM : M ≤ N) (hX : ∀ i, a ≤ i → i < b → X i → Y i) : SgX μ P t a b e N Y := by
  obtain ⟨h0, h1, h2, h3, h4, h5⟩ := h
  exact ⟨h0, h1, h2, h3, fun i ha hb hY => h4 i ha hb (fun z => hY (hX i ha hb z)), fun i ha hb => by have := h5 i ha hb; omega⟩
theorem Sg.app {μ : M3} {P t a b c e f M : Int} (h : Sg μ P t a b e M) (g : Sg μ P t b c f M) : Sg μ P t a c (e + f) M := (SgX.app h g).mn (Int.le_refl M) (fun _ _ _ z => z.elim id id)
theorem Sg.mn {μ : M3} {P t a b e M N : Int} (h : Sg μ P t a b e M) (hM : M ≤ N) : Sg μ P t a b e N := SgX.mn h hM (fun _ _ _ z => z)
/-- what waited has its target -/
theorem SgX.cl {μ : M3} {P t a b e M : Int} {X : Int → Prop} (h : SgX μ P t a b e M X) (hX : ∀ i, a ≤ i → i < b → X i → lcd μ P t i a b) : Sg μ P t a b e M := by
  obtain ⟨h0, h1, h2, h3, h4, h5⟩ := h
  exact ⟨h0, h1, h2, h3, fun i ha hb _ => (Classical.em (X i)).elim (hX i ha hb) (h4 i ha hb), h5⟩
theorem SgX.nil {μ : M3} {P t a : Int} (h : 0 ≤ a) {X : Int → Prop} : SgX μ P t a a 0 0 X := ⟨⟨h, Int.le_refl a⟩, by omega, fun q => absurd q (by omega), rfl, fun i ha hb => absurd hb (by omega), fun i ha hb => by have e9 : i = a := (by omega); rw [e9]; omega⟩
/-- ops that ask nothing -/
def plain (o : Int) : Prop := (2 ≤ o ∧ o ≤ 12) ∨ (15 ≤ o ∧ o ≤ 18) ∨ o = 21 ∨ o = 22
theorem lcd0.pln {μ : M3} {P t i a b o f s : Int} (h : plain o) : lcd0 μ P t i a b o f s := by
  unfold plain at h
  refine ⟨fun z => ?_, fun z => ?_, fun z => ?_, fun z => ?_, fun z => ?_, fun z => ?_, fun z => ?_, fun z => ?_, fun z => ?_, fun z => ?_⟩ <;> exact absurd z (by omega)
/-- one instruction that goes on to the next -/
theorem SgX.one {μ : M3} {P t a e : Int} {X : Int → Prop} (h : 0 ≤ a) (he : eff (cdp μ P a 0) (cdp μ P a 1) = e) (h1 : 1 ≤ hs μ P a + e) (hc : cef t (cdp μ P a 0) (cs μ P t a) = 0) (hd : def_ t (cdp μ P a 0) = 0) (hl : X a ∨ lcd μ P t a a (a + 1)) : SgX μ P t a (a + 1) e 0 X := by
  have d1 : ds μ P t (a + 1) = ds μ P t a := by rw [ds_s h, hd]; omega
  refine ⟨⟨h, by omega⟩, by rw [hs_s h, he]; omega, fun _ => by rw [cs_s h]; exact hc, d1, fun i ha hb hX => ?_, fun i ha hb => ?_⟩
  · have : i = a := by omega
    subst this
    exact hl.resolve_left hX
  · by_cases hi : i = a
    · subst hi; omega
    · have : i = a + 1 := by omega
      subst this; omega

/-- code is added behind -/
def EXT (μ ν : M3) (P : Int) : Prop := μ.1 P 1 ≤ ν.1 P 1 ∧ ∀ i k, kk k → i < μ.1 P 1 → cdp ν P i k = cdp μ P i k
theorem EXT.rf {μ : M3} {P : Int} : EXT μ μ P := ⟨Int.le_refl _, fun _ _ _ _ => rfl⟩
theorem EXT.tr {μ ν π : M3} {P : Int} (h : EXT μ ν P) (g : EXT ν π P) : EXT μ π P := ⟨Int.le_trans h.1 g.1, fun i k hk hi => (g.2 i k hk (by have := h.1; omega)).trans (h.2 i k hk hi)⟩
theorem folds {μ ν : M3} {P t n : Int} (h : ∀ i, 0 ≤ i → i < n → cdp ν P i 0 = cdp μ P i 0 ∧ eff (cdp ν P i 0) (cdp ν P i 1) = eff (cdp μ P i 0) (cdp μ P i 1)) : ∀ i, i ≤ n → hs ν P i = hs μ P i ∧ cs ν P t i = cs μ P t i ∧ ds ν P t i = ds μ P t i := by
  have key : ∀ k : Nat, (k : Int) ≤ n → hsN ν P k = hsN μ P k ∧ csN ν P t k = csN μ P t k ∧ dsN ν P t k = dsN μ P t k := by
    intro k
    induction k with
    | zero => intro _; exact ⟨rfl, rfl, rfl⟩
    | succ k ih =>
      intro hk
      obtain ⟨a1, a2, a3⟩ := ih (by omega)
      obtain ⟨b1, b2⟩ := h k (by omega) (by omega)
      refine ⟨?_, ?_, ?_⟩
      · show max 1 (hsN ν P k + eff (cdp ν P k 0) (cdp ν P k 1)) = max 1 (hsN μ P k + eff (cdp μ P k 0) (cdp μ P k 1))
        rw [a1, b2]
      · show cef t (cdp ν P k 0) (csN ν P t k) = cef t (cdp μ P k 0) (csN μ P t k)
        rw [a2, b1]
      · show dsN ν P t k + def_ t (cdp ν P k 0) = dsN μ P t k + def_ t (cdp μ P k 0)
        rw [a3, b1]
  intro i hi
  by_cases h0 : 0 ≤ i
  · exact key i.toNat (by omega)
  · have : i.toNat = 0 := by omega
    unfold hs cs ds
    rw [this]
    exact ⟨rfl, rfl, rfl⟩
theorem EXT.fo {μ ν : M3} {P t : Int} (h : EXT μ ν P) : ∀ i, i ≤ μ.1 P 1 → hs ν P i = hs μ P i ∧ cs ν P t i = cs μ P t i ∧ ds ν P t i = ds μ P t i :=
  folds (fun i _ hi => ⟨h.2 i 0 k0 hi, by rw [h.2 i 0 k0 hi, h.2 i 1 k1 hi]⟩)
theorem EXT.kp {μ ν : M3} {P t a b : Int} (h : EXT μ ν P) (ha : a ≤ b) (hb : b ≤ μ.1 P 1) : KP μ ν P t a b := by
  refine ⟨fun i k hk h1 h2 => h.2 i k hk (by omega), fun i h1 h2 => ?_⟩
  have z := h.fo (t := t) i (by omega)
  have z2 := h.fo (t := t) a (by omega)
  exact ⟨z.1, z.2.1, by rw [z.2.2, z2.2.2]⟩
theorem EXT.fr {L : List Int} {μ ν : M3} {P : Int} (F : Fr L μ ν) (h1 : P ∉ L) (h2 : P + 1 ∉ L) : EXT μ ν P := ⟨by rw [F.1 P h1 1]; omega, fun i k _ _ => cdp_fr F h1 h2 i k⟩
/-- one instruction's target is set -/
def MF (μ ν : M3) (P q T : Int) : Prop := ν.1 P 1 = μ.1 P 1 ∧ (0 ≤ q ∧ q < μ.1 P 1) ∧ cdp ν P q 1 = T ∧ ∀ i k, kk k → ¬ (i = q ∧ k = 1) → cdp ν P i k = cdp μ P i k
theorem eff_f {o f g : Int} (h : o ≠ 13 ∧ o ≠ 14) : eff o f = eff o g := by
  unfold eff
  simp only [h.1, h.2, if_false]
theorem MF.fo {μ ν : M3} {P t q T : Int} (h : MF μ ν P q T) (hq : cdp μ P q 0 ≠ 13 ∧ cdp μ P q 0 ≠ 14) : ∀ i, hs ν P i = hs μ P i ∧ cs ν P t i = cs μ P t i ∧ ds ν P t i = ds μ P t i := by
  intro i
  refine folds (n := max i 0) (fun j _ _ => ⟨h.2.2.2 j 0 k0 (fun z => absurd z.2 (by decide)), ?_⟩) i (by omega)
  rw [h.2.2.2 j 0 k0 (fun z => absurd z.2 (by decide))]
  by_cases hj : j = q
  · rw [hj]; exact eff_f hq
  · rw [h.2.2.2 j 1 k1 (fun z => hj z.1)]
theorem MF.kp {μ ν : M3} {P t q T a b : Int} (h : MF μ ν P q T) (hq : cdp μ P q 0 ≠ 13 ∧ cdp μ P q 0 ≠ 14) (hab : ¬ (a ≤ q ∧ q < b)) : KP μ ν P t a b := by
  refine ⟨fun i k hk h1 h2 => h.2.2.2 i k hk (fun z => hab ⟨by omega, by omega⟩), fun i h1 h2 => ?_⟩
  have z := h.fo (t := t) hq i
  have z2 := h.fo (t := t) hq a
  exact ⟨z.1, z.2.1, by rw [z.2.2, z2.2.2]⟩
/-- an instruction is added -/
def AD (μ ν : M3) (P o f s : Int) : Prop := EXT μ ν P ∧ ν.1 P 1 = μ.1 P 1 + 1 ∧ cdp ν P (μ.1 P 1) 0 = o ∧ cdp ν P (μ.1 P 1) 1 = f ∧ cdp ν P (μ.1 P 1) 2 = s
/-- what a part of the parser leaves behind -/
def EX (μ ν : M3) (P t e M : Int) : Prop := EXT μ ν P ∧ Sg ν P t (μ.1 P 1) (ν.1 P 1) e M
theorem EX.tr {μ ν π : M3} {P t e f M : Int} (h : EX μ ν P t e M) (g : EX ν π P t f M) : EX μ π P t (e + f) M :=
  ⟨h.1.tr g.1, Sg.app (SgX.kp h.2 (g.1.kp h.1.1 (Int.le_refl _))) g.2⟩
theorem EX.mn {μ ν : M3} {P t e M N : Int} (h : EX μ ν P t e M) (hM : M ≤ N) : EX μ ν P t e N := ⟨h.1, h.2.mn hM⟩
theorem Sg.fr {L : List Int} {μ ν : M3} {P t a b e M : Int} (h : Sg μ P t a b e M) (F : Fr L μ ν) (h1 : P ∉ L) (h2 : P + 1 ∉ L) (hb : b ≤ μ.1 P 1) : Sg ν P t a b e M := SgX.kp h ((EXT.fr F h1 h2).kp h.1.2 hb)
theorem EX.fr {L : List Int} {μ ν π : M3} {P t e M : Int} (h : EX μ ν P t e M) (F : Fr L ν π) (h1 : P ∉ L) (h2 : P + 1 ∉ L) : EX μ π P t e M := by
  refine ⟨h.1.tr (EXT.fr F h1 h2), ?_⟩
  rw [F.1 P h1 1]
  exact h.2.fr F h1 h2 (Int.le_refl _)
theorem EX.fl {L : List Int} {μ ν π : M3} {P t e M : Int} (F : Fr L μ ν) (h1 : P ∉ L) (h2 : P + 1 ∉ L) (h : EX ν π P t e M) : EX μ π P t e M := by
  refine ⟨(EXT.fr F h1 h2).tr h.1, ?_⟩
  rw [← F.1 P h1 1]
  exact h.2
theorem AD.fh {μ ν : M3} {P o f s : Int} (h : AD μ ν P o f s) (h0 : 0 ≤ μ.1 P 1) : hs ν P (μ.1 P 1 + 1) = max 1 (hs μ P (μ.1 P 1) + eff o f) := by
  rw [hs_s h0, h.2.2.1, h.2.2.2.1, (h.1.fo (t := 0) _ (Int.le_refl _)).1]
theorem AD.fc {μ ν : M3} {P t o f s : Int} (h : AD μ ν P o f s) (h0 : 0 ≤ μ.1 P 1) : cs ν P t (μ.1 P 1 + 1) = cef t o (cs μ P t (μ.1 P 1)) := by
  rw [cs_s h0, h.2.2.1, (h.1.fo (t := t) _ (Int.le_refl _)).2.1]
theorem AD.fd {μ ν : M3} {P t o f s : Int} (h : AD μ ν P o f s) (h0 : 0 ≤ μ.1 P 1) : ds ν P t (μ.1 P 1 + 1) = ds μ P t (μ.1 P 1) + def_ t o := by
  rw [ds_s h0, h.2.2.1, (h.1.fo _ (Int.le_refl _)).2.2]
theorem EX.ad {μ ν : M3} {P t o f s e : Int} (h : AD μ ν P o f s) (h0 : 0 ≤ μ.1 P 1) (he : eff o f = e) (h1 : 1 ≤ hs μ P (μ.1 P 1) + e) (hc : cef t o (cs μ P t (μ.1 P 1)) = 0) (hd : def_ t o = 0) (hl : ∀ i b, lcd0 ν P t i i b o f s) : EX μ ν P t e 0 := by
  refine ⟨h.1, ?_⟩
  have z := h.1.fo (t := t) _ (Int.le_refl _)
  rw [h.2.1]
  refine SgX.one h0 (by rw [h.2.2.1, h.2.2.2.1]; exact he) (by rw [z.1]; exact h1) (by rw [h.2.2.1, z.2.1]; exact hc) (by rw [h.2.2.1]; exact hd) (Or.inr ?_)
  unfold lcd
  rw [h.2.2.1, h.2.2.2.1, h.2.2.2.2]
  exact hl _ _
theorem EX.pl {μ ν : M3} {P t o f s e : Int} (h : AD μ ν P o f s) (h0 : 0 ≤ μ.1 P 1) (hp : plain o) (he : eff o f = e) (h1 : 1 ≤ hs μ P (μ.1 P 1) + e) : EX μ ν P t e 0 := by
  have hq := hp
  unfold plain at hq
  refine EX.ad h h0 he h1 ?_ ?_ (fun i b => lcd0.pln hp)
  · unfold cef
    rw [if_neg (by omega), if_neg (by omega)]
  · unfold def_
    rw [if_neg (by omega), if_neg (by omega), if_neg (by omega), if_neg (by omega)]

/-- chains of what waits for one target -/
def Chn (μ : M3) (P : Int) : Int → List Int → Prop
  | x, [] => x = -1
  | x, i :: L => x = i ∧ 0 ≤ i ∧ i < μ.1 P 1 ∧ 19 ≤ cdp μ P i 0 ∧ -1 ≤ cdp μ P i 1 ∧ cdp μ P i 1 < i ∧ Chn μ P (cdp μ P i 1) L
theorem Chn.le {μ : M3} {P : Int} : ∀ (L : List Int) (x : Int), Chn μ P x L → ∀ j ∈ L, 0 ≤ j ∧ j ≤ x ∧ j < μ.1 P 1 ∧ 19 ≤ cdp μ P j 0
  | [], x, _, j, hj => by cases hj
  | i :: L, x, h, j, hj => by
    obtain ⟨h1, h2, h3, h4, h5, h6, h7⟩ := h
    rcases List.mem_cons.1 hj with e | e
    · subst e; exact ⟨h2, by omega, h3, h4⟩
    · have := Chn.le L _ h7 j e
      exact ⟨this.1, by omega, this.2.2.1, this.2.2.2⟩
theorem Chn.lg {μ : M3} {P : Int} : ∀ (L : List Int) (x : Int), Chn μ P x L → (L.length : Int) ≤ x + 1
  | [], x, h => by have h9 : x = -1 := h; simp; omega
  | i :: L, x, h => by
    obtain ⟨h1, h2, h3, h4, h5, h6, h7⟩ := h
    have := Chn.lg L _ h7
    simp only [List.length_cons]
    omega
theorem Chn.cg {μ ν : M3} {P : Int} (hn : μ.1 P 1 ≤ ν.1 P 1) : ∀ (L : List Int) (x : Int), (∀ i ∈ L, cdp ν P i 0 = cdp μ P i 0 ∧ cdp ν P i 1 = cdp μ P i 1) → Chn μ P x L → Chn ν P x L
  | [], _, _, h => h
  | i :: L, x, hc, h => by
    obtain ⟨h1, h2, h3, h4, h5, h6, h7⟩ := h
    have c := hc i (List.mem_cons_self ..)
    refine ⟨h1, h2, by omega, by rw [c.1]; exact h4, by rw [c.2]; exact h5, by rw [c.2]; exact h6, ?_⟩
    rw [c.2]
    exact Chn.cg hn L _ (fun j hj => hc j (List.mem_cons_of_mem _ hj)) h7
theorem Chn.ex {μ ν : M3} {P x : Int} {L : List Int} (h : Chn μ P x L) (e : EXT μ ν P) : Chn ν P x L :=
  Chn.cg e.1 L x (fun i hi => ⟨e.2 i 0 k0 (Chn.le L x h i hi).2.2.1, e.2 i 1 k1 (Chn.le L x h i hi).2.2.1⟩) h
theorem Chn.x {μ : M3} {P x : Int} {L : List Int} (h : Chn μ P x L) : -1 ≤ x ∧ (x = -1 ∨ x < μ.1 P 1) := by
  cases L with
  | nil => have h9 : x = -1 := h; omega
  | cons i L => have := h.1; have := h.2.1; have := h.2.2.1; omega
/-- a chain is aimed -/
def AIM (μ ν : M3) (P : Int) (L : List Int) (T : Int) : Prop := ν.1 P 1 = μ.1 P 1 ∧ (∀ i ∈ L, cdp ν P i 1 = T) ∧ ∀ i k, kk k → (k = 1 → i ∉ L) → cdp ν P i k = cdp μ P i k
def AMI (μ ν : M3) (P : Int) (L : List Int) (T x n : Int) : Prop := ∃ R : List Int, Chn ν P x R ∧ (R.length : Int) ≤ n ∧ ν.1 P 1 = μ.1 P 1 ∧ (∀ i ∈ R, i ∈ L) ∧ (∀ i ∈ L, i ∉ R → cdp ν P i 1 = T) ∧ ∀ i k, kk k → (k = 1 → (i ∉ L ∨ i ∈ R)) → cdp ν P i k = cdp μ P i k
theorem AMI.go {μ : M3} {P T x : Int} {L : List Int} (h : Chn μ P x L) (h0 : 0 ≤ μ.1 P 1) : AMI μ μ P L T x (μ.1 P 1) :=
  ⟨L, h, by have := Chn.lg L x h; have := h.x; cases L with
    | nil => simp; omega
    | cons i L => have := h.1; have := h.2.2.1; omega, rfl, fun _ h => h, fun i h1 h2 => absurd h1 h2, fun _ _ _ _ => rfl⟩
theorem AMI.st {μ ν π : M3} {P T x n : Int} {L : List Int} (h : AMI μ ν P L T x n) (hx : 0 ≤ x) (m : MF ν π P x T) : AMI μ π P L T (cdp ν P x 1) (n - 1) := by
  obtain ⟨R, h1, h2, h3, h4, h5, h6⟩ := h
  cases R with
  | nil => have h9 : x = -1 := h1; omega
  | cons i R =>
    obtain ⟨a1, a2, a3, a4, a5, a6, a7⟩ := h1
    subst a1
    have hlt : ∀ j ∈ R, j < x := fun j hj => by have := Chn.le R _ a7 j hj; omega
    refine ⟨R, ?_, by simp only [List.length_cons] at h2; omega, by rw [m.1]; exact h3, fun j hj => h4 j (List.mem_cons_of_mem _ hj), fun j hj hn => ?_, fun j k hk hj => ?_⟩
    · exact Chn.cg (by rw [m.1]; omega) R _ (fun j hj => ⟨m.2.2.2 j 0 k0 (fun z => absurd z.2 (by decide)), m.2.2.2 j 1 k1 (fun z => absurd z.1 (by have := hlt j hj; omega))⟩) a7
    · by_cases e : j = x
      · rw [e]; exact m.2.2.1
      · rw [m.2.2.2 j 1 k1 (fun z => e z.1)]
        exact h5 j hj (fun z => by
          rcases List.mem_cons.1 z with q | q
          · exact e q
          · exact hn q)
    · by_cases e : j = x ∧ k = 1
      · exfalso
        rcases hj e.2 with q | q
        · exact q (by rw [e.1]; exact h4 x (List.mem_cons_self ..))
        · have := hlt j q; omega
      · rw [m.2.2.2 j k hk e]
        exact h6 j k hk (fun z => (hj z).imp id (fun q => List.mem_cons_of_mem _ q))
theorem AMI.ed {μ ν : M3} {P T x n : Int} {L : List Int} (h : AMI μ ν P L T x n) (hx : x < 0 ∨ n ≤ 0) : AIM μ ν P L T := by
  obtain ⟨R, h1, h2, h3, h4, h5, h6⟩ := h
  have : R = [] := by
    cases R with
    | nil => rfl
    | cons i R =>
      exfalso
      simp only [List.length_cons] at h2
      have := h1.1
      have := h1.2.1
      omega
  subst this
  exact ⟨h3, fun i hi => h5 i hi (by simp), fun i k hk hi => h6 i k hk (fun z => Or.inl (hi z))⟩
theorem AMI.x {μ ν : M3} {P T x n : Int} {L : List Int} (h : AMI μ ν P L T x n) : -1 ≤ x ∧ (x = -1 ∨ x < ν.1 P 1) ∧ ν.1 P 1 = μ.1 P 1 := by
  obtain ⟨R, h1, h2, h3, -⟩ := h
  exact ⟨h1.x.1, h1.x.2, h3⟩
theorem AIM.fo {μ ν : M3} {P t T : Int} {L : List Int} (h : AIM μ ν P L T) (hL : ∀ i ∈ L, 19 ≤ cdp μ P i 0) : ∀ i, hs ν P i = hs μ P i ∧ cs ν P t i = cs μ P t i ∧ ds ν P t i = ds μ P t i := by
  intro i
  refine folds (n := max i 0) (fun j _ _ => ⟨h.2.2 j 0 k0 (fun z => absurd z (by decide)), ?_⟩) i (by omega)
  rw [h.2.2 j 0 k0 (fun z => absurd z (by decide))]
  by_cases hj : j ∈ L
  · exact eff_f (by have := hL j hj; omega)
  · rw [h.2.2 j 1 k1 (fun _ => hj)]
/-- a part of an expression, with what may fail ahead -/
def PX (μo μ : M3) (P t e x : Int) (L : List Int) (w : Int) : Prop := EXT μo μ P ∧ 0 ≤ μo.1 P 1 ∧ SgX μ P t (μo.1 P 1) (μ.1 P 1) e 0 (fun i => i ∈ L) ∧ Chn μ P x L ∧ ∀ i ∈ L, μo.1 P 1 ≤ i ∧ cdp μ P i 0 = 26 ∧ (0 ≤ cdp μ P i 2 ∧ cdp μ P i 2 ≤ 100000) ∧ hs μ P i ≤ hs μ P (μo.1 P 1) + w + cdp μ P i 2
theorem PX.of {μ ν : M3} {P t e w : Int} (h : EX μ ν P t e 0) : PX μ ν P t e (-1) [] w := ⟨h.1, h.2.1.1, SgX.mn h.2 (Int.le_refl 0) (fun _ _ _ z => z.elim), rfl, fun i hi => by cases hi⟩
theorem PX.nil {μ : M3} {P t w : Int} (h0 : 0 ≤ μ.1 P 1) : PX μ μ P t 0 (-1) [] w := ⟨EXT.rf, h0, SgX.nil h0, rfl, fun i hi => by cases hi⟩
theorem PX.app {μo μ ν : M3} {P t e f x w : Int} {L : List Int} (h : PX μo μ P t e x L w) (g : EX μ ν P t f 0) : PX μo ν P t (e + f) x L w := by
  obtain ⟨h1, h2, h3, h4, h5⟩ := h
  have z := fun i (hi : i ≤ μ.1 P 1) => g.1.fo (t := t) i hi
  refine ⟨h1.tr g.1, h2, (SgX.app (h3.kp (g.1.kp h1.1 (Int.le_refl _))) g.2).mn (Int.le_refl 0) (fun i _ _ q => q.elim id (fun q => q.elim)), h4.ex g.1, fun i hi => ?_⟩
  have a := h5 i hi
  have b := (Chn.le L x h4 i hi).2.2.1
  rw [g.1.2 i 0 k0 b, g.1.2 i 2 k2 b, (z i (by omega)).1, (z _ h1.1).1]
  exact a
theorem PX.fr {K : List Int} {μo μ ν : M3} {P t e x w : Int} {L : List Int} (h : PX μo μ P t e x L w) (F : Fr K μ ν) (p1 : P ∉ K) (p2 : P + 1 ∉ K) : PX μo ν P t e x L w := by
  obtain ⟨h1, h2, h3, h4, h5⟩ := h
  have E := EXT.fr F p1 p2
  have z := fun i (hi : i ≤ μ.1 P 1) => E.fo (t := t) i hi
  refine ⟨h1.tr E, h2, ?_, h4.ex E, fun i hi => ?_⟩
  · rw [F.1 P p1 1]; exact h3.kp (E.kp h1.1 (Int.le_refl _))
  have a := h5 i hi
  have b := (Chn.le L x h4 i hi).2.2.1
  rw [E.2 i 0 k0 b, E.2 i 2 k2 b, (z i (by omega)).1, (z _ h1.1).1]
  exact a
/-- IF_FAILS -/
theorem PX.iff {μo μ ν : M3} {P t e x s w : Int} {L : List Int} (h : PX μo μ P t e x L w) (g : AD μ ν P 26 x s) (hs9 : 0 ≤ s ∧ s ≤ 100000) (he : e ≤ w + s) : PX μo ν P t e (μ.1 P 1) (μ.1 P 1 :: L) w := by
  obtain ⟨h1, h2, h3, h4, h5⟩ := h
  have E := g.1
  have z := fun i (hi : i ≤ μ.1 P 1) => E.fo (t := t) i hi
  have h0 : 0 ≤ μ.1 P 1 := by have := h1.1; omega
  have hx := h4.x
  have one : SgX ν P t (μ.1 P 1) (μ.1 P 1 + 1) 0 0 (fun i => i = μ.1 P 1) := by
    refine SgX.one h0 ?_ ?_ ?_ ?_ (Or.inl rfl)
    · rw [g.2.2.1]; rfl
    · have := hs_1 (μ := ν) (P := P) (i := μ.1 P 1); omega
    · rw [g.2.2.1]; rfl
    · rw [g.2.2.1]; rfl
  refine ⟨h1.tr E, h2, ?_, ⟨rfl, h0, by rw [g.2.1]; omega, by rw [g.2.2.1]; decide, by rw [g.2.2.2.1]; exact hx.1, ?_, by rw [g.2.2.2.1]; exact h4.ex E⟩, fun i hi => ?_⟩
  · have q := SgX.app (h3.kp (E.kp h1.1 (Int.le_refl _))) one
    rw [g.2.1]
    have e0 : e + 0 = e := by omega
    rw [e0] at q
    exact q.mn (Int.le_refl 0) (fun i _ _ q => q.elim (fun q => List.mem_cons_of_mem _ q) (fun q => by rw [q]; exact List.mem_cons_self ..))
  · rw [g.2.2.2.1]
    cases L with
    | nil => have h9 : x = -1 := h4; omega
    | cons i L => have := h4.1; have := h4.2.2.1; omega
  · rcases List.mem_cons.1 hi with q | q
    · rw [q]
      refine ⟨h1.1, g.2.2.1, by rw [g.2.2.2.2]; exact hs9, ?_⟩
      rw [g.2.2.2.2, (z _ (Int.le_refl _)).1, (z _ h1.1).1, h3.2.1]
      omega
    · have a := h5 i q
      have b := (Chn.le L x h4 i q).2.2.1
      rw [E.2 i 0 k0 b, E.2 i 2 k2 b, (z i (by omega)).1, (z _ h1.1).1]
      exact a
/-- the last op of an expression's parts, then the chain is aimed behind it -/
theorem PX.fin {μo μ ν : M3} {P t x T w : Int} {L : List Int} (h : PX μo μ P t w x L w) (g : AIM μ ν P L T) (hT : T = μ.1 P 1) : EX μo ν P t w 0 := by
  obtain ⟨h1, h2, h3, h4, h5⟩ := h
  have hL : ∀ i ∈ L, 19 ≤ cdp μ P i 0 := fun i hi => (Chn.le L x h4 i hi).2.2.2
  have z := g.fo (t := t) hL
  obtain ⟨s0, s1, s2, s3, s4, s5⟩ := h3
  have tz : ∀ a b y, tgj μ P t a b y → tgj ν P t a b y := fun a b y q => ⟨q.1, q.2.1, by rw [(z y).2.1]; exact q.2.2⟩
  refine ⟨⟨by rw [g.1]; exact h1.1, fun i k hk hi => ?_⟩, ?_⟩
  · rw [g.2.2 i k hk (fun _ hm => by have := (h5 i hm).1; omega)]; exact h1.2 i k hk hi
  rw [g.1]
  refine ⟨s0, by rw [(z _).1, (z _).1]; exact s1, fun q => by rw [(z _).2.1]; exact s2 q, by rw [(z _).2.2, (z _).2.2]; exact s3, fun i ha hb _ => ?_, fun i ha hb => ?_⟩
  · by_cases hm : i ∈ L
    · obtain ⟨a1, a2, a3, a4⟩ := h5 i hm
      have hd := s5 i ha (by omega)
      unfold lcd
      rw [g.2.2 i 0 k0 (fun q => absurd q (by decide)), g.2.2 i 2 k2 (fun q => absurd q (by decide)), g.2.1 i hm, a2]
      refine ⟨fun q => absurd q (by decide), fun q => absurd q (by decide), fun q => absurd q (by decide), fun q => absurd q (by decide), fun q => absurd q (by decide), fun _ => ⟨a3.1, a3.2, ?_, ⟨by omega, by omega, ?_⟩, ?_⟩, fun q => absurd q (by decide), fun q => absurd q (by decide), fun q => absurd q (by decide), fun q => absurd q (by decide)⟩
      · rw [(z _).1, (z _).1, hT]; omega
      · rw [(z _).2.1, hT]; exact s2 (by omega)
      · rw [(z _).2.2, (z _).2.2, hT]; omega
    · have q := s4 i ha hb hm
      have hk : KP μ ν P t i (i + 1) ∨ True := Or.inr trivial
      unfold lcd at *
      rw [g.2.2 i 0 k0 (fun q => absurd q (by decide)), g.2.2 i 2 k2 (fun q => absurd q (by decide)), g.2.2 i 1 k1 (fun _ => hm)]
      unfold lcd0 at *
      simp only [(z _).1, (z _).2.2, (z _).2.1, tgj] at *
      refine ⟨q.1, q.2.1, q.2.2.1, q.2.2.2.1, q.2.2.2.2.1, q.2.2.2.2.2.1, q.2.2.2.2.2.2.1, fun o => ?_, q.2.2.2.2.2.2.2.2.1, fun o => ?_⟩
      · obtain ⟨w1, w2, w3⟩ := q.2.2.2.2.2.2.2.1 o
        refine ⟨w1, fun k => ?_, w3⟩
        rw [g.2.2 _ 0 k0 (fun q => absurd q (by decide))]; exact w2 k
      · rcases q.2.2.2.2.2.2.2.2.2 o with w | ⟨w1, w2, w3, w4⟩
        · exact Or.inl w
        · exact Or.inr ⟨w1, w2, by rw [g.2.2 _ 0 k0 (fun q => absurd q (by decide))]; exact w3, w4⟩
  · rw [(z _).2.2, (z _).2.2]; exact s5 i ha hb

theorem EX.e {μ ν : M3} {P t e f M : Int} (h : EX μ ν P t e M) (he : e = f) : EX μ ν P t f M := by rw [← he]; exact h
theorem EX.h {μ ν : M3} {P t e M : Int} (h : EX μ ν P t e M) : hs ν P (ν.1 P 1) = hs μ P (μ.1 P 1) + e := by
  rw [h.2.2.1, (h.1.fo (t := t) _ (Int.le_refl _)).1]
theorem PX.h {μo μ : M3} {P t e x w : Int} {L : List Int} (h : PX μo μ P t e x L w) : 1 + e ≤ hs μ P (μ.1 P 1) := by
  have := hs_1 (μ := μ) (P := P) (i := μo.1 P 1)
  rw [h.2.2.1.2.1]; omega
theorem PX.e {μo μ : M3} {P t e f x w : Int} {L : List Int} (h : PX μo μ P t e x L w) (he : e = f) : PX μo μ P t f x L w := by rw [← he]; exact h
theorem PX.fl {K : List Int} {μo μ ν : M3} {P t e x w : Int} {L : List Int} (F : Fr K μo μ) (p1 : P ∉ K) (p2 : P + 1 ∉ K) (h : PX μ ν P t e x L w) : PX μo ν P t e x L w := by
  obtain ⟨h1, h2, h3, h4, h5⟩ := h
  have e1 := F.1 P p1 1
  refine ⟨(EXT.fr F p1 p2).tr h1, by rw [← e1]; exact h2, by rw [← e1]; exact h3, h4, ?_⟩
  rw [← e1]; exact h5
theorem EX.rf {μ : M3} {P t M : Int} (h0 : 0 ≤ μ.1 P 1) (hM : 0 ≤ M) : EX μ μ P t 0 M := ⟨EXT.rf, SgX.mn (SgX.nil h0) hM (fun _ _ _ z => z)⟩
def PXE (μo μ : M3) (P t e x w : Int) : Prop := ∃ L, PX μo μ P t e x L w
theorem PXE.of {μ ν : M3} {P t e w : Int} (h : EX μ ν P t e 0) : PXE μ ν P t e (-1) w := ⟨[], PX.of h⟩
theorem PXE.nil {μ : M3} {P t w : Int} (h0 : 0 ≤ μ.1 P 1) : PXE μ μ P t 0 (-1) w := ⟨[], PX.nil h0⟩
theorem PXE.app {μo μ ν : M3} {P t e f x w : Int} (h : PXE μo μ P t e x w) (g : EX μ ν P t f 0) : PXE μo ν P t (e + f) x w := by
  obtain ⟨L, h⟩ := h; exact ⟨L, h.app g⟩
theorem PXE.fr {K : List Int} {μo μ ν : M3} {P t e x w : Int} (h : PXE μo μ P t e x w) (F : Fr K μ ν) (p1 : P ∉ K) (p2 : P + 1 ∉ K) : PXE μo ν P t e x w := by
  obtain ⟨L, h⟩ := h; exact ⟨L, h.fr F p1 p2⟩
theorem PXE.fl {K : List Int} {μo μ ν : M3} {P t e x w : Int} (F : Fr K μo μ) (p1 : P ∉ K) (p2 : P + 1 ∉ K) (h : PXE μ ν P t e x w) : PXE μo ν P t e x w := by
  obtain ⟨L, h⟩ := h; exact ⟨L, PX.fl F p1 p2 h⟩
theorem PXE.iff {μo μ ν : M3} {P t e x s w : Int} (h : PXE μo μ P t e x w) (g : AD μ ν P 26 x s) (hs9 : 0 ≤ s ∧ s ≤ 100000) (he : e ≤ w + s) : PXE μo ν P t e (μ.1 P 1) w := by
  obtain ⟨L, h⟩ := h; exact ⟨_, h.iff g hs9 he⟩
theorem PXE.e {μo μ : M3} {P t e f x w : Int} (h : PXE μo μ P t e x w) (he : e = f) : PXE μo μ P t f x w := by rw [← he]; exact h
theorem PXE.h {μo μ : M3} {P t e x w : Int} (h : PXE μo μ P t e x w) : 1 + e ≤ hs μ P (μ.1 P 1) := by
  obtain ⟨L, h⟩ := h; exact h.h
theorem PXE.ex {μo μ : M3} {P t e w : Int} (h : PXE μo μ P t e (-1) w) : EX μo μ P t e 0 := by
  obtain ⟨L, h1, h2, h3, h4, h5⟩ := h
  cases L with
  | nil => exact ⟨h1, SgX.mn h3 (Int.le_refl 0) (fun _ _ _ z => by cases z)⟩
  | cons i L => have := h4.1; have := h4.2.1; omega
/-- a chain that is being aimed behind the last op -/
def AW (μo μ ν : M3) (P t x0 T x n w : Int) : Prop := ∃ L, PX μo μ P t w x0 L w ∧ AMI μ ν P L T x n
theorem AW.go {μo μ : M3} {P t x0 T w : Int} (h : PXE μo μ P t w x0 w) (h0 : 0 ≤ μ.1 P 1) : AW μo μ μ P t x0 T x0 (μ.1 P 1) w := by
  obtain ⟨L, h⟩ := h; exact ⟨L, h, AMI.go h.2.2.2.1 h0⟩
theorem AW.st {μo μ ν π : M3} {P t x0 T x n w : Int} (h : AW μo μ ν P t x0 T x n w) (hx : 0 ≤ x) (m : MF ν π P x T) : AW μo μ π P t x0 T (cdp ν P x 1) (n - 1) w := by
  obtain ⟨L, h, g⟩ := h; exact ⟨L, h, g.st hx m⟩
theorem AW.x {μo μ ν : M3} {P t x0 T x n w : Int} (h : AW μo μ ν P t x0 T x n w) : x = -1 ∨ x < ν.1 P 1 := by
  obtain ⟨L, h, g⟩ := h; exact g.x.2.1
theorem AW.ed {μo μ ν : M3} {P t x0 T x n w : Int} (h : AW μo μ ν P t x0 T x n w) (hx : x < 0 ∨ n ≤ 0) (hT : T = μ.1 P 1) : EX μo ν P t w 0 := by
  obtain ⟨L, h, g⟩ := h; exact h.fin (g.ed hx) hT
theorem AD.of {μ ν : M3} {P n o f s : Int} (hn : n = μ.1 P 1) (h0 : 0 ≤ n) (h1 : ν.1 P 1 = n + 1) (a0 : ν.1 (P + 1) (n * 4) = o) (a1 : ν.1 (P + 1) (n * 4 + 1) = f) (a2 : ν.1 (P + 1) (n * 4 + 2) = s) (hk : ∀ j, 0 ≤ j ∧ j < n * 4 → ν.1 (P + 1) j = μ.1 (P + 1) j) : AD μ ν P o f s := by
  have c : ∀ k, cdp ν P n k = ν.1 (P + 1) (4 * n + k) := fun k => by unfold cdp; rw [if_pos ⟨h0, by omega⟩]
  refine ⟨⟨by omega, fun i k hk3 hi => ?_⟩, by omega, ?_, ?_, ?_⟩
  · unfold cdp
    by_cases hi0 : 0 ≤ i
    · rw [if_pos ⟨hi0, by omega⟩, if_pos ⟨hi0, hi⟩]
      exact hk _ (by unfold kk at hk3; omega)
    · rw [if_neg (fun z => hi0 z.1), if_neg (fun z => hi0 z.1)]
  · rw [← hn, c, show 4 * n + 0 = n * 4 by omega]; exact a0
  · rw [← hn, c, show 4 * n + 1 = n * 4 + 1 by omega]; exact a1
  · rw [← hn, c, show 4 * n + 2 = n * 4 + 2 by omega]; exact a2
theorem MF.of {μ ν : M3} {P q T : Int} (h2 : ν.1 P 1 = μ.1 P 1) (hq : 0 ≤ q ∧ q < μ.1 P 1) (a1 : ν.1 (P + 1) (q * 4 + 1) = T) (hk : ∀ j, j ≠ q * 4 + 1 → ν.1 (P + 1) j = μ.1 (P + 1) j) : MF μ ν P q T := by
  refine ⟨h2, hq, ?_, fun i k h3 hn => ?_⟩
  · unfold cdp; rw [if_pos ⟨hq.1, by omega⟩, show 4 * q + 1 = q * 4 + 1 by omega]; exact a1
  · unfold cdp; rw [h2]
    by_cases hi : 0 ≤ i ∧ i < μ.1 P 1
    · rw [if_pos hi, if_pos hi]
      exact hk _ (fun z => hn (by unfold kk at h3; omega))
    · rw [if_neg hi, if_neg hi]
/-- tokens -/
theorem TK.b {μ : M3} (h : TK μ) : (0 ≤ μ.1 26 11 ∧ μ.1 26 11 ≤ 1) ∧ (1 ≤ μ.1 26 6 ∧ 0 ≤ μ.1 26 10 ∧ μ.1 26 10 ≤ 3000) := by
  obtain ⟨a, b, c, -⟩ := h
  rcases c with c | c
  · have := c.1; omega
  · have := c.1; omega
theorem TK.k {μ : M3} (h : TK μ) : μ.1 26 11 = 0 ∨ μ.1 26 12 = 3 := by
  rcases h.2.2.1 with c | c
  · exact Or.inl c.1
  · exact Or.inr c.2
theorem TK.fr {K : List Int} {μ ν : M3} (h : TK μ) (F : Fr K μ ν) (h1 : 26 ∉ K) (h2 : 28 ∉ K) (h3 : 29 ∉ K) : TK ν := by
  unfold TK at *
  simp only [F.1 26 h1, F.1 28 h2, F.1 29 h3]; exact h
theorem TK.st {μ ν : M3} (h : TK μ) (F : Fr [26] μ ν) (h12 : ν.1 26 12 = 3) (h11 : ν.1 26 11 = 1) (h6 : ν.1 26 6 = μ.1 26 6) (h10 : ν.1 26 10 = μ.1 26 10) (h13 : ν.1 26 13 = μ.1 26 13) : TK ν := by
  obtain ⟨a, b, c, d⟩ := h
  refine ⟨by rw [h6, h10]; exact a, ?_, Or.inr ⟨h11, h12⟩, by rw [h13]; exact d.1, fun j j1 j2 => by rw [F.1 29 (by decide)]; exact d.2 j j1 (by rw [← h6]; exact j2)⟩
  rw [h6, F.1 28 (by decide)]; exact b
theorem TK.nx {μ ν : M3} (h : TK μ) (F : Fr [26] μ ν) (h6 : ν.1 26 6 = μ.1 26 6) (h11 : ν.1 26 11 = μ.1 26 11) (hk : μ.1 26 12 ≠ 0 ∧ μ.1 26 12 ≠ 3) (hp : (μ.1 26 11 ≠ 0 ∧ ν.1 26 10 = μ.1 26 10 ∧ ν.1 26 12 = μ.1 26 12) ∨ (μ.1 26 11 = 0 ∧ ν.1 26 12 = μ.1 28 (ν.1 26 10) ∧ ((μ.1 26 10 < μ.1 26 6 - 1 ∧ ν.1 26 10 = μ.1 26 10 + 1) ∨ (μ.1 26 6 - 1 ≤ μ.1 26 10 ∧ ν.1 26 10 = μ.1 26 10)))) (hq : (μ.1 26 11 ≠ 0 ∧ ν.1 26 13 = μ.1 26 13) ∨ (μ.1 26 11 = 0 ∧ ν.1 26 13 = μ.1 29 (ν.1 26 10))) : TK ν ∧ μ.1 26 11 = 0 ∧ ν.1 26 10 = μ.1 26 10 + 1 := by
  obtain ⟨a, b, c, d⟩ := h
  have hs0 : μ.1 26 11 = 0 ∧ μ.1 26 12 = μ.1 28 (μ.1 26 10) := by
    rcases c with c | c
    · exact c
    · exact absurd c.2 hk.2
  have hlt : μ.1 26 10 < μ.1 26 6 - 1 := by
    by_cases q : μ.1 26 10 < μ.1 26 6 - 1
    · exact q
    · exfalso
      have e : μ.1 26 10 = μ.1 26 6 - 1 := by omega
      rw [← e, ← hs0.2] at b
      rcases b with b | b
      · exact hk.1 b
      · exact hk.2 b
  rcases hp with ⟨p1, -, -⟩ | ⟨p1, p2, ⟨p3, p4⟩ | ⟨p3, -⟩⟩
  · exact absurd hs0.1 p1
  · refine ⟨⟨by rw [h6, p4]; omega, by rw [h6, F.1 28 (by decide)]; exact b, Or.inl ⟨by rw [h11]; exact hs0.1, by rw [p2, F.1 28 (by decide)]⟩, ?_, fun j j1 j2 => by rw [F.1 29 (by decide)]; exact d.2 j j1 (by rw [← h6]; exact j2)⟩, hs0.1, p4⟩
    rcases hq with ⟨q1, -⟩ | ⟨-, q2⟩
    · exact absurd hs0.1 q1
    · rw [q2, p4]; exact d.2 _ (by omega) (by omega)
  · exact absurd hlt (by omega)
