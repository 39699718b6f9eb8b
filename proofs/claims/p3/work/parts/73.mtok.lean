/-! the reference's parser: faults, tokens, names -/
def wr (μ : M3) : Int := if μ.1 111 15 = -1 then 0 else 1
def bd (μ : M3) : Int := if μ.1 111 15 = -1 ∧ μ.1 111 16 = -1 ∧ μ.1 111 17 = -1 then 0 else 1
def nn (μ : M3) : Int := if μ.1 111 15 = -1 then μ.1 111 18 else 9
theorem wr_cg {μ ν : M3} (h : ν.1 111 15 = μ.1 111 15) : wr ν = wr μ := by unfold wr; rw [h]
theorem bd_cg {μ ν : M3} (h : ν.1 111 15 = μ.1 111 15) (h2 : ν.1 111 16 = μ.1 111 16) (h3 : ν.1 111 17 = μ.1 111 17) : bd ν = bd μ := by unfold bd; rw [h, h2, h3]
theorem nn_cg {μ ν : M3} (h : ν.1 111 15 = μ.1 111 15) (h2 : ν.1 111 18 = μ.1 111 18) : nn ν = nn μ := by unfold nn; rw [h, h2]
theorem wr_r {μ : M3} : 0 ≤ wr μ ∧ wr μ ≤ 1 ∧ wr μ ≤ bd μ ∧ bd μ ≤ 1 := by
  unfold wr bd
  by_cases h : μ.1 111 15 = -1
  · by_cases h2 : μ.1 111 16 = -1 ∧ μ.1 111 17 = -1
    · rw [if_pos h, if_pos ⟨h, h2⟩]; decide
    · rw [if_pos h, if_neg (fun z => h2 z.2)]; decide
  · rw [if_neg h, if_neg (fun z => h z.1)]; decide
theorem wr_0 {μ : M3} : wr μ = 0 ↔ μ.1 111 15 = -1 := by
  unfold wr
  by_cases h : μ.1 111 15 = -1
  · rw [if_pos h]; exact ⟨fun _ => h, fun _ => rfl⟩
  · rw [if_neg h]; exact ⟨fun z => absurd z (by decide), fun z => absurd z h⟩
theorem bd_0 {μ : M3} : bd μ = 0 ↔ μ.1 111 15 = -1 ∧ μ.1 111 16 = -1 ∧ μ.1 111 17 = -1 := by
  unfold bd
  by_cases h : μ.1 111 15 = -1 ∧ μ.1 111 16 = -1 ∧ μ.1 111 17 = -1
  · rw [if_pos h]; exact ⟨fun _ => h, fun _ => rfl⟩
  · rw [if_neg h]; exact ⟨fun z => absurd z (by decide), fun z => absurd z h⟩
/-- names: each goes up to none in the end -/
def NPr (μ : M3) (a n : Int) : Prop := ∃ rk : Int → Nat, ∀ k, 1 ≤ k → k < n → μ.1 a k = -1 ∨ (1 ≤ μ.1 a k ∧ μ.1 a k < n ∧ rk (μ.1 a k) < rk k)
def NP (μ : M3) : Prop := (12 ≤ μ.1 111 4 ∧ μ.1 111 4 ≤ μ.1 111 29 ∧ μ.1 111 29 ≤ 52) ∧ NPr μ 123 (μ.1 111 29)
def TM (μ : M3) : Prop := (0 ≤ μ.1 111 6 ∧ μ.1 111 6 ≤ μ.1 111 7 ∧ μ.1 111 7 ≤ 3000) ∧ (0 ≤ μ.1 111 9 ∧ μ.1 111 9 ≤ μ.1 111 6) ∧ (μ.1 111 8 = 4 ∨ μ.1 111 9 + 1 ≤ μ.1 111 6 ∨ μ.1 111 15 ≠ -1) ∧ (0 ≤ μ.1 111 14 ∧ μ.1 111 14 ≤ 3) ∧ (-1 ≤ μ.1 111 11 ∧ μ.1 111 11 ≤ 32) ∧ (μ.1 111 8 = 2 → μ.1 111 14 = 3 → μ.1 111 15 = -1 → sn (μ.1 111 12))
def PM (μ : M3) : Prop := TM μ ∧ NP μ
theorem TM.cg {μ ν : M3} (h : ∀ k, k ∈ [(6 : Int), 7, 8, 9, 11, 12, 14, 15] → ν.1 111 k = μ.1 111 k) (q : TM μ) : TM ν := by
  unfold TM at *
  rw [h 6 (by decide), h 7 (by decide), h 8 (by decide), h 9 (by decide), h 11 (by decide), h 12 (by decide), h 14 (by decide), h 15 (by decide)]
  exact q
theorem PM.cg {μ ν : M3} (q : PM μ) (h4 : ν.1 111 4 = μ.1 111 4) (h6 : ν.1 111 6 = μ.1 111 6) (h7 : ν.1 111 7 = μ.1 111 7) (h8 : ν.1 111 8 = μ.1 111 8) (h9 : ν.1 111 9 = μ.1 111 9) (h11 : ν.1 111 11 = μ.1 111 11) (h12 : ν.1 111 12 = μ.1 111 12) (h14 : ν.1 111 14 = μ.1 111 14) (h15 : ν.1 111 15 = μ.1 111 15) (h29 : ν.1 111 29 = μ.1 111 29) (h : ∀ j, ν.1 123 j = μ.1 123 j) : PM ν := by
  obtain ⟨a, b, rk, c⟩ := q
  refine ⟨?_, ?_, rk, ?_⟩
  · unfold TM at *; rw [h6, h7, h8, h9, h11, h12, h14, h15]; exact a
  · rw [h4, h29]; exact b
  · intro k k1 k2; rw [h, h29] at *; exact c k k1 k2
theorem PM.wg {μ ν : M3} (q : PM μ) (h4 : ν.1 111 4 = μ.1 111 4) (h6 : ν.1 111 6 = μ.1 111 6) (h7 : ν.1 111 7 = μ.1 111 7) (h8 : ν.1 111 8 = μ.1 111 8) (h9 : ν.1 111 9 = μ.1 111 9) (h11 : ν.1 111 11 = μ.1 111 11) (h12 : ν.1 111 12 = μ.1 111 12) (h14 : ν.1 111 14 = μ.1 111 14) (h15 : wr ν = 1) (h29 : ν.1 111 29 = μ.1 111 29) (h : ∀ j, ν.1 123 j = μ.1 123 j) : PM ν := by
  have h15 : ν.1 111 15 ≠ -1 := fun z => by have := wr_0.2 z; omega
  obtain ⟨⟨a1, a2, a3, a4, a5, a6⟩, b, rk, c⟩ := q
  refine ⟨?_, ?_, rk, ?_⟩
  · unfold TM; rw [h6, h7, h8, h9, h11, h14]; exact ⟨a1, a2, Or.inr (Or.inr h15), a4, a5, fun _ _ z => absurd z h15⟩
  · rw [h4, h29]; exact b
  · intro k k1 k2; rw [h, h29] at *; exact c k k1 k2
theorem PM.pl {μ : M3} (h : PM μ) : 0 ≤ μ.1 111 9 ∧ μ.1 111 9 ≤ 3000 := by
  have a := h.1.1
  have b := h.1.2.1
  omega
theorem NPr.cg {μ ν : M3} {a n : Int} (h : ∀ j, ν.1 a j = μ.1 a j) (q : NPr μ a n) : NPr ν a n := by
  obtain ⟨rk, q⟩ := q
  exact ⟨rk, fun k k1 k2 => by rw [h]; exact q k k1 k2⟩
theorem NP.cg {μ ν : M3} (h4 : ν.1 111 4 = μ.1 111 4) (h29 : ν.1 111 29 = μ.1 111 29) (h : ∀ j, ν.1 123 j = μ.1 123 j) (q : NP μ) : NP ν := by
  unfold NP at *
  rw [h4, h29]
  exact ⟨q.1, q.2.cg h⟩
/-- a name more, UNDER ANY -/
theorem NPr.new {μ ν : M3} {a n : Int} (h : NPr μ a n) (h10 : 10 < n) (h1 : ν.1 a n = 10) (h2 : ∀ j, j ≠ n → ν.1 a j = μ.1 a j) : NPr ν a (n + 1) := by
  obtain ⟨rk, q⟩ := h
  refine ⟨fun k => if k = n then rk 10 + 1 else rk k, fun k k1 k2 => ?_⟩
  by_cases hk : k = n
  · subst hk
    right
    rw [h1]
    show 1 ≤ (10 : Int) ∧ (10 : Int) < k + 1 ∧ (if (10 : Int) = k then rk 10 + 1 else rk 10) < (if k = k then rk 10 + 1 else rk k)
    rw [if_neg (by omega), if_pos rfl]
    omega
  · rw [h2 k hk]
    rcases q k k1 (by omega) with w | ⟨w1, w2, w3⟩
    · exact Or.inl w
    · right
      show 1 ≤ μ.1 a k ∧ μ.1 a k < n + 1 ∧ (if μ.1 a k = n then rk 10 + 1 else rk (μ.1 a k)) < (if k = n then rk 10 + 1 else rk k)
      rw [if_neg (by omega), if_neg hk]
      exact ⟨w1, by omega, w3⟩
/-- x goes up to y -/
def goesUp (μ : M3) (a x y : Int) : Nat → Prop
  | 0 => x = y
  | n + 1 => x = y ∨ ∃ z, μ.1 a x = z ∧ 1 ≤ z ∧ goesUp μ a z y n
theorem NPr.set {μ ν : M3} {a n x y : Int} (h : NPr μ a n) (hx : 1 ≤ x ∧ x < n) (hy : 1 ≤ y ∧ y < n) (h1 : ν.1 a x = y) (h2 : ∀ j, j ≠ x → ν.1 a j = μ.1 a j) (hn : ∀ m, ¬ goesUp μ a y x m) : NPr ν a n := by
  obtain ⟨rk, q⟩ := h
  have key : ∀ k, (∃ m, goesUp μ a (μ.1 a k) x m) → 1 ≤ μ.1 a k → ∃ m, goesUp μ a k x m := fun k ⟨m, hm⟩ h1 => ⟨m + 1, Or.inr ⟨_, rfl, h1, hm⟩⟩
  have key2 : ∀ k, k ≠ x → 1 ≤ μ.1 a k → (∃ m, goesUp μ a k x m) → ∃ m, goesUp μ a (μ.1 a k) x m := by
    intro k hk hu ⟨m, hm⟩
    cases m with
    | zero => exact absurd hm hk
    | succ m =>
      rcases hm with e | ⟨z, e, _, hz⟩
      · exact absurd e hk
      · exact ⟨m, by rw [e]; exact hz⟩
  have dec : ∀ p : Prop, p ∨ ¬ p := Classical.em
  refine ⟨fun k => rk k + @ite Nat (∃ m, goesUp μ a k x m) (Classical.propDecidable _) (rk y + 1) 0, fun k k1 k2 => ?_⟩
  by_cases hk : k = x
  · subst hk
    right
    rw [h1]
    refine ⟨hy.1, hy.2, ?_⟩
    show rk y + @ite Nat (∃ m, goesUp μ a y k m) (Classical.propDecidable _) (rk y + 1) 0 < rk k + @ite Nat (∃ m, goesUp μ a k k m) (Classical.propDecidable _) (rk y + 1) 0
    rw [if_neg (fun ⟨m, hm⟩ => hn m hm), if_pos ⟨0, rfl⟩]
    omega
  · rw [h2 k hk]
    rcases q k k1 k2 with w | ⟨w1, w2, w3⟩
    · exact Or.inl w
    · right
      refine ⟨w1, w2, ?_⟩
      show rk (μ.1 a k) + @ite Nat (∃ m, goesUp μ a (μ.1 a k) x m) (Classical.propDecidable _) (rk y + 1) 0 < rk k + @ite Nat (∃ m, goesUp μ a k x m) (Classical.propDecidable _) (rk y + 1) 0
      rcases dec (∃ m, goesUp μ a (μ.1 a k) x m) with e | e
      · rw [if_pos e, if_pos (key k e w1)]; omega
      · rw [if_neg e, if_neg (fun z => e (key2 k hk w1 z))]; omega
