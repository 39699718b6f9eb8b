/-! the reference's machine: what holds between its steps -/
def VV (na nf k b : Int) : Prop := (0 ≤ k ∧ k ≤ 4) ∧ (k = 2 → 0 ≤ b ∧ b < na) ∧ (k = 3 → 0 ≤ b ∧ b < 256) ∧ (k = 4 → 0 ≤ b ∧ b < nf)
theorem VV.up {na nf na2 nf2 k b : Int} (h : VV na nf k b) (h1 : na ≤ na2) (h2 : nf ≤ nf2) : VV na2 nf2 k b := ⟨h.1, fun e => by have := h.2.1 e; omega, h.2.2.1, fun e => by have := h.2.2.2 e; omega⟩
theorem VV.n0 {na nf b : Int} : VV na nf 0 b := ⟨by decide, fun e => absurd e (by decide), fun e => absurd e (by decide), fun e => absurd e (by decide)⟩
theorem VV.n1 {na nf b : Int} : VV na nf 1 b := ⟨by decide, fun e => absurd e (by decide), fun e => absurd e (by decide), fun e => absurd e (by decide)⟩
theorem VV.n4 {na nf b : Int} (h : 0 ≤ b ∧ b < nf) : VV na nf 4 b := ⟨by decide, fun e => absurd e (by decide), fun e => absurd e (by decide), fun _ => h⟩
abbrev vv (μ : M3) (k b : Int) : Prop := VV (μ.1 111 65) (μ.1 111 82) k b
/-- what grows alone -/
def up2 (μ ν : M3) : Prop := μ.1 111 65 ≤ ν.1 111 65 ∧ μ.1 111 82 ≤ ν.1 111 82
theorem up2.eq {μ ν : M3} (h1 : ν.1 111 65 = μ.1 111 65) (h2 : ν.1 111 82 = μ.1 111 82) : up2 μ ν := ⟨by omega, by omega⟩
theorem VV.u {μ ν : M3} {k b : Int} (h : vv μ k b) (u : up2 μ ν) : vv ν k b := VV.up h u.1 u.2
def VA (μ : M3) (a c hi : Int) : Prop := ∀ j, 0 ≤ j → j < hi → vv μ (μ.1 a j) (μ.1 c j)
theorem VA.mv {μ ν : M3} {a c hi h2 : Int} (h : VA μ a c hi) (u : up2 μ ν) (hh : h2 ≤ hi) (ea : ∀ j, 0 ≤ j → j < h2 → ν.1 a j = μ.1 a j) (ec : ∀ j, 0 ≤ j → j < h2 → ν.1 c j = μ.1 c j) : VA ν a c h2 := fun j j0 j1 => by
  rw [ea j j0 j1, ec j j0 j1]; exact VV.u (h j j0 (by omega)) u
theorem VA.push {μ ν : M3} {a c hi : Int} (h : VA μ a c hi) (u : up2 μ ν) (hv : vv ν (ν.1 a hi) (ν.1 c hi)) (ea : ∀ j, j ≠ hi → ν.1 a j = μ.1 a j) (ec : ∀ j, j ≠ hi → ν.1 c j = μ.1 c j) : VA ν a c (hi + 1) := fun j j0 j1 => by
  by_cases e : j = hi
  · rw [e]; exact hv
  · rw [ea j e, ec j e]; exact VV.u (h j j0 (by omega)) u
/-- arrays and their cells -/
def HA (μ : M3) : Prop := (0 ≤ μ.1 111 65 ∧ 0 ≤ μ.1 111 68 ∧ μ.1 111 65 + μ.1 111 68 = μ.1 111 69 ∧ μ.1 111 69 ≤ 20000) ∧ (∀ a, 0 ≤ a → a < μ.1 111 65 → (0 ≤ μ.1 144 a ∧ 0 ≤ μ.1 145 a ∧ μ.1 145 a ≤ 400 ∧ μ.1 144 a + μ.1 145 a ≤ μ.1 111 68) ∧ (0 ≤ μ.1 146 a ∧ μ.1 146 a ≤ 3)) ∧ VA μ 147 148 (μ.1 111 68)
/-- failures, and what lies under them -/
def HF (μ : M3) : Prop := (0 ≤ μ.1 111 82 ∧ μ.1 111 82 ≤ μ.1 111 83 ∧ μ.1 111 83 ≤ 5000 ∧ 0 ≤ μ.1 111 81 ∧ μ.1 111 81 ≤ 2 * μ.1 111 83) ∧ (∀ g, 0 ≤ g → g < μ.1 111 82 → (0 ≤ μ.1 149 g ∧ μ.1 149 g ≤ 3) ∧ (μ.1 149 g = 0 → 1 ≤ μ.1 150 g ∧ μ.1 150 g < μ.1 111 4) ∧ (-1 ≤ μ.1 156 g ∧ μ.1 156 g < g) ∧ (-1 ≤ μ.1 157 g ∧ μ.1 157 g < μ.1 111 81)) ∧ VA μ 151 152 (μ.1 111 82) ∧ ∀ j, 0 ≤ j → j < μ.1 111 81 → (0 ≤ μ.1 158 j ∧ μ.1 158 j < μ.1 111 82) ∧ (-1 ≤ μ.1 159 j ∧ μ.1 159 j < j)
/-- entries and defaults -/
def EN (μ : M3) : Prop := (0 ≤ μ.1 111 104 ∧ μ.1 111 104 ≤ 100) ∧ (∀ k t u, 0 ≤ k → k < μ.1 111 104 → μ.1 163 k = 4 * t + u → 0 ≤ u → u ≤ 3 → u ≠ 1 → 1 ≤ μ.1 165 k ∧ μ.1 165 k < μ.1 111 4) ∧ ∀ t u, 0 ≤ t → t ≤ 3 → 0 ≤ u → u ≤ 3 → u ≠ 1 → 1 ≤ μ.1 166 (4 * t + u) ∧ μ.1 166 (4 * t + u) < μ.1 111 4
def AN (μ : M3) : Prop := vv μ (μ.1 111 95) (μ.1 111 96) ∧ (-1 ≤ μ.1 111 97 ∧ μ.1 111 97 < μ.1 111 82)
def NMs (μ : M3) : Prop := (12 ≤ μ.1 111 4 ∧ μ.1 111 4 ≤ 52) ∧ NPr μ 114 (μ.1 111 4)
def BASE (μ : M3) : Prop := NMs μ ∧ mPR μ ∧ HA μ ∧ HF μ ∧ EN μ ∧ AN μ ∧ (0 ≤ μ.1 111 84 ∧ μ.1 111 84 ≤ 80000)
/-- the code, the functions, the names are as they were -/
def Cs (μ ν : M3) : Prop := (∀ a, a ∈ ([114, 115, 116, 117, 119, 120, 121, 122] : List Int) → ∀ j, ν.1 a j = μ.1 a j) ∧ ν.1 111 4 = μ.1 111 4
theorem Cs.rf {μ : M3} : Cs μ μ := ⟨fun _ _ _ => rfl, rfl⟩
theorem Cs.tr {μ ν π : M3} (h : Cs μ ν) (g : Cs ν π) : Cs μ π := ⟨fun a ha j => (g.1 a ha j).trans (h.1 a ha j), g.2.trans h.2⟩
def csL (L : List Int) : Bool := ([114, 115, 116, 117, 119, 120, 121, 122] : List Int).all (fun a => !L.contains a)
theorem Cs.fr {L : List Int} {μ ν : M3} (F : FrM L μ ν) (hL : csL L = true) (h4 : ν.1 111 4 = μ.1 111 4) : Cs μ ν := ⟨fun a ha j => F.1 a (fun q => by
  have h1 := List.all_eq_true.mp hL a ha
  rw [List.contains_iff_mem.mpr q] at h1; cases h1) j, h4⟩
theorem Cs.cd {μ ν : M3} (h : Cs μ ν) (b : Int) : cdm ν b = cdm μ b := by
  funext i k
  unfold cdm
  rw [h.1 115 (by decide), h.1 116 (by decide), h.1 117 (by decide)]
theorem Cs.fo {μ ν : M3} (h : Cs μ ν) (b t : Int) : mh ν b = mh μ b ∧ mc ν b t = mc μ b t ∧ md ν b t = md μ b t ∧ mk ν b t = mk μ b t :=
  (mSX.sh (t := t) (N := (0, 0)) (A := 0) (B := 0) (e := 0) (M := 0) (H := 0) (X := NX) (h.cd b)).1
/-- a function's code from A to its last RETURN at B -/
def FY (μ : M3) (t A B S : Int) : Prop := (0 ≤ A ∧ A ≤ B ∧ B ≤ 8989) ∧ (∀ i, A ≤ i → i ≤ B → lcq μ (9000 * t) t (μ.1 111 4, S) i A B ∧ (0 ≤ mh μ (9000 * t) i ∧ mh μ (9000 * t) i ≤ 101) ∧ (0 ≤ md μ (9000 * t) t i ∧ md μ (9000 * t) t i ≤ 16)) ∧ (mh μ (9000 * t) A = 0 ∧ mc μ (9000 * t) t A = 0 ∧ md μ (9000 * t) t A = 0) ∧ cdm μ (9000 * t) B 0 = 9
theorem FY.cs {μ ν : M3} {t A B S : Int} (h : FY μ t A B S) (c : Cs μ ν) : FY ν t A B S := by
  obtain ⟨e1, e2, e3, e4⟩ := c.fo (9000 * t) t
  have e0 := c.cd (9000 * t)
  unfold FY lcq lcq0 mtg msd at *
  rw [e0, e1, e2, e3, e4, c.2]
  exact h
theorem fROW.ft {μ : M3} {t k E : Int} (h : fROW μ t k E) : FY μ t (μ.1 119 (40 * t + k)) (E + 1) (μ.1 121 (40 * t + k)) := by
  obtain ⟨⟨⟨h0, h1, h2, h3, h4, h5⟩, a1, a2, a3, a4, a5, a6⟩, b1, -, -⟩ := h
  have n0 : 0 ≤ E := by omega
  have s1 := mh_s (μ := μ) (b := 9000 * t) n0
  have s2 := md_s (μ := μ) (b := 9000 * t) (t := t) n0
  rw [a5] at s1 s2
  have z1 : eem 2 (cdm μ (9000 * t) E 2) = 1 := rfl
  have z2 : dem t (mp μ (9000 * t) E) 2 = 0 := rfl
  rw [z1] at s1
  rw [z2] at s2
  have qE := h5 E h0.2 (Int.le_refl _)
  refine ⟨by omega, fun i i0 i1 => ?_, ⟨a1, a2, a4⟩, a6⟩
  rcases Classical.em (i < E) with hi | hi
  · have q := h5 i i0 (by omega)
    exact ⟨(h4 i i0 hi (fun z => z)).up (Int.le_refl _) (by omega) (Int.le_refl _), by omega, by omega⟩
  · rcases Classical.em (i = E) with e | e
    · subst e
      refine ⟨?_, by omega, by omega⟩
      unfold lcq lcq0
      rw [a5]
      exact ⟨fun q => absurd q (by decide), ⟨fun q => absurd q (by decide), fun q => absurd q (by decide)⟩, fun q => absurd q (by decide), fun q => absurd q (by decide), fun q => absurd q (by decide), fun q => absurd q (by decide), fun q => absurd q (by decide), fun q => absurd q (by decide), fun q => absurd q (by decide), fun q => absurd q (by decide), fun q => absurd q (by decide), fun q => absurd q (by decide), fun q => absurd q (by decide), fun q => absurd q (by decide), fun q => absurd q (by decide), fun q => absurd q (by decide), fun q => absurd q (by decide), fun q => absurd q (by decide), fun q => absurd q (by decide), fun q => absurd q (by decide), fun q => absurd q (by decide), ⟨fun q => absurd q (by decide), fun q => absurd q (by decide), fun q => absurd q (by decide)⟩, ⟨by decide, by decide⟩⟩
    · have e : i = E + 1 := by omega
      subst e
      refine ⟨?_, by omega, by omega⟩
      unfold lcq lcq0
      rw [a6]
      exact ⟨fun q => absurd q (by decide), ⟨fun q => absurd q (by decide), fun q => absurd q (by decide)⟩, fun _ => by omega, fun q => absurd q (by decide), fun q => absurd q (by decide), fun q => absurd q (by decide), fun q => absurd q (by decide), fun q => absurd q (by decide), fun q => absurd q (by decide), fun q => absurd q (by decide), fun q => absurd q (by decide), fun q => absurd q (by decide), fun q => absurd q (by decide), fun q => absurd q (by decide), fun q => absurd q (by decide), fun q => absurd q (by decide), fun q => absurd q (by decide), fun q => absurd q (by decide), fun q => absurd q (by decide), fun q => absurd q (by decide), fun q => absurd q (by decide), ⟨fun q => absurd q (by decide), fun q => absurd q (by decide), fun q => absurd q (by decide)⟩, ⟨by decide, by decide⟩⟩
abbrev fA (μ : M3) (i : Int) : Int := μ.1 119 (40 * μ.1 127 i + μ.1 128 i)
abbrev fS (μ : M3) (i : Int) : Int := μ.1 121 (40 * μ.1 127 i + μ.1 128 i)
abbrev fH (μ : M3) (i pc : Int) : Int := mh μ (9000 * μ.1 127 i) pc
abbrev fC (μ : M3) (i pc : Int) : Int := mc μ (9000 * μ.1 127 i) (μ.1 127 i) pc
abbrev fD (μ : M3) (i pc : Int) : Int := md μ (9000 * μ.1 127 i) (μ.1 127 i) pc
abbrev fK (μ : M3) (i pc : Int) : Int → Int := mk μ (9000 * μ.1 127 i) (μ.1 127 i) pc
abbrev fO (μ : M3) (i pc k : Int) : Int := cdm μ (9000 * μ.1 127 i) pc k
abbrev fT (μ : M3) (i B : Int) : Prop := FY μ (μ.1 127 i) (fA μ i) B (fS μ i)
def FRb (μ : M3) (i : Int) : Prop := (0 ≤ μ.1 127 i ∧ μ.1 127 i ≤ 3) ∧ (0 ≤ μ.1 128 i ∧ μ.1 128 i < μ.1 122 (μ.1 127 i)) ∧ (0 ≤ μ.1 131 i ∧ μ.1 131 i ≤ 101 * i) ∧ (0 ≤ μ.1 132 i ∧ μ.1 132 i ≤ 16 * i)
/-- frame i stands at pc: S is the stack's height, bl the blocks -/
def TP (μ : M3) (i pc S bl : Int) : Prop := ∃ B, fT μ i B ∧ (fA μ i ≤ pc ∧ pc ≤ B) ∧ S = μ.1 131 i + fH μ i pc ∧ bl = μ.1 132 i + fD μ i pc ∧ ∀ j, 0 ≤ j → j < fD μ i pc → μ.1 137 (μ.1 132 i + j) = fK μ i pc j
/-- a place to which one may go with the blocks below k kept (and, d = 1, a FINISHING one more) -/
def LD (μ : M3) (i k x d : Int) : Prop := ∃ B, fT μ i B ∧ (fA μ i ≤ x ∧ x ≤ B) ∧ fH μ i x = 0 ∧ fC μ i x = 0 ∧ fD μ i x = k - μ.1 132 i + d ∧ (d = 1 → fK μ i x (k - μ.1 132 i) = 2) ∧ ∀ j, 0 ≤ j → j < k - μ.1 132 i → fK μ i x j = μ.1 137 (μ.1 132 i + j)
/-- where a TRY's catches begin -/
def LC (μ : M3) (i k x : Int) : Prop := ∃ B, fT μ i B ∧ (fA μ i ≤ x ∧ x < B) ∧ fO μ i x 0 = 13 ∧ fD μ i x = k - μ.1 132 i ∧ ∀ j, 0 ≤ j → j < k - μ.1 132 i → fK μ i x j = μ.1 137 (μ.1 132 i + j)
def BK (μ : M3) (i k : Int) : Prop := μ.1 140 k = μ.1 131 i ∧ (0 ≤ μ.1 137 k ∧ μ.1 137 k ≤ 4) ∧ (μ.1 127 i = 1 → μ.1 137 k = 3) ∧ (μ.1 137 k = 0 → μ.1 127 i = 0 ∧ LC μ i k (μ.1 138 k)) ∧ (μ.1 137 k = 1 → LD μ i k (μ.1 138 k) 1) ∧ (μ.1 137 k = 3 ∨ μ.1 137 k = 4 → LD μ i k (μ.1 138 k) 0) ∧ (μ.1 137 k = 4 → μ.1 127 i = 3 ∧ (0 ≤ μ.1 141 k ∧ μ.1 141 k < 9000) ∧ 0 ≤ μ.1 116 (27000 + μ.1 141 k) ∧ μ.1 116 (27000 + μ.1 141 k) < 320) ∧ (μ.1 137 k = 2 → μ.1 141 k = 2 → (0 ≤ μ.1 143 k ∧ μ.1 143 k < μ.1 111 82) ∧ μ.1 149 (μ.1 143 k) = μ.1 127 i)
def nb (μ : M3) (n bl i : Int) : Int := if i + 1 < n then μ.1 132 (i + 1) else bl
def FRS (μ : M3) (n bl : Int) : Prop := ∀ i, 0 ≤ i → i < n → FRb μ i ∧ (i + 1 < n → TP μ i (μ.1 129 i) (μ.1 131 (i + 1) + 1) (μ.1 132 (i + 1)) ∧ fC μ i (μ.1 129 i) = 0 ∧ μ.1 131 i ≤ μ.1 131 (i + 1)) ∧ ∀ k, μ.1 132 i ≤ k → k < nb μ n bl i → BK μ i k
def VR (μ : M3) (n : Int) : Prop := ∀ i v, 0 ≤ i → i < n → 0 ≤ v → v < fS μ i → v < 320 → vv μ (μ.1 133 (320 * i + v)) (μ.1 134 (320 * i + v))
def PD (μ : M3) (bl : Int) : Prop := ∀ k, 0 ≤ k → k < bl → μ.1 137 k = 2 → (0 ≤ μ.1 141 k ∧ μ.1 141 k ≤ 2) ∧ (μ.1 141 k = 1 → vv μ (μ.1 142 k) (μ.1 143 k)) ∧ (μ.1 141 k = 2 → 0 ≤ μ.1 143 k ∧ μ.1 143 k < μ.1 111 82)
def FL (μ : M3) (n : Int) : Int := if n = 0 then 0 else μ.1 131 (n - 1)
def FB (μ : M3) (n : Int) : Int := if n = 0 then 0 else μ.1 132 (n - 1)
theorem FL_1 {μ : M3} {n : Int} (h : 1 ≤ n) : FL μ n = μ.1 131 (n - 1) := if_neg (by omega)
theorem FB_1 {μ : M3} {n : Int} (h : 1 ≤ n) : FB μ n = μ.1 132 (n - 1) := if_neg (by omega)
/-- the machine, with n frames, bl blocks, m VALUES -/
def MZx (μ : M3) (n bl m : Int) : Prop := BASE μ ∧ (0 ≤ n ∧ n ≤ 24) ∧ FRS μ n bl ∧ (FB μ n ≤ bl ∧ bl ≤ 400) ∧ μ.1 111 81 + bl ≤ 2 * μ.1 111 83 ∧ VR μ n ∧ PD μ bl ∧ (FL μ n ≤ m ∧ m ≤ 8000) ∧ VA μ 135 136 m
def MZ (μ : M3) : Prop := MZx μ (μ.1 111 47) (μ.1 111 61) (μ.1 111 53)
