/-! what is carried through a statement: the places that wait, the height, the relations told so far -/
def Wp (ν : M3) (P q o : Int) : Prop := (0 ≤ q ∧ q < ν.1 P 1) ∧ cdp ν P q 0 = o
theorem Wp.of {μ ν : M3} {P o f s q : Int} (h : AD μ ν P o f s) (h0 : 0 ≤ μ.1 P 1) (hq : q = μ.1 P 1) : Wp ν P q o := by
  subst hq; exact ⟨⟨h0, by rw [h.2.1]; omega⟩, h.2.2.1⟩
theorem Wp.ext {μ ν : M3} {P q o : Int} (h : Wp μ P q o) (e : EXT μ ν P) : Wp ν P q o := ⟨⟨h.1.1, Int.lt_of_lt_of_le h.1.2 e.1⟩, by rw [e.2 q 0 k0 h.1.2]; exact h.2⟩
theorem Wp.mf {μ ν : M3} {P q o r T : Int} (h : Wp μ P q o) (m : MF μ ν P r T) : Wp ν P q o := ⟨⟨h.1.1, by rw [m.1]; exact h.1.2⟩, by rw [m.2.2.2 q 0 k0 (fun z => absurd z.2 (by decide))]; exact h.2⟩
theorem Wp.ms {μ ν : M3} {P q o r T : Int} (h : Wp μ P q o) (m : MS μ ν P r T) : Wp ν P q o := ⟨⟨h.1.1, by rw [m.1]; exact h.1.2⟩, by rw [m.2.2.2 q 0 k0 (fun z => absurd z.2 (by decide))]; exact h.2⟩
theorem Wp.fr {K : List Int} {μ ν : M3} {P q o : Int} (h : Wp μ P q o) (F : Fr K μ ν) (p1 : P ∉ K) (p2 : P + 1 ∉ K) : Wp ν P q o := h.ext (EXT.fr F p1 p2)
theorem AD.fr {K : List Int} {μ ν π : M3} {P o f s : Int} (h : AD μ ν P o f s) (F : Fr K ν π) (p1 : P ∉ K) (p2 : P + 1 ∉ K) : AD μ π P o f s := by
  have E := EXT.fr F p1 p2
  have hl : μ.1 P 1 < ν.1 P 1 := by rw [h.2.1]; omega
  refine ⟨h.1.tr E, by rw [F.1 P p1 1]; exact h.2.1, ?_, ?_, ?_⟩
  · rw [E.2 _ 0 k0 hl]; exact h.2.2.1
  · rw [E.2 _ 1 k1 hl]; exact h.2.2.2.1
  · rw [E.2 _ 2 k2 hl]; exact h.2.2.2.2
theorem MF.fr {K : List Int} {μ ν π : M3} {P q T : Int} (h : MF μ ν P q T) (F : Fr K ν π) (p1 : P ∉ K) (p2 : P + 1 ∉ K) : MF μ π P q T := by
  have e : ∀ i k, cdp π P i k = cdp ν P i k := cdp_fr F p1 p2
  exact ⟨by rw [F.1 P p1 1]; exact h.1, h.2.1, by rw [e]; exact h.2.2.1, fun i k hk hn => by rw [e]; exact h.2.2.2 i k hk hn⟩
theorem MS.fr {K : List Int} {μ ν π : M3} {P q T : Int} (h : MS μ ν P q T) (F : Fr K ν π) (p1 : P ∉ K) (p2 : P + 1 ∉ K) : MS μ π P q T := by
  have e : ∀ i k, cdp π P i k = cdp ν P i k := cdp_fr F p1 p2
  exact ⟨by rw [F.1 P p1 1]; exact h.1, h.2.1, by rw [e]; exact h.2.2.1, fun i k hk hn => by rw [e]; exact h.2.2.2 i k hk hn⟩
/-- one instruction's op is set -/
def MO (μ ν : M3) (P q o : Int) : Prop := ν.1 P 1 = μ.1 P 1 ∧ (0 ≤ q ∧ q < μ.1 P 1) ∧ cdp ν P q 0 = o ∧ ∀ i k, kk k → ¬ (i = q ∧ k = 0) → cdp ν P i k = cdp μ P i k
theorem MO.fr {K : List Int} {μ ν π : M3} {P q T : Int} (h : MO μ ν P q T) (F : Fr K ν π) (p1 : P ∉ K) (p2 : P + 1 ∉ K) : MO μ π P q T := by
  have e : ∀ i k, cdp π P i k = cdp ν P i k := cdp_fr F p1 p2
  exact ⟨by rw [F.1 P p1 1]; exact h.1, h.2.1, by rw [e]; exact h.2.2.1, fun i k hk hn => by rw [e]; exact h.2.2.2 i k hk hn⟩
theorem MO.of {μ ν : M3} {P q T : Int} (h2 : ν.1 P 1 = μ.1 P 1) (hq : 0 ≤ q ∧ q < μ.1 P 1) (a1 : ν.1 (P + 1) (q * 4) = T) (hk : ∀ j, j ≠ q * 4 → ν.1 (P + 1) j = μ.1 (P + 1) j) : MO μ ν P q T := by
  refine ⟨h2, hq, ?_, fun i k h3 hn => ?_⟩
  · unfold cdp; rw [if_pos ⟨hq.1, by omega⟩, show 4 * q + 0 = q * 4 by omega]; exact a1
  · unfold cdp; rw [h2]
    by_cases hi : 0 ≤ i ∧ i < μ.1 P 1
    · rw [if_pos hi, if_pos hi]
      exact hk _ (fun z => hn (by unfold kk at h3; omega))
    · rw [if_neg hi, if_neg hi]
/-- a slot of NOP becomes a GUARD -/
theorem MO.fo {μ ν : M3} {P t q : Int} (h : MO μ ν P q 28) (hq : cdp μ P q 0 = 0) : ∀ i, hs ν P i = hs μ P i ∧ cs ν P t i = cs μ P t i ∧ ds ν P t i = ds μ P t i + (if q < i then 1 else 0) := by
  have key : ∀ n : Nat, hsN ν P n = hsN μ P n ∧ csN ν P t n = csN μ P t n ∧ dsN ν P t n = dsN μ P t n + (if q < (n : Int) then 1 else 0) := by
    intro n
    induction n with
    | zero => exact ⟨rfl, rfl, by rw [if_neg (by have := h.2.1.1; omega)]; rfl⟩
    | succ n ih =>
      obtain ⟨a1, a2, a3⟩ := ih
      by_cases e : (n : Int) = q
      · have o1 : cdp ν P n 0 = 28 := by rw [e]; exact h.2.2.1
        have o0 : cdp μ P n 0 = 0 := by rw [e]; exact hq
        refine ⟨?_, ?_, ?_⟩
        · show max 1 (hsN ν P n + eff (cdp ν P n 0) (cdp ν P n 1)) = max 1 (hsN μ P n + eff (cdp μ P n 0) (cdp μ P n 1))
          rw [a1, o1, o0]; rfl
        · show cef t (cdp ν P n 0) (csN ν P t n) = cef t (cdp μ P n 0) (csN μ P t n)
          rw [a2, o1, o0]; rfl
        · show dsN ν P t n + def_ t (cdp ν P n 0) = dsN μ P t n + def_ t (cdp μ P n 0) + _
          rw [a3, o1, o0, if_neg (by omega), if_pos (by omega)]
          show dsN μ P t n + 0 + 1 = dsN μ P t n + 0 + 1
          rfl
      · have c : ∀ k, kk k → cdp ν P n k = cdp μ P n k := fun k hk => h.2.2.2 n k hk (fun z => e z.1)
        refine ⟨?_, ?_, ?_⟩
        · show max 1 (hsN ν P n + eff (cdp ν P n 0) (cdp ν P n 1)) = max 1 (hsN μ P n + eff (cdp μ P n 0) (cdp μ P n 1))
          rw [a1, c 0 k0, c 1 k1]
        · show cef t (cdp ν P n 0) (csN ν P t n) = cef t (cdp μ P n 0) (csN μ P t n)
          rw [a2, c 0 k0]
        · show dsN ν P t n + def_ t (cdp ν P n 0) = dsN μ P t n + def_ t (cdp μ P n 0) + _
          rw [a3, c 0 k0]
          by_cases hq2 : q < (n : Int)
          · rw [if_pos hq2, if_pos (by omega)]; omega
          · rw [if_neg hq2, if_neg (by omega)]; omega
  intro i
  have := key i.toNat
  unfold hs cs ds
  refine ⟨this.1, this.2.1, ?_⟩
  rw [this.2.2]
  have hq0 := h.2.1.1
  by_cases h1 : q < i
  · rw [if_pos h1, if_pos (by omega)]
  · rw [if_neg h1, if_neg (by omega)]
theorem MO.kp {μ ν : M3} {P t q a b : Int} (h : MO μ ν P q 28) (hq : cdp μ P q 0 = 0) (hab : q < a ∨ b ≤ q) : KP μ ν P t a b := by
  refine ⟨fun i k hk h1 h2 => h.2.2.2 i k hk (fun z => by omega), fun i h1 h2 => ?_⟩
  have z := h.fo (t := t) hq i
  have z2 := h.fo (t := t) hq a
  refine ⟨z.1, z.2.1, ?_⟩
  rw [z.2.2, z2.2.2]
  rcases hab with q1 | q1
  · rw [if_pos (by omega), if_pos q1]; omega
  · rw [if_neg (by omega), if_neg (by omega)]; omega
theorem MO.ex {μ ν π : M3} {P q T : Int} (e : EXT μ ν P) (m : MO ν π P q T) (hq : μ.1 P 1 ≤ q) : EXT μ π P := ⟨by rw [m.1]; exact e.1, fun i k hk hi => by rw [m.2.2.2 i k hk (fun z => absurd z.1 (by omega))]; exact e.2 i k hk hi⟩
theorem Wp.mo {μ ν : M3} {P q o r T : Int} (h : Wp μ P q o) (m : MO μ ν P r T) (hq : q ≠ r) : Wp ν P q o := ⟨⟨h.1.1, by rw [m.1]; exact h.1.2⟩, by rw [m.2.2.2 q 0 k0 (fun z => hq z.1)]; exact h.2⟩
theorem Wp.mo2 {μ ν : M3} {P q o : Int} (m : MO μ ν P q o) : Wp ν P q o := ⟨by rw [m.1]; exact m.2.1, m.2.2.1⟩
/-- height of statements, and what may still be pushed -/
def HC (ν : M3) (P t c : Int) : Prop := 0 ≤ ν.1 P 1 ∧ hs ν P (ν.1 P 1) = 1 ∧ cs ν P t (ν.1 P 1) = c
theorem HC.fr {K : List Int} {μ ν : M3} {P t c : Int} (h : HC μ P t c) (F : Fr K μ ν) (p1 : P ∉ K) (p2 : P + 1 ∉ K) : HC ν P t c := by
  have z := (EXT.fr F p1 p2).fo (t := t) (μ.1 P 1) (Int.le_refl _)
  unfold HC
  rw [F.1 P p1 1, z.1, z.2.1]
  exact h
theorem HC.of {μ : M3} {P t : Int} (h : STP μ P t) : HC μ P t (if t = 0 then 2 else 1) := by
  obtain ⟨h1, h2, h3, h4⟩ := h
  have e : μ.1 P 1 = μ.1 P 1 - 1 + 1 := by omega
  refine ⟨by omega, ?_, ?_⟩
  · rw [e, hs_s (by omega), h2, h3]; rfl
  · rw [e, cs_s (by omega), h2]; rfl
theorem HC.c {μ : M3} {P t c d : Int} (h : HC μ P t c) (e : c = d) : HC μ P t d := by rw [← e]; exact h
theorem HC.ex {μ ν : M3} {P t M : Int} (h : HC μ P t 0) (e : EX μ ν P t 0 M) : HC ν P t 0 := by
  have l := e.1.1
  refine ⟨by have := h.1; omega, by rw [e.h, h.2.1]; rfl, ?_⟩
  by_cases hb : μ.1 P 1 < ν.1 P 1
  · exact e.2.2.2.1 hb
  · have : ν.1 P 1 = μ.1 P 1 := by omega
    rw [this, (e.1.fo (t := t) _ (Int.le_refl _)).2.1]; exact h.2.2
theorem HC.ad {μ ν : M3} {P t c o f s : Int} (h : HC μ P t c) (a : AD μ ν P o f s) (he : eff o f = 0 ∨ eff o f = -1) : HC ν P t (cef t o c) := by
  refine ⟨by rw [a.2.1]; have := h.1; omega, ?_, ?_⟩
  · rw [a.2.1, a.fh h.1, h.2.1]; omega
  · rw [a.2.1, a.fc h.1, h.2.2]
theorem HC.mf {μ ν : M3} {P t c q o T : Int} (h : HC μ P t c) (m : MF μ ν P q T) (w : Wp μ P q o) (ho : o ≠ 13 ∧ o ≠ 14) : HC ν P t c := by
  have z := m.fo (t := t) (by rw [w.2]; exact ho) (μ.1 P 1)
  unfold HC
  rw [m.1, z.1, z.2.1]
  exact h
theorem HC.ms {μ ν : M3} {P t c q T : Int} (h : HC μ P t c) (m : MS μ ν P q T) : HC ν P t c := by
  have z := m.fo (t := t) (μ.1 P 1)
  unfold HC
  rw [m.1, z.1, z.2.1]
  exact h
theorem HC.mo {μ ν : M3} {P t c q : Int} (h : HC μ P t c) (m : MO μ ν P q 28) (w : Wp μ P q 0) : HC ν P t c := by
  have z := m.fo (t := t) w.2 (μ.1 P 1)
  unfold HC
  rw [m.1, z.1, z.2.1]
  exact h
/-- behind a question -/
def QU (μ ν : M3) (P t r : Int) : Prop := ∃ π, EX μ π P t 1 0 ∧ AD π ν P 20 0 0 ∧ r = π.1 P 1
theorem QU.fr {K : List Int} {μ ν π : M3} {P t r : Int} (h : QU μ ν P t r) (F : Fr K ν π) (p1 : P ∉ K) (p2 : P + 1 ∉ K) : QU μ π P t r := by
  obtain ⟨a, b, c, d⟩ := h; exact ⟨a, b, c.fr F p1 p2, d⟩
theorem QU.h {μ ν : M3} {P t r c : Int} (h : HC μ P t c) (q : QU μ ν P t r) : HC ν P t 0 := by
  obtain ⟨π, b, c, d⟩ := q
  have l := b.1.1
  have l0 := h.1
  refine ⟨by rw [c.2.1]; omega, ?_, ?_⟩
  · rw [c.2.1, c.fh (by omega), b.h, h.2.1]; rfl
  · rw [c.2.1, c.fc (by omega)]; rfl
theorem QU.w {μ ν : M3} {P t r : Int} (q : QU μ ν P t r) : Wp ν P r 20 := by
  obtain ⟨π, b, c, d⟩ := q
  exact Wp.of c (by have := b.1.1; have := b.2.1.1; omega) d
theorem QU.ext {μ ν : M3} {P t r : Int} (q : QU μ ν P t r) : EXT μ ν P := by
  obtain ⟨π, b, c, d⟩ := q
  exact b.1.tr c.1
/-- one relation behind another -/
def Th (R : M3 → Prop) (Q : M3 → M3 → Prop) (ν : M3) : Prop := ∃ π, R π ∧ Q π ν
theorem Th.fr {R : M3 → Prop} {Q : M3 → M3 → Prop} {K : List Int} {ν ω : M3} {P : Int} (h : Th R Q ν) (F : Fr K ν ω) (p1 : P ∉ K) (p2 : P + 1 ∉ K) (c : ∀ π, Q π ν → Fr K ν ω → P ∉ K → P + 1 ∉ K → Q π ω) : Th R Q ω := by
  obtain ⟨π, a, b⟩ := h
  exact ⟨π, a, c π b F p1 p2⟩
def qE (P t e M : Int) (μ ν : M3) : Prop := EX μ ν P t e M
def qA (P o f s a : Int) (μ ν : M3) : Prop := AD μ ν P o f s ∧ a = μ.1 P 1
def qF (P q T : Int) (μ ν : M3) : Prop := MF μ ν P q T ∧ T = μ.1 P 1
def qG (P q T : Int) (μ ν : M3) : Prop := MF μ ν P q T
def qS (P q T : Int) (μ ν : M3) : Prop := MS μ ν P q T
def qO (P q o : Int) (μ ν : M3) : Prop := MO μ ν P q o
def qQ (P t r : Int) (μ ν : M3) : Prop := QU μ ν P t r
theorem ThE {R : M3 → Prop} {K : List Int} {ν ω : M3} {P t e M : Int} (h : Th R (qE P t e M) ν) (F : Fr K ν ω) (p1 : P ∉ K) (p2 : P + 1 ∉ K) : Th R (qE P t e M) ω := Th.fr h F p1 p2 (fun _ q F p1 p2 => EX.fr q F p1 p2)
theorem ThA {R : M3 → Prop} {K : List Int} {ν ω : M3} {P o f s a : Int} (h : Th R (qA P o f s a) ν) (F : Fr K ν ω) (p1 : P ∉ K) (p2 : P + 1 ∉ K) : Th R (qA P o f s a) ω := Th.fr h F p1 p2 (fun _ q F p1 p2 => ⟨AD.fr q.1 F p1 p2, q.2⟩)
theorem ThF {R : M3 → Prop} {K : List Int} {ν ω : M3} {P q T : Int} (h : Th R (qF P q T) ν) (F : Fr K ν ω) (p1 : P ∉ K) (p2 : P + 1 ∉ K) : Th R (qF P q T) ω := Th.fr h F p1 p2 (fun _ q F p1 p2 => ⟨MF.fr q.1 F p1 p2, q.2⟩)
theorem ThG {R : M3 → Prop} {K : List Int} {ν ω : M3} {P q T : Int} (h : Th R (qG P q T) ν) (F : Fr K ν ω) (p1 : P ∉ K) (p2 : P + 1 ∉ K) : Th R (qG P q T) ω := Th.fr h F p1 p2 (fun _ q F p1 p2 => MF.fr q F p1 p2)
theorem ThS {R : M3 → Prop} {K : List Int} {ν ω : M3} {P q T : Int} (h : Th R (qS P q T) ν) (F : Fr K ν ω) (p1 : P ∉ K) (p2 : P + 1 ∉ K) : Th R (qS P q T) ω := Th.fr h F p1 p2 (fun _ q F p1 p2 => MS.fr q F p1 p2)
theorem ThO {R : M3 → Prop} {K : List Int} {ν ω : M3} {P q T : Int} (h : Th R (qO P q T) ν) (F : Fr K ν ω) (p1 : P ∉ K) (p2 : P + 1 ∉ K) : Th R (qO P q T) ω := Th.fr h F p1 p2 (fun _ q F p1 p2 => MO.fr q F p1 p2)
theorem ThQ {R : M3 → Prop} {K : List Int} {ν ω : M3} {P t r : Int} (h : Th R (qQ P t r) ν) (F : Fr K ν ω) (p1 : P ∉ K) (p2 : P + 1 ∉ K) : Th R (qQ P t r) ω := Th.fr h F p1 p2 (fun _ q F p1 p2 => QU.fr q F p1 p2)
/-- the beginning -/
def q0 (μ : M3) (P : Int) (ν : M3) : Prop := EXT μ ν P ∧ ν.1 P 1 = μ.1 P 1
theorem q0.fr {K : List Int} {μ ν ω : M3} {P : Int} (h : q0 μ P ν) (F : Fr K ν ω) (p1 : P ∉ K) (p2 : P + 1 ∉ K) : q0 μ P ω := ⟨h.1.tr (EXT.fr F p1 p2), by rw [F.1 P p1 1]; exact h.2⟩
theorem q0.fe {μ ν π : M3} {P t e M : Int} (h : q0 μ P ν) (g : EX ν π P t e M) : EX μ π P t e M := ⟨h.1.tr g.1, by rw [← h.2]; exact g.2⟩
theorem q0.fa {μ ν π : M3} {P o f s : Int} (h : q0 μ P ν) (g : AD ν π P o f s) : AD μ π P o f s := by
  obtain ⟨a, b, c, d, e⟩ := g
  rw [h.2] at b c d e
  exact ⟨h.1.tr a, b, c, d, e⟩
theorem q0.fq {μ ν π : M3} {P t r : Int} (h : q0 μ P ν) (g : QU ν π P t r) : QU μ π P t r := by
  obtain ⟨a, b, c, d⟩ := g
  exact ⟨a, h.fe b, c, d⟩
/-! statements put together -/
theorem as_ifq {μ ν : M3} {P t r T M : Int} (s : STP μ P t) (h : Th (Th (Th (q0 μ P) (qQ P t r)) (qE P t 0 M)) (qF P r T) ν) (hM : 0 ≤ M) : ES μ ν P t M := by
  obtain ⟨a3, ⟨a2, ⟨a1, h0, h1⟩, h2⟩, h3, e3⟩ := h
  obtain ⟨π, b1, b2, b3⟩ := h0.fq h1
  rw [b3, e3] at h3
  exact ES.ifq s b1 b2 h2 h3 hM
theorem as_ife {μ ν : M3} {P t r j T T2 M : Int} (s : STP μ P t) (h : Th (Th (Th (Th (Th (Th (q0 μ P) (qQ P t r)) (qE P t 0 M)) (qA P 19 0 0 j)) (qF P r T)) (qE P t 0 M)) (qF P j T2) ν) (hM : 0 ≤ M) : ES μ ν P t M := by
  obtain ⟨a6, ⟨a5, ⟨a4, ⟨a3, ⟨a2, ⟨a1, h0, h1⟩, h2⟩, h3, e3⟩, h4, e4⟩, h5⟩, h6, e6⟩ := h
  obtain ⟨π, b1, b2, b3⟩ := h0.fq h1
  rw [b3, e4] at h4
  rw [e3, e6] at h6
  exact ES.ife s b1 b2 h2 h3 h4 h5 h6 hM
theorem as_whl {μ ν : M3} {P t r j T hd M : Int} (s : STP μ P t) (h : Th (Th (Th (Th (q0 μ P) (qQ P t r)) (qE P t 0 M)) (qA P 19 hd 0 j)) (qF P r T) ν) (hh : hd = μ.1 P 1 - 1) (hM : 0 ≤ M) : ES μ ν P t M := by
  obtain ⟨a4, ⟨a3, ⟨a2, ⟨a1, h0, h1⟩, h2⟩, h3, e3⟩, h4, e4⟩ := h
  obtain ⟨π, b1, b2, b3⟩ := h0.fq h1
  rw [b3, e4] at h4
  rw [hh] at h3
  exact ES.whl s b1 b2 h2 h3 h4 hM
theorem as_on {μ ν : M3} {P t g j T T2 M sc : Int} (s : STP μ P t) (h : Th (Th (Th (Th (Th (Th (q0 μ P) (qA P 28 0 sc g)) (qE P t 0 M)) (qA P 29 0 0 j)) (qF P g T)) (qE P t 0 M)) (qF P j T2) ν) (hk : sc.tdiv 64 ≠ 1 ∧ sc.tdiv 64 ≠ 4 ∧ (t = 1 → sc.tdiv 64 = 2)) : ES μ ν P t (M + 1) := by
  obtain ⟨a6, ⟨a5, ⟨a4, ⟨a3, ⟨a2, ⟨a1, h0, h1, e1⟩, h2⟩, h3, e3⟩, h4, e4⟩, h5⟩, h6, e6⟩ := h
  rw [e1, e4, h0.2] at h4
  rw [e3, e6] at h6
  exact ES.on s (h0.fa h1) hk h2 h3 h4 h5 h6
theorem as_opn {μ ν : M3} {P t g j T T2 M sc v x : Int} (s : STP μ P t) (h : Th (Th (Th (Th (Th (Th (Th (q0 μ P) (qA P 28 0 sc g)) (qE P t 0 M)) (qA P 29 0 0 j)) (qF P g T)) (qA P 5 v 0 x)) (qE P t 0 M)) (qF P j T2) ν) (hk : sc.tdiv 64 ≠ 1 ∧ sc.tdiv 64 ≠ 4 ∧ (t = 1 → sc.tdiv 64 = 2)) (ht : t = 3) (hM : 0 ≤ M) : ES μ ν P t (M + 1) := by
  obtain ⟨a7, ⟨a6, ⟨a5, ⟨a4, ⟨a3, ⟨a2, ⟨a1, h0, h1, e1⟩, h2⟩, h3, e3⟩, h4, e4⟩, h5, e5⟩, h6⟩, h7, e7⟩ := h
  have g1 := h0.fa h1
  rw [e1, e4, h0.2] at h4
  rw [e3, e7] at h7
  have c1 : HC a2 P t 0 := ((HC.of s).ad g1 (Or.inl rfl)).c (by rw [ht]; rfl)
  have c2 := c1.ex h2
  have c3 : HC a4 P t 0 := (c2.ad h3 (Or.inl rfl)).c rfl
  have w4 : Wp a4 P (μ.1 P 1) 28 := ((Wp.of g1 (by have := s.1; omega) rfl).ext h2.1).ext h3.1
  have c4 := c3.mf h4 w4 (by decide)
  exact ES.on s g1 hk h2 h3 h4 ((EX.tr ((EX.st1 h5 c4.1 c4.2.1).mn hM) h6).e rfl) h7
/-- what 'finishing' leaves behind -/
def FI (μ ν : M3) (P t q M : Int) : Prop := ∃ μ1 μ2 μ3 μ4 sc, AD μ μ1 P 31 (μ.1 P 1 + 1) 0 ∧ MF μ1 μ2 P q (μ1.1 P 1) ∧ MS μ2 μ3 P q sc ∧ sc.tdiv 64 = 4 ∧ EX μ3 μ4 P t 0 M ∧ AD μ4 ν P 32 (μ4.1 P 1 + 1) 0
theorem FI.fr {K : List Int} {μ ν π : M3} {P t q M : Int} (h : FI μ ν P t q M) (F : Fr K ν π) (p1 : P ∉ K) (p2 : P + 1 ∉ K) : FI μ π P t q M := by
  obtain ⟨a, b, c, d, e, f1, f2, f3, f4, f5, f6⟩ := h
  exact ⟨a, b, c, d, e, f1, f2, f3, f4, f5, f6.fr F p1 p2⟩
def qI (P t q M : Int) (μ ν : M3) : Prop := FI μ ν P t q M
theorem ThI {R : M3 → Prop} {K : List Int} {ν ω : M3} {P t q M : Int} (h : Th R (qI P t q M) ν) (F : Fr K ν ω) (p1 : P ∉ K) (p2 : P + 1 ∉ K) : Th R (qI P t q M) ω := Th.fr h F p1 p2 (fun _ q F p1 p2 => FI.fr q F p1 p2)
theorem as_fi {μ ν : M3} {P t q T M sc f a b fk : Int} (h : Th (Th (Th (Th (Th (q0 μ P) (qA P 31 f 0 a)) (qF P q T)) (qS P q sc)) (qE P t 0 M)) (qA P 32 fk 0 b) ν) (hk : sc.tdiv 64 = 4) (hf : f = μ.1 P 1 + 1) (hb : fk = b + 1) : FI μ ν P t q M := by
  obtain ⟨a5, ⟨a4, ⟨a3, ⟨a2, ⟨a1, h0, h1, e1⟩, h2, e2⟩, h3⟩, h4⟩, h5, e5⟩ := h
  rw [e2] at h2
  rw [hb, e5] at h5
  rw [hf] at h1
  exact ⟨a2, a3, a4, a5, sc, h0.fa h1, h2, h3, hk, h4, h5⟩
theorem as_wth {μ ν : M3} {P t g M s0 : Int} (s : STP μ P t) (ht : t = 2) (h : Th (Th (Th (q0 μ P) (qA P 28 0 s0 g)) (qE P t 0 M)) (qI P t g M) ν) : ES μ ν P t (M + 1) := by
  obtain ⟨a3, ⟨a2, ⟨a1, h0, h1, e1⟩, h2⟩, μ1, μ2, μ3, μ4, sc, f1, f2, f3, f4, f5, f6⟩ := h
  rw [e1, h0.2] at f2 f3
  exact ES.wth s (by omega) (h0.fa h1) h2 f1 f2 f3 f4 f5 f6
theorem as_cln {μ ν : M3} {P t g j e T T2 T3 M sc cl x : Int} (s : STP μ P t) (ht : t = 3) (h : Th (Th (Th (Th (Th (Th (Th (Th (Th (q0 μ P) (qA P 28 0 sc g)) (qA P 19 0 0 j)) (qF P g T)) (qE P t 0 M)) (qA P 32 0 0 e)) (qF P j T2)) (qE P t 0 M)) (qA P 31 cl 0 x)) (qF P e T3) ν) (hk : sc.tdiv 64 = 4) (hc : cl = T) : ES μ ν P t (M + 1) := by
  obtain ⟨a9, ⟨a8, ⟨a7, ⟨a6, ⟨a5, ⟨a4, ⟨a3, ⟨a2, ⟨a1, h0, h1, e1⟩, h2, e2⟩, h3, e3⟩, h4⟩, h5, e5⟩, h6, e6⟩, h7⟩, h8, e8⟩, h9, e9⟩ := h
  rw [e1, h0.2, e3] at h3
  rw [e2, e6] at h6
  rw [hc, e3] at h8
  rw [e5, e9] at h9
  exact ES.cln s ht (h0.fa h1) hk h2 h3 h4 h5 h6 h7 h8 h9
/-- a stretch whose ops and folds are kept, and whose details are but at some places -/
def KX (μ ν : M3) (P t a b : Int) (Y : Int → Prop) : Prop := (∀ i k, kk k → a ≤ i → i < b → (k ≠ 0 → ¬ Y i) → cdp ν P i k = cdp μ P i k) ∧ (∀ i, a ≤ i → i ≤ b → hs ν P i = hs μ P i ∧ cs ν P t i = cs μ P t i ∧ ds ν P t i - ds ν P t a = ds μ P t i - ds μ P t a)
theorem KP.kx {μ ν : M3} {P t a b : Int} {Y : Int → Prop} (h : KP μ ν P t a b) : KX μ ν P t a b Y := ⟨fun i k hk h1 h2 _ => h.1 i k hk h1 h2, h.2⟩
theorem KX.tr {μ ν π : M3} {P t a b : Int} {Y : Int → Prop} (h : KX μ ν P t a b Y) (h2 : KX ν π P t a b Y) : KX μ π P t a b Y := ⟨fun i k hk ha hb hy => (h2.1 i k hk ha hb hy).trans (h.1 i k hk ha hb hy), fun i ha hb => ⟨(h2.2 i ha hb).1.trans (h.2 i ha hb).1, (h2.2 i ha hb).2.1.trans (h.2 i ha hb).2.1, (h2.2 i ha hb).2.2.trans (h.2 i ha hb).2.2⟩⟩
theorem lcd.kx {μ ν : M3} {P t i a b : Int} {Y : Int → Prop} (h : lcd μ P t i a b) (hk : KX μ ν P t a b Y) (h1 : a ≤ i) (h2 : i < b) (hy : ¬ Y i) : lcd ν P t i a b := by
  have dz : ∀ x y, a ≤ x → x ≤ b → a ≤ y → y ≤ b → ds ν P t x - ds ν P t y = ds μ P t x - ds μ P t y := by
    intro x y x1 x2 y1 y2
    have := (hk.2 x x1 x2).2.2
    have := (hk.2 y y1 y2).2.2
    omega
  have tz : ∀ x, tgj μ P t a b x → tgj ν P t a b x := fun x q => ⟨q.1, q.2.1, by rw [(hk.2 x q.1 q.2.1).2.1]; exact q.2.2⟩
  have hi := hk.2 i h1 (by omega)
  have op : ∀ x, a ≤ x → x < b → cdp ν P x 0 = cdp μ P x 0 := fun x x1 x2 => hk.1 x 0 k0 x1 x2 (fun z => absurd rfl z)
  unfold lcd at *
  rw [op i h1 h2, hk.1 i 1 k1 h1 h2 (fun _ => hy), hk.1 i 2 k2 h1 h2 (fun _ => hy)]
  obtain ⟨r13, r19, r31, r20, r23, r26, r27, r28, r29, r30⟩ := h
  refine ⟨r13, fun o => ?_, fun o => ?_, fun o => ?_, r23, fun o => ?_, fun o => ?_, fun o => ?_, fun o => ?_, fun o => ?_⟩
  · obtain ⟨q1, q2, q3⟩ := r19 o
    exact ⟨by rw [hi.1]; exact q1, tz _ q2, by have := dz _ i q2.1 q2.2.1 h1 (by omega); omega⟩
  · obtain ⟨q1, q2, q3, q4, q5⟩ := r31 o
    exact ⟨by rw [hi.1]; exact q1, tz _ q2, by have := dz _ i q2.1 q2.2.1 h1 (by omega); omega, q4, by have := hi.2.2; omega⟩
  · obtain ⟨q1, q2, q3⟩ := r20 o
    exact ⟨by rw [hi.1]; exact q1, tz _ q2, by have := dz _ i q2.1 q2.2.1 h1 (by omega); omega⟩
  · obtain ⟨q0, q00, q1, q2, q3⟩ := r26 o
    exact ⟨q0, q00, by rw [hi.1, (hk.2 _ q2.1 q2.2.1).1]; exact q1, tz _ q2, by have := dz _ i q2.1 q2.2.1 h1 (by omega); omega⟩
  · obtain ⟨q1, q2, q3⟩ := r27 o
    exact ⟨by rw [hi.1, (hk.2 _ q2.1 q2.2.1).1]; exact q1, tz _ q2, by have := dz _ i q2.1 q2.2.1 h1 (by omega); omega⟩
  · obtain ⟨q1, q2, q3, q4, q5⟩ := r28 o
    refine ⟨by rw [hi.2.1]; exact q1, fun k => ?_, fun k => ?_, fun k k2 => ?_, q5⟩
    · obtain ⟨z1, z2, z3, z4⟩ := q2 k
      exact ⟨z1, z2, by rw [op _ z1 z2]; exact z3, by have := dz (cdp μ P i 1 + 1) i (by omega) (by omega) h1 (by omega); omega⟩
    · obtain ⟨z1, z2⟩ := q3 k
      exact ⟨tz _ z1, by have := dz _ i z1.1 z1.2.1 h1 (by omega); omega⟩
    · obtain ⟨z1, z2⟩ := q4 k k2
      exact ⟨tz _ z1, by have := dz _ i z1.1 z1.2.1 h1 (by omega); omega⟩
  · obtain ⟨q1, q2, q3, q5⟩ := r29 o
    exact ⟨by rw [hi.1]; exact q1, tz _ q2, by have := dz _ i q2.1 q2.2.1 h1 (by omega); omega, by have := hi.2.2; omega⟩
  · rcases r30 o with q | ⟨q1, q2, q3, q4⟩
    · exact Or.inl q
    · exact Or.inr ⟨q1, q2, by rw [op _ q1 q2]; exact q3, by have := dz (cdp μ P i 2 + 1) (i + 1) (by omega) (by omega) (by omega) (by omega); omega⟩
theorem SgX.kx {μ ν : M3} {P t a b e M : Int} {X Y : Int → Prop} (h : SgX μ P t a b e M X) (hk : KX μ ν P t a b Y) (hY : ∀ i, a ≤ i → i < b → Y i → X i) : SgX ν P t a b e M X := by
  obtain ⟨h0, h1, h2, h3, h4, h5⟩ := h
  have ka := hk.2 a (by omega) h0.2
  have kb := hk.2 b h0.2 (by omega)
  refine ⟨h0, by rw [ka.1, kb.1]; exact h1, fun q => by rw [kb.2.1]; exact h2 q, by omega, fun i ha hb hX => (h4 i ha hb hX).kx hk ha hb (fun z => hX (hY i ha hb z)), fun i ha hb => ?_⟩
  have := h5 i ha hb
  have := (hk.2 i ha hb).2.2
  omega
/-- some of what waited has its target -/
theorem SgX.cls {μ : M3} {P t a b e M : Int} {X Z : Int → Prop} (h : SgX μ P t a b e M X) (hX : ∀ i, a ≤ i → i < b → X i → Z i ∨ lcd μ P t i a b) : SgX μ P t a b e M Z := by
  obtain ⟨h0, h1, h2, h3, h4, h5⟩ := h
  exact ⟨h0, h1, h2, h3, fun i ha hb hz => (Classical.em (X i)).elim (fun x => (hX i ha hb x).elim (fun z => absurd z hz) id) (h4 i ha hb), h5⟩
/-- a NOP ahead -/
theorem SgX.nop {μ : M3} {P t a b e M : Int} {X : Int → Prop} (ho : cdp μ P a 0 = 0) (h : SgX μ P t (a + 1) b e M X) (h0 : 0 ≤ a) (hc : a + 1 < b ∨ cs μ P t (a + 1) = 0) : SgX μ P t a b e M X := by
  have hh := hs_1 (μ := μ) (P := P) (i := a)
  have h1 : hs μ P (a + 1) = hs μ P a := by rw [hs_s h0, ho]; show max 1 (hs μ P a + 0) = _; omega
  have d1 : ds μ P t (a + 1) = ds μ P t a := by rw [ds_s h0, ho]; show ds μ P t a + 0 = _; omega
  have m0 := h.M0
  obtain ⟨g0, g1, g2, g3, g4, g5⟩ := h
  refine ⟨by omega, by omega, fun _ => ?_, by omega, fun i ha hb2 hX => ?_, fun i ha hb2 => ?_⟩
  · by_cases hb : a + 1 < b
    · exact g2 hb
    · have e9 : b = a + 1 := by omega
      rw [e9]; exact hc.resolve_left (by omega)
  · by_cases hi : i = a
    · rw [hi]
      unfold lcd
      rw [ho]
      exact ⟨fun q => absurd q (by decide), fun q => absurd q (by decide), fun q => absurd q (by decide), fun q => absurd q (by decide), fun q => absurd q (by decide), fun q => absurd q (by decide), fun q => absurd q (by decide), fun q => absurd q (by decide), fun q => absurd q (by decide), fun q => absurd q (by decide)⟩
    · exact (g4 i (by omega) hb2 hX).up (by omega) (by omega) (by omega)
  · by_cases hi : i = a
    · rw [hi]; omega
    · have := g5 i (by omega) hb2; omega

/-! catches -/
def CTB (ν : M3) (P t g x last M : Int) (L : List Int) : Prop := (0 ≤ g ∧ g < ν.1 P 1 ∧ -1 ≤ last) ∧ (cdp ν P g 0 = 28 ∧ (cdp ν P g 2).tdiv 64 = 1 ∧ 1 ≤ cs ν P t g ∧ hs ν P g = 1) ∧ SgX ν P t g (ν.1 P 1) 0 (M + 1) (fun i => i ∈ L ∨ (i = g ∧ last < 0) ∨ (i = last ∧ 0 ≤ last)) ∧ Chn ν P x L ∧ (∀ i ∈ L, g < i ∧ hs ν P i ≤ 1 ∧ ((cdp ν P i 0 = 29 ∧ ds ν P t i = ds ν P t g + 1) ∨ (cdp ν P i 0 = 19 ∧ ds ν P t i = ds ν P t g))) ∧ (0 ≤ last → g < last ∧ last + 1 < ν.1 P 1 ∧ cdp ν P last 0 = 30 ∧ cdp ν P last 2 < 0 ∧ ds ν P t (last + 1) = ds ν P t g)
def UP (μ ν : M3) (P g : Int) : Prop := (∀ i k, kk k → i < g → cdp ν P i k = cdp μ P i k) ∧ μ.1 P 1 ≤ ν.1 P 1
def CT (μ ν : M3) (P t g x last M : Int) : Prop := UP μ ν P g ∧ ∃ L, CTB ν P t g x last M L
theorem UP.ext {μ ν π : M3} {P g : Int} (h : UP μ ν P g) (e : EXT ν π P) (hg : g ≤ ν.1 P 1) : UP μ π P g := ⟨fun i k hk hi => (e.2 i k hk (by omega)).trans (h.1 i k hk hi), Int.le_trans h.2 e.1⟩
theorem CTB.ext0 {μ ν : M3} {P t g x last M : Int} {L : List Int} (h : CTB μ P t g x last M L) (e : EXT μ ν P) (hl : ν.1 P 1 = μ.1 P 1) : CTB ν P t g x last M L := by
  obtain ⟨a1, a2, a3, a4, a5, a6⟩ := h
  have z := fun i (hi : i ≤ μ.1 P 1) => e.fo (t := t) i hi
  have zg := z g (by omega)
  refine ⟨by rw [hl]; exact a1, by rw [e.2 g 0 k0 a1.2.1, e.2 g 2 k2 a1.2.1, zg.1, zg.2.1]; exact a2, by rw [hl]; exact a3.kp (e.kp a3.1.2 (Int.le_refl _)), a4.ex e, fun i hi => ?_, fun q => ?_⟩
  · have b := Chn.le L x a4 i hi
    rw [(z i (by omega)).1, (z i (by omega)).2.2, zg.2.2, e.2 i 0 k0 b.2.2.1]
    exact a5 i hi
  · have b := a6 q
    rw [e.2 last 0 k0 (by omega), e.2 last 2 k2 (by omega), (z (last + 1) (by omega)).2.2, zg.2.2, hl]
    exact b
theorem CT.fr {K : List Int} {μ ν π : M3} {P t g x last M : Int} (h : CT μ ν P t g x last M) (F : Fr K ν π) (p1 : P ∉ K) (p2 : P + 1 ∉ K) : CT μ π P t g x last M := by
  obtain ⟨u, L, h⟩ := h
  have E := EXT.fr F p1 p2
  exact ⟨u.ext E (by have := h.1; omega), L, h.ext0 E (F.1 P p1 1)⟩
/-- the guard, its B and UNGUARD -/
theorem CTB.go {μ μ1 μ2 μ3 : M3} {P t g M sc : Int} (ho : cdp μ P g 0 = 0) (h0 : 0 ≤ g ∧ g < μ.1 P 1) (hc : 1 ≤ cs μ P t g) (hh : hs μ P g = 1) (h : Sg μ P t (g + 1) (μ.1 P 1) 0 M) (a : MO μ μ1 P g 28) (b : MS μ1 μ2 P g sc) (hk : sc.tdiv 64 = 1) (c : AD μ2 μ3 P 29 (-1) 0) : CTB μ3 P t g (μ.1 P 1) (-1) M [μ.1 P 1] := by
  have l1 := a.1
  have l2 := b.1
  have l3 := c.2.1
  have m0 := h.M0
  have o1 : cdp μ3 P g 0 = 28 := by rw [c.1.2 g 0 k0 (by omega), b.2.2.2 g 0 k0 (fun z => absurd z.2 (by decide))]; exact a.2.2.1
  have o2 : cdp μ3 P g 2 = sc := by rw [c.1.2 g 2 k2 (by omega)]; exact b.2.2.1
  have z : ∀ i, i ≤ μ.1 P 1 → hs μ3 P i = hs μ P i ∧ cs μ3 P t i = cs μ P t i ∧ ds μ3 P t i = ds μ P t i + (if g < i then 1 else 0) := fun i hi => by
    have x1 := c.1.fo (t := t) i (by omega)
    have x2 := b.fo (t := t) i
    have x3 := a.fo (t := t) ho i
    exact ⟨x1.1.trans (x2.1.trans x3.1), x1.2.1.trans (x2.2.1.trans x3.2.1), x1.2.2.trans (x2.2.2.trans x3.2.2)⟩
  have zg := z g (by omega)
  rw [if_neg (by omega)] at zg
  have s : Sg μ3 P t (g + 1) (μ.1 P 1) 0 M := by
    refine SgX.kp h (((a.kp ho (by omega)).tr (b.kp (by omega))).tr ?_)
    exact (c.1.kp (by omega) (by omega))
  have g1 : hs μ3 P (g + 1) = 1 := by rw [st_h (e := 0) h0.1 (by rw [o1]; rfl), zg.1, hh]; rfl
  have d1 : ds μ3 P t (g + 1) = ds μ3 P t g + 1 := st_d h0.1 (by rw [o1]; rfl)
  have e0 : cdp μ3 P (μ.1 P 1) 0 = 29 := by rw [← l1, ← l2]; exact c.2.2.1
  have e1 : cdp μ3 P (μ.1 P 1) 1 = -1 := by rw [← l1, ← l2]; exact c.2.2.2.1
  have g2 : hs μ3 P (μ.1 P 1) = 1 := by have := s.2.1; omega
  have d2 : ds μ3 P t (μ.1 P 1) = ds μ3 P t (g + 1) := s.2.2.2.1
  have g3 : hs μ3 P (μ.1 P 1 + 1) = 1 := by rw [st_h (e := 0) (by omega) (by rw [e0]; rfl), g2]; rfl
  have d3 : ds μ3 P t (μ.1 P 1 + 1) = ds μ3 P t (μ.1 P 1) + -1 := st_d (by omega) (by rw [e0]; rfl)
  have c3 : cs μ3 P t (μ.1 P 1 + 1) = 0 := by rw [cs_s (by omega), e0]; rfl
  have hl : μ3.1 P 1 = μ.1 P 1 + 1 := by omega
  refine ⟨⟨h0.1, by omega, by omega⟩, ⟨o1, by rw [o2]; exact hk, by rw [zg.2.1]; exact hc, by rw [zg.1]; exact hh⟩, ?_, ⟨rfl, by omega, by omega, by rw [e0]; decide, by rw [e1]; decide, by rw [e1]; omega, by rw [e1]; rfl⟩, fun i hi => ?_, fun q => absurd q (by decide)⟩
  · rw [hl]
    refine ⟨by omega, by omega, fun _ => c3, by omega, fun i ha hb hX => ?_, fun i ha hb => ?_⟩
    · have i1 : i ≠ g := fun q => hX (Or.inr (Or.inl ⟨q, by decide⟩))
      have i3 : i ≠ μ.1 P 1 := fun q => hX (Or.inl (by rw [q]; exact List.mem_cons_self ..))
      exact (s.2.2.2.2.1 i (by omega) (by omega) (fun z => z)).up (by omega) (by omega) (by omega)
    · by_cases i1 : i = g
      · rw [i1]; omega
      by_cases i2 : i ≤ μ.1 P 1
      · have := s.2.2.2.2.2 i (by omega) i2; omega
      · have : i = μ.1 P 1 + 1 := by omega
        rw [this]; omega
  · have : i = μ.1 P 1 := by simpa using hi
    rw [this]
    exact ⟨h0.2, by omega, Or.inl ⟨e0, by omega⟩⟩
/-- one more catch -/
theorem CTB.st {μ0 μ1 μ2 μ3 μ4 μ5 : M3} {P t g x last M nm v : Int} {L : List Int} (ht : t = 0) (h : CTB μ0 P t g x last M L) (a : AD μ0 μ1 P 30 nm (-1)) (b : (last < 0 ∧ MF μ1 μ2 P g (μ0.1 P 1)) ∨ (0 ≤ last ∧ MS μ1 μ2 P last (μ0.1 P 1))) (c : AD μ2 μ3 P 5 v 0) (k : EX μ3 μ4 P t 0 M) (j : AD μ4 μ5 P 19 x 0) (hM : 0 ≤ M) : CTB μ5 P t g (μ4.1 P 1) (μ0.1 P 1) M (μ4.1 P 1 :: L) := by
  obtain ⟨a1, a2, a3, a4, a5, a6⟩ := h
  have l1 := a.2.1
  have l2 : μ2.1 P 1 = μ1.1 P 1 := by rcases b with q | q; exact q.2.1; exact q.2.1
  have l3 := c.2.1
  have l4 := k.1.1
  have l5 := j.2.1
  have g0 := a1.1
  -- folds up to the new CATCH
  have og1 : cdp μ1 P g 0 = 28 := by rw [a.1.2 g 0 k0 a1.2.1]; exact a2.1
  have z2 : ∀ i, hs μ2 P i = hs μ1 P i ∧ cs μ2 P t i = cs μ1 P t i ∧ ds μ2 P t i = ds μ1 P t i := by
    rcases b with q | q
    · exact q.2.fo (by rw [og1]; decide)
    · exact q.2.fo
  have z5 : ∀ i, i ≤ μ2.1 P 1 → hs μ5 P i = hs μ2 P i ∧ cs μ5 P t i = cs μ2 P t i ∧ ds μ5 P t i = ds μ2 P t i := (c.1.tr (k.1.tr j.1)).fo
  have E25 : EXT μ2 μ5 P := c.1.tr (k.1.tr j.1)
  have z : ∀ i, i ≤ μ0.1 P 1 → hs μ5 P i = hs μ0 P i ∧ cs μ5 P t i = cs μ0 P t i ∧ ds μ5 P t i = ds μ0 P t i := fun i hi => by
    have x1 := a.1.fo (t := t) i hi
    have x2 := z2 i
    have x3 := z5 i (by omega)
    exact ⟨x3.1.trans (x2.1.trans x1.1), x3.2.1.trans (x2.2.1.trans x1.2.1), x3.2.2.trans (x2.2.2.trans x1.2.2)⟩
  have op : ∀ i, i < μ0.1 P 1 → cdp μ5 P i 0 = cdp μ0 P i 0 := fun i hi => by
    rw [E25.2 i 0 k0 (by omega)]
    rcases b with q | q
    · rw [q.2.2.2.2 i 0 k0 (fun w => absurd w.2 (by decide)), a.1.2 i 0 k0 hi]
    · rw [q.2.2.2.2 i 0 k0 (fun w => absurd w.2 (by decide)), a.1.2 i 0 k0 hi]
  have dt : ∀ i y, kk y → i < μ0.1 P 1 → ((i = g → 0 ≤ last ∨ y ≠ 1) ∧ (i = last → last < 0 ∨ y ≠ 2)) → cdp μ5 P i y = cdp μ0 P i y := fun i y hy hi hn => by
    rw [E25.2 i y hy (by omega)]
    rcases b with q | q
    · rw [q.2.2.2.2 i y hy (fun w => by have := hn.1 w.1; omega), a.1.2 i y hy hi]
    · rw [q.2.2.2.2 i y hy (fun w => by have := hn.2 w.1; omega), a.1.2 i y hy hi]
  have hb0 := a3.2.1
  have db0 := a3.2.2.2.1
  have zb := z (μ0.1 P 1) (Int.le_refl _)
  have zg := z g (by omega)
  -- CATCH
  have oc : cdp μ5 P (μ0.1 P 1) 0 = 30 := by
    rw [E25.2 _ 0 k0 (by omega)]
    rcases b with q | q
    · rw [q.2.2.2.2 _ 0 k0 (fun w => absurd w.2 (by decide))]; exact a.2.2.1
    · rw [q.2.2.2.2 _ 0 k0 (fun w => absurd w.2 (by decide))]; exact a.2.2.1
  have oc2 : cdp μ5 P (μ0.1 P 1) 2 = -1 := by
    rw [E25.2 _ 2 k2 (by omega)]
    rcases b with q | q
    · rw [q.2.2.2.2 _ 2 k2 (fun w => absurd w.2 (by decide))]; exact a.2.2.2.2
    · rw [q.2.2.2.2 _ 2 k2 (fun w => absurd w.1 (by have := (a6 q.1).2.1; omega))]; exact a.2.2.2.2
  have hc0 : hs μ5 P (μ0.1 P 1) = 1 := by rw [zb.1, hb0, a2.2.2.2]; rfl
  have hc1 : hs μ5 P (μ0.1 P 1 + 1) = 1 := by rw [st_h (e := 0) (by omega) (by rw [oc]; rfl), hc0]; rfl
  have dc1 : ds μ5 P t (μ0.1 P 1 + 1) = ds μ5 P t (μ0.1 P 1) + 0 := st_d (by omega) (by rw [oc]; rfl)
  have one : SgX μ5 P t (μ0.1 P 1) (μ0.1 P 1 + 1) 0 (M + 1) (fun i => i = μ0.1 P 1) := (SgX.one (X := fun i => i = μ0.1 P 1) (by omega) (by rw [oc]; rfl) (by omega) (by rw [oc]; rfl) (by rw [oc]; rfl) (Or.inl rfl)).mn (by omega) (fun _ _ _ z => z)
  -- STORE and the B
  have h2s : hs μ2 P (μ2.1 P 1) = 1 := by have := (z5 _ (Int.le_refl _)).1; rw [← this, l2, l1]; exact hc1
  have sb := EX.tr ((EX.st1 c (by omega) h2s).mn hM) k
  have s2 : Sg μ5 P t (μ0.1 P 1 + 1) (μ4.1 P 1) (0 + 0) M := by
    have q := sb.2
    rw [l2, l1] at q
    exact SgX.kp q (j.1.kp (by omega) (Int.le_refl _))
  have oj : cdp μ5 P (μ4.1 P 1) 0 = 19 := j.2.2.1
  have hj : hs μ5 P (μ4.1 P 1) = 1 := by have := s2.2.1; omega
  have one2 : SgX μ5 P t (μ4.1 P 1) (μ4.1 P 1 + 1) 0 (M + 1) (fun i => i = μ4.1 P 1) := (SgX.one (X := fun i => i = μ4.1 P 1) (by omega) (by rw [oj]; rfl) (by omega) (by rw [oj]; rfl) (by rw [oj]; rfl) (Or.inl rfl)).mn (by omega) (fun _ _ _ z => z)
  -- the old stretch
  have s0 : SgX μ5 P t g (μ0.1 P 1) 0 (M + 1) (fun i => i ∈ L ∨ (i = g ∧ last < 0) ∨ (i = last ∧ 0 ≤ last)) := by
    refine SgX.kx (Y := fun i => (i = g ∧ last < 0) ∨ (i = last ∧ 0 ≤ last)) a3 ⟨fun i y hy h1 h2 hn => ?_, fun i h1 h2 => ?_⟩ (fun i _ _ q => Or.inr q)
    · by_cases y0 : y = 0
      · rw [y0]; exact op i h2
      · have q := hn y0
        exact dt i y hy h2 ⟨fun e => by by_cases w : last < 0; exact absurd (Or.inl ⟨e, w⟩) q; omega, fun e => by by_cases w : 0 ≤ last; exact absurd (Or.inr ⟨e, w⟩) q; omega⟩
    · have x1 := z i h2
      exact ⟨x1.1, x1.2.1, by rw [x1.2.2, zg.2.2]⟩
  have s : SgX μ5 P t g (μ4.1 P 1 + 1) (0 + 0 + (0 + 0) + 0) (M + 1) (fun i => ((((i ∈ L ∨ (i = g ∧ last < 0) ∨ (i = last ∧ 0 ≤ last)) ∨ i = μ0.1 P 1) ∨ NX i) ∨ i = μ4.1 P 1)) := SgX.app (SgX.app (SgX.app s0 one) (Sg.mn s2 (by omega))) one2
  have hx := a4.x
  have dj1 : ds μ5 P t (μ4.1 P 1) = ds μ5 P t (μ0.1 P 1 + 1) := s2.2.2.2.1
  have lop : ∀ i ∈ L, i < μ0.1 P 1 := fun i hi => (Chn.le L x a4 i hi).2.2.1
  have lne : ∀ i ∈ L, i ≠ last := fun i hi e => by
    have q1 := a5 i hi
    have q2 := Chn.le L x a4 i hi
    have q3 := a6 (by omega)
    rw [e] at q1
    omega
  have dg2 : cdp μ5 P g 2 = cdp μ0 P g 2 := by
    refine dt g 2 k2 a1.2.1 ⟨fun _ => Or.inr (by decide), fun e => Or.inl ?_⟩
    by_cases w : 0 ≤ last
    · have := (a6 w).1; omega
    · omega
  refine ⟨⟨g0, by omega, by omega⟩, ⟨by rw [op g a1.2.1]; exact a2.1, by rw [dg2]; exact a2.2.1, by rw [zg.2.1]; exact a2.2.2.1, by rw [zg.1]; exact a2.2.2.2⟩, ?_, ⟨rfl, by omega, by omega, by rw [oj]; decide, ?_, ?_, ?_⟩, fun i hi => ?_, fun _ => ⟨by omega, by omega, oc, by rw [oc2]; decide, by omega⟩⟩
  · rw [l5]
    refine SgX.cls (e := 0) s (fun i h1 h2 hX => ?_)
    rcases hX with (((hX | hX | hX) | hX) | hX) | hX
    · exact Or.inl (Or.inl (List.mem_cons_of_mem _ hX))
    · right
      obtain ⟨e1, e2⟩ := hX
      have mf : cdp μ5 P g 1 = μ0.1 P 1 := by
        rw [E25.2 g 1 k1 (by omega)]
        rcases b with q | q
        · exact q.2.2.2.1
        · omega
      rw [e1]
      unfold lcd
      rw [op g a1.2.1, a2.1, mf, dg2]
      exact ⟨fun q => absurd q (by decide), fun q => absurd q (by decide), fun q => absurd q (by decide), fun q => absurd q (by decide), fun q => absurd q (by decide), fun q => absurd q (by decide), fun q => absurd q (by decide), fun _ => ⟨by rw [zg.2.1]; exact a2.2.2.1, fun _ => ⟨by omega, by omega, oc, by omega⟩, fun q => absurd (a2.2.1.symm.trans q) (by decide), fun q => absurd a2.2.1 q, fun q => absurd (ht.symm.trans q) (by decide)⟩, fun q => absurd q (by decide), fun q => absurd q (by decide)⟩
    · right
      obtain ⟨e1, e2⟩ := hX
      have q6 := a6 e2
      have ms : cdp μ5 P last 2 = μ0.1 P 1 := by
        rw [E25.2 last 2 k2 (by omega)]
        rcases b with q | q
        · omega
        · exact q.2.2.2.1
      rw [e1]
      unfold lcd
      rw [op last (by omega), q6.2.2.1, ms]
      exact ⟨fun q => absurd q (by decide), fun q => absurd q (by decide), fun q => absurd q (by decide), fun q => absurd q (by decide), fun q => absurd q (by decide), fun q => absurd q (by decide), fun q => absurd q (by decide), fun q => absurd q (by decide), fun q => absurd q (by decide), fun _ => Or.inr ⟨by omega, by omega, oc, by rw [dc1, (z (last + 1) (by omega)).2.2, q6.2.2.2.2, zb.2.2, db0]; omega⟩⟩
    · exact Or.inl (Or.inr (Or.inr ⟨hX, by omega⟩))
    · exact hX.elim
    · exact Or.inl (Or.inl (by rw [hX]; exact List.mem_cons_self ..))
  · rw [j.2.2.2.1]; exact hx.1
  · rw [j.2.2.2.1]; omega
  · rw [j.2.2.2.1]
    exact Chn.cg (by omega) L x (fun i hi => ⟨op i (lop i hi), dt i 1 k1 (lop i hi) ⟨fun e => by have := (a5 i hi).1; omega, fun e => absurd e (lne i hi)⟩⟩) a4
  · rcases List.mem_cons.1 hi with q | q
    · rw [q]
      exact ⟨by omega, by omega, Or.inr ⟨oj, by omega⟩⟩
    · have w := a5 i q
      have li := lop i q
      rw [op i li, (z i (by omega)).1, (z i (by omega)).2.2, zg.2.2]
      exact w
/-- all that waits is aimed behind the last -/
theorem CTB.ed {μ ν : M3} {P t g x last M T : Int} {L : List Int} (h : CTB μ P t g x last M L) (hl : 0 ≤ last) (a : AIM μ ν P L T) (hT : T = μ.1 P 1) : Sg ν P t g (ν.1 P 1) 0 (M + 1) := by
  obtain ⟨a1, a2, a3, a4, a5, a6⟩ := h
  have z := a.fo (t := t) (fun i hi => (Chn.le L x a4 i hi).2.2.2)
  have l1 := a.1
  have q6 := a6 hl
  have s : SgX ν P t g (μ.1 P 1) 0 (M + 1) (fun i => i ∈ L ∨ (i = g ∧ last < 0) ∨ (i = last ∧ 0 ≤ last)) := SgX.kx (Y := fun i => i ∈ L) a3 ⟨fun i k hk h1 h2 hn => a.2.2 i k hk (fun e => hn (by rw [e]; decide)), fun i h1 h2 => ⟨(z i).1, (z i).2.1, by rw [(z i).2.2, (z g).2.2]⟩⟩ (fun i _ _ q => Or.inl q)
  have hcs := s.2.2.1 a1.2.1
  have hds := s.2.2.2.1
  rw [l1]
  refine s.cl (fun i h1 h2 hX => ?_)
  rcases hX with hX | hX | hX
  · have w := a5 i hX
    unfold lcd
    rw [a.2.1 i hX, a.2.2 i 0 k0 (fun e => absurd e (by decide)), hT]
    rcases w.2.2 with ⟨o, d⟩ | ⟨o, d⟩
    · rw [o]
      exact ⟨fun q => absurd q (by decide), fun q => absurd q (by decide), fun q => absurd q (by decide), fun q => absurd q (by decide), fun q => absurd q (by decide), fun q => absurd q (by decide), fun q => absurd q (by decide), fun q => absurd q (by decide), fun _ => ⟨by rw [(z i).1]; exact w.2.1, ⟨by omega, by omega, hcs⟩, by rw [(z i).2.2, hds, (z g).2.2]; omega, by rw [(z i).2.2, (z g).2.2]; omega⟩, fun q => absurd q (by decide)⟩
    · rw [o]
      exact ⟨fun q => absurd q (by decide), fun _ => ⟨by rw [(z i).1]; exact w.2.1, ⟨by omega, by omega, hcs⟩, by rw [(z i).2.2, hds, (z g).2.2]; omega⟩, fun q => absurd q (by decide), fun q => absurd q (by decide), fun q => absurd q (by decide), fun q => absurd q (by decide), fun q => absurd q (by decide), fun q => absurd q (by decide), fun q => absurd q (by decide), fun q => absurd q (by decide)⟩
  · omega
  · rw [hX.1]
    unfold lcd
    have nl : last ∉ L := fun e => by
      have w := a5 last e
      omega
    rw [a.2.2 last 0 k0 (fun e => absurd e (by decide)), a.2.2 last 2 k2 (fun e => absurd e (by decide)), q6.2.2.1]
    exact ⟨fun q => absurd q (by decide), fun q => absurd q (by decide), fun q => absurd q (by decide), fun q => absurd q (by decide), fun q => absurd q (by decide), fun q => absurd q (by decide), fun q => absurd q (by decide), fun q => absurd q (by decide), fun q => absurd q (by decide), fun _ => Or.inl q6.2.2.2.1⟩

/-! try .. catch .. finally -/
def CG (ν : M3) (P t g M : Int) : Prop := Wp ν P g 0 ∧ hs ν P g = 1 ∧ 1 ≤ cs ν P t g ∧ Sg ν P t (g + 1) (ν.1 P 1) 0 M
theorem td64x {a b x : Int} (h : x = a * 64 + b) (ha : 0 ≤ a) (hb : 0 ≤ b ∧ b < 64) : x.tdiv 64 = a := by
  rw [h, Int.tdiv_eq_ediv_of_nonneg (by omega)]; omega
theorem FI.mn {μ ν : M3} {P t q M N : Int} (h : FI μ ν P t q M) (hM : M ≤ N) : FI μ ν P t q N := by
  obtain ⟨a, b, c, d, e, f1, f2, f3, f4, f5, f6⟩ := h
  exact ⟨a, b, c, d, e, f1, f2, f3, f4, f5.mn hM, f6⟩
theorem ES.mn {μ ν : M3} {P t M N : Int} (h : ES μ ν P t M) (hM : M ≤ N) : ES μ ν P t N := ⟨h.1, h.2.mn hM⟩
theorem ES.fl {K : List Int} {μ ν π : M3} {P t M : Int} (F : Fr K μ ν) (p1 : P ∉ K) (p2 : P + 1 ∉ K) (h : ES ν π P t M) : ES μ π P t M := ⟨(EXT.fr F p1 p2).tr h.1, by rw [← F.1 P p1 1]; exact h.2⟩
theorem ES.oe {μ ν : M3} {P t M : Int} (s : STP μ P t) (h : EX μ ν P t 0 0) (hl : μ.1 P 1 + 1 ≤ ν.1 P 1) (hM : 0 ≤ M) : ES μ ν P t M := (ES.of s h.1 h.2 (by omega)).mn hM
theorem STP.q0 {μ ν : M3} {P t : Int} (s : STP μ P t) (q : q0 μ P ν) : STP ν P t := by
  obtain ⟨h1, h2, h3, h4⟩ := s
  have z := q.1.fo (t := t) (μ.1 P 1 - 1) (by omega)
  unfold STP
  rw [q.2, q.1.2 _ 0 k0 (by omega), z.1, z.2.1]
  exact ⟨h1, h2, h3, h4⟩
theorem q0.fs {μ ν π : M3} {P t M : Int} (q : q0 μ P ν) (h : ES ν π P t M) : ES μ π P t M := ⟨q.1.tr h.1, by rw [← q.2]; exact h.2⟩
theorem q0.tr {μ ν π : M3} {P : Int} (q : q0 μ P ν) (h : q0 ν P π) : q0 μ P π := ⟨q.1.tr h.1, h.2.trans q.2⟩
theorem CG.fr {K : List Int} {μ ν : M3} {P t g M : Int} (h : CG μ P t g M) (F : Fr K μ ν) (p1 : P ∉ K) (p2 : P + 1 ∉ K) : CG ν P t g M := by
  obtain ⟨a, b, c, d⟩ := h
  have z := (EXT.fr F p1 p2).fo (t := t) g (by have := a.1.2; omega)
  exact ⟨a.fr F p1 p2, by rw [z.1]; exact b, by rw [z.2.1]; exact c, by rw [F.1 P p1 1]; exact d.fr F p1 p2 (Int.le_refl _)⟩
def TR (μ ν : M3) (P t f g M : Int) : Prop := EXT μ ν P ∧ f = μ.1 P 1 ∧ g = f + 1 ∧ cdp ν P f 0 = 0 ∧ CG ν P t g M
theorem TR.fr {K : List Int} {μ ν ω : M3} {P t f g M : Int} (h : TR μ ν P t f g M) (F : Fr K ν ω) (p1 : P ∉ K) (p2 : P + 1 ∉ K) : TR μ ω P t f g M := by
  obtain ⟨a, b, c, d, e⟩ := h
  exact ⟨a.tr (EXT.fr F p1 p2), b, c, by rw [(EXT.fr F p1 p2).2 f 0 k0 (by have := e.1.1.2; omega)]; exact d, e.fr F p1 p2⟩
theorem as_tr {μ ν : M3} {P t f g M : Int} (s : STP μ P t) (ht : t = 0) (h : Th (Th (Th (q0 μ P) (qA P 0 0 0 f)) (qA P 0 0 0 g)) (qE P t 0 M) ν) : TR μ ν P t f g M := by
  obtain ⟨a3, ⟨a2, ⟨a1, h0, h1, e1⟩, h2, e2⟩, h3⟩ := h
  have g1 := h0.fa h1
  rw [h0.2] at e1
  have l0 := s.1
  have l1 := g1.2.1
  have l2 := h2.2.1
  have l3 := h3.1.1
  have c1 := ((HC.of s).ad g1 (Or.inl rfl))
  rw [if_pos ht] at c1
  have c1 : HC a2 P t 1 := c1
  have z3 := (h2.1.tr h3.1).fo (t := t) (a2.1 P 1) (Int.le_refl _)
  have s3 := h3.2
  rw [l2] at s3
  have eg : g = a2.1 P 1 := by omega
  refine ⟨g1.1.tr (h2.1.tr h3.1), e1, by omega, ?_, ⟨⟨by omega, by omega⟩, ?_⟩, ?_, ?_, ?_⟩
  · rw [h3.1.2 f 0 k0 (by omega), h2.1.2 f 0 k0 (by omega), e1]; exact g1.2.2.1
  · rw [h3.1.2 g 0 k0 (by omega), eg]; exact h2.2.2.1
  · rw [eg, z3.1]; exact c1.2.1
  · rw [eg, z3.2.1, c1.2.2]; exact Int.le_refl 1
  · rw [eg]; exact s3
/-- what 'catches' leaves behind -/
def CA (μ ν : M3) (P t g M : Int) : Prop := UP μ ν P g ∧ Sg ν P t g (ν.1 P 1) 0 M
theorem CA.fr {K : List Int} {μ ν π : M3} {P t g M : Int} (h : CA μ ν P t g M) (F : Fr K ν π) (p1 : P ∉ K) (p2 : P + 1 ∉ K) : CA μ π P t g M :=
  ⟨h.1.ext (EXT.fr F p1 p2) h.2.1.2, by rw [F.1 P p1 1]; exact h.2.fr F p1 p2 (Int.le_refl _)⟩
theorem CA.mn {μ ν : M3} {P t g M N : Int} (h : CA μ ν P t g M) (hM : M ≤ N) : CA μ ν P t g N := ⟨h.1, h.2.mn hM⟩
def TRX (μ ν : M3) (P t f M : Int) : Prop := EXT μ ν P ∧ f = μ.1 P 1 ∧ f + 1 < ν.1 P 1 ∧ cdp ν P f 0 = 0 ∧ Sg ν P t (f + 1) (ν.1 P 1) 0 M
theorem TRX.fr {K : List Int} {μ ν ω : M3} {P t f M : Int} (h : TRX μ ν P t f M) (F : Fr K ν ω) (p1 : P ∉ K) (p2 : P + 1 ∉ K) : TRX μ ω P t f M := by
  obtain ⟨a, b, c, d, e⟩ := h
  exact ⟨a.tr (EXT.fr F p1 p2), b, by rw [F.1 P p1 1]; exact c, by rw [(EXT.fr F p1 p2).2 f 0 k0 (by omega)]; exact d, by rw [F.1 P p1 1]; exact e.fr F p1 p2 (Int.le_refl _)⟩
theorem TR.x {μ ν : M3} {P t f g M : Int} (h : TR μ ν P t f g M) (s : STP μ P t) (ht : t = 0) : TRX μ ν P t f (M + 1) := by
  obtain ⟨a, b, c, d, e, e2, e3, e4⟩ := h
  have l0 := s.1
  rw [c] at e e2 e3 e4
  refine ⟨a, b, e.1.2, d, (SgX.nop e.2 e4 (by omega) (Or.inr ?_)).mn (by omega) (fun _ _ _ z => z)⟩
  have z := a.fo (t := t) (μ.1 P 1) (Int.le_refl _)
  have c0 := (HC.of s).2.2
  rw [if_pos ht] at c0
  rw [cs_s (by omega), e.2, cs_s (by omega), d, b, z.2.1, c0]
  rfl
theorem TR.ca {μ ν ω : M3} {P t f g M : Int} (h : TR μ ν P t f g M) (k : CA ν ω P t g (M + 1)) (s : STP μ P t) : TRX μ ω P t f (M + 1) := by
  obtain ⟨a, b, c, d, e, e2, e3, e4⟩ := h
  obtain ⟨⟨u1, u2⟩, k⟩ := k
  have l0 := s.1
  have l1 := a.1
  have g2 := e.1.2
  refine ⟨⟨by omega, fun i x hx hi => ?_⟩, b, by omega, by rw [u1 f 0 k0 (by omega)]; exact d, by rw [← c]; exact k⟩
  rw [u1 i x hx (by omega)]; exact a.2 i x hx hi
theorem TRX.w {μ ν : M3} {P t f M : Int} (h : TRX μ ν P t f M) (s : STP μ P t) : Wp ν P f 0 := ⟨⟨by have := s.1; have := h.2.1; omega, by have := h.2.2.1; omega⟩, h.2.2.2.1⟩
theorem TRX.hc {μ ν : M3} {P t f M : Int} (h : TRX μ ν P t f M) (s : STP μ P t) : HC ν P t 0 := by
  obtain ⟨a, b, c, d, e⟩ := h
  have l0 := s.1
  have z := a.fo (t := t) (μ.1 P 1) (Int.le_refl _)
  have h1 : hs ν P (f + 1) = 1 := by rw [st_h (e := 0) (by omega) (by rw [d]; rfl), b, z.1, s.h.1]; rfl
  exact ⟨by omega, by have := e.2.1; omega, e.2.2.1 c⟩
theorem TRX.es {μ ν : M3} {P t f M : Int} (h : TRX μ ν P t f M) (s : STP μ P t) : ES μ ν P t M := by
  obtain ⟨a, b, c, d, e⟩ := h
  have l0 := s.1
  rw [b] at c d e
  exact ES.of s a (SgX.nop d e (by omega) (Or.inl c)) (by omega)
theorem as_tf {μ ν : M3} {P t f M N : Int} (s : STP μ P t) (ht : t = 0) (h : Th (Th (fun ν => TRX μ ν P t f N) (qO P f 28)) (qI P t f M) ν) (hM : M ≤ N) : ES μ ν P t (N + 1) := by
  obtain ⟨b1, ⟨b0, ⟨a, b, c, d, e⟩, m⟩, μ1, μ2, μ3, μ4, sc, f1, f2, f3, f4, f5, f6⟩ := h
  have l0 := s.1
  have la := a.1
  have lm := m.1
  have l1 := f1.2.1
  have l2 := f2.1
  have l3 := f3.1
  have l4 := f5.1.1
  have l6 := f6.2.1
  have o1 : cdp μ1 P f 0 = 28 := by rw [f1.1.2 f 0 k0 (by omega)]; exact m.2.2.1
  have hq : cdp μ1 P f 0 ≠ 13 ∧ cdp μ1 P f 0 ≠ 14 := by rw [o1]; decide
  have o3 : cdp μ3 P f 0 = 28 := by rw [f3.2.2.2 _ 0 k0 (fun z => absurd z.2 (by decide)), f2.2.2.2 _ 0 k0 (fun z => absurd z.2 (by decide))]; exact o1
  have t3 : cdp μ3 P f 1 = b1.1 P 1 + 1 := by rw [f3.2.2.2 _ 1 k1 (fun z => absurd z.2 (by decide)), f2.2.2.1]; exact l1
  have up : ∀ (i x : Int), kk x → i < μ3.1 P 1 → cdp ν P i x = cdp μ3 P i x := fun i x hx hi => by rw [f6.1.2 i x hx (by omega), f5.1.2 i x hx hi]
  have p3 : ∀ (x : Int), kk x → cdp μ3 P (b1.1 P 1) x = cdp μ1 P (b1.1 P 1) x := fun x hx => by rw [f3.2.2.2 _ x hx (fun z => absurd z.1 (by omega)), f2.2.2.2 _ x hx (fun z => absurd z.1 (by omega))]
  have E3 : EXT μ μ3 P := MS.ex (MF.ex ((MO.ex a m (by omega)).tr f1.1) f2 (by omega)) f3 (by omega)
  have E : EXT μ ν P := E3.tr (f5.1.tr f6.1)
  have s2 : Sg ν P t (f + 1) (b1.1 P 1) 0 N := by
    rw [lm]
    refine SgX.kp e ((m.kp d (by omega)).tr ?_)
    rw [← lm]
    exact (f1.1.kp (by omega) (Int.le_refl _)).tr ((f2.kp hq (by omega)).tr ((f3.kp (by omega)).tr ((f5.1.kp (by omega) (by omega)).tr (f6.1.kp (by omega) (by omega)))))
  have s3 : Sg ν P t (b1.1 P 1 + 1) (μ4.1 P 1) 0 N := by
    have := f5.2
    rw [l3, l2, l1] at this
    exact (SgX.kp this (f6.1.kp (by omega) (Int.le_refl _))).mn hM (fun _ _ _ z => z)
  have z := E.fo (t := t) (μ.1 P 1) (Int.le_refl _)
  have r := Sg.fin (g := f) (f := b1.1 P 1) (k := μ4.1 P 1) (by omega) (by omega) (by rw [b, z.2.1]; exact s.h.2) (by rw [up _ 0 k0 (by omega)]; exact o3) (by rw [up _ 1 k1 (by omega)]; exact t3) (by rw [up _ 2 kk2 (by omega), f3.2.2.1]; exact f4) s2 (by rw [up _ 0 k0 (by omega), p3 0 k0]; exact f1.2.2.1) (by rw [up _ 1 k1 (by omega), p3 1 k1]; exact f1.2.2.2.1) s3 f6.2.2.1 f6.2.2.2.1 (by rw [b, z.1]; exact s.h.1)
  rw [← l6, b] at r
  exact ES.of s E r (by omega)
/-! the loop over catches -/
theorem CT.go {μ ν : M3} {P t g a sc M : Int} (h : Th (Th (Th (q0 μ P) (qO P g 28)) (qS P g sc)) (qA P 29 (-1) 0 a) ν) (hg : CG μ P t g M) (hk : sc.tdiv 64 = 1) : CT μ ν P t g a (-1) M := by
  obtain ⟨a3, ⟨a2, ⟨a1, h0, h1⟩, h2⟩, h3, e3⟩ := h
  obtain ⟨b, c, d, e⟩ := hg
  have l1 := h1.1
  have l2 := h2.1
  have l3 := h3.2.1
  have z := h0.1.fo (t := t) g (by have := b.1.2; omega)
  have hb := CTB.go (μ := a1) (by rw [h0.1.2 g 0 k0 b.1.2]; exact b.2) (by rw [h0.2]; exact b.1) (by rw [z.2.1]; exact d) (by rw [z.1]; exact c) (by rw [h0.2]; exact SgX.kp e (h0.1.kp e.1.2 (Int.le_refl _))) h1 h2 hk h3
  have ea : a = a1.1 P 1 := by omega
  rw [ea]
  refine ⟨⟨fun i k hk hi => ?_, by rw [l3, l2, l1, h0.2]; omega⟩, _, hb⟩
  have := b.1.2
  have l0 := h0.2
  rw [h3.1.2 i k hk (by omega), h2.2.2.2 i k hk (fun w => absurd w.1 (by omega)), h1.2.2.2 i k hk (fun w => absurd w.1 (by omega)), h0.1.2 i k hk (by omega)]
theorem CT.w {μ ν : M3} {P t g x last M : Int} (h : CT μ ν P t g x last M) : Wp ν P g 28 ∧ (0 ≤ last → Wp ν P last 30) := by
  obtain ⟨u, L, a1, a2, a3, a4, a5, a6⟩ := h
  exact ⟨⟨⟨a1.1, a1.2.1⟩, a2.1⟩, fun q => ⟨⟨q, by have := (a6 q).2.1; omega⟩, (a6 q).2.2.1⟩⟩
theorem CT.st {μ ν : M3} {P t g x last M nm c v y j : Int} {Q : M3 → M3 → Prop} (ht : t = 0) (hM : 0 ≤ M) (hQ : ∀ μ1 μ2, Q μ1 μ2 → (last < 0 ∧ MF μ1 μ2 P g c) ∨ (0 ≤ last ∧ MS μ1 μ2 P last c)) (h : Th (Th (Th (Th (Th (fun ν => CT μ ν P t g x last M) (qA P 30 nm (-1) c)) Q) (qA P 5 v 0 y)) (qE P t 0 M)) (qA P 19 x 0 j) ν) : CT μ ν P t g j c M := by
  obtain ⟨a5, ⟨a4, ⟨a3, ⟨a2, ⟨a1, ⟨u, L, h0⟩, h1, e1⟩, h2⟩, h3, e3⟩, h4⟩, h5, e5⟩ := h
  have q := hQ _ _ h2
  rw [e1] at q
  have r := CTB.st ht h0 h1 q h3 h4 h5 hM
  rw [e1, e5]
  have g2 := h0.1.2.1
  have l1 := h1.2.1
  have l2 : a3.1 P 1 = a2.1 P 1 := by rcases q with q | q; exact q.2.1; exact q.2.1
  have l3 := h3.2.1
  have l4 := h4.1.1
  have l5 := h5.2.1
  refine ⟨⟨fun i k hk hi => ?_, by have := u.2; omega⟩, _, r⟩
  have s3 : cdp a3 P i k = cdp a2 P i k := by
    rcases q with q | q
    · exact q.2.2.2.2 i k hk (fun w => absurd w.1 (by omega))
    · exact q.2.2.2.2 i k hk (fun w => absurd w.1 (by have := (h0.2.2.2.2.2 q.1).1; omega))
  rw [h5.1.2 i k hk (by omega), h4.1.2 i k hk (by omega), h3.1.2 i k hk (by omega), s3, h1.1.2 i k hk (by omega), u.1 i k hk hi]
theorem CT.w2 {μ ν : M3} {P t g x last M o f s a : Int} (h : Th (fun ν => CT μ ν P t g x last M) (qA P o f s a) ν) (hl : 0 ≤ last) : Wp ν P last 30 := by
  obtain ⟨π, h, k, -⟩ := h
  exact (h.w.2 hl).ext k.1
/-- for aimAll -/
def CTL (μ ν : M3) (P t g x last M : Int) (L : List Int) : Prop := UP μ ν P g ∧ CTB ν P t g x last M L
theorem CT.l {μ ν : M3} {P t g x last M : Int} (h : CT μ ν P t g x last M) : ∃ L, CTL μ ν P t g x last M L ∧ Chn ν P x L := by
  obtain ⟨u, L, h⟩ := h
  exact ⟨L, ⟨u, h⟩, h.2.2.2.1⟩
theorem CTL.ed {μ ν ω : M3} {P t g x last M T : Int} {L : List Int} (h : CTL μ ν P t g x last M L) (hl : 0 ≤ last) (a : AIM ν ω P L T) (hT : T = ν.1 P 1) : CA μ ω P t g (M + 1) := by
  obtain ⟨u, h⟩ := h
  refine ⟨⟨fun i k hk hi => ?_, by rw [a.1]; exact u.2⟩, h.ed hl a hT⟩
  rw [a.2.2 i k hk (fun _ hm => by have := (h.2.2.2.2.1 i hm).1; omega)]
  exact u.1 i k hk hi

/-! a chain of IF_FAILS is forgotten -/
def FGT (μ ν : M3) (P : Int) (L : List Int) : Prop := ν.1 P 1 = μ.1 P 1 ∧ (∀ i ∈ L, cdp ν P i 0 = 0) ∧ ∀ i k, kk k → (k = 0 → i ∉ L) → cdp ν P i k = cdp μ P i k
def FMI (μ ν : M3) (P : Int) (L : List Int) (x n : Int) : Prop := ∃ R : List Int, Chn ν P x R ∧ (R.length : Int) ≤ n ∧ ν.1 P 1 = μ.1 P 1 ∧ (∀ i ∈ R, i ∈ L) ∧ (∀ i ∈ L, i ∉ R → cdp ν P i 0 = 0) ∧ ∀ i k, kk k → (k = 0 → (i ∉ L ∨ i ∈ R)) → cdp ν P i k = cdp μ P i k
theorem FMI.go {μ : M3} {P x : Int} {L : List Int} (h : Chn μ P x L) (h0 : 0 ≤ μ.1 P 1) : FMI μ μ P L x (μ.1 P 1) :=
  ⟨L, h, by have := Chn.lg L x h; have := h.x; cases L with
    | nil => simp; omega
    | cons i L => have := h.1; have := h.2.2.1; omega, rfl, fun _ h => h, fun i h1 h2 => absurd h1 h2, fun _ _ _ _ => rfl⟩
theorem FMI.st {μ ν π : M3} {P x n : Int} {L : List Int} (h : FMI μ ν P L x n) (hx : 0 ≤ x) (m : MO ν π P x 0) : FMI μ π P L (cdp π P x 1) (n - 1) := by
  obtain ⟨R, h1, h2, h3, h4, h5, h6⟩ := h
  cases R with
  | nil => have h9 : x = -1 := h1; omega
  | cons i R =>
    obtain ⟨a1, a2, a3, a4, a5, a6, a7⟩ := h1
    subst a1
    rw [m.2.2.2 x 1 k1 (fun z => absurd z.2 (by decide))]
    have hlt : ∀ j ∈ R, j < x := fun j hj => by have := Chn.le R _ a7 j hj; omega
    refine ⟨R, ?_, by simp only [List.length_cons] at h2; omega, by rw [m.1]; exact h3, fun j hj => h4 j (List.mem_cons_of_mem _ hj), fun j hj hn => ?_, fun j k hk hj => ?_⟩
    · exact Chn.cg (by rw [m.1]; omega) R _ (fun j hj => ⟨m.2.2.2 j 0 k0 (fun z => absurd z.1 (by have := hlt j hj; omega)), m.2.2.2 j 1 k1 (fun z => absurd z.2 (by decide))⟩) a7
    · by_cases e : j = x
      · rw [e]; exact m.2.2.1
      · rw [m.2.2.2 j 0 k0 (fun z => e z.1)]
        exact h5 j hj (fun z => by
          rcases List.mem_cons.1 z with q | q
          · exact e q
          · exact hn q)
    · by_cases e : j = x ∧ k = 0
      · exfalso
        rcases hj e.2 with q | q
        · exact q (by rw [e.1]; exact h4 x (List.mem_cons_self ..))
        · have := hlt j q; omega
      · rw [m.2.2.2 j k hk e]
        exact h6 j k hk (fun z => (hj z).imp id (fun q => List.mem_cons_of_mem _ q))
theorem FMI.ed {μ ν : M3} {P x n : Int} {L : List Int} (h : FMI μ ν P L x n) (hx : x < 0 ∨ n ≤ 0) : FGT μ ν P L := by
  obtain ⟨R, h1, h2, h3, h4, h5, h6⟩ := h
  have : R = [] := by
    cases R with
    | nil => rfl
    | cons i R =>
      exfalso
      simp only [List.length_cons] at h2
      have := h1.1
      have := h1.2.1
      omega
  subst this
  exact ⟨h3, fun i hi => h5 i hi (by simp), fun i k hk hi => h6 i k hk (fun z => Or.inl (hi z))⟩
theorem FMI.x {μ ν : M3} {P x n : Int} {L : List Int} (h : FMI μ ν P L x n) : -1 ≤ x ∧ (x = -1 ∨ x < ν.1 P 1) ∧ ν.1 P 1 = μ.1 P 1 := by
  obtain ⟨R, h1, h2, h3, -⟩ := h
  exact ⟨h1.x.1, h1.x.2, h3⟩
def FW (μo μ ν : M3) (P t x0 x n : Int) : Prop := ∃ L, (PX μo μ P t 2 x0 L 1 ∧ ∀ i ∈ L, cs μ P t i = 0) ∧ FMI μ ν P L x n
def PXC (μo μ : M3) (P t e x w : Int) : Prop := ∃ L, PX μo μ P t e x L w ∧ ∀ i ∈ L, cs μ P t i = 0
theorem PXC.e {μo μ : M3} {P t e x w : Int} (h : PXC μo μ P t e x w) : PXE μo μ P t e x w := by
  obtain ⟨L, h, -⟩ := h; exact ⟨L, h⟩
theorem PXC.nil {μ : M3} {P t w : Int} (h0 : 0 ≤ μ.1 P 1) : PXC μ μ P t 0 (-1) w := ⟨[], PX.nil h0, fun i hi => by cases hi⟩
theorem PXC.app {μo μ ν : M3} {P t e f x w : Int} (h : PXC μo μ P t e x w) (g : EX μ ν P t f 0) : PXC μo ν P t (e + f) x w := by
  obtain ⟨L, h, hc⟩ := h
  exact ⟨L, h.app g, fun i hi => by rw [(g.1.fo (t := t) i (by have := (Chn.le L x h.2.2.2.1 i hi).2.2.1; omega)).2.1]; exact hc i hi⟩
theorem PXC.fr {K : List Int} {μo μ ν : M3} {P t e x w : Int} (h : PXC μo μ P t e x w) (F : Fr K μ ν) (p1 : P ∉ K) (p2 : P + 1 ∉ K) : PXC μo ν P t e x w := by
  obtain ⟨L, h, hc⟩ := h
  exact ⟨L, h.fr F p1 p2, fun i hi => by rw [((EXT.fr F p1 p2).fo (t := t) i (by have := (Chn.le L x h.2.2.2.1 i hi).2.2.1; omega)).2.1]; exact hc i hi⟩
theorem PXC.fl {K : List Int} {μo μ ν : M3} {P t e x w : Int} (F : Fr K μo μ) (p1 : P ∉ K) (p2 : P + 1 ∉ K) (h : PXC μ ν P t e x w) : PXC μo ν P t e x w := by
  obtain ⟨L, h, hc⟩ := h; exact ⟨L, PX.fl F p1 p2 h, hc⟩
theorem PXC.iff {μo μ ν : M3} {P t e x s w : Int} (h : PXC μo μ P t e x w) (hl : 1 ≤ e) (g : AD μ ν P 26 x s) (hs9 : 0 ≤ s ∧ s ≤ 100000) (he : e ≤ w + s) : PXC μo ν P t e (μ.1 P 1) w := by
  obtain ⟨L, h, hc⟩ := h
  have hlt : μo.1 P 1 < μ.1 P 1 := by
    have a := h.1.1
    by_cases q : μo.1 P 1 < μ.1 P 1
    · exact q
    · exfalso
      have e9 : μo.1 P 1 = μ.1 P 1 := by omega
      have := h.2.2.1.2.1
      rw [e9] at this
      omega
  have c0 : cs μ P t (μ.1 P 1) = 0 := h.2.2.1.2.2.1 hlt
  refine ⟨_, h.iff g hs9 he, fun i hi => ?_⟩
  rcases List.mem_cons.1 hi with q | q
  · rw [q, (g.1.fo (t := t) _ (Int.le_refl _)).2.1]; exact c0
  · rw [(g.1.fo (t := t) i (by have := (Chn.le L x h.2.2.2.1 i q).2.2.1; omega)).2.1]; exact hc i q
theorem PXC.ee {μo μ : M3} {P t e f x w : Int} (h : PXC μo μ P t e x w) (he : e = f) : PXC μo μ P t f x w := by rw [← he]; exact h
theorem FGT.fo {μ ν : M3} {P t : Int} {L : List Int} (h : FGT μ ν P L) (h26 : ∀ i ∈ L, cdp μ P i 0 = 26) (hc : ∀ i ∈ L, cs μ P t i = 0) : ∀ i, hs ν P i = hs μ P i ∧ cs ν P t i = cs μ P t i ∧ ds ν P t i = ds μ P t i := by
  have key : ∀ n : Nat, hsN ν P n = hsN μ P n ∧ csN ν P t n = csN μ P t n ∧ dsN ν P t n = dsN μ P t n := by
    intro n
    induction n with
    | zero => exact ⟨rfl, rfl, rfl⟩
    | succ n ih =>
      obtain ⟨a1, a2, a3⟩ := ih
      by_cases e : (n : Int) ∈ L
      · have o1 : cdp ν P n 0 = 0 := h.2.1 _ e
        have o0 : cdp μ P n 0 = 26 := h26 _ e
        have c0 : csN μ P t n = 0 := by have := hc _ e; unfold cs at this; exact this
        refine ⟨?_, ?_, ?_⟩
        · show max 1 (hsN ν P n + eff (cdp ν P n 0) (cdp ν P n 1)) = max 1 (hsN μ P n + eff (cdp μ P n 0) (cdp μ P n 1))
          rw [a1, o1, o0]; rfl
        · show cef t (cdp ν P n 0) (csN ν P t n) = cef t (cdp μ P n 0) (csN μ P t n)
          rw [a2, o1, o0, c0]; rfl
        · show dsN ν P t n + def_ t (cdp ν P n 0) = dsN μ P t n + def_ t (cdp μ P n 0)
          rw [a3, o1, o0]; rfl
      · have c : ∀ k, kk k → cdp ν P n k = cdp μ P n k := fun k hk => h.2.2 n k hk (fun _ => e)
        refine ⟨?_, ?_, ?_⟩
        · show max 1 (hsN ν P n + eff (cdp ν P n 0) (cdp ν P n 1)) = max 1 (hsN μ P n + eff (cdp μ P n 0) (cdp μ P n 1))
          rw [a1, c 0 k0, c 1 k1]
        · show cef t (cdp ν P n 0) (csN ν P t n) = cef t (cdp μ P n 0) (csN μ P t n)
          rw [a2, c 0 k0]
        · show dsN ν P t n + def_ t (cdp ν P n 0) = dsN μ P t n + def_ t (cdp μ P n 0)
          rw [a3, c 0 k0]
  intro i
  exact key i.toNat
theorem FW.ed {μo μ ν : M3} {P t x0 x n : Int} (h : FW μo μ ν P t x0 x n) (hx : x < 0 ∨ n ≤ 0) : EX μo ν P t 2 0 := by
  obtain ⟨L, ⟨⟨h1, h2, h3, h4, h5⟩, hc⟩, g⟩ := h
  have g := g.ed hx
  have z := g.fo (t := t) (fun i hi => (h5 i hi).2.1) hc
  obtain ⟨s0, s1, s2, s3, s4, s5⟩ := h3
  refine ⟨⟨by rw [g.1]; exact h1.1, fun i k hk hi => ?_⟩, ?_⟩
  · rw [g.2.2 i k hk (fun _ hm => by have := (h5 i hm).1; omega)]; exact h1.2 i k hk hi
  rw [g.1]
  refine ⟨s0, by rw [(z _).1, (z _).1]; exact s1, fun q => by rw [(z _).2.1]; exact s2 q, by rw [(z _).2.2, (z _).2.2]; exact s3, fun i ha hb _ => ?_, fun i ha hb => ?_⟩
  · by_cases hm : i ∈ L
    · unfold lcd
      rw [g.2.1 i hm]
      exact ⟨fun q => absurd q (by decide), fun q => absurd q (by decide), fun q => absurd q (by decide), fun q => absurd q (by decide), fun q => absurd q (by decide), fun q => absurd q (by decide), fun q => absurd q (by decide), fun q => absurd q (by decide), fun q => absurd q (by decide), fun q => absurd q (by decide)⟩
    · have q := s4 i ha hb hm
      have n30 : ∀ y, cdp μ P y 0 = 30 → cdp ν P y 0 = 30 := fun y hy => by
        rw [g.2.2 y 0 k0 (fun _ hm => by have := (h5 y hm).2.1; omega)]; exact hy
      unfold lcd at *
      rw [g.2.2 i 0 k0 (fun _ => hm), g.2.2 i 2 k2 (fun e => absurd e (by decide)), g.2.2 i 1 k1 (fun e => absurd e (by decide))]
      unfold lcd0 at *
      simp only [(z _).1, (z _).2.2, (z _).2.1, tgj] at *
      refine ⟨q.1, q.2.1, q.2.2.1, q.2.2.2.1, q.2.2.2.2.1, q.2.2.2.2.2.1, q.2.2.2.2.2.2.1, fun o => ?_, q.2.2.2.2.2.2.2.2.1, fun o => ?_⟩
      · obtain ⟨w1, w2, w3⟩ := q.2.2.2.2.2.2.2.1 o
        refine ⟨w1, fun k => ?_, w3⟩
        have w := w2 k
        exact ⟨w.1, w.2.1, n30 _ w.2.2.1, w.2.2.2⟩
      · rcases q.2.2.2.2.2.2.2.2.2 o with w | ⟨w1, w2, w3, w4⟩
        · exact Or.inl w
        · exact Or.inr ⟨w1, w2, n30 _ w3, w4⟩
  · rw [(z _).2.2, (z _).2.2]; exact s5 i ha hb
theorem FW.go {μo μ : M3} {P t x0 : Int} (h : PXC μo μ P t 2 x0 1) (h0 : 0 ≤ μ.1 P 1) : FW μo μ μ P t x0 x0 (μ.1 P 1) := by
  obtain ⟨L, h, hc⟩ := h; exact ⟨L, ⟨h, hc⟩, FMI.go h.2.2.2.1 h0⟩
theorem FW.st {μo μ ν π : M3} {P t x0 x n : Int} (h : FW μo μ ν P t x0 x n) (hx : 0 ≤ x) (m : MO ν π P x 0) : FW μo μ π P t x0 (cdp π P x 1) (n - 1) := by
  obtain ⟨L, h, g⟩ := h; exact ⟨L, h, g.st hx m⟩
theorem FW.x {μo μ ν : M3} {P t x0 x n : Int} (h : FW μo μ ν P t x0 x n) : x = -1 ∨ x < ν.1 P 1 := by
  obtain ⟨L, h, g⟩ := h; exact g.x.2.1
/-! a chain is aimed, whatever it rests on -/
def AR (R : List Int → Prop) (μ ν : M3) (P x0 T x n : Int) : Prop := ∃ L, (R L ∧ Chn μ P x0 L) ∧ AMI μ ν P L T x n
theorem AR.go {R : List Int → Prop} {μ : M3} {P x0 T : Int} (h : ∃ L, R L ∧ Chn μ P x0 L) (h0 : 0 ≤ μ.1 P 1) : AR R μ μ P x0 T x0 (μ.1 P 1) := by
  obtain ⟨L, h⟩ := h; exact ⟨L, h, AMI.go h.2 h0⟩
theorem AR.st {R : List Int → Prop} {μ ν π : M3} {P x0 T x n : Int} (h : AR R μ ν P x0 T x n) (hx : 0 ≤ x) (m : MF ν π P x T) : AR R μ π P x0 T (cdp ν P x 1) (n - 1) := by
  obtain ⟨L, h, g⟩ := h; exact ⟨L, h, g.st hx m⟩
theorem AR.x {R : List Int → Prop} {μ ν : M3} {P x0 T x n : Int} (h : AR R μ ν P x0 T x n) : x = -1 ∨ x < ν.1 P 1 := by
  obtain ⟨L, h, g⟩ := h; exact g.x.2.1
theorem AR.ed {R : List Int → Prop} {μ ν : M3} {P x0 T x n : Int} (h : AR R μ ν P x0 T x n) (hx : x < 0 ∨ n ≤ 0) : ∃ L, R L ∧ AIM μ ν P L T := by
  obtain ⟨L, h, g⟩ := h; exact ⟨L, h.1, g.ed hx⟩
