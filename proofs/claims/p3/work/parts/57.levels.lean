/-! expressions at every depth -/
def LvE (ω : Om) (l : Launch) (kf : Int) (F Lo : Nat) : Prop := ∀ (μ : M3) (x1 : Int) (P : Int) (tt : Int) (hx1 : x1 = 0 ∨ x1 = 1) (hI : IC μ) (hP : P = μ.1 23 2) (htt : tt = μ.1 23 8) (hTK : TK μ) (hB : 2 * μ.1 P 1 ≤ 5 * μ.1 26 10 + 200 + 80 * μ.1 26 11) (hKc : μ.1 (P + 2) 3 ≤ μ.1 P 1) (ht3 : 0 ≤ tt ∧ tt ≤ 3) (hdp : 0 ≤ μ.1 23 9 ∧ μ.1 23 9 ≤ 8 + μ.1 26 11) (hfu : 0 ≤ (kf - 1) ∧ 9 ≤ μ.1 23 9 + (kf - 1) + 20 * μ.1 26 11) (hbg : ∀ _ : Unit, x1 = 0 ∨ μ.1 26 11 ≠ 0 ∨ 2 ≤ hs μ P (μ.1 P 1)), CtV ω l yX7_expression cX7_expression 3 (F + 0) (Lo + 0) [.ref (oP ω 23), .int (iv x1)] μ (fun (μ' : M3) => (Fr [2, 3, 4, 23, 24, 26, P, P + 1, P + 2, (P + 2) + 1, (P + 2) + 2, (P + 2) + 3] μ μ') ∧ (IC μ') ∧ (TK μ') ∧ (μ.1 26 11 ≤ μ'.1 26 11) ∧ (μ.1 26 10 ≤ μ'.1 26 10) ∧ (μ.1 P 1 ≤ μ'.1 P 1 ∧ μ'.1 P 1 ≤ μ.1 P 1 + 2 * (μ'.1 26 10 - μ.1 26 10) + (- 1 + 3 * μ'.1 26 11 - 2 * μ.1 26 11 + x1)) ∧ (μ'.1 (P + 2) 3 - μ.1 (P + 2) 3 ≤ μ'.1 P 1 - μ.1 P 1 ∧ μ.1 (P + 2) 3 ≤ μ'.1 (P + 2) 3) ∧ (μ'.1 26 11 = 0 → EX μ μ' P tt (1 - x1) 0) ∧ (μ'.1 23 2 = μ.1 23 2) ∧ (μ'.1 23 5 = μ.1 23 5) ∧ (μ'.1 23 6 = μ.1 23 6) ∧ (μ'.1 23 7 = μ.1 23 7) ∧ (μ'.1 23 8 = μ.1 23 8) ∧ (μ'.1 23 9 = μ.1 23 9) ∧ (μ'.1 23 10 = μ.1 23 10) ∧ (μ'.1 26 6 = μ.1 26 6) ∧ (μ'.1 P 7 = μ.1 P 7))
def LvU (ω : Om) (l : Launch) (kf : Int) (Fu Lu : Nat) : Prop := ∀ (μ : M3) (x1 : Int) (P : Int) (tt : Int) (hx1 : x1 = 0 ∨ x1 = 1) (hI : IC μ) (hP : P = μ.1 23 2) (htt : tt = μ.1 23 8) (hTK : TK μ) (hB : 2 * μ.1 P 1 ≤ 5 * μ.1 26 10 + 200 + 80 * μ.1 26 11) (hKc : μ.1 (P + 2) 3 ≤ μ.1 P 1) (ht3 : 0 ≤ tt ∧ tt ≤ 3) (hdp : 0 ≤ μ.1 23 9 ∧ μ.1 23 9 ≤ 8 + μ.1 26 11) (hfu : 0 ≤ (kf - 1) ∧ 9 ≤ μ.1 23 9 + (kf - 1) + 20 * μ.1 26 11) (hbg : ∀ _ : Unit, x1 = 0 ∨ μ.1 26 11 ≠ 0 ∨ 2 ≤ hs μ P (μ.1 P 1)), CtV ω l yX7_unary cX7_unary 2 (Fu + 0) (Lu + 0) [.ref (oP ω 23), .int (iv x1)] μ (fun (μ' : M3) => (Fr [2, 3, 4, 23, 24, 26, P, P + 1, P + 2, (P + 2) + 1, (P + 2) + 2, (P + 2) + 3] μ μ') ∧ (IC μ') ∧ (TK μ') ∧ (μ.1 26 11 ≤ μ'.1 26 11) ∧ (μ.1 26 10 ≤ μ'.1 26 10) ∧ (μ.1 P 1 ≤ μ'.1 P 1 ∧ μ'.1 P 1 ≤ μ.1 P 1 + 2 * (μ'.1 26 10 - μ.1 26 10) + (- 1 + 3 * μ'.1 26 11 - 2 * μ.1 26 11 + x1)) ∧ (μ'.1 (P + 2) 3 - μ.1 (P + 2) 3 ≤ μ'.1 P 1 - μ.1 P 1 ∧ μ.1 (P + 2) 3 ≤ μ'.1 (P + 2) 3) ∧ (μ'.1 26 11 = 0 → EX μ μ' P tt (1 - x1) 0) ∧ (μ'.1 23 2 = μ.1 23 2) ∧ (μ'.1 23 5 = μ.1 23 5) ∧ (μ'.1 23 6 = μ.1 23 6) ∧ (μ'.1 23 7 = μ.1 23 7) ∧ (μ'.1 23 8 = μ.1 23 8) ∧ (μ'.1 23 9 = μ.1 23 9) ∧ (μ'.1 23 10 = μ.1 23 10) ∧ (μ'.1 26 6 = μ.1 26 6) ∧ (μ'.1 P 7 = μ.1 P 7))
theorem lv_step (ω : Om) (l : Launch) {kf : Int} {F Lo Fu Lu : Nat} (hF : 60 ≤ F) (hLo : 2000 ≤ Lo) (hFu : Fu ≤ F) (hLu : Lu ≤ Lo) (hE : LvE ω l kf F Lo) (hU : LvU ω l kf Fu Lu) : LvE ω l (kf + 1) (F + 9) (Lo + 206) ∧ LvU ω l (kf + 1) (F + 5) (Lo + 114) := by
  refine ⟨fun μ x1 P tt hx1 hI hP htt hTK hB hKc ht3 hdp hfu hbg => ?_, fun μ x1 P tt hx1 hI hP htt hTK hB hKc ht3 hdp hfu hbg => ?_⟩
  · exact c_X7_expression ω l μ x1 F Lo Fu Lu kf P tt hx1 hI hP htt hF hLo hFu hLu hE hU hTK hB hKc ht3 hdp (by have := hfu; omega) hbg
  · exact c_X7_unary ω l μ x1 F Lo Fu Lu kf P tt hx1 hI hP htt hF hLo hFu hLu hE hU hTK hB hKc ht3 hdp (by have := hfu; omega) hbg
theorem lv_0 (ω : Om) (l : Launch) (F Lo Fu Lu : Nat) : LvE ω l 0 F Lo ∧ LvU ω l 0 Fu Lu := by
  refine ⟨fun μ x1 P tt hx1 hI hP htt hTK hB hKc ht3 hdp hfu hbg => ?_, fun μ x1 P tt hx1 hI hP htt hTK hB hKc ht3 hdp hfu hbg => ?_⟩
  · exact absurd hfu.1 (by decide)
  · exact absurd hfu.1 (by decide)
theorem lv_all (ω : Om) (l : Launch) : ∀ n : Nat, LvE ω l (n : Int) (60 + 9 * n) (2000 + 206 * n) ∧ LvU ω l (n : Int) (60 + 9 * n) (2000 + 206 * n) ∨ (LvE ω l (n : Int) (60 + 9 * n) (2000 + 206 * n) ∧ ∃ Fu Lu, Fu ≤ 60 + 9 * n ∧ Lu ≤ 2000 + 206 * n ∧ LvU ω l (n : Int) Fu Lu)
  | 0 => Or.inl (lv_0 ω l _ _ _ _)
  | n + 1 => by
    have ih : LvE ω l (n : Int) (60 + 9 * n) (2000 + 206 * n) ∧ ∃ Fu Lu, Fu ≤ 60 + 9 * n ∧ Lu ≤ 2000 + 206 * n ∧ LvU ω l (n : Int) Fu Lu := by
      rcases lv_all ω l n with h | h
      · exact ⟨h.1, _, _, Nat.le_refl _, Nat.le_refl _, h.2⟩
      · exact h
    obtain ⟨h1, Fu, Lu, h2, h3, h4⟩ := ih
    have s := lv_step ω l (by omega) (by omega) h2 h3 h1 h4
    refine Or.inr ⟨?_, 60 + 9 * n + 5, 2000 + 206 * n + 114, by omega, by omega, ?_⟩
    · have e1 : 60 + 9 * (n + 1) = 60 + 9 * n + 9 := by omega
      have e2 : 2000 + 206 * (n + 1) = 2000 + 206 * n + 206 := by omega
      rw [e1, e2]
      exact s.1
    · exact s.2
theorem lv_9 (ω : Om) (l : Launch) : LvE ω l 10 150 4060 := by
  rcases lv_all ω l 10 with h | h
  · exact h.1
  · exact h.1
theorem c_X7_expression_a (ω : Om) (l : Launch) (μ : M3) (x1 : Int) (P : Int) (tt : Int) (hx1 : x1 = 0 ∨ x1 = 1) (hI : IC μ) (hP : P = μ.1 23 2) (htt : tt = μ.1 23 8) (hTK : TK μ) (hB : 2 * μ.1 P 1 ≤ 5 * μ.1 26 10 + 200 + 80 * μ.1 26 11) (hKc : μ.1 (P + 2) 3 ≤ μ.1 P 1) (ht3 : 0 ≤ tt ∧ tt ≤ 3) (hdp : 0 ≤ μ.1 23 9 ∧ μ.1 23 9 ≤ 8 + μ.1 26 11) (hbg : ∀ _ : Unit, x1 = 0 ∨ μ.1 26 11 ≠ 0 ∨ 2 ≤ hs μ P (μ.1 P 1)) : CtV ω l yX7_expression cX7_expression 3 150 4060 [.ref (oP ω 23), .int (iv x1)] μ (fun (μ' : M3) => (Fr [2, 3, 4, 23, 24, 26, P, P + 1, P + 2, (P + 2) + 1, (P + 2) + 2, (P + 2) + 3] μ μ') ∧ (IC μ') ∧ (TK μ') ∧ (μ.1 26 11 ≤ μ'.1 26 11) ∧ (μ.1 26 10 ≤ μ'.1 26 10) ∧ (μ.1 P 1 ≤ μ'.1 P 1 ∧ μ'.1 P 1 ≤ μ.1 P 1 + 2 * (μ'.1 26 10 - μ.1 26 10) + (- 1 + 3 * μ'.1 26 11 - 2 * μ.1 26 11 + x1)) ∧ (μ'.1 (P + 2) 3 - μ.1 (P + 2) 3 ≤ μ'.1 P 1 - μ.1 P 1 ∧ μ.1 (P + 2) 3 ≤ μ'.1 (P + 2) 3) ∧ (μ'.1 26 11 = 0 → EX μ μ' P tt (1 - x1) 0) ∧ (μ'.1 23 2 = μ.1 23 2) ∧ (μ'.1 23 5 = μ.1 23 5) ∧ (μ'.1 23 6 = μ.1 23 6) ∧ (μ'.1 23 7 = μ.1 23 7) ∧ (μ'.1 23 8 = μ.1 23 8) ∧ (μ'.1 23 9 = μ.1 23 9) ∧ (μ'.1 23 10 = μ.1 23 10) ∧ (μ'.1 26 6 = μ.1 26 6) ∧ (μ'.1 P 7 = μ.1 P 7)) := by
  have h := lv_9 ω l
  unfold LvE at h
  exact h μ x1 P tt hx1 hI hP htt hTK hB hKc ht3 hdp (by have := hTK.b; omega) hbg
