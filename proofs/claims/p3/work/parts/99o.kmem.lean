/-! the memory behind the two constructors -/
def OBL : List (List Int) := [[1, 0, 0, 2, 6, 12, 13, 23, 32], [], [3, 4, 5, 11, 0], [], [], [], [7, 8, 9, 10, 11, 0], [], [], [], [], [], [], [14, 0, 15, 19, 20, 21, 22, 0], [], [16, 17, 18, 0], [], [], [], [], [], [], [], [26, 2, 13, 24, 25, 0, 0, 0, 0, 0, 0], [], [], [1, 27, 28, 29, 30, 31, 0, 0, 0, 0, 0, 0, 0, 0, 0, 0], [], [], [], [], [], [12, 2, 6, 33, 37, 41, 45, 52, 60, 70, 13, 0, 0, 4, -1, -1, 0], [34, 35, 36, 0], [], [], [], [38, 39, 40, 0], [], [], [], [42, 43, 44, 0], [], [], [], [46, 0, 47, 51, 0], [], [48, 49, 50, 0], [], [], [], [], [53, 54, 55, 56, 57, 58, 59, 0], [], [], [], [], [], [], [], [61, 62, 63, 64, 65, 66, 0], [], [], [], [], [], [67, 68, 69, 0], [], [], [], [], [72, 0, 73, 77, 78, 79, 80, 0], [], [74, 75, 76, 0], [], [], [], [], [], [], [], [82, 0, 83, 87, 88, 89, 90, 0], [], [84, 85, 86, 0], [], [], [], [], [], [], [], [92, 0, 93, 97, 98, 99, 100, 0], [], [94, 95, 96, 0], [], [], [], [], [], [], [], [102, 0, 103, 107, 108, 109, 110, 0], [], [104, 105, 106, 0], [], [], [], [], [], [], [], [0, 112, 0, 113, 12, 114, 0, 0, 0, 0, 0, 0, 0, 0, 0, 0, 0, 0, 0, 115, 116, 117, 0, 118, 119, 120, 121, 122, 123, 0, 124, 0, 0, 125, 0, 0, 0, 0, 126, 0, 0, 127, 128, 129, 130, 131, 132, 0, 0, 133, 134, 135, 136, 0, 137, 138, 139, 140, 141, 142, 143, 0, 144, 145, 146, 0, 147, 148, 0, 0, 149, 150, 151, 152, 153, 154, 155, 156, 157, 158, 159, 0, 0, 0, 0, 0, 160, 161, 0, 0, 0, 0, 0, 0, 0, 0, 0, 0, 0, 0, 162, 163, 164, 165, 0, 166], [], [], [], [], [], [], [], [], [], [], [], [], [], [], [], [], [], [], [], [], [], [], [], [], [], [], [], [], [], [], [], [], [], [], [], [], [], [], [], [], [], [], [], [], [], [], [], [], [], [], [], [], [], [], []]
def LN0 : List Int := [0, 3000, 0, 52, 52, 52, 0, 16, 16, 100, 100, 100, 4, 0, 1024, 0, 32, 32, 32, 40, 40, 40, 40, 0, 4, 1000, 0, 33, 3001, 3001, 3001, 3001, 0, 0, 64, 64, 64, 0, 64, 64, 64, 0, 16, 16, 16, 0, 288, 0, 32, 32, 32, 64, 0, 24, 24, 24, 24, 24, 24, 24, 0, 400, 400, 400, 400, 400, 0, 16, 16, 16, 10, 0, 1024, 0, 32, 32, 32, 40, 40, 40, 40, 0, 1024, 0, 32, 32, 32, 40, 40, 40, 40, 0, 1024, 0, 32, 32, 32, 40, 40, 40, 40, 0, 1024, 0, 32, 32, 32, 40, 40, 40, 40, 0, 3000, 64, 64, 45000, 45000, 45000, 200, 200, 200, 200, 5, 64, 320, 700, 12000, 26, 26, 26, 26, 26, 26, 8400, 8400, 9000, 9000, 900, 900, 900, 900, 900, 900, 900, 20100, 20100, 20100, 20100, 20100, 12000, 12000, 12000, 12000, 12000, 12000, 12000, 12000, 12000, 12000, 12000, 200, 200, 16, 100, 100, 100, 16]
def tb0 (a k : Int) : Int := (OBL.getD a.toNat []).getD k.toNat 0
def pr0 (k : Int) : Int := if k = 1 then 81 else if k = 2 then 91 else if k = 3 then 101 else 71
def c0 (g3 : Nat → Int64) (g4 : Nat → Int32) (g8 : Nat → Int32) (g27 : Nat → Int64) (g113 : Nat → Int64) (g114 : Nat → Int32) (g166 : Nat → Int32) (a k : Int) : Int := if a = 3 then (g3 k.toNat).toInt else if a = 4 then (g4 k.toNat).toInt else if a = 8 then (g8 k.toNat).toInt else if a = 27 then (g27 k.toNat).toInt else if a = 113 then (g113 k.toNat).toInt else if a = 114 then (g114 k.toNat).toInt else if a = 166 then (g166 k.toNat).toInt else if a = 12 then pr0 k else tb0 a k
def m0 (g3 : Nat → Int64) (g4 : Nat → Int32) (g8 : Nat → Int32) (g27 : Nat → Int64) (g113 : Nat → Int64) (g114 : Nat → Int32) (g166 : Nat → Int32) : M3 := (c0 g3 g4 g8 g27 g113 g114 g166, fun a => LN0.getD a.toNat 0, 167, 452814)
section START
variable {g3 g27 g113 : Nat → Int64} {g4 g8 g114 g166 : Nat → Int32}
def ns0 (a : Int) : Prop := a ≠ 3 ∧ a ≠ 4 ∧ a ≠ 8 ∧ a ≠ 27 ∧ a ≠ 113 ∧ a ≠ 114 ∧ a ≠ 166 ∧ a ≠ 12
theorem c0_o {a : Int} (h : ns0 a) (k : Int) : c0 g3 g4 g8 g27 g113 g114 g166 a k = tb0 a k := by
  obtain ⟨h3, h4, h8, h27, h113, h114, h166, h12⟩ := h
  unfold c0
  rw [if_neg h3, if_neg h4, if_neg h8, if_neg h27, if_neg h113, if_neg h114, if_neg h166, if_neg h12]
theorem gd_ir {P : Int → Prop} (h0 : P 0) : ∀ (l : List Int) (n : Nat), (∀ x ∈ l, P x) → P (l.getD n 0)
  | [], _, _ => h0
  | x :: _, 0, h => h x (List.mem_cons_self ..)
  | _ :: l, n + 1, h => gd_ir h0 l n (fun y hy => h y (List.mem_cons_of_mem _ hy))
theorem gd_l {P : List Int → Prop} (h0 : P []) : ∀ (l : List (List Int)) (n : Nat), (∀ x ∈ l, P x) → P (l.getD n [])
  | [], _, _ => h0
  | x :: _, 0, h => h x (List.mem_cons_self ..)
  | _ :: l, n + 1, h => gd_l h0 l n (fun y hy => h y (List.mem_cons_of_mem _ hy))
theorem tb0_r (a k : Int) : -1 ≤ tb0 a k ∧ tb0 a k ≤ 1000 := by
  have q : ∀ l ∈ OBL, ∀ x ∈ l, -1 ≤ x ∧ x ≤ 1000 := by decide +kernel
  exact gd_ir (P := fun x => -1 ≤ x ∧ x ≤ 1000) (by decide) _ _ (gd_l (P := fun l => ∀ x ∈ l, -1 ≤ x ∧ x ≤ 1000) (fun x hx => absurd hx List.not_mem_nil) OBL a.toNat q)
theorem pr0_p (k : Int) : isPr (pr0 k) := by
  unfold pr0 isPr
  split
  · omega
  · split
    · omega
    · split <;> omega
theorem ir_t (x : Int32) : ir x.toInt := ⟨by have := x.le_toInt; exact this, by have := x.toInt_lt; omega⟩
theorem jr_t (x : Int64) : jr x.toInt := ⟨by have := x.le_toInt; exact this, by have := x.toInt_lt; omega⟩
theorem m0_Rg : Rg (m0 g3 g4 g8 g27 g113 g114 g166) := by
  refine ⟨fun a k h => ?_, fun a k h => ?_, fun a => ?_⟩
  · show ir (c0 g3 g4 g8 g27 g113 g114 g166 a k)
    unfold c0
    by_cases h3 : a = 3
    · rw [if_pos h3]; subst h3; rcases h with h | h; exact absurd (show (1 : Nat) = 0 from h) (by decide); exact absurd (show (1 : Nat) = 3 from h) (by decide)
    rw [if_neg h3]
    by_cases h4 : a = 4
    · rw [if_pos h4]; exact ir_t _
    rw [if_neg h4]
    by_cases h8 : a = 8
    · rw [if_pos h8]; exact ir_t _
    rw [if_neg h8]
    by_cases h27 : a = 27
    · rw [if_pos h27]; subst h27; rcases h with h | h; exact absurd (show (1 : Nat) = 0 from h) (by decide); exact absurd (show (1 : Nat) = 3 from h) (by decide)
    rw [if_neg h27]
    by_cases h113 : a = 113
    · rw [if_pos h113]; subst h113; rcases h with h | h; exact absurd (show (1 : Nat) = 0 from h) (by decide); exact absurd (show (1 : Nat) = 3 from h) (by decide)
    rw [if_neg h113]
    by_cases h114 : a = 114
    · rw [if_pos h114]; exact ir_t _
    rw [if_neg h114]
    by_cases h166 : a = 166
    · rw [if_pos h166]; exact ir_t _
    rw [if_neg h166]
    by_cases h12 : a = 12
    · rw [if_pos h12]; have := pr0_p k; unfold isPr at this; unfold ir; omega
    rw [if_neg h12]
    have := tb0_r a k
    unfold ir; omega
  · show jr (c0 g3 g4 g8 g27 g113 g114 g166 a k)
    unfold c0
    by_cases h3 : a = 3
    · rw [if_pos h3]; exact jr_t _
    rw [if_neg h3]
    by_cases h4 : a = 4
    · rw [if_pos h4]; have q := ir_t (g4 k.toNat); unfold ir at q; unfold jr; omega
    rw [if_neg h4]
    by_cases h8 : a = 8
    · rw [if_pos h8]; have q := ir_t (g8 k.toNat); unfold ir at q; unfold jr; omega
    rw [if_neg h8]
    by_cases h27 : a = 27
    · rw [if_pos h27]; exact jr_t _
    rw [if_neg h27]
    by_cases h113 : a = 113
    · rw [if_pos h113]; exact jr_t _
    rw [if_neg h113]
    by_cases h114 : a = 114
    · rw [if_pos h114]; have q := ir_t (g114 k.toNat); unfold ir at q; unfold jr; omega
    rw [if_neg h114]
    by_cases h166 : a = 166
    · rw [if_pos h166]; have q := ir_t (g166 k.toNat); unfold ir at q; unfold jr; omega
    rw [if_neg h166]
    by_cases h12 : a = 12
    · rw [if_pos h12]; have := pr0_p k; unfold isPr at this; unfold jr; omega
    rw [if_neg h12]
    have := tb0_r a k
    unfold jr; omega
  · show 0 ≤ LN0.getD a.toNat 0 ∧ LN0.getD a.toNat 0 ≤ 2147483647
    have q : ∀ x ∈ LN0, 0 ≤ x ∧ x ≤ 2147483647 := by decide +kernel
    exact gd_ir (P := fun x => 0 ≤ x ∧ x ≤ 2147483647) (by decide) LN0 a.toNat q
theorem m0_Sr : Sr (m0 g3 g4 g8 g27 g113 g114 g166) := by
  refine ⟨fun q hq => ?_, ?_, fun k => ?_, ?_, ?_, ?_⟩
  · have key : ∀ q ∈ SRL, (q.1 ≠ 3 ∧ q.1 ≠ 4 ∧ q.1 ≠ 8 ∧ q.1 ≠ 27 ∧ q.1 ≠ 113 ∧ q.1 ≠ 114 ∧ q.1 ≠ 166 ∧ q.1 ≠ 12) ∧ tb0 q.1 q.2.1 = q.2.2 := by decide +kernel
    have z := key q hq
    exact (c0_o z.1 _).trans z.2
  · have key : ∀ q ∈ LNL, LN0.getD q.1.toNat 0 = q.2 := by decide +kernel
    exact key
  · exact pr0_p k
  · exact Or.inl rfl
  · exact Or.inl rfl
  · exact Or.inl rfl
theorem m0_IC : IC (m0 g3 g4 g8 g27 g113 g114 g166) := by
  refine ⟨fun r hr => ?_, fun p hp => ?_, ?_, ?_⟩
  · rcases hr with rfl | rfl | rfl | rfl | rfl | rfl | rfl | rfl | rfl | rfl
    · exact (by decide : (0 : Int) ≤ 0 ∧ (0 : Int) ≤ 32 ∧ (32 : Int) = 32 ∧ (32 : Int) = 32 ∧ 16 ≤ (32 : Int) ∧ (0 : Int) ≤ BR 15)
    · exact (by decide : (0 : Int) ≤ 0 ∧ (0 : Int) ≤ 64 ∧ (64 : Int) = 64 ∧ (64 : Int) = 64 ∧ 16 ≤ (64 : Int) ∧ (0 : Int) ≤ BR 33)
    · exact (by decide : (0 : Int) ≤ 0 ∧ (0 : Int) ≤ 64 ∧ (64 : Int) = 64 ∧ (64 : Int) = 64 ∧ 16 ≤ (64 : Int) ∧ (0 : Int) ≤ BR 37)
    · exact (by decide : (0 : Int) ≤ 0 ∧ (0 : Int) ≤ 16 ∧ (16 : Int) = 16 ∧ (16 : Int) = 16 ∧ 16 ≤ (16 : Int) ∧ (0 : Int) ≤ BR 41)
    · exact (by decide : (0 : Int) ≤ 0 ∧ (0 : Int) ≤ 32 ∧ (32 : Int) = 32 ∧ (32 : Int) = 32 ∧ 16 ≤ (32 : Int) ∧ (0 : Int) ≤ BR 47)
    · exact (by decide : (0 : Int) ≤ 0 ∧ (0 : Int) ≤ 16 ∧ (16 : Int) = 16 ∧ (16 : Int) = 16 ∧ 16 ≤ (16 : Int) ∧ (0 : Int) ≤ BR 66)
    · exact (by decide : (0 : Int) ≤ 0 ∧ (0 : Int) ≤ 32 ∧ (32 : Int) = 32 ∧ (32 : Int) = 32 ∧ 16 ≤ (32 : Int) ∧ (0 : Int) ≤ BR 73)
    · exact (by decide : (0 : Int) ≤ 0 ∧ (0 : Int) ≤ 32 ∧ (32 : Int) = 32 ∧ (32 : Int) = 32 ∧ 16 ≤ (32 : Int) ∧ (0 : Int) ≤ BR 83)
    · exact (by decide : (0 : Int) ≤ 0 ∧ (0 : Int) ≤ 32 ∧ (32 : Int) = 32 ∧ (32 : Int) = 32 ∧ 16 ≤ (32 : Int) ∧ (0 : Int) ≤ BR 93)
    · exact (by decide : (0 : Int) ≤ 0 ∧ (0 : Int) ≤ 32 ∧ (32 : Int) = 32 ∧ (32 : Int) = 32 ∧ 16 ≤ (32 : Int) ∧ (0 : Int) ≤ BR 103)
  · rcases hp with rfl | rfl | rfl | rfl | rfl
    · exact (by decide : (0 : Int) ≤ 0 ∧ 4 * (0 : Int) ≤ 1024 ∧ (0 : Int) ≤ 0 ∧ (0 : Int) ≤ 40)
    · exact (by decide : (0 : Int) ≤ 0 ∧ 4 * (0 : Int) ≤ 1024 ∧ (0 : Int) ≤ 0 ∧ (0 : Int) ≤ 40)
    · exact (by decide : (0 : Int) ≤ 0 ∧ 4 * (0 : Int) ≤ 1024 ∧ (0 : Int) ≤ 0 ∧ (0 : Int) ≤ 40)
    · exact (by decide : (0 : Int) ≤ 0 ∧ 4 * (0 : Int) ≤ 1024 ∧ (0 : Int) ≤ 0 ∧ (0 : Int) ≤ 40)
    · exact (by decide : (0 : Int) ≤ 0 ∧ 4 * (0 : Int) ≤ 1024 ∧ (0 : Int) ≤ 0 ∧ (0 : Int) ≤ 40)
  · have e : ∀ a k, ns0 a → (m0 g3 g4 g8 g27 g113 g114 g166).1 a k = tb0 a k := fun a k h => c0_o h k
    unfold nums
    rw [e 0 1 (by unfold ns0; decide), e 2 3 (by unfold ns0; decide), e 2 4 (by unfold ns0; decide), e 6 5 (by unfold ns0; decide), e 52 7 (by unfold ns0; decide), e 60 6 (by unfold ns0; decide), e 45 1 (by unfold ns0; decide), e 45 4 (by unfold ns0; decide), e 23 5 (by unfold ns0; decide), e 26 6 (by unfold ns0; decide), e 26 7 (by unfold ns0; decide), e 26 9 (by unfold ns0; decide), e 26 10 (by unfold ns0; decide)]
    exact (by decide +kernel : (0 ≤ tb0 0 1 ∧ tb0 0 1 ≤ 3000) ∧ (0 ≤ tb0 2 3 ∧ tb0 2 3 ≤ 51) ∧ (0 ≤ tb0 2 4 ∧ tb0 2 4 ≤ 51) ∧ (0 ≤ tb0 6 5 ∧ tb0 6 5 ≤ 100) ∧ (0 ≤ tb0 52 7 ∧ tb0 52 7 ≤ 24) ∧ (0 ≤ tb0 60 6 ∧ tb0 60 6 ≤ 400) ∧ (0 ≤ tb0 45 1 ∧ 9 * tb0 45 1 ≤ LN0.getD 46 0) ∧ (0 ≤ tb0 45 4 ∧ 2 * tb0 45 4 ≤ LN0.getD 51 0) ∧ (0 ≤ tb0 23 5 ∧ tb0 23 5 ≤ 1000) ∧ (0 ≤ tb0 26 6 ∧ tb0 26 6 ≤ 3001) ∧ (0 ≤ tb0 26 7 ∧ tb0 26 7 ≤ 3000) ∧ (0 ≤ tb0 26 9 ∧ tb0 26 9 ≤ 3000) ∧ (-1 ≤ tb0 26 10 ∧ tb0 26 10 ≤ 3000))
  · have q : (∀ q ∈ CPL, 16 ≤ LN0.getD q.1.toNat 0 ∧ LN0.getD q.1.toNat 0 ≤ q.2) ∧ (452814 : Int) ≤ 700000 + 2 * (CPL.map (fun q => LN0.getD q.1.toNat 0)).sum ∧ 16 * (167 : Int) ≤ 3200 + (CPL.map (fun q => LN0.getD q.1.toNat 0)).sum := by decide +kernel
    exact q
theorem m0_CI : CI (m0 g3 g4 g8 g27 g113 g114 g166) := by
  have pn : ∀ p, isPr p → (m0 g3 g4 g8 g27 g113 g114 g166).1 p 1 = 0 ∧ (m0 g3 g4 g8 g27 g113 g114 g166).1 p 7 = 0 := by
    intro p hp
    rcases hp with rfl | rfl | rfl | rfl | rfl <;> exact ⟨rfl, rfl⟩
  refine ⟨⟨fun t => hs (m0 g3 g4 g8 g27 g113 g114 g166) (pr0 t), fun t => cs (m0 g3 g4 g8 g27 g113 g114 g166) (pr0 t) t, fun t => ds (m0 g3 g4 g8 g27 g113 g114 g166) (pr0 t) t, fun t t0 t3 => ?_⟩, fun p k hp => ?_, ⟨Or.inl rfl, fun t t0 t3 => ?_, fun t u t0 tu u3 => ?_⟩, (by decide : (0 : Int) ≤ 0 ∧ (0 : Int) ≤ 80000)⟩
  · have z := pn _ (pr0_p t)
    exact ⟨pr0_p t, TCp.of (PG.nil z.1 z.2) (by show (m0 g3 g4 g8 g27 g113 g114 g166).1 (pr0 t) 1 ≤ 8000; rw [z.1]; decide)⟩
  · rcases hp with rfl | rfl | rfl | rfl | rfl <;> exact (by decide : ((0 : Int) ≤ 0 ∧ (0 : Int) ≤ 1000) ∧ (0 : Int) ≤ 0 ∧ (0 : Int) ≤ 100000)
  · refine ⟨pr0_p t, ?_⟩
    show pr0 t ≠ 13
    unfold pr0
    split
    · decide
    · split
      · decide
      · split <;> decide
  · show pr0 t ≠ pr0 u
    unfold pr0
    repeat' split
    all_goals omega
theorem m0_CIr (h114 : ∀ k : Int, 1 ≤ k → k < 12 → (g114 k.toNat).toInt = if k ≤ 7 then 11 else if k = 10 then -1 else 10) (h166 : ∀ j : Int, 0 ≤ j → j < 16 → (g166 j.toNat).toInt = 9) : CIr (m0 g3 g4 g8 g27 g113 g114 g166) := by
  have np : NPr (m0 g3 g4 g8 g27 g113 g114 g166) 114 12 := by
    refine ⟨fun k => if k = 10 then 0 else if 8 ≤ k then 1 else 2, fun k k1 k2 => ?_⟩
    have e : (m0 g3 g4 g8 g27 g113 g114 g166).1 114 k = _ := h114 k k1 k2
    rw [e]
    by_cases h7 : k ≤ 7
    · rw [if_pos h7]
      refine Or.inr ⟨by decide, by decide, ?_⟩
      show (if (11 : Int) = 10 then 0 else if (8 : Int) ≤ 11 then 1 else 2) < (if k = 10 then 0 else if 8 ≤ k then 1 else 2)
      rw [if_neg (show ¬ k = 10 by omega), if_neg (show ¬ 8 ≤ k by omega)]; decide
    · rw [if_neg h7]
      by_cases h10 : k = 10
      · rw [if_pos h10]; exact Or.inl rfl
      · rw [if_neg h10]
        refine Or.inr ⟨by decide, by decide, ?_⟩
        show (if (10 : Int) = 10 then 0 else if (8 : Int) ≤ 10 then 1 else 2) < (if k = 10 then 0 else if 8 ≤ k then 1 else 2)
        rw [if_neg h10, if_pos (show 8 ≤ k by omega)]; decide
  have mp : mPR (m0 g3 g4 g8 g27 g113 g114 g166) := fun u u0 u3 => ⟨(by decide : (0 : Int) ≤ 0 ∧ (0 : Int) ≤ 40), fun k k0 k1 => absurd (show k < 0 from k1) (by omega)⟩
  have ha : HA (m0 g3 g4 g8 g27 g113 g114 g166) := ⟨(by decide : (0 : Int) ≤ 0 ∧ (0 : Int) ≤ 0 ∧ (0 : Int) + 0 = 0 ∧ (0 : Int) ≤ 20000), fun a a0 a1 => absurd (show a < 0 from a1) (by omega), fun a a0 a1 => absurd (show a < 0 from a1) (by omega)⟩
  have hf : HF (m0 g3 g4 g8 g27 g113 g114 g166) := ⟨(by decide : (0 : Int) ≤ 0 ∧ (0 : Int) ≤ 0 ∧ (0 : Int) ≤ 5000 ∧ (0 : Int) ≤ 0 ∧ (0 : Int) ≤ 2 * 0), fun a a0 a1 => absurd (show a < 0 from a1) (by omega), fun a a0 a1 => absurd (show a < 0 from a1) (by omega), fun a a0 a1 => absurd (show a < 0 from a1) (by omega)⟩
  have he : EN (m0 g3 g4 g8 g27 g113 g114 g166) := by
    refine ⟨(by decide : (0 : Int) ≤ 0 ∧ (0 : Int) ≤ 100), fun k t u k0 k1 => absurd (show k < 0 from k1) (by omega), fun t u t0 t3 u0 u3 _ => ?_⟩
    show 1 ≤ (g166 (4 * t + u).toNat).toInt ∧ (g166 (4 * t + u).toNat).toInt < 12
    rw [h166 _ (by omega) (by omega)]
    decide
  have nm : NMs (m0 g3 g4 g8 g27 g113 g114 g166) := ⟨(by decide : (12 : Int) ≤ 12 ∧ (12 : Int) ≤ 52), np⟩
  exact ⟨⟨nm.1, np, (by decide : (0 : Int) ≤ 0 ∧ (0 : Int) ≤ 300), (by decide : (-1 : Int) ≤ 0 ∧ (0 : Int) ≤ 32), (by decide : (0 : Int) ≤ 0 ∧ (0 : Int) ≤ 3000), mp⟩, nm, mp, ha, hf, he, ⟨VV.n0, Or.inl rfl⟩, (by decide : (0 : Int) ≤ 0 ∧ (0 : Int) ≤ 80000)⟩
end START
