/-! the machine's states -/
def cN (μ : M3) : Nat → Int
  | 0 => 0
  | n + 1 => cN μ n + (if μ.1 137 (n : Int) = 2 then 0 else 1)
def cB (μ : M3) (bl : Int) : Int := cN μ bl.toNat
theorem cB_s {μ : M3} {b : Int} (h : 0 ≤ b) : cB μ (b + 1) = cB μ b + (if μ.1 137 b = 2 then 0 else 1) := by
  unfold cB
  rw [toN h]
  show cN μ b.toNat + (if μ.1 137 ((b.toNat : Nat) : Int) = 2 then 0 else 1) = _
  rw [Int.toNat_of_nonneg h]
theorem cN_up {μ : M3} : ∀ (k n : Nat), cN μ n ≤ cN μ (n + k) ∧ cN μ (n + k) ≤ cN μ n + k
  | 0, n => ⟨Int.le_refl _, by rw [Nat.add_zero]; omega⟩
  | k + 1, n => by
    have ih := cN_up (μ := μ) k n
    have e : cN μ (n + (k + 1)) = cN μ (n + k) + (if μ.1 137 ((n + k : Nat) : Int) = 2 then 0 else 1) := rfl
    rw [e]
    split <;> omega
theorem cB_le {μ : M3} {a b : Int} (h : a ≤ b) : cB μ a ≤ cB μ b ∧ 0 ≤ cB μ a := by
  unfold cB
  have q := (cN_up (μ := μ) (b.toNat - a.toNat) a.toNat).1
  have q2 := (cN_up (μ := μ) a.toNat 0).1
  rw [show a.toNat + (b.toNat - a.toNat) = b.toNat by omega] at q
  rw [Nat.zero_add] at q2
  exact ⟨q, q2⟩
theorem cB_r {μ : M3} {b : Int} (h : 0 ≤ b) : 0 ≤ cB μ b ∧ cB μ b ≤ b := by
  unfold cB
  have q := cN_up (μ := μ) b.toNat 0
  rw [Nat.zero_add] at q
  have e : cN μ 0 = 0 := rfl
  omega
theorem cB_eq {μ ν : M3} {b : Int} (e : ∀ j, j < b → ν.1 137 j = μ.1 137 j) : cB ν b = cB μ b := by
  unfold cB
  have key : ∀ n : Nat, (n : Int) ≤ b → cN ν n = cN μ n := by
    intro n
    induction n with
    | zero => intro _; rfl
    | succ n ih =>
      intro hn
      show cN ν n + (if ν.1 137 (n : Int) = 2 then 0 else 1) = cN μ n + (if μ.1 137 (n : Int) = 2 then 0 else 1)
      rw [ih (by omega), e _ (by omega)]
  by_cases h : 0 ≤ b
  · exact key _ (by omega)
  · rw [show b.toNat = 0 by omega]; rfl
def RX (μ : M3) : Int := 200000 * (5000 - μ.1 111 83) + 20000 * μ.1 111 47 + 9001 * cB μ (μ.1 111 61)
def bj (μ : M3) (b pc : Int) : Int := if cdm μ b pc 0 = 8 ∧ cdm μ b pc 1 ≤ pc then 1 else 0
def RKa (μ : M3) (i pc : Int) : Int := 10000 * (2 * fC μ i pc + bj μ (9000 * μ.1 127 i) pc) + 9000 - pc
def RK (μ : M3) : Int := RX μ + RKa μ (μ.1 111 47 - 1) (μ.1 129 (μ.1 111 47 - 1))
def A1 (μ : M3) : Prop := TP μ (μ.1 111 47 - 1) (μ.1 129 (μ.1 111 47 - 1)) (μ.1 111 53 + 1) (μ.1 111 61) ∧ fC μ (μ.1 111 47 - 1) (μ.1 129 (μ.1 111 47 - 1)) = 0
def A0 (μ : M3) : Prop := TP μ (μ.1 111 47 - 1) (μ.1 129 (μ.1 111 47 - 1)) (μ.1 111 53) (μ.1 111 61) ∧ μ.1 111 81 + μ.1 111 61 + fC μ (μ.1 111 47 - 1) (μ.1 129 (μ.1 111 47 - 1)) ≤ 2 * μ.1 111 83
/-- what a part of a step leaves behind: SPENT or ended; or at rest at some place, r at most to go -/
def RES (μ : M3) (r : Int) : Prop := MZ μ ∧ (μ.1 111 94 = 1 ∨ (μ.1 111 94 = 0 ∧ 1 ≤ μ.1 111 47 ∧ A0 μ ∧ RK μ ≤ r))
theorem RES.le {μ : M3} {r r2 : Int} (h : RES μ r) (hr : r ≤ r2) : RES μ r2 := ⟨h.1, h.2.imp id (fun q => ⟨q.1, q.2.1, q.2.2.1, Int.le_trans q.2.2.2 hr⟩)⟩
theorem RES.ov {μ : M3} {r : Int} (h : MZ μ) (h9 : μ.1 111 94 = 1) : RES μ r := ⟨h, Or.inl h9⟩
theorem bj_0 {μ : M3} {i pc S bl : Int} (h : TP μ i pc S bl) (hc : fC μ i pc = 0) : bj μ (9000 * μ.1 127 i) pc = 0 := by
  obtain ⟨B, h1, h2, -⟩ := h
  unfold bj
  by_cases e : cdm μ (9000 * μ.1 127 i) pc 0 = 8 ∧ cdm μ (9000 * μ.1 127 i) pc 1 ≤ pc
  · exfalso
    have q := (h1.2.1 pc h2.1 h2.2).1
    obtain ⟨r1, r3, r4, r5, r7, r8, -⟩ := q
    rcases (r8 e.1).1 with z | z
    · omega
    · have : 1 ≤ fC μ i pc := z.2.2.1
      omega
  · rw [if_neg e]
theorem TP.pc {μ : M3} {i pc S bl : Int} (h : TP μ i pc S bl) : 0 ≤ pc ∧ pc ≤ 8989 := by
  obtain ⟨B, h1, h2, -⟩ := h
  have q : 0 ≤ fA μ i ∧ fA μ i ≤ B ∧ B ≤ 8989 := h1.1
  omega
theorem TP.rk {μ : M3} {i pc S bl : Int} (h : TP μ i pc S bl) : 0 ≤ RKa μ i pc ∧ RKa μ i pc ≤ 59000 ∧ (fC μ i pc = 0 → RKa μ i pc = 9000 - pc) := by
  have q := h.pc
  have c : 0 ≤ fC μ i pc ∧ fC μ i pc ≤ 2 := mc_r
  unfold RKa
  refine ⟨?_, ?_, fun z => ?_⟩
  · unfold bj; split <;> omega
  · unfold bj; split <;> omega
  · rw [bj_0 h z]; omega
theorem RKa.mv {μ ν : M3} {i pc : Int} (c : Cs μ ν) (e27 : ν.1 127 i = μ.1 127 i) (e28 : ν.1 128 i = μ.1 128 i) : RKa ν i pc = RKa μ i pc := by
  have q := frm c e27 e28
  unfold RKa bj
  rw [q.2.2.1, c.cd, e27]
theorem LD.tp0 {μ : M3} {i k x : Int} (h : LD μ i k x 0) : TP μ i x (μ.1 131 i) k ∧ fC μ i x = 0 := by
  obtain ⟨B, h1, h2, h3, h4, h5, h6, h7⟩ := h
  exact ⟨⟨B, h1, h2, by omega, by omega, fun j j0 j1 => (h7 j j0 (by omega)).symm⟩, h4⟩
theorem LD.tp1 {μ : M3} {i k x : Int} (h : LD μ i k x 1) (hk : μ.1 137 k = 2) : TP μ i x (μ.1 131 i) (k + 1) ∧ fC μ i x = 0 := by
  obtain ⟨B, h1, h2, h3, h4, h5, h6, h7⟩ := h
  refine ⟨⟨B, h1, h2, by omega, by omega, fun j j0 j1 => ?_⟩, h4⟩
  by_cases e : j = k - μ.1 132 i
  · rw [e, h6 rfl, show μ.1 132 i + (k - μ.1 132 i) = k by omega]; exact hk
  · exact (h7 j j0 (by omega)).symm
theorem MZ.n {μ : M3} (h : MZ μ) : (0 ≤ μ.1 111 47 ∧ μ.1 111 47 ≤ 24) ∧ (0 ≤ FB μ (μ.1 111 47) ∧ FB μ (μ.1 111 47) ≤ μ.1 111 61 ∧ μ.1 111 61 ≤ 400) ∧ (0 ≤ FL μ (μ.1 111 47) ∧ FL μ (μ.1 111 47) ≤ μ.1 111 53 ∧ μ.1 111 53 ≤ 8000) ∧ (0 ≤ μ.1 111 81 ∧ μ.1 111 81 + μ.1 111 61 ≤ 2 * μ.1 111 83) ∧ (0 ≤ μ.1 111 82 ∧ μ.1 111 82 ≤ μ.1 111 83 ∧ μ.1 111 83 ≤ 5000) ∧ (0 ≤ μ.1 111 84 ∧ μ.1 111 84 ≤ 80000) ∧ (0 ≤ μ.1 111 65 ∧ 0 ≤ μ.1 111 68 ∧ μ.1 111 65 + μ.1 111 68 = μ.1 111 69 ∧ μ.1 111 69 ≤ 20000) ∧ (12 ≤ μ.1 111 4 ∧ μ.1 111 4 ≤ 52) ∧ (0 ≤ μ.1 111 104 ∧ μ.1 111 104 ≤ 100) := by
  obtain ⟨⟨b1, b2, b3, b4, b5, b6, b7⟩, h2, h3, h4, h5, h6, h7, h8, h9⟩ := h
  have q : 0 ≤ FB μ (μ.1 111 47) ∧ 0 ≤ FL μ (μ.1 111 47) := by
    unfold FB FL
    by_cases e : μ.1 111 47 = 0
    · rw [if_pos e, if_pos e]; decide
    · rw [if_neg e, if_neg e]
      obtain ⟨-, -, t1, t2⟩ := (h3 (μ.1 111 47 - 1) (by omega) (by omega)).1
      exact ⟨t2.1, t1.1⟩
  have s := b4.1
  exact ⟨h2, ⟨q.1, h4⟩, ⟨q.2, h8⟩, ⟨by omega, h5⟩, ⟨s.1, s.2.1, s.2.2.1⟩, b7, b3.1, b1.1, b5.1⟩
theorem MZ.mn1 {μ : M3} {n s x : Int} (h : MZ μ) (en : μ.1 111 47 = n) (es : μ.1 131 (n - 1) = s) (h1 : 1 ≤ n) (hx : s ≤ x ∧ x ≤ μ.1 111 53) : MZ (sv μ 111 53 x) := h.mn (by rw [en, FL_1 h1, es]; exact hx)
theorem MZ.bl1 {μ : M3} {n s x : Int} (h : MZ μ) (en : μ.1 111 47 = n) (es : μ.1 132 (n - 1) = s) (h1 : 1 ≤ n) (hx : s ≤ x ∧ x ≤ μ.1 111 61) : MZ (sv μ 111 61 x) := h.bl (by rw [en, FB_1 h1, es]; exact hx)
/-- a call that leaves all alone -/
theorem MZ.cg {L : List Int} {μ ν : M3} (h : MZ μ) (F : FrM L μ ν) (hL : ((129 :: [114, 115, 116, 117, 119, 120, 121, 122, 127, 128, 131, 132, 133, 134, 135, 136, 137, 138, 140, 141, 142, 143, 144, 145, 146, 147, 148, 149, 150, 151, 152, 156, 157, 158, 159, 163, 165, 166] : List Int).all fun a => !L.contains a) = true) (E : Eqf [4, 47, 53, 61, 65, 68, 69, 81, 82, 83, 84, 95, 96, 97, 104] μ ν) : MZ ν := by
  have s := h.st
  exact h.sp (Eqa.fr F hL) (fun j hj => E j ((by decide : ∀ j ∈ (47 :: 53 :: 61 :: [4, 65, 68, 69, 81, 82, 95, 96, 97, 104] : List Int), j ∈ ([4, 47, 53, 61, 65, 68, 69, 81, 82, 83, 84, 95, 96, 97, 104] : List Int)) j hj)) (by rw [E 83 (by decide), E 84 (by decide)]; omega)
/-- a VALUE more -/
theorem MZ.ps {μ ν : M3} (h : MZ μ) (A : Eqa [129, 114, 115, 116, 117, 119, 120, 121, 122, 127, 128, 131, 132, 133, 134, 137, 138, 140, 141, 142, 143, 144, 145, 146, 147, 148, 149, 150, 151, 152, 156, 157, 158, 159, 163, 165, 166] μ ν) (F : Eqf [47, 61, 83, 84, 4, 65, 68, 69, 81, 82, 95, 96, 97, 104] μ ν) (e53 : ν.1 111 53 = μ.1 111 53 + 1) (hm : μ.1 111 53 < 8000) (e35 : ∀ j, j ≠ μ.1 111 53 → ν.1 135 j = μ.1 135 j) (e36 : ∀ j, j ≠ μ.1 111 53 → ν.1 136 j = μ.1 136 j) (hv : vv μ (ν.1 135 (μ.1 111 53)) (ν.1 136 (μ.1 111 53))) : MZ ν := by
  obtain ⟨h1, h2, h3, h4, h5, h6, h7, h8, h9⟩ := h
  have c : Cs μ ν := A.cs (by decide) (F 4 (by decide))
  have u : up2 μ ν := up2.eq (F 65 (by decide)) (F 82 (by decide))
  unfold MZ
  rw [F 47 (by decide), F 61 (by decide), e53]
  refine ⟨h1.mv (A.sb (by decide)) (fun j hj => F j ((by decide : ∀ j ∈ ([4, 65, 68, 69, 81, 82, 95, 96, 97, 104] : List Int), j ∈ ([47, 61, 83, 84, 4, 65, 68, 69, 81, 82, 95, 96, 97, 104] : List Int)) j hj)) ?_, h2, h3.mv h4.1 c (Int.le_refl _) (fun _ => ?_) (fun j _ => A 127 (by decide) j) (fun j _ => A 128 (by decide) j) (fun j _ => A 129 (by decide) j) (fun j _ => A 131 (by decide) j) (fun j _ => A 132 (by decide) j) (fun j _ => A 137 (by decide) j) (fun j _ => A 138 (by decide) j) (fun j _ => A 140 (by decide) j) (fun j _ => A 141 (by decide) j) (fun j _ => A 143 (by decide) j) u.2 (fun j _ _ => A 149 (by decide) j), ⟨?_, h4.2⟩, ?_, h6.mv (Int.le_refl _) c u (fun j _ => A 127 (by decide) j) (fun j _ => A 128 (by decide) j) (fun j _ => A 133 (by decide) j) (fun j _ => A 134 (by decide) j), h7.mv (Int.le_refl _) u (fun j _ => A 137 (by decide) j) (fun j _ => A 141 (by decide) j) (fun j _ => A 142 (by decide) j) (fun j _ => A 143 (by decide) j), ⟨?_, by omega⟩, h9.push u (VV.u hv u) e35 e36⟩
  · have s1 := h1.2.2.2.1.1
    have s2 := h1.2.2.2.2.2.2
    rw [F 83 (by decide), F 84 (by decide)]; omega
  · unfold nb
    rw [if_neg (by omega)]; exact Int.le_refl _
  · rw [FB.eq (fun j _ => A 132 (by decide) j)]; exact h4.1
  · rw [F 81 (by decide), F 83 (by decide)]; omega
  · rw [FL.eq (fun j _ => A 131 (by decide) j)]; omega
/-- a variable of the frame at hand -/
theorem MZ.pt {μ ν : M3} {x : Int} (h : MZ μ) (A : Eqa [129, 114, 115, 116, 117, 119, 120, 121, 122, 127, 128, 131, 132, 135, 136, 137, 138, 140, 141, 142, 143, 144, 145, 146, 147, 148, 149, 150, 151, 152, 156, 157, 158, 159, 163, 165, 166] μ ν) (F : Eqf [4, 47, 53, 61, 65, 68, 69, 81, 82, 83, 84, 95, 96, 97, 104] μ ν) (hx : 0 ≤ x ∧ x < 320) (e33 : ∀ j, j ≠ 320 * (μ.1 111 47 - 1) + x → ν.1 133 j = μ.1 133 j) (e34 : ∀ j, j ≠ 320 * (μ.1 111 47 - 1) + x → ν.1 134 j = μ.1 134 j) (hv : vv μ (ν.1 133 (320 * (μ.1 111 47 - 1) + x)) (ν.1 134 (320 * (μ.1 111 47 - 1) + x))) : MZ ν := by
  obtain ⟨h1, h2, h3, h4, h5, h6, h7, h8, h9⟩ := h
  have c : Cs μ ν := A.cs (by decide) (F 4 (by decide))
  have u : up2 μ ν := up2.eq (F 65 (by decide)) (F 82 (by decide))
  unfold MZ
  rw [F 47 (by decide), F 61 (by decide), F 53 (by decide)]
  refine ⟨h1.mv (A.sb (by decide)) (fun j hj => F j ((by decide : ∀ j ∈ ([4, 65, 68, 69, 81, 82, 95, 96, 97, 104] : List Int), j ∈ ([4, 47, 53, 61, 65, 68, 69, 81, 82, 83, 84, 95, 96, 97, 104] : List Int)) j hj)) ?_, h2, h3.mv h4.1 c (Int.le_refl _) (fun _ => ?_) (fun j _ => A 127 (by decide) j) (fun j _ => A 128 (by decide) j) (fun j _ => A 129 (by decide) j) (fun j _ => A 131 (by decide) j) (fun j _ => A 132 (by decide) j) (fun j _ => A 137 (by decide) j) (fun j _ => A 138 (by decide) j) (fun j _ => A 140 (by decide) j) (fun j _ => A 141 (by decide) j) (fun j _ => A 143 (by decide) j) u.2 (fun j _ _ => A 149 (by decide) j), ⟨?_, h4.2⟩, ?_, fun i v i0 i1 v0 v1 v2 => ?_, h7.mv (Int.le_refl _) u (fun j _ => A 137 (by decide) j) (fun j _ => A 141 (by decide) j) (fun j _ => A 142 (by decide) j) (fun j _ => A 143 (by decide) j), ⟨?_, h8.2⟩, h9.mv u (Int.le_refl _) (fun j _ _ => A 135 (by decide) j) (fun j _ _ => A 136 (by decide) j)⟩
  · have s1 := h1.2.2.2.1.1
    have s2 := h1.2.2.2.2.2.2
    rw [F 83 (by decide), F 84 (by decide)]; omega
  · unfold nb
    rw [if_neg (by omega)]; exact Int.le_refl _
  · rw [FB.eq (fun j _ => A 132 (by decide) j)]; exact h4.1
  · rw [F 81 (by decide), F 83 (by decide)]; omega
  · rw [(frm c (A 127 (by decide) i) (A 128 (by decide) i)).1.2] at v1
    by_cases e : 320 * i + v = 320 * (μ.1 111 47 - 1) + x
    · rw [e]; exact VV.u hv u
    · rw [e33 _ e, e34 _ e]; exact VV.u (h6 i v i0 i1 v0 v1 v2) u
  · rw [FL.eq (fun j _ => A 131 (by decide) j)]; exact h8.1
/-- a FAILURE more -/
theorem MZ.nf {μ ν : M3} (h : MZ μ) (A : Eqa [129, 114, 115, 116, 117, 119, 120, 121, 122, 127, 128, 131, 132, 133, 134, 135, 136, 137, 138, 140, 141, 142, 143, 144, 145, 146, 147, 148, 158, 159, 163, 165, 166] μ ν) (F : Eqf [4, 47, 53, 61, 65, 68, 69, 81, 83, 84, 95, 96, 97, 104] μ ν) (e82 : ν.1 111 82 = μ.1 111 82 + 1) (hs : μ.1 111 82 < μ.1 111 83) (E : ∀ a, a ∈ ([149, 150, 151, 152, 156, 157] : List Int) → ∀ j, j ≠ μ.1 111 82 → ν.1 a j = μ.1 a j) (n1 : 0 ≤ ν.1 149 (μ.1 111 82) ∧ ν.1 149 (μ.1 111 82) ≤ 3) (n2 : ν.1 149 (μ.1 111 82) = 0 → 1 ≤ ν.1 150 (μ.1 111 82) ∧ ν.1 150 (μ.1 111 82) < μ.1 111 4) (n3 : -1 ≤ ν.1 156 (μ.1 111 82) ∧ ν.1 156 (μ.1 111 82) < μ.1 111 82) (n4 : -1 ≤ ν.1 157 (μ.1 111 82) ∧ ν.1 157 (μ.1 111 82) < μ.1 111 81) (hv : vv μ (ν.1 151 (μ.1 111 82)) (ν.1 152 (μ.1 111 82))) : MZ ν := by
  obtain ⟨h1, h2, h3, h4, h5, h6, h7, h8, h9⟩ := h
  have c : Cs μ ν := A.cs (by decide) (F 4 (by decide))
  have u : up2 μ ν := ⟨by rw [F 65 (by decide)]; exact Int.le_refl _, by omega⟩
  unfold MZ
  rw [F 47 (by decide), F 61 (by decide), F 53 (by decide)]
  obtain ⟨b1, b2, b3, b4, b5, b6, b7⟩ := h1
  refine ⟨⟨b1.cs c, b2.cs c, ⟨?_, ?_, ?_⟩, ⟨?_, ?_, ?_, ?_⟩, ?_, ⟨?_, ?_⟩, ?_⟩, h2, h3.mv h4.1 c (Int.le_refl _) (fun _ => ?_) (fun j _ => A 127 (by decide) j) (fun j _ => A 128 (by decide) j) (fun j _ => A 129 (by decide) j) (fun j _ => A 131 (by decide) j) (fun j _ => A 132 (by decide) j) (fun j _ => A 137 (by decide) j) (fun j _ => A 138 (by decide) j) (fun j _ => A 140 (by decide) j) (fun j _ => A 141 (by decide) j) (fun j _ => A 143 (by decide) j) u.2 (fun j _ hj => E 149 (by decide) j (by omega)), ⟨?_, h4.2⟩, ?_, h6.mv (Int.le_refl _) c u (fun j _ => A 127 (by decide) j) (fun j _ => A 128 (by decide) j) (fun j _ => A 133 (by decide) j) (fun j _ => A 134 (by decide) j), h7.mv (Int.le_refl _) u (fun j _ => A 137 (by decide) j) (fun j _ => A 141 (by decide) j) (fun j _ => A 142 (by decide) j) (fun j _ => A 143 (by decide) j), ⟨?_, h8.2⟩, h9.mv u (Int.le_refl _) (fun j _ _ => A 135 (by decide) j) (fun j _ _ => A 136 (by decide) j)⟩
  · rw [F 65 (by decide), F 68 (by decide), F 69 (by decide)]; exact b3.1
  · intro x x0 x1
    rw [F 65 (by decide)] at x1
    rw [A 144 (by decide), A 145 (by decide), A 146 (by decide), F 68 (by decide)]
    exact b3.2.1 x x0 x1
  · exact b3.2.2.mv u (by rw [F 68 (by decide)]; exact Int.le_refl _) (fun j _ _ => A 147 (by decide) j) (fun j _ _ => A 148 (by decide) j)
  · rw [e82, F 83 (by decide), F 81 (by decide)]
    have := b4.1
    omega
  · intro g g0 g1
    rw [F 4 (by decide), F 81 (by decide)]
    by_cases e : g = μ.1 111 82
    · rw [e]; exact ⟨n1, n2, n3, n4⟩
    · rw [E 149 (by decide) g e, E 150 (by decide) g e, E 156 (by decide) g e, E 157 (by decide) g e]
      exact b4.2.1 g g0 (by omega)
  · rw [e82]; exact b4.2.2.1.push u (VV.u hv u) (E 151 (by decide)) (E 152 (by decide))
  · intro j j0 j1
    rw [F 81 (by decide)] at j1
    rw [A 158 (by decide), A 159 (by decide)]
    have := b4.2.2.2 j j0 j1
    omega
  · unfold EN
    rw [F 104 (by decide), F 4 (by decide)]
    refine ⟨b5.1, fun k t u k0 k1 e => ?_, fun t u => ?_⟩
    · rw [A 163 (by decide)] at e
      rw [A 165 (by decide)]
      exact b5.2.1 k t u k0 k1 e
    · rw [A 166 (by decide)]
      exact b5.2.2 t u
  · rw [F 95 (by decide), F 96 (by decide)]; exact VV.u b6.1 u
  · rw [F 97 (by decide)]; have := b6.2; omega
  · rw [F 84 (by decide)]; exact b7
  · unfold nb
    rw [if_neg (by omega)]; exact Int.le_refl _
  · rw [FB.eq (fun j _ => A 132 (by decide) j)]; exact h4.1
  · rw [F 81 (by decide), F 83 (by decide)]; omega
  · rw [FL.eq (fun j _ => A 131 (by decide) j)]; exact h8.1
/-- one more that lies under a FAILURE -/
theorem MZ.ly {μ ν : M3} {g : Int} (h : MZ μ) (A : Eqa [129, 114, 115, 116, 117, 119, 120, 121, 122, 127, 128, 131, 132, 133, 134, 135, 136, 137, 138, 140, 141, 142, 143, 144, 145, 146, 147, 148, 149, 150, 151, 152, 156, 163, 165, 166] μ ν) (F : Eqf [4, 47, 53, 61, 65, 68, 69, 82, 83, 84, 95, 96, 97, 104] μ ν) (e81 : ν.1 111 81 = μ.1 111 81 + 1) (hs : μ.1 111 81 + 1 + μ.1 111 61 ≤ 2 * μ.1 111 83) (E : ∀ a, a ∈ ([158, 159] : List Int) → ∀ j, j ≠ μ.1 111 81 → ν.1 a j = μ.1 a j) (e57 : ∀ j, j ≠ g → ν.1 157 j = μ.1 157 j) (n1 : ν.1 157 g = μ.1 111 81) (n2 : 0 ≤ ν.1 158 (μ.1 111 81) ∧ ν.1 158 (μ.1 111 81) < μ.1 111 82) (n3 : -1 ≤ ν.1 159 (μ.1 111 81) ∧ ν.1 159 (μ.1 111 81) < μ.1 111 81) : MZ ν := by
  have hn := h.n
  obtain ⟨h1, h2, h3, h4, h5, h6, h7, h8, h9⟩ := h
  have c : Cs μ ν := A.cs (by decide) (F 4 (by decide))
  have u : up2 μ ν := up2.eq (F 65 (by decide)) (F 82 (by decide))
  unfold MZ
  rw [F 47 (by decide), F 61 (by decide), F 53 (by decide)]
  obtain ⟨b1, b2, b3, b4, b5, b6, b7⟩ := h1
  have s1 := b4.1
  refine ⟨⟨b1.cs c, b2.cs c, ⟨?_, ?_, ?_⟩, ⟨?_, ?_, ?_, ?_⟩, ?_, ⟨?_, ?_⟩, ?_⟩, h2, h3.mv h4.1 c (Int.le_refl _) (fun _ => ?_) (fun j _ => A 127 (by decide) j) (fun j _ => A 128 (by decide) j) (fun j _ => A 129 (by decide) j) (fun j _ => A 131 (by decide) j) (fun j _ => A 132 (by decide) j) (fun j _ => A 137 (by decide) j) (fun j _ => A 138 (by decide) j) (fun j _ => A 140 (by decide) j) (fun j _ => A 141 (by decide) j) (fun j _ => A 143 (by decide) j) u.2 (fun j _ _ => A 149 (by decide) j), ⟨?_, h4.2⟩, ?_, h6.mv (Int.le_refl _) c u (fun j _ => A 127 (by decide) j) (fun j _ => A 128 (by decide) j) (fun j _ => A 133 (by decide) j) (fun j _ => A 134 (by decide) j), h7.mv (Int.le_refl _) u (fun j _ => A 137 (by decide) j) (fun j _ => A 141 (by decide) j) (fun j _ => A 142 (by decide) j) (fun j _ => A 143 (by decide) j), ⟨?_, h8.2⟩, h9.mv u (Int.le_refl _) (fun j _ _ => A 135 (by decide) j) (fun j _ _ => A 136 (by decide) j)⟩
  · rw [F 65 (by decide), F 68 (by decide), F 69 (by decide)]; exact b3.1
  · intro x x0 x1
    rw [F 65 (by decide)] at x1
    rw [A 144 (by decide), A 145 (by decide), A 146 (by decide), F 68 (by decide)]
    exact b3.2.1 x x0 x1
  · exact b3.2.2.mv u (by rw [F 68 (by decide)]; exact Int.le_refl _) (fun j _ _ => A 147 (by decide) j) (fun j _ _ => A 148 (by decide) j)
  · rw [F 82 (by decide), F 83 (by decide), e81]
    omega
  · intro x x0 x1
    rw [F 82 (by decide)] at x1
    rw [A 149 (by decide), A 150 (by decide), A 156 (by decide), F 4 (by decide), e81]
    have q := b4.2.1 x x0 x1
    refine ⟨q.1, q.2.1, q.2.2.1, ?_⟩
    by_cases e : x = g
    · rw [e, n1]; omega
    · rw [e57 x e]; omega
  · exact b4.2.2.1.mv u (by rw [F 82 (by decide)]; exact Int.le_refl _) (fun j _ _ => A 151 (by decide) j) (fun j _ _ => A 152 (by decide) j)
  · intro j j0 j1
    rw [F 82 (by decide)]
    by_cases e : j = μ.1 111 81
    · rw [e]; exact ⟨n2, n3⟩
    · rw [E 158 (by decide) j e, E 159 (by decide) j e]
      exact b4.2.2.2 j j0 (by omega)
  · unfold EN
    rw [F 104 (by decide), F 4 (by decide)]
    refine ⟨b5.1, fun k t u k0 k1 e => ?_, fun t u => ?_⟩
    · rw [A 163 (by decide)] at e
      rw [A 165 (by decide)]
      exact b5.2.1 k t u k0 k1 e
    · rw [A 166 (by decide)]
      exact b5.2.2 t u
  · rw [F 95 (by decide), F 96 (by decide)]; exact VV.u b6.1 u
  · rw [F 97 (by decide), F 82 (by decide)]; exact b6.2
  · rw [F 84 (by decide)]; exact b7
  · unfold nb
    rw [if_neg (by omega)]; exact Int.le_refl _
  · rw [FB.eq (fun j _ => A 132 (by decide) j)]; exact h4.1
  · rw [e81, F 83 (by decide)]; omega
  · rw [FL.eq (fun j _ => A 131 (by decide) j)]; exact h8.1
/-- the frame at hand is left -/
theorem MZ.lv {μ ν : M3} (h : MZ μ) (h1 : 1 ≤ μ.1 111 47) (A : Eqa (129 :: [114, 115, 116, 117, 119, 120, 121, 122, 127, 128, 131, 132, 133, 134, 135, 136, 137, 138, 140, 141, 142, 143, 144, 145, 146, 147, 148, 149, 150, 151, 152, 156, 157, 158, 159, 163, 165, 166]) μ ν) (F : Eqf [4, 65, 68, 69, 81, 82, 83, 84, 95, 96, 97, 104] μ ν) (e47 : ν.1 111 47 = μ.1 111 47 - 1) (e53 : ν.1 111 53 = μ.1 131 (μ.1 111 47 - 1)) (e61 : ν.1 111 61 = μ.1 132 (μ.1 111 47 - 1)) : MZ ν ∧ (2 ≤ μ.1 111 47 → A1 ν) ∧ RX ν ≤ RX μ - 20000 := by
  have c : Cs μ ν := A.cs (by decide) (F 4 (by decide))
  have u : up2 μ ν := up2.eq (F 65 (by decide)) (F 82 (by decide))
  obtain ⟨b1, b2, b3, b4, b5, b6, b7, b8, b9⟩ := h
  have f4 := b4.1
  have f8 := b8.1
  rw [FB_1 h1] at f4
  rw [FL_1 h1] at f8
  obtain ⟨-, -, t1, t2⟩ := (b3 (μ.1 111 47 - 1) (by omega) (by omega)).1
  refine ⟨?_, fun h2 => ?_, ?_⟩
  · unfold MZ
    rw [e47, e53, e61]
    refine ⟨b1.mv (A.sb (by decide)) (fun j hj => F j ((by decide : ∀ j ∈ ([4, 65, 68, 69, 81, 82, 95, 96, 97, 104] : List Int), j ∈ ([4, 65, 68, 69, 81, 82, 83, 84, 95, 96, 97, 104] : List Int)) j hj)) ?_, by omega, b3.mv b4.1 c (by omega) (fun h2 => ?_) (fun j _ => A 127 (by decide) j) (fun j _ => A 128 (by decide) j) (fun j _ => A 129 (by decide) j) (fun j _ => A 131 (by decide) j) (fun j _ => A 132 (by decide) j) (fun j _ => A 137 (by decide) j) (fun j _ => A 138 (by decide) j) (fun j _ => A 140 (by decide) j) (fun j _ => A 141 (by decide) j) (fun j _ => A 143 (by decide) j) u.2 (fun j _ _ => A 149 (by decide) j), ⟨?_, by omega⟩, ?_, b6.mv (by omega) c u (fun j _ => A 127 (by decide) j) (fun j _ => A 128 (by decide) j) (fun j _ => A 133 (by decide) j) (fun j _ => A 134 (by decide) j), b7.mv f4 u (fun j _ => A 137 (by decide) j) (fun j _ => A 141 (by decide) j) (fun j _ => A 142 (by decide) j) (fun j _ => A 143 (by decide) j), ⟨?_, by omega⟩, b9.mv u f8 (fun j _ _ => A 135 (by decide) j) (fun j _ _ => A 136 (by decide) j)⟩
    · have s1 := b1.2.2.2.1.1
      have s2 := b1.2.2.2.2.2.2
      rw [F 83 (by decide), F 84 (by decide)]; omega
    · unfold nb
      rw [if_pos (by omega), show μ.1 111 47 - 1 - 1 + 1 = μ.1 111 47 - 1 by omega]; exact Int.le_refl _
    · rw [FB.eq (fun j _ => A 132 (by decide) j)]
      unfold FB
      split
      · omega
      · exact (b3.le (by omega) (by omega) (by omega)).1
    · rw [F 81 (by decide), F 83 (by decide)]; omega
    · rw [FL.eq (fun j _ => A 131 (by decide) j)]
      unfold FL
      split
      · omega
      · exact (b3.le (by omega) (by omega) (by omega)).2
  · obtain ⟨g1, g2, -⟩ := (b3 (μ.1 111 47 - 1 - 1) (by omega) (by omega)).2.1 (by omega)
    rw [show μ.1 111 47 - 1 - 1 + 1 = μ.1 111 47 - 1 by omega] at g1
    unfold A1
    rw [e47, e53, e61, A 129 (by decide)]
    exact ⟨g1.mv c (A 127 (by decide) _) (A 128 (by decide) _) (A 131 (by decide) _) (A 132 (by decide) _) (fun j _ => A 137 (by decide) j), by rw [(frm c (A 127 (by decide) _) (A 128 (by decide) _)).2.2.1]; exact g2⟩
  · have q := (cB_le (μ := μ) f4).1
    unfold RX
    rw [e47, e61, F 83 (by decide), cB_eq (fun j _ => A 137 (by decide) j)]
    omega
/-- a block more -/
theorem MZ.bp {μ ν : M3} (h : MZ μ) (h1 : 1 ≤ μ.1 111 47) (A : Eqa [114, 115, 116, 117, 119, 120, 121, 122, 127, 128, 131, 132, 133, 134, 135, 136, 144, 145, 146, 147, 148, 149, 150, 151, 152, 156, 157, 158, 159, 163, 165, 166] μ ν) (F : Eqf [4, 47, 65, 68, 69, 81, 82, 83, 84, 95, 96, 97, 104] μ ν) (e29 : ∀ j, j + 1 < μ.1 111 47 → ν.1 129 j = μ.1 129 j) (e61 : ν.1 111 61 = μ.1 111 61 + 1) (hb : μ.1 111 61 < 400 ∧ μ.1 111 81 + μ.1 111 61 + 1 ≤ 2 * μ.1 111 83) (hm : FL μ (μ.1 111 47) ≤ ν.1 111 53 ∧ ν.1 111 53 ≤ μ.1 111 53) (E : ∀ a, a ∈ ([137, 138, 140, 141, 142, 143] : List Int) → ∀ j, j ≠ μ.1 111 61 → ν.1 a j = μ.1 a j) (hk : BK ν (μ.1 111 47 - 1) (μ.1 111 61)) (hp : ν.1 137 (μ.1 111 61) = 2 → (0 ≤ ν.1 141 (μ.1 111 61) ∧ ν.1 141 (μ.1 111 61) ≤ 2) ∧ (ν.1 141 (μ.1 111 61) = 1 → vv μ (ν.1 142 (μ.1 111 61)) (ν.1 143 (μ.1 111 61))) ∧ (ν.1 141 (μ.1 111 61) = 2 → 0 ≤ ν.1 143 (μ.1 111 61) ∧ ν.1 143 (μ.1 111 61) < μ.1 111 82)) : MZ ν := by
  have c : Cs μ ν := A.cs (by decide) (F 4 (by decide))
  have u : up2 μ ν := up2.eq (F 65 (by decide)) (F 82 (by decide))
  obtain ⟨b1, b2, b3, b4, b5, b6, b7, b8, b9⟩ := h
  have f4 := b4.1
  rw [FB_1 h1] at f4
  obtain ⟨-, -, t1, t2⟩ := (b3 (μ.1 111 47 - 1) (by omega) (by omega)).1
  unfold MZ
  rw [F 47 (by decide), e61]
  refine ⟨b1.mv (A.sb (by decide)) (fun j hj => F j ((by decide : ∀ j ∈ ([4, 65, 68, 69, 81, 82, 95, 96, 97, 104] : List Int), j ∈ ([4, 47, 65, 68, 69, 81, 82, 83, 84, 95, 96, 97, 104] : List Int)) j hj)) ?_, b2, fun i i0 i1 => ?_, ⟨?_, by omega⟩, ?_, b6.mv (Int.le_refl _) c u (fun j _ => A 127 (by decide) j) (fun j _ => A 128 (by decide) j) (fun j _ => A 133 (by decide) j) (fun j _ => A 134 (by decide) j), fun k k0 k1 => ?_, ⟨?_, by omega⟩, b9.mv u hm.2 (fun j _ _ => A 135 (by decide) j) (fun j _ _ => A 136 (by decide) j)⟩
  · have s1 := b1.2.2.2.1.1
    have s2 := b1.2.2.2.2.2.2
    rw [F 83 (by decide), F 84 (by decide)]; omega
  · have b3' : FRS ν (μ.1 111 47) (μ.1 111 61) := b3.mv b4.1 c (Int.le_refl _) (fun _ => by unfold nb; rw [if_neg (by omega)]; exact Int.le_refl _) (fun j _ => A 127 (by decide) j) (fun j _ => A 128 (by decide) j) e29 (fun j _ => A 131 (by decide) j) (fun j _ => A 132 (by decide) j) (fun j hj => E 137 (by decide) j (by omega)) (fun j hj => E 138 (by decide) j (by omega)) (fun j hj => E 140 (by decide) j (by omega)) (fun j hj => E 141 (by decide) j (by omega)) (fun j hj => E 143 (by decide) j (by omega)) u.2 (fun j _ _ => A 149 (by decide) j)
    obtain ⟨g1, g2, g3⟩ := b3' i i0 i1
    refine ⟨g1, g2, fun k k0 k1 => ?_⟩
    by_cases e : i + 1 < μ.1 111 47
    · refine g3 k k0 ?_
      unfold nb at k1 ⊢
      rw [if_pos e] at k1 ⊢
      exact k1
    · have e2 : i = μ.1 111 47 - 1 := by omega
      unfold nb at k1
      rw [if_neg e] at k1
      by_cases e3 : k = μ.1 111 61
      · rw [e2, e3]; exact hk
      · refine g3 k k0 ?_
        unfold nb
        rw [if_neg e]; omega
  · rw [FB.eq (fun j _ => A 132 (by decide) j), FB_1 h1]; omega
  · rw [F 81 (by decide), F 83 (by decide)]; omega
  · by_cases e : k = μ.1 111 61
    · intro z
      rw [e] at z ⊢
      obtain ⟨z1, z2, z3⟩ := hp z
      exact ⟨z1, fun y => VV.u (z2 y) u, fun y => by have := z3 y; have := u.2; omega⟩
    · rw [E 137 (by decide) k e, E 141 (by decide) k e, E 142 (by decide) k e, E 143 (by decide) k e]
      intro z
      obtain ⟨z1, z2, z3⟩ := b7 k k0 (by omega) z
      exact ⟨z1, fun y => VV.u (z2 y) u, fun y => by have := z3 y; have := u.2; omega⟩
  · rw [FL.eq (fun j _ => A 131 (by decide) j)]; exact hm.1
