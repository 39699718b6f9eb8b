/-! a step of the machine -/
def MI (μ : M3) (n i k : Int) : Prop := MZ μ ∧ (1 ≤ n ∧ n = μ.1 111 47) ∧ k = 9000 * μ.1 127 (n - 1) + i ∧ TP μ (n - 1) i (μ.1 111 53) (μ.1 111 61) ∧ μ.1 111 81 + μ.1 111 61 + fC μ (n - 1) i ≤ 2 * μ.1 111 83 ∧ μ.1 129 (n - 1) = i + 1 ∧ μ.1 111 94 = 0
def TQ (μ : M3) (d : Int) : Prop := TP μ (μ.1 111 47 - 1) (μ.1 129 (μ.1 111 47 - 1)) (μ.1 111 53 + d) (μ.1 111 61) ∧ fC μ (μ.1 111 47 - 1) (μ.1 129 (μ.1 111 47 - 1)) = 0
theorem TQ.a1 {μ ν : M3} {d : Int} (h : TQ μ d) (A : Eqa [114, 115, 116, 117, 119, 120, 121, 122, 127, 128, 129, 131, 132, 137] μ ν) (F : Eqf [4, 47, 61] μ ν) (e53 : ν.1 111 53 + 1 = μ.1 111 53 + d) : A1 ν := by
  unfold A1 TQ at *
  rw [F 47 (by decide), F 61 (by decide), A 129 (by decide), e53]
  exact ⟨h.1.mv2 (A.sb (by decide)) (F 4 (by decide)) rfl rfl, by rw [fC.mv (A.sb (by decide)) (F 4 (by decide))]; exact h.2⟩
theorem TQ.mv {μ ν : M3} {d d2 : Int} (h : TQ μ d) (A : Eqa [114, 115, 116, 117, 119, 120, 121, 122, 127, 128, 129, 131, 132, 137] μ ν) (F : Eqf [4, 47, 61] μ ν) (e53 : ν.1 111 53 + d2 = μ.1 111 53 + d) : TQ ν d2 := by
  unfold TQ at *
  rw [F 47 (by decide), F 61 (by decide), A 129 (by decide), e53]
  exact ⟨h.1.mv2 (A.sb (by decide)) (F 4 (by decide)) rfl rfl, by rw [fC.mv (A.sb (by decide)) (F 4 (by decide))]; exact h.2⟩
theorem TQ.n {μ : M3} {d : Int} (h : TQ μ d) (hM : MZ μ) (h1 : 1 ≤ μ.1 111 47) : μ.1 111 53 + d ≤ 2500 ∧ μ.1 131 (μ.1 111 47 - 1) ≤ μ.1 111 53 + d ∧ 0 ≤ μ.1 131 (μ.1 111 47 - 1) ∧ (0 ≤ μ.1 129 (μ.1 111 47 - 1) ∧ μ.1 129 (μ.1 111 47 - 1) ≤ 8989) := by
  have t := h.1.d0
  obtain ⟨-, -, t1, t2⟩ := (hM.2.2.1 (μ.1 111 47 - 1) (by omega) (by omega)).1
  have q := hM.2.1
  exact ⟨by omega, by omega, t1.1, h.1.pc⟩
theorem A1.tq {μ : M3} (h : A1 μ) : TQ μ 1 := h
/-- the VALUE that was awaited has come (its place is told) -/
theorem A1.rs {μ ν : M3} (h : A1 μ) (hM : MZ ν) (h1 : 1 ≤ μ.1 111 47) (A : Eqa [114, 115, 116, 117, 119, 120, 121, 122, 127, 128, 129, 131, 132, 137] μ ν) (F : Eqf [4, 47, 61] μ ν) (h94 : ν.1 111 94 = 0) (e83 : ν.1 111 83 = μ.1 111 83) (e53 : ν.1 111 53 = μ.1 111 53 + 1) : RES ν (RX μ + 9000 - μ.1 129 (μ.1 111 47 - 1)) := by
  obtain ⟨t, c⟩ := h
  have t2 : TP ν (μ.1 111 47 - 1) (μ.1 129 (μ.1 111 47 - 1)) (ν.1 111 53) (ν.1 111 61) := t.mv2 (A.sb (by decide)) (F 4 (by decide)) e53 (F 61 (by decide))
  have r := RES.at_ hM (F 47 (by decide)) h1 h94 (A 129 (by decide) _) t2 (by rw [fC.mv (A.sb (by decide)) (F 4 (by decide))]; exact c)
  rw [RX.eq (A.sb (by decide)) (fun k hk => F k ((by decide : ∀ j ∈ ([47, 61] : List Int), j ∈ ([4, 47, 61] : List Int)) k hk)), e83] at r
  exact r.le (by omega)
def RK0 (μ : M3) (n i : Int) : Int := RX μ + RKa μ (n - 1) i
theorem MI.k0 {μ : M3} {n i k : Int} (h : MI μ n i k) : RX μ + 9000 - i ≤ RK0 μ n i ∧ (0 ≤ i ∧ i ≤ 8989) := by
  have c : 0 ≤ fC μ (n - 1) i := mc_r.1
  have q := h.2.2.2.1.pc
  unfold RK0 RKa bj
  refine ⟨?_, q⟩
  split <;> omega
theorem MI.q {μ : M3} {n i k : Int} (h : MI μ n i k) : ∃ B, fT μ (n - 1) B ∧ (fA μ (n - 1) ≤ i ∧ i ≤ B) ∧ lcq0 μ (9000 * μ.1 127 (n - 1)) (μ.1 127 (n - 1)) (μ.1 111 4, fS μ (n - 1)) i (fA μ (n - 1)) B (μ.1 115 k) (μ.1 116 k) (μ.1 117 k) ∧ (i = B → μ.1 115 k = 9) := by
  obtain ⟨-, -, hk, ⟨B, h1, h2, -⟩, -⟩ := h
  have q := (h1.2.1 i h2.1 h2.2).1
  unfold lcq at q
  rw [cdm_0, cdm_1, cdm_2, ← hk] at q
  refine ⟨B, h1, h2, q, fun e => ?_⟩
  have z := h1.2.2.2
  rw [cdm_0, ← e, ← hk] at z
  exact z
def nxo (o : Int) : Prop := o ≠ 8 ∧ o ≠ 9 ∧ o ≠ 12 ∧ o ≠ 14 ∧ o ≠ 15 ∧ o ≠ 16 ∧ o ≠ 17 ∧ o ≠ 19 ∧ o ≠ 21
theorem dem_n {t p o : Int} (h : nxo o) : dem t p o = 0 := by
  obtain ⟨a1, a2, a3, a4, a5, a6, a7, a8, a9⟩ := h
  unfold dem
  rw [if_neg (by omega), if_neg (by omega), if_neg (by omega), if_neg (by omega)]
theorem bem_n {t p o d : Int} {z : Int → Int} (h : nxo o) : bem t p o d z = z := by
  obtain ⟨a1, a2, a3, a4, a5, a6, a7, a8, a9⟩ := h
  funext j
  unfold bem
  rw [if_neg (by omega), if_neg (by omega), if_neg (by omega), if_neg (by omega), if_neg (by omega), if_neg (by omega)]
theorem cem_n {t o c : Int} (h : nxo o) (h0 : o ≠ 0) : cem t o c = 0 := by
  obtain ⟨a1, a2, a3, a4, a5, a6, a7, a8, a9⟩ := h
  unfold cem
  rw [if_neg h0, if_neg (by omega)]
/-- the next place -/
theorem MI.nx {μ : M3} {n i k e : Int} (h : MI μ n i k) (ho : nxo (μ.1 115 k)) (he : eem (μ.1 115 k) (μ.1 117 k) = e) : TP μ (n - 1) (i + 1) (μ.1 111 53 + e) (μ.1 111 61) ∧ fC μ (n - 1) (i + 1) = cem (μ.1 127 (n - 1)) (μ.1 115 k) (fC μ (n - 1) i) := by
  obtain ⟨B0, -, -, -, hB0⟩ := h.q
  have k0 := h.k0.2.1
  obtain ⟨-, -, hk, ⟨B, h1, h2, h3, h4, h5⟩, -⟩ := h
  have iB : i < B := by
    rcases Classical.em (i = B) with e | e
    · have z := h1.2.2.2
      rw [cdm_0, ← e, ← hk] at z
      exact absurd z ho.2.1
    · omega
  have s1 := mh_s (μ := μ) (b := 9000 * μ.1 127 (n - 1)) k0
  have d1 := md_s (μ := μ) (b := 9000 * μ.1 127 (n - 1)) (t := μ.1 127 (n - 1)) k0
  have c1 := mc_s (μ := μ) (b := 9000 * μ.1 127 (n - 1)) (t := μ.1 127 (n - 1)) k0
  have k1 := mk_s (μ := μ) (b := 9000 * μ.1 127 (n - 1)) (t := μ.1 127 (n - 1)) k0
  rw [cdm_0, cdm_2, ← hk, he] at s1
  rw [cdm_0, ← hk, dem_n ho] at d1
  rw [cdm_0, ← hk] at c1
  rw [cdm_0, ← hk, bem_n ho] at k1
  refine ⟨⟨B, h1, ⟨by omega, by omega⟩, ?_, ?_, ?_⟩, c1⟩
  · unfold fH at h3 ⊢; omega
  · unfold fD at h4 ⊢; omega
  · unfold fD fK at h5 ⊢
    rw [d1, k1, Int.add_zero]; exact h5
theorem MI.tq {μ : M3} {n i k e : Int} (h : MI μ n i k) (ho : nxo (μ.1 115 k)) (h0 : μ.1 115 k ≠ 0) (he : eem (μ.1 115 k) (μ.1 117 k) = e) : TQ μ e := by
  have q := h.nx ho he
  rw [cem_n ho h0] at q
  obtain ⟨-, ⟨-, hn⟩, -, -, -, hp, -⟩ := h
  unfold TQ
  rw [← hn, hp]
  exact q
/-- the step is done: at x -/
theorem MI.go {μ ν : M3} {n i k x S bl : Int} (h : MI μ n i k) (hM : MZ ν) (t : TP μ (n - 1) x S bl ∧ fC μ (n - 1) x = 0) (A : Eqa [114, 115, 116, 117, 119, 120, 121, 122, 127, 128, 131, 132, 137] μ ν) (F : Eqf [4, 47, 94] μ ν) (e29 : ν.1 129 (n - 1) = x) (e53 : ν.1 111 53 = S) (e61 : ν.1 111 61 = bl) (hr : RX ν + 9000 - x ≤ RK0 μ n i - 1) : RES ν (RK0 μ n i - 1) := by
  obtain ⟨-, ⟨h1, hn⟩, -, -, -, hp, h94⟩ := h
  exact (RES.at_ (n := n) hM (by rw [F 47 (by decide)]; exact hn.symm) h1 (by rw [F 94 (by decide)]; exact h94) e29 (t.1.mv2 A (F 4 (by decide)) e53 e61) (by rw [fC.mv A (F 4 (by decide))]; exact t.2)).le hr
/-- STEP -/
theorem MI.stp {μ ν : M3} {n i k : Int} (h : MI μ n i k) (ho : μ.1 115 k = 0) (hM : MZ ν) (A : Eqa [114, 115, 116, 117, 119, 120, 121, 122, 127, 128, 129, 131, 132, 137] μ ν) (F : Eqf [4, 47, 53, 61, 81, 94] μ ν) (e83 : ν.1 111 83 = μ.1 111 83 + 1) : RES ν (RK0 μ n i - 1) := by
  have q := h.nx (e := 0) (by rw [ho]; unfold nxo; decide) (by rw [ho]; rfl)
  have k0 := h.k0
  have hz := h.1.n
  obtain ⟨-, ⟨h1, hn⟩, -, -, -, hp, h94⟩ := h
  have c : Cs μ ν := A.cs (by decide) (F 4 (by decide))
  have t2 : TP ν (n - 1) (i + 1) (ν.1 111 53) (ν.1 111 61) := q.1.mv2 (A.sb (by decide)) (F 4 (by decide)) (by rw [F 53 (by decide)]; omega) (F 61 (by decide))
  have c2 : fC ν (n - 1) (i + 1) ≤ 2 := mc_r.2
  have r2 := t2.rk
  have rx := RX.eq (μ := μ) (ν := ν) (A.sb (by decide)) (fun k hk => F k ((by decide : ∀ j ∈ ([47, 61] : List Int), j ∈ ([4, 47, 53, 61, 81, 94] : List Int)) k hk))
  have e47 : ν.1 111 47 - 1 = n - 1 := by rw [F 47 (by decide)]; omega
  have e29 : ν.1 129 (n - 1) = i + 1 := by rw [A 129 (by decide)]; exact hp
  refine ⟨hM, Or.inr ⟨by rw [F 94 (by decide)]; exact h94, by rw [F 47 (by decide)]; omega, ⟨?_, ?_⟩, ?_⟩⟩
  · rw [e47, e29]; exact t2
  · rw [e47, e29, F 81 (by decide), F 61 (by decide), e83]; omega
  · unfold RK
    rw [e47, e29]; omega
/-- JUMP -/
theorem MI.jmp {μ ν : M3} {n i k : Int} (h : MI μ n i k) (ho : μ.1 115 k = 8) (hM : MZ ν) (A : Eqa [114, 115, 116, 117, 119, 120, 121, 122, 127, 128, 131, 132, 137] μ ν) (F : Eqf [4, 47, 53, 61, 81, 83, 94] μ ν) (e29 : ν.1 129 (n - 1) = μ.1 116 k) : RES ν (RK0 μ n i - 1) := by
  obtain ⟨B, h1, h2, hq, -⟩ := h.q
  have k0 := h.k0
  obtain ⟨-, ⟨hn1, hn⟩, hk, ⟨B2, g1, g2, g3, g4, g5⟩, hcr, hp, h94⟩ := id h
  obtain ⟨r1, r3, r4, r5, r7, r8, -⟩ := hq
  obtain ⟨z1, z2, z3, z4⟩ := r8 ho
  have hr : fA μ (n - 1) ≤ μ.1 116 k ∧ μ.1 116 k ≤ B := by
    rcases z1 with z | z
    · exact ⟨z.1.1, z.1.2.1⟩
    · exact ⟨z.1, by have := z.2.1; omega⟩
  have t : TP μ (n - 1) (μ.1 116 k) (μ.1 111 53) (μ.1 111 61) := by
    refine ⟨B, h1, hr, ?_, ?_, ?_⟩
    · unfold fH at g3 ⊢; omega
    · unfold fD at g4 ⊢; omega
    · unfold fD fK at g5 ⊢
      rw [z3]
      intro j j0 j1
      rw [z4 j j1]; exact g5 j j0 j1
  have c : Cs μ ν := A.cs (by decide) (F 4 (by decide))
  have t2 : TP ν (n - 1) (μ.1 116 k) (ν.1 111 53) (ν.1 111 61) := t.mv2 A (F 4 (by decide)) (F 53 (by decide)) (F 61 (by decide))
  have rx := RX.eq (μ := μ) (ν := ν) (A.sb (by decide)) (fun k hk => F k ((by decide : ∀ j ∈ ([47, 61] : List Int), j ∈ ([4, 47, 53, 61, 81, 83, 94] : List Int)) k hk))
  rw [F 83 (by decide)] at rx
  have e47 : ν.1 111 47 - 1 = n - 1 := by rw [F 47 (by decide)]; omega
  have ec : fC ν (n - 1) (μ.1 116 k) = fC μ (n - 1) (μ.1 116 k) := fC.mv A (F 4 (by decide))
  have er : RKa ν (n - 1) (μ.1 116 k) = RKa μ (n - 1) (μ.1 116 k) := RKa.mv c (A 127 (by decide) _) (A 128 (by decide) _)
  have cf : fC μ (n - 1) (μ.1 116 k) ≤ fC μ (n - 1) i ∧ RKa μ (n - 1) (μ.1 116 k) + 1 ≤ RKa μ (n - 1) i := by
    have ci : 0 ≤ fC μ (n - 1) i := mc_r.1
    rcases z1 with z | ⟨z5, z6, z7, z8, z9⟩
    · have c0 : fC μ (n - 1) (μ.1 116 k) = 0 := z.1.2.2
      refine ⟨by omega, ?_⟩
      rw [t.rk.2.2 c0]
      have := k0.1
      unfold RK0 at this
      omega
    · have z8' : fC μ (n - 1) (μ.1 116 k) ≤ fC μ (n - 1) i := z8
      refine ⟨z8', ?_⟩
      unfold RKa
      have b1 : bj μ (9000 * μ.1 127 (n - 1)) (μ.1 116 k) = 0 := if_neg z9
      have b2 : bj μ (9000 * μ.1 127 (n - 1)) i = 1 := if_pos ⟨by rw [cdm_0, ← hk]; exact ho, by rw [cdm_1, ← hk]; exact z6⟩
      rw [b1, b2]
      have := t.pc
      omega
  refine ⟨hM, Or.inr ⟨by rw [F 94 (by decide)]; exact h94, by rw [F 47 (by decide)]; omega, ⟨?_, ?_⟩, ?_⟩⟩
  · rw [e47, e29]; exact t2
  · rw [e47, e29, ec, F 81 (by decide), F 61 (by decide), F 83 (by decide)]; omega
  · unfold RK
    rw [e47, e29, er, rx]
    unfold RK0
    omega
/-- a place to which a question, a SKIP, an ELSE goes: d VALUES fewer -/
theorem MI.far {μ : M3} {n i k d : Int} (h : MI μ n i k) (hx : (μ.1 115 k = 7 ∧ d = 1) ∨ (μ.1 115 k = 33 ∧ d = μ.1 117 k) ∨ (μ.1 115 k = 34 ∧ d = 0)) : (TP μ (n - 1) (μ.1 116 k) (μ.1 111 53 - d) (μ.1 111 61) ∧ fC μ (n - 1) (μ.1 116 k) = 0) ∧ i < μ.1 116 k ∧ μ.1 116 k ≤ 8989 := by
  obtain ⟨B, h1, h2, hq, -⟩ := h.q
  obtain ⟨-, ⟨hn1, hn⟩, hk, ⟨B2, g1, g2, g3, g4, g5⟩, hcr, hp, h94⟩ := h
  obtain ⟨r1, r3, r4, r5, r7, r8, r11, r12, r13, r14, r15, r16, r17, r18, r19, r24, r25, r26, r27, r33, r34, r28, rr⟩ := hq
  have key : mtg μ (9000 * μ.1 127 (n - 1)) (μ.1 127 (n - 1)) (fA μ (n - 1)) B (μ.1 116 k) ∧ i < μ.1 116 k ∧ mh μ (9000 * μ.1 127 (n - 1)) (μ.1 116 k) = mh μ (9000 * μ.1 127 (n - 1)) i - d ∧ msd μ (9000 * μ.1 127 (n - 1)) (μ.1 127 (n - 1)) i (μ.1 116 k) := by
    rcases hx with ⟨o, e⟩ | ⟨o, e⟩ | ⟨o, e⟩
    · obtain ⟨q1, q2, q3, q4, q5⟩ := r7 o
      exact ⟨q2, q3, by omega, q5⟩
    · obtain ⟨q0, q1, q2, q3, q4, q5, q6⟩ := r33 o
      exact ⟨q3, q4, by omega, q6⟩
    · obtain ⟨q0, q1, q2, q3, q4, q5⟩ := r34 o
      exact ⟨q2, q3, by omega, q5⟩
  obtain ⟨⟨k1, k2, k3⟩, k4, k5, k6, k7⟩ := key
  have f8 : fA μ (n - 1) ≤ B ∧ B ≤ 8989 := h1.1.2
  refine ⟨⟨⟨B, h1, ⟨k1, k2⟩, ?_, ?_, ?_⟩, k3⟩, k4, by omega⟩
  · unfold fH at g3 ⊢; omega
  · unfold fD at g4 ⊢; omega
  · unfold fD fK at g5 ⊢
    rw [k6]
    intro j j0 j1
    rw [k7 j j1]; exact g5 j j0 j1
/-- how many VALUES an instruction finds -/
theorem MI.low {μ : M3} {n i k : Int} (h : MI μ n i k) : (μ.1 115 k = 4 ∨ μ.1 115 k = 6 ∨ μ.1 115 k = 7 ∨ μ.1 115 k = 9 ∨ μ.1 115 k = 10 ∨ μ.1 115 k = 11 ∨ μ.1 115 k = 18 ∨ μ.1 115 k = 20 ∨ μ.1 115 k = 22 ∨ μ.1 115 k = 23 ∨ μ.1 115 k = 29 ∨ μ.1 115 k = 30 ∨ μ.1 115 k = 32 ∨ μ.1 115 k = 34 → μ.1 131 (n - 1) + 1 ≤ μ.1 111 53) ∧ (μ.1 115 k = 24 ∨ μ.1 115 k = 31 → μ.1 131 (n - 1) + 2 ≤ μ.1 111 53) ∧ (μ.1 115 k = 5 → μ.1 131 (n - 1) + 3 ≤ μ.1 111 53) ∧ (μ.1 115 k = 25 → (0 ≤ μ.1 117 k ∧ μ.1 117 k ≤ 400000) ∧ μ.1 131 (n - 1) + (μ.1 117 k).tdiv 4 ≤ μ.1 111 53) ∧ (μ.1 115 k = 26 → (0 ≤ μ.1 117 k ∧ μ.1 117 k ≤ 100000) ∧ μ.1 131 (n - 1) + μ.1 117 k + 1 ≤ μ.1 111 53) ∧ (μ.1 115 k = 33 → μ.1 127 (n - 1) = 2 ∧ 0 ≤ μ.1 117 k ∧ μ.1 131 (n - 1) + μ.1 117 k + 1 ≤ μ.1 111 53) ∧ (0 ≤ μ.1 131 (n - 1) ∧ μ.1 111 53 ≤ 2500) ∧ (0 ≤ μ.1 115 k ∧ μ.1 115 k ≤ 34) := by
  obtain ⟨B, h1, h2, hq, -⟩ := h.q
  obtain ⟨hM, ⟨hn1, hn⟩, hk, ⟨B2, g1, g2, g3, g4, g5⟩, hcr, hp, h94⟩ := h
  obtain ⟨r1, r3, r4, r5, r7, r8, r11, r12, r13, r14, r15, r16, r17, r18, r19, r24, r25, r26, r27, r33, r34, r28, rr⟩ := hq
  obtain ⟨-, -, t1, t2⟩ := (hM.2.2.1 (n - 1) (by omega) (by omega)).1
  have q101 := (g1.2.1 i g2.1 g2.2).2.1
  have g3' : μ.1 111 53 = μ.1 131 (n - 1) + mh μ (9000 * μ.1 127 (n - 1)) i := g3
  have n24 := hM.2.1
  refine ⟨fun o => ?_, fun o => ?_, fun o => ?_, fun o => ?_, fun o => ?_, fun o => ?_, ⟨t1.1, ?_⟩, rr⟩
  · have : 1 ≤ mh μ (9000 * μ.1 127 (n - 1)) i := by
      rcases o with o | o | o | o | o | o | o | o | o | o | o | o | o | o
      · exact r4 (Or.inl o)
      · exact r4 (Or.inr (Or.inl o))
      · exact (r7 o).1
      · exact r4 (Or.inr (Or.inr (Or.inl o)))
      · exact r4 (Or.inr (Or.inr (Or.inr (Or.inl o))))
      · exact (r11 (Or.inl o)).2.1
      · exact (r18 o).2
      · exact (r11 (Or.inr o)).2.1
      · exact r4 (Or.inr (Or.inr (Or.inr (Or.inr (Or.inl o)))))
      · exact r4 (Or.inr (Or.inr (Or.inr (Or.inr (Or.inr (Or.inl o))))))
      · exact r4 (Or.inr (Or.inr (Or.inr (Or.inr (Or.inr (Or.inr (Or.inl o)))))))
      · exact r4 (Or.inr (Or.inr (Or.inr (Or.inr (Or.inr (Or.inr (Or.inr (Or.inl o))))))))
      · exact r4 (Or.inr (Or.inr (Or.inr (Or.inr (Or.inr (Or.inr (Or.inr (Or.inr o))))))))
      · exact (r34 o).2.1
    omega
  · have := r24 o; omega
  · have := r5 o; omega
  · have := r25 o; exact ⟨⟨this.1, this.2.1⟩, by have := this.2.2; omega⟩
  · have := r26 o; exact ⟨⟨this.1, this.2.1⟩, by have := this.2.2; omega⟩
  · have := r33 o; exact ⟨this.1, this.2.1, by have := this.2.2.1; omega⟩
  · omega
/-- what else the rules tell -/
theorem MI.rul {μ : M3} {n i k : Int} (h : MI μ n i k) : ((μ.1 115 k = 3 ∨ μ.1 115 k = 4 → 0 ≤ μ.1 116 k ∧ μ.1 116 k < 320) ∧ (μ.1 115 k = 3 → μ.1 116 k < fS μ (n - 1))) ∧ (μ.1 115 k = 11 ∨ μ.1 115 k = 20 → (μ.1 127 (n - 1) = 0 ∨ μ.1 127 (n - 1) = 3) ∧ 1 ≤ μ.1 116 k ∧ μ.1 116 k < μ.1 111 4) ∧ (μ.1 115 k = 18 → μ.1 127 (n - 1) = 1) ∧ (μ.1 115 k = 27 → 0 ≤ μ.1 117 k ∧ μ.1 117 k ≤ 3) ∧ (μ.1 115 k = 34 → μ.1 127 (n - 1) = 2) ∧ (μ.1 115 k = 28 → μ.1 127 (n - 1) = 1) ∧ (μ.1 115 k = 31 → sgn (μ.1 116 k)) ∧ (μ.1 115 k = 29 → μ.1 127 (n - 1) = 2) := by
  obtain ⟨B, h1, h2, hq, -⟩ := h.q
  obtain ⟨r1, r3, r4, r5, r7, r8, r11, r12, r13, r14, r15, r16, r17, r18, r19, r24, r25, r26, r27, r33, r34, r28, rr⟩ := hq
  exact ⟨r3, fun o => ⟨(r11 o).1, (r11 o).2.2.1, (r11 o).2.2.2⟩, fun o => (r18 o).1, r27, fun o => (r34 o).1, r28.1, r28.2.1, r28.2.2⟩
theorem MI.iB {μ : M3} {n i k : Int} (h : MI μ n i k) (ho : μ.1 115 k ≠ 9) : ∀ B, fT μ (n - 1) B → i ≤ B → i < B := by
  intro B h1 h2
  obtain ⟨-, -, hk, -⟩ := h
  rcases Classical.em (i = B) with e | e
  · have z := h1.2.2.2
    rw [cdm_0, ← e, ← hk] at z
    exact absurd z ho
  · omega
/-- a part is entered -/
theorem MI.pb {μ ν : M3} {n i k κ : Int} (h : MI μ n i k) (hκ : (μ.1 115 k = 12 ∧ κ = 0) ∨ (μ.1 115 k = 14 ∧ κ = 1) ∨ (μ.1 115 k = 19 ∧ κ = 3) ∨ (μ.1 115 k = 21 ∧ κ = 4)) (A : Eqa (129 :: [114, 115, 116, 117, 119, 120, 121, 122, 127, 128, 131, 132, 133, 134, 135, 136, 144, 145, 146, 147, 148, 149, 150, 151, 152, 156, 157, 158, 159, 163, 165, 166]) μ ν) (F : Eqf (53 :: 94 :: [4, 47, 65, 68, 69, 81, 82, 83, 84, 95, 96, 97, 104]) μ ν) (e61 : ν.1 111 61 = μ.1 111 61 + 1) (E : ∀ a, a ∈ ([137, 138, 140, 141, 142, 143] : List Int) → ∀ j, j ≠ μ.1 111 61 → ν.1 a j = μ.1 a j) (v37 : ν.1 137 (μ.1 111 61) = κ) (v38 : ν.1 138 (μ.1 111 61) = μ.1 116 k) (v40 : ν.1 140 (μ.1 111 61) = μ.1 111 53) (v41 : κ = 4 → ν.1 141 (μ.1 111 61) = i + 1) : RES ν (RK0 μ n i - 1) := by
  obtain ⟨B, h1, h2, hq, -⟩ := h.q
  have k0 := h.k0
  have iB := h.iB (by rcases hκ with z | z | z | z <;> omega) B h1 h2.2
  have hz := h.1.n
  obtain ⟨hM, ⟨hn1, hn⟩, hk, ⟨B2, g1, g2, g3, g4, g5⟩, hcr, hp, h94⟩ := id h
  obtain ⟨r1, r3, r4, r5, r7, r8, r11, r12, r13, r14, r15, r16, r17, r18, r19, -⟩ := hq
  have c : Cs μ ν := A.cs (by decide) (F 4 (by decide))
  have u : up2 μ ν := up2.eq (F 65 (by decide)) (F 82 (by decide))
  obtain ⟨-, -, t1, t2⟩ := (hM.2.2.1 (n - 1) (by omega) (by omega)).1
  have q16 := (g1.2.1 i g2.1 g2.2).2.2
  have g3' : μ.1 111 53 = μ.1 131 (n - 1) + mh μ (9000 * μ.1 127 (n - 1)) i := g3
  have g4' : μ.1 111 61 = μ.1 132 (n - 1) + md μ (9000 * μ.1 127 (n - 1)) (μ.1 127 (n - 1)) i := g4
  have key : 1 ≤ mc μ (9000 * μ.1 127 (n - 1)) (μ.1 127 (n - 1)) i ∧ mh μ (9000 * μ.1 127 (n - 1)) i = 0 := by
    rcases hκ with z | z | z | z
    · exact ⟨(r12 z.1).2.1, (r12 z.1).2.2.1⟩
    · exact ⟨(r14 z.1).2.2.1, (r14 z.1).2.2.2.1⟩
    · exact ⟨(r19 (Or.inl z.1)).2.2.1, (r19 (Or.inl z.1)).2.2.2.1⟩
    · exact ⟨(r19 (Or.inr z.1)).2.2.1, (r19 (Or.inr z.1)).2.2.2.1⟩
  have hcr' : μ.1 111 81 + μ.1 111 61 + mc μ (9000 * μ.1 127 (n - 1)) (μ.1 127 (n - 1)) i ≤ 2 * μ.1 111 83 := hcr
  have g5' : ∀ j, 0 ≤ j → j < μ.1 111 61 - μ.1 132 (n - 1) → fK μ (n - 1) i j = μ.1 137 (μ.1 132 (n - 1) + j) := fun j j0 j1 => (g5 j j0 (by show j < md μ _ _ i; omega)).symm
  have fm := frm c (A 127 (by decide) (n - 1)) (A 128 (by decide) (n - 1))
  have m37 : ∀ j, j < μ.1 111 61 → ν.1 137 j = μ.1 137 j := fun j hj => E 137 (by decide) j (by omega)
  have f8 : fA μ (n - 1) ≤ B ∧ B ≤ 8989 := h1.1.2
  have f0 : 0 ≤ fA μ (n - 1) := h1.1.1
  have ld : ∀ d, (d = 0 → msd μ (9000 * μ.1 127 (n - 1)) (μ.1 127 (n - 1)) i (μ.1 116 k)) → (d = 1 → md μ (9000 * μ.1 127 (n - 1)) (μ.1 127 (n - 1)) (μ.1 116 k) = md μ (9000 * μ.1 127 (n - 1)) (μ.1 127 (n - 1)) i + 1 ∧ mk μ (9000 * μ.1 127 (n - 1)) (μ.1 127 (n - 1)) (μ.1 116 k) (md μ (9000 * μ.1 127 (n - 1)) (μ.1 127 (n - 1)) i) = 2 ∧ ∀ j, j < md μ (9000 * μ.1 127 (n - 1)) (μ.1 127 (n - 1)) i → mk μ (9000 * μ.1 127 (n - 1)) (μ.1 127 (n - 1)) (μ.1 116 k) j = mk μ (9000 * μ.1 127 (n - 1)) (μ.1 127 (n - 1)) i j) → (d = 0 ∨ d = 1) → mtg μ (9000 * μ.1 127 (n - 1)) (μ.1 127 (n - 1)) (fA μ (n - 1)) B (μ.1 116 k) → mh μ (9000 * μ.1 127 (n - 1)) (μ.1 116 k) = 0 → LD μ (n - 1) (μ.1 111 61) (μ.1 116 k) d := by
    intro d d0 d1 hd tg h0
    refine ⟨B, h1, ⟨tg.1, tg.2.1⟩, h0, tg.2.2, ?_, fun z => ?_, fun j j0 j1 => ?_⟩
    · rcases hd with z | z
      · have := (d0 z).1
        show md μ _ _ _ = _
        omega
      · have := (d1 z).1
        show md μ _ _ _ = _
        omega
    · have := (d1 z).2.1
      rw [show μ.1 111 61 - μ.1 132 (n - 1) = md μ (9000 * μ.1 127 (n - 1)) (μ.1 127 (n - 1)) i by omega]
      exact this
    · rw [← g5' j j0 j1]
      rcases hd with z | z
      · exact (d0 z).2 j (by omega)
      · exact (d1 z).2.2 j (by omega)
  have mvl : ∀ d, LD μ (n - 1) (μ.1 111 61) (μ.1 116 k) d → LD ν (n - 1) (μ.1 111 61) (μ.1 116 k) d := fun d z => z.mv c (A 127 (by decide) _) (A 128 (by decide) _) (A 132 (by decide) _) m37
  have bk : BK ν (n - 1) (μ.1 111 61) := by
    unfold BK
    rw [v37, v38, v40, A 127 (by decide), A 131 (by decide)]
    rcases hκ with ⟨o, e⟩ | ⟨o, e⟩ | ⟨o, e⟩ | ⟨o, e⟩ <;> subst e
    · obtain ⟨z1, z2, z3, z4, z5, z6, z7⟩ := r12 o
      refine ⟨by omega, by decide, fun z => absurd z1 (by omega), fun _ => ⟨z1, ?_⟩, fun z => absurd z (by decide), fun z => absurd z (by decide), fun z => absurd z (by decide), fun z => absurd z (by decide)⟩
      have lc : LC μ (n - 1) (μ.1 111 61) (μ.1 116 k) := ⟨B, h1, ⟨z4, z5⟩, z6, by show md μ _ _ _ = _; have := z7.1; omega, fun j j0 j1 => by rw [← g5' j j0 j1]; exact z7.2 j (by omega)⟩
      exact lc.mv c (A 127 (by decide) _) (A 128 (by decide) _) (A 132 (by decide) _) m37
    · obtain ⟨z1, z0, z2, z3, z4, z5, z6, z7, z8⟩ := r14 o
      exact ⟨by omega, by decide, fun z => absurd z z1, fun z => absurd z (by decide), fun _ => mvl 1 (ld 1 (fun z => absurd z (by decide)) (fun _ => ⟨z6, z7, z8⟩) (Or.inr rfl) z4 z5), fun z => absurd z (by decide), fun z => absurd z (by decide), fun z => absurd z (by decide)⟩
    · obtain ⟨z1, z2, z3, z4, z5, z6, z7⟩ := r19 (Or.inl o)
      exact ⟨by omega, by decide, fun _ => rfl, fun z => absurd z (by decide), fun z => absurd z (by decide), fun _ => mvl 0 (ld 0 (fun _ => z7) (fun z => absurd z (by decide)) (Or.inl rfl) z5 z6), fun z => absurd z (by decide), fun z => absurd z (by decide)⟩
    · obtain ⟨z1, z2, z3, z4, z5, z6, z7⟩ := r19 (Or.inr o)
      obtain ⟨y1, y2, y3⟩ := z2 o
      refine ⟨by omega, by decide, fun z => absurd z (by omega), fun z => absurd z (by decide), fun z => absurd z (by decide), fun _ => mvl 0 (ld 0 (fun _ => z7) (fun z => absurd z (by decide)) (Or.inl rfl) z5 z6), fun _ => ⟨y1, ?_, ?_⟩, fun z => absurd z (by decide)⟩
      · rw [v41 rfl]; omega
      · have lq := (h1.2.1 (i + 1) (by omega) (by omega)).1
        obtain ⟨s1, s3, s4, s5, s7, s8, s11, s12, s13, -⟩ := lq
        have e13 : cdm μ (9000 * μ.1 127 (n - 1)) (i + 1) 1 = μ.1 116 (27000 + (i + 1)) := by rw [cdm_1, y1, show (9000 * 3 + (i + 1) : Int) = 27000 + (i + 1) by omega]
        rw [v41 rfl, c.1 116 (by decide), ← e13]
        rcases s13 y3 with w | w
        · omega
        · exact ⟨w.1, w.2.1⟩
  have hne : κ ≠ 2 := by rcases hκ with z | z | z | z <;> omega
  have hMn : MZ ν := by
    refine MZ.bp hM (by omega) (A.sb (by decide)) (fun j hj => F j (List.mem_cons_of_mem _ (List.mem_cons_of_mem _ hj))) (fun j _ => A 129 (by decide) j) e61 (by omega) ?_ E (by rw [← hn]; exact bk) (fun z => absurd (v37.symm.trans z) hne)
    have := hz.2.2.1
    rw [F 53 (by decide)]; omega
  have s1 := mh_s (μ := μ) (b := 9000 * μ.1 127 (n - 1)) k0.2.1
  have d1 := md_s (μ := μ) (b := 9000 * μ.1 127 (n - 1)) (t := μ.1 127 (n - 1)) k0.2.1
  have c1 := mc_s (μ := μ) (b := 9000 * μ.1 127 (n - 1)) (t := μ.1 127 (n - 1)) k0.2.1
  have k1 := mk_s (μ := μ) (b := 9000 * μ.1 127 (n - 1)) (t := μ.1 127 (n - 1)) k0.2.1
  rw [cdm_0, cdm_2, ← hk] at s1
  rw [cdm_0, ← hk] at d1 c1 k1
  have ee : eem (μ.1 115 k) (μ.1 117 k) = 0 := by rcases hκ with ⟨o, -⟩ | ⟨o, -⟩ | ⟨o, -⟩ | ⟨o, -⟩ <;> (rw [o]; rfl)
  have dd : dem (μ.1 127 (n - 1)) (mp μ (9000 * μ.1 127 (n - 1)) i) (μ.1 115 k) = 1 := by rcases hκ with ⟨o, -⟩ | ⟨o, -⟩ | ⟨o, -⟩ | ⟨o, -⟩ <;> (rw [o]; rfl)
  have cc : cem (μ.1 127 (n - 1)) (μ.1 115 k) (mc μ (9000 * μ.1 127 (n - 1)) (μ.1 127 (n - 1)) i) = mc μ (9000 * μ.1 127 (n - 1)) (μ.1 127 (n - 1)) i - 1 := by
    have q : ∀ o : Int, (o = 12 ∨ o = 14 ∨ o = 19 ∨ o = 21) → cem (μ.1 127 (n - 1)) o (mc μ (9000 * μ.1 127 (n - 1)) (μ.1 127 (n - 1)) i) = max (mc μ (9000 * μ.1 127 (n - 1)) (μ.1 127 (n - 1)) i - 1) 0 := fun o ho => by
      unfold cem
      rw [if_neg (by omega), if_pos ho]
    rw [q _ (by rcases hκ with z | z | z | z <;> omega)]
    omega
  have kk2 : ∀ j, mk μ (9000 * μ.1 127 (n - 1)) (μ.1 127 (n - 1)) (i + 1) j = if j = md μ (9000 * μ.1 127 (n - 1)) (μ.1 127 (n - 1)) i then κ else mk μ (9000 * μ.1 127 (n - 1)) (μ.1 127 (n - 1)) i j := by
    intro j
    rw [k1]
    rcases hκ with ⟨o, e⟩ | ⟨o, e⟩ | ⟨o, e⟩ | ⟨o, e⟩ <;> (rw [o, e]; rfl)
  have t : TP ν (n - 1) (i + 1) (ν.1 111 53) (ν.1 111 61) := by
    refine ⟨B, fm.2.2.2.2.2.2 B h1, ?_, ?_, ?_, ?_⟩
    · rw [fm.1.1]; omega
    · rw [fm.2.1, F 53 (by decide), A 131 (by decide)]
      show _ = _ + mh μ _ _
      omega
    · rw [fm.2.2.2.1, e61, A 132 (by decide)]
      show _ = _ + md μ _ _ _
      omega
    · rw [fm.2.2.2.1, fm.2.2.2.2.1, A 132 (by decide)]
      intro j j0 j1
      show _ = mk μ _ _ _ j
      rw [kk2 j]
      have j2 : j < md μ (9000 * μ.1 127 (n - 1)) (μ.1 127 (n - 1)) (i + 1) := j1
      by_cases e : j = md μ (9000 * μ.1 127 (n - 1)) (μ.1 127 (n - 1)) i
      · rw [if_pos e, e, ← g4', v37]
      · rw [if_neg e, m37 _ (by omega)]; exact (g5' j j0 (by omega)).symm
  have ec : fC ν (n - 1) (i + 1) = mc μ (9000 * μ.1 127 (n - 1)) (μ.1 127 (n - 1)) i - 1 := by
    rw [fm.2.2.1]
    show mc μ _ _ _ = _
    omega
  have e47 : ν.1 111 47 - 1 = n - 1 := by rw [F 47 (by decide)]; omega
  have e29 : ν.1 129 (n - 1) = i + 1 := by rw [A 129 (by decide)]; exact hp
  have hb0 : 0 ≤ μ.1 111 61 := by omega
  have rx : RX ν = RX μ + 9001 := by
    unfold RX
    rw [F 47 (by decide), F 83 (by decide), e61, cB_s hb0, v37, if_neg hne, cB_eq m37]
    omega
  refine ⟨hMn, Or.inr ⟨by rw [F 94 (by decide)]; exact h94, by rw [F 47 (by decide)]; omega, ⟨?_, ?_⟩, ?_⟩⟩
  · rw [e47, e29]; exact t
  · rw [e47, e29, ec, F 81 (by decide), F 83 (by decide), e61]; omega
  · unfold RK
    rw [e47, e29, rx]
    unfold RK0 RKa
    rw [ec]
    have b1 : bj ν (9000 * ν.1 127 (n - 1)) (i + 1) ≤ 1 := by unfold bj; split <;> decide
    have b2 : 0 ≤ bj μ (9000 * μ.1 127 (n - 1)) i := by unfold bj; split <;> decide
    show _ ≤ RX μ + (10000 * (2 * mc μ (9000 * μ.1 127 (n - 1)) (μ.1 127 (n - 1)) i + _) + 9000 - i) - 1
    omega
/-- a part is left -/
theorem MI.t15 {μ : M3} {n i k : Int} (h : MI μ n i k) (ho : μ.1 115 k = 15 ∨ μ.1 115 k = 17) : (TP μ (n - 1) (i + 1) (μ.1 111 53) (μ.1 111 61 - 1) ∧ fC μ (n - 1) (i + 1) = 0) ∧ μ.1 132 (n - 1) + 1 ≤ μ.1 111 61 ∧ (μ.1 115 k = 17 → μ.1 137 (μ.1 111 61 - 1) = 2) := by
  obtain ⟨B, h1, h2, hq, -⟩ := h.q
  have k0 := h.k0
  have iB := h.iB (by omega) B h1 h2.2
  obtain ⟨hM, ⟨hn1, hn⟩, hk, ⟨B2, g1, g2, g3, g4, g5⟩, hcr, hp, h94⟩ := id h
  obtain ⟨r1, r3, r4, r5, r7, r8, r11, r12, r13, r14, r15, r16, r17, r18, r19, -⟩ := hq
  have dA : md μ (9000 * μ.1 127 (n - 1)) (μ.1 127 (n - 1)) (fA μ (n - 1)) = 0 := h1.2.2.1.2.2
  have g3' : μ.1 111 53 = μ.1 131 (n - 1) + mh μ (9000 * μ.1 127 (n - 1)) i := g3
  have g4' : μ.1 111 61 = μ.1 132 (n - 1) + md μ (9000 * μ.1 127 (n - 1)) (μ.1 127 (n - 1)) i := g4
  have key : 1 ≤ md μ (9000 * μ.1 127 (n - 1)) (μ.1 127 (n - 1)) i := by
    rcases ho with o | o
    · have := (r15 o).1; omega
    · have := (r17 o).2.1; omega
  have s1 := mh_s (μ := μ) (b := 9000 * μ.1 127 (n - 1)) k0.2.1
  have d1 := md_s (μ := μ) (b := 9000 * μ.1 127 (n - 1)) (t := μ.1 127 (n - 1)) k0.2.1
  have c1 := mc_s (μ := μ) (b := 9000 * μ.1 127 (n - 1)) (t := μ.1 127 (n - 1)) k0.2.1
  have k1 := mk_s (μ := μ) (b := 9000 * μ.1 127 (n - 1)) (t := μ.1 127 (n - 1)) k0.2.1
  rw [cdm_0, cdm_2, ← hk] at s1
  rw [cdm_0, ← hk] at d1 c1 k1
  have ee : eem (μ.1 115 k) (μ.1 117 k) = 0 := by rcases ho with o | o <;> (rw [o]; rfl)
  have dd : dem (μ.1 127 (n - 1)) (mp μ (9000 * μ.1 127 (n - 1)) i) (μ.1 115 k) = -1 := by rcases ho with o | o <;> (rw [o]; rfl)
  have cc : cem (μ.1 127 (n - 1)) (μ.1 115 k) (mc μ (9000 * μ.1 127 (n - 1)) (μ.1 127 (n - 1)) i) = 0 := by rcases ho with o | o <;> (rw [o]; rfl)
  have kk2 : ∀ d (z : Int → Int), bem (μ.1 127 (n - 1)) (mp μ (9000 * μ.1 127 (n - 1)) i) (μ.1 115 k) d z = z := by
    intro d z
    rcases ho with o | o <;> (rw [o]; rfl)
  rw [kk2] at k1
  refine ⟨⟨⟨B, h1, ⟨by omega, by omega⟩, ?_, ?_, ?_⟩, ?_⟩, by omega, fun o => ?_⟩
  · show _ = _ + mh μ _ _; omega
  · show _ = _ + md μ _ _ _; omega
  · intro j j0 j1
    have j2 : j < md μ (9000 * μ.1 127 (n - 1)) (μ.1 127 (n - 1)) (i + 1) := j1
    show _ = mk μ _ _ _ j
    rw [k1]
    exact g5 j j0 (by show j < md μ _ _ _; omega)
  · show mc μ _ _ _ = 0; omega
  · have z := (r17 o).2.2.2
    have y := g5 (md μ (9000 * μ.1 127 (n - 1)) (μ.1 127 (n - 1)) i - 1) (by omega) (by show _ < md μ _ _ _; omega)
    rw [show μ.1 132 (n - 1) + (md μ (9000 * μ.1 127 (n - 1)) (μ.1 127 (n - 1)) i - 1) = μ.1 111 61 - 1 by omega] at y
    rw [y]; exact z
theorem MI.t16 {μ : M3} {n i k : Int} (h : MI μ n i k) (ho : μ.1 115 k = 16) : μ.1 132 (n - 1) + 1 ≤ μ.1 111 61 ∧ μ.1 137 (μ.1 111 61 - 1) = 1 ∧ μ.1 111 53 = μ.1 131 (n - 1) := by
  obtain ⟨B, h1, h2, hq, -⟩ := h.q
  obtain ⟨hM, ⟨hn1, hn⟩, hk, ⟨B2, g1, g2, g3, g4, g5⟩, hcr, hp, h94⟩ := id h
  obtain ⟨r1, r3, r4, r5, r7, r8, r11, r12, r13, r14, r15, r16, r17, r18, r19, -⟩ := hq
  have dA : md μ (9000 * μ.1 127 (n - 1)) (μ.1 127 (n - 1)) (fA μ (n - 1)) = 0 := h1.2.2.1.2.2
  have g3' : μ.1 111 53 = μ.1 131 (n - 1) + mh μ (9000 * μ.1 127 (n - 1)) i := g3
  have g4' : μ.1 111 61 = μ.1 132 (n - 1) + md μ (9000 * μ.1 127 (n - 1)) (μ.1 127 (n - 1)) i := g4
  obtain ⟨z1, z2, z3⟩ := r16 ho
  have y := g5 (md μ (9000 * μ.1 127 (n - 1)) (μ.1 127 (n - 1)) i - 1) (by omega) (by show _ < md μ _ _ _; omega)
  rw [show μ.1 132 (n - 1) + (md μ (9000 * μ.1 127 (n - 1)) (μ.1 127 (n - 1)) i - 1) = μ.1 111 61 - 1 by omega] at y
  refine ⟨by omega, ?_, by omega⟩
  rw [y]; exact z3
