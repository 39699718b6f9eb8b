/-! the reference's statements put together -/
/-- what a place and its target tell -/
theorem mWS.at {μo μ ν : M3} {t M dA h d q o s hq cq dq T : Int} {KA K Kq : Int → Int} {L : List Int} (w : mWS μo μ t M dA KA L h 0 d K) (m : mMk μ t q o s hq cq dq Kq) (l : mMF μ ν q T) (hT : T = μ.1 111 22) : (cdm ν cR q 0 = o ∧ cdm ν cR q 1 = T ∧ cdm ν cR q 2 = s) ∧ mPt ν t q hq cq dq Kq ∧ mPt ν t T h 0 d K ∧ T = ν.1 111 22 ∧ q < T := by
  have m2 := m.mf l
  have p3 := w.2.2.1.mf l
  rw [← hT] at p3
  exact ⟨⟨m2.2.1, l.2.2.2.1, m2.2.2.1⟩, m2.2.2.2, p3, by rw [l.1]; exact hT, by rw [hT]; exact m.1⟩
/-- ASK is aimed -/
theorem mWS.aim7 {μo μ ν : M3} {t M dA h d q s hq cq T : Int} {KA K Kq : Int → Int} {L Z : List Int} (w : mWS μo μ t M dA KA L h 0 d K) (m : mMk μ t q 7 s hq cq d Kq) (l : mMF μ ν q T) (hT : T = μ.1 111 22) (hq0 : μo.1 111 22 ≤ q) (hL : q ∈ L) (hh : 1 ≤ hq) (h2 : h = hq - 1) (hK : ∀ j, j < d → K j = Kq j) (hz : ∀ i, i ∈ L → i = q ∨ i ∈ Z) : mWS μo ν t M dA KA Z h 0 d K := by
  obtain ⟨⟨a1, a2, a3⟩, a4, a5, a6, a7⟩ := w.at m l hT
  refine (w.mf l hq0 hL (fun z => absurd (m.2.1.symm.trans z) (by decide))).cls ?_ hz
  unfold lcq
  rw [a1, a2, a3, ← a6]
  exact ⟨fun q => absurd q (by decide), ⟨fun q => absurd q (by decide), fun q => absurd q (by decide)⟩, fun q => absurd q (by decide), fun q => absurd q (by decide), fun _ => ⟨by rw [a4.2.1]; exact hh, ⟨by omega, Int.le_refl _, a5.2.2.1⟩, a7, by rw [a5.2.1, a4.2.1]; exact h2, by rw [a5.2.2.2.1, a4.2.2.2.1], fun j hj => by rw [a4.2.2.2.1] at hj; rw [a5.2.2.2.2 j hj, a4.2.2.2.2 j hj]; exact hK j hj⟩, fun q => absurd q (by decide), fun q => absurd q (by decide), fun q => absurd q (by decide), fun q => absurd q (by decide), fun q => absurd q (by decide), fun q => absurd q (by decide), fun q => absurd q (by decide), fun q => absurd q (by decide), fun q => absurd q (by decide), fun q => absurd q (by decide), fun q => absurd q (by decide), fun q => absurd q (by decide), fun q => absurd q (by decide), fun q => absurd q (by decide), fun q => absurd q (by decide), fun q => absurd q (by decide), ⟨fun q => absurd q (by decide), fun q => absurd q (by decide), fun q => absurd q (by decide)⟩, ⟨by decide, by decide⟩⟩
/-- JUMP is aimed -/
theorem mWS.aim8 {μo μ ν : M3} {t M dA h d q s cq T : Int} {KA K Kq : Int → Int} {L Z : List Int} (w : mWS μo μ t M dA KA L h 0 d K) (m : mMk μ t q 8 s h cq d Kq) (l : mMF μ ν q T) (hT : T = μ.1 111 22) (hq0 : μo.1 111 22 ≤ q) (hL : q ∈ L) (ha : cdm μ cR q 1 < q) (hK : ∀ j, j < d → K j = Kq j) (hz : ∀ i, i ∈ L → i = q ∨ i ∈ Z) : mWS μo ν t M dA KA Z h 0 d K := by
  obtain ⟨⟨a1, a2, a3⟩, a4, a5, a6, a7⟩ := w.at m l hT
  refine (w.mf l hq0 hL (fun _ => ⟨ha, a7⟩)).cls ?_ hz
  unfold lcq
  rw [a1, a2, a3, ← a6]
  exact ⟨fun q => absurd q (by decide), ⟨fun q => absurd q (by decide), fun q => absurd q (by decide)⟩, fun q => absurd q (by decide), fun q => absurd q (by decide), fun q => absurd q (by decide), fun _ => ⟨Or.inl ⟨⟨by omega, Int.le_refl _, a5.2.2.1⟩, a7⟩, by rw [a5.2.1, a4.2.1], by rw [a5.2.2.2.1, a4.2.2.2.1], fun j hj => by rw [a4.2.2.2.1] at hj; rw [a5.2.2.2.2 j hj, a4.2.2.2.2 j hj]; exact hK j hj⟩, fun q => absurd q (by decide), fun q => absurd q (by decide), fun q => absurd q (by decide), fun q => absurd q (by decide), fun q => absurd q (by decide), fun q => absurd q (by decide), fun q => absurd q (by decide), fun q => absurd q (by decide), fun q => absurd q (by decide), fun q => absurd q (by decide), fun q => absurd q (by decide), fun q => absurd q (by decide), fun q => absurd q (by decide), fun q => absurd q (by decide), fun q => absurd q (by decide), ⟨fun q => absurd q (by decide), fun q => absurd q (by decide), fun q => absurd q (by decide)⟩, ⟨by decide, by decide⟩⟩
/-- FIN is aimed -/
theorem mWS.aim14 {μo μ ν : M3} {t M dA q s cq dq T : Int} {KA K Kq : Int → Int} {L Z : List Int} (w : mWS μo μ t M dA KA L 0 0 (dq + 1) K) (m : mMk μ t q 14 s 0 cq dq Kq) (l : mMF μ ν q T) (hT : T = μ.1 111 22) (hq0 : μo.1 111 22 ≤ q) (hL : q ∈ L) (ht : t ≠ 1) (hi : t = 3 → q + 1 < T) (hc : 1 ≤ cq) (hk : K dq = 2) (hK : ∀ j, j < dq → K j = Kq j) (hz : ∀ i, i ∈ L → i = q ∨ i ∈ Z) : mWS μo ν t M dA KA Z 0 0 (dq + 1) K := by
  obtain ⟨⟨a1, a2, a3⟩, a4, a5, a6, a7⟩ := w.at m l hT
  refine (w.mf l hq0 hL (fun z => absurd (m.2.1.symm.trans z) (by decide))).cls ?_ hz
  unfold lcq
  rw [a1, a2, a3, ← a6]
  exact ⟨fun q => absurd q (by decide), ⟨fun q => absurd q (by decide), fun q => absurd q (by decide)⟩, fun q => absurd q (by decide), fun q => absurd q (by decide), fun q => absurd q (by decide), fun q => absurd q (by decide), fun q => absurd q (by decide), fun q => absurd q (by decide), fun q => absurd q (by decide), fun _ => ⟨ht, hi, by rw [a4.2.2.1]; exact hc, a4.2.1, ⟨by omega, Int.le_refl _, a5.2.2.1⟩, a5.2.1, by rw [a5.2.2.2.1, a4.2.2.2.1], by rw [a4.2.2.2.1, a5.2.2.2.2 dq (by omega)]; exact hk, fun j hj => by rw [a4.2.2.2.1] at hj; rw [a5.2.2.2.2 j (by omega), a4.2.2.2.2 j hj]; exact hK j hj⟩, fun q => absurd q (by decide), fun q => absurd q (by decide), fun q => absurd q (by decide), fun q => absurd q (by decide), fun q => absurd q (by decide), fun q => absurd q (by decide), fun q => absurd q (by decide), fun q => absurd q (by decide), fun q => absurd q (by decide), fun q => absurd q (by decide), fun q => absurd q (by decide), ⟨fun q => absurd q (by decide), fun q => absurd q (by decide), fun q => absurd q (by decide)⟩, ⟨by decide, by decide⟩⟩
/-- ON, OPEN are aimed -/
theorem mWS.aim19 {μo μ ν : M3} {t M dA d q s o cq T : Int} {KA K Kq : Int → Int} {L Z : List Int} (w : mWS μo μ t M dA KA L 0 0 d K) (m : mMk μ t q o s 0 cq d Kq) (l : mMF μ ν q T) (hT : T = μ.1 111 22) (hq0 : μo.1 111 22 ≤ q) (hL : q ∈ L) (ho : (o = 19 ∧ t = 1) ∨ (o = 21 ∧ t = 3 ∧ q + 1 < μ.1 111 22 ∧ cdm μ cR (q + 1) 0 = 13)) (hc : 1 ≤ cq) (hK : ∀ j, j < d → K j = Kq j) (hz : ∀ i, i ∈ L → i = q ∨ i ∈ Z) : mWS μo ν t M dA KA Z 0 0 d K := by
  obtain ⟨⟨a1, a2, a3⟩, a4, a5, a6, a7⟩ := w.at m l hT
  have no8 : o ≠ 8 := by rcases ho with h | h <;> omega
  refine (w.mf l hq0 hL (fun z => absurd (m.2.1.symm.trans z) no8)).cls ?_ hz
  unfold lcq
  rw [a1, a2, a3, ← a6]
  have key : 1 ≤ mc ν cR t q ∧ mh ν cR q = 0 ∧ mtg ν cR t (μo.1 111 22) T T ∧ mh ν cR T = 0 ∧ msd ν cR t q T := ⟨by rw [a4.2.2.1]; exact hc, a4.2.1, ⟨by omega, Int.le_refl _, a5.2.2.1⟩, a5.2.1, by rw [a5.2.2.2.1, a4.2.2.2.1], fun j hj => by rw [a4.2.2.2.1] at hj; rw [a5.2.2.2.2 j hj, a4.2.2.2.2 j hj]; exact hK j hj⟩
  rcases ho with ⟨e, e1⟩ | ⟨e, e1, e2, e3⟩
  · subst e
    exact ⟨fun q => absurd q (by decide), ⟨fun q => absurd q (by decide), fun q => absurd q (by decide)⟩, fun q => absurd q (by decide), fun q => absurd q (by decide), fun q => absurd q (by decide), fun q => absurd q (by decide), fun q => absurd q (by decide), fun q => absurd q (by decide), fun q => absurd q (by decide), fun q => absurd q (by decide), fun q => absurd q (by decide), fun q => absurd q (by decide), fun q => absurd q (by decide), fun q => absurd q (by decide), fun _ => ⟨fun _ => e1, fun z => absurd z (by decide), key⟩, fun q => absurd q (by decide), fun q => absurd q (by decide), fun q => absurd q (by decide), fun q => absurd q (by decide), fun q => absurd q (by decide), fun q => absurd q (by decide), ⟨fun q => absurd q (by decide), fun q => absurd q (by decide), fun q => absurd q (by decide)⟩, ⟨by decide, by decide⟩⟩
  · subst e
    exact ⟨fun q => absurd q (by decide), ⟨fun q => absurd q (by decide), fun q => absurd q (by decide)⟩, fun q => absurd q (by decide), fun q => absurd q (by decide), fun q => absurd q (by decide), fun q => absurd q (by decide), fun q => absurd q (by decide), fun q => absurd q (by decide), fun q => absurd q (by decide), fun q => absurd q (by decide), fun q => absurd q (by decide), fun q => absurd q (by decide), fun q => absurd q (by decide), fun q => absurd q (by decide), fun _ => ⟨fun z => absurd z (by decide), fun _ => ⟨e1, by omega, by rw [l.2.2.2.2 (q + 1) 0 k0 (by omega) (fun z => absurd z.2 (by decide))]; exact e3⟩, key⟩, fun q => absurd q (by decide), fun q => absurd q (by decide), fun q => absurd q (by decide), fun q => absurd q (by decide), fun q => absurd q (by decide), fun q => absurd q (by decide), ⟨fun q => absurd q (by decide), fun q => absurd q (by decide), fun q => absurd q (by decide)⟩, ⟨by decide, by decide⟩⟩
/-- the last op of a typed stretch in EXITS is neither FIN nor ENDFIN -/
theorem mWS.lop {μo μ : M3} {t M dA h c d : Int} {KA K : Int → Int} {L : List Int} (w : mWS μo μ t M dA KA L h c d K) (hn : μo.1 111 22 < μ.1 111 22) (hl : μ.1 111 22 - 1 ∈ L → cdm μ cR (μ.1 111 22 - 1) 0 ≠ 14 ∧ cdm μ cR (μ.1 111 22 - 1) 0 ≠ 17) : t = 3 → mp μ cR (μ.1 111 22) ≠ 14 ∧ mp μ cR (μ.1 111 22) ≠ 17 := by
  intro ht
  have h0 := w.2.1.1.1
  have e1 : mp μ cR (μ.1 111 22) = cdm μ cR (μ.1 111 22 - 1) 0 := by
    have q := mp_s (μ := μ) (b := cR) (i := μ.1 111 22 - 1) (by omega)
    rw [show μ.1 111 22 - 1 + 1 = μ.1 111 22 by omega] at q
    exact q
  rw [e1]
  by_cases e : μ.1 111 22 - 1 ∈ L
  · exact hl e
  · have q := w.2.2.2.1 _ (by omega) (by omega) e
    unfold lcq at q
    obtain ⟨r1, r3, r4, r5, r7, r8, r11, r12, r13, r14, r15, r16, r17, r18, r19, r24, r25, r26, r27, r33, r34, r28, rr⟩ := q
    exact ⟨fun z => by have := (r14 z).2.1 ht; omega, fun z => by have := (r17 z).1 ht; omega⟩
/-- ops whose rule needs nothing but heights, parts; closed at once -/
theorem mWS.ado {μo μ ν : M3} {t M dA h c d o f s h2 c2 d2 : Int} {KA K K2 : Int → Int} {L : List Int} (w : mWS μo μ t M dA KA L h c d K) (g : mAD μ ν o f s) (p : mPt ν t (ν.1 111 22) h2 c2 d2 K2) (hh : 0 ≤ h2 ∧ h2 ≤ 101) (hd : dA ≤ d2 ∧ d2 ≤ dA + M) (hK : ∀ j, j < dA → K2 j = KA j) (hl : mPt ν t (μ.1 111 22) h c d K → mPt ν t (μo.1 111 22) 0 (mc ν cR t (μo.1 111 22)) dA KA → lcq0 ν cR t (nS ν) (μ.1 111 22) (μo.1 111 22) (ν.1 111 22) o f s) : mWS μo ν t M dA KA L h2 c2 d2 K2 := by
  have q := w.ad g p hh hd hK
  refine q.cls ?_ (fun i hi => List.mem_cons.1 hi)
  unfold lcq
  rw [g.2.2.1, g.2.2.2.1, g.2.2.2.2]
  exact hl (w.2.2.1.ext g.1) q.2.1
theorem mPt.mp {μ ν : M3} {o f s : Int} (h : 0 ≤ μ.1 111 22) (g : mAD μ ν o f s) : mp ν cR (ν.1 111 22) = o := by
  rw [g.2.1, mp_s h]; exact g.2.2.1
/-- IF without ELSE -/
theorem as_mifq {μ μ1 μ2 μ3 ν : M3} {t q T M H1 : Int} (s : mS0 μ) (k : mEX μ μ1 t 1 0 H1) (g : mAD μ1 μ2 7 0 0) (b : mEX μ2 μ3 t 0 M 101) (l : mMF μ3 ν q T) (hq : q = μ1.1 111 22) (hT : T = μ3.1 111 22) (hM : 0 ≤ M) (hH : H1 ≤ 101) : mEY μ ν t M := by
  subst hq
  have w0 := mWS.nil (t := t) (M := M) s hM
  have w1 := w0.ex k (by omega) (Int.le_refl _) (by omega) (fun _ _ => rfl)
  have p1 := w1.2.2.1
  have w2 := w1.ad g (p1.pl g (by unfold mpl; omega)) (by show 0 ≤ (0 : Int) + 1 + -1 ∧ (0 : Int) + 1 + -1 ≤ 101; omega) ⟨Int.le_refl _, by omega⟩ (fun _ _ => rfl)
  have m2 := mMk.of p1 g
  have w3 := mWS.ex0 (h := 0) w2 b (by omega) (Int.le_refl _) (by omega) (fun _ _ => rfl)
  have w4 := w3.aim7 (m2.ext b.1) l hT k.1.1 (List.mem_cons_self ..) (by omega) (by omega) (fun _ _ => rfl) (Z := []) (fun i hi => List.mem_cons.1 hi)
  exact w4.end
/-- IF and ELSE -/
theorem as_mife {μ μ1 μ2 μ3 μ4 μ5 μ6 ν : M3} {t q r T T2 M H1 : Int} (s : mS0 μ) (k : mEX μ μ1 t 1 0 H1) (g : mAD μ1 μ2 7 0 0) (b : mEX μ2 μ3 t 0 M 101) (j : mAD μ3 μ4 8 0 0) (l : mMF μ4 μ5 q T) (b2 : mEX μ5 μ6 t 0 M 101) (l2 : mMF μ6 ν r T2) (hq : q = μ1.1 111 22) (hr : r = μ3.1 111 22) (hT : T = μ4.1 111 22) (hT2 : T2 = μ6.1 111 22) (hM : 0 ≤ M) (hH : H1 ≤ 101) : mEY μ ν t M := by
  subst hq; subst hr
  have w0 := mWS.nil (t := t) (M := M) s hM
  have w1 := w0.ex k (by omega) (Int.le_refl _) (by omega) (fun _ _ => rfl)
  have p1 := w1.2.2.1
  have w2 := w1.ad g (p1.pl g (by unfold mpl; omega)) (by show 0 ≤ (0 : Int) + 1 + -1 ∧ (0 : Int) + 1 + -1 ≤ 101; omega) ⟨Int.le_refl _, by omega⟩ (fun _ _ => rfl)
  have m2 := mMk.of p1 g
  have w3 := mWS.ex0 (h := 0) w2 b (by omega) (Int.le_refl _) (by omega) (fun _ _ => rfl)
  have m3 := m2.ext b.1
  have lq : μ1.1 111 22 < μ3.1 111 22 := m3.1
  have h0 := s.1
  have l01 := k.1.1
  have p3 := w3.2.2.1
  have lo := w3.lop (by omega) (fun z => by
    have e : μ3.1 111 22 - 1 = μ1.1 111 22 := by simpa using z
    rw [e, m3.2.1]; exact ⟨by decide, by decide⟩)
  have w4 := w3.ad j (p3.pl j (Or.inr (Or.inr (Or.inr ⟨rfl, lo⟩)))) (by show 0 ≤ (0 : Int) + 0 + 0 ∧ (0 : Int) + 0 + 0 ≤ 101; omega) ⟨Int.le_refl _, by omega⟩ (fun _ _ => rfl)
  have m4 := m3.ext j.1
  have n4 := mMk.of p3 j
  have w5 := mWS.aim7 (h := 0) w4 m4 l hT l01 (List.mem_cons_of_mem _ (List.mem_cons_self ..)) (by omega) (by omega) (fun _ _ => rfl) (Z := [μ3.1 111 22]) (fun i hi => by
    rcases List.mem_cons.1 hi with e | e
    · exact Or.inr (by rw [e]; exact List.mem_cons_self ..)
    · exact Or.inl (by simpa using e))
  have n5 := n4.mf l
  have a5 : cdm μ5 cR (μ3.1 111 22) 1 = 0 := by rw [l.2.2.2.2 _ 1 k1 (by rw [j.2.1]; omega) (fun z => by omega)]; exact j.2.2.2.1
  have w6 := w5.ex0 b2 (by omega) (Int.le_refl _) (by omega) (fun _ _ => rfl)
  have n6 := n5.ext b2.1
  have a6 : cdm μ6 cR (μ3.1 111 22) 1 = 0 := by rw [b2.1.2.2 _ 1 k1 n5.1]; exact a5
  have w7 := mWS.aim8 (h := 0) w6 n6 l2 hT2 (by omega) (List.mem_cons_self ..) (by omega) (fun _ _ => rfl) (Z := []) (fun i hi => List.mem_cons.1 hi)
  exact w7.end
/-- WHILE -/
theorem as_mwhl {μ μ1 μ2 μ3 μ4 μ5 ν : M3} {t q p hd T M H1 : Int} (s : mS1 μ t) (k : mEX μ μ1 t 1 0 H1) (g : mAD μ1 μ2 7 0 0) (b : mEX μ2 μ3 t 0 M 101) (e : mAD μ3 μ4 0 p 0) (j : mAD μ4 μ5 8 hd 0) (l : mMF μ5 ν q T) (hq : q = μ1.1 111 22) (hhd : hd = μ.1 111 22) (hT : T = μ5.1 111 22) (hM : 0 ≤ M) (hH : H1 ≤ 101) : mEY μ ν t M := by
  subst hq; subst hhd
  have w0 := mWS.nil (t := t) (M := M) s.s hM
  have w1 := w0.ex k (by omega) (Int.le_refl _) (by omega) (fun _ _ => rfl)
  have p1 := w1.2.2.1
  have w2 := w1.ad g (p1.pl g (by unfold mpl; omega)) (by show 0 ≤ (0 : Int) + 1 + -1 ∧ (0 : Int) + 1 + -1 ≤ 101; omega) ⟨Int.le_refl _, by omega⟩ (fun _ _ => rfl)
  have m2 := mMk.of p1 g
  have w3 := mWS.ex0 (h := 0) w2 b (by omega) (Int.le_refl _) (by omega) (fun _ _ => rfl)
  have m3 := m2.ext b.1
  have lq : μ1.1 111 22 < μ3.1 111 22 := m3.1
  have h0 := s.1
  have l01 := k.1.1
  have lt01 : μ.1 111 22 < μ1.1 111 22 := by
    by_cases z : μ.1 111 22 = μ1.1 111 22
    · have q := k.2.2.1
      rw [z] at q
      omega
    · omega
  have l4 := e.2.1
  have l5 := j.2.1
  have p3 := w3.2.2.1
  have w4 := mWS.ado (h2 := 0) (c2 := if t = 0 then 2 else 1) w3 e (p3.pl e (Or.inr (Or.inl rfl))) (by decide) ⟨Int.le_refl _, by omega⟩ (fun _ _ => rfl) (fun _ _ => ⟨fun q => absurd q (by decide), ⟨fun q => absurd q (by decide), fun q => absurd q (by decide)⟩, fun q => absurd q (by decide), fun q => absurd q (by decide), fun q => absurd q (by decide), fun q => absurd q (by decide), fun q => absurd q (by decide), fun q => absurd q (by decide), fun q => absurd q (by decide), fun q => absurd q (by decide), fun q => absurd q (by decide), fun q => absurd q (by decide), fun q => absurd q (by decide), fun q => absurd q (by decide), fun q => absurd q (by decide), fun q => absurd q (by decide), fun q => absurd q (by decide), fun q => absurd q (by decide), fun q => absurd q (by decide), fun q => absurd q (by decide), fun q => absurd q (by decide), ⟨fun q => absurd q (by decide), fun q => absurd q (by decide), fun q => absurd q (by decide)⟩, ⟨by decide, by decide⟩⟩)
  have m4 := m3.ext e.1
  have p4 := w4.2.2.1
  have mp4 := mPt.mp p3.1.1 e
  have b0 := w4.2.1
  -- what stands where the loop begins
  have E15 := (g.1.tr b.1).tr (e.1.tr j.1)
  have c1 := k.2.2.2.2.2.1 (μ.1 111 22) (Int.le_refl _) lt01 (fun z => z)
  have no8 : ¬ (cdm μ5 cR (μ.1 111 22) 0 = 8 ∧ cdm μ5 cR (μ.1 111 22) 1 ≤ μ.1 111 22) := by
    rw [E15.2.2 _ 0 k0 lt01, E15.2.2 _ 1 k1 lt01]
    intro z
    unfold lcq at c1
    obtain ⟨r1, r3, r4, r5, r7, r8, rr⟩ := c1
    rcases (r8 z.1).1 with y | y
    · have := y.2; omega
    · have e9 : cdm μ1 cR (μ.1 111 22) 1 = μ.1 111 22 := by have := y.1; omega
      refine y.2.2.2.2 ⟨?_, ?_⟩
      · rw [e9]; exact z.1
      · rw [e9]; exact z.2
  have cA : mc μ5 cR t (μ.1 111 22) = if t = 0 then 2 else 1 := by
    have E := (k.1.tr (g.1.tr b.1)).tr (e.1.tr j.1)
    rw [(E.fo (t := t) _ (Int.le_refl _)).2.1]; exact s.2.2
  have cc : (1 : Int) ≤ if t = 0 then 2 else 1 := by split <;> decide
  have w5 := mWS.ado (h2 := 0) (c2 := 0) w4 j (p4.pl j (Or.inr (Or.inr (Or.inr ⟨rfl, fun _ => by rw [mp4]; exact ⟨by decide, by decide⟩⟩)))) (by decide) ⟨Int.le_refl _, by omega⟩ (fun _ _ => rfl) (fun x y => ⟨fun q => absurd q (by decide), ⟨fun q => absurd q (by decide), fun q => absurd q (by decide)⟩, fun q => absurd q (by decide), fun q => absurd q (by decide), fun q => absurd q (by decide), fun _ => ⟨Or.inr ⟨Int.le_refl _, by omega, by rw [x.2.2.1]; exact cc, by rw [x.2.2.1, cA]; exact Int.le_refl _, no8⟩, by rw [x.2.1, y.2.1], by rw [y.2.2.2.1, x.2.2.2.1], fun j hj => by rw [x.2.2.2.1] at hj; rw [y.2.2.2.2 j hj, x.2.2.2.2 j hj]⟩, fun q => absurd q (by decide), fun q => absurd q (by decide), fun q => absurd q (by decide), fun q => absurd q (by decide), fun q => absurd q (by decide), fun q => absurd q (by decide), fun q => absurd q (by decide), fun q => absurd q (by decide), fun q => absurd q (by decide), fun q => absurd q (by decide), fun q => absurd q (by decide), fun q => absurd q (by decide), fun q => absurd q (by decide), fun q => absurd q (by decide), fun q => absurd q (by decide), ⟨fun q => absurd q (by decide), fun q => absurd q (by decide), fun q => absurd q (by decide)⟩, ⟨by decide, by decide⟩⟩)
  have m5 := m4.ext j.1
  have w6 := mWS.aim7 (h := 0) w5 m5 l hT l01 (List.mem_cons_self ..) (by omega) (by omega) (fun _ _ => rfl) (Z := []) (fun i hi => List.mem_cons.1 hi)
  exact w6.end
/-- ON, OPEN stand: their door is open -/
def mDO (μo μ : M3) (t M q : Int) : Prop := ∃ o s cq dA, ∃ KA K : Int → Int, ((o = 19 ∧ t = 1) ∨ (o = 21 ∧ t = 3 ∧ q + 1 < μ.1 111 22 ∧ cdm μ cR (q + 1) 0 = 13)) ∧ 1 ≤ cq ∧ μo.1 111 22 ≤ q ∧ mWS μo μ t (M + 1) dA KA [q] 0 0 (dA + 1) K ∧ mMk μ t q o s 0 cq dA KA ∧ ∀ j, j < dA → K j = KA j
theorem mWS.qm {μo μ ν : M3} {t M dA h c d : Int} {KA K : Int → Int} {L : List Int} (w : mWS μo μ t M dA KA L h c d K) (g : q0m μ ν) : mWS μo ν t M dA KA L h c d K := by
  obtain ⟨w1, w2, w3, w4, w5⟩ := w
  have z := fun i (hi : i ≤ μ.1 111 22) => g.1.fo (t := t) i hi
  have za := z _ w1.1
  have p3 := w3.ext g.1
  rw [← g.2] at p3
  refine ⟨w1.tr g.1, by rw [za.2.1]; exact w2.ext g.1, p3, fun i i1 i2 i3 => ?_, fun i i1 i2 => ?_⟩
  · rw [g.2] at i2 ⊢
    exact (w4 i i1 i2 i3).kx (g.1.kx (Y := NX) (Int.le_refl _)) i1 i2 (fun z => z) (fun _ _ _ z => z) g.1.2.1 (fun _ _ _ z => z.elim)
  · rw [g.2] at i2
    have y := z i i2
    rw [y.1, y.2.2.1]
    exact ⟨(w5 i i1 i2).1, (w5 i i1 i2).2.1, fun j hj => by rw [y.2.2.2]; exact (w5 i i1 i2).2.2 j hj⟩
theorem mDO.qm {μo μ ν : M3} {t M q : Int} (h : mDO μo μ t M q) (g : q0m μ ν) : mDO μo ν t M q := by
  obtain ⟨o, s, cq, dA, KA, K, a1, a2, a3, a4, a5, a6⟩ := h
  refine ⟨o, s, cq, dA, KA, K, ?_, a2, a3, a4.qm g, a5.ext g.1, a6⟩
  rcases a1 with e | ⟨e1, e2, e3, e4⟩
  · exact Or.inl e
  · exact Or.inr ⟨e1, e2, by rw [g.2]; exact e3, by rw [g.1.2.2 _ 0 k0 e3]; exact e4⟩
theorem mDO.on {μ ν : M3} {t M f s0 : Int} (s : mS1 μ t) (g : mAD μ ν 19 f s0) (ht : t = 1) (hM : 0 ≤ M) : mDO μ ν t M (μ.1 111 22) := by
  have w0 := mWS.nil (t := t) (M := M + 1) s.s (by omega)
  have p0 := w0.2.2.1
  have hc : mc μ cR t (μ.1 111 22) = 1 := by rw [s.2.2, if_neg (by omega)]
  rw [hc] at p0
  refine ⟨19, s0, 1, _, _, _, Or.inl ⟨rfl, ht⟩, by decide, Int.le_refl _, w0.ad g (p0.on g) (by decide) (by omega) (fun j hj => mup_n (by omega)), mMk.of p0 g, fun j hj => mup_n (by omega)⟩
theorem mDO.opn {μ μ1 ν : M3} {t M f s0 v s1 : Int} (s : mS1 μ t) (g : mAD μ μ1 21 f s0) (c : mAD μ1 ν 13 v s1) (ht : t = 3) (hv : 0 ≤ v ∧ v < 320) (hM : 0 ≤ M) : mDO μ ν t M (μ.1 111 22) := by
  have w0 := mWS.nil (t := t) (M := M + 1) s.s (by omega)
  have p0 := w0.2.2.1
  have hc : mc μ cR t (μ.1 111 22) = 1 := by rw [s.2.2, if_neg (by omega)]
  rw [hc] at p0
  have w1 := w0.ad g (p0.opn g) (by decide) (by omega) (fun j hj => mup_n (by omega))
  have p1 := w1.2.2.1
  have m1 := mMk.of p0 g
  have w2 := mWS.ado (h2 := 0) (c2 := 0) w1 c (p1.pl c (Or.inr (Or.inr (Or.inl rfl)))) (by decide) (by omega) (fun j hj => mup_n (by omega)) (fun _ _ => ⟨fun q => absurd q (by decide), ⟨fun q => absurd q (by decide), fun q => absurd q (by decide)⟩, fun q => absurd q (by decide), fun q => absurd q (by decide), fun q => absurd q (by decide), fun q => absurd q (by decide), fun q => absurd q (by decide), fun q => absurd q (by decide), fun _ => Or.inr ⟨hv.1, hv.2, Or.inl ht⟩, fun q => absurd q (by decide), fun q => absurd q (by decide), fun q => absurd q (by decide), fun q => absurd q (by decide), fun q => absurd q (by decide), fun q => absurd q (by decide), fun q => absurd q (by decide), fun q => absurd q (by decide), fun q => absurd q (by decide), fun q => absurd q (by decide), fun q => absurd q (by decide), fun q => absurd q (by decide), ⟨fun q => absurd q (by decide), fun q => absurd q (by decide), fun q => absurd q (by decide)⟩, ⟨by decide, by decide⟩⟩)
  have l1 := g.2.1
  have l2 := c.2.1
  refine ⟨21, s0, 1, _, _, _, Or.inr ⟨rfl, ht, by omega, by rw [← l1]; exact c.2.2.1⟩, by decide, Int.le_refl _, w2, m1.ext c.1, fun j hj => mup_n (by omega)⟩
/-- a part, JUMP over the other, the other -/
theorem as_mdoor {μo μ μ1 μ2 μ3 μ4 μ5 ν : M3} {t M q r T T2 : Int} (w : mDO μo μ t M q) (b : mEX μ μ1 t 0 M 101) (g : mAD μ1 μ2 15 0 0) (j : mAD μ2 μ3 8 0 0) (l : mMF μ3 μ4 q T) (b2 : mEX μ4 μ5 t 0 M 101) (l2 : mMF μ5 ν r T2) (hr : r = μ2.1 111 22) (hT : T = μ3.1 111 22) (hT2 : T2 = μ5.1 111 22) (hM : 0 ≤ M) : mEY μo ν t (M + 1) := by
  subst hr
  obtain ⟨o, s, cq, dA, KA, K, a1, a2, a3, w0, m0, a6⟩ := w
  have z0 := w0.1.1
  have w1 := w0.ex0 b (by omega) (by omega) (by omega) a6
  have m1 := m0.ext b.1
  have p1 := w1.2.2.1
  have w2 := mWS.ado (h2 := 0) (c2 := 0) w1 g ((p1.lv g (Or.inl rfl)).e (d2 := dA) rfl rfl (by omega) (fun j hj => a6 j hj)) (by decide) ⟨Int.le_refl _, by omega⟩ (fun _ _ => rfl) (fun x y => ⟨fun q => absurd q (by decide), ⟨fun q => absurd q (by decide), fun q => absurd q (by decide)⟩, fun q => absurd q (by decide), fun q => absurd q (by decide), fun q => absurd q (by decide), fun q => absurd q (by decide), fun q => absurd q (by decide), fun q => absurd q (by decide), fun q => absurd q (by decide), fun q => absurd q (by decide), fun _ => ⟨by rw [x.2.2.2.1, y.2.2.2.1]; exact Int.le_refl _, x.2.1⟩, fun q => absurd q (by decide), fun q => absurd q (by decide), fun q => absurd q (by decide), fun q => absurd q (by decide), fun q => absurd q (by decide), fun q => absurd q (by decide), fun q => absurd q (by decide), fun q => absurd q (by decide), fun q => absurd q (by decide), fun q => absurd q (by decide), ⟨fun q => absurd q (by decide), fun q => absurd q (by decide), fun q => absurd q (by decide)⟩, ⟨by decide, by decide⟩⟩)
  have m2 := m1.ext g.1
  have p2 := w2.2.2.1
  have mp2 := mPt.mp p1.1.1 g
  have w3 := w2.ad (h2 := 0) (c2 := 0) j (p2.pl j (Or.inr (Or.inr (Or.inr ⟨rfl, fun _ => by rw [mp2]; exact ⟨by decide, by decide⟩⟩)))) (by decide) ⟨Int.le_refl _, by omega⟩ (fun _ _ => rfl)
  have m3 := m2.ext j.1
  have n3 := mMk.of p2 j
  have q1 := m0.1
  have l01 := b.1.1
  have l12 := g.2.1
  have l23 := j.2.1
  have a3' : (o = 19 ∧ t = 1) ∨ (o = 21 ∧ t = 3 ∧ q + 1 < μ3.1 111 22 ∧ cdm μ3 cR (q + 1) 0 = 13) := by
    rcases a1 with e | ⟨e1, e2, e3, e4⟩
    · exact Or.inl e
    · exact Or.inr ⟨e1, e2, by omega, by rw [(b.1.tr (g.1.tr j.1)).2.2 _ 0 k0 e3]; exact e4⟩
  have w4 := w3.aim19 m3 l hT a3 (List.mem_cons_of_mem _ (List.mem_cons_self ..)) a3' a2 (fun _ _ => rfl) (Z := [μ2.1 111 22]) (fun i hi => by
    rcases List.mem_cons.1 hi with e | e
    · exact Or.inr (by rw [e]; exact List.mem_cons_self ..)
    · exact Or.inl (by simpa using e))
  have n4 := n3.mf l
  have b4 : cdm μ4 cR (μ2.1 111 22) 1 = 0 := by rw [l.2.2.2.2 _ 1 k1 (by omega) (fun z => by omega)]; exact j.2.2.2.1
  have w5 := w4.ex0 b2 (by omega) (Int.le_refl _) (by omega) (fun _ _ => rfl)
  have n5 := n4.ext b2.1
  have b5 : cdm μ5 cR (μ2.1 111 22) 1 = 0 := by rw [b2.1.2.2 _ 1 k1 n4.1]; exact b4
  have h0 := w0.2.1.1.1
  have w6 := mWS.aim8 (h := 0) w5 n5 l2 hT2 (by omega) (List.mem_cons_self ..) (by omega) (fun _ _ => rfl) (Z := []) (fun i hi => List.mem_cons.1 hi)
  exact w6.end
/-- WITH .. END in VALUES -/
theorem as_mwth {μ μ1 μ2 μ3 μ4 μ5 ν : M3} {t M q T s0 : Int} (s : mS1 μ t) (ht : t = 2) (g : mAD μ μ1 14 0 s0) (b : mEX μ1 μ2 t 0 M 101) (f : mAD μ2 μ3 16 0 0) (l : mMF μ3 μ4 q T) (b2 : mEX μ4 μ5 t 0 M 101) (e : mAD μ5 ν 17 0 0) (hq : q = μ.1 111 22) (hT : T = μ3.1 111 22) (hM : 0 ≤ M) : mEY μ ν t (M + 1) := by
  subst hq
  have w0 := mWS.nil (t := t) (M := M + 1) s.s (by omega)
  have p0 := w0.2.2.1
  have hc : mc μ cR t (μ.1 111 22) = 1 := by rw [s.2.2, if_neg (by omega)]
  rw [hc] at p0
  have w1 := w0.ad g (p0.fin g) (by decide) (by omega) (fun j hj => mup_n (by omega))
  have m1 := mMk.of p0 g
  have w2 := mWS.ex0 (h := 0) w1 b (by omega) (by omega) (by omega) (fun j hj => mup_n (by omega))
  have m2 := m1.ext b.1
  have p2 := w2.2.2.1
  have kl : ∀ j, j < md μ cR t (μ.1 111 22) → mup (mup (mk μ cR t (μ.1 111 22)) (md μ cR t (μ.1 111 22)) 1) (md μ cR t (μ.1 111 22) + 1 - 1) 2 j = mk μ cR t (μ.1 111 22) j := fun j hj => by rw [mup_n (by omega), mup_n (by omega)]
  have w3 := mWS.ado (h2 := 0) (c2 := 0) w2 f (p2.lf f (by omega)) (by decide) (by omega) kl (fun x y => ⟨fun q => absurd q (by decide), ⟨fun q => absurd q (by decide), fun q => absurd q (by decide)⟩, fun q => absurd q (by decide), fun q => absurd q (by decide), fun q => absurd q (by decide), fun q => absurd q (by decide), fun q => absurd q (by decide), fun q => absurd q (by decide), fun q => absurd q (by decide), fun q => absurd q (by decide), fun q => absurd q (by decide), fun _ => ⟨by rw [x.2.2.2.1, y.2.2.2.1]; exact Int.le_refl _, x.2.1, by rw [x.2.2.2.1, x.2.2.2.2 _ (by omega)]; exact (by rw [show md μ cR t (μ.1 111 22) + 1 - 1 = md μ cR t (μ.1 111 22) by omega]; exact mup_s)⟩, fun q => absurd q (by decide), fun q => absurd q (by decide), fun q => absurd q (by decide), fun q => absurd q (by decide), fun q => absurd q (by decide), fun q => absurd q (by decide), fun q => absurd q (by decide), fun q => absurd q (by decide), fun q => absurd q (by decide), ⟨fun q => absurd q (by decide), fun q => absurd q (by decide), fun q => absurd q (by decide)⟩, ⟨by decide, by decide⟩⟩)
  have m3 := m2.ext f.1
  have w4 := w3.aim14 m3 l hT (Int.le_refl _) (List.mem_cons_self ..) (by omega) (fun z => by omega) (by decide) (by rw [show md μ cR t (μ.1 111 22) + 1 - 1 = md μ cR t (μ.1 111 22) by omega]; exact mup_s) kl (Z := []) (fun i hi => List.mem_cons.1 hi)
  have w5 := w4.ex0 b2 (by omega) (by omega) (by omega) kl
  have p5 := w5.2.2.1
  have w6 := mWS.ado (h2 := 0) (c2 := 0) w5 e ((p5.lv e (Or.inr rfl)).e (d2 := md μ cR t (μ.1 111 22)) rfl rfl (by omega) kl) (by decide) (by omega) (fun _ _ => rfl) (fun x y => ⟨fun q => absurd q (by decide), ⟨fun q => absurd q (by decide), fun q => absurd q (by decide)⟩, fun q => absurd q (by decide), fun q => absurd q (by decide), fun q => absurd q (by decide), fun q => absurd q (by decide), fun q => absurd q (by decide), fun q => absurd q (by decide), fun q => absurd q (by decide), fun q => absurd q (by decide), fun q => absurd q (by decide), fun q => absurd q (by decide), fun _ => ⟨fun z => by omega, by rw [x.2.2.2.1, y.2.2.2.1]; exact Int.le_refl _, x.2.1, by rw [x.2.2.2.1, x.2.2.2.2 _ (by omega)]; exact mup_s⟩, fun q => absurd q (by decide), fun q => absurd q (by decide), fun q => absurd q (by decide), fun q => absurd q (by decide), fun q => absurd q (by decide), fun q => absurd q (by decide), fun q => absurd q (by decide), fun q => absurd q (by decide), ⟨fun q => absurd q (by decide), fun q => absurd q (by decide), fun q => absurd q (by decide)⟩, ⟨by decide, by decide⟩⟩)
  exact w6.end
/-- CLEAN .. DO in EXITS -/
theorem as_mcln {μ μ1 μ2 μ3 μ4 μ5 μ6 μ7 μ8 μ9 ν : M3} {t M q q2 q3 T T2 T3 s0 : Int} (s : mS1 μ t) (ht : t = 3) (g : mAD μ μ1 14 0 s0) (j : mAD μ1 μ2 8 0 0) (l : mMF μ2 μ3 q T) (b : mEX μ3 μ4 t 0 M 101) (e : mAD μ4 μ5 17 0 0) (j2 : mAD μ5 μ6 8 0 0) (l2 : mMF μ6 μ7 q2 T2) (b2 : mEX μ7 μ8 t 0 M 101) (f : mAD μ8 μ9 16 0 0) (l3 : mMF μ9 ν q3 T3) (hq : q = μ.1 111 22) (hq2 : q2 = μ1.1 111 22) (hq3 : q3 = μ5.1 111 22) (hT : T = μ2.1 111 22) (hT2 : T2 = μ6.1 111 22) (hT3 : T3 = μ9.1 111 22) (hM : 0 ≤ M) : mEY μ ν t (M + 1) := by
  subst hq; subst hq2; subst hq3
  have h0 := s.1
  have l01 := g.2.1
  have l12 := j.2.1
  have l23 := l.1
  have l34 := b.1.1
  have l45 := e.2.1
  have l56 := j2.2.1
  have l67 := l2.1
  have l78 := b2.1.1
  have l89 := f.2.1
  have w0 := mWS.nil (t := t) (M := M + 1) s.s (by omega)
  have p0 := w0.2.2.1
  have hc : mc μ cR t (μ.1 111 22) = 1 := by rw [s.2.2, if_neg (by omega)]
  rw [hc] at p0
  have w1 := mWS.ad (h2 := 0) (c2 := 0) w0 g (p0.fin g) (by decide) (by omega) (fun j hj => mup_n (by omega))
  have m1 := mMk.of p0 g
  have p1 := w1.2.2.1
  have mp1 := mPt.mp p0.1.1 g
  have kl : ∀ j, j < md μ cR t (μ.1 111 22) → mup (mup (mk μ cR t (μ.1 111 22)) (md μ cR t (μ.1 111 22)) 1) (md μ cR t (μ.1 111 22) + 1 - 1) 2 j = mk μ cR t (μ.1 111 22) j := fun j hj => by rw [mup_n (by omega), mup_n (by omega)]
  have ks : mup (mup (mk μ cR t (μ.1 111 22)) (md μ cR t (μ.1 111 22)) 1) (md μ cR t (μ.1 111 22) + 1 - 1) 2 (md μ cR t (μ.1 111 22)) = 2 := by rw [show md μ cR t (μ.1 111 22) + 1 - 1 = md μ cR t (μ.1 111 22) by omega]; exact mup_s
  have w2 := mWS.ad (h2 := 0) (c2 := 0) w1 j (p1.jf j ht mp1) (by decide) (by omega) kl
  have m2 := m1.ext j.1
  have n2 := mMk.of p1 j
  have w3 := w2.aim14 m2 l hT (Int.le_refl _) (List.mem_cons_of_mem _ (List.mem_cons_self ..)) (by omega) (fun z => by omega) (by decide) ks kl (Z := [μ1.1 111 22]) (fun i hi => by
    rcases List.mem_cons.1 hi with e | e
    · exact Or.inr (by rw [e]; exact List.mem_cons_self ..)
    · exact Or.inl (by simpa using e))
  have n3 := n2.mf l
  have b3 : cdm μ3 cR (μ1.1 111 22) 1 = 0 := by rw [l.2.2.2.2 _ 1 k1 (by omega) (fun z => by omega)]; exact j.2.2.2.1
  have w4 := w3.ex0 b (by omega) (by omega) (by omega) kl
  have n4 := n3.ext b.1
  have b4 : cdm μ4 cR (μ1.1 111 22) 1 = 0 := by rw [b.1.2.2 _ 1 k1 n3.1]; exact b3
  have p4 := w4.2.2.1
  have w5 := mWS.ad (h2 := 0) (c2 := 0) w4 e ((p4.lv e (Or.inr rfl)).e (d2 := md μ cR t (μ.1 111 22)) rfl rfl (by omega) kl) (by decide) (by omega) (fun _ _ => rfl)
  have n5 := n4.ext e.1
  have b5 : cdm μ5 cR (μ1.1 111 22) 1 = 0 := by rw [e.1.2.2 _ 1 k1 n4.1]; exact b4
  have o5 := mMk.of p4 e
  have p5 := w5.2.2.1
  have mp5 := mPt.mp p4.1.1 e
  have w6' := mWS.ad (h2 := 0) (c2 := 0) w5 j2 (p5.je j2 ht mp5) (by decide) (by omega) (fun j hj => mup_n (by omega))
  have n6 := n5.ext j2.1
  have o6 := o5.ext j2.1
  have i6 := mMk.of p5 j2
  have b6 : cdm μ6 cR (μ1.1 111 22) 1 = 0 := by rw [j2.1.2.2 _ 1 k1 n5.1]; exact b5
  -- ENDFIN has its rule, for a JUMP stands behind it
  have w6 := w6'.cls (q := μ4.1 111 22) (Z := [μ5.1 111 22, μ1.1 111 22]) (by
    have y := w6'.2.1
    have x := o6.2.2.2
    unfold lcq
    rw [o6.2.1]
    exact ⟨fun q => absurd q (by decide), ⟨fun q => absurd q (by decide), fun q => absurd q (by decide)⟩, fun q => absurd q (by decide), fun q => absurd q (by decide), fun q => absurd q (by decide), fun q => absurd q (by decide), fun q => absurd q (by decide), fun q => absurd q (by decide), fun q => absurd q (by decide), fun q => absurd q (by decide), fun q => absurd q (by decide), fun q => absurd q (by decide), fun _ => ⟨fun _ => by omega, by rw [x.2.2.2.1, y.2.2.2.1]; exact Int.le_refl _, x.2.1, by rw [x.2.2.2.1, x.2.2.2.2 _ (by omega), show md μ cR t (μ.1 111 22) + 1 - 1 = md μ cR t (μ.1 111 22) by omega]; exact mup_s⟩, fun q => absurd q (by decide), fun q => absurd q (by decide), fun q => absurd q (by decide), fun q => absurd q (by decide), fun q => absurd q (by decide), fun q => absurd q (by decide), fun q => absurd q (by decide), fun q => absurd q (by decide), ⟨fun q => absurd q (by decide), fun q => absurd q (by decide), fun q => absurd q (by decide)⟩, ⟨by decide, by decide⟩⟩) (fun i hi => by
    rcases List.mem_cons.1 hi with e | e
    · exact Or.inr (by rw [e]; exact List.mem_cons_self ..)
    · rcases List.mem_cons.1 e with e | e
      · exact Or.inl e
      · exact Or.inr (List.mem_cons_of_mem _ e))
  have w7 := mWS.aim8 (h := 0) w6 n6 l2 hT2 (by omega) (List.mem_cons_of_mem _ (List.mem_cons_self ..)) (by omega) (fun _ _ => rfl) (Z := [μ5.1 111 22]) (fun i hi => by
    rcases List.mem_cons.1 hi with e | e
    · exact Or.inr (by rw [e]; exact List.mem_cons_self ..)
    · exact Or.inl (by simpa using e))
  have i7 := i6.mf l2
  have b7 : cdm μ7 cR (μ5.1 111 22) 1 = 0 := by rw [l2.2.2.2.2 _ 1 k1 (by omega) (fun z => by omega)]; exact j2.2.2.2.1
  have w8 := w7.ex0 b2 (by omega) (by omega) (by omega) (fun j hj => mup_n (by omega))
  have i8 := i7.ext b2.1
  have b8 : cdm μ8 cR (μ5.1 111 22) 1 = 0 := by rw [b2.1.2.2 _ 1 k1 i7.1]; exact b7
  have p8 := w8.2.2.1
  have w9 := mWS.ado (h2 := 0) (c2 := 0) w8 f ((p8.lf3 f ht).e (d2 := md μ cR t (μ.1 111 22)) (K2 := mk μ cR t (μ.1 111 22)) rfl rfl (by omega) (fun j hj => mup_n (by omega))) (by decide) (by omega) (fun _ _ => rfl) (fun x y => ⟨fun q => absurd q (by decide), ⟨fun q => absurd q (by decide), fun q => absurd q (by decide)⟩, fun q => absurd q (by decide), fun q => absurd q (by decide), fun q => absurd q (by decide), fun q => absurd q (by decide), fun q => absurd q (by decide), fun q => absurd q (by decide), fun q => absurd q (by decide), fun q => absurd q (by decide), fun q => absurd q (by decide), fun _ => ⟨by rw [x.2.2.2.1, y.2.2.2.1]; exact Int.le_refl _, x.2.1, by rw [x.2.2.2.1, x.2.2.2.2 _ (by omega), show md μ cR t (μ.1 111 22) + 1 - 1 = md μ cR t (μ.1 111 22) by omega]; exact mup_s⟩, fun q => absurd q (by decide), fun q => absurd q (by decide), fun q => absurd q (by decide), fun q => absurd q (by decide), fun q => absurd q (by decide), fun q => absurd q (by decide), fun q => absurd q (by decide), fun q => absurd q (by decide), fun q => absurd q (by decide), ⟨fun q => absurd q (by decide), fun q => absurd q (by decide), fun q => absurd q (by decide)⟩, ⟨by decide, by decide⟩⟩)
  have i9 := i8.ext f.1
  have b9 : cdm μ9 cR (μ5.1 111 22) 1 = 0 := by rw [f.1.2.2 _ 1 k1 i8.1]; exact b8
  have w10 := mWS.aim8 (h := 0) w9 i9 l3 hT3 (by omega) (List.mem_cons_self ..) (by omega) (fun _ _ => rfl) (Z := []) (fun i hi => List.mem_cons.1 hi)
  exact w10.end
