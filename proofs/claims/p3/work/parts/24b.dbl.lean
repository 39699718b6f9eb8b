/-! doubles: a number from 0 to n, cut to a whole one -/
theorem cmpI (a b : Int) : compare a b = (if a < b then Ordering.lt else if a = b then Ordering.eq else Ordering.gt) := rfl
theorem dsm0 {d : FP.Core.Datum} {D n : Nat} {R q0 : Int} (hR : R ≤ 0) (hD : D = n * 2 ^ (-R).toNat) (hn : n ≤ 1000000) (h0 : FP.Core.order d (.fin false 0 q0) = some .eq ∨ FP.Core.order d (.fin false 0 q0) = some .gt) (h1 : FP.Core.order d (.fin false D R) = some .lt ∨ FP.Core.order d (.fin false D R) = some .eq) : 0 ≤ FP.Core.toInt (-2 ^ 31) (2 ^ 31 - 1) d ∧ FP.Core.toInt (-2 ^ 31) (2 ^ 31 - 1) d ≤ (n : Int) := by
  match d, h0, h1 with
  | .nan, h0, _ => rcases h0 with h | h <;> cases h
  | .inf true, h0, _ =>
    rcases h0 with h | h
    · exact absurd (show some Ordering.lt = some Ordering.eq from h) (by decide)
    · exact absurd (show some Ordering.lt = some Ordering.gt from h) (by decide)
  | .inf false, _, h1 =>
    rcases h1 with h | h
    · exact absurd (show some Ordering.gt = some Ordering.lt from h) (by decide)
    · exact absurd (show some Ordering.gt = some Ordering.eq from h) (by decide)
  | .fin true c q, h0, _ =>
    have h2 : ¬ (-((FP.Core.inUnits c q (min q q0) : Nat) : Int)) < ((FP.Core.inUnits 0 q0 (min q q0) : Nat) : Int) := by
      intro hlt
      have e : FP.Core.order (.fin true c q) (.fin false 0 q0) = some .lt := by
        show some (compare (-((FP.Core.inUnits c q (min q q0) : Nat) : Int)) ((FP.Core.inUnits 0 q0 (min q q0) : Nat) : Int)) = _
        rw [cmpI, if_pos hlt]
      rw [e] at h0
      rcases h0 with h | h <;> cases h
    have h3 : FP.Core.inUnits 0 q0 (min q q0) = 0 := by unfold FP.Core.inUnits; exact Nat.zero_mul _
    have h4 : FP.Core.inUnits c q (min q q0) = 0 := by omega
    have h5 : c = 0 := by
      unfold FP.Core.inUnits at h4
      rcases Nat.mul_eq_zero.mp h4 with h | h
      · exact h
      · exact absurd h (Nat.ne_of_gt (Nat.two_pow_pos _))
    subst h5
    have h6 : FP.Core.truncate true 0 q = 0 := by
      unfold FP.Core.truncate FP.Core.signed
      rw [Nat.zero_mul, Nat.zero_div]; rfl
    show 0 ≤ max _ (min _ (FP.Core.truncate true 0 q)) ∧ max _ (min _ (FP.Core.truncate true 0 q)) ≤ _
    rw [h6]; omega
  | .fin false c q, _, h1 =>
    have h2 : ((FP.Core.inUnits c q (min q R) : Nat) : Int) ≤ ((FP.Core.inUnits D R (min q R) : Nat) : Int) := by
      have e : FP.Core.order (.fin false c q) (.fin false D R) = some (compare ((FP.Core.inUnits c q (min q R) : Nat) : Int) ((FP.Core.inUnits D R (min q R) : Nat) : Int)) := rfl
      rw [e, cmpI] at h1
      by_cases hlt : ((FP.Core.inUnits c q (min q R) : Nat) : Int) < ((FP.Core.inUnits D R (min q R) : Nat) : Int)
      · omega
      · by_cases heq : ((FP.Core.inUnits c q (min q R) : Nat) : Int) = ((FP.Core.inUnits D R (min q R) : Nat) : Int)
        · omega
        · rw [if_neg hlt, if_neg heq] at h1
          rcases h1 with h | h <;> cases h
    have h3 : c * 2 ^ (q - min q R).toNat ≤ n * 2 ^ (-R).toNat * 2 ^ (R - min q R).toNat := by
      unfold FP.Core.inUnits at h2
      rw [hD] at h2
      omega
    have h4 : c * 2 ^ q.toNat / 2 ^ (-q).toNat ≤ n := by
      apply Nat.div_le_of_le_mul
      by_cases hq : 0 ≤ q
      · have e1 : (q - min q R).toNat = q.toNat + (-R).toNat := by omega
        have e2 : (R - min q R).toNat = 0 := by omega
        have e3 : (-q).toNat = 0 := by omega
        rw [e1, e2, Nat.pow_zero, Nat.mul_one, Nat.pow_add, ← Nat.mul_assoc] at h3
        rw [e3, Nat.pow_zero, Nat.one_mul]
        exact Nat.le_of_mul_le_mul_right h3 (Nat.two_pow_pos _)
      · have e3 : q.toNat = 0 := by omega
        rw [e3, Nat.pow_zero, Nat.mul_one]
        by_cases hqR : q ≤ R
        · have e1 : (q - min q R).toNat = 0 := by omega
          have e2 : (-q).toNat = (-R).toNat + (R - min q R).toNat := by omega
          rw [e1, Nat.pow_zero, Nat.mul_one] at h3
          rw [e2, Nat.pow_add, Nat.mul_comm, ← Nat.mul_assoc]
          exact h3
        · have e1 : (R - min q R).toNat = 0 := by omega
          have e2 : (-R).toNat = (-q).toNat + (q - min q R).toNat := by omega
          rw [e1, Nat.pow_zero, Nat.mul_one, e2, Nat.pow_add, ← Nat.mul_assoc] at h3
          rw [Nat.mul_comm]
          exact Nat.le_of_mul_le_mul_right h3 (Nat.two_pow_pos _)
    have h5 : FP.Core.truncate false c q = ((c * 2 ^ q.toNat / 2 ^ (-q).toNat : Nat) : Int) := rfl
    show 0 ≤ max _ (min _ (FP.Core.truncate false c q)) ∧ max _ (min _ (FP.Core.truncate false c q)) ≤ _
    rw [h5]
    generalize c * 2 ^ q.toNat / 2 ^ (-q).toNat = t9 at h4 ⊢
    omega
theorem cv_l {o : Option Ordering} {a : Int} (ha : ir a) (h : iv a = Op.cmpValue o .l) (hn : ¬ a < 0) : o = some .eq ∨ o = some .gt := by
  match o, h with
  | none, h => exact absurd ((iv_eq ha (by unfold ir; omega)).mp (h.trans (show Op.cmpValue none .l = iv (-1) from rfl))) (by omega)
  | some .lt, h => exact absurd ((iv_eq ha (by unfold ir; omega)).mp (h.trans (show Op.cmpValue (some .lt) .l = iv (-1) from rfl))) (by omega)
  | some .eq, _ => exact Or.inl rfl
  | some .gt, _ => exact Or.inr rfl
theorem cv_g {o : Option Ordering} {a : Int} (ha : ir a) (h : iv a = Op.cmpValue o .g) (hn : ¬ a > 0) : o = some .lt ∨ o = some .eq := by
  match o, h with
  | none, h => exact absurd ((iv_eq ha (by unfold ir; omega)).mp (h.trans (show Op.cmpValue none .g = iv 1 from rfl))) (by omega)
  | some .gt, h => exact absurd ((iv_eq ha (by unfold ir; omega)).mp (h.trans (show Op.cmpValue (some .gt) .g = iv 1 from rfl))) (by omega)
  | some .eq, _ => exact Or.inr rfl
  | some .lt, _ => exact Or.inl rfl
/-- what a double from 0 to n is cut to -/
theorem dsm {x z0 z : UInt64} {D n : Nat} {R a b y : Int} (hz0 : z0 = 0) (hz : FP.Core.decode FP.Core.b64 z.toNat = .fin false D R) (hR : R ≤ 0) (hD : D = n * 2 ^ (-R).toNat) (hn : n ≤ 1000000) (ha : ir a) (h0 : iv a = Op.cmpValue (FP.dcmp x z0) .l) (ha0 : ¬ a < 0) (hb : ir b) (h1 : iv b = Op.cmpValue (FP.dcmp x z) .g) (hb0 : ¬ b > 0) (hy : ir y) (h2 : iv y = FP.d2i x) : 0 ≤ y ∧ y ≤ (n : Int) := by
  subst hz0
  have e0 : FP.dcmp x 0 = FP.Core.order (FP.Core.decode FP.Core.b64 x.toNat) (.fin false 0 FP.Core.b64.qmin) := rfl
  have e1 : FP.dcmp x z = FP.Core.order (FP.Core.decode FP.Core.b64 x.toNat) (.fin false D R) := by
    show FP.Core.order _ (FP.Core.decode FP.Core.b64 z.toNat) = _
    rw [hz]
  have h5 := dsm0 hR hD hn (by rw [← e0]; exact cv_l ha h0 ha0) (by rw [← e1]; exact cv_g hb h1 hb0)
  have h6 : FP.d2i x = iv (FP.Core.toInt (-2 ^ 31) (2 ^ 31 - 1) (FP.Core.decode FP.Core.b64 x.toNat)) := rfl
  rw [h6] at h2
  have h7 := (iv_eq hy (by unfold ir; omega)).mp h2
  omega
theorem lcm_f (x y : Int) : (x < y ∧ lcm x y = -1) ∨ (x = y ∧ lcm x y = 0) ∨ (y < x ∧ lcm x y = 1) := by
  unfold lcm
  split
  · omega
  · split <;> omega
