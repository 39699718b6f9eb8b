/-! an array made anew, longer, in its owner's field -/
def rup (ρ : Int → Nat) (b : Int) (q : Nat) : Int → Nat := fun x => if x = b then q else ρ x
def gro (μ : M3) (b n : Int) (f : Int → Int) : M3 := (fun a k => if a = b then f k else μ.1 a k, fun a => if a = b then n else μ.2.1 a, μ.2.2.1 + 1, μ.2.2.2 + n)
def refs_chk : Bool := (List.range NA).all (fun (j : Nat) => !(Nat.blt (LY j) 100) || (List.range (NF (LY j))).all (fun (i : Nat) => !(FT (LY j) i == 3) || SRL.any (fun q => q.1 == (j : Int) && q.2.1 == (i : Int)) || (j == 0 && i == 6) || (j == 32 && i == 10) || (j == 23 && i == 2)))
theorem refs_ok : refs_chk = true := by decide +kernel
def lys_chk : Bool := (List.range NA).all (fun (j : Nat) => Nat.blt (LY j) 104 || (j == 12 && LY j == 104))
theorem lys_ok : lys_chk = true := by decide +kernel
theorem lys {j : Int} (h : 0 ≤ j ∧ j < (NA : Int)) : LY j < 104 ∨ (j = 12 ∧ LY j = 104) := by
  have h1 := List.all_eq_true.mp lys_ok j.toNat (List.mem_range.mpr (by omega))
  rw [Int.toNat_of_nonneg h.1] at h1
  simp only [Bool.or_eq_true, Bool.and_eq_true, beq_iff_eq, Nat.blt_eq] at h1
  rcases h1 with h1 | ⟨h1, h2⟩
  · exact Or.inl h1
  · exact Or.inr ⟨by omega, h2⟩
theorem isPr.rz {p : Int} (h : isPr p) : RZ p = false := by
  rcases h with rfl | rfl | rfl | rfl | rfl <;> rfl
/-- no slot but its owner's holds an array that can be made anew -/
theorem slt_ne {μ : M3} (h : Sr μ) {a k b : Int} (hb : RZ b = true) (hu : ∀ q ∈ SRL, q.2.2 = b → q.1 = a ∧ q.2.1 = k) {j : Int} (hj : 0 ≤ j ∧ j < (NA : Int)) (hl : LY j < 100) {i : Nat} (hi : i < NF (LY j)) (h3 : FT (LY j) i = 3) (hne : ¬ (j = a ∧ (i : Int) = k)) : μ.1 j i ≠ b := by
  have h1 := List.all_eq_true.mp refs_ok j.toNat (List.mem_range.mpr (by omega))
  rw [Int.toNat_of_nonneg hj.1] at h1
  rw [show Nat.blt (LY j) 100 = true from (Nat.blt_eq).mpr hl] at h1
  simp only [Bool.not_true, Bool.false_or] at h1
  have h2 := List.all_eq_true.mp h1 i (List.mem_range.mpr hi)
  rw [h3] at h2
  have pr : ∀ x, isPr x → x ≠ b := fun x hx q => by rw [← q, hx.rz] at hb; cases hb
  simp only [beq_self_eq_true, Bool.not_true, Bool.false_or, Bool.or_eq_true, Bool.and_eq_true, beq_iff_eq] at h2
  rcases h2 with ((h2 | ⟨h2, h4⟩) | ⟨h2, h4⟩) | ⟨h2, h4⟩
  · obtain ⟨q, hq, h5⟩ := List.any_eq_true.mp h2
    simp only [Bool.and_eq_true, beq_iff_eq] at h5
    intro e
    have h6 := h.1 q hq
    rw [h5.1, h5.2, e] at h6
    obtain ⟨e1, e2⟩ := hu q hq h6.symm
    exact hne ⟨by rw [← h5.1]; exact e1, by rw [← h5.2]; exact e2⟩
  · obtain rfl : j = 0 := by omega
    subst h4; exact pr _ h.2.2.2.1
  · obtain rfl : j = 32 := by omega
    subst h4; exact pr _ h.2.2.2.2.1
  · obtain rfl : j = 23 := by omega
    subst h4; exact pr _ h.2.2.2.2.2
theorem ad_rup {ω : Om} {ρ : Int → Nat} {b : Int} {q : Nat} {x : Int} (h : x ≠ b) : ad ω (rup ρ b q) x = ad ω ρ x := by
  unfold ad rup
  rw [if_neg h]
theorem ad_rup_b {ω : Om} {ρ : Int → Nat} {b : Int} {q : Nat} (h : RZ b = true) : ad ω (rup ρ b q) b = q := by
  unfold ad rup
  rw [if_pos rfl, h]
  rfl
theorem cv_rup {ω : Om} {ρ : Int → Nat} {b : Int} {q t : Nat} {x : Int} (h : t = 3 → x ≠ b) (ht : t ≤ 3) : cv ω (rup ρ b q) t x = cv ω ρ t x := by
  match t, ht, h with
  | 0, _, _ => rfl
  | 1, _, _ => rfl
  | 2, _, _ => rfl
  | 3, _, h =>
    show (if x < 0 then Value.null else Value.ref (ad ω (rup ρ b q) x)) = (if x < 0 then Value.null else Value.ref (ad ω ρ x))
    rw [ad_rup (h rfl)]
theorem FT_le_chk : (FTL.all (fun l => l.all (fun t => Nat.ble t 3))) = true := by decide +kernel
theorem FT_le {c i : Nat} (h : i < NF c) : FT c i ≤ 3 := by
  have hF : FT c i = (FTL.getD c []).getD i 9 := rfl
  unfold NF at h
  rw [hF, List.getD_eq_getElem?_getD, List.getElem?_eq_getElem h]
  have h1 : FTL.getD c [] ∈ FTL := by
    by_cases hc : c < FTL.length
    · rw [List.getD_eq_getElem?_getD, List.getElem?_eq_getElem hc]
      exact List.getElem_mem hc
    · rw [List.getD_eq_getElem?_getD, List.getElem?_eq_none (by omega)] at h
      exact absurd h (by simp)
  have h2 := List.all_eq_true.mp (List.all_eq_true.mp FT_le_chk _ h1) _ (List.getElem_mem h)
  exact Nat.le_of_ble_eq_true h2
theorem en_gro {ω : Om} {ρ : Int → Nat} {μ : M3} (h : Sr μ) {a k b n : Int} {q : Nat} {f : Int → Int} (hb : RZ b = true) (hu : ∀ q ∈ SRL, q.2.2 = b → q.1 = a ∧ q.2.1 = k) {j : Int} (hj : 0 ≤ j ∧ j < (NA : Int)) (ha : j ≠ a) (hjb : j ≠ b) : en ω (rup ρ b q) (gro μ b n f) j = en ω ρ μ j := by
  have e1 : (gro μ b n f).1 j = μ.1 j := funext fun i => if_neg hjb
  have e2 : (gro μ b n f).2.1 j = μ.2.1 j := if_neg hjb
  by_cases hl : LY j < 100
  · rw [en_obj ω _ _ rfl hl, en_obj ω _ _ rfl hl, e1]
    congr 2
    apply List.map_congr_left
    intro i hi
    have hi2 := List.mem_range.mp hi
    exact cv_rup (fun h3 => slt_ne h hb hu hj hl hi2 h3 (fun z => ha z.1)) (FT_le hi2)
  · have hL : LY j = 100 + (LY j - 100) := by omega
    rw [en_arr ω _ _ hL, en_arr ω _ _ hL, e1, e2]
    congr 3
    rcases lys hj with h4 | ⟨rfl, h4⟩
    · have : LY j - 100 < 4 := by omega
      match LY j - 100, this with
      | 0, _ => rfl
      | 1, _ => rfl
      | 2, _ => rfl
      | 3, _ => rfl
    · show Sum.inr (Sum.inr (Sum.inr (Sum.inr (fun (i : Nat) => if μ.1 12 i < 0 then none else some (ad ω (rup ρ b q) (μ.1 12 i)))))) = Sum.inr (Sum.inr (Sum.inr (Sum.inr (fun (i : Nat) => if μ.1 12 i < 0 then none else some (ad ω ρ (μ.1 12 i))))))
      congr 4
      funext i
      rw [ad_rup (fun z => by have := (h.2.2.1 i).rz; rw [z, hb] at this; cases this)]
theorem Sr.gro {μ : M3} (h : Sr μ) {b n : Int} {f : Int → Int} (hb : RZ b = true) (hl : 100 ≤ LY b ∧ LY b < 104) (hN : ∀ q ∈ LNL, q.1 ≠ b) : Sr (gro μ b n f) := by
  have key : ∀ c j : Int, LY c < 100 ∨ LY c = 104 → (_root_.Jvm.Pilot.CFourTonguesLaw_law_r5116_030cba.gro μ b n f).1 c j = μ.1 c j := fun c j hc => if_neg (fun z => by rw [z] at hc; omega)
  refine ⟨fun q hq => ?_, fun q hq => ?_, fun j => ?_, ?_, ?_, ?_⟩
  · obtain ⟨h1, h2⟩ := SRL_ok q hq
    rw [key _ _ (Or.inl ((Nat.blt_eq).mp h1))]
    exact h.1 q hq
  · show (if q.1 = b then n else μ.2.1 q.1) = q.2
    rw [if_neg (hN q hq)]; exact h.2.1 q hq
  · rw [key _ _ (Or.inr rfl)]; exact h.2.2.1 j
  · rw [key _ _ (Or.inl (by decide))]; exact h.2.2.2.1
  · rw [key _ _ (Or.inl (by decide))]; exact h.2.2.2.2.1
  · rw [key _ _ (Or.inl (by decide))]; exact h.2.2.2.2.2
