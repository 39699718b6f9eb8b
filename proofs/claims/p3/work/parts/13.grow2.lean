/-- the list of all cells but with one made anew -/
theorem gro_world {ω : Om} {ρ : Int → Nat} {μ : M3} {s : State} (hSr : Sr μ) {A : Nat → Prop} {a b n : Int} {k ci t ra : Nat} {f : Int → Int} {H : Heap} (hLYa : LY a = ci) (hci : ci < 100) (hk : k < NF ci) (hFT : FT ci k = 3) (hLYb : LY b = 100 + t) (hRZ : RZ b = true) (hb : μ.1 a k = b) (hu : ∀ q ∈ SRL, q.2.2 = b → q.1 = a ∧ q.2.1 = (k : Int))
    (hP : va_P (ω.1, ω.2.1) vwCl ((wd ω ρ μ ++ ([(ra, .inl (oA ω t, n.toNat, ar ω ρ t f))] : va_W)).set a.toNat (ad ω ρ a, .inr (ci, ((List.range (NF ci)).map (fun (j : Nat) => cv ω ρ (FT ci j) (μ.1 a j))).set k (.ref ra)))) H)
    (hD : va_D A ((wd ω ρ μ ++ ([(ra, .inl (oA ω t, n.toNat, ar ω ρ t f))] : va_W)).set a.toNat (ad ω ρ a, .inr (ci, ((List.range (NF ci)).map (fun (j : Nat) => cv ω ρ (FT ci j) (μ.1 a j))).set k (.ref ra))))) (ht : t < 3) :
    va_P (ω.1, ω.2.1) vwCl (wd ω (rup ρ b ra) (gro μ b n f)) H ∧ va_D A (wd ω (rup ρ b ra) (gro μ b n f)) := by
  have ha := LY_lt (a := a) (by omega)
  have hbn := LY_lt (a := b) (by omega)
  have hab : a ≠ b := fun z => by rw [z] at hLYa; omega
  have hlen : (wd ω ρ μ).length = NA := by unfold wd; rw [List.length_map, List.length_range]
  -- where each cell stands
  have key : ∀ (j : Nat) (q : Nat × va_E), (wd ω (rup ρ b ra) (gro μ b n f))[j]? = some q → ((wd ω ρ μ ++ ([(ra, .inl (oA ω t, n.toNat, ar ω ρ t f))] : va_W)).set a.toNat (ad ω ρ a, .inr (ci, ((List.range (NF ci)).map (fun (j : Nat) => cv ω ρ (FT ci j) (μ.1 a j))).set k (.ref ra))))[if (j : Int) = b then NA else j]? = some q := by
    intro j q hq
    have hj : j < NA := by
      apply Nat.lt_of_not_le
      intro z
      rw [wd_none ω _ _ (by omega)] at hq
      cases hq
    rw [wd_n ω _ _ hj] at hq
    by_cases h1 : (j : Int) = b
    · rw [if_pos h1, List.getElem?_set_ne (by omega), List.getElem?_append_right (by omega), hlen, Nat.sub_self]
      rw [h1, ad_rup_b hRZ, en_arr ω _ _ hLYb] at hq
      have e1 : (gro μ b n f).2.1 b = n := if_pos rfl
      have e2 : (gro μ b n f).1 b = f := funext fun i => if_pos rfl
      rw [e1, e2] at hq
      have e3 : ar ω (rup ρ b ra) t f = ar ω ρ t f := by
        match t, ht with
        | 0, _ => rfl
        | 1, _ => rfl
        | 2, _ => rfl
      rw [e3] at hq
      exact hq
    · rw [if_neg h1]
      by_cases h2 : (j : Int) = a
      · have h3 : j = a.toNat := by omega
        subst h3
        rw [List.getElem?_set_self (by rw [List.length_append, hlen]; omega)]
        rw [h2, ad_rup hab, en_obj ω _ _ hLYa hci] at hq
        rw [← hq]
        congr 4
        apply List.ext_getElem?
        intro i
        by_cases hik : i = k
        · subst hik
          rw [List.getElem?_set_self (by rw [List.length_map, List.length_range]; exact hk), List.getElem?_map, List.getElem?_range hk]
          show _ = some (cv ω (rup ρ b ra) (FT ci (i : Int)) ((gro μ b n f).1 a i))
          have e1 : (gro μ b n f).1 a i = b := (if_neg hab).trans hb
          rw [e1, hFT]
          show _ = some (if b < 0 then Value.null else Value.ref (ad ω (rup ρ b ra) b))
          rw [if_neg (by omega), ad_rup_b hRZ]
        · rw [List.getElem?_set_ne (Ne.symm hik), List.getElem?_map, List.getElem?_map]
          by_cases hi : i < NF ci
          · rw [List.getElem?_range hi]
            show some (cv ω ρ (FT ci (i : Int)) (μ.1 a i)) = some (cv ω (rup ρ b ra) (FT ci (i : Int)) ((gro μ b n f).1 a i))
            have e1 : (gro μ b n f).1 a i = μ.1 a i := if_neg hab
            rw [e1, cv_rup (fun h3 => slt_ne hSr hRZ hu ha (by omega) (by rw [hLYa]; exact hi) (by rw [hLYa]; exact h3) (fun z => hik (by omega))) (FT_le hi)]
          · rw [List.getElem?_eq_none (by rw [List.length_range]; omega)]
            rfl
      · rw [List.getElem?_set_ne (by omega), List.getElem?_append_left (by omega), wd_n ω ρ μ hj]
        rw [ad_rup h1, en_gro hSr hRZ hu ⟨by omega, by omega⟩ h2 h1] at hq
        exact hq
  refine ⟨fun j q hq => hP _ q (key j q hq), fun i j x y hi hj hxy => ?_, fun j q hq => hD.2 _ q (key j q hq)⟩
  have h1 := hD.1 _ _ x y (key i x hi) (key j y hj) hxy
  have hi2 : i < NA := by
    apply Nat.lt_of_not_le
    intro z
    rw [wd_none ω _ _ (by omega)] at hi
    cases hi
  have hj2 : j < NA := by
    apply Nat.lt_of_not_le
    intro z
    rw [wd_none ω _ _ (by omega)] at hj
    cases hj
  by_cases e1 : (i : Int) = b <;> by_cases e2 : (j : Int) = b
  · omega
  · rw [if_pos e1, if_neg e2] at h1; omega
  · rw [if_neg e1, if_pos e2] at h1; omega
  · rw [if_neg e1, if_neg e2] at h1; exact h1
theorem Rg.gro {μ : M3} (h : Rg μ) {b n : Int} {f : Int → Int} (hn : 0 ≤ n ∧ n ≤ 2147483647) (h0 : (ty b 0 = 0 ∨ ty b 0 = 3) → ∀ k, ir (f k)) (h1 : ty b 0 = 1 → ∀ k, jr (f k)) (hl : 100 ≤ LY b) : Rg (_root_.Jvm.Pilot.CFourTonguesLaw_law_r5116_030cba.gro μ b n f) := by
  have ht : ∀ k, ty b k = ty b 0 := by
    intro k
    unfold ty
    rw [show Nat.blt (LY b) 100 = false from by rw [Bool.eq_false_iff]; intro q; have := (Nat.blt_eq).mp q; omega]
    rfl
  refine ⟨fun a k hk => ?_, fun a k hk => ?_, fun a => ?_⟩
  · show ir (if a = b then f k else μ.1 a k)
    by_cases e : a = b
    · rw [if_pos e]; exact h0 (by rw [e, ht] at hk; exact hk) k
    · rw [if_neg e]; exact h.1 a k hk
  · show jr (if a = b then f k else μ.1 a k)
    by_cases e : a = b
    · rw [if_pos e]; exact h1 (by rw [e, ht] at hk; exact hk) k
    · rw [if_neg e]; exact h.2.1 a k hk
  · show 0 ≤ (if a = b then n else μ.2.1 a) ∧ (if a = b then n else μ.2.1 a) ≤ 2147483647
    by_cases e : a = b
    · rw [if_pos e]; exact hn
    · rw [if_neg e]; exact h.2.2 a
