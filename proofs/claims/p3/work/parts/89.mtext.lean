abbrev cX12_kind : ByteArray := prog_14_method_35_code
def yX12_kind : MethodName := ⟨RX12, "kind", "()V"⟩
abbrev cX12_isUnderNew : ByteArray := prog_14_method_36_code
def yX12_isUnderNew : MethodName := ⟨RX12, "isUnderNew", "(II)Z"⟩
abbrev cX12_params : ByteArray := prog_14_method_38_code
def yX12_params : MethodName := ⟨RX12, "params", "()V"⟩
theorem dX12_kind_0 : decode cX12_kind 0 = .ok (.aload_n 0, 1) := by decide +kernel
theorem dX12_kind_1 : decode cX12_kind 1 = .ok (.invokevirtual 346, 3) := by decide +kernel
theorem dX12_kind_4 : decode cX12_kind 4 = .ok (.istore_n 1, 1) := by decide +kernel
theorem dX12_kind_5 : decode cX12_kind 5 = .ok (.aload_n 0, 1) := by decide +kernel
theorem dX12_kind_6 : decode cX12_kind 6 = .ok (.iconst 1, 1) := by decide +kernel
theorem dX12_kind_7 : decode cX12_kind 7 = .ok (.invokevirtual 349, 3) := by decide +kernel
theorem dX12_kind_10 : decode cX12_kind 10 = .ok (.aload_n 0, 1) := by decide +kernel
theorem dX12_kind_11 : decode cX12_kind 11 = .ok (.getfield 222, 3) := by decide +kernel
theorem dX12_kind_14 : decode cX12_kind 14 = .ok (.istore_n 2, 1) := by decide +kernel
theorem dX12_kind_15 : decode cX12_kind 15 = .ok (.aload_n 0, 1) := by decide +kernel
theorem dX12_kind_16 : decode cX12_kind 16 = .ok (.invokevirtual 346, 3) := by decide +kernel
theorem dX12_kind_19 : decode cX12_kind 19 = .ok (.istore_n 3, 1) := by decide +kernel
theorem dX12_kind_20 : decode cX12_kind 20 = .ok (.aload_n 0, 1) := by decide +kernel
theorem dX12_kind_21 : decode cX12_kind 21 = .ok (.bipush 59, 2) := by decide +kernel
theorem dX12_kind_23 : decode cX12_kind 23 = .ok (.invokevirtual 313, 3) := by decide +kernel
theorem dX12_kind_26 : decode cX12_kind 26 = .ok (.aload_n 0, 1) := by decide +kernel
theorem dX12_kind_27 : decode cX12_kind 27 = .ok (.invokevirtual 215, 3) := by decide +kernel
theorem dX12_kind_30 : decode cX12_kind 30 = .ok (.ifCond .eq 4, 3) := by decide +kernel
theorem dX12_kind_33 : decode cX12_kind 33 = .ok (.return_, 1) := by decide +kernel
theorem dX12_kind_34 : decode cX12_kind 34 = .ok (.aload_n 0, 1) := by decide +kernel
theorem dX12_kind_35 : decode cX12_kind 35 = .ok (.iload_n 3, 1) := by decide +kernel
theorem dX12_kind_36 : decode cX12_kind 36 = .ok (.iload_n 1, 1) := by decide +kernel
theorem dX12_kind_37 : decode cX12_kind 37 = .ok (.invokevirtual 352, 3) := by decide +kernel
theorem dX12_kind_40 : decode cX12_kind 40 = .ok (.ifCond .eq 11, 3) := by decide +kernel
theorem dX12_kind_43 : decode cX12_kind 43 = .ok (.aload_n 0, 1) := by decide +kernel
theorem dX12_kind_44 : decode cX12_kind 44 = .ok (.iload_n 2, 1) := by decide +kernel
theorem dX12_kind_45 : decode cX12_kind 45 = .ok (.invokevirtual 356, 3) := by decide +kernel
theorem dX12_kind_48 : decode cX12_kind 48 = .ok (.goto 10, 3) := by decide +kernel
theorem dX12_kind_51 : decode cX12_kind 51 = .ok (.aload_n 0, 1) := by decide +kernel
theorem dX12_kind_52 : decode cX12_kind 52 = .ok (.getfield 45, 3) := by decide +kernel
theorem dX12_kind_55 : decode cX12_kind 55 = .ok (.iload_n 1, 1) := by decide +kernel
theorem dX12_kind_56 : decode cX12_kind 56 = .ok (.iload_n 3, 1) := by decide +kernel
theorem dX12_kind_57 : decode cX12_kind 57 = .ok (.iastore, 1) := by decide +kernel
theorem dX12_kind_58 : decode cX12_kind 58 = .ok (.return_, 1) := by decide +kernel
theorem dX12_isUnderNew_0 : decode cX12_isUnderNew 0 = .ok (.iload_n 1, 1) := by decide +kernel
theorem dX12_isUnderNew_1 : decode cX12_isUnderNew 1 = .ok (.istore_n 3, 1) := by decide +kernel
theorem dX12_isUnderNew_2 : decode cX12_isUnderNew 2 = .ok (.iload_n 3, 1) := by decide +kernel
theorem dX12_isUnderNew_3 : decode cX12_isUnderNew 3 = .ok (.iconst (-1), 1) := by decide +kernel
theorem dX12_isUnderNew_4 : decode cX12_isUnderNew 4 = .ok (.if_icmp .eq 18, 3) := by decide +kernel
theorem dX12_isUnderNew_7 : decode cX12_isUnderNew 7 = .ok (.iload_n 3, 1) := by decide +kernel
theorem dX12_isUnderNew_8 : decode cX12_isUnderNew 8 = .ok (.iload_n 2, 1) := by decide +kernel
theorem dX12_isUnderNew_9 : decode cX12_isUnderNew 9 = .ok (.if_icmp .eq 13, 3) := by decide +kernel
theorem dX12_isUnderNew_12 : decode cX12_isUnderNew 12 = .ok (.aload_n 0, 1) := by decide +kernel
theorem dX12_isUnderNew_13 : decode cX12_isUnderNew 13 = .ok (.getfield 45, 3) := by decide +kernel
theorem dX12_isUnderNew_16 : decode cX12_isUnderNew 16 = .ok (.iload_n 3, 1) := by decide +kernel
theorem dX12_isUnderNew_17 : decode cX12_isUnderNew 17 = .ok (.iaload, 1) := by decide +kernel
theorem dX12_isUnderNew_18 : decode cX12_isUnderNew 18 = .ok (.istore_n 3, 1) := by decide +kernel
theorem dX12_isUnderNew_19 : decode cX12_isUnderNew 19 = .ok (.goto (-17), 3) := by decide +kernel
theorem dX12_isUnderNew_22 : decode cX12_isUnderNew 22 = .ok (.iload_n 3, 1) := by decide +kernel
theorem dX12_isUnderNew_23 : decode cX12_isUnderNew 23 = .ok (.iload_n 2, 1) := by decide +kernel
theorem dX12_isUnderNew_24 : decode cX12_isUnderNew 24 = .ok (.if_icmp .ne 7, 3) := by decide +kernel
theorem dX12_isUnderNew_27 : decode cX12_isUnderNew 27 = .ok (.iconst 1, 1) := by decide +kernel
theorem dX12_isUnderNew_28 : decode cX12_isUnderNew 28 = .ok (.goto 4, 3) := by decide +kernel
theorem dX12_isUnderNew_31 : decode cX12_isUnderNew 31 = .ok (.iconst 0, 1) := by decide +kernel
theorem dX12_isUnderNew_32 : decode cX12_isUnderNew 32 = .ok (.ireturn, 1) := by decide +kernel
theorem dX12_params_0 : decode cX12_params 0 = .ok (.aload_n 0, 1) := by decide +kernel
theorem dX12_params_1 : decode cX12_params 1 = .ok (.bipush 40, 2) := by decide +kernel
theorem dX12_params_3 : decode cX12_params 3 = .ok (.invokevirtual 378, 3) := by decide +kernel
theorem dX12_params_6 : decode cX12_params 6 = .ok (.aload_n 0, 1) := by decide +kernel
theorem dX12_params_7 : decode cX12_params 7 = .ok (.bipush 41, 2) := by decide +kernel
theorem dX12_params_9 : decode cX12_params 9 = .ok (.invokevirtual 292, 3) := by decide +kernel
theorem dX12_params_12 : decode cX12_params 12 = .ok (.ifCond .ne 97, 3) := by decide +kernel
theorem dX12_params_15 : decode cX12_params 15 = .ok (.iconst 1, 1) := by decide +kernel
theorem dX12_params_16 : decode cX12_params 16 = .ok (.istore_n 1, 1) := by decide +kernel
theorem dX12_params_17 : decode cX12_params 17 = .ok (.iload_n 1, 1) := by decide +kernel
theorem dX12_params_18 : decode cX12_params 18 = .ok (.ifCond .eq 91, 3) := by decide +kernel
theorem dX12_params_21 : decode cX12_params 21 = .ok (.aload_n 0, 1) := by decide +kernel
theorem dX12_params_22 : decode cX12_params 22 = .ok (.invokevirtual 215, 3) := by decide +kernel
theorem dX12_params_25 : decode cX12_params 25 = .ok (.ifCond .ne 84, 3) := by decide +kernel
theorem dX12_params_28 : decode cX12_params 28 = .ok (.aload_n 0, 1) := by decide +kernel
theorem dX12_params_29 : decode cX12_params 29 = .ok (.getfield 222, 3) := by decide +kernel
theorem dX12_params_32 : decode cX12_params 32 = .ok (.istore_n 2, 1) := by decide +kernel
theorem dX12_params_33 : decode cX12_params 33 = .ok (.aload_n 0, 1) := by decide +kernel
theorem dX12_params_34 : decode cX12_params 34 = .ok (.invokevirtual 329, 3) := by decide +kernel
theorem dX12_params_37 : decode cX12_params 37 = .ok (.lstore_n 3, 1) := by decide +kernel
theorem dX12_params_38 : decode cX12_params 38 = .ok (.aload_n 0, 1) := by decide +kernel
theorem dX12_params_39 : decode cX12_params 39 = .ok (.invokevirtual 215, 3) := by decide +kernel
theorem dX12_params_42 : decode cX12_params 42 = .ok (.ifCond .eq 4, 3) := by decide +kernel
theorem dX12_params_45 : decode cX12_params 45 = .ok (.return_, 1) := by decide +kernel
theorem dX12_params_46 : decode cX12_params 46 = .ok (.aload_n 0, 1) := by decide +kernel
theorem dX12_params_47 : decode cX12_params 47 = .ok (.lload_n 3, 1) := by decide +kernel
theorem dX12_params_48 : decode cX12_params 48 = .ok (.invokevirtual 381, 3) := by decide +kernel
theorem dX12_params_51 : decode cX12_params 51 = .ok (.iconst (-1), 1) := by decide +kernel
theorem dX12_params_52 : decode cX12_params 52 = .ok (.if_icmp .eq 8, 3) := by decide +kernel
theorem dX12_params_55 : decode cX12_params 55 = .ok (.aload_n 0, 1) := by decide +kernel
theorem dX12_params_56 : decode cX12_params 56 = .ok (.iload_n 2, 1) := by decide +kernel
theorem dX12_params_57 : decode cX12_params 57 = .ok (.invokevirtual 356, 3) := by decide +kernel
theorem dX12_params_60 : decode cX12_params 60 = .ok (.aload_n 0, 1) := by decide +kernel
theorem dX12_params_61 : decode cX12_params 61 = .ok (.getfield 362, 3) := by decide +kernel
theorem dX12_params_64 : decode cX12_params 64 = .ok (.iconst 4, 1) := by decide +kernel
theorem dX12_params_65 : decode cX12_params 65 = .ok (.if_icmp .ne 8, 3) := by decide +kernel
theorem dX12_params_68 : decode cX12_params 68 = .ok (.aload_n 0, 1) := by decide +kernel
theorem dX12_params_69 : decode cX12_params 69 = .ok (.iload_n 2, 1) := by decide +kernel
theorem dX12_params_70 : decode cX12_params 70 = .ok (.invokevirtual 359, 3) := by decide +kernel
theorem dX12_params_73 : decode cX12_params 73 = .ok (.aload_n 0, 1) := by decide +kernel
theorem dX12_params_74 : decode cX12_params 74 = .ok (.getfield 362, 3) := by decide +kernel
theorem dX12_params_77 : decode cX12_params 77 = .ok (.sipush 300, 3) := by decide +kernel
theorem dX12_params_80 : decode cX12_params 80 = .ok (.if_icmp .ge 9, 3) := by decide +kernel
theorem dX12_params_83 : decode cX12_params 83 = .ok (.aload_n 0, 1) := by decide +kernel
theorem dX12_params_84 : decode cX12_params 84 = .ok (.lload_n 3, 1) := by decide +kernel
theorem dX12_params_85 : decode cX12_params 85 = .ok (.invokevirtual 384, 3) := by decide +kernel
theorem dX12_params_88 : decode cX12_params 88 = .ok (.pop, 1) := by decide +kernel
theorem dX12_params_89 : decode cX12_params 89 = .ok (.aload_n 0, 1) := by decide +kernel
theorem dX12_params_90 : decode cX12_params 90 = .ok (.dup, 1) := by decide +kernel
theorem dX12_params_91 : decode cX12_params 91 = .ok (.getfield 365, 3) := by decide +kernel
theorem dX12_params_94 : decode cX12_params 94 = .ok (.iconst 1, 1) := by decide +kernel
theorem dX12_params_95 : decode cX12_params 95 = .ok (.iadd, 1) := by decide +kernel
theorem dX12_params_96 : decode cX12_params 96 = .ok (.putfield 365, 3) := by decide +kernel
theorem dX12_params_99 : decode cX12_params 99 = .ok (.aload_n 0, 1) := by decide +kernel
theorem dX12_params_100 : decode cX12_params 100 = .ok (.bipush 44, 2) := by decide +kernel
theorem dX12_params_102 : decode cX12_params 102 = .ok (.invokevirtual 301, 3) := by decide +kernel
theorem dX12_params_105 : decode cX12_params 105 = .ok (.istore_n 1, 1) := by decide +kernel
theorem dX12_params_106 : decode cX12_params 106 = .ok (.goto (-89), 3) := by decide +kernel
theorem dX12_params_109 : decode cX12_params 109 = .ok (.aload_n 0, 1) := by decide +kernel
theorem dX12_params_110 : decode cX12_params 110 = .ok (.bipush 41, 2) := by decide +kernel
theorem dX12_params_112 : decode cX12_params 112 = .ok (.invokevirtual 387, 3) := by decide +kernel
theorem dX12_params_115 : decode cX12_params 115 = .ok (.return_, 1) := by decide +kernel
/-- the rank of a name, -1 below all -/
def mrk (rk : Int → Nat) (k : Int) : Int := if k = -1 then 0 else (rk k : Int) + 1
theorem mrk_0 {rk : Int → Nat} {k : Int} : 0 ≤ mrk rk k := by
  unfold mrk
  split <;> omega
theorem mrk_lt {rk : Int → Nat} {μ : M3} {a k n : Int} (hk : 1 ≤ k) (h : μ.1 a k = -1 ∨ (1 ≤ μ.1 a k ∧ μ.1 a k < n ∧ rk (μ.1 a k) < rk k)) : mrk rk (μ.1 a k) < mrk rk k := by
  unfold mrk
  rw [if_neg (show ¬ k = -1 by omega)]
  rcases h with h | h
  · rw [if_pos h]; omega
  · rw [if_neg (by omega)]; omega
def gUp (μ : M3) (b a k : Int) : Prop := (k = -1 ∧ ∀ m, ¬ goesUp μ 123 b a m) ∨ (1 ≤ k ∧ ∀ m, goesUp μ 123 b a m → ∃ n, goesUp μ 123 k a n)
theorem gUp.st {μ : M3} {b a k : Int} (h : gUp μ b a k) (h1 : k ≠ -1) (h2 : k ≠ a) (hz : μ.1 123 k = -1 ∨ 1 ≤ μ.1 123 k) : gUp μ b a (μ.1 123 k) := by
  rcases h with h | ⟨h, g⟩
  · exact absurd h.1 h1
  · have key : ∀ m, goesUp μ 123 b a m → 1 ≤ μ.1 123 k ∧ ∃ n, goesUp μ 123 (μ.1 123 k) a n := fun m hm => by
      obtain ⟨n, hn⟩ := g m hm
      cases n with
      | zero => exact absurd hn h2
      | succ n =>
        rcases hn with e | ⟨z, e, e2, e3⟩
        · exact absurd e h2
        · rw [e]; exact ⟨e2, n, e3⟩
    rcases hz with hz | hz
    · exact Or.inl ⟨hz, fun m hm => by have := (key m hm).1; omega⟩
    · exact Or.inr ⟨hz, fun m hm => (key m hm).2⟩
theorem gUp.en {μ : M3} {b a k : Int} (h : gUp μ b a k) (hk : k = -1) : ∀ m, ¬ goesUp μ 123 b a m := by
  rcases h with h | h
  · exact h.2
  · exact absurd h.1 (by omega)
theorem PM.set {μ : M3} {a b : Int} (q : PM μ) (ha : 1 ≤ a ∧ a < μ.1 111 29) (hb : 1 ≤ b ∧ b < μ.1 111 29) (hn : ∀ m, ¬ goesUp μ 123 b a m) : PM (sv μ 123 a b) := by
  have e : ∀ k, (sv μ 123 a b).1 111 k = μ.1 111 k := fun k => sv_n _ (fun z => absurd z.1 (by decide))
  refine ⟨q.1.cg (fun k _ => e k), ?_, ?_⟩
  · rw [e, e]; exact q.2.1
  · rw [e]
    exact q.2.2.set ha hb (sv_s _ _ _ _) (fun j hj => sv_n _ (fun z => hj z.2)) hn
set_option maxHeartbeats 4000000 in
set_option maxRecDepth 100000 in
theorem c_X12_isUnderNew (ω : Om) (l : Launch) (μ : M3) (x1 : Int) (x2 : Int) (hx1 : ir x1) (hx2 : ir x2) (hPM : PM μ) (hb : 1 ≤ x1 ∧ x1 < μ.1 111 29) (ha : 1 ≤ x2 ∧ x2 < μ.1 111 29) : CtI ω l yX12_isUnderNew cX12_isUnderNew 4 .boolean 0 0 [.ref (oP ω 111), .int (iv x1), .int (iv x2)] μ (fun (r : Int) (μ' : M3) => (μ' = μ) ∧ (0 ≤ r ∧ r ≤ 1) ∧ (∀ _ : Unit, r = 0 → ∀ m, ¬ goesUp μ 123 x1 x2 m)) := by
  refine CtI.go (by decide) (Nat.le_of_ble_eq_true rfl) (fun ρ p e s m below meth c R ls G hR hret hlk hl => ?_)
  have hx := G.1.1
  have hb := G.1.2.1
  have hl : lv_has ls 4 [(0, .ref (oP ω 111)), (1, .int (iv x1)), (2, .int (iv x2))] := hl
  generalize s.drawn = d0 at G ⊢
  have hr_x1 : -2147483648 ≤ x1 ∧ x1 ≤ 2147483647 := hx1
  have hr_x2 : -2147483648 ≤ x2 ∧ x2 ≤ 2147483647 := hx2
  have hpp_ := hPM.1.2.1
  have hpn_ := hPM.2.1
  have hpt_ := hPM.1.2.2.2.1
  have hpw_ := hPM.1.2.2.2.2.1
  have hpa_ := hPM.1.1
  obtain ⟨rk, hrk⟩ := hPM.2.2
  have hn5_ := hPM.2.1
  refine lv_iload_n hx hb dX12_isUnderNew_0 rfl (lv_at hl 1 rfl) ?_
  refine lv_istore_n (lv' := [(3, .int (iv x1)), (0, .ref (oP ω 111)), (1, .int (iv x1)), (2, .int (iv x2))]) hx hb dX12_isUnderNew_1 rfl hl (by decide) rfl (fun ls hl => ?_)
  refine xl (fun n_9 μ' ls => ∃ (k9 : Int), (μ' = μ) ∧ (-2147483648 ≤ k9 ∧ k9 ≤ 2147483647) ∧ (k9 = -1 ∨ (1 ≤ k9 ∧ k9 < μ.1 111 29)) ∧ (gUp μ x1 x2 k9) ∧ n_9 = Int.toNat (mrk rk k9) ∧ lv_has ls 4 [(3, .int (iv k9)), (0, .ref (oP ω 111)), (1, .int (iv x1)), (2, .int (iv x2))]) (fun n_9 ρ μL1 d0 H locs ls hI_l G ih => ?_) _ _ _ _ _ _ _ ⟨x1, rfl, (by omega), (by omega), (Or.inr ⟨by omega, fun m hm => ⟨m, hm⟩⟩), rfl, lv_sub hl [0, 1, 2, 3] rfl⟩ G
  obtain ⟨k9, FL2, hi_4, hi_5, hi_6, hn3, hl⟩ := hI_l
  have FL2 := Eq.symm FL2
  subst FL2
  refine lv_iload_n hx hb dX12_isUnderNew_2 rfl (lv_at hl 0 rfl) ?_
  refine lv_iconst (v := iv (-1)) hx hb dX12_isUnderNew_3 rfl ?_
  refine xb_icmp_eq (tgt := 22) hx hb (by unfold ir; omega) (by unfold ir; omega) dX12_isUnderNew_4 (by decide) (fun c_4 => ?_) (fun c_4 => ?_)
  · refine lv_iload_n hx hb dX12_isUnderNew_22 rfl (lv_at hl 0 rfl) ?_
    refine lv_iload_n hx hb dX12_isUnderNew_23 rfl (lv_at hl 3 rfl) ?_
    refine xb_icmp_ne (tgt := 31) hx hb (by unfold ir; omega) (by unfold ir; omega) dX12_isUnderNew_24 (by decide) (fun c_24 => ?_) (fun c_24 => ?_)
    · refine lv_iconst (v := iv 0) hx hb dX12_isUnderNew_31 rfl ?_
      exact xr_i G (x := 0) hret hlk (by unfold ir; omega) (zr (by omega)) dX12_isUnderNew_32 ⟨rfl, (by omega), (fun _ h1 => gUp.en hi_6 (by omega))⟩
    · refine lv_iconst (v := iv 1) hx hb dX12_isUnderNew_27 rfl ?_
      refine lv_goto (tgt := 32) hx hb dX12_isUnderNew_28 (by decide) ?_
      exact xr_i G (x := 1) hret hlk (by unfold ir; omega) (zr (by omega)) dX12_isUnderNew_32 ⟨rfl, (by omega), (fun _ h1 => absurd h1 (by decide))⟩
  · refine lv_iload_n hx hb dX12_isUnderNew_7 rfl (lv_at hl 0 rfl) ?_
    refine lv_iload_n hx hb dX12_isUnderNew_8 rfl (lv_at hl 3 rfl) ?_
    refine xb_icmp_eq (tgt := 22) hx hb (by unfold ir; omega) (by unfold ir; omega) dX12_isUnderNew_9 (by decide) (fun c_9 => ?_) (fun c_9 => ?_)
    · refine lv_iload_n hx hb dX12_isUnderNew_22 rfl (lv_at hl 0 rfl) ?_
      refine lv_iload_n hx hb dX12_isUnderNew_23 rfl (lv_at hl 3 rfl) ?_
      refine xb_icmp_ne (tgt := 31) hx hb (by unfold ir; omega) (by unfold ir; omega) dX12_isUnderNew_24 (by decide) (fun c_24 => ?_) (fun c_24 => ?_)
      · refine lv_iconst (v := iv 0) hx hb dX12_isUnderNew_31 rfl ?_
        exact xr_i G (x := 0) hret hlk (by unfold ir; omega) (zr (by omega)) dX12_isUnderNew_32 ⟨rfl, (by omega), (fun _ h1 => gUp.en hi_6 (by omega))⟩
      · refine lv_iconst (v := iv 1) hx hb dX12_isUnderNew_27 rfl ?_
        refine lv_goto (tgt := 32) hx hb dX12_isUnderNew_28 (by decide) ?_
        exact xr_i G (x := 1) hret hlk (by unfold ir; omega) (zr (by omega)) dX12_isUnderNew_32 ⟨rfl, (by omega), (fun _ h1 => absurd h1 (by decide))⟩
    · have hz_ := hrk k9 (by omega) (by omega)
      have hm_ := mrk_lt (by omega) hz_
      have hm0_ : 0 ≤ mrk rk (μ.1 123 k9) := mrk_0
      refine lv_aload_n hx hb dX12_isUnderNew_12 rfl (lv_at hl 1 rfl) ?_
      refine xa_getr G fd_X12 (a := 111) (x := 123) 28 rfl (by decide) rfl (wm 7 177 rfl rfl) ⟨rfl, rfl, rfl⟩ dX12_isUnderNew_13 rfl (G.sk 121 rfl) (by decide) rfl ?_
      refine lv_iload_n hx hb dX12_isUnderNew_16 rfl (lv_at hl 0 rfl) ?_
      refine xa_iald G (a := 123) (i := k9) rfl (by have h9 := G.lc (a := 123) (n := 64) 61 rfl; omega) dX12_isUnderNew_17 rfl ?_
      have hr_7 : -2147483648 ≤ μ.1 123 k9 ∧ μ.1 123 k9 ≤ 2147483647 := by have h9 := G.hr (a := 123) (k := k9) rfl; exact h9
      refine lv_istore_n (lv' := [(3, .int (iv (μ.1 123 k9))), (0, .ref (oP ω 111)), (1, .int (iv x1)), (2, .int (iv x2))]) hx hb dX12_isUnderNew_18 rfl hl (by decide) rfl (fun ls hl => ?_)
      refine lv_goto (tgt := 2) hx hb dX12_isUnderNew_19 (by decide) ?_
      exact ih _ _ _ _ _ _ _ (by omega) ⟨μ.1 123 k9, rfl, (by omega), (by omega), (gUp.st hi_6 (by omega) (by omega) (by omega)), rfl, lv_sub hl [0, 1, 2, 3] rfl⟩ G

set_option maxHeartbeats 4000000 in
set_option maxRecDepth 100000 in
theorem c_X12_kind (ω : Om) (l : Launch) (μ : M3) (hPM : PM μ) (hnn : 0 ≤ nn μ ∧ nn μ ≤ 9 ∧ 9 * wr μ ≤ nn μ) : CtV ω l yX12_kind cX12_kind 4 9 198 [.ref (oP ω 111)] μ (fun (μ' : M3) => (FrM [111, 113, 123] μ μ') ∧ (∀ j, j ∉ ([6, 8, 9, 10, 11, 12, 13, 15, 16, 17, 29] : List Int) → μ'.1 111 j = μ.1 111 j) ∧ (PM μ') ∧ (μ.1 111 9 ≤ μ'.1 111 9) ∧ (μ.1 111 29 ≤ μ'.1 111 29) ∧ (wr μ ≤ wr μ' ∧ bd μ ≤ bd μ') ∧ (nn μ ≤ nn μ' ∧ nn μ' ≤ nn μ + 9 * wr μ' ∧ nn μ' ≤ 9 ∧ 9 * wr μ' ≤ nn μ')) := by
  refine CtV.go (by decide) (Nat.le_of_ble_eq_true rfl) (fun ρ p e s m below meth c R ls G hR hret hlk hl => ?_)
  have hx := G.1.1
  have hb := G.1.2.1
  have hl : lv_has ls 4 [(0, .ref (oP ω 111))] := hl
  generalize s.drawn = d0 at G ⊢
  have hw_0 := wr_r (μ := μ)
  have hpp_ := hPM.1.2.1
  have hpn_ := hPM.2.1
  have hpt_ := hPM.1.2.2.2.1
  have hpw_ := hPM.1.2.2.2.2.1
  have hpa_ := hPM.1.1
  refine lv_aload_n hx hb dX12_kind_0 rfl (lv_at hl 0 rfl) ?_
  refine xc_iV G (b := 111) (rest := []) (As := []) (c_X12_takesKind ω l μ  hPM (by omega)) (wm 9 203 rfl rfl) (wm 9 205 rfl rfl) (wm 0 163 rfl rfl) rfl rfl (by decide) rfl (wm 1 18 rfl rfl) (wm 9 206 rfl rfl) (by decide) hR (by decide) (n := 0) rfl rfl (Nat.le_of_ble_eq_true rfl) hl.1 dX12_kind_1 (fun r_2 μ1 ρ d0 H locs hr_r_2 hp G => ?_)
  have hr_r_2 : -2147483648 ≤ r_2 ∧ r_2 ≤ 2147483647 := hr_r_2
  obtain ⟨F_3, hp_4, hp_5, hp_6, hp_7, hp_8, hp_9, hp_10, hp_11⟩ := hp
  have hpl_12 := hp_5.pl
  have hw_13 := wr_r (μ := μ1)
  refine lv_istore_n (lv' := [(1, .int (iv r_2)), (0, .ref (oP ω 111))]) hx hb dX12_kind_4 rfl hl (by decide) rfl (fun ls hl => ?_)
  refine lv_aload_n hx hb dX12_kind_5 rfl (lv_at hl 1 rfl) ?_
  refine lv_iconst (v := iv 1) hx hb dX12_kind_6 rfl ?_
  refine xc_vV G (b := 111) (rest := []) (As := [.int (iv 1)]) (c_X12_wantsWord ω l μ1 1 (by unfold ir; omega) hp_5 (by omega)) (wm 10 27 rfl rfl) (wm 10 29 rfl rfl) (wm 0 178 rfl rfl) rfl rfl (by decide) rfl (wm 1 18 rfl rfl) (wm 10 30 rfl rfl) (by decide) hR (by decide) (n := 1) rfl rfl (Nat.le_of_ble_eq_true rfl) hl.1 dX12_kind_7 (fun μ14 ρ d0 H locs hp G => ?_)
  obtain ⟨F_15, hp_16, hp_17, hp_18, hp_19, hp_20, hp_21⟩ := hp
  have hpl_22 := hp_17.pl
  have hw_23 := wr_r (μ := μ14)
  refine lv_aload_n hx hb dX12_kind_10 rfl (lv_at hl 1 rfl) ?_
  refine xa_geti G fd_X12 (a := 111) (x := μ14.1 111 9) 9 rfl (by decide) rfl (wm 7 158 rfl rfl) ⟨rfl, rfl, rfl⟩ dX12_kind_11 rfl rfl ?_
  have hr_24 : -2147483648 ≤ μ14.1 111 9 ∧ μ14.1 111 9 ≤ 2147483647 := by have h9 := G.hr (a := 111) (k := 9) rfl; exact h9
  refine lv_istore_n (lv' := [(2, .int (iv (μ14.1 111 9))), (1, .int (iv r_2)), (0, .ref (oP ω 111))]) hx hb dX12_kind_14 rfl hl (by decide) rfl (fun ls hl => ?_)
  refine lv_aload_n hx hb dX12_kind_15 rfl (lv_at hl 2 rfl) ?_
  have e_25 : μ14.1 111 29 = μ1.1 111 29 := (hp_16 29 (by decide))
  refine xc_iV G (b := 111) (rest := []) (As := []) (c_X12_takesKind ω l μ14  hp_17 (by omega)) (wm 9 203 rfl rfl) (wm 9 205 rfl rfl) (wm 0 163 rfl rfl) rfl rfl (by decide) rfl (wm 1 18 rfl rfl) (wm 9 206 rfl rfl) (by decide) hR (by decide) (n := 0) rfl rfl (Nat.le_of_ble_eq_true rfl) hl.1 dX12_kind_16 (fun r_27 μ26 ρ d0 H locs hr_r_27 hp G => ?_)
  have hr_r_27 : -2147483648 ≤ r_27 ∧ r_27 ≤ 2147483647 := hr_r_27
  obtain ⟨F_28, hp_29, hp_30, hp_31, hp_32, hp_33, hp_34, hp_35, hp_36⟩ := hp
  have hpl_37 := hp_30.pl
  have hw_38 := wr_r (μ := μ26)
  refine lv_istore_n (lv' := [(3, .int (iv r_27)), (2, .int (iv (μ14.1 111 9))), (1, .int (iv r_2)), (0, .ref (oP ω 111))]) hx hb dX12_kind_19 rfl hl (by decide) rfl (fun ls hl => ?_)
  refine lv_aload_n hx hb dX12_kind_20 rfl (lv_at hl 3 rfl) ?_
  refine lv_bipush (v := iv 59) hx hb dX12_kind_21 rfl ?_
  refine xc_vV G (b := 111) (rest := []) (As := [.int (iv 59)]) (c_X12_wantsSign ω l μ26 59 (by unfold ir; omega) hp_30 (by omega)) (wm 9 114 rfl rfl) (wm 9 116 rfl rfl) (wm 0 141 rfl rfl) rfl rfl (by decide) rfl (wm 1 18 rfl rfl) (wm 9 117 rfl rfl) (by decide) hR (by decide) (n := 1) rfl rfl (Nat.le_of_ble_eq_true rfl) hl.1 dX12_kind_23 (fun μ39 ρ d0 H locs hp G => ?_)
  obtain ⟨F_40, hp_41, hp_42, hp_43, hp_44, hp_45, hp_46⟩ := hp
  have hpl_47 := hp_42.pl
  have hw_48 := wr_r (μ := μ39)
  refine lv_aload_n hx hb dX12_kind_26 rfl (lv_at hl 3 rfl) ?_
  refine xc_iV G (b := 111) (rest := []) (As := []) (c_X12_isWrong ω l μ39  ) (wm 9 4 rfl rfl) (wm 9 6 rfl rfl) (wm 0 120 rfl rfl) rfl rfl (by decide) rfl (wm 1 18 rfl rfl) (wm 9 7 rfl rfl) (by decide) hR (by decide) (n := 0) rfl rfl (Nat.le_of_ble_eq_true rfl) hl.1 dX12_kind_27 (fun r_50 μ49 ρ d0 H locs hr_r_50 hp G => ?_)
  have hr_r_50 : -2147483648 ≤ r_50 ∧ r_50 ≤ 2147483647 := hr_r_50
  obtain ⟨hsm_51, hp_52⟩ := hp
  have hsm_51 := Eq.symm hsm_51
  subst hsm_51
  refine xb_if_eq (tgt := 34) hx hb (by unfold ir; omega) dX12_kind_30 (by decide) (fun c_30 => ?_) (fun c_30 => ?_)
  · refine lv_aload_n hx hb dX12_kind_34 rfl (lv_at hl 3 rfl) ?_
    refine lv_iload_n hx hb dX12_kind_35 rfl (lv_at hl 0 rfl) ?_
    refine lv_iload_n hx hb dX12_kind_36 rfl (lv_at hl 2 rfl) ?_
    have e_53 : μ39.1 111 29 = μ26.1 111 29 := (hp_41 29 (by decide))
    have e_54 : μ39.1 111 29 = μ26.1 111 29 := (hp_41 29 (by decide))
    refine xc_iV G (b := 111) (rest := []) (As := [.int (iv r_27), .int (iv r_2)]) (c_X12_isUnderNew ω l μ39 r_27 r_2 (by unfold ir; omega) (by unfold ir; omega) hp_42 (by omega) (by omega)) (wm 10 55 rfl rfl) (wm 10 57 rfl rfl) (wm 0 185 rfl rfl) rfl rfl (by decide) rfl (wm 1 18 rfl rfl) (wm 10 58 rfl rfl) (by decide) hR (by decide) (n := 2) rfl rfl (Nat.le_of_ble_eq_true rfl) hl.1 dX12_kind_37 (fun r_56 μ55 ρ d0 H locs hr_r_56 hp G => ?_)
    have hr_r_56 : -2147483648 ≤ r_56 ∧ r_56 ≤ 2147483647 := hr_r_56
    obtain ⟨hsm_57, hp_58, hp_59⟩ := hp
    have hsm_57 := Eq.symm hsm_57
    subst hsm_57
    refine xb_if_eq (tgt := 51) hx hb (by unfold ir; omega) dX12_kind_40 (by decide) (fun c_40 => ?_) (fun c_40 => ?_)
    · have hn5_ := hp_42.2.1
      have e_60 : μ39.1 111 29 = μ26.1 111 29 := (hp_41 29 (by decide))
      refine lv_aload_n hx hb dX12_kind_51 rfl (lv_at hl 3 rfl) ?_
      refine xa_getr G fd_X12 (a := 111) (x := 123) 28 rfl (by decide) rfl (wm 7 177 rfl rfl) ⟨rfl, rfl, rfl⟩ dX12_kind_52 rfl (G.sk 121 rfl) (by decide) rfl ?_
      refine lv_iload_n hx hb dX12_kind_55 rfl (lv_at hl 2 rfl) ?_
      refine lv_iload_n hx hb dX12_kind_56 rfl (lv_at hl 0 rfl) ?_
      refine xa_iast G (a := 123) (i := r_2) (x := r_27) rfl (by have h9 := G.lc (a := 123) (n := 64) 61 rfl; omega) (by unfold ir; omega) dX12_kind_57 rfl (fun H locs G => ?_)
      have e_61 : μ39.1 111 29 = μ26.1 111 29 := (hp_41 29 (by decide))
      have e_62 : (sv μ39 123 r_2 r_27).1 111 9 = μ39.1 111 9 := (sv_n _ (fun h9 => absurd h9.1 (by decide)))
      have e_63 : (sv μ39 123 r_2 r_27).1 111 29 = μ26.1 111 29 := ((sv_n _ (fun h9 => absurd h9.1 (by decide))).trans (hp_41 29 (by decide)))
      have e_64 : wr (sv μ39 123 r_2 r_27) = wr μ39 := (wr_cg (sv_n _ (fun h9 => absurd h9.1 (by decide))))
      have e_65 : bd (sv μ39 123 r_2 r_27) = bd μ39 := (bd_cg (sv_n _ (fun h9 => absurd h9.1 (by decide))) (sv_n _ (fun h9 => absurd h9.1 (by decide))) (sv_n _ (fun h9 => absurd h9.1 (by decide))))
      have e_66 : wr (sv μ39 123 r_2 r_27) = wr μ39 := (wr_cg (sv_n _ (fun h9 => absurd h9.1 (by decide))))
      have e_67 : nn (sv μ39 123 r_2 r_27) = nn μ39 := (nn_cg (sv_n _ (fun h9 => absurd h9.1 (by decide))) (sv_n _ (fun h9 => absurd h9.1 (by decide))))
      exact xr_v G hret hlk dX12_kind_58 ⟨(FrM.put (FrM.tr (FrM.tr (FrM.tr (FrM.tr FrM.rf F_3 (by decide)) F_15 (by decide)) F_28 (by decide)) F_40 (by decide)) (by decide)), (fun j hj => ((sv_n _ (fun h9 => absurd h9.1 (by decide))).trans ((hp_41 j (fun h9 => hj ((by decide : ∀ x ∈ ([6, 8, 9, 10, 11, 12, 13, 15] : List Int), x ∈ ([6, 8, 9, 10, 11, 12, 13, 15, 16, 17, 29] : List Int)) j h9))).trans ((hp_29 j (fun h9 => hj ((by decide : ∀ x ∈ ([6, 8, 9, 10, 11, 12, 13, 15, 16, 29] : List Int), x ∈ ([6, 8, 9, 10, 11, 12, 13, 15, 16, 17, 29] : List Int)) j h9))).trans ((hp_16 j (fun h9 => hj ((by decide : ∀ x ∈ ([6, 8, 9, 10, 11, 12, 13, 15] : List Int), x ∈ ([6, 8, 9, 10, 11, 12, 13, 15, 16, 17, 29] : List Int)) j h9))).trans (hp_4 j (fun h9 => hj ((by decide : ∀ x ∈ ([6, 8, 9, 10, 11, 12, 13, 15, 16, 29] : List Int), x ∈ ([6, 8, 9, 10, 11, 12, 13, 15, 16, 17, 29] : List Int)) j h9)))))))), (hp_42.set (by omega) (by omega) (hp_59 () (by omega))), (by omega), (by omega), (by omega), (by omega)⟩
    · refine lv_aload_n hx hb dX12_kind_43 rfl (lv_at hl 3 rfl) ?_
      refine lv_iload_n hx hb dX12_kind_44 rfl (lv_at hl 1 rfl) ?_
      refine xc_vV G (b := 111) (rest := []) (As := [.int (iv (μ14.1 111 9))]) (c_X12_wrong3 ω l μ39 (μ14.1 111 9) (by unfold ir; omega) (by omega)) (wm 9 74 rfl rfl) (wm 9 76 rfl rfl) (wm 0 131 rfl rfl) rfl rfl (by decide) rfl (wm 1 18 rfl rfl) (wm 9 77 rfl rfl) (by decide) hR (by decide) (n := 1) rfl rfl (Nat.le_of_ble_eq_true rfl) hl.1 dX12_kind_45 (fun μ68 ρ d0 H locs hp G => ?_)
      obtain ⟨F_69, hp_70, hp_71⟩ := hp
      have hw_72 := wr_r (μ := μ68)
      refine lv_goto (tgt := 58) hx hb dX12_kind_48 (by decide) ?_
      have hPM_73 : PM μ68 := hp_42.cg ((((hp_70 4 (by decide)).trans ((hp_41 4 (by decide)).trans ((hp_29 4 (by decide)).trans ((hp_16 4 (by decide)).trans (hp_4 4 (by decide))))))).trans (((hp_41 4 (by decide)).trans ((hp_29 4 (by decide)).trans ((hp_16 4 (by decide)).trans (hp_4 4 (by decide)))))).symm) (hp_70 6 (by decide)) ((((hp_70 7 (by decide)).trans ((hp_41 7 (by decide)).trans ((hp_29 7 (by decide)).trans ((hp_16 7 (by decide)).trans (hp_4 7 (by decide))))))).trans (((hp_41 7 (by decide)).trans ((hp_29 7 (by decide)).trans ((hp_16 7 (by decide)).trans (hp_4 7 (by decide)))))).symm) (hp_70 8 (by decide)) (hp_70 9 (by decide)) (hp_70 11 (by decide)) (hp_70 12 (by decide)) ((((hp_70 14 (by decide)).trans ((hp_41 14 (by decide)).trans ((hp_29 14 (by decide)).trans ((hp_16 14 (by decide)).trans (hp_4 14 (by decide))))))).trans (((hp_41 14 (by decide)).trans ((hp_29 14 (by decide)).trans ((hp_16 14 (by decide)).trans (hp_4 14 (by decide)))))).symm) (hp_70 15 (by decide)) ((((hp_70 29 (by decide)).trans (hp_41 29 (by decide)))).trans ((hp_41 29 (by decide))).symm) (fun j => (F_69.1 123 (by decide) j))
      have e_74 : μ68.1 111 9 = μ39.1 111 9 := (hp_70 9 (by decide))
      have e_75 : μ68.1 111 29 = μ26.1 111 29 := ((hp_70 29 (by decide)).trans (hp_41 29 (by decide)))
      have e_76 : wr μ68 = wr μ39 := (wr_cg (hp_70 15 (by decide)))
      have e_77 : wr μ68 = wr μ39 := (wr_cg (hp_70 15 (by decide)))
      have e_78 : nn μ68 = nn μ39 := (nn_cg (hp_70 15 (by decide)) (hp_70 18 (by decide)))
      exact xr_v G hret hlk dX12_kind_58 ⟨(FrM.tr (FrM.tr (FrM.tr (FrM.tr (FrM.tr FrM.rf F_3 (by decide)) F_15 (by decide)) F_28 (by decide)) F_40 (by decide)) F_69 (by decide)), (fun j hj => ((hp_70 j (fun h9 => hj ((by decide : ∀ x ∈ ([17] : List Int), x ∈ ([6, 8, 9, 10, 11, 12, 13, 15, 16, 17, 29] : List Int)) j h9))).trans ((hp_41 j (fun h9 => hj ((by decide : ∀ x ∈ ([6, 8, 9, 10, 11, 12, 13, 15] : List Int), x ∈ ([6, 8, 9, 10, 11, 12, 13, 15, 16, 17, 29] : List Int)) j h9))).trans ((hp_29 j (fun h9 => hj ((by decide : ∀ x ∈ ([6, 8, 9, 10, 11, 12, 13, 15, 16, 29] : List Int), x ∈ ([6, 8, 9, 10, 11, 12, 13, 15, 16, 17, 29] : List Int)) j h9))).trans ((hp_16 j (fun h9 => hj ((by decide : ∀ x ∈ ([6, 8, 9, 10, 11, 12, 13, 15] : List Int), x ∈ ([6, 8, 9, 10, 11, 12, 13, 15, 16, 17, 29] : List Int)) j h9))).trans (hp_4 j (fun h9 => hj ((by decide : ∀ x ∈ ([6, 8, 9, 10, 11, 12, 13, 15, 16, 29] : List Int), x ∈ ([6, 8, 9, 10, 11, 12, 13, 15, 16, 17, 29] : List Int)) j h9)))))))), hPM_73, (by omega), (by omega), (by omega), (by omega)⟩
  · have e_79 : μ39.1 111 29 = μ26.1 111 29 := (hp_41 29 (by decide))
    exact xr_v G hret hlk dX12_kind_33 ⟨(FrM.tr (FrM.tr (FrM.tr (FrM.tr FrM.rf F_3 (by decide)) F_15 (by decide)) F_28 (by decide)) F_40 (by decide)), (fun j hj => ((hp_41 j (fun h9 => hj ((by decide : ∀ x ∈ ([6, 8, 9, 10, 11, 12, 13, 15] : List Int), x ∈ ([6, 8, 9, 10, 11, 12, 13, 15, 16, 17, 29] : List Int)) j h9))).trans ((hp_29 j (fun h9 => hj ((by decide : ∀ x ∈ ([6, 8, 9, 10, 11, 12, 13, 15, 16, 29] : List Int), x ∈ ([6, 8, 9, 10, 11, 12, 13, 15, 16, 17, 29] : List Int)) j h9))).trans ((hp_16 j (fun h9 => hj ((by decide : ∀ x ∈ ([6, 8, 9, 10, 11, 12, 13, 15] : List Int), x ∈ ([6, 8, 9, 10, 11, 12, 13, 15, 16, 17, 29] : List Int)) j h9))).trans (hp_4 j (fun h9 => hj ((by decide : ∀ x ∈ ([6, 8, 9, 10, 11, 12, 13, 15, 16, 29] : List Int), x ∈ ([6, 8, 9, 10, 11, 12, 13, 15, 16, 17, 29] : List Int)) j h9))))))), hp_42, (by omega), (by omega), (by omega), (by omega)⟩

set_option maxHeartbeats 4000000 in
set_option maxRecDepth 100000 in
theorem c_X12_params (ω : Om) (l : Launch) (μ : M3) (hPM : PM μ) (hnn : 0 ≤ nn μ ∧ nn μ ≤ 9 ∧ 9 * wr μ ≤ nn μ) (hn8 : nn μ ≤ 8 + wr μ) (hsl : 0 ≤ μ.1 111 31 ∧ μ.1 111 31 ≤ 300) (hvr : 0 ≤ μ.1 111 32 ∧ μ.1 111 32 ≤ μ.1 111 9) : CtV ω l yX12_params cX12_params 5 10 216 [.ref (oP ω 111)] μ (fun (μ' : M3) => (FrM [111, 124] μ μ') ∧ (∀ j, j ∉ ([6, 8, 9, 10, 11, 12, 13, 15, 16, 17, 18, 31, 32] : List Int) → μ'.1 111 j = μ.1 111 j) ∧ (PM μ') ∧ (μ.1 111 9 + 1 ≤ μ'.1 111 9 + wr μ') ∧ (wr μ ≤ wr μ' ∧ bd μ ≤ bd μ') ∧ (nn μ ≤ nn μ' ∧ nn μ' ≤ nn μ + 9 * wr μ' ∧ nn μ' ≤ 9 ∧ 9 * wr μ' ≤ nn μ') ∧ (0 ≤ μ'.1 111 31 ∧ μ'.1 111 31 ≤ 300) ∧ (0 ≤ μ'.1 111 32 ∧ μ'.1 111 32 ≤ μ'.1 111 9)) := by
  refine CtV.go (by decide) (Nat.le_of_ble_eq_true rfl) (fun ρ p e s m below meth c R ls G hR hret hlk hl => ?_)
  have hx := G.1.1
  have hb := G.1.2.1
  have hl : lv_has ls 5 [(0, .ref (oP ω 111))] := hl
  generalize s.drawn = d0 at G ⊢
  have hw_0 := wr_r (μ := μ)
  have hpp_ := hPM.1.2.1
  have hpn_ := hPM.2.1
  have hpt_ := hPM.1.2.2.2.1
  have hpw_ := hPM.1.2.2.2.2.1
  have hpa_ := hPM.1.1
  refine lv_aload_n hx hb dX12_params_0 rfl (lv_at hl 0 rfl) ?_
  refine lv_bipush (v := iv 40) hx hb dX12_params_1 rfl ?_
  refine xc_vV G (b := 111) (rest := []) (As := [.int (iv 40)]) (c_X12_opensWith ω l μ 40 (by unfold ir; omega) hPM (by omega) (by omega)) (wm 9 86 rfl rfl) (wm 9 88 rfl rfl) (wm 0 134 rfl rfl) rfl rfl (by decide) rfl (wm 1 18 rfl rfl) (wm 9 89 rfl rfl) (by decide) hR (by decide) (n := 1) rfl rfl (Nat.le_of_ble_eq_true rfl) hl.1 dX12_params_3 (fun μ1 ρ d0 H locs hp G => ?_)
  obtain ⟨F_2, hp_3, hp_4, hp_5, hp_6, hp_7, hp_8⟩ := hp
  have hpl_9 := hp_4.pl
  have hw_10 := wr_r (μ := μ1)
  refine lv_aload_n hx hb dX12_params_6 rfl (lv_at hl 0 rfl) ?_
  refine lv_bipush (v := iv 41) hx hb dX12_params_7 rfl ?_
  refine xc_iV G (b := 111) (rest := []) (As := [.int (iv 41)]) (c_X12_isSign ω l μ1 41 (by unfold ir; omega)) (wm 9 90 rfl rfl) (wm 9 92 rfl rfl) (wm 0 135 rfl rfl) rfl rfl (by decide) rfl (wm 1 18 rfl rfl) (wm 9 93 rfl rfl) (by decide) hR (by decide) (n := 1) rfl rfl (Nat.le_of_ble_eq_true rfl) hl.1 dX12_params_9 (fun r_12 μ11 ρ d0 H locs hr_r_12 hp G => ?_)
  have hr_r_12 : -2147483648 ≤ r_12 ∧ r_12 ≤ 2147483647 := hr_r_12
  obtain ⟨hsm_13, hp_14⟩ := hp
  have hsm_13 := Eq.symm hsm_13
  subst hsm_13
  refine xb_if_ne (tgt := 109) hx hb (by unfold ir; omega) dX12_params_12 (by decide) (fun c_12 => ?_) (fun c_12 => ?_)
  · refine lv_aload_n hx hb dX12_params_109 rfl (lv_at hl 0 rfl) ?_
    refine lv_bipush (v := iv 41) hx hb dX12_params_110 rfl ?_
    refine xc_vV G (b := 111) (rest := []) (As := [.int (iv 41)]) (c_X12_closesWith ω l μ1 41 (by unfold ir; omega) hp_4 (by omega) (by omega)) (wm 9 110 rfl rfl) (wm 9 112 rfl rfl) (wm 0 140 rfl rfl) rfl rfl (by decide) rfl (wm 1 18 rfl rfl) (wm 9 113 rfl rfl) (by decide) hR (by decide) (n := 1) rfl rfl (Nat.le_of_ble_eq_true rfl) hl.1 dX12_params_112 (fun μ15 ρ d0 H locs hp G => ?_)
    obtain ⟨F_16, hp_17, hp_18, hp_19, hp_20, hp_21, hp_22⟩ := hp
    have hpl_23 := hp_18.pl
    have hw_24 := wr_r (μ := μ15)
    have e_25 : μ15.1 111 31 = μ.1 111 31 := ((hp_17 31 (by decide)).trans (hp_3 31 (by decide)))
    have e_26 : μ15.1 111 31 = μ.1 111 31 := ((hp_17 31 (by decide)).trans (hp_3 31 (by decide)))
    have e_27 : μ15.1 111 32 = μ.1 111 32 := ((hp_17 32 (by decide)).trans (hp_3 32 (by decide)))
    have e_28 : μ15.1 111 32 = μ.1 111 32 := ((hp_17 32 (by decide)).trans (hp_3 32 (by decide)))
    exact xr_v G hret hlk dX12_params_115 ⟨(FrM.tr (FrM.tr FrM.rf F_2 (by decide)) F_16 (by decide)), (fun j hj => ((hp_17 j (fun h9 => hj ((by decide : ∀ x ∈ ([6, 8, 9, 10, 11, 12, 13, 15, 18] : List Int), x ∈ ([6, 8, 9, 10, 11, 12, 13, 15, 16, 17, 18, 31, 32] : List Int)) j h9))).trans (hp_3 j (fun h9 => hj ((by decide : ∀ x ∈ ([6, 8, 9, 10, 11, 12, 13, 15, 18] : List Int), x ∈ ([6, 8, 9, 10, 11, 12, 13, 15, 16, 17, 18, 31, 32] : List Int)) j h9))))), hp_18, (by omega), (by omega), (by rcases (show wr μ15 = 0 ∨ wr μ15 = 1 by omega) with q9 | q9 <;> omega), (by omega), (by omega)⟩
  · refine lv_iconst (v := iv 1) hx hb dX12_params_15 rfl ?_
    refine lv_istore_n (lv' := [(1, .int (iv 1)), (0, .ref (oP ω 111))]) hx hb dX12_params_16 rfl hl (by decide) rfl (fun ls hl => ?_)
    have e_29 : μ1.1 111 31 = μ.1 111 31 := (hp_3 31 (by decide))
    have e_30 : μ1.1 111 31 = μ.1 111 31 := (hp_3 31 (by decide))
    have e_31 : μ1.1 111 32 = μ.1 111 32 := (hp_3 32 (by decide))
    have e_32 : μ1.1 111 32 = μ.1 111 32 := (hp_3 32 (by decide))
    refine xl (fun n_9 μ' ls => ∃ (m9 : Int), (FrM [111, 124] μ1 μ') ∧ (-2147483648 ≤ m9 ∧ m9 ≤ 2147483647) ∧ (∀ j, j ∉ ([6, 8, 9, 10, 11, 12, 13, 15, 16, 17, 18, 31, 32] : List Int) → μ'.1 111 j = μ1.1 111 j) ∧ (0 ≤ m9 ∧ m9 ≤ 1) ∧ (PM μ') ∧ (μ.1 111 9 + 1 ≤ μ'.1 111 9 + wr μ') ∧ (μ.1 111 9 ≤ μ'.1 111 9) ∧ (wr μ ≤ wr μ' ∧ bd μ ≤ bd μ') ∧ (nn μ ≤ nn μ' ∧ nn μ' ≤ nn μ + 1 + 9 * wr μ' ∧ nn μ' ≤ 9 ∧ nn μ + 1 ≤ nn μ' + wr μ ∧ nn μ' ≤ 8 + wr μ' ∧ 9 * wr μ' ≤ nn μ') ∧ (0 ≤ μ'.1 111 31 ∧ μ'.1 111 31 ≤ 300) ∧ (0 ≤ μ'.1 111 32 ∧ μ'.1 111 32 ≤ μ'.1 111 9) ∧ n_9 = Int.toNat (3001 - μ'.1 111 9 + m9) ∧ lv_has ls 5 [(1, .int (iv m9)), (0, .ref (oP ω 111))]) (fun n_9 ρ μL33 d0 H locs ls hI_l G ih => ?_) _ _ _ _ _ _ _ ⟨1, FrM.rf, (by omega), (fun j hj => rfl), (by omega), hp_4, (by omega), (by omega), (by omega), (by omega), (by omega), (by omega), rfl, lv_sub hl [0, 1] rfl⟩ G
    obtain ⟨m9, FL34, hi_36, hi_37, hi_38, hi_39, hi_40, hi_41, hi_42, hi_43, hi_44, hi_45, hn35, hl⟩ := hI_l
    have hw_46 := wr_r (μ := μL33)
    have hw_47 := wr_r (μ := μL33)
    have hpl_48 := hi_39.pl
    refine lv_iload_n hx hb dX12_params_17 rfl (lv_at hl 0 rfl) ?_
    refine xb_if_eq (tgt := 109) hx hb (by unfold ir; omega) dX12_params_18 (by decide) (fun c_18 => ?_) (fun c_18 => ?_)
    · refine lv_aload_n hx hb dX12_params_109 rfl (lv_at hl 1 rfl) ?_
      refine lv_bipush (v := iv 41) hx hb dX12_params_110 rfl ?_
      have hw_49 := wr_r (μ := μL33)
      refine xc_vV G (b := 111) (rest := []) (As := [.int (iv 41)]) (c_X12_closesWith ω l μL33 41 (by unfold ir; omega) hi_39 (by omega) (by omega)) (wm 9 110 rfl rfl) (wm 9 112 rfl rfl) (wm 0 140 rfl rfl) rfl rfl (by decide) rfl (wm 1 18 rfl rfl) (wm 9 113 rfl rfl) (by decide) hR (by decide) (n := 1) rfl rfl (Nat.le_of_ble_eq_true rfl) hl.1 dX12_params_112 (fun μ50 ρ d0 H locs hp G => ?_)
      obtain ⟨F_51, hp_52, hp_53, hp_54, hp_55, hp_56, hp_57⟩ := hp
      have hpl_58 := hp_53.pl
      have hw_59 := wr_r (μ := μ50)
      have e_60 : μ50.1 111 31 = μL33.1 111 31 := (hp_52 31 (by decide))
      have e_61 : μ50.1 111 31 = μL33.1 111 31 := (hp_52 31 (by decide))
      have e_62 : μ50.1 111 32 = μL33.1 111 32 := (hp_52 32 (by decide))
      have e_63 : μ50.1 111 32 = μL33.1 111 32 := (hp_52 32 (by decide))
      exact xr_v G hret hlk dX12_params_115 ⟨(FrM.tr (FrM.tr (FrM.tr FrM.rf F_2 (by decide)) FL34 (by decide)) F_51 (by decide)), (fun j hj => ((hp_52 j (fun h9 => hj ((by decide : ∀ x ∈ ([6, 8, 9, 10, 11, 12, 13, 15, 18] : List Int), x ∈ ([6, 8, 9, 10, 11, 12, 13, 15, 16, 17, 18, 31, 32] : List Int)) j h9))).trans ((hi_37 j (fun h9 => hj ((by decide : ∀ x ∈ ([6, 8, 9, 10, 11, 12, 13, 15, 16, 17, 18, 31, 32] : List Int), x ∈ ([6, 8, 9, 10, 11, 12, 13, 15, 16, 17, 18, 31, 32] : List Int)) j h9))).trans (hp_3 j (fun h9 => hj ((by decide : ∀ x ∈ ([6, 8, 9, 10, 11, 12, 13, 15, 18] : List Int), x ∈ ([6, 8, 9, 10, 11, 12, 13, 15, 16, 17, 18, 31, 32] : List Int)) j h9)))))), hp_53, (by omega), (by omega), (by rcases (show wr μ50 = 0 ∨ wr μ50 = 1 by omega) with q9 | q9 <;> omega), (by omega), (by omega)⟩
    · refine lv_aload_n hx hb dX12_params_21 rfl (lv_at hl 1 rfl) ?_
      have hw_64 := wr_r (μ := μL33)
      refine xc_iV G (b := 111) (rest := []) (As := []) (c_X12_isWrong ω l μL33  ) (wm 9 4 rfl rfl) (wm 9 6 rfl rfl) (wm 0 120 rfl rfl) rfl rfl (by decide) rfl (wm 1 18 rfl rfl) (wm 9 7 rfl rfl) (by decide) hR (by decide) (n := 0) rfl rfl (Nat.le_of_ble_eq_true rfl) hl.1 dX12_params_22 (fun r_66 μ65 ρ d0 H locs hr_r_66 hp G => ?_)
      have hr_r_66 : -2147483648 ≤ r_66 ∧ r_66 ≤ 2147483647 := hr_r_66
      obtain ⟨hsm_67, hp_68⟩ := hp
      have hsm_67 := Eq.symm hsm_67
      subst hsm_67
      refine xb_if_ne (tgt := 109) hx hb (by unfold ir; omega) dX12_params_25 (by decide) (fun c_25 => ?_) (fun c_25 => ?_)
      · refine lv_aload_n hx hb dX12_params_109 rfl (lv_at hl 1 rfl) ?_
        refine lv_bipush (v := iv 41) hx hb dX12_params_110 rfl ?_
        refine xc_vV G (b := 111) (rest := []) (As := [.int (iv 41)]) (c_X12_closesWith ω l μL33 41 (by unfold ir; omega) hi_39 (by omega) (by omega)) (wm 9 110 rfl rfl) (wm 9 112 rfl rfl) (wm 0 140 rfl rfl) rfl rfl (by decide) rfl (wm 1 18 rfl rfl) (wm 9 113 rfl rfl) (by decide) hR (by decide) (n := 1) rfl rfl (Nat.le_of_ble_eq_true rfl) hl.1 dX12_params_112 (fun μ69 ρ d0 H locs hp G => ?_)
        obtain ⟨F_70, hp_71, hp_72, hp_73, hp_74, hp_75, hp_76⟩ := hp
        have hpl_77 := hp_72.pl
        have hw_78 := wr_r (μ := μ69)
        have e_79 : μ69.1 111 31 = μL33.1 111 31 := (hp_71 31 (by decide))
        have e_80 : μ69.1 111 31 = μL33.1 111 31 := (hp_71 31 (by decide))
        have e_81 : μ69.1 111 32 = μL33.1 111 32 := (hp_71 32 (by decide))
        have e_82 : μ69.1 111 32 = μL33.1 111 32 := (hp_71 32 (by decide))
        exact xr_v G hret hlk dX12_params_115 ⟨(FrM.tr (FrM.tr (FrM.tr FrM.rf F_2 (by decide)) FL34 (by decide)) F_70 (by decide)), (fun j hj => ((hp_71 j (fun h9 => hj ((by decide : ∀ x ∈ ([6, 8, 9, 10, 11, 12, 13, 15, 18] : List Int), x ∈ ([6, 8, 9, 10, 11, 12, 13, 15, 16, 17, 18, 31, 32] : List Int)) j h9))).trans ((hi_37 j (fun h9 => hj ((by decide : ∀ x ∈ ([6, 8, 9, 10, 11, 12, 13, 15, 16, 17, 18, 31, 32] : List Int), x ∈ ([6, 8, 9, 10, 11, 12, 13, 15, 16, 17, 18, 31, 32] : List Int)) j h9))).trans (hp_3 j (fun h9 => hj ((by decide : ∀ x ∈ ([6, 8, 9, 10, 11, 12, 13, 15, 18] : List Int), x ∈ ([6, 8, 9, 10, 11, 12, 13, 15, 16, 17, 18, 31, 32] : List Int)) j h9)))))), hp_72, (by omega), (by omega), (by rcases (show wr μ69 = 0 ∨ wr μ69 = 1 by omega) with q9 | q9 <;> omega), (by omega), (by omega)⟩
      · refine lv_aload_n hx hb dX12_params_28 rfl (lv_at hl 1 rfl) ?_
        refine xa_geti G fd_X12 (a := 111) (x := μL33.1 111 9) 9 rfl (by decide) rfl (wm 7 158 rfl rfl) ⟨rfl, rfl, rfl⟩ dX12_params_29 rfl rfl ?_
        have hr_83 : -2147483648 ≤ μL33.1 111 9 ∧ μL33.1 111 9 ≤ 2147483647 := by have h9 := G.hr (a := 111) (k := 9) rfl; exact h9
        refine lv_istore_n (lv' := [(2, .int (iv (μL33.1 111 9))), (1, .int (iv m9)), (0, .ref (oP ω 111))]) hx hb dX12_params_32 rfl hl (by decide) rfl (fun ls hl => ?_)
        refine lv_aload_n hx hb dX12_params_33 rfl (lv_at hl 2 rfl) ?_
        refine xc_lV G (b := 111) (rest := []) (As := []) (c_X12_takesName ω l μL33  hi_39 (by omega)) (wm 9 70 rfl rfl) (wm 9 72 rfl rfl) (wm 0 130 rfl rfl) rfl rfl (by decide) rfl (wm 1 18 rfl rfl) (wm 9 73 rfl rfl) (by decide) hR (by decide) (n := 0) rfl rfl (Nat.le_of_ble_eq_true rfl) hl.1 dX12_params_34 (fun r_85 μ84 ρ d0 H locs hr_r_85 hp G => ?_)
        obtain ⟨F_86, hp_87, hp_88, hp_89, hp_90, hp_91, hp_92⟩ := hp
        have hpl_93 := hp_88.pl
        have hw_94 := wr_r (μ := μ84)
        refine lv_lstore_n (lv' := [(3, .long (jv r_85)), (2, .int (iv (μL33.1 111 9))), (1, .int (iv m9)), (0, .ref (oP ω 111))]) hx hb dX12_params_37 rfl hl (by decide) rfl (fun ls hl => ?_)
        refine lv_aload_n hx hb dX12_params_38 rfl (lv_at hl 3 rfl) ?_
        refine xc_iV G (b := 111) (rest := []) (As := []) (c_X12_isWrong ω l μ84  ) (wm 9 4 rfl rfl) (wm 9 6 rfl rfl) (wm 0 120 rfl rfl) rfl rfl (by decide) rfl (wm 1 18 rfl rfl) (wm 9 7 rfl rfl) (by decide) hR (by decide) (n := 0) rfl rfl (Nat.le_of_ble_eq_true rfl) hl.1 dX12_params_39 (fun r_96 μ95 ρ d0 H locs hr_r_96 hp G => ?_)
        have hr_r_96 : -2147483648 ≤ r_96 ∧ r_96 ≤ 2147483647 := hr_r_96
        obtain ⟨hsm_97, hp_98⟩ := hp
        have hsm_97 := Eq.symm hsm_97
        subst hsm_97
        refine xb_if_eq (tgt := 46) hx hb (by unfold ir; omega) dX12_params_42 (by decide) (fun c_42 => ?_) (fun c_42 => ?_)
        · refine lv_aload_n hx hb dX12_params_46 rfl (lv_at hl 3 rfl) ?_
          refine lv_lload_n hx hb dX12_params_47 rfl (lv_at hl 0 rfl) ?_
          have e_99 : μ84.1 111 31 = μL33.1 111 31 := (hp_87 31 (by decide))
          have e_100 : μ84.1 111 31 = μL33.1 111 31 := (hp_87 31 (by decide))
          have e_101 : μ84.1 111 31 = μL33.1 111 31 := (hp_87 31 (by decide))
          refine xc_iV G (b := 111) (rest := []) (As := [.long (jv r_85)]) (c_X12_slotOf ω l μ84 r_85 hr_r_85 (by omega)) (wm 9 98 rfl rfl) (wm 9 100 rfl rfl) (wm 0 137 rfl rfl) rfl rfl (by decide) rfl (wm 1 18 rfl rfl) (wm 9 101 rfl rfl) (by decide) hR (by decide) (n := 1) rfl rfl (Nat.le_of_ble_eq_true rfl) hl.1 dX12_params_48 (fun r_103 μ102 ρ d0 H locs hr_r_103 hp G => ?_)
          have hr_r_103 : -2147483648 ≤ r_103 ∧ r_103 ≤ 2147483647 := hr_r_103
          obtain ⟨hsm_104, hp_105⟩ := hp
          have hsm_104 := Eq.symm hsm_104
          subst hsm_104
          refine lv_iconst (v := iv (-1)) hx hb dX12_params_51 rfl ?_
          refine xb_icmp_eq (tgt := 60) hx hb (by unfold ir; omega) (by unfold ir; omega) dX12_params_52 (by decide) (fun c_52 => ?_) (fun c_52 => ?_)
          · refine lv_aload_n hx hb dX12_params_60 rfl (lv_at hl 3 rfl) ?_
            refine xa_geti G fd_X12 (a := 111) (x := μL33.1 111 31) 31 rfl (by decide) rfl (wm 7 180 rfl rfl) ⟨rfl, rfl, rfl⟩ dX12_params_61 rfl (hp_87 31 (by decide)) ?_
            have hr_106 : -2147483648 ≤ μL33.1 111 31 ∧ μL33.1 111 31 ≤ 2147483647 := by have h9 := G.hr (a := 111) (k := 31) rfl; rw [show μ84.1 111 31 = μL33.1 111 31 from (hp_87 31 (by decide))] at h9; exact h9
            refine lv_iconst (v := iv 4) hx hb dX12_params_64 rfl ?_
            refine xb_icmp_ne (tgt := 73) hx hb (by unfold ir; omega) (by unfold ir; omega) dX12_params_65 (by decide) (fun c_65 => ?_) (fun c_65 => ?_)
            · refine lv_aload_n hx hb dX12_params_73 rfl (lv_at hl 3 rfl) ?_
              refine xa_geti G fd_X12 (a := 111) (x := μL33.1 111 31) 31 rfl (by decide) rfl (wm 7 180 rfl rfl) ⟨rfl, rfl, rfl⟩ dX12_params_74 rfl (hp_87 31 (by decide)) ?_
              refine lv_sipush (v := iv 300) hx hb dX12_params_77 rfl ?_
              refine xb_icmp_ge (tgt := 89) hx hb (by unfold ir; omega) (by unfold ir; omega) dX12_params_80 (by decide) (fun c_80 => ?_) (fun c_80 => ?_)
              · refine lv_aload_n hx hb dX12_params_89 rfl (lv_at hl 3 rfl) ?_
                refine lv_dup hx hb dX12_params_90 rfl ?_
                refine xa_geti G fd_X12 (a := 111) (x := μL33.1 111 32) 32 rfl (by decide) rfl (wm 7 181 rfl rfl) ⟨rfl, rfl, rfl⟩ dX12_params_91 rfl (hp_87 32 (by decide)) ?_
                have hr_107 : -2147483648 ≤ μL33.1 111 32 ∧ μL33.1 111 32 ≤ 2147483647 := by have h9 := G.hr (a := 111) (k := 32) rfl; rw [show μ84.1 111 32 = μL33.1 111 32 from (hp_87 32 (by decide))] at h9; exact h9
                refine lv_iconst (v := iv 1) hx hb dX12_params_94 rfl ?_
                refine xb_iadd hx hb dX12_params_95 ?_
                refine xa_puti G fd_X12 (a := 111) (x := (μL33.1 111 32) + 1) 32 (kz := 32) rfl rfl (by decide) rfl (by unfold ir; omega) (wm 7 181 rfl rfl) ⟨rfl, rfl, rfl, rfl⟩ rfl dX12_params_96 rfl (fun H locs G => ?_)
                refine lv_aload_n hx hb dX12_params_99 rfl (lv_at hl 3 rfl) ?_
                refine lv_bipush (v := iv 44) hx hb dX12_params_100 rfl ?_
                have hPM_108 : PM (sv μ84 111 32 ((μL33.1 111 32) + 1)) := hp_88.cg ((((sv_n _ (by decide)).trans ((hp_87 4 (by decide)).trans ((hi_37 4 (by decide)).trans (hp_3 4 (by decide)))))).trans (((hp_87 4 (by decide)).trans ((hi_37 4 (by decide)).trans (hp_3 4 (by decide))))).symm) (sv_n _ (by decide)) ((((sv_n _ (by decide)).trans ((hp_87 7 (by decide)).trans ((hi_37 7 (by decide)).trans (hp_3 7 (by decide)))))).trans (((hp_87 7 (by decide)).trans ((hi_37 7 (by decide)).trans (hp_3 7 (by decide))))).symm) (sv_n _ (by decide)) (sv_n _ (by decide)) (sv_n _ (by decide)) (sv_n _ (by decide)) ((((sv_n _ (by decide)).trans ((hp_87 14 (by decide)).trans ((hi_37 14 (by decide)).trans (hp_3 14 (by decide)))))).trans (((hp_87 14 (by decide)).trans ((hi_37 14 (by decide)).trans (hp_3 14 (by decide))))).symm) (sv_n _ (by decide)) ((((sv_n _ (by decide)).trans ((hp_87 29 (by decide)).trans ((hi_37 29 (by decide)).trans (hp_3 29 (by decide)))))).trans (((hp_87 29 (by decide)).trans ((hi_37 29 (by decide)).trans (hp_3 29 (by decide))))).symm) (fun j => (sv_n _ (by omega)))
                have e_109 : wr (sv μ84 111 32 ((μL33.1 111 32) + 1)) = wr μ84 := (wr_cg (sv_n _ (by decide)))
                have e_110 : nn (sv μ84 111 32 ((μL33.1 111 32) + 1)) = nn μ84 := (nn_cg (sv_n _ (by decide)) (sv_n _ (by decide)))
                have e_111 : (sv μ84 111 32 ((μL33.1 111 32) + 1)).1 111 9 = μ84.1 111 9 := (sv_n _ (by decide))
                have e_112 : wr (sv μ84 111 32 ((μL33.1 111 32) + 1)) = wr μ84 := (wr_cg (sv_n _ (by decide)))
                have e_113 : wr (sv μ84 111 32 ((μL33.1 111 32) + 1)) = wr μ84 := (wr_cg (sv_n _ (by decide)))
                have e_114 : bd (sv μ84 111 32 ((μL33.1 111 32) + 1)) = bd μ84 := (bd_cg (sv_n _ (by decide)) (sv_n _ (by decide)) (sv_n _ (by decide)))
                have e_115 : nn (sv μ84 111 32 ((μL33.1 111 32) + 1)) = nn μ84 := (nn_cg (sv_n _ (by decide)) (sv_n _ (by decide)))
                refine xc_iV G (b := 111) (rest := []) (As := [.int (iv 44)]) (c_X12_takesSign ω l (sv μ84 111 32 ((μL33.1 111 32) + 1)) 44 (by unfold ir; omega) hPM_108 (by omega)) (wm 9 106 rfl rfl) (wm 9 108 rfl rfl) (wm 0 139 rfl rfl) rfl rfl (by decide) rfl (wm 1 18 rfl rfl) (wm 9 109 rfl rfl) (by decide) hR (by decide) (n := 1) rfl rfl (Nat.le_of_ble_eq_true rfl) hl.1 dX12_params_102 (fun r_117 μ116 ρ d0 H locs hr_r_117 hp G => ?_)
                have hr_r_117 : -2147483648 ≤ r_117 ∧ r_117 ≤ 2147483647 := hr_r_117
                obtain ⟨F_118, hp_119, hp_120, hp_121, hp_122, hp_123, hp_124⟩ := hp
                have hpl_125 := hp_120.pl
                have hw_126 := wr_r (μ := μ116)
                refine lv_istore_n (lv' := [(1, .int (iv r_117)), (3, .long (jv r_85)), (2, .int (iv (μL33.1 111 9))), (0, .ref (oP ω 111))]) hx hb dX12_params_105 rfl hl (by decide) rfl (fun ls hl => ?_)
                refine lv_goto (tgt := 17) hx hb dX12_params_106 (by decide) ?_
                have e_127 : μ116.1 111 31 = μL33.1 111 31 := ((hp_119 31 (by decide)).trans ((sv_n _ (by decide)).trans (hp_87 31 (by decide))))
                have e_128 : μ116.1 111 31 = μL33.1 111 31 := ((hp_119 31 (by decide)).trans ((sv_n _ (by decide)).trans (hp_87 31 (by decide))))
                have e_129 : μ116.1 111 32 = (μL33.1 111 32) + 1 := ((hp_119 32 (by decide)).trans (sv_s _ _ _ _))
                have e_130 : μ116.1 111 32 = (μL33.1 111 32) + 1 := ((hp_119 32 (by decide)).trans (sv_s _ _ _ _))
                exact ih _ _ _ _ _ _ _ (by omega) ⟨r_117, (FrM.tr (FrM.put (FrM.tr FL34 F_86 (by decide)) (by decide)) F_118 (by decide)), (by omega), (fun j hj => ((hp_119 j (fun h9 => hj ((by decide : ∀ x ∈ ([6, 8, 9, 10, 11, 12, 13, 15] : List Int), x ∈ ([6, 8, 9, 10, 11, 12, 13, 15, 16, 17, 18, 31, 32] : List Int)) j h9))).trans ((sv_n _ (fun h9 => hj (by rw [h9.2]; decide))).trans ((hp_87 j (fun h9 => hj ((by decide : ∀ x ∈ ([6, 8, 9, 10, 11, 12, 13, 15] : List Int), x ∈ ([6, 8, 9, 10, 11, 12, 13, 15, 16, 17, 18, 31, 32] : List Int)) j h9))).trans (hi_37 j (fun h9 => hj ((by decide : ∀ x ∈ ([6, 8, 9, 10, 11, 12, 13, 15, 16, 17, 18, 31, 32] : List Int), x ∈ ([6, 8, 9, 10, 11, 12, 13, 15, 16, 17, 18, 31, 32] : List Int)) j h9))))))), (by omega), hp_120, (by omega), (by omega), (by omega), (by omega), (by omega), (by omega), rfl, lv_sub hl [0, 3] rfl⟩ G
              · refine lv_aload_n hx hb dX12_params_83 rfl (lv_at hl 3 rfl) ?_
                refine lv_lload_n hx hb dX12_params_84 rfl (lv_at hl 0 rfl) ?_
                have e_131 : μ84.1 111 31 = μL33.1 111 31 := (hp_87 31 (by decide))
                have e_132 : μ84.1 111 31 = μL33.1 111 31 := (hp_87 31 (by decide))
                have e_133 : μ84.1 111 31 = μL33.1 111 31 := (hp_87 31 (by decide))
                have e_134 : μ84.1 111 31 = μL33.1 111 31 := (hp_87 31 (by decide))
                refine xc_iV G (b := 111) (rest := []) (As := [.long (jv r_85)]) (c_X12_newSlot ω l μ84 r_85 hr_r_85 (by omega)) (wm 9 102 rfl rfl) (wm 9 104 rfl rfl) (wm 0 138 rfl rfl) rfl rfl (by decide) rfl (wm 1 18 rfl rfl) (wm 9 105 rfl rfl) (by decide) hR (by decide) (n := 1) rfl rfl (Nat.le_of_ble_eq_true rfl) hl.1 dX12_params_85 (fun r_136 μ135 ρ d0 H locs hr_r_136 hp G => ?_)
                have hr_r_136 : -2147483648 ≤ r_136 ∧ r_136 ≤ 2147483647 := hr_r_136
                obtain ⟨F_137, hp_138, hp_139, hp_140⟩ := hp
                refine lv_pop hx hb dX12_params_88 rfl ?_
                refine lv_aload_n hx hb dX12_params_89 rfl (lv_at hl 3 rfl) ?_
                refine lv_dup hx hb dX12_params_90 rfl ?_
                refine xa_geti G fd_X12 (a := 111) (x := μL33.1 111 32) 32 rfl (by decide) rfl (wm 7 181 rfl rfl) ⟨rfl, rfl, rfl⟩ dX12_params_91 rfl ((hp_138 32 (by decide)).trans (hp_87 32 (by decide))) ?_
                have hr_141 : -2147483648 ≤ μL33.1 111 32 ∧ μL33.1 111 32 ≤ 2147483647 := by have h9 := G.hr (a := 111) (k := 32) rfl; rw [show μ135.1 111 32 = μL33.1 111 32 from ((hp_138 32 (by decide)).trans (hp_87 32 (by decide)))] at h9; exact h9
                refine lv_iconst (v := iv 1) hx hb dX12_params_94 rfl ?_
                refine xb_iadd hx hb dX12_params_95 ?_
                refine xa_puti G fd_X12 (a := 111) (x := (μL33.1 111 32) + 1) 32 (kz := 32) rfl rfl (by decide) rfl (by unfold ir; omega) (wm 7 181 rfl rfl) ⟨rfl, rfl, rfl, rfl⟩ rfl dX12_params_96 rfl (fun H locs G => ?_)
                refine lv_aload_n hx hb dX12_params_99 rfl (lv_at hl 3 rfl) ?_
                refine lv_bipush (v := iv 44) hx hb dX12_params_100 rfl ?_
                have hPM_142 : PM (sv μ135 111 32 ((μL33.1 111 32) + 1)) := hp_88.cg ((((sv_n _ (by decide)).trans ((hp_138 4 (by decide)).trans ((hp_87 4 (by decide)).trans ((hi_37 4 (by decide)).trans (hp_3 4 (by decide))))))).trans (((hp_87 4 (by decide)).trans ((hi_37 4 (by decide)).trans (hp_3 4 (by decide))))).symm) ((sv_n _ (by decide)).trans (hp_138 6 (by decide))) ((((sv_n _ (by decide)).trans ((hp_138 7 (by decide)).trans ((hp_87 7 (by decide)).trans ((hi_37 7 (by decide)).trans (hp_3 7 (by decide))))))).trans (((hp_87 7 (by decide)).trans ((hi_37 7 (by decide)).trans (hp_3 7 (by decide))))).symm) ((sv_n _ (by decide)).trans (hp_138 8 (by decide))) ((sv_n _ (by decide)).trans (hp_138 9 (by decide))) ((sv_n _ (by decide)).trans (hp_138 11 (by decide))) ((sv_n _ (by decide)).trans (hp_138 12 (by decide))) ((((sv_n _ (by decide)).trans ((hp_138 14 (by decide)).trans ((hp_87 14 (by decide)).trans ((hi_37 14 (by decide)).trans (hp_3 14 (by decide))))))).trans (((hp_87 14 (by decide)).trans ((hi_37 14 (by decide)).trans (hp_3 14 (by decide))))).symm) ((sv_n _ (by decide)).trans (hp_138 15 (by decide))) ((((sv_n _ (by decide)).trans ((hp_138 29 (by decide)).trans ((hp_87 29 (by decide)).trans ((hi_37 29 (by decide)).trans (hp_3 29 (by decide))))))).trans (((hp_87 29 (by decide)).trans ((hi_37 29 (by decide)).trans (hp_3 29 (by decide))))).symm) (fun j => ((sv_n _ (by omega)).trans (F_137.1 123 (by decide) j)))
                have e_143 : wr (sv μ135 111 32 ((μL33.1 111 32) + 1)) = wr μ84 := ((wr_cg (sv_n _ (by decide))).trans (wr_cg (hp_138 15 (by decide))))
                have e_144 : nn (sv μ135 111 32 ((μL33.1 111 32) + 1)) = nn μ84 := ((nn_cg (sv_n _ (by decide)) (sv_n _ (by decide))).trans (nn_cg (hp_138 15 (by decide)) (hp_138 18 (by decide))))
                have e_145 : (sv μ135 111 32 ((μL33.1 111 32) + 1)).1 111 9 = μ84.1 111 9 := ((sv_n _ (by decide)).trans (hp_138 9 (by decide)))
                have e_146 : wr (sv μ135 111 32 ((μL33.1 111 32) + 1)) = wr μ84 := ((wr_cg (sv_n _ (by decide))).trans (wr_cg (hp_138 15 (by decide))))
                have e_147 : wr (sv μ135 111 32 ((μL33.1 111 32) + 1)) = wr μ84 := ((wr_cg (sv_n _ (by decide))).trans (wr_cg (hp_138 15 (by decide))))
                have e_148 : bd (sv μ135 111 32 ((μL33.1 111 32) + 1)) = bd μ84 := ((bd_cg (sv_n _ (by decide)) (sv_n _ (by decide)) (sv_n _ (by decide))).trans (bd_cg (hp_138 15 (by decide)) (hp_138 16 (by decide)) (hp_138 17 (by decide))))
                have e_149 : nn (sv μ135 111 32 ((μL33.1 111 32) + 1)) = nn μ84 := ((nn_cg (sv_n _ (by decide)) (sv_n _ (by decide))).trans (nn_cg (hp_138 15 (by decide)) (hp_138 18 (by decide))))
                refine xc_iV G (b := 111) (rest := []) (As := [.int (iv 44)]) (c_X12_takesSign ω l (sv μ135 111 32 ((μL33.1 111 32) + 1)) 44 (by unfold ir; omega) hPM_142 (by omega)) (wm 9 106 rfl rfl) (wm 9 108 rfl rfl) (wm 0 139 rfl rfl) rfl rfl (by decide) rfl (wm 1 18 rfl rfl) (wm 9 109 rfl rfl) (by decide) hR (by decide) (n := 1) rfl rfl (Nat.le_of_ble_eq_true rfl) hl.1 dX12_params_102 (fun r_151 μ150 ρ d0 H locs hr_r_151 hp G => ?_)
                have hr_r_151 : -2147483648 ≤ r_151 ∧ r_151 ≤ 2147483647 := hr_r_151
                obtain ⟨F_152, hp_153, hp_154, hp_155, hp_156, hp_157, hp_158⟩ := hp
                have hpl_159 := hp_154.pl
                have hw_160 := wr_r (μ := μ150)
                refine lv_istore_n (lv' := [(1, .int (iv r_151)), (3, .long (jv r_85)), (2, .int (iv (μL33.1 111 9))), (0, .ref (oP ω 111))]) hx hb dX12_params_105 rfl hl (by decide) rfl (fun ls hl => ?_)
                refine lv_goto (tgt := 17) hx hb dX12_params_106 (by decide) ?_
                have e_161 : μ150.1 111 31 = μ135.1 111 31 := ((hp_153 31 (by decide)).trans (sv_n _ (by decide)))
                have e_162 : μ150.1 111 31 = μ135.1 111 31 := ((hp_153 31 (by decide)).trans (sv_n _ (by decide)))
                have e_163 : μ150.1 111 32 = (μL33.1 111 32) + 1 := ((hp_153 32 (by decide)).trans (sv_s _ _ _ _))
                have e_164 : μ150.1 111 32 = (μL33.1 111 32) + 1 := ((hp_153 32 (by decide)).trans (sv_s _ _ _ _))
                exact ih _ _ _ _ _ _ _ (by omega) ⟨r_151, (FrM.tr (FrM.put (FrM.tr (FrM.tr FL34 F_86 (by decide)) F_137 (by decide)) (by decide)) F_152 (by decide)), (by omega), (fun j hj => ((hp_153 j (fun h9 => hj ((by decide : ∀ x ∈ ([6, 8, 9, 10, 11, 12, 13, 15] : List Int), x ∈ ([6, 8, 9, 10, 11, 12, 13, 15, 16, 17, 18, 31, 32] : List Int)) j h9))).trans ((sv_n _ (fun h9 => hj (by rw [h9.2]; decide))).trans ((hp_138 j (fun h9 => hj ((by decide : ∀ x ∈ ([31] : List Int), x ∈ ([6, 8, 9, 10, 11, 12, 13, 15, 16, 17, 18, 31, 32] : List Int)) j h9))).trans ((hp_87 j (fun h9 => hj ((by decide : ∀ x ∈ ([6, 8, 9, 10, 11, 12, 13, 15] : List Int), x ∈ ([6, 8, 9, 10, 11, 12, 13, 15, 16, 17, 18, 31, 32] : List Int)) j h9))).trans (hi_37 j (fun h9 => hj ((by decide : ∀ x ∈ ([6, 8, 9, 10, 11, 12, 13, 15, 16, 17, 18, 31, 32] : List Int), x ∈ ([6, 8, 9, 10, 11, 12, 13, 15, 16, 17, 18, 31, 32] : List Int)) j h9)))))))), (by omega), hp_154, (by omega), (by omega), (by omega), (by omega), (by omega), (by omega), rfl, lv_sub hl [0, 3] rfl⟩ G
            · refine lv_aload_n hx hb dX12_params_68 rfl (lv_at hl 3 rfl) ?_
              refine lv_iload_n hx hb dX12_params_69 rfl (lv_at hl 1 rfl) ?_
              refine xc_vV G (b := 111) (rest := []) (As := [.int (iv (μL33.1 111 9))]) (c_X12_wrong2 ω l μ84 (μL33.1 111 9) (by unfold ir; omega) (by omega)) (wm 9 78 rfl rfl) (wm 9 80 rfl rfl) (wm 0 132 rfl rfl) rfl rfl (by decide) rfl (wm 1 18 rfl rfl) (wm 9 81 rfl rfl) (by decide) hR (by decide) (n := 1) rfl rfl (Nat.le_of_ble_eq_true rfl) hl.1 dX12_params_70 (fun μ165 ρ d0 H locs hp G => ?_)
              obtain ⟨F_166, hp_167, hp_168⟩ := hp
              have hw_169 := wr_r (μ := μ165)
              refine lv_aload_n hx hb dX12_params_73 rfl (lv_at hl 3 rfl) ?_
              refine xa_geti G fd_X12 (a := 111) (x := μL33.1 111 31) 31 rfl (by decide) rfl (wm 7 180 rfl rfl) ⟨rfl, rfl, rfl⟩ dX12_params_74 rfl ((hp_167 31 (by decide)).trans (hp_87 31 (by decide))) ?_
              refine lv_sipush (v := iv 300) hx hb dX12_params_77 rfl ?_
              refine xb_icmp_ge (tgt := 89) hx hb (by unfold ir; omega) (by unfold ir; omega) dX12_params_80 (by decide) (fun c_80 => ?_) (fun c_80 => ?_)
              · refine lv_aload_n hx hb dX12_params_89 rfl (lv_at hl 3 rfl) ?_
                refine lv_dup hx hb dX12_params_90 rfl ?_
                refine xa_geti G fd_X12 (a := 111) (x := μL33.1 111 32) 32 rfl (by decide) rfl (wm 7 181 rfl rfl) ⟨rfl, rfl, rfl⟩ dX12_params_91 rfl ((hp_167 32 (by decide)).trans (hp_87 32 (by decide))) ?_
                have hr_170 : -2147483648 ≤ μL33.1 111 32 ∧ μL33.1 111 32 ≤ 2147483647 := by have h9 := G.hr (a := 111) (k := 32) rfl; rw [show μ165.1 111 32 = μL33.1 111 32 from ((hp_167 32 (by decide)).trans (hp_87 32 (by decide)))] at h9; exact h9
                refine lv_iconst (v := iv 1) hx hb dX12_params_94 rfl ?_
                refine xb_iadd hx hb dX12_params_95 ?_
                refine xa_puti G fd_X12 (a := 111) (x := (μL33.1 111 32) + 1) 32 (kz := 32) rfl rfl (by decide) rfl (by unfold ir; omega) (wm 7 181 rfl rfl) ⟨rfl, rfl, rfl, rfl⟩ rfl dX12_params_96 rfl (fun H locs G => ?_)
                refine lv_aload_n hx hb dX12_params_99 rfl (lv_at hl 3 rfl) ?_
                refine lv_bipush (v := iv 44) hx hb dX12_params_100 rfl ?_
                have hPM_171 : PM (sv μ165 111 32 ((μL33.1 111 32) + 1)) := hp_88.cg ((((sv_n _ (by decide)).trans ((hp_167 4 (by decide)).trans ((hp_87 4 (by decide)).trans ((hi_37 4 (by decide)).trans (hp_3 4 (by decide))))))).trans (((hp_87 4 (by decide)).trans ((hi_37 4 (by decide)).trans (hp_3 4 (by decide))))).symm) ((sv_n _ (by decide)).trans (hp_167 6 (by decide))) ((((sv_n _ (by decide)).trans ((hp_167 7 (by decide)).trans ((hp_87 7 (by decide)).trans ((hi_37 7 (by decide)).trans (hp_3 7 (by decide))))))).trans (((hp_87 7 (by decide)).trans ((hi_37 7 (by decide)).trans (hp_3 7 (by decide))))).symm) ((sv_n _ (by decide)).trans (hp_167 8 (by decide))) ((sv_n _ (by decide)).trans (hp_167 9 (by decide))) ((sv_n _ (by decide)).trans (hp_167 11 (by decide))) ((sv_n _ (by decide)).trans (hp_167 12 (by decide))) ((((sv_n _ (by decide)).trans ((hp_167 14 (by decide)).trans ((hp_87 14 (by decide)).trans ((hi_37 14 (by decide)).trans (hp_3 14 (by decide))))))).trans (((hp_87 14 (by decide)).trans ((hi_37 14 (by decide)).trans (hp_3 14 (by decide))))).symm) ((sv_n _ (by decide)).trans (hp_167 15 (by decide))) ((((sv_n _ (by decide)).trans ((hp_167 29 (by decide)).trans ((hp_87 29 (by decide)).trans ((hi_37 29 (by decide)).trans (hp_3 29 (by decide))))))).trans (((hp_87 29 (by decide)).trans ((hi_37 29 (by decide)).trans (hp_3 29 (by decide))))).symm) (fun j => ((sv_n _ (by omega)).trans (F_166.1 123 (by decide) j)))
                have e_172 : wr (sv μ165 111 32 ((μL33.1 111 32) + 1)) = wr μ84 := ((wr_cg (sv_n _ (by decide))).trans (wr_cg (hp_167 15 (by decide))))
                have e_173 : nn (sv μ165 111 32 ((μL33.1 111 32) + 1)) = nn μ84 := ((nn_cg (sv_n _ (by decide)) (sv_n _ (by decide))).trans (nn_cg (hp_167 15 (by decide)) (hp_167 18 (by decide))))
                have e_174 : (sv μ165 111 32 ((μL33.1 111 32) + 1)).1 111 9 = μ84.1 111 9 := ((sv_n _ (by decide)).trans (hp_167 9 (by decide)))
                have e_175 : wr (sv μ165 111 32 ((μL33.1 111 32) + 1)) = wr μ84 := ((wr_cg (sv_n _ (by decide))).trans (wr_cg (hp_167 15 (by decide))))
                have e_176 : wr (sv μ165 111 32 ((μL33.1 111 32) + 1)) = wr μ84 := ((wr_cg (sv_n _ (by decide))).trans (wr_cg (hp_167 15 (by decide))))
                have e_177 : bd (sv μ165 111 32 ((μL33.1 111 32) + 1)) = bd μ165 := (bd_cg (sv_n _ (by decide)) (sv_n _ (by decide)) (sv_n _ (by decide)))
                have e_178 : nn (sv μ165 111 32 ((μL33.1 111 32) + 1)) = nn μ84 := ((nn_cg (sv_n _ (by decide)) (sv_n _ (by decide))).trans (nn_cg (hp_167 15 (by decide)) (hp_167 18 (by decide))))
                refine xc_iV G (b := 111) (rest := []) (As := [.int (iv 44)]) (c_X12_takesSign ω l (sv μ165 111 32 ((μL33.1 111 32) + 1)) 44 (by unfold ir; omega) hPM_171 (by omega)) (wm 9 106 rfl rfl) (wm 9 108 rfl rfl) (wm 0 139 rfl rfl) rfl rfl (by decide) rfl (wm 1 18 rfl rfl) (wm 9 109 rfl rfl) (by decide) hR (by decide) (n := 1) rfl rfl (Nat.le_of_ble_eq_true rfl) hl.1 dX12_params_102 (fun r_180 μ179 ρ d0 H locs hr_r_180 hp G => ?_)
                have hr_r_180 : -2147483648 ≤ r_180 ∧ r_180 ≤ 2147483647 := hr_r_180
                obtain ⟨F_181, hp_182, hp_183, hp_184, hp_185, hp_186, hp_187⟩ := hp
                have hpl_188 := hp_183.pl
                have hw_189 := wr_r (μ := μ179)
                refine lv_istore_n (lv' := [(1, .int (iv r_180)), (3, .long (jv r_85)), (2, .int (iv (μL33.1 111 9))), (0, .ref (oP ω 111))]) hx hb dX12_params_105 rfl hl (by decide) rfl (fun ls hl => ?_)
                refine lv_goto (tgt := 17) hx hb dX12_params_106 (by decide) ?_
                have e_190 : μ179.1 111 31 = μL33.1 111 31 := ((hp_182 31 (by decide)).trans ((sv_n _ (by decide)).trans ((hp_167 31 (by decide)).trans (hp_87 31 (by decide)))))
                have e_191 : μ179.1 111 31 = μL33.1 111 31 := ((hp_182 31 (by decide)).trans ((sv_n _ (by decide)).trans ((hp_167 31 (by decide)).trans (hp_87 31 (by decide)))))
                have e_192 : μ179.1 111 32 = (μL33.1 111 32) + 1 := ((hp_182 32 (by decide)).trans (sv_s _ _ _ _))
                have e_193 : μ179.1 111 32 = (μL33.1 111 32) + 1 := ((hp_182 32 (by decide)).trans (sv_s _ _ _ _))
                exact ih _ _ _ _ _ _ _ (by omega) ⟨r_180, (FrM.tr (FrM.put (FrM.tr (FrM.tr FL34 F_86 (by decide)) F_166 (by decide)) (by decide)) F_181 (by decide)), (by omega), (fun j hj => ((hp_182 j (fun h9 => hj ((by decide : ∀ x ∈ ([6, 8, 9, 10, 11, 12, 13, 15] : List Int), x ∈ ([6, 8, 9, 10, 11, 12, 13, 15, 16, 17, 18, 31, 32] : List Int)) j h9))).trans ((sv_n _ (fun h9 => hj (by rw [h9.2]; decide))).trans ((hp_167 j (fun h9 => hj ((by decide : ∀ x ∈ ([16] : List Int), x ∈ ([6, 8, 9, 10, 11, 12, 13, 15, 16, 17, 18, 31, 32] : List Int)) j h9))).trans ((hp_87 j (fun h9 => hj ((by decide : ∀ x ∈ ([6, 8, 9, 10, 11, 12, 13, 15] : List Int), x ∈ ([6, 8, 9, 10, 11, 12, 13, 15, 16, 17, 18, 31, 32] : List Int)) j h9))).trans (hi_37 j (fun h9 => hj ((by decide : ∀ x ∈ ([6, 8, 9, 10, 11, 12, 13, 15, 16, 17, 18, 31, 32] : List Int), x ∈ ([6, 8, 9, 10, 11, 12, 13, 15, 16, 17, 18, 31, 32] : List Int)) j h9)))))))), (by omega), hp_183, (by omega), (by omega), (by omega), (by omega), (by omega), (by omega), rfl, lv_sub hl [0, 3] rfl⟩ G
              · refine lv_aload_n hx hb dX12_params_83 rfl (lv_at hl 3 rfl) ?_
                refine lv_lload_n hx hb dX12_params_84 rfl (lv_at hl 0 rfl) ?_
                have e_194 : μ165.1 111 31 = μL33.1 111 31 := ((hp_167 31 (by decide)).trans (hp_87 31 (by decide)))
                have e_195 : μ165.1 111 31 = μL33.1 111 31 := ((hp_167 31 (by decide)).trans (hp_87 31 (by decide)))
                have e_196 : μ165.1 111 31 = μL33.1 111 31 := ((hp_167 31 (by decide)).trans (hp_87 31 (by decide)))
                have e_197 : μ165.1 111 31 = μL33.1 111 31 := ((hp_167 31 (by decide)).trans (hp_87 31 (by decide)))
                refine xc_iV G (b := 111) (rest := []) (As := [.long (jv r_85)]) (c_X12_newSlot ω l μ165 r_85 hr_r_85 (by omega)) (wm 9 102 rfl rfl) (wm 9 104 rfl rfl) (wm 0 138 rfl rfl) rfl rfl (by decide) rfl (wm 1 18 rfl rfl) (wm 9 105 rfl rfl) (by decide) hR (by decide) (n := 1) rfl rfl (Nat.le_of_ble_eq_true rfl) hl.1 dX12_params_85 (fun r_199 μ198 ρ d0 H locs hr_r_199 hp G => ?_)
                have hr_r_199 : -2147483648 ≤ r_199 ∧ r_199 ≤ 2147483647 := hr_r_199
                obtain ⟨F_200, hp_201, hp_202, hp_203⟩ := hp
                refine lv_pop hx hb dX12_params_88 rfl ?_
                refine lv_aload_n hx hb dX12_params_89 rfl (lv_at hl 3 rfl) ?_
                refine lv_dup hx hb dX12_params_90 rfl ?_
                refine xa_geti G fd_X12 (a := 111) (x := μL33.1 111 32) 32 rfl (by decide) rfl (wm 7 181 rfl rfl) ⟨rfl, rfl, rfl⟩ dX12_params_91 rfl ((hp_201 32 (by decide)).trans ((hp_167 32 (by decide)).trans (hp_87 32 (by decide)))) ?_
                have hr_204 : -2147483648 ≤ μL33.1 111 32 ∧ μL33.1 111 32 ≤ 2147483647 := by have h9 := G.hr (a := 111) (k := 32) rfl; rw [show μ198.1 111 32 = μL33.1 111 32 from ((hp_201 32 (by decide)).trans ((hp_167 32 (by decide)).trans (hp_87 32 (by decide))))] at h9; exact h9
                refine lv_iconst (v := iv 1) hx hb dX12_params_94 rfl ?_
                refine xb_iadd hx hb dX12_params_95 ?_
                refine xa_puti G fd_X12 (a := 111) (x := (μL33.1 111 32) + 1) 32 (kz := 32) rfl rfl (by decide) rfl (by unfold ir; omega) (wm 7 181 rfl rfl) ⟨rfl, rfl, rfl, rfl⟩ rfl dX12_params_96 rfl (fun H locs G => ?_)
                refine lv_aload_n hx hb dX12_params_99 rfl (lv_at hl 3 rfl) ?_
                refine lv_bipush (v := iv 44) hx hb dX12_params_100 rfl ?_
                have hPM_205 : PM (sv μ198 111 32 ((μL33.1 111 32) + 1)) := hp_88.cg ((((sv_n _ (by decide)).trans ((hp_201 4 (by decide)).trans ((hp_167 4 (by decide)).trans ((hp_87 4 (by decide)).trans ((hi_37 4 (by decide)).trans (hp_3 4 (by decide)))))))).trans (((hp_87 4 (by decide)).trans ((hi_37 4 (by decide)).trans (hp_3 4 (by decide))))).symm) ((sv_n _ (by decide)).trans ((hp_201 6 (by decide)).trans (hp_167 6 (by decide)))) ((((sv_n _ (by decide)).trans ((hp_201 7 (by decide)).trans ((hp_167 7 (by decide)).trans ((hp_87 7 (by decide)).trans ((hi_37 7 (by decide)).trans (hp_3 7 (by decide)))))))).trans (((hp_87 7 (by decide)).trans ((hi_37 7 (by decide)).trans (hp_3 7 (by decide))))).symm) ((sv_n _ (by decide)).trans ((hp_201 8 (by decide)).trans (hp_167 8 (by decide)))) ((sv_n _ (by decide)).trans ((hp_201 9 (by decide)).trans (hp_167 9 (by decide)))) ((sv_n _ (by decide)).trans ((hp_201 11 (by decide)).trans (hp_167 11 (by decide)))) ((sv_n _ (by decide)).trans ((hp_201 12 (by decide)).trans (hp_167 12 (by decide)))) ((((sv_n _ (by decide)).trans ((hp_201 14 (by decide)).trans ((hp_167 14 (by decide)).trans ((hp_87 14 (by decide)).trans ((hi_37 14 (by decide)).trans (hp_3 14 (by decide)))))))).trans (((hp_87 14 (by decide)).trans ((hi_37 14 (by decide)).trans (hp_3 14 (by decide))))).symm) ((sv_n _ (by decide)).trans ((hp_201 15 (by decide)).trans (hp_167 15 (by decide)))) ((((sv_n _ (by decide)).trans ((hp_201 29 (by decide)).trans ((hp_167 29 (by decide)).trans ((hp_87 29 (by decide)).trans ((hi_37 29 (by decide)).trans (hp_3 29 (by decide)))))))).trans (((hp_87 29 (by decide)).trans ((hi_37 29 (by decide)).trans (hp_3 29 (by decide))))).symm) (fun j => ((sv_n _ (by omega)).trans ((F_200.1 123 (by decide) j).trans (F_166.1 123 (by decide) j))))
                have e_206 : wr (sv μ198 111 32 ((μL33.1 111 32) + 1)) = wr μ84 := ((wr_cg (sv_n _ (by decide))).trans ((wr_cg (hp_201 15 (by decide))).trans (wr_cg (hp_167 15 (by decide)))))
                have e_207 : nn (sv μ198 111 32 ((μL33.1 111 32) + 1)) = nn μ84 := ((nn_cg (sv_n _ (by decide)) (sv_n _ (by decide))).trans ((nn_cg (hp_201 15 (by decide)) (hp_201 18 (by decide))).trans (nn_cg (hp_167 15 (by decide)) (hp_167 18 (by decide)))))
                have e_208 : (sv μ198 111 32 ((μL33.1 111 32) + 1)).1 111 9 = μ84.1 111 9 := ((sv_n _ (by decide)).trans ((hp_201 9 (by decide)).trans (hp_167 9 (by decide))))
                have e_209 : wr (sv μ198 111 32 ((μL33.1 111 32) + 1)) = wr μ84 := ((wr_cg (sv_n _ (by decide))).trans ((wr_cg (hp_201 15 (by decide))).trans (wr_cg (hp_167 15 (by decide)))))
                have e_210 : wr (sv μ198 111 32 ((μL33.1 111 32) + 1)) = wr μ84 := ((wr_cg (sv_n _ (by decide))).trans ((wr_cg (hp_201 15 (by decide))).trans (wr_cg (hp_167 15 (by decide)))))
                have e_211 : bd (sv μ198 111 32 ((μL33.1 111 32) + 1)) = bd μ165 := ((bd_cg (sv_n _ (by decide)) (sv_n _ (by decide)) (sv_n _ (by decide))).trans (bd_cg (hp_201 15 (by decide)) (hp_201 16 (by decide)) (hp_201 17 (by decide))))
                have e_212 : nn (sv μ198 111 32 ((μL33.1 111 32) + 1)) = nn μ84 := ((nn_cg (sv_n _ (by decide)) (sv_n _ (by decide))).trans ((nn_cg (hp_201 15 (by decide)) (hp_201 18 (by decide))).trans (nn_cg (hp_167 15 (by decide)) (hp_167 18 (by decide)))))
                refine xc_iV G (b := 111) (rest := []) (As := [.int (iv 44)]) (c_X12_takesSign ω l (sv μ198 111 32 ((μL33.1 111 32) + 1)) 44 (by unfold ir; omega) hPM_205 (by omega)) (wm 9 106 rfl rfl) (wm 9 108 rfl rfl) (wm 0 139 rfl rfl) rfl rfl (by decide) rfl (wm 1 18 rfl rfl) (wm 9 109 rfl rfl) (by decide) hR (by decide) (n := 1) rfl rfl (Nat.le_of_ble_eq_true rfl) hl.1 dX12_params_102 (fun r_214 μ213 ρ d0 H locs hr_r_214 hp G => ?_)
                have hr_r_214 : -2147483648 ≤ r_214 ∧ r_214 ≤ 2147483647 := hr_r_214
                obtain ⟨F_215, hp_216, hp_217, hp_218, hp_219, hp_220, hp_221⟩ := hp
                have hpl_222 := hp_217.pl
                have hw_223 := wr_r (μ := μ213)
                refine lv_istore_n (lv' := [(1, .int (iv r_214)), (3, .long (jv r_85)), (2, .int (iv (μL33.1 111 9))), (0, .ref (oP ω 111))]) hx hb dX12_params_105 rfl hl (by decide) rfl (fun ls hl => ?_)
                refine lv_goto (tgt := 17) hx hb dX12_params_106 (by decide) ?_
                have e_224 : μ213.1 111 31 = μ198.1 111 31 := ((hp_216 31 (by decide)).trans (sv_n _ (by decide)))
                have e_225 : μ213.1 111 31 = μ198.1 111 31 := ((hp_216 31 (by decide)).trans (sv_n _ (by decide)))
                have e_226 : μ213.1 111 32 = (μL33.1 111 32) + 1 := ((hp_216 32 (by decide)).trans (sv_s _ _ _ _))
                have e_227 : μ213.1 111 32 = (μL33.1 111 32) + 1 := ((hp_216 32 (by decide)).trans (sv_s _ _ _ _))
                exact ih _ _ _ _ _ _ _ (by omega) ⟨r_214, (FrM.tr (FrM.put (FrM.tr (FrM.tr (FrM.tr FL34 F_86 (by decide)) F_166 (by decide)) F_200 (by decide)) (by decide)) F_215 (by decide)), (by omega), (fun j hj => ((hp_216 j (fun h9 => hj ((by decide : ∀ x ∈ ([6, 8, 9, 10, 11, 12, 13, 15] : List Int), x ∈ ([6, 8, 9, 10, 11, 12, 13, 15, 16, 17, 18, 31, 32] : List Int)) j h9))).trans ((sv_n _ (fun h9 => hj (by rw [h9.2]; decide))).trans ((hp_201 j (fun h9 => hj ((by decide : ∀ x ∈ ([31] : List Int), x ∈ ([6, 8, 9, 10, 11, 12, 13, 15, 16, 17, 18, 31, 32] : List Int)) j h9))).trans ((hp_167 j (fun h9 => hj ((by decide : ∀ x ∈ ([16] : List Int), x ∈ ([6, 8, 9, 10, 11, 12, 13, 15, 16, 17, 18, 31, 32] : List Int)) j h9))).trans ((hp_87 j (fun h9 => hj ((by decide : ∀ x ∈ ([6, 8, 9, 10, 11, 12, 13, 15] : List Int), x ∈ ([6, 8, 9, 10, 11, 12, 13, 15, 16, 17, 18, 31, 32] : List Int)) j h9))).trans (hi_37 j (fun h9 => hj ((by decide : ∀ x ∈ ([6, 8, 9, 10, 11, 12, 13, 15, 16, 17, 18, 31, 32] : List Int), x ∈ ([6, 8, 9, 10, 11, 12, 13, 15, 16, 17, 18, 31, 32] : List Int)) j h9))))))))), (by omega), hp_217, (by omega), (by omega), (by omega), (by omega), (by omega), (by omega), rfl, lv_sub hl [0, 3] rfl⟩ G
          · refine lv_aload_n hx hb dX12_params_55 rfl (lv_at hl 3 rfl) ?_
            refine lv_iload_n hx hb dX12_params_56 rfl (lv_at hl 1 rfl) ?_
            refine xc_vV G (b := 111) (rest := []) (As := [.int (iv (μL33.1 111 9))]) (c_X12_wrong3 ω l μ84 (μL33.1 111 9) (by unfold ir; omega) (by omega)) (wm 9 74 rfl rfl) (wm 9 76 rfl rfl) (wm 0 131 rfl rfl) rfl rfl (by decide) rfl (wm 1 18 rfl rfl) (wm 9 77 rfl rfl) (by decide) hR (by decide) (n := 1) rfl rfl (Nat.le_of_ble_eq_true rfl) hl.1 dX12_params_57 (fun μ228 ρ d0 H locs hp G => ?_)
            obtain ⟨F_229, hp_230, hp_231⟩ := hp
            have hw_232 := wr_r (μ := μ228)
            refine lv_aload_n hx hb dX12_params_60 rfl (lv_at hl 3 rfl) ?_
            refine xa_geti G fd_X12 (a := 111) (x := μL33.1 111 31) 31 rfl (by decide) rfl (wm 7 180 rfl rfl) ⟨rfl, rfl, rfl⟩ dX12_params_61 rfl ((hp_230 31 (by decide)).trans (hp_87 31 (by decide))) ?_
            have hr_233 : -2147483648 ≤ μL33.1 111 31 ∧ μL33.1 111 31 ≤ 2147483647 := by have h9 := G.hr (a := 111) (k := 31) rfl; rw [show μ228.1 111 31 = μL33.1 111 31 from ((hp_230 31 (by decide)).trans (hp_87 31 (by decide)))] at h9; exact h9
            refine lv_iconst (v := iv 4) hx hb dX12_params_64 rfl ?_
            refine xb_icmp_ne (tgt := 73) hx hb (by unfold ir; omega) (by unfold ir; omega) dX12_params_65 (by decide) (fun c_65 => ?_) (fun c_65 => ?_)
            · refine lv_aload_n hx hb dX12_params_73 rfl (lv_at hl 3 rfl) ?_
              refine xa_geti G fd_X12 (a := 111) (x := μL33.1 111 31) 31 rfl (by decide) rfl (wm 7 180 rfl rfl) ⟨rfl, rfl, rfl⟩ dX12_params_74 rfl ((hp_230 31 (by decide)).trans (hp_87 31 (by decide))) ?_
              refine lv_sipush (v := iv 300) hx hb dX12_params_77 rfl ?_
              refine xb_icmp_ge (tgt := 89) hx hb (by unfold ir; omega) (by unfold ir; omega) dX12_params_80 (by decide) (fun c_80 => ?_) (fun c_80 => ?_)
              · refine lv_aload_n hx hb dX12_params_89 rfl (lv_at hl 3 rfl) ?_
                refine lv_dup hx hb dX12_params_90 rfl ?_
                refine xa_geti G fd_X12 (a := 111) (x := μL33.1 111 32) 32 rfl (by decide) rfl (wm 7 181 rfl rfl) ⟨rfl, rfl, rfl⟩ dX12_params_91 rfl ((hp_230 32 (by decide)).trans (hp_87 32 (by decide))) ?_
                have hr_234 : -2147483648 ≤ μL33.1 111 32 ∧ μL33.1 111 32 ≤ 2147483647 := by have h9 := G.hr (a := 111) (k := 32) rfl; rw [show μ228.1 111 32 = μL33.1 111 32 from ((hp_230 32 (by decide)).trans (hp_87 32 (by decide)))] at h9; exact h9
                refine lv_iconst (v := iv 1) hx hb dX12_params_94 rfl ?_
                refine xb_iadd hx hb dX12_params_95 ?_
                refine xa_puti G fd_X12 (a := 111) (x := (μL33.1 111 32) + 1) 32 (kz := 32) rfl rfl (by decide) rfl (by unfold ir; omega) (wm 7 181 rfl rfl) ⟨rfl, rfl, rfl, rfl⟩ rfl dX12_params_96 rfl (fun H locs G => ?_)
                refine lv_aload_n hx hb dX12_params_99 rfl (lv_at hl 3 rfl) ?_
                refine lv_bipush (v := iv 44) hx hb dX12_params_100 rfl ?_
                have hPM_235 : PM (sv μ228 111 32 ((μL33.1 111 32) + 1)) := hp_88.cg ((((sv_n _ (by decide)).trans ((hp_230 4 (by decide)).trans ((hp_87 4 (by decide)).trans ((hi_37 4 (by decide)).trans (hp_3 4 (by decide))))))).trans (((hp_87 4 (by decide)).trans ((hi_37 4 (by decide)).trans (hp_3 4 (by decide))))).symm) ((sv_n _ (by decide)).trans (hp_230 6 (by decide))) ((((sv_n _ (by decide)).trans ((hp_230 7 (by decide)).trans ((hp_87 7 (by decide)).trans ((hi_37 7 (by decide)).trans (hp_3 7 (by decide))))))).trans (((hp_87 7 (by decide)).trans ((hi_37 7 (by decide)).trans (hp_3 7 (by decide))))).symm) ((sv_n _ (by decide)).trans (hp_230 8 (by decide))) ((sv_n _ (by decide)).trans (hp_230 9 (by decide))) ((sv_n _ (by decide)).trans (hp_230 11 (by decide))) ((sv_n _ (by decide)).trans (hp_230 12 (by decide))) ((((sv_n _ (by decide)).trans ((hp_230 14 (by decide)).trans ((hp_87 14 (by decide)).trans ((hi_37 14 (by decide)).trans (hp_3 14 (by decide))))))).trans (((hp_87 14 (by decide)).trans ((hi_37 14 (by decide)).trans (hp_3 14 (by decide))))).symm) ((sv_n _ (by decide)).trans (hp_230 15 (by decide))) ((((sv_n _ (by decide)).trans ((hp_230 29 (by decide)).trans ((hp_87 29 (by decide)).trans ((hi_37 29 (by decide)).trans (hp_3 29 (by decide))))))).trans (((hp_87 29 (by decide)).trans ((hi_37 29 (by decide)).trans (hp_3 29 (by decide))))).symm) (fun j => ((sv_n _ (by omega)).trans (F_229.1 123 (by decide) j)))
                have e_236 : wr (sv μ228 111 32 ((μL33.1 111 32) + 1)) = wr μ84 := ((wr_cg (sv_n _ (by decide))).trans (wr_cg (hp_230 15 (by decide))))
                have e_237 : nn (sv μ228 111 32 ((μL33.1 111 32) + 1)) = nn μ84 := ((nn_cg (sv_n _ (by decide)) (sv_n _ (by decide))).trans (nn_cg (hp_230 15 (by decide)) (hp_230 18 (by decide))))
                have e_238 : (sv μ228 111 32 ((μL33.1 111 32) + 1)).1 111 9 = μ84.1 111 9 := ((sv_n _ (by decide)).trans (hp_230 9 (by decide)))
                have e_239 : wr (sv μ228 111 32 ((μL33.1 111 32) + 1)) = wr μ84 := ((wr_cg (sv_n _ (by decide))).trans (wr_cg (hp_230 15 (by decide))))
                have e_240 : wr (sv μ228 111 32 ((μL33.1 111 32) + 1)) = wr μ84 := ((wr_cg (sv_n _ (by decide))).trans (wr_cg (hp_230 15 (by decide))))
                have e_241 : bd (sv μ228 111 32 ((μL33.1 111 32) + 1)) = bd μ228 := (bd_cg (sv_n _ (by decide)) (sv_n _ (by decide)) (sv_n _ (by decide)))
                have e_242 : nn (sv μ228 111 32 ((μL33.1 111 32) + 1)) = nn μ84 := ((nn_cg (sv_n _ (by decide)) (sv_n _ (by decide))).trans (nn_cg (hp_230 15 (by decide)) (hp_230 18 (by decide))))
                refine xc_iV G (b := 111) (rest := []) (As := [.int (iv 44)]) (c_X12_takesSign ω l (sv μ228 111 32 ((μL33.1 111 32) + 1)) 44 (by unfold ir; omega) hPM_235 (by omega)) (wm 9 106 rfl rfl) (wm 9 108 rfl rfl) (wm 0 139 rfl rfl) rfl rfl (by decide) rfl (wm 1 18 rfl rfl) (wm 9 109 rfl rfl) (by decide) hR (by decide) (n := 1) rfl rfl (Nat.le_of_ble_eq_true rfl) hl.1 dX12_params_102 (fun r_244 μ243 ρ d0 H locs hr_r_244 hp G => ?_)
                have hr_r_244 : -2147483648 ≤ r_244 ∧ r_244 ≤ 2147483647 := hr_r_244
                obtain ⟨F_245, hp_246, hp_247, hp_248, hp_249, hp_250, hp_251⟩ := hp
                have hpl_252 := hp_247.pl
                have hw_253 := wr_r (μ := μ243)
                refine lv_istore_n (lv' := [(1, .int (iv r_244)), (3, .long (jv r_85)), (2, .int (iv (μL33.1 111 9))), (0, .ref (oP ω 111))]) hx hb dX12_params_105 rfl hl (by decide) rfl (fun ls hl => ?_)
                refine lv_goto (tgt := 17) hx hb dX12_params_106 (by decide) ?_
                have e_254 : μ243.1 111 31 = μL33.1 111 31 := ((hp_246 31 (by decide)).trans ((sv_n _ (by decide)).trans ((hp_230 31 (by decide)).trans (hp_87 31 (by decide)))))
                have e_255 : μ243.1 111 31 = μL33.1 111 31 := ((hp_246 31 (by decide)).trans ((sv_n _ (by decide)).trans ((hp_230 31 (by decide)).trans (hp_87 31 (by decide)))))
                have e_256 : μ243.1 111 32 = (μL33.1 111 32) + 1 := ((hp_246 32 (by decide)).trans (sv_s _ _ _ _))
                have e_257 : μ243.1 111 32 = (μL33.1 111 32) + 1 := ((hp_246 32 (by decide)).trans (sv_s _ _ _ _))
                exact ih _ _ _ _ _ _ _ (by omega) ⟨r_244, (FrM.tr (FrM.put (FrM.tr (FrM.tr FL34 F_86 (by decide)) F_229 (by decide)) (by decide)) F_245 (by decide)), (by omega), (fun j hj => ((hp_246 j (fun h9 => hj ((by decide : ∀ x ∈ ([6, 8, 9, 10, 11, 12, 13, 15] : List Int), x ∈ ([6, 8, 9, 10, 11, 12, 13, 15, 16, 17, 18, 31, 32] : List Int)) j h9))).trans ((sv_n _ (fun h9 => hj (by rw [h9.2]; decide))).trans ((hp_230 j (fun h9 => hj ((by decide : ∀ x ∈ ([17] : List Int), x ∈ ([6, 8, 9, 10, 11, 12, 13, 15, 16, 17, 18, 31, 32] : List Int)) j h9))).trans ((hp_87 j (fun h9 => hj ((by decide : ∀ x ∈ ([6, 8, 9, 10, 11, 12, 13, 15] : List Int), x ∈ ([6, 8, 9, 10, 11, 12, 13, 15, 16, 17, 18, 31, 32] : List Int)) j h9))).trans (hi_37 j (fun h9 => hj ((by decide : ∀ x ∈ ([6, 8, 9, 10, 11, 12, 13, 15, 16, 17, 18, 31, 32] : List Int), x ∈ ([6, 8, 9, 10, 11, 12, 13, 15, 16, 17, 18, 31, 32] : List Int)) j h9)))))))), (by omega), hp_247, (by omega), (by omega), (by omega), (by omega), (by omega), (by omega), rfl, lv_sub hl [0, 3] rfl⟩ G
              · refine lv_aload_n hx hb dX12_params_83 rfl (lv_at hl 3 rfl) ?_
                refine lv_lload_n hx hb dX12_params_84 rfl (lv_at hl 0 rfl) ?_
                have e_258 : μ228.1 111 31 = μL33.1 111 31 := ((hp_230 31 (by decide)).trans (hp_87 31 (by decide)))
                have e_259 : μ228.1 111 31 = μL33.1 111 31 := ((hp_230 31 (by decide)).trans (hp_87 31 (by decide)))
                have e_260 : μ228.1 111 31 = μL33.1 111 31 := ((hp_230 31 (by decide)).trans (hp_87 31 (by decide)))
                have e_261 : μ228.1 111 31 = μL33.1 111 31 := ((hp_230 31 (by decide)).trans (hp_87 31 (by decide)))
                refine xc_iV G (b := 111) (rest := []) (As := [.long (jv r_85)]) (c_X12_newSlot ω l μ228 r_85 hr_r_85 (by omega)) (wm 9 102 rfl rfl) (wm 9 104 rfl rfl) (wm 0 138 rfl rfl) rfl rfl (by decide) rfl (wm 1 18 rfl rfl) (wm 9 105 rfl rfl) (by decide) hR (by decide) (n := 1) rfl rfl (Nat.le_of_ble_eq_true rfl) hl.1 dX12_params_85 (fun r_263 μ262 ρ d0 H locs hr_r_263 hp G => ?_)
                have hr_r_263 : -2147483648 ≤ r_263 ∧ r_263 ≤ 2147483647 := hr_r_263
                obtain ⟨F_264, hp_265, hp_266, hp_267⟩ := hp
                refine lv_pop hx hb dX12_params_88 rfl ?_
                refine lv_aload_n hx hb dX12_params_89 rfl (lv_at hl 3 rfl) ?_
                refine lv_dup hx hb dX12_params_90 rfl ?_
                refine xa_geti G fd_X12 (a := 111) (x := μL33.1 111 32) 32 rfl (by decide) rfl (wm 7 181 rfl rfl) ⟨rfl, rfl, rfl⟩ dX12_params_91 rfl ((hp_265 32 (by decide)).trans ((hp_230 32 (by decide)).trans (hp_87 32 (by decide)))) ?_
                have hr_268 : -2147483648 ≤ μL33.1 111 32 ∧ μL33.1 111 32 ≤ 2147483647 := by have h9 := G.hr (a := 111) (k := 32) rfl; rw [show μ262.1 111 32 = μL33.1 111 32 from ((hp_265 32 (by decide)).trans ((hp_230 32 (by decide)).trans (hp_87 32 (by decide))))] at h9; exact h9
                refine lv_iconst (v := iv 1) hx hb dX12_params_94 rfl ?_
                refine xb_iadd hx hb dX12_params_95 ?_
                refine xa_puti G fd_X12 (a := 111) (x := (μL33.1 111 32) + 1) 32 (kz := 32) rfl rfl (by decide) rfl (by unfold ir; omega) (wm 7 181 rfl rfl) ⟨rfl, rfl, rfl, rfl⟩ rfl dX12_params_96 rfl (fun H locs G => ?_)
                refine lv_aload_n hx hb dX12_params_99 rfl (lv_at hl 3 rfl) ?_
                refine lv_bipush (v := iv 44) hx hb dX12_params_100 rfl ?_
                have hPM_269 : PM (sv μ262 111 32 ((μL33.1 111 32) + 1)) := hp_88.cg ((((sv_n _ (by decide)).trans ((hp_265 4 (by decide)).trans ((hp_230 4 (by decide)).trans ((hp_87 4 (by decide)).trans ((hi_37 4 (by decide)).trans (hp_3 4 (by decide)))))))).trans (((hp_87 4 (by decide)).trans ((hi_37 4 (by decide)).trans (hp_3 4 (by decide))))).symm) ((sv_n _ (by decide)).trans ((hp_265 6 (by decide)).trans (hp_230 6 (by decide)))) ((((sv_n _ (by decide)).trans ((hp_265 7 (by decide)).trans ((hp_230 7 (by decide)).trans ((hp_87 7 (by decide)).trans ((hi_37 7 (by decide)).trans (hp_3 7 (by decide)))))))).trans (((hp_87 7 (by decide)).trans ((hi_37 7 (by decide)).trans (hp_3 7 (by decide))))).symm) ((sv_n _ (by decide)).trans ((hp_265 8 (by decide)).trans (hp_230 8 (by decide)))) ((sv_n _ (by decide)).trans ((hp_265 9 (by decide)).trans (hp_230 9 (by decide)))) ((sv_n _ (by decide)).trans ((hp_265 11 (by decide)).trans (hp_230 11 (by decide)))) ((sv_n _ (by decide)).trans ((hp_265 12 (by decide)).trans (hp_230 12 (by decide)))) ((((sv_n _ (by decide)).trans ((hp_265 14 (by decide)).trans ((hp_230 14 (by decide)).trans ((hp_87 14 (by decide)).trans ((hi_37 14 (by decide)).trans (hp_3 14 (by decide)))))))).trans (((hp_87 14 (by decide)).trans ((hi_37 14 (by decide)).trans (hp_3 14 (by decide))))).symm) ((sv_n _ (by decide)).trans ((hp_265 15 (by decide)).trans (hp_230 15 (by decide)))) ((((sv_n _ (by decide)).trans ((hp_265 29 (by decide)).trans ((hp_230 29 (by decide)).trans ((hp_87 29 (by decide)).trans ((hi_37 29 (by decide)).trans (hp_3 29 (by decide)))))))).trans (((hp_87 29 (by decide)).trans ((hi_37 29 (by decide)).trans (hp_3 29 (by decide))))).symm) (fun j => ((sv_n _ (by omega)).trans ((F_264.1 123 (by decide) j).trans (F_229.1 123 (by decide) j))))
                have e_270 : wr (sv μ262 111 32 ((μL33.1 111 32) + 1)) = wr μ84 := ((wr_cg (sv_n _ (by decide))).trans ((wr_cg (hp_265 15 (by decide))).trans (wr_cg (hp_230 15 (by decide)))))
                have e_271 : nn (sv μ262 111 32 ((μL33.1 111 32) + 1)) = nn μ84 := ((nn_cg (sv_n _ (by decide)) (sv_n _ (by decide))).trans ((nn_cg (hp_265 15 (by decide)) (hp_265 18 (by decide))).trans (nn_cg (hp_230 15 (by decide)) (hp_230 18 (by decide)))))
                have e_272 : (sv μ262 111 32 ((μL33.1 111 32) + 1)).1 111 9 = μ84.1 111 9 := ((sv_n _ (by decide)).trans ((hp_265 9 (by decide)).trans (hp_230 9 (by decide))))
                have e_273 : wr (sv μ262 111 32 ((μL33.1 111 32) + 1)) = wr μ84 := ((wr_cg (sv_n _ (by decide))).trans ((wr_cg (hp_265 15 (by decide))).trans (wr_cg (hp_230 15 (by decide)))))
                have e_274 : wr (sv μ262 111 32 ((μL33.1 111 32) + 1)) = wr μ84 := ((wr_cg (sv_n _ (by decide))).trans ((wr_cg (hp_265 15 (by decide))).trans (wr_cg (hp_230 15 (by decide)))))
                have e_275 : bd (sv μ262 111 32 ((μL33.1 111 32) + 1)) = bd μ228 := ((bd_cg (sv_n _ (by decide)) (sv_n _ (by decide)) (sv_n _ (by decide))).trans (bd_cg (hp_265 15 (by decide)) (hp_265 16 (by decide)) (hp_265 17 (by decide))))
                have e_276 : nn (sv μ262 111 32 ((μL33.1 111 32) + 1)) = nn μ84 := ((nn_cg (sv_n _ (by decide)) (sv_n _ (by decide))).trans ((nn_cg (hp_265 15 (by decide)) (hp_265 18 (by decide))).trans (nn_cg (hp_230 15 (by decide)) (hp_230 18 (by decide)))))
                refine xc_iV G (b := 111) (rest := []) (As := [.int (iv 44)]) (c_X12_takesSign ω l (sv μ262 111 32 ((μL33.1 111 32) + 1)) 44 (by unfold ir; omega) hPM_269 (by omega)) (wm 9 106 rfl rfl) (wm 9 108 rfl rfl) (wm 0 139 rfl rfl) rfl rfl (by decide) rfl (wm 1 18 rfl rfl) (wm 9 109 rfl rfl) (by decide) hR (by decide) (n := 1) rfl rfl (Nat.le_of_ble_eq_true rfl) hl.1 dX12_params_102 (fun r_278 μ277 ρ d0 H locs hr_r_278 hp G => ?_)
                have hr_r_278 : -2147483648 ≤ r_278 ∧ r_278 ≤ 2147483647 := hr_r_278
                obtain ⟨F_279, hp_280, hp_281, hp_282, hp_283, hp_284, hp_285⟩ := hp
                have hpl_286 := hp_281.pl
                have hw_287 := wr_r (μ := μ277)
                refine lv_istore_n (lv' := [(1, .int (iv r_278)), (3, .long (jv r_85)), (2, .int (iv (μL33.1 111 9))), (0, .ref (oP ω 111))]) hx hb dX12_params_105 rfl hl (by decide) rfl (fun ls hl => ?_)
                refine lv_goto (tgt := 17) hx hb dX12_params_106 (by decide) ?_
                have e_288 : μ277.1 111 31 = μ262.1 111 31 := ((hp_280 31 (by decide)).trans (sv_n _ (by decide)))
                have e_289 : μ277.1 111 31 = μ262.1 111 31 := ((hp_280 31 (by decide)).trans (sv_n _ (by decide)))
                have e_290 : μ277.1 111 32 = (μL33.1 111 32) + 1 := ((hp_280 32 (by decide)).trans (sv_s _ _ _ _))
                have e_291 : μ277.1 111 32 = (μL33.1 111 32) + 1 := ((hp_280 32 (by decide)).trans (sv_s _ _ _ _))
                exact ih _ _ _ _ _ _ _ (by omega) ⟨r_278, (FrM.tr (FrM.put (FrM.tr (FrM.tr (FrM.tr FL34 F_86 (by decide)) F_229 (by decide)) F_264 (by decide)) (by decide)) F_279 (by decide)), (by omega), (fun j hj => ((hp_280 j (fun h9 => hj ((by decide : ∀ x ∈ ([6, 8, 9, 10, 11, 12, 13, 15] : List Int), x ∈ ([6, 8, 9, 10, 11, 12, 13, 15, 16, 17, 18, 31, 32] : List Int)) j h9))).trans ((sv_n _ (fun h9 => hj (by rw [h9.2]; decide))).trans ((hp_265 j (fun h9 => hj ((by decide : ∀ x ∈ ([31] : List Int), x ∈ ([6, 8, 9, 10, 11, 12, 13, 15, 16, 17, 18, 31, 32] : List Int)) j h9))).trans ((hp_230 j (fun h9 => hj ((by decide : ∀ x ∈ ([17] : List Int), x ∈ ([6, 8, 9, 10, 11, 12, 13, 15, 16, 17, 18, 31, 32] : List Int)) j h9))).trans ((hp_87 j (fun h9 => hj ((by decide : ∀ x ∈ ([6, 8, 9, 10, 11, 12, 13, 15] : List Int), x ∈ ([6, 8, 9, 10, 11, 12, 13, 15, 16, 17, 18, 31, 32] : List Int)) j h9))).trans (hi_37 j (fun h9 => hj ((by decide : ∀ x ∈ ([6, 8, 9, 10, 11, 12, 13, 15, 16, 17, 18, 31, 32] : List Int), x ∈ ([6, 8, 9, 10, 11, 12, 13, 15, 16, 17, 18, 31, 32] : List Int)) j h9))))))))), (by omega), hp_281, (by omega), (by omega), (by omega), (by omega), (by omega), (by omega), rfl, lv_sub hl [0, 3] rfl⟩ G
            · refine lv_aload_n hx hb dX12_params_68 rfl (lv_at hl 3 rfl) ?_
              refine lv_iload_n hx hb dX12_params_69 rfl (lv_at hl 1 rfl) ?_
              have e_292 : wr μ228 = wr μ84 := (wr_cg (hp_230 15 (by decide)))
              have e_293 : nn μ228 = nn μ84 := (nn_cg (hp_230 15 (by decide)) (hp_230 18 (by decide)))
              refine xc_vV G (b := 111) (rest := []) (As := [.int (iv (μL33.1 111 9))]) (c_X12_wrong2 ω l μ228 (μL33.1 111 9) (by unfold ir; omega) (by omega)) (wm 9 78 rfl rfl) (wm 9 80 rfl rfl) (wm 0 132 rfl rfl) rfl rfl (by decide) rfl (wm 1 18 rfl rfl) (wm 9 81 rfl rfl) (by decide) hR (by decide) (n := 1) rfl rfl (Nat.le_of_ble_eq_true rfl) hl.1 dX12_params_70 (fun μ294 ρ d0 H locs hp G => ?_)
              obtain ⟨F_295, hp_296, hp_297⟩ := hp
              have hw_298 := wr_r (μ := μ294)
              refine lv_aload_n hx hb dX12_params_73 rfl (lv_at hl 3 rfl) ?_
              refine xa_geti G fd_X12 (a := 111) (x := μL33.1 111 31) 31 rfl (by decide) rfl (wm 7 180 rfl rfl) ⟨rfl, rfl, rfl⟩ dX12_params_74 rfl ((hp_296 31 (by decide)).trans ((hp_230 31 (by decide)).trans (hp_87 31 (by decide)))) ?_
              refine lv_sipush (v := iv 300) hx hb dX12_params_77 rfl ?_
              refine xb_icmp_ge (tgt := 89) hx hb (by unfold ir; omega) (by unfold ir; omega) dX12_params_80 (by decide) (fun c_80 => ?_) (fun c_80 => ?_)
              · refine lv_aload_n hx hb dX12_params_89 rfl (lv_at hl 3 rfl) ?_
                refine lv_dup hx hb dX12_params_90 rfl ?_
                refine xa_geti G fd_X12 (a := 111) (x := μL33.1 111 32) 32 rfl (by decide) rfl (wm 7 181 rfl rfl) ⟨rfl, rfl, rfl⟩ dX12_params_91 rfl ((hp_296 32 (by decide)).trans ((hp_230 32 (by decide)).trans (hp_87 32 (by decide)))) ?_
                have hr_299 : -2147483648 ≤ μL33.1 111 32 ∧ μL33.1 111 32 ≤ 2147483647 := by have h9 := G.hr (a := 111) (k := 32) rfl; rw [show μ294.1 111 32 = μL33.1 111 32 from ((hp_296 32 (by decide)).trans ((hp_230 32 (by decide)).trans (hp_87 32 (by decide))))] at h9; exact h9
                refine lv_iconst (v := iv 1) hx hb dX12_params_94 rfl ?_
                refine xb_iadd hx hb dX12_params_95 ?_
                refine xa_puti G fd_X12 (a := 111) (x := (μL33.1 111 32) + 1) 32 (kz := 32) rfl rfl (by decide) rfl (by unfold ir; omega) (wm 7 181 rfl rfl) ⟨rfl, rfl, rfl, rfl⟩ rfl dX12_params_96 rfl (fun H locs G => ?_)
                refine lv_aload_n hx hb dX12_params_99 rfl (lv_at hl 3 rfl) ?_
                refine lv_bipush (v := iv 44) hx hb dX12_params_100 rfl ?_
                have hPM_300 : PM (sv μ294 111 32 ((μL33.1 111 32) + 1)) := hp_88.cg ((((sv_n _ (by decide)).trans ((hp_296 4 (by decide)).trans ((hp_230 4 (by decide)).trans ((hp_87 4 (by decide)).trans ((hi_37 4 (by decide)).trans (hp_3 4 (by decide)))))))).trans (((hp_87 4 (by decide)).trans ((hi_37 4 (by decide)).trans (hp_3 4 (by decide))))).symm) ((sv_n _ (by decide)).trans ((hp_296 6 (by decide)).trans (hp_230 6 (by decide)))) ((((sv_n _ (by decide)).trans ((hp_296 7 (by decide)).trans ((hp_230 7 (by decide)).trans ((hp_87 7 (by decide)).trans ((hi_37 7 (by decide)).trans (hp_3 7 (by decide)))))))).trans (((hp_87 7 (by decide)).trans ((hi_37 7 (by decide)).trans (hp_3 7 (by decide))))).symm) ((sv_n _ (by decide)).trans ((hp_296 8 (by decide)).trans (hp_230 8 (by decide)))) ((sv_n _ (by decide)).trans ((hp_296 9 (by decide)).trans (hp_230 9 (by decide)))) ((sv_n _ (by decide)).trans ((hp_296 11 (by decide)).trans (hp_230 11 (by decide)))) ((sv_n _ (by decide)).trans ((hp_296 12 (by decide)).trans (hp_230 12 (by decide)))) ((((sv_n _ (by decide)).trans ((hp_296 14 (by decide)).trans ((hp_230 14 (by decide)).trans ((hp_87 14 (by decide)).trans ((hi_37 14 (by decide)).trans (hp_3 14 (by decide)))))))).trans (((hp_87 14 (by decide)).trans ((hi_37 14 (by decide)).trans (hp_3 14 (by decide))))).symm) ((sv_n _ (by decide)).trans ((hp_296 15 (by decide)).trans (hp_230 15 (by decide)))) ((((sv_n _ (by decide)).trans ((hp_296 29 (by decide)).trans ((hp_230 29 (by decide)).trans ((hp_87 29 (by decide)).trans ((hi_37 29 (by decide)).trans (hp_3 29 (by decide)))))))).trans (((hp_87 29 (by decide)).trans ((hi_37 29 (by decide)).trans (hp_3 29 (by decide))))).symm) (fun j => ((sv_n _ (by omega)).trans ((F_295.1 123 (by decide) j).trans (F_229.1 123 (by decide) j))))
                have e_301 : wr (sv μ294 111 32 ((μL33.1 111 32) + 1)) = wr μ84 := ((wr_cg (sv_n _ (by decide))).trans ((wr_cg (hp_296 15 (by decide))).trans (wr_cg (hp_230 15 (by decide)))))
                have e_302 : nn (sv μ294 111 32 ((μL33.1 111 32) + 1)) = nn μ84 := ((nn_cg (sv_n _ (by decide)) (sv_n _ (by decide))).trans ((nn_cg (hp_296 15 (by decide)) (hp_296 18 (by decide))).trans (nn_cg (hp_230 15 (by decide)) (hp_230 18 (by decide)))))
                have e_303 : (sv μ294 111 32 ((μL33.1 111 32) + 1)).1 111 9 = μ84.1 111 9 := ((sv_n _ (by decide)).trans ((hp_296 9 (by decide)).trans (hp_230 9 (by decide))))
                have e_304 : wr (sv μ294 111 32 ((μL33.1 111 32) + 1)) = wr μ84 := ((wr_cg (sv_n _ (by decide))).trans ((wr_cg (hp_296 15 (by decide))).trans (wr_cg (hp_230 15 (by decide)))))
                have e_305 : wr (sv μ294 111 32 ((μL33.1 111 32) + 1)) = wr μ84 := ((wr_cg (sv_n _ (by decide))).trans ((wr_cg (hp_296 15 (by decide))).trans (wr_cg (hp_230 15 (by decide)))))
                have e_306 : bd (sv μ294 111 32 ((μL33.1 111 32) + 1)) = bd μ294 := (bd_cg (sv_n _ (by decide)) (sv_n _ (by decide)) (sv_n _ (by decide)))
                have e_307 : nn (sv μ294 111 32 ((μL33.1 111 32) + 1)) = nn μ84 := ((nn_cg (sv_n _ (by decide)) (sv_n _ (by decide))).trans ((nn_cg (hp_296 15 (by decide)) (hp_296 18 (by decide))).trans (nn_cg (hp_230 15 (by decide)) (hp_230 18 (by decide)))))
                refine xc_iV G (b := 111) (rest := []) (As := [.int (iv 44)]) (c_X12_takesSign ω l (sv μ294 111 32 ((μL33.1 111 32) + 1)) 44 (by unfold ir; omega) hPM_300 (by omega)) (wm 9 106 rfl rfl) (wm 9 108 rfl rfl) (wm 0 139 rfl rfl) rfl rfl (by decide) rfl (wm 1 18 rfl rfl) (wm 9 109 rfl rfl) (by decide) hR (by decide) (n := 1) rfl rfl (Nat.le_of_ble_eq_true rfl) hl.1 dX12_params_102 (fun r_309 μ308 ρ d0 H locs hr_r_309 hp G => ?_)
                have hr_r_309 : -2147483648 ≤ r_309 ∧ r_309 ≤ 2147483647 := hr_r_309
                obtain ⟨F_310, hp_311, hp_312, hp_313, hp_314, hp_315, hp_316⟩ := hp
                have hpl_317 := hp_312.pl
                have hw_318 := wr_r (μ := μ308)
                refine lv_istore_n (lv' := [(1, .int (iv r_309)), (3, .long (jv r_85)), (2, .int (iv (μL33.1 111 9))), (0, .ref (oP ω 111))]) hx hb dX12_params_105 rfl hl (by decide) rfl (fun ls hl => ?_)
                refine lv_goto (tgt := 17) hx hb dX12_params_106 (by decide) ?_
                have e_319 : μ308.1 111 31 = μL33.1 111 31 := ((hp_311 31 (by decide)).trans ((sv_n _ (by decide)).trans ((hp_296 31 (by decide)).trans ((hp_230 31 (by decide)).trans (hp_87 31 (by decide))))))
                have e_320 : μ308.1 111 31 = μL33.1 111 31 := ((hp_311 31 (by decide)).trans ((sv_n _ (by decide)).trans ((hp_296 31 (by decide)).trans ((hp_230 31 (by decide)).trans (hp_87 31 (by decide))))))
                have e_321 : μ308.1 111 32 = (μL33.1 111 32) + 1 := ((hp_311 32 (by decide)).trans (sv_s _ _ _ _))
                have e_322 : μ308.1 111 32 = (μL33.1 111 32) + 1 := ((hp_311 32 (by decide)).trans (sv_s _ _ _ _))
                exact ih _ _ _ _ _ _ _ (by omega) ⟨r_309, (FrM.tr (FrM.put (FrM.tr (FrM.tr (FrM.tr FL34 F_86 (by decide)) F_229 (by decide)) F_295 (by decide)) (by decide)) F_310 (by decide)), (by omega), (fun j hj => ((hp_311 j (fun h9 => hj ((by decide : ∀ x ∈ ([6, 8, 9, 10, 11, 12, 13, 15] : List Int), x ∈ ([6, 8, 9, 10, 11, 12, 13, 15, 16, 17, 18, 31, 32] : List Int)) j h9))).trans ((sv_n _ (fun h9 => hj (by rw [h9.2]; decide))).trans ((hp_296 j (fun h9 => hj ((by decide : ∀ x ∈ ([16] : List Int), x ∈ ([6, 8, 9, 10, 11, 12, 13, 15, 16, 17, 18, 31, 32] : List Int)) j h9))).trans ((hp_230 j (fun h9 => hj ((by decide : ∀ x ∈ ([17] : List Int), x ∈ ([6, 8, 9, 10, 11, 12, 13, 15, 16, 17, 18, 31, 32] : List Int)) j h9))).trans ((hp_87 j (fun h9 => hj ((by decide : ∀ x ∈ ([6, 8, 9, 10, 11, 12, 13, 15] : List Int), x ∈ ([6, 8, 9, 10, 11, 12, 13, 15, 16, 17, 18, 31, 32] : List Int)) j h9))).trans (hi_37 j (fun h9 => hj ((by decide : ∀ x ∈ ([6, 8, 9, 10, 11, 12, 13, 15, 16, 17, 18, 31, 32] : List Int), x ∈ ([6, 8, 9, 10, 11, 12, 13, 15, 16, 17, 18, 31, 32] : List Int)) j h9))))))))), (by omega), hp_312, (by omega), (by omega), (by omega), (by omega), (by omega), (by omega), rfl, lv_sub hl [0, 3] rfl⟩ G
              · refine lv_aload_n hx hb dX12_params_83 rfl (lv_at hl 3 rfl) ?_
                refine lv_lload_n hx hb dX12_params_84 rfl (lv_at hl 0 rfl) ?_
                have e_323 : μ294.1 111 31 = μL33.1 111 31 := ((hp_296 31 (by decide)).trans ((hp_230 31 (by decide)).trans (hp_87 31 (by decide))))
                have e_324 : μ294.1 111 31 = μL33.1 111 31 := ((hp_296 31 (by decide)).trans ((hp_230 31 (by decide)).trans (hp_87 31 (by decide))))
                have e_325 : μ294.1 111 31 = μL33.1 111 31 := ((hp_296 31 (by decide)).trans ((hp_230 31 (by decide)).trans (hp_87 31 (by decide))))
                have e_326 : μ294.1 111 31 = μL33.1 111 31 := ((hp_296 31 (by decide)).trans ((hp_230 31 (by decide)).trans (hp_87 31 (by decide))))
                refine xc_iV G (b := 111) (rest := []) (As := [.long (jv r_85)]) (c_X12_newSlot ω l μ294 r_85 hr_r_85 (by omega)) (wm 9 102 rfl rfl) (wm 9 104 rfl rfl) (wm 0 138 rfl rfl) rfl rfl (by decide) rfl (wm 1 18 rfl rfl) (wm 9 105 rfl rfl) (by decide) hR (by decide) (n := 1) rfl rfl (Nat.le_of_ble_eq_true rfl) hl.1 dX12_params_85 (fun r_328 μ327 ρ d0 H locs hr_r_328 hp G => ?_)
                have hr_r_328 : -2147483648 ≤ r_328 ∧ r_328 ≤ 2147483647 := hr_r_328
                obtain ⟨F_329, hp_330, hp_331, hp_332⟩ := hp
                refine lv_pop hx hb dX12_params_88 rfl ?_
                refine lv_aload_n hx hb dX12_params_89 rfl (lv_at hl 3 rfl) ?_
                refine lv_dup hx hb dX12_params_90 rfl ?_
                refine xa_geti G fd_X12 (a := 111) (x := μL33.1 111 32) 32 rfl (by decide) rfl (wm 7 181 rfl rfl) ⟨rfl, rfl, rfl⟩ dX12_params_91 rfl ((hp_330 32 (by decide)).trans ((hp_296 32 (by decide)).trans ((hp_230 32 (by decide)).trans (hp_87 32 (by decide))))) ?_
                have hr_333 : -2147483648 ≤ μL33.1 111 32 ∧ μL33.1 111 32 ≤ 2147483647 := by have h9 := G.hr (a := 111) (k := 32) rfl; rw [show μ327.1 111 32 = μL33.1 111 32 from ((hp_330 32 (by decide)).trans ((hp_296 32 (by decide)).trans ((hp_230 32 (by decide)).trans (hp_87 32 (by decide)))))] at h9; exact h9
                refine lv_iconst (v := iv 1) hx hb dX12_params_94 rfl ?_
                refine xb_iadd hx hb dX12_params_95 ?_
                refine xa_puti G fd_X12 (a := 111) (x := (μL33.1 111 32) + 1) 32 (kz := 32) rfl rfl (by decide) rfl (by unfold ir; omega) (wm 7 181 rfl rfl) ⟨rfl, rfl, rfl, rfl⟩ rfl dX12_params_96 rfl (fun H locs G => ?_)
                refine lv_aload_n hx hb dX12_params_99 rfl (lv_at hl 3 rfl) ?_
                refine lv_bipush (v := iv 44) hx hb dX12_params_100 rfl ?_
                have hPM_334 : PM (sv μ327 111 32 ((μL33.1 111 32) + 1)) := hp_88.cg ((((sv_n _ (by decide)).trans ((hp_330 4 (by decide)).trans ((hp_296 4 (by decide)).trans ((hp_230 4 (by decide)).trans ((hp_87 4 (by decide)).trans ((hi_37 4 (by decide)).trans (hp_3 4 (by decide))))))))).trans (((hp_87 4 (by decide)).trans ((hi_37 4 (by decide)).trans (hp_3 4 (by decide))))).symm) ((sv_n _ (by decide)).trans ((hp_330 6 (by decide)).trans ((hp_296 6 (by decide)).trans (hp_230 6 (by decide))))) ((((sv_n _ (by decide)).trans ((hp_330 7 (by decide)).trans ((hp_296 7 (by decide)).trans ((hp_230 7 (by decide)).trans ((hp_87 7 (by decide)).trans ((hi_37 7 (by decide)).trans (hp_3 7 (by decide))))))))).trans (((hp_87 7 (by decide)).trans ((hi_37 7 (by decide)).trans (hp_3 7 (by decide))))).symm) ((sv_n _ (by decide)).trans ((hp_330 8 (by decide)).trans ((hp_296 8 (by decide)).trans (hp_230 8 (by decide))))) ((sv_n _ (by decide)).trans ((hp_330 9 (by decide)).trans ((hp_296 9 (by decide)).trans (hp_230 9 (by decide))))) ((sv_n _ (by decide)).trans ((hp_330 11 (by decide)).trans ((hp_296 11 (by decide)).trans (hp_230 11 (by decide))))) ((sv_n _ (by decide)).trans ((hp_330 12 (by decide)).trans ((hp_296 12 (by decide)).trans (hp_230 12 (by decide))))) ((((sv_n _ (by decide)).trans ((hp_330 14 (by decide)).trans ((hp_296 14 (by decide)).trans ((hp_230 14 (by decide)).trans ((hp_87 14 (by decide)).trans ((hi_37 14 (by decide)).trans (hp_3 14 (by decide))))))))).trans (((hp_87 14 (by decide)).trans ((hi_37 14 (by decide)).trans (hp_3 14 (by decide))))).symm) ((sv_n _ (by decide)).trans ((hp_330 15 (by decide)).trans ((hp_296 15 (by decide)).trans (hp_230 15 (by decide))))) ((((sv_n _ (by decide)).trans ((hp_330 29 (by decide)).trans ((hp_296 29 (by decide)).trans ((hp_230 29 (by decide)).trans ((hp_87 29 (by decide)).trans ((hi_37 29 (by decide)).trans (hp_3 29 (by decide))))))))).trans (((hp_87 29 (by decide)).trans ((hi_37 29 (by decide)).trans (hp_3 29 (by decide))))).symm) (fun j => ((sv_n _ (by omega)).trans ((F_329.1 123 (by decide) j).trans ((F_295.1 123 (by decide) j).trans (F_229.1 123 (by decide) j)))))
                have e_335 : wr (sv μ327 111 32 ((μL33.1 111 32) + 1)) = wr μ84 := ((wr_cg (sv_n _ (by decide))).trans ((wr_cg (hp_330 15 (by decide))).trans ((wr_cg (hp_296 15 (by decide))).trans (wr_cg (hp_230 15 (by decide))))))
                have e_336 : nn (sv μ327 111 32 ((μL33.1 111 32) + 1)) = nn μ84 := ((nn_cg (sv_n _ (by decide)) (sv_n _ (by decide))).trans ((nn_cg (hp_330 15 (by decide)) (hp_330 18 (by decide))).trans ((nn_cg (hp_296 15 (by decide)) (hp_296 18 (by decide))).trans (nn_cg (hp_230 15 (by decide)) (hp_230 18 (by decide))))))
                have e_337 : (sv μ327 111 32 ((μL33.1 111 32) + 1)).1 111 9 = μ84.1 111 9 := ((sv_n _ (by decide)).trans ((hp_330 9 (by decide)).trans ((hp_296 9 (by decide)).trans (hp_230 9 (by decide)))))
                have e_338 : wr (sv μ327 111 32 ((μL33.1 111 32) + 1)) = wr μ84 := ((wr_cg (sv_n _ (by decide))).trans ((wr_cg (hp_330 15 (by decide))).trans ((wr_cg (hp_296 15 (by decide))).trans (wr_cg (hp_230 15 (by decide))))))
                have e_339 : wr (sv μ327 111 32 ((μL33.1 111 32) + 1)) = wr μ84 := ((wr_cg (sv_n _ (by decide))).trans ((wr_cg (hp_330 15 (by decide))).trans ((wr_cg (hp_296 15 (by decide))).trans (wr_cg (hp_230 15 (by decide))))))
                have e_340 : bd (sv μ327 111 32 ((μL33.1 111 32) + 1)) = bd μ294 := ((bd_cg (sv_n _ (by decide)) (sv_n _ (by decide)) (sv_n _ (by decide))).trans (bd_cg (hp_330 15 (by decide)) (hp_330 16 (by decide)) (hp_330 17 (by decide))))
                have e_341 : nn (sv μ327 111 32 ((μL33.1 111 32) + 1)) = nn μ84 := ((nn_cg (sv_n _ (by decide)) (sv_n _ (by decide))).trans ((nn_cg (hp_330 15 (by decide)) (hp_330 18 (by decide))).trans ((nn_cg (hp_296 15 (by decide)) (hp_296 18 (by decide))).trans (nn_cg (hp_230 15 (by decide)) (hp_230 18 (by decide))))))
                refine xc_iV G (b := 111) (rest := []) (As := [.int (iv 44)]) (c_X12_takesSign ω l (sv μ327 111 32 ((μL33.1 111 32) + 1)) 44 (by unfold ir; omega) hPM_334 (by omega)) (wm 9 106 rfl rfl) (wm 9 108 rfl rfl) (wm 0 139 rfl rfl) rfl rfl (by decide) rfl (wm 1 18 rfl rfl) (wm 9 109 rfl rfl) (by decide) hR (by decide) (n := 1) rfl rfl (Nat.le_of_ble_eq_true rfl) hl.1 dX12_params_102 (fun r_343 μ342 ρ d0 H locs hr_r_343 hp G => ?_)
                have hr_r_343 : -2147483648 ≤ r_343 ∧ r_343 ≤ 2147483647 := hr_r_343
                obtain ⟨F_344, hp_345, hp_346, hp_347, hp_348, hp_349, hp_350⟩ := hp
                have hpl_351 := hp_346.pl
                have hw_352 := wr_r (μ := μ342)
                refine lv_istore_n (lv' := [(1, .int (iv r_343)), (3, .long (jv r_85)), (2, .int (iv (μL33.1 111 9))), (0, .ref (oP ω 111))]) hx hb dX12_params_105 rfl hl (by decide) rfl (fun ls hl => ?_)
                refine lv_goto (tgt := 17) hx hb dX12_params_106 (by decide) ?_
                have e_353 : μ342.1 111 31 = μ327.1 111 31 := ((hp_345 31 (by decide)).trans (sv_n _ (by decide)))
                have e_354 : μ342.1 111 31 = μ327.1 111 31 := ((hp_345 31 (by decide)).trans (sv_n _ (by decide)))
                have e_355 : μ342.1 111 32 = (μL33.1 111 32) + 1 := ((hp_345 32 (by decide)).trans (sv_s _ _ _ _))
                have e_356 : μ342.1 111 32 = (μL33.1 111 32) + 1 := ((hp_345 32 (by decide)).trans (sv_s _ _ _ _))
                exact ih _ _ _ _ _ _ _ (by omega) ⟨r_343, (FrM.tr (FrM.put (FrM.tr (FrM.tr (FrM.tr (FrM.tr FL34 F_86 (by decide)) F_229 (by decide)) F_295 (by decide)) F_329 (by decide)) (by decide)) F_344 (by decide)), (by omega), (fun j hj => ((hp_345 j (fun h9 => hj ((by decide : ∀ x ∈ ([6, 8, 9, 10, 11, 12, 13, 15] : List Int), x ∈ ([6, 8, 9, 10, 11, 12, 13, 15, 16, 17, 18, 31, 32] : List Int)) j h9))).trans ((sv_n _ (fun h9 => hj (by rw [h9.2]; decide))).trans ((hp_330 j (fun h9 => hj ((by decide : ∀ x ∈ ([31] : List Int), x ∈ ([6, 8, 9, 10, 11, 12, 13, 15, 16, 17, 18, 31, 32] : List Int)) j h9))).trans ((hp_296 j (fun h9 => hj ((by decide : ∀ x ∈ ([16] : List Int), x ∈ ([6, 8, 9, 10, 11, 12, 13, 15, 16, 17, 18, 31, 32] : List Int)) j h9))).trans ((hp_230 j (fun h9 => hj ((by decide : ∀ x ∈ ([17] : List Int), x ∈ ([6, 8, 9, 10, 11, 12, 13, 15, 16, 17, 18, 31, 32] : List Int)) j h9))).trans ((hp_87 j (fun h9 => hj ((by decide : ∀ x ∈ ([6, 8, 9, 10, 11, 12, 13, 15] : List Int), x ∈ ([6, 8, 9, 10, 11, 12, 13, 15, 16, 17, 18, 31, 32] : List Int)) j h9))).trans (hi_37 j (fun h9 => hj ((by decide : ∀ x ∈ ([6, 8, 9, 10, 11, 12, 13, 15, 16, 17, 18, 31, 32] : List Int), x ∈ ([6, 8, 9, 10, 11, 12, 13, 15, 16, 17, 18, 31, 32] : List Int)) j h9)))))))))), (by omega), hp_346, (by omega), (by omega), (by omega), (by omega), (by omega), (by omega), rfl, lv_sub hl [0, 3] rfl⟩ G
        · have e_357 : μ84.1 111 31 = μL33.1 111 31 := (hp_87 31 (by decide))
          have e_358 : μ84.1 111 31 = μL33.1 111 31 := (hp_87 31 (by decide))
          have e_359 : μ84.1 111 32 = μL33.1 111 32 := (hp_87 32 (by decide))
          have e_360 : μ84.1 111 32 = μL33.1 111 32 := (hp_87 32 (by decide))
          exact xr_v G hret hlk dX12_params_45 ⟨(FrM.tr (FrM.tr (FrM.tr FrM.rf F_2 (by decide)) FL34 (by decide)) F_86 (by decide)), (fun j hj => ((hp_87 j (fun h9 => hj ((by decide : ∀ x ∈ ([6, 8, 9, 10, 11, 12, 13, 15] : List Int), x ∈ ([6, 8, 9, 10, 11, 12, 13, 15, 16, 17, 18, 31, 32] : List Int)) j h9))).trans ((hi_37 j (fun h9 => hj ((by decide : ∀ x ∈ ([6, 8, 9, 10, 11, 12, 13, 15, 16, 17, 18, 31, 32] : List Int), x ∈ ([6, 8, 9, 10, 11, 12, 13, 15, 16, 17, 18, 31, 32] : List Int)) j h9))).trans (hp_3 j (fun h9 => hj ((by decide : ∀ x ∈ ([6, 8, 9, 10, 11, 12, 13, 15, 18] : List Int), x ∈ ([6, 8, 9, 10, 11, 12, 13, 15, 16, 17, 18, 31, 32] : List Int)) j h9)))))), hp_88, (by omega), (by omega), (by rcases (show wr μ84 = 0 ∨ wr μ84 = 1 by omega) with q9 | q9 <;> omega), (by omega), (by omega)⟩
