/-! blocks at every depth -/
def LvK (ω : Om) (l : Launch) (kf : Int) (F Lo : Nat) : Prop := ∀ (μ : M3) (P : Int) (tt : Int) (hI : IC μ) (hP : P = μ.1 23 2) (htt : tt = μ.1 23 8) (hTK : TK μ) (hB : 2 * μ.1 P 1 ≤ 5 * μ.1 26 10 + 103 + 80 * μ.1 26 11) (hKc : μ.1 (P + 2) 3 ≤ μ.1 P 1) (ht3 : 0 ≤ tt ∧ tt ≤ 3) (hdp : 0 ≤ μ.1 23 9 ∧ μ.1 23 9 ≤ 8) (hfu : 0 ≤ (kf - 1) ∧ 9 ≤ μ.1 23 9 + (kf - 1)) (hs1 : ∀ _ : Unit, μ.1 26 11 = 0 → HC μ P tt 0), CtV ω l yX7_block cX7_block 2 (F + 0) (Lo + 0) [.ref (oP ω 23)] μ (fun (μ' : M3) => (Fr [2, 3, 4, 23, 24, 25, 26, P, P + 1, P + 2, (P + 2) + 1, (P + 2) + 2, (P + 2) + 3] μ μ') ∧ (IC μ') ∧ (TK μ') ∧ (μ.1 26 11 ≤ μ'.1 26 11) ∧ (μ.1 26 10 ≤ μ'.1 26 10) ∧ (μ.1 P 1 ≤ μ'.1 P 1 ∧ 2 * μ'.1 P 1 ≤ 2 * μ.1 P 1 + 5 * (μ'.1 26 10 - μ.1 26 10) + (- 10 + 15 * μ'.1 26 11 - 5 * μ.1 26 11)) ∧ (μ'.1 (P + 2) 3 - μ.1 (P + 2) 3 ≤ μ'.1 P 1 - μ.1 P 1 ∧ μ.1 (P + 2) 3 ≤ μ'.1 (P + 2) 3) ∧ (μ'.1 26 11 = 0 → EX μ μ' P tt 0 (2 * (7 - μ.1 23 9))) ∧ (μ.1 23 9 ≤ 7 + 100 * μ'.1 26 11) ∧ (μ'.1 23 2 = μ.1 23 2) ∧ (μ'.1 23 7 = μ.1 23 7) ∧ (μ'.1 23 8 = μ.1 23 8) ∧ (μ'.1 23 9 = μ.1 23 9) ∧ (μ'.1 26 6 = μ.1 26 6) ∧ (μ'.1 P 7 = μ.1 P 7))
theorem lk_step (ω : Om) (l : Launch) {kf : Int} {F Lo : Nat} (hF : 200 ≤ F) (hLo : 6000 ≤ Lo) (hK : LvK ω l kf F Lo) : LvK ω l (kf + 1) (F + 5) (Lo + 110) := by
  intro μ P tt hI hP htt hTK hB hKc ht3 hdp hfu hs1
  exact c_X7_block ω l μ F Lo kf P tt hI hP htt hF hLo hK hTK hB hKc ht3 hdp (by have := hfu; omega) hs1
theorem lk_0 (ω : Om) (l : Launch) (F Lo : Nat) : LvK ω l 0 F Lo := by
  intro μ P tt hI hP htt hTK hB hKc ht3 hdp hfu hs1
  exact absurd hfu.1 (by decide)
theorem lk_all (ω : Om) (l : Launch) : ∀ n : Nat, LvK ω l (n : Int) (200 + 5 * n) (6000 + 110 * n)
  | 0 => lk_0 ω l _ _
  | n + 1 => by
    have s := lk_step ω l (by omega) (by omega) (lk_all ω l n)
    have e1 : 200 + 5 * (n + 1) = 200 + 5 * n + 5 := by omega
    have e2 : 6000 + 110 * (n + 1) = 6000 + 110 * n + 110 := by omega
    rw [e1, e2]
    exact s
theorem c_X7_block_a (ω : Om) (l : Launch) (μ : M3) (P : Int) (tt : Int) (hI : IC μ) (hP : P = μ.1 23 2) (htt : tt = μ.1 23 8) (hTK : TK μ) (hB : 2 * μ.1 P 1 ≤ 5 * μ.1 26 10 + 103 + 80 * μ.1 26 11) (hKc : μ.1 (P + 2) 3 ≤ μ.1 P 1) (ht3 : 0 ≤ tt ∧ tt ≤ 3) (hdp : 0 ≤ μ.1 23 9 ∧ μ.1 23 9 ≤ 8) (hs1 : ∀ _ : Unit, μ.1 26 11 = 0 → HC μ P tt 0) : CtV ω l yX7_block cX7_block 2 250 7100 [.ref (oP ω 23)] μ (fun (μ' : M3) => (Fr [2, 3, 4, 23, 24, 25, 26, P, P + 1, P + 2, (P + 2) + 1, (P + 2) + 2, (P + 2) + 3] μ μ') ∧ (IC μ') ∧ (TK μ') ∧ (μ.1 26 11 ≤ μ'.1 26 11) ∧ (μ.1 26 10 ≤ μ'.1 26 10) ∧ (μ.1 P 1 ≤ μ'.1 P 1 ∧ 2 * μ'.1 P 1 ≤ 2 * μ.1 P 1 + 5 * (μ'.1 26 10 - μ.1 26 10) + (- 10 + 15 * μ'.1 26 11 - 5 * μ.1 26 11)) ∧ (μ'.1 (P + 2) 3 - μ.1 (P + 2) 3 ≤ μ'.1 P 1 - μ.1 P 1 ∧ μ.1 (P + 2) 3 ≤ μ'.1 (P + 2) 3) ∧ (μ'.1 26 11 = 0 → EX μ μ' P tt 0 (2 * (7 - μ.1 23 9))) ∧ (μ.1 23 9 ≤ 7 + 100 * μ'.1 26 11) ∧ (μ'.1 23 2 = μ.1 23 2) ∧ (μ'.1 23 7 = μ.1 23 7) ∧ (μ'.1 23 8 = μ.1 23 8) ∧ (μ'.1 23 9 = μ.1 23 9) ∧ (μ'.1 26 6 = μ.1 26 6) ∧ (μ'.1 P 7 = μ.1 P 7)) := by
  exact lk_all ω l 10 μ P tt hI hP htt hTK hB hKc ht3 hdp (by omega) hs1
set_option maxHeartbeats 4000000 in
set_option maxRecDepth 100000 in
theorem c_X8_addFunction_b (ω : Om) (l : Launch) (μ : M3) (pq : Int) (x1 : Int) (g : Int) (hpr : isPr pq) (hx1 : jr x1) (hI : IC μ) (hg : g = μ.1 pq 7) (hg0 : 0 ≤ g) : CtV ω l yX8_addFunction cX8_addFunction 3 0 0 [.ref (oP ω pq), .long (jv x1)] μ (fun (μ' : M3) => (Fr [pq + 6, pq + 7, pq] μ μ') ∧ (IC μ') ∧ (μ'.2 = μ.2) ∧ ((μ'.1 pq 7 = g ∧ ∀ j, μ'.1 (pq + 7) j = μ.1 (pq + 7) j) ∨ (0 ≤ g ∧ μ'.1 pq 7 = g + 1 ∧ μ'.1 (pq + 7) g = μ.1 pq 1 ∧ ∀ j, j ≠ g → μ'.1 (pq + 7) j = μ.1 (pq + 7) j)) ∧ (μ'.1 pq 1 = μ.1 pq 1)) := by
  refine CtV.go (by decide) (Nat.le_of_ble_eq_true rfl) (fun ρ p e s m below meth c R ls G hR hret hlk hl => ?_)
  have hx := G.1.1
  have hb := G.1.2.1
  have hl : lv_has ls 3 [(0, .ref (oP ω pq)), (1, .long (jv x1))] := hl
  generalize s.drawn = d0 at G ⊢
  have hpr_d : pq = 13 ∨ pq = 71 ∨ pq = 81 ∨ pq = 91 ∨ pq = 101 := hpr
  have hk_1 := hI.pr (p := pq) hpr
  unfold pk at hk_1
  have hc_2 : 16 ≤ μ.2.1 (pq + 1) ∧ μ.2.1 (pq + 1) ≤ 73024 := hI.rm.1 _ hpr.cap
  have hbr9 := hpr.br
  refine lv_aload_n hx hb dX8_addFunction_0 rfl (lv_at hl 0 rfl) ?_
  refine xa_geti G fd_X8 (a := pq) (x := g) 7 hpr.ly (by decide) rfl (wm 1 171 rfl rfl) ⟨rfl, rfl, rfl⟩ dX8_addFunction_1 (hpr.hq ω ρ) hg.symm ?_
  have hr_3 : -2147483648 ≤ g ∧ g ≤ 2147483647 := by have h9 := G.hr (a := pq) (k := 7) hpr.t7; rw [show μ.1 pq 7 = g from hg.symm] at h9; exact h9
  refine lv_bipush (v := iv 40) hx hb dX8_addFunction_4 rfl ?_
  refine xb_icmp_ge (tgt := 42) hx hb (by unfold ir; omega) (by unfold ir; omega) dX8_addFunction_6 (by decide) (fun c_6 => ?_) (fun c_6 => ?_)
  · exact xr_v G hret hlk dX8_addFunction_42 ⟨Fr.rf, hI, rfl, (Or.inl ⟨by omega, fun j => rfl⟩), (by omega)⟩
  · refine lv_aload_n hx hb dX8_addFunction_9 rfl (lv_at hl 0 rfl) ?_
    refine xa_getr G fd_X8 (a := pq) (x := pq + 6) 3 hpr.ly (by decide) rfl (wm 1 167 rfl rfl) ⟨rfl, rfl, rfl⟩ dX8_addFunction_10 (hpr.hq ω ρ) (G.sr hpr.s3) (by omega) (hpr.hq6 ω ρ) ?_
    refine lv_aload_n hx hb dX8_addFunction_13 rfl (lv_at hl 0 rfl) ?_
    refine xa_geti G fd_X8 (a := pq) (x := g) 7 hpr.ly (by decide) rfl (wm 1 171 rfl rfl) ⟨rfl, rfl, rfl⟩ dX8_addFunction_14 (hpr.hq ω ρ) hg.symm ?_
    refine lv_lload_n hx hb dX8_addFunction_17 rfl (lv_at hl 1 rfl) ?_
    refine xa_last G (a := pq + 6) (i := g) (x := x1) hpr.ly6 (by have h9 := (G.ll hpr.l6); omega) hx1 dX8_addFunction_18 (hpr.hq6 ω ρ) (fun H locs G => ?_)
    refine lv_aload_n hx hb dX8_addFunction_19 rfl (lv_at hl 0 rfl) ?_
    refine xa_getr G fd_X8 (a := pq) (x := pq + 7) 4 hpr.ly (by decide) rfl (wm 1 168 rfl rfl) ⟨rfl, rfl, rfl⟩ dX8_addFunction_20 (hpr.hq ω ρ) (G.sr hpr.s4) (by omega) (hpr.hq7 ω ρ) ?_
    refine lv_aload_n hx hb dX8_addFunction_23 rfl (lv_at hl 0 rfl) ?_
    refine xa_geti G fd_X8 (a := pq) (x := g) 7 hpr.ly (by decide) rfl (wm 1 171 rfl rfl) ⟨rfl, rfl, rfl⟩ dX8_addFunction_24 (hpr.hq ω ρ) ((sv_n _ (by omega)).trans hg.symm) ?_
    refine lv_aload_n hx hb dX8_addFunction_27 rfl (lv_at hl 0 rfl) ?_
    refine xa_geti G fd_X8 (a := pq) (x := μ.1 pq 1) 1 hpr.ly (by decide) rfl (wm 1 165 rfl rfl) ⟨rfl, rfl, rfl⟩ dX8_addFunction_28 (hpr.hq ω ρ) (sv_n _ (by omega)) ?_
    have hr_4 : -2147483648 ≤ μ.1 pq 1 ∧ μ.1 pq 1 ≤ 2147483647 := by have h9 := G.hr (a := pq) (k := 1) hpr.t1; rw [show (sv μ (pq + 6) g x1).1 pq 1 = μ.1 pq 1 from (sv_n _ (by omega))] at h9; exact h9
    refine xa_iast G (a := pq + 7) (i := g) (x := μ.1 pq 1) hpr.ly7 (by have h9 := (G.ll hpr.l7); omega) (by unfold ir; omega) dX8_addFunction_31 (hpr.hq7 ω ρ) (fun H locs G => ?_)
    refine lv_aload_n hx hb dX8_addFunction_32 rfl (lv_at hl 0 rfl) ?_
    refine lv_dup hx hb dX8_addFunction_33 rfl ?_
    refine xa_geti G fd_X8 (a := pq) (x := g) 7 hpr.ly (by decide) rfl (wm 1 171 rfl rfl) ⟨rfl, rfl, rfl⟩ dX8_addFunction_34 (hpr.hq ω ρ) ((sv_n _ (by omega)).trans ((sv_n _ (by omega)).trans hg.symm)) ?_
    refine lv_iconst (v := iv 1) hx hb dX8_addFunction_37 rfl ?_
    refine xb_iadd hx hb dX8_addFunction_38 ?_
    refine xa_puti G fd_X8 (a := pq) (x := g + 1) 7 (kz := 7) rfl hpr.ly (by decide) rfl (by unfold ir; omega) (wm 1 171 rfl rfl) ⟨rfl, rfl, rfl, rfl⟩ rfl dX8_addFunction_39 (hpr.hq ω ρ) (fun H locs G => ?_)
    have hI_5 : IC (sv (sv (sv μ (pq + 6) g x1) (pq + 7) g (μ.1 pq 1)) pq 7 (g + 1)) := (IC.pf (IC.pua (IC.pua hI (by rw [hpr.ly6]; decide)) (by rw [hpr.ly7]; decide)) hpr (by omega))
    have e_6 : (sv (sv (sv μ (pq + 6) g x1) (pq + 7) g (μ.1 pq 1)) pq 7 (g + 1)).1 pq 1 = μ.1 pq 1 := ((sv_n _ (fun h9 => absurd h9.2 (by decide))).trans ((sv_n _ (by omega)).trans (sv_n _ (by omega))))
    exact xr_v G hret hlk dX8_addFunction_42 ⟨(Fr.put (Fr.put (Fr.put Fr.rf (by simp)) (by simp)) (by simp)), hI_5, rfl, (Or.inr ⟨by omega, (sv_s _ _ _ _), ((sv_n _ (by omega)).trans (sv_s _ _ _ _)), fun j hj => ((sv_n _ (by omega)).trans ((sv_n _ (by omega)).trans (sv_n _ (by omega))))⟩), (by omega)⟩
