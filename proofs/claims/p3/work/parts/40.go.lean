abbrev cX4_goElsewhere : ByteArray := prog_6_method_14_code
def yX4_goElsewhere : MethodName := ⟨RX4, "goElsewhere", "()V"⟩
theorem dX4_goElsewhere_0 : decode cX4_goElsewhere 0 = .ok (.aload_n 0, 1) := by decide +kernel
theorem dX4_goElsewhere_1 : decode cX4_goElsewhere 1 = .ok (.getfield 83, 3) := by decide +kernel
theorem dX4_goElsewhere_4 : decode cX4_goElsewhere 4 = .ok (.aload_n 0, 1) := by decide +kernel
theorem dX4_goElsewhere_5 : decode cX4_goElsewhere 5 = .ok (.getfield 51, 3) := by decide +kernel
theorem dX4_goElsewhere_8 : decode cX4_goElsewhere 8 = .ok (.invokevirtual 165, 3) := by decide +kernel
theorem dX4_goElsewhere_11 : decode cX4_goElsewhere 11 = .ok (.istore_n 1, 1) := by decide +kernel
theorem dX4_goElsewhere_12 : decode cX4_goElsewhere 12 = .ok (.aload_n 0, 1) := by decide +kernel
theorem dX4_goElsewhere_13 : decode cX4_goElsewhere 13 = .ok (.getfield 83, 3) := by decide +kernel
theorem dX4_goElsewhere_16 : decode cX4_goElsewhere 16 = .ok (.aload_n 0, 1) := by decide +kernel
theorem dX4_goElsewhere_17 : decode cX4_goElsewhere 17 = .ok (.getfield 51, 3) := by decide +kernel
theorem dX4_goElsewhere_20 : decode cX4_goElsewhere 20 = .ok (.invokevirtual 168, 3) := by decide +kernel
theorem dX4_goElsewhere_23 : decode cX4_goElsewhere 23 = .ok (.istore_n 2, 1) := by decide +kernel
theorem dX4_goElsewhere_24 : decode cX4_goElsewhere 24 = .ok (.aload_n 0, 1) := by decide +kernel
theorem dX4_goElsewhere_25 : decode cX4_goElsewhere 25 = .ok (.getfield 83, 3) := by decide +kernel
theorem dX4_goElsewhere_28 : decode cX4_goElsewhere 28 = .ok (.aload_n 0, 1) := by decide +kernel
theorem dX4_goElsewhere_29 : decode cX4_goElsewhere 29 = .ok (.getfield 51, 3) := by decide +kernel
theorem dX4_goElsewhere_32 : decode cX4_goElsewhere 32 = .ok (.invokevirtual 140, 3) := by decide +kernel
theorem dX4_goElsewhere_35 : decode cX4_goElsewhere 35 = .ok (.tableswitch 192 19 32 #[69, 77, 85, 93, 100, 108, 115, 123, 132, 140, 152, 192, 167, 184], 69) := by decide +kernel
theorem dX4_goElsewhere_104 : decode cX4_goElsewhere 104 = .ok (.aload_n 0, 1) := by decide +kernel
theorem dX4_goElsewhere_105 : decode cX4_goElsewhere 105 = .ok (.iload_n 1, 1) := by decide +kernel
theorem dX4_goElsewhere_106 : decode cX4_goElsewhere 106 = .ok (.putfield 55, 3) := by decide +kernel
theorem dX4_goElsewhere_109 : decode cX4_goElsewhere 109 = .ok (.goto 118, 3) := by decide +kernel
theorem dX4_goElsewhere_112 : decode cX4_goElsewhere 112 = .ok (.aload_n 0, 1) := by decide +kernel
theorem dX4_goElsewhere_113 : decode cX4_goElsewhere 113 = .ok (.iload_n 1, 1) := by decide +kernel
theorem dX4_goElsewhere_114 : decode cX4_goElsewhere 114 = .ok (.invokevirtual 226, 3) := by decide +kernel
theorem dX4_goElsewhere_117 : decode cX4_goElsewhere 117 = .ok (.goto 110, 3) := by decide +kernel
theorem dX4_goElsewhere_120 : decode cX4_goElsewhere 120 = .ok (.aload_n 0, 1) := by decide +kernel
theorem dX4_goElsewhere_121 : decode cX4_goElsewhere 121 = .ok (.iconst 3, 1) := by decide +kernel
theorem dX4_goElsewhere_122 : decode cX4_goElsewhere 122 = .ok (.putfield 58, 3) := by decide +kernel
theorem dX4_goElsewhere_125 : decode cX4_goElsewhere 125 = .ok (.goto 102, 3) := by decide +kernel
theorem dX4_goElsewhere_128 : decode cX4_goElsewhere 128 = .ok (.aload_n 0, 1) := by decide +kernel
theorem dX4_goElsewhere_129 : decode cX4_goElsewhere 129 = .ok (.invokevirtual 229, 3) := by decide +kernel
theorem dX4_goElsewhere_132 : decode cX4_goElsewhere 132 = .ok (.goto 95, 3) := by decide +kernel
theorem dX4_goElsewhere_135 : decode cX4_goElsewhere 135 = .ok (.aload_n 0, 1) := by decide +kernel
theorem dX4_goElsewhere_136 : decode cX4_goElsewhere 136 = .ok (.iload_n 1, 1) := by decide +kernel
theorem dX4_goElsewhere_137 : decode cX4_goElsewhere 137 = .ok (.invokevirtual 223, 3) := by decide +kernel
theorem dX4_goElsewhere_140 : decode cX4_goElsewhere 140 = .ok (.goto 87, 3) := by decide +kernel
theorem dX4_goElsewhere_143 : decode cX4_goElsewhere 143 = .ok (.aload_n 0, 1) := by decide +kernel
theorem dX4_goElsewhere_144 : decode cX4_goElsewhere 144 = .ok (.invokevirtual 232, 3) := by decide +kernel
theorem dX4_goElsewhere_147 : decode cX4_goElsewhere 147 = .ok (.goto 80, 3) := by decide +kernel
theorem dX4_goElsewhere_150 : decode cX4_goElsewhere 150 = .ok (.aload_n 0, 1) := by decide +kernel
theorem dX4_goElsewhere_151 : decode cX4_goElsewhere 151 = .ok (.iload_n 1, 1) := by decide +kernel
theorem dX4_goElsewhere_152 : decode cX4_goElsewhere 152 = .ok (.invokevirtual 235, 3) := by decide +kernel
theorem dX4_goElsewhere_155 : decode cX4_goElsewhere 155 = .ok (.goto 72, 3) := by decide +kernel
theorem dX4_goElsewhere_158 : decode cX4_goElsewhere 158 = .ok (.aload_n 0, 1) := by decide +kernel
theorem dX4_goElsewhere_159 : decode cX4_goElsewhere 159 = .ok (.iload_n 1, 1) := by decide +kernel
theorem dX4_goElsewhere_160 : decode cX4_goElsewhere 160 = .ok (.iload_n 2, 1) := by decide +kernel
theorem dX4_goElsewhere_161 : decode cX4_goElsewhere 161 = .ok (.invokevirtual 238, 3) := by decide +kernel
theorem dX4_goElsewhere_164 : decode cX4_goElsewhere 164 = .ok (.goto 63, 3) := by decide +kernel
theorem dX4_goElsewhere_167 : decode cX4_goElsewhere 167 = .ok (.aload_n 0, 1) := by decide +kernel
theorem dX4_goElsewhere_168 : decode cX4_goElsewhere 168 = .ok (.iload_n 1, 1) := by decide +kernel
theorem dX4_goElsewhere_169 : decode cX4_goElsewhere 169 = .ok (.invokevirtual 241, 3) := by decide +kernel
theorem dX4_goElsewhere_172 : decode cX4_goElsewhere 172 = .ok (.goto 55, 3) := by decide +kernel
theorem dX4_goElsewhere_175 : decode cX4_goElsewhere 175 = .ok (.aload_n 0, 1) := by decide +kernel
theorem dX4_goElsewhere_176 : decode cX4_goElsewhere 176 = .ok (.getfield 43, 3) := by decide +kernel
theorem dX4_goElsewhere_179 : decode cX4_goElsewhere 179 = .ok (.iload_n 2, 1) := by decide +kernel
theorem dX4_goElsewhere_180 : decode cX4_goElsewhere 180 = .ok (.iload_n 1, 1) := by decide +kernel
theorem dX4_goElsewhere_181 : decode cX4_goElsewhere 181 = .ok (.invokevirtual 244, 3) := by decide +kernel
theorem dX4_goElsewhere_184 : decode cX4_goElsewhere 184 = .ok (.goto 43, 3) := by decide +kernel
theorem dX4_goElsewhere_187 : decode cX4_goElsewhere 187 = .ok (.aload_n 0, 1) := by decide +kernel
theorem dX4_goElsewhere_188 : decode cX4_goElsewhere 188 = .ok (.getfield 43, 3) := by decide +kernel
theorem dX4_goElsewhere_191 : decode cX4_goElsewhere 191 = .ok (.invokevirtual 246, 3) := by decide +kernel
theorem dX4_goElsewhere_194 : decode cX4_goElsewhere 194 = .ok (.aload_n 0, 1) := by decide +kernel
theorem dX4_goElsewhere_195 : decode cX4_goElsewhere 195 = .ok (.iload_n 1, 1) := by decide +kernel
theorem dX4_goElsewhere_196 : decode cX4_goElsewhere 196 = .ok (.putfield 55, 3) := by decide +kernel
theorem dX4_goElsewhere_199 : decode cX4_goElsewhere 199 = .ok (.goto 28, 3) := by decide +kernel
theorem dX4_goElsewhere_202 : decode cX4_goElsewhere 202 = .ok (.aload_n 0, 1) := by decide +kernel
theorem dX4_goElsewhere_203 : decode cX4_goElsewhere 203 = .ok (.getfield 43, 3) := by decide +kernel
theorem dX4_goElsewhere_206 : decode cX4_goElsewhere 206 = .ok (.iconst 0, 1) := by decide +kernel
theorem dX4_goElsewhere_207 : decode cX4_goElsewhere 207 = .ok (.iconst (-1), 1) := by decide +kernel
theorem dX4_goElsewhere_208 : decode cX4_goElsewhere 208 = .ok (.invokevirtual 249, 3) := by decide +kernel
theorem dX4_goElsewhere_211 : decode cX4_goElsewhere 211 = .ok (.aload_n 0, 1) := by decide +kernel
theorem dX4_goElsewhere_212 : decode cX4_goElsewhere 212 = .ok (.iload_n 1, 1) := by decide +kernel
theorem dX4_goElsewhere_213 : decode cX4_goElsewhere 213 = .ok (.putfield 55, 3) := by decide +kernel
theorem dX4_goElsewhere_216 : decode cX4_goElsewhere 216 = .ok (.goto 11, 3) := by decide +kernel
theorem dX4_goElsewhere_219 : decode cX4_goElsewhere 219 = .ok (.aload_n 0, 1) := by decide +kernel
theorem dX4_goElsewhere_220 : decode cX4_goElsewhere 220 = .ok (.iload_n 1, 1) := by decide +kernel
theorem dX4_goElsewhere_221 : decode cX4_goElsewhere 221 = .ok (.invokevirtual 252, 3) := by decide +kernel
theorem dX4_goElsewhere_224 : decode cX4_goElsewhere 224 = .ok (.goto 3, 3) := by decide +kernel
theorem dX4_goElsewhere_227 : decode cX4_goElsewhere 227 = .ok (.return_, 1) := by decide +kernel
/-- behind an instruction that goes elsewhere: it falls through, or jumps -/
def gfall (o S S' t : Int) : Prop := o ≠ 19 ∧ o ≠ 21 ∧ o ≠ 29 ∧ o ≠ 31 ∧ o ≠ 32 ∧ ((t = 2 ∧ (o = 23 ∨ o = 24 ∨ o = 25)) ∨ (o ≠ 23 ∧ o ≠ 25 ∧ (((o = 20 ∨ o = 22 ∨ o = 24 ∨ o = 27) ∧ S' ≤ max (S - 1) 0) ∨ (o ≠ 20 ∧ o ≠ 22 ∧ o ≠ 24 ∧ o ≠ 27 ∧ S' ≤ S))))
def gjump (o b S S' : Int) : Prop := ((o = 19 ∨ o = 29 ∨ o = 31 ∨ o = 32 ∨ o = 27) ∧ S' ≤ S) ∨ (o = 20 ∧ S' ≤ max (S - 1) 0) ∨ (o = 26 ∧ S' ≤ max (S - b) 0)
set_option maxHeartbeats 4000000 in
set_option maxRecDepth 100000 in
theorem c_X4_goElsewhere (ω : Om) (l : Launch) (μ : M3) (S : Int) (P : Int) (A : Int) (g : Int) (hI : IC μ) (hS : S = μ.1 33 3) (hP : P = μ.1 32 10) (hA : A = μ.1 32 11) (hg : g = μ.1 60 6) (hSb : S < 240099) (hst : 0 ≤ μ.1 70 2 ∧ μ.1 70 2 ≤ 5000 ∧ 0 ≤ μ.1 70 8 ∧ μ.1 70 8 ≤ 80000 ∧ μ.1 45 1 ≤ μ.1 70 2) (h0s : μ.1 32 13 = 0) (h26 : cdp μ P A 0 = 26 → 0 ≤ cdp μ P A 2 ∧ cdp μ P A 2 ≤ 100000) : CtV ω l yX4_goElsewhere cX4_goElsewhere 3 7 216 [.ref (oP ω 32)] μ (fun (μ' : M3) => (Fr [32, 33, 34, 35, 36, 70, 45, 46, 47, 48, 49, 50, 41, 42, 43, 44, 61, 63, 62, 64, 65, 60, 66, 67, 68, 69] μ μ') ∧ (IC μ') ∧ ((μ'.1 32 13 = 0 ∧ μ'.1 32 12 = μ.1 32 12 ∧ gfall (cdp μ P A 0) S (μ'.1 33 3) (ofF μ 53)) ∨ (μ'.1 32 13 = 0 ∧ μ'.1 32 12 = cdp μ P A 1 ∧ gjump (cdp μ P A 0) (cdp μ P A 2) S (μ'.1 33 3)) ∨ (μ'.1 33 3 ≤ S + 1 ∧ (μ'.1 32 13 = 1 ∨ μ'.1 32 13 = 3 ∨ μ'.1 32 13 = 4))) ∧ ((cdp μ P A 0 = 28 ∧ ((g < 400 ∧ μ'.1 60 6 = g + 1 ∧ μ'.1 61 g = (cdp μ P A 2).tdiv 64 ∧ μ'.1 62 g = cdp μ P A 1) ∨ (400 ≤ g ∧ μ'.1 60 6 = g))) ∨ ((cdp μ P A 0 = 29 ∨ cdp μ P A 0 = 32) ∧ μ'.1 60 6 = max (g - 1) 0) ∨ (cdp μ P A 0 ≠ 28 ∧ cdp μ P A 0 ≠ 29 ∧ cdp μ P A 0 ≠ 32 ∧ μ'.1 60 6 = g)) ∧ (∀ j, 0 ≤ j → j ≠ g → (μ'.1 61 j = μ.1 61 j ∨ (μ'.1 61 j = 5 ∧ cdp μ P A 0 = 31 ∧ j = g - 1))) ∧ (∀ j, j ≠ g → μ'.1 62 j = μ.1 62 j) ∧ (μ.1 70 2 ≤ μ'.1 70 2 ∧ μ'.1 70 2 ≤ 5000 ∧ 0 ≤ μ'.1 70 8 ∧ μ'.1 70 8 ≤ 80000 ∧ μ'.1 45 1 ≤ μ'.1 70 2) ∧ (μ'.1 32 10 = μ.1 32 10) ∧ (μ'.1 32 11 = μ.1 32 11) ∧ (μ'.1 32 15 = μ.1 32 15) ∧ (μ'.1 32 16 = μ.1 32 16) ∧ (μ'.1 70 1 = μ.1 70 1) ∧ (μ'.1 70 4 = μ.1 70 4) ∧ (μ'.1 70 5 = μ.1 70 5) ∧ (μ'.1 70 6 = μ.1 70 6) ∧ (μ'.1 70 7 = μ.1 70 7) ∧ (μ'.1 45 4 = μ.1 45 4)) := by
  refine CtV.go (by decide) (Nat.le_of_ble_eq_true rfl) (fun ρ p e s m below meth c R ls G hR hret hlk hl => ?_)
  have hx := G.1.1
  have hb := G.1.2.1
  have hl : lv_has ls 3 [(0, .ref (oP ω 32))] := hl
  generalize s.drawn = d0 at G ⊢
  have hk_1 := hI.row (r := 33) (by unfold isRow; decide)
  unfold rk at hk_1
  simp only [Int.reduceAdd] at hk_1
  have hbr_33 : BR 33 = 240100 := rfl
  have hn_2 : 0 ≤ μ.1 60 6 ∧ μ.1 60 6 ≤ 400 := hI.nm.2.2.2.2.2.1
  have hk_3 := hI.row (r := 37) (by unfold isRow; decide)
  unfold rk at hk_3
  simp only [Int.reduceAdd] at hk_3
  have hbr_37 : BR 37 = 20410 := rfl
  have hprP : isPr P := by have h9 := G.sr0.2.2.2.2.1; rw [← hP] at h9; exact h9
  have hprP_d : P = 13 ∨ P = 71 ∨ P = 81 ∨ P = 91 ∨ P = 101 := hprP
  have hn_4 : 0 ≤ μ.1 52 7 ∧ μ.1 52 7 ≤ 24 := hI.nm.2.2.2.2.1
  refine lv_aload_n hx hb dX4_goElsewhere_0 rfl (lv_at hl 0 rfl) ?_
  refine xa_getr G fd_X4 (a := 32) (x := P) 10 rfl (by decide) rfl (wm 2 154 rfl rfl) ⟨rfl, rfl, rfl⟩ dX4_goElsewhere_1 rfl hP.symm (by omega) (hprP.hq ω ρ) ?_
  refine lv_aload_n hx hb dX4_goElsewhere_4 rfl (lv_at hl 0 rfl) ?_
  refine xa_geti G fd_X4 (a := 32) (x := A) 11 rfl (by decide) rfl (wm 2 155 rfl rfl) ⟨rfl, rfl, rfl⟩ dX4_goElsewhere_5 rfl hA.symm ?_
  have hr_5 : -2147483648 ≤ A ∧ A ≤ 2147483647 := by have h9 := G.hr (a := 32) (k := 11) rfl; rw [show μ.1 32 11 = A from hA.symm] at h9; exact h9
  refine xc_iV G (b := P) (rest := []) (As := [.int (iv A)]) (c_X8_first ω l μ P A hprP (by unfold ir; omega) hI) (wm 5 182 rfl rfl) (wm 4 44 rfl rfl) (wm 4 45 rfl rfl) hprP.ly rfl (by decide) (hprP.hq ω ρ) (wm 1 9 rfl rfl) (wm 4 46 rfl rfl) (by decide) hR (by decide) (n := 1) rfl rfl (Nat.le_of_ble_eq_true rfl) hl.1 dX4_goElsewhere_8 (fun r_7 μ6 ρ d0 H locs hr_r_7 hp G => ?_)
  have hr_r_7 : -2147483648 ≤ r_7 ∧ r_7 ≤ 2147483647 := hr_r_7
  obtain ⟨hsm_8, hp_9⟩ := hp
  have hsm_8 := Eq.symm hsm_8
  subst hsm_8
  refine lv_istore_n (lv' := [(1, .int (iv r_7)), (0, .ref (oP ω 32))]) hx hb dX4_goElsewhere_11 rfl hl (by decide) rfl (fun ls hl => ?_)
  refine lv_aload_n hx hb dX4_goElsewhere_12 rfl (lv_at hl 1 rfl) ?_
  refine xa_getr G fd_X4 (a := 32) (x := P) 10 rfl (by decide) rfl (wm 2 154 rfl rfl) ⟨rfl, rfl, rfl⟩ dX4_goElsewhere_13 rfl hP.symm (by omega) (hprP.hq ω ρ) ?_
  refine lv_aload_n hx hb dX4_goElsewhere_16 rfl (lv_at hl 1 rfl) ?_
  refine xa_geti G fd_X4 (a := 32) (x := A) 11 rfl (by decide) rfl (wm 2 155 rfl rfl) ⟨rfl, rfl, rfl⟩ dX4_goElsewhere_17 rfl hA.symm ?_
  refine xc_iV G (b := P) (rest := []) (As := [.int (iv A)]) (c_X8_second ω l μ P A hprP (by unfold ir; omega) hI) (wm 5 184 rfl rfl) (wm 5 185 rfl rfl) (wm 5 186 rfl rfl) hprP.ly rfl (by decide) (hprP.hq ω ρ) (wm 1 9 rfl rfl) (wm 5 187 rfl rfl) (by decide) hR (by decide) (n := 1) rfl rfl (Nat.le_of_ble_eq_true rfl) hl.1 dX4_goElsewhere_20 (fun r_11 μ10 ρ d0 H locs hr_r_11 hp G => ?_)
  have hr_r_11 : -2147483648 ≤ r_11 ∧ r_11 ≤ 2147483647 := hr_r_11
  obtain ⟨hsm_12, hp_13⟩ := hp
  have hsm_12 := Eq.symm hsm_12
  subst hsm_12
  refine lv_istore_n (lv' := [(2, .int (iv r_11)), (1, .int (iv r_7)), (0, .ref (oP ω 32))]) hx hb dX4_goElsewhere_23 rfl hl (by decide) rfl (fun ls hl => ?_)
  refine lv_aload_n hx hb dX4_goElsewhere_24 rfl (lv_at hl 2 rfl) ?_
  refine xa_getr G fd_X4 (a := 32) (x := P) 10 rfl (by decide) rfl (wm 2 154 rfl rfl) ⟨rfl, rfl, rfl⟩ dX4_goElsewhere_25 rfl hP.symm (by omega) (hprP.hq ω ρ) ?_
  refine lv_aload_n hx hb dX4_goElsewhere_28 rfl (lv_at hl 2 rfl) ?_
  refine xa_geti G fd_X4 (a := 32) (x := A) 11 rfl (by decide) rfl (wm 2 155 rfl rfl) ⟨rfl, rfl, rfl⟩ dX4_goElsewhere_29 rfl hA.symm ?_
  refine xc_iV G (b := P) (rest := []) (As := [.int (iv A)]) (c_X8_op ω l μ P A hprP (by unfold ir; omega) hI) (wm 6 114 rfl rfl) (wm 6 115 rfl rfl) (wm 6 116 rfl rfl) hprP.ly rfl (by decide) (hprP.hq ω ρ) (wm 1 9 rfl rfl) (wm 6 117 rfl rfl) (by decide) hR (by decide) (n := 1) rfl rfl (Nat.le_of_ble_eq_true rfl) hl.1 dX4_goElsewhere_32 (fun r_15 μ14 ρ d0 H locs hr_r_15 hp G => ?_)
  have hr_r_15 : -2147483648 ≤ r_15 ∧ r_15 ≤ 2147483647 := hr_r_15
  obtain ⟨hsm_16, hp_17⟩ := hp
  have hsm_16 := Eq.symm hsm_16
  subst hsm_16
  by_cases c_35_out : r_15 < 19 ∨ 32 < r_15
  · refine xb_tout (tgt := 227) hx hb (by unfold ir; omega) dX4_goElsewhere_35 c_35_out (by decide) ?_
    have e_18 : μ.1 33 3 = S := hS.symm
    have e_19 : μ.1 60 6 = g := hg.symm
    have e_20 : μ.1 32 10 = P := hP.symm
    have ho_e : cdp μ P A 0 < 19 ∨ 32 < cdp μ P A 0 := by omega
    have h0_e : (μ.1 32 13 = 0 ∧ μ.1 32 12 = μ.1 32 12 ∧ gfall (cdp μ P A 0) S (μ.1 33 3) (ofF μ 53)) ∨ (μ.1 32 13 = 0 ∧ μ.1 32 12 = cdp μ P A 1 ∧ gjump (cdp μ P A 0) (cdp μ P A 2) S (μ.1 33 3)) ∨ (μ.1 33 3 ≤ S + 1 ∧ (μ.1 32 13 = 1 ∨ μ.1 32 13 = 3 ∨ μ.1 32 13 = 4)) := by
      exact Or.inl ⟨by omega, by omega, by unfold gfall; omega⟩
    have e_21 : μ.1 32 10 = P := hP.symm
    have e_22 : μ.1 32 11 = A := hA.symm
    exact xr_v G hret hlk dX4_goElsewhere_227 ⟨Fr.rf, hI, h0_e, (Or.inr (Or.inr ⟨by omega, by omega, by omega, by omega⟩)), (fun j h0 hj => Or.inl rfl), (fun j hj => rfl), (by omega), (by omega), (by omega), (by omega), (by omega), (by omega), (by omega), (by omega), (by omega), (by omega), (by omega)⟩
  by_cases c_35_19 : r_15 = 19
  · refine xb_tin (tgt := 104) hx hb (by unfold ir; omega) dX4_goElsewhere_35 (by omega) (off := 69) (by rw [c_35_19]; rfl) (by decide) ?_
    refine lv_aload_n hx hb dX4_goElsewhere_104 rfl (lv_at hl 2 rfl) ?_
    refine lv_iload_n hx hb dX4_goElsewhere_105 rfl (lv_at hl 1 rfl) ?_
    refine xa_puti G fd_X4 (a := 32) (x := r_7) 12 (kz := 12) rfl rfl (by decide) rfl (by unfold ir; omega) (wm 2 156 rfl rfl) ⟨rfl, rfl, rfl, rfl⟩ rfl dX4_goElsewhere_106 rfl (fun H locs G => ?_)
    refine lv_goto (tgt := 227) hx hb dX4_goElsewhere_109 (by decide) ?_
    have e_23 : (sv μ 32 12 r_7).1 33 3 = S := ((sv_n _ (fun h9 => absurd h9.1 (by decide))).trans hS.symm)
    have e_24 : (sv μ 32 12 r_7).1 32 13 = μ.1 32 13 := (sv_n _ (by decide))
    have e_25 : (sv μ 32 12 r_7).1 52 7 = μ.1 52 7 := (sv_n _ (fun h9 => absurd h9.1 (by decide)))
    have e_26 : (sv μ 32 12 r_7).1 32 12 = r_7 := (sv_s _ _ _ _)
    have e_27 : (sv μ 32 12 r_7).1 60 6 = g := ((sv_n _ (fun h9 => absurd h9.1 (by decide))).trans hg.symm)
    have e_28 : (sv μ 32 12 r_7).1 32 10 = P := ((sv_n _ (by decide)).trans hP.symm)
    have e_29 : (sv μ 32 12 r_7).1 45 4 = μ.1 45 4 := (sv_n _ (fun h9 => absurd h9.1 (by decide)))
    have e_30 : (sv μ 32 12 r_7).1 61 g = μ.1 61 g := (sv_n _ (fun h9 => absurd h9.1 (by decide)))
    have e_31 : (sv μ 32 12 r_7).1 62 g = μ.1 62 g := (sv_n _ (fun h9 => absurd h9.1 (by decide)))
    have e_32 : ofF (sv μ 32 12 r_7) 53 = ofF μ 53 := (ofF_sv μ (by decide) (by decide))
    have ho_e : cdp μ P A 0 = 19 := by omega
    have h0_e : ((sv μ 32 12 r_7).1 32 13 = 0 ∧ (sv μ 32 12 r_7).1 32 12 = μ.1 32 12 ∧ gfall (cdp μ P A 0) S ((sv μ 32 12 r_7).1 33 3) (ofF μ 53)) ∨ ((sv μ 32 12 r_7).1 32 13 = 0 ∧ (sv μ 32 12 r_7).1 32 12 = cdp μ P A 1 ∧ gjump (cdp μ P A 0) (cdp μ P A 2) S ((sv μ 32 12 r_7).1 33 3)) ∨ ((sv μ 32 12 r_7).1 33 3 ≤ S + 1 ∧ ((sv μ 32 12 r_7).1 32 13 = 1 ∨ (sv μ 32 12 r_7).1 32 13 = 3 ∨ (sv μ 32 12 r_7).1 32 13 = 4)) := by
      exact Or.inr (Or.inl ⟨by omega, by omega, by unfold gjump; omega⟩)
    have hI_33 : IC (sv μ 32 12 r_7) := (IC.put hI (by decide +kernel))
    have e_34 : (sv μ 32 12 r_7).1 70 2 = μ.1 70 2 := (sv_n _ (fun h9 => absurd h9.1 (by decide)))
    have e_35 : (sv μ 32 12 r_7).1 70 2 = μ.1 70 2 := (sv_n _ (fun h9 => absurd h9.1 (by decide)))
    have e_36 : (sv μ 32 12 r_7).1 70 8 = μ.1 70 8 := (sv_n _ (fun h9 => absurd h9.1 (by decide)))
    have e_37 : (sv μ 32 12 r_7).1 70 8 = μ.1 70 8 := (sv_n _ (fun h9 => absurd h9.1 (by decide)))
    have e_38 : (sv μ 32 12 r_7).1 45 1 = μ.1 45 1 := (sv_n _ (fun h9 => absurd h9.1 (by decide)))
    have e_39 : (sv μ 32 12 r_7).1 70 2 = μ.1 70 2 := (sv_n _ (fun h9 => absurd h9.1 (by decide)))
    have e_40 : (sv μ 32 12 r_7).1 32 10 = P := ((sv_n _ (by decide)).trans hP.symm)
    have e_41 : (sv μ 32 12 r_7).1 32 11 = A := ((sv_n _ (by decide)).trans hA.symm)
    have e_42 : (sv μ 32 12 r_7).1 32 15 = μ.1 32 15 := (sv_n _ (by decide))
    have e_43 : (sv μ 32 12 r_7).1 32 16 = μ.1 32 16 := (sv_n _ (by decide))
    have e_44 : (sv μ 32 12 r_7).1 70 1 = μ.1 70 1 := (sv_n _ (fun h9 => absurd h9.1 (by decide)))
    have e_45 : (sv μ 32 12 r_7).1 70 4 = μ.1 70 4 := (sv_n _ (fun h9 => absurd h9.1 (by decide)))
    have e_46 : (sv μ 32 12 r_7).1 70 5 = μ.1 70 5 := (sv_n _ (fun h9 => absurd h9.1 (by decide)))
    have e_47 : (sv μ 32 12 r_7).1 70 6 = μ.1 70 6 := (sv_n _ (fun h9 => absurd h9.1 (by decide)))
    have e_48 : (sv μ 32 12 r_7).1 70 7 = μ.1 70 7 := (sv_n _ (fun h9 => absurd h9.1 (by decide)))
    have e_49 : (sv μ 32 12 r_7).1 45 4 = μ.1 45 4 := (sv_n _ (fun h9 => absurd h9.1 (by decide)))
    exact xr_v G hret hlk dX4_goElsewhere_227 ⟨(Fr.put Fr.rf (by decide)), hI_33, h0_e, (Or.inr (Or.inr ⟨by omega, by omega, by omega, by omega⟩)), (fun j h0 hj => Or.inl (sv_n _ (by omega))), (fun j hj => (sv_n _ (by omega))), (by omega), (by omega), (by omega), (by omega), (by omega), (by omega), (by omega), (by omega), (by omega), (by omega), (by omega)⟩
  by_cases c_35_20 : r_15 = 20
  · refine xb_tin (tgt := 112) hx hb (by unfold ir; omega) dX4_goElsewhere_35 (by omega) (off := 77) (by rw [c_35_20]; rfl) (by decide) ?_
    refine lv_aload_n hx hb dX4_goElsewhere_112 rfl (lv_at hl 2 rfl) ?_
    refine lv_iload_n hx hb dX4_goElsewhere_113 rfl (lv_at hl 1 rfl) ?_
    have e_50 : μ.1 33 3 = S := hS.symm
    have hn_51 : 0 ≤ μ.1 45 1 ∧ 9 * μ.1 45 1 ≤ μ.2.1 46 := hI.nm.2.2.2.2.2.2.1
    have e_52 : μ.1 32 10 = P := hP.symm
    have e_53 : μ.1 32 11 = A := hA.symm
    have hn_54 : 0 ≤ μ.1 45 4 ∧ 2 * μ.1 45 4 ≤ μ.2.1 51 := hI.nm.2.2.2.2.2.2.2.1
    refine xc_vV G (b := 32) (rest := []) (As := [.int (iv r_7)]) (c_X4_question ω l μ r_7 S (by unfold ir; omega) hI (by omega) (by omega) (by omega) (by omega)) (wm 7 32 rfl rfl) (wm 7 34 rfl rfl) (wm 0 112 rfl rfl) rfl rfl (by decide) rfl (wm 1 14 rfl rfl) (wm 7 35 rfl rfl) (by decide) hR (by decide) (n := 1) rfl rfl (Nat.le_of_ble_eq_true rfl) hl.1 dX4_goElsewhere_114 (fun μ55 ρ d0 H locs hp G => ?_)
    obtain ⟨F_56, hI_57, hp_58, hp_59, hs_60, hs_61, hs_62, hs_63, hs_64, hs_65, hs_66, hs_67, hs_68, hs_69, hs_70⟩ := hp
    have hk_71 := hI_57.row (r := 33) (by unfold isRow; decide)
    unfold rk at hk_71
    simp only [Int.reduceAdd] at hk_71
    have hn_72 : 0 ≤ μ55.1 45 1 ∧ 9 * μ55.1 45 1 ≤ μ55.2.1 46 := hI_57.nm.2.2.2.2.2.2.1
    refine lv_goto (tgt := 227) hx hb dX4_goElsewhere_117 (by decide) ?_
    have e_73 : μ55.1 52 7 = μ.1 52 7 := (F_56.1 52 (by decide) 7)
    have e_74 : μ55.1 60 6 = g := ((F_56.1 60 (by decide) 6).trans hg.symm)
    have e_75 : μ55.1 32 10 = P := (hs_60.trans hP.symm)
    have e_76 : μ55.1 45 4 = μ.1 45 4 := hs_70
    have e_77 : μ55.1 61 g = μ.1 61 g := (F_56.1 61 (by decide) g)
    have e_78 : μ55.1 62 g = μ.1 62 g := (F_56.1 62 (by decide) g)
    have e_79 : ofF μ55 53 = ofF μ 53 := (ofF_fr F_56 (by decide) (by decide))
    have ho_e : cdp μ P A 0 = 20 := by omega
    have h0_e : (μ55.1 32 13 = 0 ∧ μ55.1 32 12 = μ.1 32 12 ∧ gfall (cdp μ P A 0) S (μ55.1 33 3) (ofF μ 53)) ∨ (μ55.1 32 13 = 0 ∧ μ55.1 32 12 = cdp μ P A 1 ∧ gjump (cdp μ P A 0) (cdp μ P A 2) S (μ55.1 33 3)) ∨ (μ55.1 33 3 ≤ S + 1 ∧ (μ55.1 32 13 = 1 ∨ μ55.1 32 13 = 3 ∨ μ55.1 32 13 = 4)) := by
      rcases hp_58 with ⟨q1, q2, q3⟩ | ⟨q1, q2⟩
      · rcases q3 with q3 | q3
        · exact Or.inl ⟨by omega, by omega, by unfold gfall; omega⟩
        · exact Or.inr (Or.inl ⟨by omega, by omega, by unfold gjump; omega⟩)
      · exact Or.inr (Or.inr ⟨by omega, by omega⟩)
    have e_80 : μ55.1 32 10 = P := (hs_60.trans hP.symm)
    have e_81 : μ55.1 32 11 = A := (hs_61.trans hA.symm)
    have e_82 : μ55.1 32 15 = μ.1 32 15 := hs_62
    have e_83 : μ55.1 32 16 = μ.1 32 16 := hs_63
    have e_84 : μ55.1 70 1 = μ.1 70 1 := hs_64
    have e_85 : μ55.1 70 4 = μ.1 70 4 := hs_66
    have e_86 : μ55.1 70 5 = μ.1 70 5 := hs_67
    have e_87 : μ55.1 70 6 = μ.1 70 6 := hs_68
    have e_88 : μ55.1 70 7 = μ.1 70 7 := hs_69
    have e_89 : μ55.1 45 4 = μ.1 45 4 := hs_70
    exact xr_v G hret hlk dX4_goElsewhere_227 ⟨(Fr.tr Fr.rf F_56 (by decide)), hI_57, h0_e, (Or.inr (Or.inr ⟨by omega, by omega, by omega, by omega⟩)), (fun j h0 hj => Or.inl (F_56.1 61 (by decide) j)), (fun j hj => (F_56.1 62 (by decide) j)), (by omega), (by omega), (by omega), (by omega), (by omega), (by omega), (by omega), (by omega), (by omega), (by omega), (by omega)⟩
  by_cases c_35_21 : r_15 = 21
  · refine xb_tin (tgt := 120) hx hb (by unfold ir; omega) dX4_goElsewhere_35 (by omega) (off := 85) (by rw [c_35_21]; rfl) (by decide) ?_
    refine lv_aload_n hx hb dX4_goElsewhere_120 rfl (lv_at hl 2 rfl) ?_
    refine lv_iconst (v := iv 3) hx hb dX4_goElsewhere_121 rfl ?_
    refine xa_puti G fd_X4 (a := 32) (x := 3) 13 (kz := 13) rfl rfl (by decide) rfl (by unfold ir; omega) (wm 2 157 rfl rfl) ⟨rfl, rfl, rfl, rfl⟩ rfl dX4_goElsewhere_122 rfl (fun H locs G => ?_)
    refine lv_goto (tgt := 227) hx hb dX4_goElsewhere_125 (by decide) ?_
    have e_90 : (sv μ 32 13 3).1 33 3 = S := ((sv_n _ (fun h9 => absurd h9.1 (by decide))).trans hS.symm)
    have e_91 : (sv μ 32 13 3).1 32 13 = 3 := (sv_s _ _ _ _)
    have e_92 : (sv μ 32 13 3).1 52 7 = μ.1 52 7 := (sv_n _ (fun h9 => absurd h9.1 (by decide)))
    have e_93 : (sv μ 32 13 3).1 32 12 = μ.1 32 12 := (sv_n _ (by decide))
    have e_94 : (sv μ 32 13 3).1 60 6 = g := ((sv_n _ (fun h9 => absurd h9.1 (by decide))).trans hg.symm)
    have e_95 : (sv μ 32 13 3).1 32 10 = P := ((sv_n _ (by decide)).trans hP.symm)
    have e_96 : (sv μ 32 13 3).1 45 4 = μ.1 45 4 := (sv_n _ (fun h9 => absurd h9.1 (by decide)))
    have e_97 : (sv μ 32 13 3).1 61 g = μ.1 61 g := (sv_n _ (fun h9 => absurd h9.1 (by decide)))
    have e_98 : (sv μ 32 13 3).1 62 g = μ.1 62 g := (sv_n _ (fun h9 => absurd h9.1 (by decide)))
    have e_99 : ofF (sv μ 32 13 3) 53 = ofF μ 53 := (ofF_sv μ (by decide) (by decide))
    have ho_e : cdp μ P A 0 = 21 := by omega
    have h0_e : ((sv μ 32 13 3).1 32 13 = 0 ∧ (sv μ 32 13 3).1 32 12 = μ.1 32 12 ∧ gfall (cdp μ P A 0) S ((sv μ 32 13 3).1 33 3) (ofF μ 53)) ∨ ((sv μ 32 13 3).1 32 13 = 0 ∧ (sv μ 32 13 3).1 32 12 = cdp μ P A 1 ∧ gjump (cdp μ P A 0) (cdp μ P A 2) S ((sv μ 32 13 3).1 33 3)) ∨ ((sv μ 32 13 3).1 33 3 ≤ S + 1 ∧ ((sv μ 32 13 3).1 32 13 = 1 ∨ (sv μ 32 13 3).1 32 13 = 3 ∨ (sv μ 32 13 3).1 32 13 = 4)) := by
      exact Or.inr (Or.inr ⟨by omega, by omega⟩)
    have hI_100 : IC (sv μ 32 13 3) := (IC.put hI (by decide +kernel))
    have e_101 : (sv μ 32 13 3).1 70 2 = μ.1 70 2 := (sv_n _ (fun h9 => absurd h9.1 (by decide)))
    have e_102 : (sv μ 32 13 3).1 70 2 = μ.1 70 2 := (sv_n _ (fun h9 => absurd h9.1 (by decide)))
    have e_103 : (sv μ 32 13 3).1 70 8 = μ.1 70 8 := (sv_n _ (fun h9 => absurd h9.1 (by decide)))
    have e_104 : (sv μ 32 13 3).1 70 8 = μ.1 70 8 := (sv_n _ (fun h9 => absurd h9.1 (by decide)))
    have e_105 : (sv μ 32 13 3).1 45 1 = μ.1 45 1 := (sv_n _ (fun h9 => absurd h9.1 (by decide)))
    have e_106 : (sv μ 32 13 3).1 70 2 = μ.1 70 2 := (sv_n _ (fun h9 => absurd h9.1 (by decide)))
    have e_107 : (sv μ 32 13 3).1 32 10 = P := ((sv_n _ (by decide)).trans hP.symm)
    have e_108 : (sv μ 32 13 3).1 32 11 = A := ((sv_n _ (by decide)).trans hA.symm)
    have e_109 : (sv μ 32 13 3).1 32 15 = μ.1 32 15 := (sv_n _ (by decide))
    have e_110 : (sv μ 32 13 3).1 32 16 = μ.1 32 16 := (sv_n _ (by decide))
    have e_111 : (sv μ 32 13 3).1 70 1 = μ.1 70 1 := (sv_n _ (fun h9 => absurd h9.1 (by decide)))
    have e_112 : (sv μ 32 13 3).1 70 4 = μ.1 70 4 := (sv_n _ (fun h9 => absurd h9.1 (by decide)))
    have e_113 : (sv μ 32 13 3).1 70 5 = μ.1 70 5 := (sv_n _ (fun h9 => absurd h9.1 (by decide)))
    have e_114 : (sv μ 32 13 3).1 70 6 = μ.1 70 6 := (sv_n _ (fun h9 => absurd h9.1 (by decide)))
    have e_115 : (sv μ 32 13 3).1 70 7 = μ.1 70 7 := (sv_n _ (fun h9 => absurd h9.1 (by decide)))
    have e_116 : (sv μ 32 13 3).1 45 4 = μ.1 45 4 := (sv_n _ (fun h9 => absurd h9.1 (by decide)))
    exact xr_v G hret hlk dX4_goElsewhere_227 ⟨(Fr.put Fr.rf (by decide)), hI_100, h0_e, (Or.inr (Or.inr ⟨by omega, by omega, by omega, by omega⟩)), (fun j h0 hj => Or.inl (sv_n _ (by omega))), (fun j hj => (sv_n _ (by omega))), (by omega), (by omega), (by omega), (by omega), (by omega), (by omega), (by omega), (by omega), (by omega), (by omega), (by omega)⟩
  by_cases c_35_22 : r_15 = 22
  · refine xb_tin (tgt := 128) hx hb (by unfold ir; omega) dX4_goElsewhere_35 (by omega) (off := 93) (by rw [c_35_22]; rfl) (by decide) ?_
    refine lv_aload_n hx hb dX4_goElsewhere_128 rfl (lv_at hl 2 rfl) ?_
    have e_117 : μ.1 33 3 = S := hS.symm
    have hn_118 : 0 ≤ μ.1 45 1 ∧ 9 * μ.1 45 1 ≤ μ.2.1 46 := hI.nm.2.2.2.2.2.2.1
    have e_119 : μ.1 32 10 = P := hP.symm
    have e_120 : μ.1 32 11 = A := hA.symm
    have hn_121 : 0 ≤ μ.1 45 4 ∧ 2 * μ.1 45 4 ≤ μ.2.1 51 := hI.nm.2.2.2.2.2.2.2.1
    refine xc_vV G (b := 32) (rest := []) (As := []) (c_X4_keepMark ω l μ S hI (by omega) (by omega) (by omega) (by omega)) (wm 7 36 rfl rfl) (wm 7 38 rfl rfl) (wm 0 113 rfl rfl) rfl rfl (by decide) rfl (wm 1 14 rfl rfl) (wm 7 39 rfl rfl) (by decide) hR (by decide) (n := 0) rfl rfl (Nat.le_of_ble_eq_true rfl) hl.1 dX4_goElsewhere_129 (fun μ122 ρ d0 H locs hp G => ?_)
    obtain ⟨F_123, hI_124, hp_125, hp_126, hs_127, hs_128, hs_129, hs_130, hs_131, hs_132, hs_133, hs_134, hs_135, hs_136, hs_137⟩ := hp
    have hk_138 := hI_124.row (r := 33) (by unfold isRow; decide)
    unfold rk at hk_138
    simp only [Int.reduceAdd] at hk_138
    have hn_139 : 0 ≤ μ122.1 45 1 ∧ 9 * μ122.1 45 1 ≤ μ122.2.1 46 := hI_124.nm.2.2.2.2.2.2.1
    refine lv_goto (tgt := 227) hx hb dX4_goElsewhere_132 (by decide) ?_
    have e_140 : μ122.1 52 7 = μ.1 52 7 := (F_123.1 52 (by decide) 7)
    have e_141 : μ122.1 32 12 = μ.1 32 12 := hs_134
    have e_142 : μ122.1 60 6 = g := ((F_123.1 60 (by decide) 6).trans hg.symm)
    have e_143 : μ122.1 32 10 = P := (hs_132.trans hP.symm)
    have e_144 : μ122.1 45 4 = μ.1 45 4 := hs_137
    have e_145 : μ122.1 61 g = μ.1 61 g := (F_123.1 61 (by decide) g)
    have e_146 : μ122.1 62 g = μ.1 62 g := (F_123.1 62 (by decide) g)
    have e_147 : ofF μ122 53 = ofF μ 53 := (ofF_fr F_123 (by decide) (by decide))
    have ho_e : cdp μ P A 0 = 22 := by omega
    have h0_e : (μ122.1 32 13 = 0 ∧ μ122.1 32 12 = μ.1 32 12 ∧ gfall (cdp μ P A 0) S (μ122.1 33 3) (ofF μ 53)) ∨ (μ122.1 32 13 = 0 ∧ μ122.1 32 12 = cdp μ P A 1 ∧ gjump (cdp μ P A 0) (cdp μ P A 2) S (μ122.1 33 3)) ∨ (μ122.1 33 3 ≤ S + 1 ∧ (μ122.1 32 13 = 1 ∨ μ122.1 32 13 = 3 ∨ μ122.1 32 13 = 4)) := by
      rcases hp_125 with ⟨q1, q2⟩ | ⟨q1, q2⟩
      · exact Or.inl ⟨by omega, by omega, by unfold gfall; omega⟩
      · exact Or.inr (Or.inr ⟨by omega, by omega⟩)
    have e_148 : μ122.1 32 10 = P := (hs_132.trans hP.symm)
    have e_149 : μ122.1 32 11 = A := (hs_133.trans hA.symm)
    have e_150 : μ122.1 32 15 = μ.1 32 15 := hs_135
    have e_151 : μ122.1 32 16 = μ.1 32 16 := hs_136
    have e_152 : μ122.1 70 1 = μ.1 70 1 := hs_127
    have e_153 : μ122.1 70 4 = μ.1 70 4 := hs_128
    have e_154 : μ122.1 70 5 = μ.1 70 5 := hs_129
    have e_155 : μ122.1 70 6 = μ.1 70 6 := hs_130
    have e_156 : μ122.1 70 7 = μ.1 70 7 := hs_131
    have e_157 : μ122.1 45 4 = μ.1 45 4 := hs_137
    exact xr_v G hret hlk dX4_goElsewhere_227 ⟨(Fr.tr Fr.rf F_123 (by decide)), hI_124, h0_e, (Or.inr (Or.inr ⟨by omega, by omega, by omega, by omega⟩)), (fun j h0 hj => Or.inl (F_123.1 61 (by decide) j)), (fun j hj => (F_123.1 62 (by decide) j)), (by omega), (by omega), (by omega), (by omega), (by omega), (by omega), (by omega), (by omega), (by omega), (by omega), (by omega)⟩
  by_cases c_35_23 : r_15 = 23
  · refine xb_tin (tgt := 135) hx hb (by unfold ir; omega) dX4_goElsewhere_35 (by omega) (off := 100) (by rw [c_35_23]; rfl) (by decide) ?_
    refine lv_aload_n hx hb dX4_goElsewhere_135 rfl (lv_at hl 2 rfl) ?_
    refine lv_iload_n hx hb dX4_goElsewhere_136 rfl (lv_at hl 1 rfl) ?_
    have e_158 : μ.1 33 3 = S := hS.symm
    have hn_159 : 0 ≤ μ.1 45 1 ∧ 9 * μ.1 45 1 ≤ μ.2.1 46 := hI.nm.2.2.2.2.2.2.1
    have e_160 : μ.1 32 10 = P := hP.symm
    have e_161 : μ.1 32 11 = A := hA.symm
    have hn_162 : 0 ≤ μ.1 45 4 ∧ 2 * μ.1 45 4 ≤ μ.2.1 51 := hI.nm.2.2.2.2.2.2.2.1
    refine xc_vV G (b := 32) (rest := []) (As := [.int (iv r_7)]) (c_X4_failsWithTop ω l μ r_7 S (by unfold ir; omega) hI (by omega) (by omega) (by omega)) (wm 7 24 rfl rfl) (wm 7 26 rfl rfl) (wm 0 110 rfl rfl) rfl rfl (by decide) rfl (wm 1 14 rfl rfl) (wm 7 27 rfl rfl) (by decide) hR (by decide) (n := 1) rfl rfl (Nat.le_of_ble_eq_true rfl) hl.1 dX4_goElsewhere_137 (fun μ163 ρ d0 H locs hp G => ?_)
    obtain ⟨F_164, hI_165, hp_166, hp_167, hs_168, hs_169, hs_170, hs_171, hs_172, hs_173, hs_174, hs_175, hs_176, hs_177, hs_178, hs_179⟩ := hp
    have hk_180 := hI_165.row (r := 33) (by unfold isRow; decide)
    unfold rk at hk_180
    simp only [Int.reduceAdd] at hk_180
    have hn_181 : 0 ≤ μ163.1 45 1 ∧ 9 * μ163.1 45 1 ≤ μ163.2.1 46 := hI_165.nm.2.2.2.2.2.2.1
    refine lv_goto (tgt := 227) hx hb dX4_goElsewhere_140 (by decide) ?_
    have e_182 : μ163.1 52 7 = μ.1 52 7 := (F_164.1 52 (by decide) 7)
    have e_183 : μ163.1 32 12 = μ.1 32 12 := hs_176
    have e_184 : μ163.1 60 6 = g := ((F_164.1 60 (by decide) 6).trans hg.symm)
    have e_185 : μ163.1 32 10 = P := (hs_174.trans hP.symm)
    have e_186 : μ163.1 45 4 = μ.1 45 4 := hs_179
    have e_187 : μ163.1 61 g = μ.1 61 g := (F_164.1 61 (by decide) g)
    have e_188 : μ163.1 62 g = μ.1 62 g := (F_164.1 62 (by decide) g)
    have e_189 : ofF μ163 53 = ofF μ 53 := (ofF_fr F_164 (by decide) (by decide))
    have ho_e : cdp μ P A 0 = 23 := by omega
    have h0_e : (μ163.1 32 13 = 0 ∧ μ163.1 32 12 = μ.1 32 12 ∧ gfall (cdp μ P A 0) S (μ163.1 33 3) (ofF μ 53)) ∨ (μ163.1 32 13 = 0 ∧ μ163.1 32 12 = cdp μ P A 1 ∧ gjump (cdp μ P A 0) (cdp μ P A 2) S (μ163.1 33 3)) ∨ (μ163.1 33 3 ≤ S + 1 ∧ (μ163.1 32 13 = 1 ∨ μ163.1 32 13 = 3 ∨ μ163.1 32 13 = 4)) := by
      rcases hp_166 with ⟨q1, q2, q3⟩ | ⟨q1, q2⟩
      · exact Or.inl ⟨by omega, by omega, by unfold gfall; omega⟩
      · exact Or.inr (Or.inr ⟨by omega, by omega⟩)
    have e_190 : μ163.1 32 10 = P := (hs_174.trans hP.symm)
    have e_191 : μ163.1 32 11 = A := (hs_175.trans hA.symm)
    have e_192 : μ163.1 32 15 = μ.1 32 15 := hs_177
    have e_193 : μ163.1 32 16 = μ.1 32 16 := hs_178
    have e_194 : μ163.1 70 1 = μ.1 70 1 := hs_168
    have e_195 : μ163.1 70 4 = μ.1 70 4 := hs_170
    have e_196 : μ163.1 70 5 = μ.1 70 5 := hs_171
    have e_197 : μ163.1 70 6 = μ.1 70 6 := hs_172
    have e_198 : μ163.1 70 7 = μ.1 70 7 := hs_173
    have e_199 : μ163.1 45 4 = μ.1 45 4 := hs_179
    exact xr_v G hret hlk dX4_goElsewhere_227 ⟨(Fr.tr Fr.rf F_164 (by decide)), hI_165, h0_e, (Or.inr (Or.inr ⟨by omega, by omega, by omega, by omega⟩)), (fun j h0 hj => Or.inl (F_164.1 61 (by decide) j)), (fun j hj => (F_164.1 62 (by decide) j)), (by omega), (by omega), (by omega), (by omega), (by omega), (by omega), (by omega), (by omega), (by omega), (by omega), (by omega)⟩
  by_cases c_35_24 : r_15 = 24
  · refine xb_tin (tgt := 143) hx hb (by unfold ir; omega) dX4_goElsewhere_35 (by omega) (off := 108) (by rw [c_35_24]; rfl) (by decide) ?_
    refine lv_aload_n hx hb dX4_goElsewhere_143 rfl (lv_at hl 2 rfl) ?_
    have e_200 : μ.1 33 3 = S := hS.symm
    have hn_201 : 0 ≤ μ.1 45 1 ∧ 9 * μ.1 45 1 ≤ μ.2.1 46 := hI.nm.2.2.2.2.2.2.1
    have e_202 : μ.1 32 10 = P := hP.symm
    have e_203 : μ.1 32 11 = A := hA.symm
    have hn_204 : 0 ≤ μ.1 45 4 ∧ 2 * μ.1 45 4 ≤ μ.2.1 51 := hI.nm.2.2.2.2.2.2.2.1
    refine xc_vV G (b := 32) (rest := []) (As := []) (c_X4_failWithCode ω l μ S hI (by omega) (by omega) (by omega) (by omega)) (wm 7 40 rfl rfl) (wm 7 42 rfl rfl) (wm 0 114 rfl rfl) rfl rfl (by decide) rfl (wm 1 14 rfl rfl) (wm 7 43 rfl rfl) (by decide) hR (by decide) (n := 0) rfl rfl (Nat.le_of_ble_eq_true rfl) hl.1 dX4_goElsewhere_144 (fun μ205 ρ d0 H locs hp G => ?_)
    obtain ⟨F_206, hI_207, hp_208, hp_209, hs_210, hs_211, hs_212, hs_213, hs_214, hs_215, hs_216, hs_217, hs_218, hs_219, hs_220, hs_221⟩ := hp
    have hk_222 := hI_207.row (r := 33) (by unfold isRow; decide)
    unfold rk at hk_222
    simp only [Int.reduceAdd] at hk_222
    have hn_223 : 0 ≤ μ205.1 45 1 ∧ 9 * μ205.1 45 1 ≤ μ205.2.1 46 := hI_207.nm.2.2.2.2.2.2.1
    refine lv_goto (tgt := 227) hx hb dX4_goElsewhere_147 (by decide) ?_
    have e_224 : μ205.1 52 7 = μ.1 52 7 := (F_206.1 52 (by decide) 7)
    have e_225 : μ205.1 32 12 = μ.1 32 12 := hs_218
    have e_226 : μ205.1 60 6 = g := ((F_206.1 60 (by decide) 6).trans hg.symm)
    have e_227 : μ205.1 32 10 = P := (hs_216.trans hP.symm)
    have e_228 : μ205.1 45 4 = μ.1 45 4 := hs_221
    have e_229 : μ205.1 61 g = μ.1 61 g := (F_206.1 61 (by decide) g)
    have e_230 : μ205.1 62 g = μ.1 62 g := (F_206.1 62 (by decide) g)
    have e_231 : ofF μ205 53 = ofF μ 53 := (ofF_fr F_206 (by decide) (by decide))
    have ho_e : cdp μ P A 0 = 24 := by omega
    have h0_e : (μ205.1 32 13 = 0 ∧ μ205.1 32 12 = μ.1 32 12 ∧ gfall (cdp μ P A 0) S (μ205.1 33 3) (ofF μ 53)) ∨ (μ205.1 32 13 = 0 ∧ μ205.1 32 12 = cdp μ P A 1 ∧ gjump (cdp μ P A 0) (cdp μ P A 2) S (μ205.1 33 3)) ∨ (μ205.1 33 3 ≤ S + 1 ∧ (μ205.1 32 13 = 1 ∨ μ205.1 32 13 = 3 ∨ μ205.1 32 13 = 4)) := by
      rcases hp_208 with ⟨q1, q2⟩ | ⟨q1, q2, q3⟩ | ⟨q1, q2⟩
      · exact Or.inl ⟨by omega, by omega, by unfold gfall; omega⟩
      · exact Or.inl ⟨by omega, by omega, by unfold gfall; omega⟩
      · exact Or.inr (Or.inr ⟨by omega, by omega⟩)
    have e_232 : μ205.1 32 10 = P := (hs_216.trans hP.symm)
    have e_233 : μ205.1 32 11 = A := (hs_217.trans hA.symm)
    have e_234 : μ205.1 32 15 = μ.1 32 15 := hs_219
    have e_235 : μ205.1 32 16 = μ.1 32 16 := hs_220
    have e_236 : μ205.1 70 1 = μ.1 70 1 := hs_210
    have e_237 : μ205.1 70 4 = μ.1 70 4 := hs_212
    have e_238 : μ205.1 70 5 = μ.1 70 5 := hs_213
    have e_239 : μ205.1 70 6 = μ.1 70 6 := hs_214
    have e_240 : μ205.1 70 7 = μ.1 70 7 := hs_215
    have e_241 : μ205.1 45 4 = μ.1 45 4 := hs_221
    exact xr_v G hret hlk dX4_goElsewhere_227 ⟨(Fr.tr Fr.rf F_206 (by decide)), hI_207, h0_e, (Or.inr (Or.inr ⟨by omega, by omega, by omega, by omega⟩)), (fun j h0 hj => Or.inl (F_206.1 61 (by decide) j)), (fun j hj => (F_206.1 62 (by decide) j)), (by omega), (by omega), (by omega), (by omega), (by omega), (by omega), (by omega), (by omega), (by omega), (by omega), (by omega)⟩
  by_cases c_35_25 : r_15 = 25
  · refine xb_tin (tgt := 150) hx hb (by unfold ir; omega) dX4_goElsewhere_35 (by omega) (off := 115) (by rw [c_35_25]; rfl) (by decide) ?_
    refine lv_aload_n hx hb dX4_goElsewhere_150 rfl (lv_at hl 2 rfl) ?_
    refine lv_iload_n hx hb dX4_goElsewhere_151 rfl (lv_at hl 1 rfl) ?_
    have e_242 : μ.1 33 3 = S := hS.symm
    have hn_243 : 0 ≤ μ.1 45 1 ∧ 9 * μ.1 45 1 ≤ μ.2.1 46 := hI.nm.2.2.2.2.2.2.1
    have e_244 : μ.1 32 10 = P := hP.symm
    have e_245 : μ.1 32 11 = A := hA.symm
    have hn_246 : 0 ≤ μ.1 45 4 ∧ 2 * μ.1 45 4 ≤ μ.2.1 51 := hI.nm.2.2.2.2.2.2.2.1
    refine xc_vV G (b := 32) (rest := []) (As := [.int (iv r_7)]) (c_X4_exitTo ω l μ r_7 S (by unfold ir; omega) hI (by omega) (by omega) (by omega) (by omega)) (wm 7 44 rfl rfl) (wm 7 46 rfl rfl) (wm 0 115 rfl rfl) rfl rfl (by decide) rfl (wm 1 14 rfl rfl) (wm 7 47 rfl rfl) (by decide) hR (by decide) (n := 1) rfl rfl (Nat.le_of_ble_eq_true rfl) hl.1 dX4_goElsewhere_152 (fun μ247 ρ d0 H locs hp G => ?_)
    obtain ⟨F_248, hI_249, hp_250, hp_251, hs_252, hs_253, hs_254, hs_255, hs_256, hs_257, hs_258, hs_259, hs_260, hs_261, hs_262, hs_263⟩ := hp
    have hk_264 := hI_249.row (r := 33) (by unfold isRow; decide)
    unfold rk at hk_264
    simp only [Int.reduceAdd] at hk_264
    have hn_265 : 0 ≤ μ247.1 45 1 ∧ 9 * μ247.1 45 1 ≤ μ247.2.1 46 := hI_249.nm.2.2.2.2.2.2.1
    refine lv_goto (tgt := 227) hx hb dX4_goElsewhere_155 (by decide) ?_
    have e_266 : μ247.1 52 7 = μ.1 52 7 := (F_248.1 52 (by decide) 7)
    have e_267 : μ247.1 32 12 = μ.1 32 12 := hs_260
    have e_268 : μ247.1 60 6 = g := ((F_248.1 60 (by decide) 6).trans hg.symm)
    have e_269 : μ247.1 32 10 = P := (hs_258.trans hP.symm)
    have e_270 : μ247.1 45 4 = μ.1 45 4 := hs_263
    have e_271 : μ247.1 61 g = μ.1 61 g := (F_248.1 61 (by decide) g)
    have e_272 : μ247.1 62 g = μ.1 62 g := (F_248.1 62 (by decide) g)
    have e_273 : ofF μ247 53 = ofF μ 53 := (ofF_fr F_248 (by decide) (by decide))
    have ho_e : cdp μ P A 0 = 25 := by omega
    have h0_e : (μ247.1 32 13 = 0 ∧ μ247.1 32 12 = μ.1 32 12 ∧ gfall (cdp μ P A 0) S (μ247.1 33 3) (ofF μ 53)) ∨ (μ247.1 32 13 = 0 ∧ μ247.1 32 12 = cdp μ P A 1 ∧ gjump (cdp μ P A 0) (cdp μ P A 2) S (μ247.1 33 3)) ∨ (μ247.1 33 3 ≤ S + 1 ∧ (μ247.1 32 13 = 1 ∨ μ247.1 32 13 = 3 ∨ μ247.1 32 13 = 4)) := by
      rcases hp_250 with ⟨q1, q2, q3⟩ | ⟨q1, q2⟩
      · exact Or.inl ⟨by omega, by omega, by unfold gfall; omega⟩
      · exact Or.inr (Or.inr ⟨by omega, by omega⟩)
    have e_274 : μ247.1 32 10 = P := (hs_258.trans hP.symm)
    have e_275 : μ247.1 32 11 = A := (hs_259.trans hA.symm)
    have e_276 : μ247.1 32 15 = μ.1 32 15 := hs_261
    have e_277 : μ247.1 32 16 = μ.1 32 16 := hs_262
    have e_278 : μ247.1 70 1 = μ.1 70 1 := hs_252
    have e_279 : μ247.1 70 4 = μ.1 70 4 := hs_254
    have e_280 : μ247.1 70 5 = μ.1 70 5 := hs_255
    have e_281 : μ247.1 70 6 = μ.1 70 6 := hs_256
    have e_282 : μ247.1 70 7 = μ.1 70 7 := hs_257
    have e_283 : μ247.1 45 4 = μ.1 45 4 := hs_263
    exact xr_v G hret hlk dX4_goElsewhere_227 ⟨(Fr.tr Fr.rf F_248 (by decide)), hI_249, h0_e, (Or.inr (Or.inr ⟨by omega, by omega, by omega, by omega⟩)), (fun j h0 hj => Or.inl (F_248.1 61 (by decide) j)), (fun j hj => (F_248.1 62 (by decide) j)), (by omega), (by omega), (by omega), (by omega), (by omega), (by omega), (by omega), (by omega), (by omega), (by omega), (by omega)⟩
  by_cases c_35_26 : r_15 = 26
  · refine xb_tin (tgt := 158) hx hb (by unfold ir; omega) dX4_goElsewhere_35 (by omega) (off := 123) (by rw [c_35_26]; rfl) (by decide) ?_
    have hs26 := h26 (by omega)
    refine lv_aload_n hx hb dX4_goElsewhere_158 rfl (lv_at hl 2 rfl) ?_
    refine lv_iload_n hx hb dX4_goElsewhere_159 rfl (lv_at hl 1 rfl) ?_
    refine lv_iload_n hx hb dX4_goElsewhere_160 rfl (lv_at hl 0 rfl) ?_
    have e_284 : μ.1 33 3 = S := hS.symm
    have e_285 : μ.1 32 10 = P := hP.symm
    have e_286 : μ.1 32 11 = A := hA.symm
    refine xc_vV G (b := 32) (rest := []) (As := [.int (iv r_7), .int (iv r_11)]) (c_X4_jumpIfFails ω l μ r_7 r_11 S (by unfold ir; omega) (by unfold ir; omega) hI (by omega) (by omega)) (wm 7 57 rfl rfl) (wm 7 59 rfl rfl) (wm 0 116 rfl rfl) rfl rfl (by decide) rfl (wm 1 14 rfl rfl) (wm 7 60 rfl rfl) (by decide) hR (by decide) (n := 2) rfl rfl (Nat.le_of_ble_eq_true rfl) hl.1 dX4_goElsewhere_161 (fun μ287 ρ d0 H locs hp G => ?_)
    obtain ⟨F_288, hI_289, hp_290, hs_291, hs_292, hs_293, hs_294, hs_295, hs_296⟩ := hp
    have hk_297 := hI_289.row (r := 33) (by unfold isRow; decide)
    unfold rk at hk_297
    simp only [Int.reduceAdd] at hk_297
    refine lv_goto (tgt := 227) hx hb dX4_goElsewhere_164 (by decide) ?_
    have e_298 : μ287.1 32 13 = μ.1 32 13 := hs_293
    have e_299 : μ287.1 52 7 = μ.1 52 7 := (F_288.1 52 (by decide) 7)
    have e_300 : μ287.1 60 6 = g := ((F_288.1 60 (by decide) 6).trans hg.symm)
    have e_301 : μ287.1 32 10 = P := (hs_291.trans hP.symm)
    have e_302 : μ287.1 45 4 = μ.1 45 4 := (F_288.1 45 (by decide) 4)
    have e_303 : μ287.1 61 g = μ.1 61 g := (F_288.1 61 (by decide) g)
    have e_304 : μ287.1 62 g = μ.1 62 g := (F_288.1 62 (by decide) g)
    have e_305 : ofF μ287 53 = ofF μ 53 := (ofF_fr F_288 (by decide) (by decide))
    have ho_e : cdp μ P A 0 = 26 := by omega
    have h0_e : (μ287.1 32 13 = 0 ∧ μ287.1 32 12 = μ.1 32 12 ∧ gfall (cdp μ P A 0) S (μ287.1 33 3) (ofF μ 53)) ∨ (μ287.1 32 13 = 0 ∧ μ287.1 32 12 = cdp μ P A 1 ∧ gjump (cdp μ P A 0) (cdp μ P A 2) S (μ287.1 33 3)) ∨ (μ287.1 33 3 ≤ S + 1 ∧ (μ287.1 32 13 = 1 ∨ μ287.1 32 13 = 3 ∨ μ287.1 32 13 = 4)) := by
      rcases hp_290 with ⟨q1, q2⟩ | ⟨q1, q2⟩
      · exact Or.inl ⟨by omega, by omega, by unfold gfall; omega⟩
      · exact Or.inr (Or.inl ⟨by omega, by omega, by unfold gjump; omega⟩)
    have e_306 : μ287.1 70 2 = μ.1 70 2 := (F_288.1 70 (by decide) 2)
    have e_307 : μ287.1 70 2 = μ.1 70 2 := (F_288.1 70 (by decide) 2)
    have e_308 : μ287.1 70 8 = μ.1 70 8 := (F_288.1 70 (by decide) 8)
    have e_309 : μ287.1 70 8 = μ.1 70 8 := (F_288.1 70 (by decide) 8)
    have e_310 : μ287.1 45 1 = μ.1 45 1 := (F_288.1 45 (by decide) 1)
    have e_311 : μ287.1 70 2 = μ.1 70 2 := (F_288.1 70 (by decide) 2)
    have e_312 : μ287.1 32 10 = P := (hs_291.trans hP.symm)
    have e_313 : μ287.1 32 11 = A := (hs_292.trans hA.symm)
    have e_314 : μ287.1 32 15 = μ.1 32 15 := hs_295
    have e_315 : μ287.1 32 16 = μ.1 32 16 := hs_296
    have e_316 : μ287.1 70 1 = μ.1 70 1 := (F_288.1 70 (by decide) 1)
    have e_317 : μ287.1 70 4 = μ.1 70 4 := (F_288.1 70 (by decide) 4)
    have e_318 : μ287.1 70 5 = μ.1 70 5 := (F_288.1 70 (by decide) 5)
    have e_319 : μ287.1 70 6 = μ.1 70 6 := (F_288.1 70 (by decide) 6)
    have e_320 : μ287.1 70 7 = μ.1 70 7 := (F_288.1 70 (by decide) 7)
    have e_321 : μ287.1 45 4 = μ.1 45 4 := (F_288.1 45 (by decide) 4)
    exact xr_v G hret hlk dX4_goElsewhere_227 ⟨(Fr.tr Fr.rf F_288 (by decide)), hI_289, h0_e, (Or.inr (Or.inr ⟨by omega, by omega, by omega, by omega⟩)), (fun j h0 hj => Or.inl (F_288.1 61 (by decide) j)), (fun j hj => (F_288.1 62 (by decide) j)), (by omega), (by omega), (by omega), (by omega), (by omega), (by omega), (by omega), (by omega), (by omega), (by omega), (by omega)⟩
  by_cases c_35_27 : r_15 = 27
  · refine xb_tin (tgt := 167) hx hb (by unfold ir; omega) dX4_goElsewhere_35 (by omega) (off := 132) (by rw [c_35_27]; rfl) (by decide) ?_
    refine lv_aload_n hx hb dX4_goElsewhere_167 rfl (lv_at hl 2 rfl) ?_
    refine lv_iload_n hx hb dX4_goElsewhere_168 rfl (lv_at hl 1 rfl) ?_
    have e_322 : μ.1 33 3 = S := hS.symm
    have e_323 : μ.1 32 10 = P := hP.symm
    have e_324 : μ.1 32 11 = A := hA.symm
    refine xc_vV G (b := 32) (rest := []) (As := [.int (iv r_7)]) (c_X4_jumpIfWell ω l μ r_7 S (by unfold ir; omega) hI (by omega)) (wm 7 61 rfl rfl) (wm 7 63 rfl rfl) (wm 0 117 rfl rfl) rfl rfl (by decide) rfl (wm 1 14 rfl rfl) (wm 7 64 rfl rfl) (by decide) hR (by decide) (n := 1) rfl rfl (Nat.le_of_ble_eq_true rfl) hl.1 dX4_goElsewhere_169 (fun μ325 ρ d0 H locs hp G => ?_)
    obtain ⟨F_326, hI_327, hp_328, hs_329, hs_330, hs_331, hs_332, hs_333, hs_334⟩ := hp
    have hk_335 := hI_327.row (r := 33) (by unfold isRow; decide)
    unfold rk at hk_335
    simp only [Int.reduceAdd] at hk_335
    refine lv_goto (tgt := 227) hx hb dX4_goElsewhere_172 (by decide) ?_
    have e_336 : μ325.1 32 13 = μ.1 32 13 := hs_331
    have e_337 : μ325.1 52 7 = μ.1 52 7 := (F_326.1 52 (by decide) 7)
    have e_338 : μ325.1 60 6 = g := ((F_326.1 60 (by decide) 6).trans hg.symm)
    have e_339 : μ325.1 32 10 = P := (hs_329.trans hP.symm)
    have e_340 : μ325.1 45 4 = μ.1 45 4 := (F_326.1 45 (by decide) 4)
    have e_341 : μ325.1 61 g = μ.1 61 g := (F_326.1 61 (by decide) g)
    have e_342 : μ325.1 62 g = μ.1 62 g := (F_326.1 62 (by decide) g)
    have e_343 : ofF μ325 53 = ofF μ 53 := (ofF_fr F_326 (by decide) (by decide))
    have ho_e : cdp μ P A 0 = 27 := by omega
    have h0_e : (μ325.1 32 13 = 0 ∧ μ325.1 32 12 = μ.1 32 12 ∧ gfall (cdp μ P A 0) S (μ325.1 33 3) (ofF μ 53)) ∨ (μ325.1 32 13 = 0 ∧ μ325.1 32 12 = cdp μ P A 1 ∧ gjump (cdp μ P A 0) (cdp μ P A 2) S (μ325.1 33 3)) ∨ (μ325.1 33 3 ≤ S + 1 ∧ (μ325.1 32 13 = 1 ∨ μ325.1 32 13 = 3 ∨ μ325.1 32 13 = 4)) := by
      rcases hp_328 with ⟨q1, q2⟩ | ⟨q1, q2⟩
      · exact Or.inl ⟨by omega, by omega, by unfold gfall; omega⟩
      · exact Or.inr (Or.inl ⟨by omega, by omega, by unfold gjump; omega⟩)
    have e_344 : μ325.1 70 2 = μ.1 70 2 := (F_326.1 70 (by decide) 2)
    have e_345 : μ325.1 70 2 = μ.1 70 2 := (F_326.1 70 (by decide) 2)
    have e_346 : μ325.1 70 8 = μ.1 70 8 := (F_326.1 70 (by decide) 8)
    have e_347 : μ325.1 70 8 = μ.1 70 8 := (F_326.1 70 (by decide) 8)
    have e_348 : μ325.1 45 1 = μ.1 45 1 := (F_326.1 45 (by decide) 1)
    have e_349 : μ325.1 70 2 = μ.1 70 2 := (F_326.1 70 (by decide) 2)
    have e_350 : μ325.1 32 10 = P := (hs_329.trans hP.symm)
    have e_351 : μ325.1 32 11 = A := (hs_330.trans hA.symm)
    have e_352 : μ325.1 32 15 = μ.1 32 15 := hs_333
    have e_353 : μ325.1 32 16 = μ.1 32 16 := hs_334
    have e_354 : μ325.1 70 1 = μ.1 70 1 := (F_326.1 70 (by decide) 1)
    have e_355 : μ325.1 70 4 = μ.1 70 4 := (F_326.1 70 (by decide) 4)
    have e_356 : μ325.1 70 5 = μ.1 70 5 := (F_326.1 70 (by decide) 5)
    have e_357 : μ325.1 70 6 = μ.1 70 6 := (F_326.1 70 (by decide) 6)
    have e_358 : μ325.1 70 7 = μ.1 70 7 := (F_326.1 70 (by decide) 7)
    have e_359 : μ325.1 45 4 = μ.1 45 4 := (F_326.1 45 (by decide) 4)
    exact xr_v G hret hlk dX4_goElsewhere_227 ⟨(Fr.tr Fr.rf F_326 (by decide)), hI_327, h0_e, (Or.inr (Or.inr ⟨by omega, by omega, by omega, by omega⟩)), (fun j h0 hj => Or.inl (F_326.1 61 (by decide) j)), (fun j hj => (F_326.1 62 (by decide) j)), (by omega), (by omega), (by omega), (by omega), (by omega), (by omega), (by omega), (by omega), (by omega), (by omega), (by omega)⟩
  by_cases c_35_28 : r_15 = 28
  · refine xb_tin (tgt := 175) hx hb (by unfold ir; omega) dX4_goElsewhere_35 (by omega) (off := 140) (by rw [c_35_28]; rfl) (by decide) ?_
    refine lv_aload_n hx hb dX4_goElsewhere_175 rfl (lv_at hl 2 rfl) ?_
    refine xa_getr G fd_X4 (a := 32) (x := 60) 8 rfl (by decide) rfl (wm 2 152 rfl rfl) ⟨rfl, rfl, rfl⟩ dX4_goElsewhere_176 rfl (G.sk 41 rfl) (by decide) rfl ?_
    refine lv_iload_n hx hb dX4_goElsewhere_179 rfl (lv_at hl 0 rfl) ?_
    refine lv_iload_n hx hb dX4_goElsewhere_180 rfl (lv_at hl 1 rfl) ?_
    have e_360 : μ.1 60 6 = g := hg.symm
    refine xc_vV G (b := 60) (rest := []) (As := [.int (iv r_11), .int (iv r_7)]) (c_X3_push ω l μ r_11 r_7 g (by unfold ir; omega) (by unfold ir; omega) hI (by omega)) (wm 7 65 rfl rfl) (wm 7 66 rfl rfl) (wm 7 67 rfl rfl) rfl rfl (by decide) rfl (wm 1 17 rfl rfl) (wm 7 68 rfl rfl) (by decide) hR (by decide) (n := 2) rfl rfl (Nat.le_of_ble_eq_true rfl) hl.1 dX4_goElsewhere_181 (fun μ361 ρ d0 H locs hp G => ?_)
    obtain ⟨F_362, hI_363, hp_364, ha_365, ha_366, ha_367, ha_368, ha_369⟩ := hp
    have hn_370 : 0 ≤ μ361.1 60 6 ∧ μ361.1 60 6 ≤ 400 := hI_363.nm.2.2.2.2.2.1
    refine lv_goto (tgt := 227) hx hb dX4_goElsewhere_184 (by decide) ?_
    have e_371 : μ361.1 33 3 = S := ((F_362.1 33 (by decide) 3).trans hS.symm)
    have e_372 : μ361.1 32 13 = μ.1 32 13 := (F_362.1 32 (by decide) 13)
    have e_373 : μ361.1 52 7 = μ.1 52 7 := (F_362.1 52 (by decide) 7)
    have e_374 : μ361.1 32 12 = μ.1 32 12 := (F_362.1 32 (by decide) 12)
    have e_375 : μ361.1 32 10 = P := ((F_362.1 32 (by decide) 10).trans hP.symm)
    have e_376 : μ361.1 45 4 = μ.1 45 4 := (F_362.1 45 (by decide) 4)
    have e_377 : ofF μ361 53 = ofF μ 53 := (ofF_fr F_362 (by decide) (by decide))
    have ho_e : cdp μ P A 0 = 28 := by omega
    have h0_e : (μ361.1 32 13 = 0 ∧ μ361.1 32 12 = μ.1 32 12 ∧ gfall (cdp μ P A 0) S (μ361.1 33 3) (ofF μ 53)) ∨ (μ361.1 32 13 = 0 ∧ μ361.1 32 12 = cdp μ P A 1 ∧ gjump (cdp μ P A 0) (cdp μ P A 2) S (μ361.1 33 3)) ∨ (μ361.1 33 3 ≤ S + 1 ∧ (μ361.1 32 13 = 1 ∨ μ361.1 32 13 = 3 ∨ μ361.1 32 13 = 4)) := by
      exact Or.inl ⟨by omega, by omega, by unfold gfall; omega⟩
    have ht9 : (cdp μ P A 2).tdiv 64 = r_11.tdiv 64 := by rw [← hp_13]
    have e_378 : μ361.1 70 2 = μ.1 70 2 := (F_362.1 70 (by decide) 2)
    have e_379 : μ361.1 70 2 = μ.1 70 2 := (F_362.1 70 (by decide) 2)
    have e_380 : μ361.1 70 8 = μ.1 70 8 := (F_362.1 70 (by decide) 8)
    have e_381 : μ361.1 70 8 = μ.1 70 8 := (F_362.1 70 (by decide) 8)
    have e_382 : μ361.1 45 1 = μ.1 45 1 := (F_362.1 45 (by decide) 1)
    have e_383 : μ361.1 70 2 = μ.1 70 2 := (F_362.1 70 (by decide) 2)
    have e_384 : μ361.1 32 10 = P := ((F_362.1 32 (by decide) 10).trans hP.symm)
    have e_385 : μ361.1 32 11 = A := ((F_362.1 32 (by decide) 11).trans hA.symm)
    have e_386 : μ361.1 32 15 = μ.1 32 15 := (F_362.1 32 (by decide) 15)
    have e_387 : μ361.1 32 16 = μ.1 32 16 := (F_362.1 32 (by decide) 16)
    have e_388 : μ361.1 70 1 = μ.1 70 1 := (F_362.1 70 (by decide) 1)
    have e_389 : μ361.1 70 4 = μ.1 70 4 := (F_362.1 70 (by decide) 4)
    have e_390 : μ361.1 70 5 = μ.1 70 5 := (F_362.1 70 (by decide) 5)
    have e_391 : μ361.1 70 6 = μ.1 70 6 := (F_362.1 70 (by decide) 6)
    have e_392 : μ361.1 70 7 = μ.1 70 7 := (F_362.1 70 (by decide) 7)
    have e_393 : μ361.1 45 4 = μ.1 45 4 := (F_362.1 45 (by decide) 4)
    exact xr_v G hret hlk dX4_goElsewhere_227 ⟨(Fr.tr Fr.rf F_362 (by decide)), hI_363, h0_e, (Or.inl ⟨by omega, by rcases hp_364 with ⟨q1, q2, q3, q4⟩ | ⟨q1, q2⟩; exact Or.inl ⟨by omega, by omega, by omega, by omega⟩; exact Or.inr ⟨by omega, by omega⟩⟩), (fun j h0 hj => Or.inl (ha_365 j (by omega))), (fun j hj => (ha_366 j (by omega))), (by omega), (by omega), (by omega), (by omega), (by omega), (by omega), (by omega), (by omega), (by omega), (by omega), (by omega)⟩
  by_cases c_35_29 : r_15 = 29
  · refine xb_tin (tgt := 187) hx hb (by unfold ir; omega) dX4_goElsewhere_35 (by omega) (off := 152) (by rw [c_35_29]; rfl) (by decide) ?_
    refine lv_aload_n hx hb dX4_goElsewhere_187 rfl (lv_at hl 2 rfl) ?_
    refine xa_getr G fd_X4 (a := 32) (x := 60) 8 rfl (by decide) rfl (wm 2 152 rfl rfl) ⟨rfl, rfl, rfl⟩ dX4_goElsewhere_188 rfl (G.sk 41 rfl) (by decide) rfl ?_
    have e_394 : μ.1 60 6 = g := hg.symm
    refine xc_vV G (b := 60) (rest := []) (As := []) (c_X3_pop ω l μ g hI (by omega)) (wm 5 192 rfl rfl) (wm 5 193 rfl rfl) (wm 5 194 rfl rfl) rfl rfl (by decide) rfl (wm 1 17 rfl rfl) (wm 5 195 rfl rfl) (by decide) hR (by decide) (n := 0) rfl rfl (Nat.le_of_ble_eq_true rfl) hl.1 dX4_goElsewhere_191 (fun μ395 ρ d0 H locs hp G => ?_)
    obtain ⟨F_396, hI_397, hp_398⟩ := hp
    have hn_399 : 0 ≤ μ395.1 60 6 ∧ μ395.1 60 6 ≤ 400 := hI_397.nm.2.2.2.2.2.1
    refine lv_aload_n hx hb dX4_goElsewhere_194 rfl (lv_at hl 2 rfl) ?_
    refine lv_iload_n hx hb dX4_goElsewhere_195 rfl (lv_at hl 1 rfl) ?_
    refine xa_puti G fd_X4 (a := 32) (x := r_7) 12 (kz := 12) rfl rfl (by decide) rfl (by unfold ir; omega) (wm 2 156 rfl rfl) ⟨rfl, rfl, rfl, rfl⟩ rfl dX4_goElsewhere_196 rfl (fun H locs G => ?_)
    refine lv_goto (tgt := 227) hx hb dX4_goElsewhere_199 (by decide) ?_
    have e_400 : (sv μ395 32 12 r_7).1 33 3 = S := ((sv_n _ (fun h9 => absurd h9.1 (by decide))).trans ((F_396.1 33 (by decide) 3).trans hS.symm))
    have e_401 : (sv μ395 32 12 r_7).1 32 13 = μ.1 32 13 := ((sv_n _ (by decide)).trans (F_396.1 32 (by decide) 13))
    have e_402 : (sv μ395 32 12 r_7).1 52 7 = μ.1 52 7 := ((sv_n _ (fun h9 => absurd h9.1 (by decide))).trans (F_396.1 52 (by decide) 7))
    have e_403 : (sv μ395 32 12 r_7).1 32 12 = r_7 := (sv_s _ _ _ _)
    have e_404 : (sv μ395 32 12 r_7).1 60 6 = μ395.1 60 6 := (sv_n _ (fun h9 => absurd h9.1 (by decide)))
    have e_405 : (sv μ395 32 12 r_7).1 32 10 = P := ((sv_n _ (by decide)).trans ((F_396.1 32 (by decide) 10).trans hP.symm))
    have e_406 : (sv μ395 32 12 r_7).1 45 4 = μ.1 45 4 := ((sv_n _ (fun h9 => absurd h9.1 (by decide))).trans (F_396.1 45 (by decide) 4))
    have e_407 : (sv μ395 32 12 r_7).1 61 g = μ.1 61 g := ((sv_n _ (fun h9 => absurd h9.1 (by decide))).trans (F_396.1 61 (by decide) g))
    have e_408 : (sv μ395 32 12 r_7).1 62 g = μ.1 62 g := ((sv_n _ (fun h9 => absurd h9.1 (by decide))).trans (F_396.1 62 (by decide) g))
    have e_409 : ofF (sv μ395 32 12 r_7) 53 = ofF μ 53 := ((ofF_sv μ395 (by decide) (by decide)).trans (ofF_fr F_396 (by decide) (by decide)))
    have ho_e : cdp μ P A 0 = 29 := by omega
    have h0_e : ((sv μ395 32 12 r_7).1 32 13 = 0 ∧ (sv μ395 32 12 r_7).1 32 12 = μ.1 32 12 ∧ gfall (cdp μ P A 0) S ((sv μ395 32 12 r_7).1 33 3) (ofF μ 53)) ∨ ((sv μ395 32 12 r_7).1 32 13 = 0 ∧ (sv μ395 32 12 r_7).1 32 12 = cdp μ P A 1 ∧ gjump (cdp μ P A 0) (cdp μ P A 2) S ((sv μ395 32 12 r_7).1 33 3)) ∨ ((sv μ395 32 12 r_7).1 33 3 ≤ S + 1 ∧ ((sv μ395 32 12 r_7).1 32 13 = 1 ∨ (sv μ395 32 12 r_7).1 32 13 = 3 ∨ (sv μ395 32 12 r_7).1 32 13 = 4)) := by
      exact Or.inr (Or.inl ⟨by omega, by omega, by unfold gjump; omega⟩)
    have hI_410 : IC (sv μ395 32 12 r_7) := (IC.put hI_397 (by decide +kernel))
    have e_411 : (sv μ395 32 12 r_7).1 70 2 = μ.1 70 2 := ((sv_n _ (fun h9 => absurd h9.1 (by decide))).trans (F_396.1 70 (by decide) 2))
    have e_412 : (sv μ395 32 12 r_7).1 70 2 = μ.1 70 2 := ((sv_n _ (fun h9 => absurd h9.1 (by decide))).trans (F_396.1 70 (by decide) 2))
    have e_413 : (sv μ395 32 12 r_7).1 70 8 = μ.1 70 8 := ((sv_n _ (fun h9 => absurd h9.1 (by decide))).trans (F_396.1 70 (by decide) 8))
    have e_414 : (sv μ395 32 12 r_7).1 70 8 = μ.1 70 8 := ((sv_n _ (fun h9 => absurd h9.1 (by decide))).trans (F_396.1 70 (by decide) 8))
    have e_415 : (sv μ395 32 12 r_7).1 45 1 = μ.1 45 1 := ((sv_n _ (fun h9 => absurd h9.1 (by decide))).trans (F_396.1 45 (by decide) 1))
    have e_416 : (sv μ395 32 12 r_7).1 70 2 = μ.1 70 2 := ((sv_n _ (fun h9 => absurd h9.1 (by decide))).trans (F_396.1 70 (by decide) 2))
    have e_417 : (sv μ395 32 12 r_7).1 32 10 = P := ((sv_n _ (by decide)).trans ((F_396.1 32 (by decide) 10).trans hP.symm))
    have e_418 : (sv μ395 32 12 r_7).1 32 11 = A := ((sv_n _ (by decide)).trans ((F_396.1 32 (by decide) 11).trans hA.symm))
    have e_419 : (sv μ395 32 12 r_7).1 32 15 = μ.1 32 15 := ((sv_n _ (by decide)).trans (F_396.1 32 (by decide) 15))
    have e_420 : (sv μ395 32 12 r_7).1 32 16 = μ.1 32 16 := ((sv_n _ (by decide)).trans (F_396.1 32 (by decide) 16))
    have e_421 : (sv μ395 32 12 r_7).1 70 1 = μ.1 70 1 := ((sv_n _ (fun h9 => absurd h9.1 (by decide))).trans (F_396.1 70 (by decide) 1))
    have e_422 : (sv μ395 32 12 r_7).1 70 4 = μ.1 70 4 := ((sv_n _ (fun h9 => absurd h9.1 (by decide))).trans (F_396.1 70 (by decide) 4))
    have e_423 : (sv μ395 32 12 r_7).1 70 5 = μ.1 70 5 := ((sv_n _ (fun h9 => absurd h9.1 (by decide))).trans (F_396.1 70 (by decide) 5))
    have e_424 : (sv μ395 32 12 r_7).1 70 6 = μ.1 70 6 := ((sv_n _ (fun h9 => absurd h9.1 (by decide))).trans (F_396.1 70 (by decide) 6))
    have e_425 : (sv μ395 32 12 r_7).1 70 7 = μ.1 70 7 := ((sv_n _ (fun h9 => absurd h9.1 (by decide))).trans (F_396.1 70 (by decide) 7))
    have e_426 : (sv μ395 32 12 r_7).1 45 4 = μ.1 45 4 := ((sv_n _ (fun h9 => absurd h9.1 (by decide))).trans (F_396.1 45 (by decide) 4))
    exact xr_v G hret hlk dX4_goElsewhere_227 ⟨(Fr.put (Fr.tr Fr.rf F_396 (by decide)) (by decide)), hI_410, h0_e, (Or.inr (Or.inl ⟨by omega, by omega⟩)), (fun j h0 hj => Or.inl ((sv_n _ (by omega)).trans (F_396.1 61 (by decide) j))), (fun j hj => ((sv_n _ (by omega)).trans (F_396.1 62 (by decide) j))), (by omega), (by omega), (by omega), (by omega), (by omega), (by omega), (by omega), (by omega), (by omega), (by omega), (by omega)⟩
  by_cases c_35_30 : r_15 = 30
  · refine xb_tin (tgt := 227) hx hb (by unfold ir; omega) dX4_goElsewhere_35 (by omega) (off := 192) (by rw [c_35_30]; rfl) (by decide) ?_
    have e_427 : μ.1 33 3 = S := hS.symm
    have e_428 : μ.1 60 6 = g := hg.symm
    have e_429 : μ.1 32 10 = P := hP.symm
    have ho_e : cdp μ P A 0 = 30 := by omega
    have h0_e : (μ.1 32 13 = 0 ∧ μ.1 32 12 = μ.1 32 12 ∧ gfall (cdp μ P A 0) S (μ.1 33 3) (ofF μ 53)) ∨ (μ.1 32 13 = 0 ∧ μ.1 32 12 = cdp μ P A 1 ∧ gjump (cdp μ P A 0) (cdp μ P A 2) S (μ.1 33 3)) ∨ (μ.1 33 3 ≤ S + 1 ∧ (μ.1 32 13 = 1 ∨ μ.1 32 13 = 3 ∨ μ.1 32 13 = 4)) := by
      exact Or.inl ⟨by omega, by omega, by unfold gfall; omega⟩
    have e_430 : μ.1 32 10 = P := hP.symm
    have e_431 : μ.1 32 11 = A := hA.symm
    exact xr_v G hret hlk dX4_goElsewhere_227 ⟨Fr.rf, hI, h0_e, (Or.inr (Or.inr ⟨by omega, by omega, by omega, by omega⟩)), (fun j h0 hj => Or.inl rfl), (fun j hj => rfl), (by omega), (by omega), (by omega), (by omega), (by omega), (by omega), (by omega), (by omega), (by omega), (by omega), (by omega)⟩
  by_cases c_35_31 : r_15 = 31
  · refine xb_tin (tgt := 202) hx hb (by unfold ir; omega) dX4_goElsewhere_35 (by omega) (off := 167) (by rw [c_35_31]; rfl) (by decide) ?_
    refine lv_aload_n hx hb dX4_goElsewhere_202 rfl (lv_at hl 2 rfl) ?_
    refine xa_getr G fd_X4 (a := 32) (x := 60) 8 rfl (by decide) rfl (wm 2 152 rfl rfl) ⟨rfl, rfl, rfl⟩ dX4_goElsewhere_203 rfl (G.sk 41 rfl) (by decide) rfl ?_
    refine lv_iconst (v := iv 0) hx hb dX4_goElsewhere_206 rfl ?_
    refine lv_iconst (v := iv (-1)) hx hb dX4_goElsewhere_207 rfl ?_
    have e_432 : μ.1 60 6 = g := hg.symm
    refine xc_vV G (b := 60) (rest := []) (As := [.int (iv 0), .int (iv (-1))]) (c_X3_finish ω l μ 0 (-1) g (by unfold ir; omega) (by unfold ir; omega) hI (by omega)) (wm 5 131 rfl rfl) (wm 5 132 rfl rfl) (wm 5 133 rfl rfl) rfl rfl (by decide) rfl (wm 1 17 rfl rfl) (wm 5 134 rfl rfl) (by decide) hR (by decide) (n := 2) rfl rfl (Nat.le_of_ble_eq_true rfl) hl.1 dX4_goElsewhere_208 (fun μ433 ρ d0 H locs hp G => ?_)
    obtain ⟨F_434, hI_435, hp_436, ha_437⟩ := hp
    have hk5 : g = 0 ∨ μ433.1 61 (g - 1) = 5 := hp_436
    refine lv_aload_n hx hb dX4_goElsewhere_211 rfl (lv_at hl 2 rfl) ?_
    refine lv_iload_n hx hb dX4_goElsewhere_212 rfl (lv_at hl 1 rfl) ?_
    refine xa_puti G fd_X4 (a := 32) (x := r_7) 12 (kz := 12) rfl rfl (by decide) rfl (by unfold ir; omega) (wm 2 156 rfl rfl) ⟨rfl, rfl, rfl, rfl⟩ rfl dX4_goElsewhere_213 rfl (fun H locs G => ?_)
    refine lv_goto (tgt := 227) hx hb dX4_goElsewhere_216 (by decide) ?_
    have e_438 : (sv μ433 32 12 r_7).1 33 3 = S := ((sv_n _ (fun h9 => absurd h9.1 (by decide))).trans ((F_434.1 33 (by decide) 3).trans hS.symm))
    have e_439 : (sv μ433 32 12 r_7).1 32 13 = μ.1 32 13 := ((sv_n _ (by decide)).trans (F_434.1 32 (by decide) 13))
    have e_440 : (sv μ433 32 12 r_7).1 52 7 = μ.1 52 7 := ((sv_n _ (fun h9 => absurd h9.1 (by decide))).trans (F_434.1 52 (by decide) 7))
    have e_441 : (sv μ433 32 12 r_7).1 32 12 = r_7 := (sv_s _ _ _ _)
    have e_442 : (sv μ433 32 12 r_7).1 60 6 = g := ((sv_n _ (fun h9 => absurd h9.1 (by decide))).trans ((F_434.1 60 (by decide) 6).trans hg.symm))
    have e_443 : (sv μ433 32 12 r_7).1 32 10 = P := ((sv_n _ (by decide)).trans ((F_434.1 32 (by decide) 10).trans hP.symm))
    have e_444 : (sv μ433 32 12 r_7).1 45 4 = μ.1 45 4 := ((sv_n _ (fun h9 => absurd h9.1 (by decide))).trans (F_434.1 45 (by decide) 4))
    have e_445 : (sv μ433 32 12 r_7).1 61 g = μ433.1 61 g := (sv_n _ (fun h9 => absurd h9.1 (by decide)))
    have e_446 : (sv μ433 32 12 r_7).1 62 g = μ.1 62 g := ((sv_n _ (fun h9 => absurd h9.1 (by decide))).trans (F_434.1 62 (by decide) g))
    have e_447 : ofF (sv μ433 32 12 r_7) 53 = ofF μ 53 := ((ofF_sv μ433 (by decide) (by decide)).trans (ofF_fr F_434 (by decide) (by decide)))
    have ho_e : cdp μ P A 0 = 31 := by omega
    have h0_e : ((sv μ433 32 12 r_7).1 32 13 = 0 ∧ (sv μ433 32 12 r_7).1 32 12 = μ.1 32 12 ∧ gfall (cdp μ P A 0) S ((sv μ433 32 12 r_7).1 33 3) (ofF μ 53)) ∨ ((sv μ433 32 12 r_7).1 32 13 = 0 ∧ (sv μ433 32 12 r_7).1 32 12 = cdp μ P A 1 ∧ gjump (cdp μ P A 0) (cdp μ P A 2) S ((sv μ433 32 12 r_7).1 33 3)) ∨ ((sv μ433 32 12 r_7).1 33 3 ≤ S + 1 ∧ ((sv μ433 32 12 r_7).1 32 13 = 1 ∨ (sv μ433 32 12 r_7).1 32 13 = 3 ∨ (sv μ433 32 12 r_7).1 32 13 = 4)) := by
      exact Or.inr (Or.inl ⟨by omega, by omega, by unfold gjump; omega⟩)
    have hI_448 : IC (sv μ433 32 12 r_7) := (IC.put hI_435 (by decide +kernel))
    have e_449 : (sv μ433 32 12 r_7).1 70 2 = μ.1 70 2 := ((sv_n _ (fun h9 => absurd h9.1 (by decide))).trans (F_434.1 70 (by decide) 2))
    have e_450 : (sv μ433 32 12 r_7).1 70 2 = μ.1 70 2 := ((sv_n _ (fun h9 => absurd h9.1 (by decide))).trans (F_434.1 70 (by decide) 2))
    have e_451 : (sv μ433 32 12 r_7).1 70 8 = μ.1 70 8 := ((sv_n _ (fun h9 => absurd h9.1 (by decide))).trans (F_434.1 70 (by decide) 8))
    have e_452 : (sv μ433 32 12 r_7).1 70 8 = μ.1 70 8 := ((sv_n _ (fun h9 => absurd h9.1 (by decide))).trans (F_434.1 70 (by decide) 8))
    have e_453 : (sv μ433 32 12 r_7).1 45 1 = μ.1 45 1 := ((sv_n _ (fun h9 => absurd h9.1 (by decide))).trans (F_434.1 45 (by decide) 1))
    have e_454 : (sv μ433 32 12 r_7).1 70 2 = μ.1 70 2 := ((sv_n _ (fun h9 => absurd h9.1 (by decide))).trans (F_434.1 70 (by decide) 2))
    have e_455 : (sv μ433 32 12 r_7).1 32 10 = P := ((sv_n _ (by decide)).trans ((F_434.1 32 (by decide) 10).trans hP.symm))
    have e_456 : (sv μ433 32 12 r_7).1 32 11 = A := ((sv_n _ (by decide)).trans ((F_434.1 32 (by decide) 11).trans hA.symm))
    have e_457 : (sv μ433 32 12 r_7).1 32 15 = μ.1 32 15 := ((sv_n _ (by decide)).trans (F_434.1 32 (by decide) 15))
    have e_458 : (sv μ433 32 12 r_7).1 32 16 = μ.1 32 16 := ((sv_n _ (by decide)).trans (F_434.1 32 (by decide) 16))
    have e_459 : (sv μ433 32 12 r_7).1 70 1 = μ.1 70 1 := ((sv_n _ (fun h9 => absurd h9.1 (by decide))).trans (F_434.1 70 (by decide) 1))
    have e_460 : (sv μ433 32 12 r_7).1 70 4 = μ.1 70 4 := ((sv_n _ (fun h9 => absurd h9.1 (by decide))).trans (F_434.1 70 (by decide) 4))
    have e_461 : (sv μ433 32 12 r_7).1 70 5 = μ.1 70 5 := ((sv_n _ (fun h9 => absurd h9.1 (by decide))).trans (F_434.1 70 (by decide) 5))
    have e_462 : (sv μ433 32 12 r_7).1 70 6 = μ.1 70 6 := ((sv_n _ (fun h9 => absurd h9.1 (by decide))).trans (F_434.1 70 (by decide) 6))
    have e_463 : (sv μ433 32 12 r_7).1 70 7 = μ.1 70 7 := ((sv_n _ (fun h9 => absurd h9.1 (by decide))).trans (F_434.1 70 (by decide) 7))
    have e_464 : (sv μ433 32 12 r_7).1 45 4 = μ.1 45 4 := ((sv_n _ (fun h9 => absurd h9.1 (by decide))).trans (F_434.1 45 (by decide) 4))
    exact xr_v G hret hlk dX4_goElsewhere_227 ⟨(Fr.put (Fr.tr Fr.rf F_434 (by decide)) (by decide)), hI_448, h0_e, (Or.inr (Or.inr ⟨by omega, by omega, by omega, by omega⟩)), (fun j h0 hj => (Classical.em (j = g - 1)).elim (fun h => Or.inr ⟨by rw [h]; exact ((sv_n _ (by omega))).trans (hk5.resolve_left (by omega)), ho_e, h⟩) (fun h => Or.inl ((sv_n _ (by omega)).trans (ha_437 j (by omega))))), (fun j hj => ((sv_n _ (by omega)).trans (F_434.1 62 (by decide) j))), (by omega), (by omega), (by omega), (by omega), (by omega), (by omega), (by omega), (by omega), (by omega), (by omega), (by omega)⟩
  have c_35_32 : r_15 = 32 := by omega
  refine xb_tin (tgt := 219) hx hb (by unfold ir; omega) dX4_goElsewhere_35 (by omega) (off := 184) (by rw [c_35_32]; rfl) (by decide) ?_
  refine lv_aload_n hx hb dX4_goElsewhere_219 rfl (lv_at hl 2 rfl) ?_
  refine lv_iload_n hx hb dX4_goElsewhere_220 rfl (lv_at hl 1 rfl) ?_
  have e_465 : μ.1 33 3 = S := hS.symm
  have e_466 : μ.1 60 6 = g := hg.symm
  have e_467 : μ.1 32 10 = P := hP.symm
  have e_468 : μ.1 32 11 = A := hA.symm
  refine xc_vV G (b := 32) (rest := []) (As := [.int (iv r_7)]) (c_X4_finished ω l μ r_7 S g (by unfold ir; omega) hI (by omega) (by omega) (by omega) (by omega)) (wm 7 69 rfl rfl) (wm 7 71 rfl rfl) (wm 0 118 rfl rfl) rfl rfl (by decide) rfl (wm 1 14 rfl rfl) (wm 7 72 rfl rfl) (by decide) hR (by decide) (n := 1) rfl rfl (Nat.le_of_ble_eq_true rfl) hl.1 dX4_goElsewhere_221 (fun μ469 ρ d0 H locs hp G => ?_)
  obtain ⟨F_470, hI_471, hp_472, hp_473, hs_474, hs_475, hs_476, hs_477⟩ := hp
  have hk_478 := hI_471.row (r := 33) (by unfold isRow; decide)
  unfold rk at hk_478
  simp only [Int.reduceAdd] at hk_478
  have hn_479 : 0 ≤ μ469.1 60 6 ∧ μ469.1 60 6 ≤ 400 := hI_471.nm.2.2.2.2.2.1
  refine lv_goto (tgt := 227) hx hb dX4_goElsewhere_224 (by decide) ?_
  have e_480 : μ469.1 52 7 = μ.1 52 7 := (F_470.1 52 (by decide) 7)
  have e_481 : μ469.1 32 10 = P := (hs_474.trans hP.symm)
  have e_482 : μ469.1 45 4 = μ.1 45 4 := (F_470.1 45 (by decide) 4)
  have e_483 : μ469.1 61 g = μ.1 61 g := (F_470.1 61 (by decide) g)
  have e_484 : μ469.1 62 g = μ.1 62 g := (F_470.1 62 (by decide) g)
  have e_485 : ofF μ469 53 = ofF μ 53 := (ofF_fr F_470 (by decide) (by decide))
  have ho_e : cdp μ P A 0 = 32 := by omega
  have h0_e : (μ469.1 32 13 = 0 ∧ μ469.1 32 12 = μ.1 32 12 ∧ gfall (cdp μ P A 0) S (μ469.1 33 3) (ofF μ 53)) ∨ (μ469.1 32 13 = 0 ∧ μ469.1 32 12 = cdp μ P A 1 ∧ gjump (cdp μ P A 0) (cdp μ P A 2) S (μ469.1 33 3)) ∨ (μ469.1 33 3 ≤ S + 1 ∧ (μ469.1 32 13 = 1 ∨ μ469.1 32 13 = 3 ∨ μ469.1 32 13 = 4)) := by
    rcases hp_472 with ⟨q1, q2, q3⟩ | ⟨q1, q2, q3⟩
    · exact Or.inr (Or.inr ⟨by omega, by omega⟩)
    · exact Or.inr (Or.inl ⟨by omega, by omega, by unfold gjump; omega⟩)
  have e_486 : μ469.1 70 2 = μ.1 70 2 := (F_470.1 70 (by decide) 2)
  have e_487 : μ469.1 70 2 = μ.1 70 2 := (F_470.1 70 (by decide) 2)
  have e_488 : μ469.1 70 8 = μ.1 70 8 := (F_470.1 70 (by decide) 8)
  have e_489 : μ469.1 70 8 = μ.1 70 8 := (F_470.1 70 (by decide) 8)
  have e_490 : μ469.1 45 1 = μ.1 45 1 := (F_470.1 45 (by decide) 1)
  have e_491 : μ469.1 70 2 = μ.1 70 2 := (F_470.1 70 (by decide) 2)
  have e_492 : μ469.1 32 10 = P := (hs_474.trans hP.symm)
  have e_493 : μ469.1 32 11 = A := (hs_475.trans hA.symm)
  have e_494 : μ469.1 32 15 = μ.1 32 15 := hs_476
  have e_495 : μ469.1 32 16 = μ.1 32 16 := hs_477
  have e_496 : μ469.1 70 1 = μ.1 70 1 := (F_470.1 70 (by decide) 1)
  have e_497 : μ469.1 70 4 = μ.1 70 4 := (F_470.1 70 (by decide) 4)
  have e_498 : μ469.1 70 5 = μ.1 70 5 := (F_470.1 70 (by decide) 5)
  have e_499 : μ469.1 70 6 = μ.1 70 6 := (F_470.1 70 (by decide) 6)
  have e_500 : μ469.1 70 7 = μ.1 70 7 := (F_470.1 70 (by decide) 7)
  have e_501 : μ469.1 45 4 = μ.1 45 4 := (F_470.1 45 (by decide) 4)
  exact xr_v G hret hlk dX4_goElsewhere_227 ⟨(Fr.tr Fr.rf F_470 (by decide)), hI_471, h0_e, (Or.inr (Or.inl ⟨by omega, by omega⟩)), (fun j h0 hj => Or.inl (F_470.1 61 (by decide) j)), (fun j hj => (F_470.1 62 (by decide) j)), (by omega), (by omega), (by omega), (by omega), (by omega), (by omega), (by omega), (by omega), (by omega), (by omega), (by omega)⟩
