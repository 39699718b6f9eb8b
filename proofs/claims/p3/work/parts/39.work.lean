abbrev cX4_workOut : ByteArray := prog_6_method_13_code
def yX4_workOut : MethodName := ⟨RX4, "workOut", "()V"⟩
theorem dX4_workOut_0 : decode cX4_workOut 0 = .ok (.aload_n 0, 1) := by decide +kernel
theorem dX4_workOut_1 : decode cX4_workOut 1 = .ok (.getfield 83, 3) := by decide +kernel
theorem dX4_workOut_4 : decode cX4_workOut 4 = .ok (.aload_n 0, 1) := by decide +kernel
theorem dX4_workOut_5 : decode cX4_workOut 5 = .ok (.getfield 51, 3) := by decide +kernel
theorem dX4_workOut_8 : decode cX4_workOut 8 = .ok (.invokevirtual 165, 3) := by decide +kernel
theorem dX4_workOut_11 : decode cX4_workOut 11 = .ok (.istore_n 1, 1) := by decide +kernel
theorem dX4_workOut_12 : decode cX4_workOut 12 = .ok (.aload_n 0, 1) := by decide +kernel
theorem dX4_workOut_13 : decode cX4_workOut 13 = .ok (.getfield 83, 3) := by decide +kernel
theorem dX4_workOut_16 : decode cX4_workOut 16 = .ok (.aload_n 0, 1) := by decide +kernel
theorem dX4_workOut_17 : decode cX4_workOut 17 = .ok (.getfield 51, 3) := by decide +kernel
theorem dX4_workOut_20 : decode cX4_workOut 20 = .ok (.invokevirtual 168, 3) := by decide +kernel
theorem dX4_workOut_23 : decode cX4_workOut 23 = .ok (.istore_n 2, 1) := by decide +kernel
theorem dX4_workOut_24 : decode cX4_workOut 24 = .ok (.aload_n 0, 1) := by decide +kernel
theorem dX4_workOut_25 : decode cX4_workOut 25 = .ok (.getfield 83, 3) := by decide +kernel
theorem dX4_workOut_28 : decode cX4_workOut 28 = .ok (.aload_n 0, 1) := by decide +kernel
theorem dX4_workOut_29 : decode cX4_workOut 29 = .ok (.getfield 51, 3) := by decide +kernel
theorem dX4_workOut_32 : decode cX4_workOut 32 = .ok (.invokevirtual 140, 3) := by decide +kernel
theorem dX4_workOut_35 : decode cX4_workOut 35 = .ok (.tableswitch 264 1 18 #[85, 93, 111, 124, 147, 155, 162, 170, 177, 184, 191, 198, 205, 214, 224, 233, 240, 248], 85) := by decide +kernel
theorem dX4_workOut_120 : decode cX4_workOut 120 = .ok (.aload_n 0, 1) := by decide +kernel
theorem dX4_workOut_121 : decode cX4_workOut 121 = .ok (.invokevirtual 171, 3) := by decide +kernel
theorem dX4_workOut_124 : decode cX4_workOut 124 = .ok (.pop, 1) := by decide +kernel
theorem dX4_workOut_125 : decode cX4_workOut 125 = .ok (.goto 174, 3) := by decide +kernel
theorem dX4_workOut_128 : decode cX4_workOut 128 = .ok (.aload_n 0, 1) := by decide +kernel
theorem dX4_workOut_129 : decode cX4_workOut 129 = .ok (.getfield 14, 3) := by decide +kernel
theorem dX4_workOut_132 : decode cX4_workOut 132 = .ok (.aload_n 0, 1) := by decide +kernel
theorem dX4_workOut_133 : decode cX4_workOut 133 = .ok (.getfield 83, 3) := by decide +kernel
theorem dX4_workOut_136 : decode cX4_workOut 136 = .ok (.invokevirtual 175, 3) := by decide +kernel
theorem dX4_workOut_139 : decode cX4_workOut 139 = .ok (.iload_n 1, 1) := by decide +kernel
theorem dX4_workOut_140 : decode cX4_workOut 140 = .ok (.invokevirtual 179, 3) := by decide +kernel
theorem dX4_workOut_143 : decode cX4_workOut 143 = .ok (.goto 156, 3) := by decide +kernel
theorem dX4_workOut_146 : decode cX4_workOut 146 = .ok (.aload_n 0, 1) := by decide +kernel
theorem dX4_workOut_147 : decode cX4_workOut 147 = .ok (.getfield 14, 3) := by decide +kernel
theorem dX4_workOut_150 : decode cX4_workOut 150 = .ok (.iconst 0, 1) := by decide +kernel
theorem dX4_workOut_151 : decode cX4_workOut 151 = .ok (.lconst 0, 1) := by decide +kernel
theorem dX4_workOut_152 : decode cX4_workOut 152 = .ok (.dconst 0, 1) := by decide +kernel
theorem dX4_workOut_153 : decode cX4_workOut 153 = .ok (.invokevirtual 161, 3) := by decide +kernel
theorem dX4_workOut_156 : decode cX4_workOut 156 = .ok (.goto 143, 3) := by decide +kernel
theorem dX4_workOut_159 : decode cX4_workOut 159 = .ok (.aload_n 0, 1) := by decide +kernel
theorem dX4_workOut_160 : decode cX4_workOut 160 = .ok (.getfield 14, 3) := by decide +kernel
theorem dX4_workOut_163 : decode cX4_workOut 163 = .ok (.aload_n 0, 1) := by decide +kernel
theorem dX4_workOut_164 : decode cX4_workOut 164 = .ok (.getfield 14, 3) := by decide +kernel
theorem dX4_workOut_167 : decode cX4_workOut 167 = .ok (.aload_n 0, 1) := by decide +kernel
theorem dX4_workOut_168 : decode cX4_workOut 168 = .ok (.getfield 36, 3) := by decide +kernel
theorem dX4_workOut_171 : decode cX4_workOut 171 = .ok (.invokevirtual 183, 3) := by decide +kernel
theorem dX4_workOut_174 : decode cX4_workOut 174 = .ok (.iload_n 1, 1) := by decide +kernel
theorem dX4_workOut_175 : decode cX4_workOut 175 = .ok (.iadd, 1) := by decide +kernel
theorem dX4_workOut_176 : decode cX4_workOut 176 = .ok (.invokevirtual 179, 3) := by decide +kernel
theorem dX4_workOut_179 : decode cX4_workOut 179 = .ok (.goto 120, 3) := by decide +kernel
theorem dX4_workOut_182 : decode cX4_workOut 182 = .ok (.aload_n 0, 1) := by decide +kernel
theorem dX4_workOut_183 : decode cX4_workOut 183 = .ok (.iload_n 1, 1) := by decide +kernel
theorem dX4_workOut_184 : decode cX4_workOut 184 = .ok (.invokevirtual 186, 3) := by decide +kernel
theorem dX4_workOut_187 : decode cX4_workOut 187 = .ok (.goto 112, 3) := by decide +kernel
theorem dX4_workOut_190 : decode cX4_workOut 190 = .ok (.aload_n 0, 1) := by decide +kernel
theorem dX4_workOut_191 : decode cX4_workOut 191 = .ok (.invokevirtual 189, 3) := by decide +kernel
theorem dX4_workOut_194 : decode cX4_workOut 194 = .ok (.goto 105, 3) := by decide +kernel
theorem dX4_workOut_197 : decode cX4_workOut 197 = .ok (.aload_n 0, 1) := by decide +kernel
theorem dX4_workOut_198 : decode cX4_workOut 198 = .ok (.iload_n 1, 1) := by decide +kernel
theorem dX4_workOut_199 : decode cX4_workOut 199 = .ok (.invokevirtual 192, 3) := by decide +kernel
theorem dX4_workOut_202 : decode cX4_workOut 202 = .ok (.goto 97, 3) := by decide +kernel
theorem dX4_workOut_205 : decode cX4_workOut 205 = .ok (.aload_n 0, 1) := by decide +kernel
theorem dX4_workOut_206 : decode cX4_workOut 206 = .ok (.invokevirtual 195, 3) := by decide +kernel
theorem dX4_workOut_209 : decode cX4_workOut 209 = .ok (.goto 90, 3) := by decide +kernel
theorem dX4_workOut_212 : decode cX4_workOut 212 = .ok (.aload_n 0, 1) := by decide +kernel
theorem dX4_workOut_213 : decode cX4_workOut 213 = .ok (.invokevirtual 198, 3) := by decide +kernel
theorem dX4_workOut_216 : decode cX4_workOut 216 = .ok (.goto 83, 3) := by decide +kernel
theorem dX4_workOut_219 : decode cX4_workOut 219 = .ok (.aload_n 0, 1) := by decide +kernel
theorem dX4_workOut_220 : decode cX4_workOut 220 = .ok (.invokevirtual 201, 3) := by decide +kernel
theorem dX4_workOut_223 : decode cX4_workOut 223 = .ok (.goto 76, 3) := by decide +kernel
theorem dX4_workOut_226 : decode cX4_workOut 226 = .ok (.aload_n 0, 1) := by decide +kernel
theorem dX4_workOut_227 : decode cX4_workOut 227 = .ok (.invokevirtual 204, 3) := by decide +kernel
theorem dX4_workOut_230 : decode cX4_workOut 230 = .ok (.goto 69, 3) := by decide +kernel
theorem dX4_workOut_233 : decode cX4_workOut 233 = .ok (.aload_n 0, 1) := by decide +kernel
theorem dX4_workOut_234 : decode cX4_workOut 234 = .ok (.invokevirtual 207, 3) := by decide +kernel
theorem dX4_workOut_237 : decode cX4_workOut 237 = .ok (.goto 62, 3) := by decide +kernel
theorem dX4_workOut_240 : decode cX4_workOut 240 = .ok (.aload_n 0, 1) := by decide +kernel
theorem dX4_workOut_241 : decode cX4_workOut 241 = .ok (.iload_n 1, 1) := by decide +kernel
theorem dX4_workOut_242 : decode cX4_workOut 242 = .ok (.iload_n 2, 1) := by decide +kernel
theorem dX4_workOut_243 : decode cX4_workOut 243 = .ok (.invokevirtual 210, 3) := by decide +kernel
theorem dX4_workOut_246 : decode cX4_workOut 246 = .ok (.goto 53, 3) := by decide +kernel
theorem dX4_workOut_249 : decode cX4_workOut 249 = .ok (.aload_n 0, 1) := by decide +kernel
theorem dX4_workOut_250 : decode cX4_workOut 250 = .ok (.iload_n 1, 1) := by decide +kernel
theorem dX4_workOut_251 : decode cX4_workOut 251 = .ok (.iconst 4, 1) := by decide +kernel
theorem dX4_workOut_252 : decode cX4_workOut 252 = .ok (.idiv, 1) := by decide +kernel
theorem dX4_workOut_253 : decode cX4_workOut 253 = .ok (.invokevirtual 214, 3) := by decide +kernel
theorem dX4_workOut_256 : decode cX4_workOut 256 = .ok (.goto 43, 3) := by decide +kernel
theorem dX4_workOut_259 : decode cX4_workOut 259 = .ok (.aload_n 0, 1) := by decide +kernel
theorem dX4_workOut_260 : decode cX4_workOut 260 = .ok (.iload_n 1, 1) := by decide +kernel
theorem dX4_workOut_261 : decode cX4_workOut 261 = .ok (.iload_n 2, 1) := by decide +kernel
theorem dX4_workOut_262 : decode cX4_workOut 262 = .ok (.invokevirtual 217, 3) := by decide +kernel
theorem dX4_workOut_265 : decode cX4_workOut 265 = .ok (.goto 34, 3) := by decide +kernel
theorem dX4_workOut_268 : decode cX4_workOut 268 = .ok (.aload_n 0, 1) := by decide +kernel
theorem dX4_workOut_269 : decode cX4_workOut 269 = .ok (.invokevirtual 220, 3) := by decide +kernel
theorem dX4_workOut_272 : decode cX4_workOut 272 = .ok (.goto 27, 3) := by decide +kernel
theorem dX4_workOut_275 : decode cX4_workOut 275 = .ok (.aload_n 0, 1) := by decide +kernel
theorem dX4_workOut_276 : decode cX4_workOut 276 = .ok (.iload_n 1, 1) := by decide +kernel
theorem dX4_workOut_277 : decode cX4_workOut 277 = .ok (.invokevirtual 223, 3) := by decide +kernel
theorem dX4_workOut_280 : decode cX4_workOut 280 = .ok (.goto 19, 3) := by decide +kernel
theorem dX4_workOut_283 : decode cX4_workOut 283 = .ok (.aload_n 0, 1) := by decide +kernel
theorem dX4_workOut_284 : decode cX4_workOut 284 = .ok (.iconst 1, 1) := by decide +kernel
theorem dX4_workOut_285 : decode cX4_workOut 285 = .ok (.aload_n 0, 1) := by decide +kernel
theorem dX4_workOut_286 : decode cX4_workOut 286 = .ok (.getfield 47, 3) := by decide +kernel
theorem dX4_workOut_289 : decode cX4_workOut 289 = .ok (.bipush 9, 2) := by decide +kernel
theorem dX4_workOut_291 : decode cX4_workOut 291 = .ok (.iaload, 1) := by decide +kernel
theorem dX4_workOut_292 : decode cX4_workOut 292 = .ok (.i2l, 1) := by decide +kernel
theorem dX4_workOut_293 : decode cX4_workOut 293 = .ok (.invokevirtual 122, 3) := by decide +kernel
theorem dX4_workOut_296 : decode cX4_workOut 296 = .ok (.goto 3, 3) := by decide +kernel
theorem dX4_workOut_299 : decode cX4_workOut 299 = .ok (.return_, 1) := by decide +kernel
/-- how high the VALUES may stand behind an instruction that is worked out -/
def hup (o a S : Int) : Int := if o = 2 ∨ o = 3 ∨ o = 4 ∨ o = 15 ∨ o = 18 then S + 1 else if o = 5 ∨ o = 6 then max (S - 1) 0 else if o = 7 ∨ o = 11 then max (S - 1) 1 else if o = 8 ∨ o = 9 ∨ o = 10 ∨ o = 16 ∨ o = 17 then max S 1 else if o = 12 then max (S - 3) 0 else if o = 13 then max (S - a.tdiv 4) 0 + 1 else if o = 14 then max (S - (a.tdiv 4 + 1)) 0 + 1 else S
theorem hup_out {o a S : Int} (h : o < 2 ∨ 18 < o) : hup o a S = S := by
  unfold hup
  rw [if_neg (by omega), if_neg (by omega), if_neg (by omega), if_neg (by omega), if_neg (by omega), if_neg (by omega), if_neg (by omega)]
theorem td4b {x : Int} (h : 0 ≤ x ∧ x ≤ 400000) : 0 ≤ x.tdiv 4 ∧ x.tdiv 4 ≤ 100000 := by
  have := td4 h.1
  omega
set_option maxHeartbeats 4000000 in
set_option maxRecDepth 100000 in
theorem c_X4_workOut (ω : Om) (l : Launch) (μ : M3) (S : Int) (n : Int) (P : Int) (A : Int) (hI : IC μ) (hS : S = μ.1 33 3) (hn : n = μ.1 52 7) (hP : P = μ.1 32 10) (hA : A = μ.1 32 11) (hSb : S < 240099) (hS9 : S ≤ 239000) (hst : 0 ≤ μ.1 70 2 ∧ μ.1 70 2 ≤ 5000 ∧ 0 ≤ μ.1 70 8 ∧ μ.1 70 8 ≤ 80000 ∧ μ.1 45 1 ≤ μ.1 70 2) (h0s : μ.1 32 13 = 0) (hv9 : vrk μ) (hx13 : cdp μ P A 0 = 13 ∨ cdp μ P A 0 = 14 → 0 ≤ cdp μ P A 1 ∧ cdp μ P A 1 ≤ 400000) : CtV ω l yX4_workOut cX4_workOut 3 7 220 [.ref (oP ω 32)] μ (fun (μ' : M3) => (Fr [70, 32, 33, 34, 35, 36, 45, 46, 47, 48, 49, 50, 37, 38, 39, 40, 53, 54, 55, 56, 57, 58, 59, 52] μ μ') ∧ (IC μ') ∧ ((μ'.1 52 7 = n ∧ μ'.1 32 13 = 0 ∧ μ'.1 33 3 ≤ hup (cdp μ P A 0) (cdp μ P A 1) S ∧ μ'.1 32 12 = μ.1 32 12 ∧ μ'.1 32 10 = P) ∨ (μ'.1 52 7 = n ∧ μ'.1 33 3 ≤ S + 1 ∧ (μ'.1 32 13 = 1 ∨ μ'.1 32 13 = 3 ∨ μ'.1 32 13 = 4) ∧ μ'.1 32 10 = P) ∨ (n < 24 ∧ μ'.1 52 7 = n + 1 ∧ μ'.1 32 13 = 0 ∧ 0 ≤ μ'.1 53 n ∧ μ'.1 53 n ≤ 3 ∧ μ'.1 56 n ≤ S + 1000 ∧ -200000 ≤ μ'.1 57 n ∧ μ'.1 57 n + 1 ≤ hup (cdp μ P A 0) (cdp μ P A 1) S ∧ μ'.1 58 n = A ∧ μ'.1 59 n = μ.1 60 6 ∧ μ'.1 33 3 = max (μ'.1 56 n) 0)) ∧ (μ'.1 52 7 = n + 1 → (stt μ (μ'.1 53 n) (μ'.1 32 12) ∧ μ'.1 32 10 = μ.1 12 (μ'.1 53 n) ∧ (cdp μ P A 0 = 13 ∨ cdp μ P A 0 = 14))) ∧ (μ.1 70 2 ≤ μ'.1 70 2 ∧ μ'.1 70 2 ≤ 5000 ∧ 0 ≤ μ'.1 70 8 ∧ μ'.1 70 8 ≤ 80000 ∧ μ'.1 45 1 ≤ μ'.1 70 2) ∧ (cdp μ P A 0 = 1 → μ'.1 32 13 = 0 → μ'.1 70 2 = μ.1 70 2 + 1) ∧ (∀ j, j ≠ n → μ'.1 53 j = μ.1 53 j) ∧ (∀ j, j ≠ n → μ'.1 54 j = μ.1 54 j) ∧ (∀ j, j ≠ n → μ'.1 55 j = μ.1 55 j) ∧ (∀ j, j ≠ n → μ'.1 56 j = μ.1 56 j) ∧ (∀ j, j ≠ n → μ'.1 57 j = μ.1 57 j) ∧ (∀ j, j ≠ n → μ'.1 58 j = μ.1 58 j) ∧ (∀ j, j ≠ n → μ'.1 59 j = μ.1 59 j) ∧ (μ'.1 70 1 = μ.1 70 1) ∧ (μ'.1 70 3 = μ.1 70 3) ∧ (μ'.1 70 6 = μ.1 70 6) ∧ (μ'.1 32 11 = μ.1 32 11) ∧ (μ'.1 32 15 = μ.1 32 15) ∧ (μ'.1 32 16 = μ.1 32 16) ∧ (μ'.1 45 4 = μ.1 45 4)) := by
  refine CtV.go (by decide) (Nat.le_of_ble_eq_true rfl) (fun ρ p e s m below meth c R ls G hR hret hlk hl => ?_)
  have hx := G.1.1
  have hb := G.1.2.1
  have hl : lv_has ls 3 [(0, .ref (oP ω 32))] := hl
  generalize s.drawn = d0 at G ⊢
  have hk_1 := hI.row (r := 33) (by unfold isRow; decide)
  unfold rk at hk_1
  simp only [Int.reduceAdd] at hk_1
  have hbr_33 : BR 33 = 240100 := rfl
  have hn_2 : 0 ≤ μ.1 52 7 ∧ μ.1 52 7 ≤ 24 := hI.nm.2.2.2.2.1
  have hk_3 := hI.row (r := 37) (by unfold isRow; decide)
  unfold rk at hk_3
  simp only [Int.reduceAdd] at hk_3
  have hbr_37 : BR 37 = 20410 := rfl
  have hprP : isPr P := by have h9 := G.sr0.2.2.2.2.1; rw [← hP] at h9; exact h9
  have hprP_d : P = 13 ∨ P = 71 ∨ P = 81 ∨ P = 91 ∨ P = 101 := hprP
  refine lv_aload_n hx hb dX4_workOut_0 rfl (lv_at hl 0 rfl) ?_
  refine xa_getr G fd_X4 (a := 32) (x := P) 10 rfl (by decide) rfl (wm 2 154 rfl rfl) ⟨rfl, rfl, rfl⟩ dX4_workOut_1 rfl hP.symm (by omega) (hprP.hq ω ρ) ?_
  refine lv_aload_n hx hb dX4_workOut_4 rfl (lv_at hl 0 rfl) ?_
  refine xa_geti G fd_X4 (a := 32) (x := A) 11 rfl (by decide) rfl (wm 2 155 rfl rfl) ⟨rfl, rfl, rfl⟩ dX4_workOut_5 rfl hA.symm ?_
  have hr_4 : -2147483648 ≤ A ∧ A ≤ 2147483647 := by have h9 := G.hr (a := 32) (k := 11) rfl; rw [show μ.1 32 11 = A from hA.symm] at h9; exact h9
  refine xc_iV G (b := P) (rest := []) (As := [.int (iv A)]) (c_X8_first ω l μ P A hprP (by unfold ir; omega) hI) (wm 5 182 rfl rfl) (wm 4 44 rfl rfl) (wm 4 45 rfl rfl) hprP.ly rfl (by decide) (hprP.hq ω ρ) (wm 1 9 rfl rfl) (wm 4 46 rfl rfl) (by decide) hR (by decide) (n := 1) rfl rfl (Nat.le_of_ble_eq_true rfl) hl.1 dX4_workOut_8 (fun r_6 μ5 ρ d0 H locs hr_r_6 hp G => ?_)
  have hr_r_6 : -2147483648 ≤ r_6 ∧ r_6 ≤ 2147483647 := hr_r_6
  obtain ⟨hsm_7, hp_8⟩ := hp
  have hsm_7 := Eq.symm hsm_7
  subst hsm_7
  refine lv_istore_n (lv' := [(1, .int (iv r_6)), (0, .ref (oP ω 32))]) hx hb dX4_workOut_11 rfl hl (by decide) rfl (fun ls hl => ?_)
  refine lv_aload_n hx hb dX4_workOut_12 rfl (lv_at hl 1 rfl) ?_
  refine xa_getr G fd_X4 (a := 32) (x := P) 10 rfl (by decide) rfl (wm 2 154 rfl rfl) ⟨rfl, rfl, rfl⟩ dX4_workOut_13 rfl hP.symm (by omega) (hprP.hq ω ρ) ?_
  refine lv_aload_n hx hb dX4_workOut_16 rfl (lv_at hl 1 rfl) ?_
  refine xa_geti G fd_X4 (a := 32) (x := A) 11 rfl (by decide) rfl (wm 2 155 rfl rfl) ⟨rfl, rfl, rfl⟩ dX4_workOut_17 rfl hA.symm ?_
  refine xc_iV G (b := P) (rest := []) (As := [.int (iv A)]) (c_X8_second ω l μ P A hprP (by unfold ir; omega) hI) (wm 5 184 rfl rfl) (wm 5 185 rfl rfl) (wm 5 186 rfl rfl) hprP.ly rfl (by decide) (hprP.hq ω ρ) (wm 1 9 rfl rfl) (wm 5 187 rfl rfl) (by decide) hR (by decide) (n := 1) rfl rfl (Nat.le_of_ble_eq_true rfl) hl.1 dX4_workOut_20 (fun r_10 μ9 ρ d0 H locs hr_r_10 hp G => ?_)
  have hr_r_10 : -2147483648 ≤ r_10 ∧ r_10 ≤ 2147483647 := hr_r_10
  obtain ⟨hsm_11, hp_12⟩ := hp
  have hsm_11 := Eq.symm hsm_11
  subst hsm_11
  refine lv_istore_n (lv' := [(2, .int (iv r_10)), (1, .int (iv r_6)), (0, .ref (oP ω 32))]) hx hb dX4_workOut_23 rfl hl (by decide) rfl (fun ls hl => ?_)
  refine lv_aload_n hx hb dX4_workOut_24 rfl (lv_at hl 2 rfl) ?_
  refine xa_getr G fd_X4 (a := 32) (x := P) 10 rfl (by decide) rfl (wm 2 154 rfl rfl) ⟨rfl, rfl, rfl⟩ dX4_workOut_25 rfl hP.symm (by omega) (hprP.hq ω ρ) ?_
  refine lv_aload_n hx hb dX4_workOut_28 rfl (lv_at hl 2 rfl) ?_
  refine xa_geti G fd_X4 (a := 32) (x := A) 11 rfl (by decide) rfl (wm 2 155 rfl rfl) ⟨rfl, rfl, rfl⟩ dX4_workOut_29 rfl hA.symm ?_
  refine xc_iV G (b := P) (rest := []) (As := [.int (iv A)]) (c_X8_op ω l μ P A hprP (by unfold ir; omega) hI) (wm 6 114 rfl rfl) (wm 6 115 rfl rfl) (wm 6 116 rfl rfl) hprP.ly rfl (by decide) (hprP.hq ω ρ) (wm 1 9 rfl rfl) (wm 6 117 rfl rfl) (by decide) hR (by decide) (n := 1) rfl rfl (Nat.le_of_ble_eq_true rfl) hl.1 dX4_workOut_32 (fun r_14 μ13 ρ d0 H locs hr_r_14 hp G => ?_)
  have hr_r_14 : -2147483648 ≤ r_14 ∧ r_14 ≤ 2147483647 := hr_r_14
  obtain ⟨hsm_15, hp_16⟩ := hp
  have hsm_15 := Eq.symm hsm_15
  subst hsm_15
  by_cases c_35_out : r_14 < 1 ∨ 18 < r_14
  · refine xb_tout (tgt := 299) hx hb (by unfold ir; omega) dX4_workOut_35 c_35_out (by decide) ?_
    have e_17 : μ.1 33 3 = S := hS.symm
    have e_18 : μ.1 52 7 = n := hn.symm
    have e_19 : μ.1 32 10 = P := hP.symm
    have hup_e : hup (cdp μ P A 0) (cdp μ P A 1) S = S := hup_out (by omega)
    have h0_e : (μ.1 52 7 = n ∧ μ.1 32 13 = 0 ∧ μ.1 33 3 ≤ hup (cdp μ P A 0) (cdp μ P A 1) S ∧ μ.1 32 12 = μ.1 32 12 ∧ μ.1 32 10 = P) ∨ (μ.1 52 7 = n ∧ μ.1 33 3 ≤ S + 1 ∧ (μ.1 32 13 = 1 ∨ μ.1 32 13 = 3 ∨ μ.1 32 13 = 4) ∧ μ.1 32 10 = P) ∨ (n < 24 ∧ μ.1 52 7 = n + 1 ∧ μ.1 32 13 = 0 ∧ 0 ≤ μ.1 53 n ∧ μ.1 53 n ≤ 3 ∧ μ.1 56 n ≤ S + 1000 ∧ -200000 ≤ μ.1 57 n ∧ μ.1 57 n + 1 ≤ hup (cdp μ P A 0) (cdp μ P A 1) S ∧ μ.1 58 n = A ∧ μ.1 59 n = μ.1 60 6 ∧ μ.1 33 3 = max (μ.1 56 n) 0) := by
      rw [hup_e]
      exact Or.inl ⟨by omega, by omega, by omega, by omega, by omega⟩
    have e_20 : μ.1 32 11 = A := hA.symm
    exact xr_v G hret hlk dX4_workOut_299 ⟨Fr.rf, hI, h0_e, (fun h9 => absurd h9 (by omega)), (by omega), (fun h9 => absurd h9 (by omega)), (fun j hj => rfl), (fun j hj => rfl), (fun j hj => rfl), (fun j hj => rfl), (fun j hj => rfl), (fun j hj => rfl), (fun j hj => rfl), (by omega), (by omega), (by omega), (by omega), (by omega), (by omega), (by omega)⟩
  by_cases c_35_1 : r_14 = 1
  · refine xb_tin (tgt := 120) hx hb (by unfold ir; omega) dX4_workOut_35 (by omega) (off := 85) (by rw [c_35_1]; rfl) (by decide) ?_
    refine lv_aload_n hx hb dX4_workOut_120 rfl (lv_at hl 2 rfl) ?_
    have hn_21 : 0 ≤ μ.1 45 1 ∧ 9 * μ.1 45 1 ≤ μ.2.1 46 := hI.nm.2.2.2.2.2.2.1
    have e_22 : μ.1 32 10 = P := hP.symm
    have e_23 : μ.1 32 11 = A := hA.symm
    refine xc_iV G (b := 32) (rest := []) (As := []) (c_X4_step ω l μ  hI (by omega)) (wm 6 2 rfl rfl) (wm 6 4 rfl rfl) (wm 0 75 rfl rfl) rfl rfl (by decide) rfl (wm 1 14 rfl rfl) (wm 6 5 rfl rfl) (by decide) hR (by decide) (n := 0) rfl rfl (Nat.le_of_ble_eq_true rfl) hl.1 dX4_workOut_121 (fun r_25 μ24 ρ d0 H locs hr_r_25 hp G => ?_)
    have hr_r_25 : -2147483648 ≤ r_25 ∧ r_25 ≤ 2147483647 := hr_r_25
    obtain ⟨F_26, hI_27, hp_28, hs_29, hs_30, hs_31, hs_32, hs_33, hs_34, hs_35, hs_36, hs_37, hs_38, hs_39, hs_40, hs_41⟩ := hp
    refine lv_pop hx hb dX4_workOut_124 rfl ?_
    refine lv_goto (tgt := 299) hx hb dX4_workOut_125 (by decide) ?_
    have e_42 : μ24.1 33 3 = S := ((F_26.1 33 (by decide) 3).trans hS.symm)
    have e_43 : μ24.1 52 7 = n := ((F_26.1 52 (by decide) 7).trans hn.symm)
    have e_44 : μ24.1 32 12 = μ.1 32 12 := hs_38
    have e_45 : μ24.1 60 6 = μ.1 60 6 := (F_26.1 60 (by decide) 6)
    have e_46 : μ24.1 32 10 = P := (hs_36.trans hP.symm)
    have e_47 : μ24.1 45 4 = μ.1 45 4 := (F_26.1 45 (by decide) 4)
    have e_48 : μ24.1 53 n = μ.1 53 n := (F_26.1 53 (by decide) n)
    have e_49 : μ24.1 56 n = μ.1 56 n := (F_26.1 56 (by decide) n)
    have e_50 : μ24.1 57 n = μ.1 57 n := (F_26.1 57 (by decide) n)
    have e_51 : μ24.1 58 n = μ.1 58 n := (F_26.1 58 (by decide) n)
    have e_52 : μ24.1 59 n = μ.1 59 n := (F_26.1 59 (by decide) n)
    have e_53 : ofF μ24 53 = ofF μ 53 := (ofF_fr F_26 (by decide) (by decide))
    have hup_e : hup (cdp μ P A 0) (cdp μ P A 1) S = S := hup_out (by omega)
    have h0_e : (μ24.1 52 7 = n ∧ μ24.1 32 13 = 0 ∧ μ24.1 33 3 ≤ hup (cdp μ P A 0) (cdp μ P A 1) S ∧ μ24.1 32 12 = μ.1 32 12 ∧ μ24.1 32 10 = P) ∨ (μ24.1 52 7 = n ∧ μ24.1 33 3 ≤ S + 1 ∧ (μ24.1 32 13 = 1 ∨ μ24.1 32 13 = 3 ∨ μ24.1 32 13 = 4) ∧ μ24.1 32 10 = P) ∨ (n < 24 ∧ μ24.1 52 7 = n + 1 ∧ μ24.1 32 13 = 0 ∧ 0 ≤ μ24.1 53 n ∧ μ24.1 53 n ≤ 3 ∧ μ24.1 56 n ≤ S + 1000 ∧ -200000 ≤ μ24.1 57 n ∧ μ24.1 57 n + 1 ≤ hup (cdp μ P A 0) (cdp μ P A 1) S ∧ μ24.1 58 n = A ∧ μ24.1 59 n = μ.1 60 6 ∧ μ24.1 33 3 = max (μ24.1 56 n) 0) := by
      rw [hup_e]
      rcases hp_28 with ⟨q1, q2, q3, q4, q5⟩ | ⟨q1, q2, q3, q4⟩
      · exact Or.inl ⟨by omega, by omega, by omega, by omega, by omega⟩
      · exact Or.inr (Or.inl ⟨by omega, by omega, by omega, by omega⟩)
    have e_54 : μ24.1 45 1 = μ.1 45 1 := (F_26.1 45 (by decide) 1)
    have e_55 : μ24.1 70 1 = μ.1 70 1 := hs_29
    have e_56 : μ24.1 70 3 = μ.1 70 3 := hs_30
    have e_57 : μ24.1 70 6 = μ.1 70 6 := hs_33
    have e_58 : μ24.1 32 11 = A := (hs_37.trans hA.symm)
    have e_59 : μ24.1 32 15 = μ.1 32 15 := hs_40
    have e_60 : μ24.1 32 16 = μ.1 32 16 := hs_41
    have e_61 : μ24.1 45 4 = μ.1 45 4 := (F_26.1 45 (by decide) 4)
    exact xr_v G hret hlk dX4_workOut_299 ⟨(Fr.tr Fr.rf F_26 (by decide)), hI_27, h0_e, (fun h9 => absurd h9 (by omega)), (by omega), (fun _ h8 => by rcases hp_28 with ⟨q1, q2, q3, q4, q5⟩ | ⟨q1, q2, q3, q4⟩ <;> omega), (fun j hj => (F_26.1 53 (by decide) j)), (fun j hj => (F_26.1 54 (by decide) j)), (fun j hj => (F_26.1 55 (by decide) j)), (fun j hj => (F_26.1 56 (by decide) j)), (fun j hj => (F_26.1 57 (by decide) j)), (fun j hj => (F_26.1 58 (by decide) j)), (fun j hj => (F_26.1 59 (by decide) j)), (by omega), (by omega), (by omega), (by omega), (by omega), (by omega), (by omega)⟩
  by_cases c_35_2 : r_14 = 2
  · refine xb_tin (tgt := 128) hx hb (by unfold ir; omega) dX4_workOut_35 (by omega) (off := 93) (by rw [c_35_2]; rfl) (by decide) ?_
    refine lv_aload_n hx hb dX4_workOut_128 rfl (lv_at hl 2 rfl) ?_
    refine xa_getr G fd_X4 (a := 32) (x := 33) 3 rfl (by decide) rfl (wm 2 147 rfl rfl) ⟨rfl, rfl, rfl⟩ dX4_workOut_129 rfl (G.sk 36 rfl) (by decide) rfl ?_
    refine lv_aload_n hx hb dX4_workOut_132 rfl (lv_at hl 2 rfl) ?_
    refine xa_getr G fd_X4 (a := 32) (x := P) 10 rfl (by decide) rfl (wm 2 154 rfl rfl) ⟨rfl, rfl, rfl⟩ dX4_workOut_133 rfl hP.symm (by omega) (hprP.hq ω ρ) ?_
    refine xc_rV G (b := P) (rest := [.ref (oP ω 33)]) (As := []) (c_X8_constants ω l μ P hprP hI) (wm 6 122 rfl rfl) (wm 6 123 rfl rfl) (wm 6 124 rfl rfl) hprP.ly rfl (by decide) (hprP.hq ω ρ) (wm 1 9 rfl rfl) (wm 6 125 rfl rfl) (by decide) hR (by decide) (n := 0) rfl rfl (Nat.le_of_ble_eq_true rfl) hl.1 dX4_workOut_136 (fun r_63 μ62 ρ d0 H locs hp G => ?_)
    obtain ⟨hsm_64, hp_65⟩ := hp
    have hsm_64 := Eq.symm hsm_64
    subst hsm_64
    subst hp_65
    refine lv_iload_n hx hb dX4_workOut_139 rfl (lv_at hl 1 rfl) ?_
    have e_66 : μ.1 33 3 = S := hS.symm
    refine xc_vV G (b := 33) (rest := []) (As := [.ref (oP ω (P + 2)), .int (iv r_6)]) (c_X9_pushCopy ω l μ 33 (P + 2) r_6 S (by unfold isRow; decide) (hprP.row) (by unfold ir; omega) hI (by omega) (by omega)) (wm 5 200 rfl rfl) (wm 5 201 rfl rfl) (wm 5 202 rfl rfl) rfl rfl (by decide) rfl (wm 1 10 rfl rfl) (wm 5 203 rfl rfl) (by decide) hR (by decide) (n := 2) rfl rfl (Nat.le_of_ble_eq_true rfl) hl.1 dX4_workOut_140 (fun μ67 ρ d0 H locs hp G => ?_)
    obtain ⟨F_68, hI_69, hs_70⟩ := hp
    refine lv_goto (tgt := 299) hx hb dX4_workOut_143 (by decide) ?_
    have e_71 : μ67.1 33 3 = S + 1 := hs_70
    have e_72 : μ67.1 32 13 = μ.1 32 13 := (F_68.1 32 (by decide) 13)
    have e_73 : μ67.1 52 7 = n := ((F_68.1 52 (by decide) 7).trans hn.symm)
    have e_74 : μ67.1 32 12 = μ.1 32 12 := (F_68.1 32 (by decide) 12)
    have e_75 : μ67.1 60 6 = μ.1 60 6 := (F_68.1 60 (by decide) 6)
    have e_76 : μ67.1 32 10 = P := ((F_68.1 32 (by decide) 10).trans hP.symm)
    have e_77 : μ67.1 45 4 = μ.1 45 4 := (F_68.1 45 (by decide) 4)
    have e_78 : μ67.1 53 n = μ.1 53 n := (F_68.1 53 (by decide) n)
    have e_79 : μ67.1 56 n = μ.1 56 n := (F_68.1 56 (by decide) n)
    have e_80 : μ67.1 57 n = μ.1 57 n := (F_68.1 57 (by decide) n)
    have e_81 : μ67.1 58 n = μ.1 58 n := (F_68.1 58 (by decide) n)
    have e_82 : μ67.1 59 n = μ.1 59 n := (F_68.1 59 (by decide) n)
    have e_83 : ofF μ67 53 = ofF μ 53 := (ofF_fr F_68 (by decide) (by decide))
    have hup_e : hup (cdp μ P A 0) (cdp μ P A 1) S = S + 1 := by rw [← hp_16, c_35_2]; rfl
    have h0_e : (μ67.1 52 7 = n ∧ μ67.1 32 13 = 0 ∧ μ67.1 33 3 ≤ hup (cdp μ P A 0) (cdp μ P A 1) S ∧ μ67.1 32 12 = μ.1 32 12 ∧ μ67.1 32 10 = P) ∨ (μ67.1 52 7 = n ∧ μ67.1 33 3 ≤ S + 1 ∧ (μ67.1 32 13 = 1 ∨ μ67.1 32 13 = 3 ∨ μ67.1 32 13 = 4) ∧ μ67.1 32 10 = P) ∨ (n < 24 ∧ μ67.1 52 7 = n + 1 ∧ μ67.1 32 13 = 0 ∧ 0 ≤ μ67.1 53 n ∧ μ67.1 53 n ≤ 3 ∧ μ67.1 56 n ≤ S + 1000 ∧ -200000 ≤ μ67.1 57 n ∧ μ67.1 57 n + 1 ≤ hup (cdp μ P A 0) (cdp μ P A 1) S ∧ μ67.1 58 n = A ∧ μ67.1 59 n = μ.1 60 6 ∧ μ67.1 33 3 = max (μ67.1 56 n) 0) := by
      rw [hup_e]
      exact Or.inl ⟨by omega, by omega, by omega, by omega, by omega⟩
    have e_84 : μ67.1 70 2 = μ.1 70 2 := (F_68.1 70 (by decide) 2)
    have e_85 : μ67.1 70 2 = μ.1 70 2 := (F_68.1 70 (by decide) 2)
    have e_86 : μ67.1 70 8 = μ.1 70 8 := (F_68.1 70 (by decide) 8)
    have e_87 : μ67.1 70 8 = μ.1 70 8 := (F_68.1 70 (by decide) 8)
    have e_88 : μ67.1 45 1 = μ.1 45 1 := (F_68.1 45 (by decide) 1)
    have e_89 : μ67.1 70 2 = μ.1 70 2 := (F_68.1 70 (by decide) 2)
    have e_90 : μ67.1 70 1 = μ.1 70 1 := (F_68.1 70 (by decide) 1)
    have e_91 : μ67.1 70 3 = μ.1 70 3 := (F_68.1 70 (by decide) 3)
    have e_92 : μ67.1 70 6 = μ.1 70 6 := (F_68.1 70 (by decide) 6)
    have e_93 : μ67.1 32 11 = A := ((F_68.1 32 (by decide) 11).trans hA.symm)
    have e_94 : μ67.1 32 15 = μ.1 32 15 := (F_68.1 32 (by decide) 15)
    have e_95 : μ67.1 32 16 = μ.1 32 16 := (F_68.1 32 (by decide) 16)
    have e_96 : μ67.1 45 4 = μ.1 45 4 := (F_68.1 45 (by decide) 4)
    exact xr_v G hret hlk dX4_workOut_299 ⟨(Fr.tr Fr.rf F_68 (by decide)), hI_69, h0_e, (fun h9 => absurd h9 (by omega)), (by omega), (fun h9 => absurd h9 (by have h8 := hp_16; rw [c_35_2] at h8; omega)), (fun j hj => (F_68.1 53 (by decide) j)), (fun j hj => (F_68.1 54 (by decide) j)), (fun j hj => (F_68.1 55 (by decide) j)), (fun j hj => (F_68.1 56 (by decide) j)), (fun j hj => (F_68.1 57 (by decide) j)), (fun j hj => (F_68.1 58 (by decide) j)), (fun j hj => (F_68.1 59 (by decide) j)), (by omega), (by omega), (by omega), (by omega), (by omega), (by omega), (by omega)⟩
  by_cases c_35_3 : r_14 = 3
  · refine xb_tin (tgt := 146) hx hb (by unfold ir; omega) dX4_workOut_35 (by omega) (off := 111) (by rw [c_35_3]; rfl) (by decide) ?_
    refine lv_aload_n hx hb dX4_workOut_146 rfl (lv_at hl 2 rfl) ?_
    refine xa_getr G fd_X4 (a := 32) (x := 33) 3 rfl (by decide) rfl (wm 2 147 rfl rfl) ⟨rfl, rfl, rfl⟩ dX4_workOut_147 rfl (G.sk 36 rfl) (by decide) rfl ?_
    refine lv_iconst (v := iv 0) hx hb dX4_workOut_150 rfl ?_
    refine lv_lconst (v := jv 0) hx hb dX4_workOut_151 rfl ?_
    refine lv_dconst0 hx hb dX4_workOut_152 ?_
    refine xb_topd (fun dd_97 he_dd_97 => ?_)
    have e_98 : μ.1 33 3 = S := hS.symm
    refine xc_vV G (b := 33) (rest := []) (As := [.int (iv 0), .long (jv 0), .double (dv dd_97)]) (c_X9_push ω l μ 33 0 0 dd_97 S (by unfold isRow; decide) (by unfold ir; omega) (by unfold jr; omega) hI (by omega) (by omega)) (wm 5 74 rfl rfl) (wm 4 72 rfl rfl) (wm 4 73 rfl rfl) rfl rfl (by decide) rfl (wm 1 10 rfl rfl) (wm 4 74 rfl rfl) (by decide) hR (by decide) (n := 3) rfl rfl (Nat.le_of_ble_eq_true rfl) hl.1 dX4_workOut_153 (fun μ99 ρ d0 H locs hp G => ?_)
    obtain ⟨F_100, hI_101, hs_102⟩ := hp
    refine lv_goto (tgt := 299) hx hb dX4_workOut_156 (by decide) ?_
    have e_103 : μ99.1 33 3 = S + 1 := hs_102
    have e_104 : μ99.1 32 13 = μ.1 32 13 := (F_100.1 32 (by decide) 13)
    have e_105 : μ99.1 52 7 = n := ((F_100.1 52 (by decide) 7).trans hn.symm)
    have e_106 : μ99.1 32 12 = μ.1 32 12 := (F_100.1 32 (by decide) 12)
    have e_107 : μ99.1 60 6 = μ.1 60 6 := (F_100.1 60 (by decide) 6)
    have e_108 : μ99.1 32 10 = P := ((F_100.1 32 (by decide) 10).trans hP.symm)
    have e_109 : μ99.1 45 4 = μ.1 45 4 := (F_100.1 45 (by decide) 4)
    have e_110 : μ99.1 53 n = μ.1 53 n := (F_100.1 53 (by decide) n)
    have e_111 : μ99.1 56 n = μ.1 56 n := (F_100.1 56 (by decide) n)
    have e_112 : μ99.1 57 n = μ.1 57 n := (F_100.1 57 (by decide) n)
    have e_113 : μ99.1 58 n = μ.1 58 n := (F_100.1 58 (by decide) n)
    have e_114 : μ99.1 59 n = μ.1 59 n := (F_100.1 59 (by decide) n)
    have e_115 : ofF μ99 53 = ofF μ 53 := (ofF_fr F_100 (by decide) (by decide))
    have hup_e : hup (cdp μ P A 0) (cdp μ P A 1) S = S + 1 := by rw [← hp_16, c_35_3]; rfl
    have h0_e : (μ99.1 52 7 = n ∧ μ99.1 32 13 = 0 ∧ μ99.1 33 3 ≤ hup (cdp μ P A 0) (cdp μ P A 1) S ∧ μ99.1 32 12 = μ.1 32 12 ∧ μ99.1 32 10 = P) ∨ (μ99.1 52 7 = n ∧ μ99.1 33 3 ≤ S + 1 ∧ (μ99.1 32 13 = 1 ∨ μ99.1 32 13 = 3 ∨ μ99.1 32 13 = 4) ∧ μ99.1 32 10 = P) ∨ (n < 24 ∧ μ99.1 52 7 = n + 1 ∧ μ99.1 32 13 = 0 ∧ 0 ≤ μ99.1 53 n ∧ μ99.1 53 n ≤ 3 ∧ μ99.1 56 n ≤ S + 1000 ∧ -200000 ≤ μ99.1 57 n ∧ μ99.1 57 n + 1 ≤ hup (cdp μ P A 0) (cdp μ P A 1) S ∧ μ99.1 58 n = A ∧ μ99.1 59 n = μ.1 60 6 ∧ μ99.1 33 3 = max (μ99.1 56 n) 0) := by
      rw [hup_e]
      exact Or.inl ⟨by omega, by omega, by omega, by omega, by omega⟩
    have e_116 : μ99.1 70 2 = μ.1 70 2 := (F_100.1 70 (by decide) 2)
    have e_117 : μ99.1 70 2 = μ.1 70 2 := (F_100.1 70 (by decide) 2)
    have e_118 : μ99.1 70 8 = μ.1 70 8 := (F_100.1 70 (by decide) 8)
    have e_119 : μ99.1 70 8 = μ.1 70 8 := (F_100.1 70 (by decide) 8)
    have e_120 : μ99.1 45 1 = μ.1 45 1 := (F_100.1 45 (by decide) 1)
    have e_121 : μ99.1 70 2 = μ.1 70 2 := (F_100.1 70 (by decide) 2)
    have e_122 : μ99.1 70 1 = μ.1 70 1 := (F_100.1 70 (by decide) 1)
    have e_123 : μ99.1 70 3 = μ.1 70 3 := (F_100.1 70 (by decide) 3)
    have e_124 : μ99.1 70 6 = μ.1 70 6 := (F_100.1 70 (by decide) 6)
    have e_125 : μ99.1 32 11 = A := ((F_100.1 32 (by decide) 11).trans hA.symm)
    have e_126 : μ99.1 32 15 = μ.1 32 15 := (F_100.1 32 (by decide) 15)
    have e_127 : μ99.1 32 16 = μ.1 32 16 := (F_100.1 32 (by decide) 16)
    have e_128 : μ99.1 45 4 = μ.1 45 4 := (F_100.1 45 (by decide) 4)
    exact xr_v G hret hlk dX4_workOut_299 ⟨(Fr.tr Fr.rf F_100 (by decide)), hI_101, h0_e, (fun h9 => absurd h9 (by omega)), (by omega), (fun h9 => absurd h9 (by have h8 := hp_16; rw [c_35_3] at h8; omega)), (fun j hj => (F_100.1 53 (by decide) j)), (fun j hj => (F_100.1 54 (by decide) j)), (fun j hj => (F_100.1 55 (by decide) j)), (fun j hj => (F_100.1 56 (by decide) j)), (fun j hj => (F_100.1 57 (by decide) j)), (fun j hj => (F_100.1 58 (by decide) j)), (fun j hj => (F_100.1 59 (by decide) j)), (by omega), (by omega), (by omega), (by omega), (by omega), (by omega), (by omega)⟩
  by_cases c_35_4 : r_14 = 4
  · refine xb_tin (tgt := 159) hx hb (by unfold ir; omega) dX4_workOut_35 (by omega) (off := 124) (by rw [c_35_4]; rfl) (by decide) ?_
    refine lv_aload_n hx hb dX4_workOut_159 rfl (lv_at hl 2 rfl) ?_
    refine xa_getr G fd_X4 (a := 32) (x := 33) 3 rfl (by decide) rfl (wm 2 147 rfl rfl) ⟨rfl, rfl, rfl⟩ dX4_workOut_160 rfl (G.sk 36 rfl) (by decide) rfl ?_
    refine lv_aload_n hx hb dX4_workOut_163 rfl (lv_at hl 2 rfl) ?_
    refine xa_getr G fd_X4 (a := 32) (x := 33) 3 rfl (by decide) rfl (wm 2 147 rfl rfl) ⟨rfl, rfl, rfl⟩ dX4_workOut_164 rfl (G.sk 36 rfl) (by decide) rfl ?_
    refine lv_aload_n hx hb dX4_workOut_167 rfl (lv_at hl 2 rfl) ?_
    refine xa_getr G fd_X4 (a := 32) (x := 52) 7 rfl (by decide) rfl (wm 2 151 rfl rfl) ⟨rfl, rfl, rfl⟩ dX4_workOut_168 rfl (G.sk 40 rfl) (by decide) rfl ?_
    refine xc_iV G (b := 52) (rest := [.ref (oP ω 33), .ref (oP ω 33)]) (As := []) (c_X2_base ω l μ  hI) (wm 6 126 rfl rfl) (wm 6 127 rfl rfl) (wm 6 128 rfl rfl) rfl rfl (by decide) rfl (wm 1 16 rfl rfl) (wm 6 129 rfl rfl) (by decide) hR (by decide) (n := 0) rfl rfl (Nat.le_of_ble_eq_true rfl) hl.1 dX4_workOut_171 (fun r_130 μ129 ρ d0 H locs hr_r_130 hp G => ?_)
    have hr_r_130 : -2147483648 ≤ r_130 ∧ r_130 ≤ 2147483647 := hr_r_130
    obtain ⟨hsm_131, hp_132⟩ := hp
    have hsm_131 := Eq.symm hsm_131
    subst hsm_131
    refine lv_iload_n hx hb dX4_workOut_174 rfl (lv_at hl 1 rfl) ?_
    refine xb_iadd hx hb dX4_workOut_175 ?_
    refine xb_topi (fun y_133 hr_y_133 he_y_133 => ?_)
    have hr_y_133 : -2147483648 ≤ y_133 ∧ y_133 ≤ 2147483647 := hr_y_133
    have e_134 : μ.1 33 3 = S := hS.symm
    refine xc_vV G (b := 33) (rest := []) (As := [.ref (oP ω 33), .int (iv y_133)]) (c_X9_pushCopy ω l μ 33 33 y_133 S (by unfold isRow; decide) (by unfold isRow; decide) (by unfold ir; omega) hI (by omega) (by omega)) (wm 5 200 rfl rfl) (wm 5 201 rfl rfl) (wm 5 202 rfl rfl) rfl rfl (by decide) rfl (wm 1 10 rfl rfl) (wm 5 203 rfl rfl) (by decide) hR (by decide) (n := 2) rfl rfl (Nat.le_of_ble_eq_true rfl) hl.1 dX4_workOut_176 (fun μ135 ρ d0 H locs hp G => ?_)
    obtain ⟨F_136, hI_137, hs_138⟩ := hp
    refine lv_goto (tgt := 299) hx hb dX4_workOut_179 (by decide) ?_
    have e_139 : μ135.1 33 3 = S + 1 := hs_138
    have e_140 : μ135.1 32 13 = μ.1 32 13 := (F_136.1 32 (by decide) 13)
    have e_141 : μ135.1 52 7 = n := ((F_136.1 52 (by decide) 7).trans hn.symm)
    have e_142 : μ135.1 32 12 = μ.1 32 12 := (F_136.1 32 (by decide) 12)
    have e_143 : μ135.1 60 6 = μ.1 60 6 := (F_136.1 60 (by decide) 6)
    have e_144 : μ135.1 32 10 = P := ((F_136.1 32 (by decide) 10).trans hP.symm)
    have e_145 : μ135.1 45 4 = μ.1 45 4 := (F_136.1 45 (by decide) 4)
    have e_146 : μ135.1 53 n = μ.1 53 n := (F_136.1 53 (by decide) n)
    have e_147 : μ135.1 56 n = μ.1 56 n := (F_136.1 56 (by decide) n)
    have e_148 : μ135.1 57 n = μ.1 57 n := (F_136.1 57 (by decide) n)
    have e_149 : μ135.1 58 n = μ.1 58 n := (F_136.1 58 (by decide) n)
    have e_150 : μ135.1 59 n = μ.1 59 n := (F_136.1 59 (by decide) n)
    have e_151 : ofF μ135 53 = ofF μ 53 := (ofF_fr F_136 (by decide) (by decide))
    have hup_e : hup (cdp μ P A 0) (cdp μ P A 1) S = S + 1 := by rw [← hp_16, c_35_4]; rfl
    have h0_e : (μ135.1 52 7 = n ∧ μ135.1 32 13 = 0 ∧ μ135.1 33 3 ≤ hup (cdp μ P A 0) (cdp μ P A 1) S ∧ μ135.1 32 12 = μ.1 32 12 ∧ μ135.1 32 10 = P) ∨ (μ135.1 52 7 = n ∧ μ135.1 33 3 ≤ S + 1 ∧ (μ135.1 32 13 = 1 ∨ μ135.1 32 13 = 3 ∨ μ135.1 32 13 = 4) ∧ μ135.1 32 10 = P) ∨ (n < 24 ∧ μ135.1 52 7 = n + 1 ∧ μ135.1 32 13 = 0 ∧ 0 ≤ μ135.1 53 n ∧ μ135.1 53 n ≤ 3 ∧ μ135.1 56 n ≤ S + 1000 ∧ -200000 ≤ μ135.1 57 n ∧ μ135.1 57 n + 1 ≤ hup (cdp μ P A 0) (cdp μ P A 1) S ∧ μ135.1 58 n = A ∧ μ135.1 59 n = μ.1 60 6 ∧ μ135.1 33 3 = max (μ135.1 56 n) 0) := by
      rw [hup_e]
      exact Or.inl ⟨by omega, by omega, by omega, by omega, by omega⟩
    have e_152 : μ135.1 70 2 = μ.1 70 2 := (F_136.1 70 (by decide) 2)
    have e_153 : μ135.1 70 2 = μ.1 70 2 := (F_136.1 70 (by decide) 2)
    have e_154 : μ135.1 70 8 = μ.1 70 8 := (F_136.1 70 (by decide) 8)
    have e_155 : μ135.1 70 8 = μ.1 70 8 := (F_136.1 70 (by decide) 8)
    have e_156 : μ135.1 45 1 = μ.1 45 1 := (F_136.1 45 (by decide) 1)
    have e_157 : μ135.1 70 2 = μ.1 70 2 := (F_136.1 70 (by decide) 2)
    have e_158 : μ135.1 70 1 = μ.1 70 1 := (F_136.1 70 (by decide) 1)
    have e_159 : μ135.1 70 3 = μ.1 70 3 := (F_136.1 70 (by decide) 3)
    have e_160 : μ135.1 70 6 = μ.1 70 6 := (F_136.1 70 (by decide) 6)
    have e_161 : μ135.1 32 11 = A := ((F_136.1 32 (by decide) 11).trans hA.symm)
    have e_162 : μ135.1 32 15 = μ.1 32 15 := (F_136.1 32 (by decide) 15)
    have e_163 : μ135.1 32 16 = μ.1 32 16 := (F_136.1 32 (by decide) 16)
    have e_164 : μ135.1 45 4 = μ.1 45 4 := (F_136.1 45 (by decide) 4)
    exact xr_v G hret hlk dX4_workOut_299 ⟨(Fr.tr Fr.rf F_136 (by decide)), hI_137, h0_e, (fun h9 => absurd h9 (by omega)), (by omega), (fun h9 => absurd h9 (by have h8 := hp_16; rw [c_35_4] at h8; omega)), (fun j hj => (F_136.1 53 (by decide) j)), (fun j hj => (F_136.1 54 (by decide) j)), (fun j hj => (F_136.1 55 (by decide) j)), (fun j hj => (F_136.1 56 (by decide) j)), (fun j hj => (F_136.1 57 (by decide) j)), (fun j hj => (F_136.1 58 (by decide) j)), (fun j hj => (F_136.1 59 (by decide) j)), (by omega), (by omega), (by omega), (by omega), (by omega), (by omega), (by omega)⟩
  by_cases c_35_5 : r_14 = 5
  · refine xb_tin (tgt := 182) hx hb (by unfold ir; omega) dX4_workOut_35 (by omega) (off := 147) (by rw [c_35_5]; rfl) (by decide) ?_
    refine lv_aload_n hx hb dX4_workOut_182 rfl (lv_at hl 2 rfl) ?_
    refine lv_iload_n hx hb dX4_workOut_183 rfl (lv_at hl 1 rfl) ?_
    have e_165 : μ.1 33 3 = S := hS.symm
    refine xc_vV G (b := 32) (rest := []) (As := [.int (iv r_6)]) (c_X4_store ω l μ r_6 S (by unfold ir; omega) hI (by omega)) (wm 6 130 rfl rfl) (wm 6 132 rfl rfl) (wm 0 86 rfl rfl) rfl rfl (by decide) rfl (wm 1 14 rfl rfl) (wm 6 133 rfl rfl) (by decide) hR (by decide) (n := 1) rfl rfl (Nat.le_of_ble_eq_true rfl) hl.1 dX4_workOut_184 (fun μ166 ρ d0 H locs hp G => ?_)
    obtain ⟨F_167, hI_168, hs_169⟩ := hp
    refine lv_goto (tgt := 299) hx hb dX4_workOut_187 (by decide) ?_
    have e_170 : μ166.1 33 3 = max (S - 1) 0 := hs_169
    have e_171 : μ166.1 32 13 = μ.1 32 13 := (F_167.1 32 (by decide) 13)
    have e_172 : μ166.1 52 7 = n := ((F_167.1 52 (by decide) 7).trans hn.symm)
    have e_173 : μ166.1 32 12 = μ.1 32 12 := (F_167.1 32 (by decide) 12)
    have e_174 : μ166.1 60 6 = μ.1 60 6 := (F_167.1 60 (by decide) 6)
    have e_175 : μ166.1 32 10 = P := ((F_167.1 32 (by decide) 10).trans hP.symm)
    have e_176 : μ166.1 45 4 = μ.1 45 4 := (F_167.1 45 (by decide) 4)
    have e_177 : μ166.1 53 n = μ.1 53 n := (F_167.1 53 (by decide) n)
    have e_178 : μ166.1 56 n = μ.1 56 n := (F_167.1 56 (by decide) n)
    have e_179 : μ166.1 57 n = μ.1 57 n := (F_167.1 57 (by decide) n)
    have e_180 : μ166.1 58 n = μ.1 58 n := (F_167.1 58 (by decide) n)
    have e_181 : μ166.1 59 n = μ.1 59 n := (F_167.1 59 (by decide) n)
    have e_182 : ofF μ166 53 = ofF μ 53 := (ofF_fr F_167 (by decide) (by decide))
    have hup_e : hup (cdp μ P A 0) (cdp μ P A 1) S = max (S - 1) 0 := by rw [← hp_16, c_35_5]; rfl
    have h0_e : (μ166.1 52 7 = n ∧ μ166.1 32 13 = 0 ∧ μ166.1 33 3 ≤ hup (cdp μ P A 0) (cdp μ P A 1) S ∧ μ166.1 32 12 = μ.1 32 12 ∧ μ166.1 32 10 = P) ∨ (μ166.1 52 7 = n ∧ μ166.1 33 3 ≤ S + 1 ∧ (μ166.1 32 13 = 1 ∨ μ166.1 32 13 = 3 ∨ μ166.1 32 13 = 4) ∧ μ166.1 32 10 = P) ∨ (n < 24 ∧ μ166.1 52 7 = n + 1 ∧ μ166.1 32 13 = 0 ∧ 0 ≤ μ166.1 53 n ∧ μ166.1 53 n ≤ 3 ∧ μ166.1 56 n ≤ S + 1000 ∧ -200000 ≤ μ166.1 57 n ∧ μ166.1 57 n + 1 ≤ hup (cdp μ P A 0) (cdp μ P A 1) S ∧ μ166.1 58 n = A ∧ μ166.1 59 n = μ.1 60 6 ∧ μ166.1 33 3 = max (μ166.1 56 n) 0) := by
      rw [hup_e]
      exact Or.inl ⟨by omega, by omega, by omega, by omega, by omega⟩
    have e_183 : μ166.1 70 2 = μ.1 70 2 := (F_167.1 70 (by decide) 2)
    have e_184 : μ166.1 70 2 = μ.1 70 2 := (F_167.1 70 (by decide) 2)
    have e_185 : μ166.1 70 8 = μ.1 70 8 := (F_167.1 70 (by decide) 8)
    have e_186 : μ166.1 70 8 = μ.1 70 8 := (F_167.1 70 (by decide) 8)
    have e_187 : μ166.1 45 1 = μ.1 45 1 := (F_167.1 45 (by decide) 1)
    have e_188 : μ166.1 70 2 = μ.1 70 2 := (F_167.1 70 (by decide) 2)
    have e_189 : μ166.1 70 1 = μ.1 70 1 := (F_167.1 70 (by decide) 1)
    have e_190 : μ166.1 70 3 = μ.1 70 3 := (F_167.1 70 (by decide) 3)
    have e_191 : μ166.1 70 6 = μ.1 70 6 := (F_167.1 70 (by decide) 6)
    have e_192 : μ166.1 32 11 = A := ((F_167.1 32 (by decide) 11).trans hA.symm)
    have e_193 : μ166.1 32 15 = μ.1 32 15 := (F_167.1 32 (by decide) 15)
    have e_194 : μ166.1 32 16 = μ.1 32 16 := (F_167.1 32 (by decide) 16)
    have e_195 : μ166.1 45 4 = μ.1 45 4 := (F_167.1 45 (by decide) 4)
    exact xr_v G hret hlk dX4_workOut_299 ⟨(Fr.tr Fr.rf F_167 (by decide)), hI_168, h0_e, (fun h9 => absurd h9 (by omega)), (by omega), (fun h9 => absurd h9 (by have h8 := hp_16; rw [c_35_5] at h8; omega)), (fun j hj => (F_167.1 53 (by decide) j)), (fun j hj => (F_167.1 54 (by decide) j)), (fun j hj => (F_167.1 55 (by decide) j)), (fun j hj => (F_167.1 56 (by decide) j)), (fun j hj => (F_167.1 57 (by decide) j)), (fun j hj => (F_167.1 58 (by decide) j)), (fun j hj => (F_167.1 59 (by decide) j)), (by omega), (by omega), (by omega), (by omega), (by omega), (by omega), (by omega)⟩
  by_cases c_35_6 : r_14 = 6
  · refine xb_tin (tgt := 190) hx hb (by unfold ir; omega) dX4_workOut_35 (by omega) (off := 155) (by rw [c_35_6]; rfl) (by decide) ?_
    refine lv_aload_n hx hb dX4_workOut_190 rfl (lv_at hl 2 rfl) ?_
    have e_196 : μ.1 33 3 = S := hS.symm
    refine xc_vV G (b := 32) (rest := []) (As := []) (c_X4_dropValue ω l μ S hI (by omega)) (wm 6 134 rfl rfl) (wm 6 136 rfl rfl) (wm 0 87 rfl rfl) rfl rfl (by decide) rfl (wm 1 14 rfl rfl) (wm 6 137 rfl rfl) (by decide) hR (by decide) (n := 0) rfl rfl (Nat.le_of_ble_eq_true rfl) hl.1 dX4_workOut_191 (fun μ197 ρ d0 H locs hp G => ?_)
    obtain ⟨F_198, hI_199, hs_200, hs_201, hs_202, hs_203, hs_204, hs_205, hs_206, hs_207, hs_208, hs_209⟩ := hp
    refine lv_goto (tgt := 299) hx hb dX4_workOut_194 (by decide) ?_
    have e_210 : μ197.1 33 3 = max (S - 1) 0 := hs_200
    have e_211 : μ197.1 32 13 = μ.1 32 13 := (F_198.1 32 (by decide) 13)
    have e_212 : μ197.1 52 7 = n := ((F_198.1 52 (by decide) 7).trans hn.symm)
    have e_213 : μ197.1 32 12 = μ.1 32 12 := (F_198.1 32 (by decide) 12)
    have e_214 : μ197.1 60 6 = μ.1 60 6 := (F_198.1 60 (by decide) 6)
    have e_215 : μ197.1 32 10 = P := ((F_198.1 32 (by decide) 10).trans hP.symm)
    have e_216 : μ197.1 45 4 = μ.1 45 4 := (F_198.1 45 (by decide) 4)
    have e_217 : μ197.1 53 n = μ.1 53 n := (F_198.1 53 (by decide) n)
    have e_218 : μ197.1 56 n = μ.1 56 n := (F_198.1 56 (by decide) n)
    have e_219 : μ197.1 57 n = μ.1 57 n := (F_198.1 57 (by decide) n)
    have e_220 : μ197.1 58 n = μ.1 58 n := (F_198.1 58 (by decide) n)
    have e_221 : μ197.1 59 n = μ.1 59 n := (F_198.1 59 (by decide) n)
    have e_222 : ofF μ197 53 = ofF μ 53 := (ofF_fr F_198 (by decide) (by decide))
    have hup_e : hup (cdp μ P A 0) (cdp μ P A 1) S = max (S - 1) 0 := by rw [← hp_16, c_35_6]; rfl
    have h0_e : (μ197.1 52 7 = n ∧ μ197.1 32 13 = 0 ∧ μ197.1 33 3 ≤ hup (cdp μ P A 0) (cdp μ P A 1) S ∧ μ197.1 32 12 = μ.1 32 12 ∧ μ197.1 32 10 = P) ∨ (μ197.1 52 7 = n ∧ μ197.1 33 3 ≤ S + 1 ∧ (μ197.1 32 13 = 1 ∨ μ197.1 32 13 = 3 ∨ μ197.1 32 13 = 4) ∧ μ197.1 32 10 = P) ∨ (n < 24 ∧ μ197.1 52 7 = n + 1 ∧ μ197.1 32 13 = 0 ∧ 0 ≤ μ197.1 53 n ∧ μ197.1 53 n ≤ 3 ∧ μ197.1 56 n ≤ S + 1000 ∧ -200000 ≤ μ197.1 57 n ∧ μ197.1 57 n + 1 ≤ hup (cdp μ P A 0) (cdp μ P A 1) S ∧ μ197.1 58 n = A ∧ μ197.1 59 n = μ.1 60 6 ∧ μ197.1 33 3 = max (μ197.1 56 n) 0) := by
      rw [hup_e]
      exact Or.inl ⟨by omega, by omega, by omega, by omega, by omega⟩
    have e_223 : μ197.1 70 2 = μ.1 70 2 := hs_203
    have e_224 : μ197.1 70 2 = μ.1 70 2 := hs_203
    have e_225 : μ197.1 70 8 = μ.1 70 8 := hs_208
    have e_226 : μ197.1 70 8 = μ.1 70 8 := hs_208
    have e_227 : μ197.1 45 1 = μ.1 45 1 := (F_198.1 45 (by decide) 1)
    have e_228 : μ197.1 70 2 = μ.1 70 2 := hs_203
    have e_229 : μ197.1 70 1 = μ.1 70 1 := hs_202
    have e_230 : μ197.1 70 3 = μ.1 70 3 := hs_204
    have e_231 : μ197.1 70 6 = μ.1 70 6 := hs_206
    have e_232 : μ197.1 32 11 = A := ((F_198.1 32 (by decide) 11).trans hA.symm)
    have e_233 : μ197.1 32 15 = μ.1 32 15 := (F_198.1 32 (by decide) 15)
    have e_234 : μ197.1 32 16 = μ.1 32 16 := (F_198.1 32 (by decide) 16)
    have e_235 : μ197.1 45 4 = μ.1 45 4 := (F_198.1 45 (by decide) 4)
    exact xr_v G hret hlk dX4_workOut_299 ⟨(Fr.tr Fr.rf F_198 (by decide)), hI_199, h0_e, (fun h9 => absurd h9 (by omega)), (by omega), (fun h9 => absurd h9 (by have h8 := hp_16; rw [c_35_6] at h8; omega)), (fun j hj => (F_198.1 53 (by decide) j)), (fun j hj => (F_198.1 54 (by decide) j)), (fun j hj => (F_198.1 55 (by decide) j)), (fun j hj => (F_198.1 56 (by decide) j)), (fun j hj => (F_198.1 57 (by decide) j)), (fun j hj => (F_198.1 58 (by decide) j)), (fun j hj => (F_198.1 59 (by decide) j)), (by omega), (by omega), (by omega), (by omega), (by omega), (by omega), (by omega)⟩
  by_cases c_35_7 : r_14 = 7
  · refine xb_tin (tgt := 197) hx hb (by unfold ir; omega) dX4_workOut_35 (by omega) (off := 162) (by rw [c_35_7]; rfl) (by decide) ?_
    refine lv_aload_n hx hb dX4_workOut_197 rfl (lv_at hl 2 rfl) ?_
    refine lv_iload_n hx hb dX4_workOut_198 rfl (lv_at hl 1 rfl) ?_
    have e_236 : μ.1 33 3 = S := hS.symm
    have hn_237 : 0 ≤ μ.1 45 1 ∧ 9 * μ.1 45 1 ≤ μ.2.1 46 := hI.nm.2.2.2.2.2.2.1
    have e_238 : μ.1 32 10 = P := hP.symm
    have e_239 : μ.1 32 11 = A := hA.symm
    have hn_240 : 0 ≤ μ.1 45 4 ∧ 2 * μ.1 45 4 ≤ μ.2.1 51 := hI.nm.2.2.2.2.2.2.2.1
    refine xc_vV G (b := 32) (rest := []) (As := [.int (iv r_6)]) (c_X4_sign ω l μ r_6 S (by unfold ir; omega) hI (by omega) (by omega) (by omega) (by omega)) (wm 6 138 rfl rfl) (wm 6 140 rfl rfl) (wm 0 88 rfl rfl) rfl rfl (by decide) rfl (wm 1 14 rfl rfl) (wm 6 141 rfl rfl) (by decide) hR (by decide) (n := 1) rfl rfl (Nat.le_of_ble_eq_true rfl) hl.1 dX4_workOut_199 (fun μ241 ρ d0 H locs hp G => ?_)
    obtain ⟨F_242, hI_243, hp_244, hp_245, hs_246, hs_247, hs_248, hs_249, hs_250, hs_251, hs_252, hs_253, hs_254, hs_255, hs_256, hs_257⟩ := hp
    have hk_258 := hI_243.row (r := 33) (by unfold isRow; decide)
    unfold rk at hk_258
    simp only [Int.reduceAdd] at hk_258
    have hn_259 : 0 ≤ μ241.1 45 1 ∧ 9 * μ241.1 45 1 ≤ μ241.2.1 46 := hI_243.nm.2.2.2.2.2.2.1
    refine lv_goto (tgt := 299) hx hb dX4_workOut_202 (by decide) ?_
    have e_260 : μ241.1 52 7 = n := ((F_242.1 52 (by decide) 7).trans hn.symm)
    have e_261 : μ241.1 32 12 = μ.1 32 12 := hs_254
    have e_262 : μ241.1 60 6 = μ.1 60 6 := (F_242.1 60 (by decide) 6)
    have e_263 : μ241.1 32 10 = P := (hs_252.trans hP.symm)
    have e_264 : μ241.1 45 4 = μ.1 45 4 := hs_257
    have e_265 : μ241.1 53 n = μ.1 53 n := (F_242.1 53 (by decide) n)
    have e_266 : μ241.1 56 n = μ.1 56 n := (F_242.1 56 (by decide) n)
    have e_267 : μ241.1 57 n = μ.1 57 n := (F_242.1 57 (by decide) n)
    have e_268 : μ241.1 58 n = μ.1 58 n := (F_242.1 58 (by decide) n)
    have e_269 : μ241.1 59 n = μ.1 59 n := (F_242.1 59 (by decide) n)
    have e_270 : ofF μ241 53 = ofF μ 53 := (ofF_fr F_242 (by decide) (by decide))
    have hup_e : hup (cdp μ P A 0) (cdp μ P A 1) S = max (S - 1) 1 := by rw [← hp_16, c_35_7]; rfl
    have h0_e : (μ241.1 52 7 = n ∧ μ241.1 32 13 = 0 ∧ μ241.1 33 3 ≤ hup (cdp μ P A 0) (cdp μ P A 1) S ∧ μ241.1 32 12 = μ.1 32 12 ∧ μ241.1 32 10 = P) ∨ (μ241.1 52 7 = n ∧ μ241.1 33 3 ≤ S + 1 ∧ (μ241.1 32 13 = 1 ∨ μ241.1 32 13 = 3 ∨ μ241.1 32 13 = 4) ∧ μ241.1 32 10 = P) ∨ (n < 24 ∧ μ241.1 52 7 = n + 1 ∧ μ241.1 32 13 = 0 ∧ 0 ≤ μ241.1 53 n ∧ μ241.1 53 n ≤ 3 ∧ μ241.1 56 n ≤ S + 1000 ∧ -200000 ≤ μ241.1 57 n ∧ μ241.1 57 n + 1 ≤ hup (cdp μ P A 0) (cdp μ P A 1) S ∧ μ241.1 58 n = A ∧ μ241.1 59 n = μ.1 60 6 ∧ μ241.1 33 3 = max (μ241.1 56 n) 0) := by
      rw [hup_e]
      rcases hp_244 with ⟨q1, q2⟩ | ⟨q1, q2⟩
      · exact Or.inl ⟨by omega, by omega, by omega, by omega, by omega⟩
      · exact Or.inr (Or.inl ⟨by omega, by omega, by omega, by omega⟩)
    have e_271 : μ241.1 70 1 = μ.1 70 1 := hs_246
    have e_272 : μ241.1 70 3 = μ.1 70 3 := hs_247
    have e_273 : μ241.1 70 6 = μ.1 70 6 := hs_250
    have e_274 : μ241.1 32 11 = A := (hs_253.trans hA.symm)
    have e_275 : μ241.1 32 15 = μ.1 32 15 := hs_255
    have e_276 : μ241.1 32 16 = μ.1 32 16 := hs_256
    have e_277 : μ241.1 45 4 = μ.1 45 4 := hs_257
    exact xr_v G hret hlk dX4_workOut_299 ⟨(Fr.tr Fr.rf F_242 (by decide)), hI_243, h0_e, (fun h9 => absurd h9 (by omega)), (by omega), (fun h9 => absurd h9 (by have h8 := hp_16; rw [c_35_7] at h8; omega)), (fun j hj => (F_242.1 53 (by decide) j)), (fun j hj => (F_242.1 54 (by decide) j)), (fun j hj => (F_242.1 55 (by decide) j)), (fun j hj => (F_242.1 56 (by decide) j)), (fun j hj => (F_242.1 57 (by decide) j)), (fun j hj => (F_242.1 58 (by decide) j)), (fun j hj => (F_242.1 59 (by decide) j)), (by omega), (by omega), (by omega), (by omega), (by omega), (by omega), (by omega)⟩
  by_cases c_35_8 : r_14 = 8
  · refine xb_tin (tgt := 205) hx hb (by unfold ir; omega) dX4_workOut_35 (by omega) (off := 170) (by rw [c_35_8]; rfl) (by decide) ?_
    refine lv_aload_n hx hb dX4_workOut_205 rfl (lv_at hl 2 rfl) ?_
    have e_278 : μ.1 33 3 = S := hS.symm
    have hn_279 : 0 ≤ μ.1 45 1 ∧ 9 * μ.1 45 1 ≤ μ.2.1 46 := hI.nm.2.2.2.2.2.2.1
    have e_280 : μ.1 32 10 = P := hP.symm
    have e_281 : μ.1 32 11 = A := hA.symm
    have hn_282 : 0 ≤ μ.1 45 4 ∧ 2 * μ.1 45 4 ≤ μ.2.1 51 := hI.nm.2.2.2.2.2.2.2.1
    refine xc_vV G (b := 32) (rest := []) (As := []) (c_X4_negate ω l μ S hI (by omega) (by omega) (by omega) (by omega)) (wm 6 192 rfl rfl) (wm 6 194 rfl rfl) (wm 0 94 rfl rfl) rfl rfl (by decide) rfl (wm 1 14 rfl rfl) (wm 6 195 rfl rfl) (by decide) hR (by decide) (n := 0) rfl rfl (Nat.le_of_ble_eq_true rfl) hl.1 dX4_workOut_206 (fun μ283 ρ d0 H locs hp G => ?_)
    obtain ⟨F_284, hI_285, hp_286, hp_287, hs_288, hs_289, hs_290, hs_291, hs_292, hs_293, hs_294, hs_295, hs_296, hs_297, hs_298, hs_299⟩ := hp
    have hk_300 := hI_285.row (r := 33) (by unfold isRow; decide)
    unfold rk at hk_300
    simp only [Int.reduceAdd] at hk_300
    have hn_301 : 0 ≤ μ283.1 45 1 ∧ 9 * μ283.1 45 1 ≤ μ283.2.1 46 := hI_285.nm.2.2.2.2.2.2.1
    refine lv_goto (tgt := 299) hx hb dX4_workOut_209 (by decide) ?_
    have e_302 : μ283.1 52 7 = n := ((F_284.1 52 (by decide) 7).trans hn.symm)
    have e_303 : μ283.1 32 12 = μ.1 32 12 := hs_296
    have e_304 : μ283.1 60 6 = μ.1 60 6 := (F_284.1 60 (by decide) 6)
    have e_305 : μ283.1 32 10 = P := (hs_294.trans hP.symm)
    have e_306 : μ283.1 45 4 = μ.1 45 4 := hs_299
    have e_307 : μ283.1 53 n = μ.1 53 n := (F_284.1 53 (by decide) n)
    have e_308 : μ283.1 56 n = μ.1 56 n := (F_284.1 56 (by decide) n)
    have e_309 : μ283.1 57 n = μ.1 57 n := (F_284.1 57 (by decide) n)
    have e_310 : μ283.1 58 n = μ.1 58 n := (F_284.1 58 (by decide) n)
    have e_311 : μ283.1 59 n = μ.1 59 n := (F_284.1 59 (by decide) n)
    have e_312 : ofF μ283 53 = ofF μ 53 := (ofF_fr F_284 (by decide) (by decide))
    have hup_e : hup (cdp μ P A 0) (cdp μ P A 1) S = max S 1 := by rw [← hp_16, c_35_8]; rfl
    have h0_e : (μ283.1 52 7 = n ∧ μ283.1 32 13 = 0 ∧ μ283.1 33 3 ≤ hup (cdp μ P A 0) (cdp μ P A 1) S ∧ μ283.1 32 12 = μ.1 32 12 ∧ μ283.1 32 10 = P) ∨ (μ283.1 52 7 = n ∧ μ283.1 33 3 ≤ S + 1 ∧ (μ283.1 32 13 = 1 ∨ μ283.1 32 13 = 3 ∨ μ283.1 32 13 = 4) ∧ μ283.1 32 10 = P) ∨ (n < 24 ∧ μ283.1 52 7 = n + 1 ∧ μ283.1 32 13 = 0 ∧ 0 ≤ μ283.1 53 n ∧ μ283.1 53 n ≤ 3 ∧ μ283.1 56 n ≤ S + 1000 ∧ -200000 ≤ μ283.1 57 n ∧ μ283.1 57 n + 1 ≤ hup (cdp μ P A 0) (cdp μ P A 1) S ∧ μ283.1 58 n = A ∧ μ283.1 59 n = μ.1 60 6 ∧ μ283.1 33 3 = max (μ283.1 56 n) 0) := by
      rw [hup_e]
      rcases hp_286 with ⟨q1, q2⟩ | ⟨q1, q2⟩
      · exact Or.inl ⟨by omega, by omega, by omega, by omega, by omega⟩
      · exact Or.inr (Or.inl ⟨by omega, by omega, by omega, by omega⟩)
    have e_313 : μ283.1 70 1 = μ.1 70 1 := hs_288
    have e_314 : μ283.1 70 3 = μ.1 70 3 := hs_289
    have e_315 : μ283.1 70 6 = μ.1 70 6 := hs_292
    have e_316 : μ283.1 32 11 = A := (hs_295.trans hA.symm)
    have e_317 : μ283.1 32 15 = μ.1 32 15 := hs_297
    have e_318 : μ283.1 32 16 = μ.1 32 16 := hs_298
    have e_319 : μ283.1 45 4 = μ.1 45 4 := hs_299
    exact xr_v G hret hlk dX4_workOut_299 ⟨(Fr.tr Fr.rf F_284 (by decide)), hI_285, h0_e, (fun h9 => absurd h9 (by omega)), (by omega), (fun h9 => absurd h9 (by have h8 := hp_16; rw [c_35_8] at h8; omega)), (fun j hj => (F_284.1 53 (by decide) j)), (fun j hj => (F_284.1 54 (by decide) j)), (fun j hj => (F_284.1 55 (by decide) j)), (fun j hj => (F_284.1 56 (by decide) j)), (fun j hj => (F_284.1 57 (by decide) j)), (fun j hj => (F_284.1 58 (by decide) j)), (fun j hj => (F_284.1 59 (by decide) j)), (by omega), (by omega), (by omega), (by omega), (by omega), (by omega), (by omega)⟩
  by_cases c_35_9 : r_14 = 9
  · refine xb_tin (tgt := 212) hx hb (by unfold ir; omega) dX4_workOut_35 (by omega) (off := 177) (by rw [c_35_9]; rfl) (by decide) ?_
    refine lv_aload_n hx hb dX4_workOut_212 rfl (lv_at hl 2 rfl) ?_
    have e_320 : μ.1 33 3 = S := hS.symm
    have hn_321 : 0 ≤ μ.1 45 1 ∧ 9 * μ.1 45 1 ≤ μ.2.1 46 := hI.nm.2.2.2.2.2.2.1
    have e_322 : μ.1 32 10 = P := hP.symm
    have e_323 : μ.1 32 11 = A := hA.symm
    have hn_324 : 0 ≤ μ.1 45 4 ∧ 2 * μ.1 45 4 ≤ μ.2.1 51 := hI.nm.2.2.2.2.2.2.2.1
    refine xc_vV G (b := 32) (rest := []) (As := []) (c_X4_newArray ω l μ S hI (by omega) (by omega) (by omega) (by omega)) (wm 6 196 rfl rfl) (wm 6 198 rfl rfl) (wm 0 95 rfl rfl) rfl rfl (by decide) rfl (wm 1 14 rfl rfl) (wm 6 199 rfl rfl) (by decide) hR (by decide) (n := 0) rfl rfl (Nat.le_of_ble_eq_true rfl) hl.1 dX4_workOut_213 (fun μ325 ρ d0 H locs hp G => ?_)
    obtain ⟨F_326, hI_327, hp_328, hp_329, hs_330, hs_331, hs_332, hs_333, hs_334, hs_335, hs_336, hs_337, hs_338, hs_339, hs_340, hs_341⟩ := hp
    have hk_342 := hI_327.row (r := 33) (by unfold isRow; decide)
    unfold rk at hk_342
    simp only [Int.reduceAdd] at hk_342
    have hn_343 : 0 ≤ μ325.1 45 1 ∧ 9 * μ325.1 45 1 ≤ μ325.2.1 46 := hI_327.nm.2.2.2.2.2.2.1
    refine lv_goto (tgt := 299) hx hb dX4_workOut_216 (by decide) ?_
    have e_344 : μ325.1 52 7 = n := ((F_326.1 52 (by decide) 7).trans hn.symm)
    have e_345 : μ325.1 32 12 = μ.1 32 12 := hs_338
    have e_346 : μ325.1 60 6 = μ.1 60 6 := (F_326.1 60 (by decide) 6)
    have e_347 : μ325.1 32 10 = P := (hs_336.trans hP.symm)
    have e_348 : μ325.1 45 4 = μ.1 45 4 := hs_341
    have e_349 : μ325.1 53 n = μ.1 53 n := (F_326.1 53 (by decide) n)
    have e_350 : μ325.1 56 n = μ.1 56 n := (F_326.1 56 (by decide) n)
    have e_351 : μ325.1 57 n = μ.1 57 n := (F_326.1 57 (by decide) n)
    have e_352 : μ325.1 58 n = μ.1 58 n := (F_326.1 58 (by decide) n)
    have e_353 : μ325.1 59 n = μ.1 59 n := (F_326.1 59 (by decide) n)
    have e_354 : ofF μ325 53 = ofF μ 53 := (ofF_fr F_326 (by decide) (by decide))
    have hup_e : hup (cdp μ P A 0) (cdp μ P A 1) S = max S 1 := by rw [← hp_16, c_35_9]; rfl
    have h0_e : (μ325.1 52 7 = n ∧ μ325.1 32 13 = 0 ∧ μ325.1 33 3 ≤ hup (cdp μ P A 0) (cdp μ P A 1) S ∧ μ325.1 32 12 = μ.1 32 12 ∧ μ325.1 32 10 = P) ∨ (μ325.1 52 7 = n ∧ μ325.1 33 3 ≤ S + 1 ∧ (μ325.1 32 13 = 1 ∨ μ325.1 32 13 = 3 ∨ μ325.1 32 13 = 4) ∧ μ325.1 32 10 = P) ∨ (n < 24 ∧ μ325.1 52 7 = n + 1 ∧ μ325.1 32 13 = 0 ∧ 0 ≤ μ325.1 53 n ∧ μ325.1 53 n ≤ 3 ∧ μ325.1 56 n ≤ S + 1000 ∧ -200000 ≤ μ325.1 57 n ∧ μ325.1 57 n + 1 ≤ hup (cdp μ P A 0) (cdp μ P A 1) S ∧ μ325.1 58 n = A ∧ μ325.1 59 n = μ.1 60 6 ∧ μ325.1 33 3 = max (μ325.1 56 n) 0) := by
      rw [hup_e]
      rcases hp_328 with ⟨q1, q2⟩ | ⟨q1, q2⟩
      · exact Or.inl ⟨by omega, by omega, by omega, by omega, by omega⟩
      · exact Or.inr (Or.inl ⟨by omega, by omega, by omega, by omega⟩)
    have e_355 : μ325.1 70 1 = μ.1 70 1 := hs_330
    have e_356 : μ325.1 70 3 = μ.1 70 3 := hs_331
    have e_357 : μ325.1 70 6 = μ.1 70 6 := hs_334
    have e_358 : μ325.1 32 11 = A := (hs_337.trans hA.symm)
    have e_359 : μ325.1 32 15 = μ.1 32 15 := hs_339
    have e_360 : μ325.1 32 16 = μ.1 32 16 := hs_340
    have e_361 : μ325.1 45 4 = μ.1 45 4 := hs_341
    exact xr_v G hret hlk dX4_workOut_299 ⟨(Fr.tr Fr.rf F_326 (by decide)), hI_327, h0_e, (fun h9 => absurd h9 (by omega)), (by omega), (fun h9 => absurd h9 (by have h8 := hp_16; rw [c_35_9] at h8; omega)), (fun j hj => (F_326.1 53 (by decide) j)), (fun j hj => (F_326.1 54 (by decide) j)), (fun j hj => (F_326.1 55 (by decide) j)), (fun j hj => (F_326.1 56 (by decide) j)), (fun j hj => (F_326.1 57 (by decide) j)), (fun j hj => (F_326.1 58 (by decide) j)), (fun j hj => (F_326.1 59 (by decide) j)), (by omega), (by omega), (by omega), (by omega), (by omega), (by omega), (by omega)⟩
  by_cases c_35_10 : r_14 = 10
  · refine xb_tin (tgt := 219) hx hb (by unfold ir; omega) dX4_workOut_35 (by omega) (off := 184) (by rw [c_35_10]; rfl) (by decide) ?_
    refine lv_aload_n hx hb dX4_workOut_219 rfl (lv_at hl 2 rfl) ?_
    have e_362 : μ.1 33 3 = S := hS.symm
    have hn_363 : 0 ≤ μ.1 45 1 ∧ 9 * μ.1 45 1 ≤ μ.2.1 46 := hI.nm.2.2.2.2.2.2.1
    have e_364 : μ.1 32 10 = P := hP.symm
    have e_365 : μ.1 32 11 = A := hA.symm
    have hn_366 : 0 ≤ μ.1 45 4 ∧ 2 * μ.1 45 4 ≤ μ.2.1 51 := hI.nm.2.2.2.2.2.2.2.1
    refine xc_vV G (b := 32) (rest := []) (As := []) (c_X4_lengthOfArray ω l μ S hI (by omega) (by omega) (by omega) (by omega)) (wm 6 206 rfl rfl) (wm 6 208 rfl rfl) (wm 0 97 rfl rfl) rfl rfl (by decide) rfl (wm 1 14 rfl rfl) (wm 6 209 rfl rfl) (by decide) hR (by decide) (n := 0) rfl rfl (Nat.le_of_ble_eq_true rfl) hl.1 dX4_workOut_220 (fun μ367 ρ d0 H locs hp G => ?_)
    obtain ⟨F_368, hI_369, hp_370, hp_371, hs_372, hs_373, hs_374, hs_375, hs_376, hs_377, hs_378, hs_379, hs_380, hs_381, hs_382, hs_383⟩ := hp
    have hk_384 := hI_369.row (r := 33) (by unfold isRow; decide)
    unfold rk at hk_384
    simp only [Int.reduceAdd] at hk_384
    have hn_385 : 0 ≤ μ367.1 45 1 ∧ 9 * μ367.1 45 1 ≤ μ367.2.1 46 := hI_369.nm.2.2.2.2.2.2.1
    refine lv_goto (tgt := 299) hx hb dX4_workOut_223 (by decide) ?_
    have e_386 : μ367.1 52 7 = n := ((F_368.1 52 (by decide) 7).trans hn.symm)
    have e_387 : μ367.1 32 12 = μ.1 32 12 := hs_380
    have e_388 : μ367.1 60 6 = μ.1 60 6 := (F_368.1 60 (by decide) 6)
    have e_389 : μ367.1 32 10 = P := (hs_378.trans hP.symm)
    have e_390 : μ367.1 45 4 = μ.1 45 4 := hs_383
    have e_391 : μ367.1 53 n = μ.1 53 n := (F_368.1 53 (by decide) n)
    have e_392 : μ367.1 56 n = μ.1 56 n := (F_368.1 56 (by decide) n)
    have e_393 : μ367.1 57 n = μ.1 57 n := (F_368.1 57 (by decide) n)
    have e_394 : μ367.1 58 n = μ.1 58 n := (F_368.1 58 (by decide) n)
    have e_395 : μ367.1 59 n = μ.1 59 n := (F_368.1 59 (by decide) n)
    have e_396 : ofF μ367 53 = ofF μ 53 := (ofF_fr F_368 (by decide) (by decide))
    have hup_e : hup (cdp μ P A 0) (cdp μ P A 1) S = max S 1 := by rw [← hp_16, c_35_10]; rfl
    have h0_e : (μ367.1 52 7 = n ∧ μ367.1 32 13 = 0 ∧ μ367.1 33 3 ≤ hup (cdp μ P A 0) (cdp μ P A 1) S ∧ μ367.1 32 12 = μ.1 32 12 ∧ μ367.1 32 10 = P) ∨ (μ367.1 52 7 = n ∧ μ367.1 33 3 ≤ S + 1 ∧ (μ367.1 32 13 = 1 ∨ μ367.1 32 13 = 3 ∨ μ367.1 32 13 = 4) ∧ μ367.1 32 10 = P) ∨ (n < 24 ∧ μ367.1 52 7 = n + 1 ∧ μ367.1 32 13 = 0 ∧ 0 ≤ μ367.1 53 n ∧ μ367.1 53 n ≤ 3 ∧ μ367.1 56 n ≤ S + 1000 ∧ -200000 ≤ μ367.1 57 n ∧ μ367.1 57 n + 1 ≤ hup (cdp μ P A 0) (cdp μ P A 1) S ∧ μ367.1 58 n = A ∧ μ367.1 59 n = μ.1 60 6 ∧ μ367.1 33 3 = max (μ367.1 56 n) 0) := by
      rw [hup_e]
      rcases hp_370 with ⟨q1, q2⟩ | ⟨q1, q2⟩
      · exact Or.inl ⟨by omega, by omega, by omega, by omega, by omega⟩
      · exact Or.inr (Or.inl ⟨by omega, by omega, by omega, by omega⟩)
    have e_397 : μ367.1 70 1 = μ.1 70 1 := hs_372
    have e_398 : μ367.1 70 3 = μ.1 70 3 := hs_373
    have e_399 : μ367.1 70 6 = μ.1 70 6 := hs_376
    have e_400 : μ367.1 32 11 = A := (hs_379.trans hA.symm)
    have e_401 : μ367.1 32 15 = μ.1 32 15 := hs_381
    have e_402 : μ367.1 32 16 = μ.1 32 16 := hs_382
    have e_403 : μ367.1 45 4 = μ.1 45 4 := hs_383
    exact xr_v G hret hlk dX4_workOut_299 ⟨(Fr.tr Fr.rf F_368 (by decide)), hI_369, h0_e, (fun h9 => absurd h9 (by omega)), (by omega), (fun h9 => absurd h9 (by have h8 := hp_16; rw [c_35_10] at h8; omega)), (fun j hj => (F_368.1 53 (by decide) j)), (fun j hj => (F_368.1 54 (by decide) j)), (fun j hj => (F_368.1 55 (by decide) j)), (fun j hj => (F_368.1 56 (by decide) j)), (fun j hj => (F_368.1 57 (by decide) j)), (fun j hj => (F_368.1 58 (by decide) j)), (fun j hj => (F_368.1 59 (by decide) j)), (by omega), (by omega), (by omega), (by omega), (by omega), (by omega), (by omega)⟩
  by_cases c_35_11 : r_14 = 11
  · refine xb_tin (tgt := 226) hx hb (by unfold ir; omega) dX4_workOut_35 (by omega) (off := 191) (by rw [c_35_11]; rfl) (by decide) ?_
    refine lv_aload_n hx hb dX4_workOut_226 rfl (lv_at hl 2 rfl) ?_
    have e_404 : μ.1 33 3 = S := hS.symm
    have hn_405 : 0 ≤ μ.1 45 1 ∧ 9 * μ.1 45 1 ≤ μ.2.1 46 := hI.nm.2.2.2.2.2.2.1
    have e_406 : μ.1 32 10 = P := hP.symm
    have e_407 : μ.1 32 11 = A := hA.symm
    have hn_408 : 0 ≤ μ.1 45 4 ∧ 2 * μ.1 45 4 ≤ μ.2.1 51 := hI.nm.2.2.2.2.2.2.2.1
    refine xc_vV G (b := 32) (rest := []) (As := []) (c_X4_cellOfArray ω l μ S hI (by omega) (by omega) (by omega) (by omega)) (wm 6 210 rfl rfl) (wm 6 212 rfl rfl) (wm 0 98 rfl rfl) rfl rfl (by decide) rfl (wm 1 14 rfl rfl) (wm 6 213 rfl rfl) (by decide) hR (by decide) (n := 0) rfl rfl (Nat.le_of_ble_eq_true rfl) hl.1 dX4_workOut_227 (fun μ409 ρ d0 H locs hp G => ?_)
    obtain ⟨F_410, hI_411, hp_412, hp_413, hs_414, hs_415, hs_416, hs_417, hs_418, hs_419, hs_420, hs_421, hs_422, hs_423, hs_424, hs_425⟩ := hp
    have hk_426 := hI_411.row (r := 33) (by unfold isRow; decide)
    unfold rk at hk_426
    simp only [Int.reduceAdd] at hk_426
    have hn_427 : 0 ≤ μ409.1 45 1 ∧ 9 * μ409.1 45 1 ≤ μ409.2.1 46 := hI_411.nm.2.2.2.2.2.2.1
    refine lv_goto (tgt := 299) hx hb dX4_workOut_230 (by decide) ?_
    have e_428 : μ409.1 52 7 = n := ((F_410.1 52 (by decide) 7).trans hn.symm)
    have e_429 : μ409.1 32 12 = μ.1 32 12 := hs_422
    have e_430 : μ409.1 60 6 = μ.1 60 6 := (F_410.1 60 (by decide) 6)
    have e_431 : μ409.1 32 10 = P := (hs_420.trans hP.symm)
    have e_432 : μ409.1 45 4 = μ.1 45 4 := hs_425
    have e_433 : μ409.1 53 n = μ.1 53 n := (F_410.1 53 (by decide) n)
    have e_434 : μ409.1 56 n = μ.1 56 n := (F_410.1 56 (by decide) n)
    have e_435 : μ409.1 57 n = μ.1 57 n := (F_410.1 57 (by decide) n)
    have e_436 : μ409.1 58 n = μ.1 58 n := (F_410.1 58 (by decide) n)
    have e_437 : μ409.1 59 n = μ.1 59 n := (F_410.1 59 (by decide) n)
    have e_438 : ofF μ409 53 = ofF μ 53 := (ofF_fr F_410 (by decide) (by decide))
    have hup_e : hup (cdp μ P A 0) (cdp μ P A 1) S = max (S - 1) 1 := by rw [← hp_16, c_35_11]; rfl
    have h0_e : (μ409.1 52 7 = n ∧ μ409.1 32 13 = 0 ∧ μ409.1 33 3 ≤ hup (cdp μ P A 0) (cdp μ P A 1) S ∧ μ409.1 32 12 = μ.1 32 12 ∧ μ409.1 32 10 = P) ∨ (μ409.1 52 7 = n ∧ μ409.1 33 3 ≤ S + 1 ∧ (μ409.1 32 13 = 1 ∨ μ409.1 32 13 = 3 ∨ μ409.1 32 13 = 4) ∧ μ409.1 32 10 = P) ∨ (n < 24 ∧ μ409.1 52 7 = n + 1 ∧ μ409.1 32 13 = 0 ∧ 0 ≤ μ409.1 53 n ∧ μ409.1 53 n ≤ 3 ∧ μ409.1 56 n ≤ S + 1000 ∧ -200000 ≤ μ409.1 57 n ∧ μ409.1 57 n + 1 ≤ hup (cdp μ P A 0) (cdp μ P A 1) S ∧ μ409.1 58 n = A ∧ μ409.1 59 n = μ.1 60 6 ∧ μ409.1 33 3 = max (μ409.1 56 n) 0) := by
      rw [hup_e]
      rcases hp_412 with ⟨q1, q2⟩ | ⟨q1, q2⟩
      · exact Or.inl ⟨by omega, by omega, by omega, by omega, by omega⟩
      · exact Or.inr (Or.inl ⟨by omega, by omega, by omega, by omega⟩)
    have e_439 : μ409.1 70 1 = μ.1 70 1 := hs_414
    have e_440 : μ409.1 70 3 = μ.1 70 3 := hs_415
    have e_441 : μ409.1 70 6 = μ.1 70 6 := hs_418
    have e_442 : μ409.1 32 11 = A := (hs_421.trans hA.symm)
    have e_443 : μ409.1 32 15 = μ.1 32 15 := hs_423
    have e_444 : μ409.1 32 16 = μ.1 32 16 := hs_424
    have e_445 : μ409.1 45 4 = μ.1 45 4 := hs_425
    exact xr_v G hret hlk dX4_workOut_299 ⟨(Fr.tr Fr.rf F_410 (by decide)), hI_411, h0_e, (fun h9 => absurd h9 (by omega)), (by omega), (fun h9 => absurd h9 (by have h8 := hp_16; rw [c_35_11] at h8; omega)), (fun j hj => (F_410.1 53 (by decide) j)), (fun j hj => (F_410.1 54 (by decide) j)), (fun j hj => (F_410.1 55 (by decide) j)), (fun j hj => (F_410.1 56 (by decide) j)), (fun j hj => (F_410.1 57 (by decide) j)), (fun j hj => (F_410.1 58 (by decide) j)), (fun j hj => (F_410.1 59 (by decide) j)), (by omega), (by omega), (by omega), (by omega), (by omega), (by omega), (by omega)⟩
  by_cases c_35_12 : r_14 = 12
  · refine xb_tin (tgt := 233) hx hb (by unfold ir; omega) dX4_workOut_35 (by omega) (off := 198) (by rw [c_35_12]; rfl) (by decide) ?_
    refine lv_aload_n hx hb dX4_workOut_233 rfl (lv_at hl 2 rfl) ?_
    have e_446 : μ.1 33 3 = S := hS.symm
    have hn_447 : 0 ≤ μ.1 45 1 ∧ 9 * μ.1 45 1 ≤ μ.2.1 46 := hI.nm.2.2.2.2.2.2.1
    have e_448 : μ.1 32 10 = P := hP.symm
    have e_449 : μ.1 32 11 = A := hA.symm
    have hn_450 : 0 ≤ μ.1 45 4 ∧ 2 * μ.1 45 4 ≤ μ.2.1 51 := hI.nm.2.2.2.2.2.2.2.1
    refine xc_vV G (b := 32) (rest := []) (As := []) (c_X4_putIntoArray ω l μ S hI (by omega) (by omega) (by omega) (by omega)) (wm 6 230 rfl rfl) (wm 6 232 rfl rfl) (wm 0 103 rfl rfl) rfl rfl (by decide) rfl (wm 1 14 rfl rfl) (wm 6 233 rfl rfl) (by decide) hR (by decide) (n := 0) rfl rfl (Nat.le_of_ble_eq_true rfl) hl.1 dX4_workOut_234 (fun μ451 ρ d0 H locs hp G => ?_)
    obtain ⟨F_452, hI_453, hp_454, hp_455, hs_456, hs_457, hs_458, hs_459, hs_460, hs_461, hs_462, hs_463, hs_464, hs_465, hs_466, hs_467⟩ := hp
    have hk_468 := hI_453.row (r := 33) (by unfold isRow; decide)
    unfold rk at hk_468
    simp only [Int.reduceAdd] at hk_468
    have hn_469 : 0 ≤ μ451.1 45 1 ∧ 9 * μ451.1 45 1 ≤ μ451.2.1 46 := hI_453.nm.2.2.2.2.2.2.1
    refine lv_goto (tgt := 299) hx hb dX4_workOut_237 (by decide) ?_
    have e_470 : μ451.1 52 7 = n := ((F_452.1 52 (by decide) 7).trans hn.symm)
    have e_471 : μ451.1 32 12 = μ.1 32 12 := hs_464
    have e_472 : μ451.1 60 6 = μ.1 60 6 := (F_452.1 60 (by decide) 6)
    have e_473 : μ451.1 32 10 = P := (hs_462.trans hP.symm)
    have e_474 : μ451.1 45 4 = μ.1 45 4 := hs_467
    have e_475 : μ451.1 53 n = μ.1 53 n := (F_452.1 53 (by decide) n)
    have e_476 : μ451.1 56 n = μ.1 56 n := (F_452.1 56 (by decide) n)
    have e_477 : μ451.1 57 n = μ.1 57 n := (F_452.1 57 (by decide) n)
    have e_478 : μ451.1 58 n = μ.1 58 n := (F_452.1 58 (by decide) n)
    have e_479 : μ451.1 59 n = μ.1 59 n := (F_452.1 59 (by decide) n)
    have e_480 : ofF μ451 53 = ofF μ 53 := (ofF_fr F_452 (by decide) (by decide))
    have hup_e : hup (cdp μ P A 0) (cdp μ P A 1) S = max (S - 3) 0 := by rw [← hp_16, c_35_12]; rfl
    have h0_e : (μ451.1 52 7 = n ∧ μ451.1 32 13 = 0 ∧ μ451.1 33 3 ≤ hup (cdp μ P A 0) (cdp μ P A 1) S ∧ μ451.1 32 12 = μ.1 32 12 ∧ μ451.1 32 10 = P) ∨ (μ451.1 52 7 = n ∧ μ451.1 33 3 ≤ S + 1 ∧ (μ451.1 32 13 = 1 ∨ μ451.1 32 13 = 3 ∨ μ451.1 32 13 = 4) ∧ μ451.1 32 10 = P) ∨ (n < 24 ∧ μ451.1 52 7 = n + 1 ∧ μ451.1 32 13 = 0 ∧ 0 ≤ μ451.1 53 n ∧ μ451.1 53 n ≤ 3 ∧ μ451.1 56 n ≤ S + 1000 ∧ -200000 ≤ μ451.1 57 n ∧ μ451.1 57 n + 1 ≤ hup (cdp μ P A 0) (cdp μ P A 1) S ∧ μ451.1 58 n = A ∧ μ451.1 59 n = μ.1 60 6 ∧ μ451.1 33 3 = max (μ451.1 56 n) 0) := by
      rw [hup_e]
      rcases hp_454 with ⟨q1, q2⟩ | ⟨q1, q2⟩
      · exact Or.inl ⟨by omega, by omega, by omega, by omega, by omega⟩
      · exact Or.inr (Or.inl ⟨by omega, by omega, by omega, by omega⟩)
    have e_481 : μ451.1 70 1 = μ.1 70 1 := hs_456
    have e_482 : μ451.1 70 3 = μ.1 70 3 := hs_457
    have e_483 : μ451.1 70 6 = μ.1 70 6 := hs_460
    have e_484 : μ451.1 32 11 = A := (hs_463.trans hA.symm)
    have e_485 : μ451.1 32 15 = μ.1 32 15 := hs_465
    have e_486 : μ451.1 32 16 = μ.1 32 16 := hs_466
    have e_487 : μ451.1 45 4 = μ.1 45 4 := hs_467
    exact xr_v G hret hlk dX4_workOut_299 ⟨(Fr.tr Fr.rf F_452 (by decide)), hI_453, h0_e, (fun h9 => absurd h9 (by omega)), (by omega), (fun h9 => absurd h9 (by have h8 := hp_16; rw [c_35_12] at h8; omega)), (fun j hj => (F_452.1 53 (by decide) j)), (fun j hj => (F_452.1 54 (by decide) j)), (fun j hj => (F_452.1 55 (by decide) j)), (fun j hj => (F_452.1 56 (by decide) j)), (fun j hj => (F_452.1 57 (by decide) j)), (fun j hj => (F_452.1 58 (by decide) j)), (fun j hj => (F_452.1 59 (by decide) j)), (by omega), (by omega), (by omega), (by omega), (by omega), (by omega), (by omega)⟩
  by_cases c_35_13 : r_14 = 13
  · refine xb_tin (tgt := 240) hx hb (by unfold ir; omega) dX4_workOut_35 (by omega) (off := 205) (by rw [c_35_13]; rfl) (by decide) ?_
    have h13 := hx13 (by omega)
    have hd14 := td4b h13
    have hf9 : r_6 = cdp μ P A 1 := hp_8
    rw [← hf9] at hd14 h13
    have ht9 : (cdp μ P A 1).tdiv 4 = r_6.tdiv 4 := by rw [hf9]
    refine lv_aload_n hx hb dX4_workOut_240 rfl (lv_at hl 2 rfl) ?_
    refine lv_iload_n hx hb dX4_workOut_241 rfl (lv_at hl 1 rfl) ?_
    refine lv_iload_n hx hb dX4_workOut_242 rfl (lv_at hl 0 rfl) ?_
    have e_488 : μ.1 33 3 = S := hS.symm
    have e_489 : μ.1 52 7 = n := hn.symm
    have hn_490 : 0 ≤ μ.1 45 1 ∧ 9 * μ.1 45 1 ≤ μ.2.1 46 := hI.nm.2.2.2.2.2.2.1
    have e_491 : μ.1 32 10 = P := hP.symm
    have e_492 : μ.1 32 10 = P := hP.symm
    have e_493 : μ.1 32 11 = A := hA.symm
    have hn_494 : 0 ≤ μ.1 60 6 ∧ μ.1 60 6 ≤ 400 := hI.nm.2.2.2.2.2.1
    have e_495 : μ.1 32 11 = A := hA.symm
    have hn_496 : 0 ≤ μ.1 45 4 ∧ 2 * μ.1 45 4 ≤ μ.2.1 51 := hI.nm.2.2.2.2.2.2.2.1
    refine xc_vV G (b := 32) (rest := []) (As := [.int (iv r_6), .int (iv r_10)]) (c_X4_callNamed ω l μ r_6 r_10 S n (by unfold ir; omega) (by unfold ir; omega) hI (by omega) (by omega) (by omega) (by omega) (by omega) (by omega) hv9 (by omega)) (wm 6 238 rfl rfl) (wm 7 0 rfl rfl) (wm 0 105 rfl rfl) rfl rfl (by decide) rfl (wm 1 14 rfl rfl) (wm 7 1 rfl rfl) (by decide) hR (by decide) (n := 2) rfl rfl (Nat.le_of_ble_eq_true rfl) hl.1 dX4_workOut_243 (fun μ497 ρ d0 H locs hp G => ?_)
    obtain ⟨F_498, hI_499, hp_500, hp_501, hp_502, ha_503, ha_504, ha_505, ha_506, ha_507, ha_508, ha_509, hs_510, hs_511, hs_512, hs_513, hs_514, hs_515, hs_516, hs_517⟩ := hp
    have hn_518 : 0 ≤ μ497.1 52 7 ∧ μ497.1 52 7 ≤ 24 := hI_499.nm.2.2.2.2.1
    have hk_519 := hI_499.row (r := 33) (by unfold isRow; decide)
    unfold rk at hk_519
    simp only [Int.reduceAdd] at hk_519
    have hn_520 : 0 ≤ μ497.1 45 1 ∧ 9 * μ497.1 45 1 ≤ μ497.2.1 46 := hI_499.nm.2.2.2.2.2.2.1
    refine lv_goto (tgt := 299) hx hb dX4_workOut_246 (by decide) ?_
    have e_521 : μ497.1 60 6 = μ.1 60 6 := (F_498.1 60 (by decide) 6)
    have e_522 : μ497.1 45 4 = μ.1 45 4 := hs_517
    have hup_e : hup (cdp μ P A 0) (cdp μ P A 1) S = max (S - (cdp μ P A 1).tdiv 4) 0 + 1 := by rw [← hp_16, c_35_13]; rfl
    have h0_e : (μ497.1 52 7 = n ∧ μ497.1 32 13 = 0 ∧ μ497.1 33 3 ≤ hup (cdp μ P A 0) (cdp μ P A 1) S ∧ μ497.1 32 12 = μ.1 32 12 ∧ μ497.1 32 10 = P) ∨ (μ497.1 52 7 = n ∧ μ497.1 33 3 ≤ S + 1 ∧ (μ497.1 32 13 = 1 ∨ μ497.1 32 13 = 3 ∨ μ497.1 32 13 = 4) ∧ μ497.1 32 10 = P) ∨ (n < 24 ∧ μ497.1 52 7 = n + 1 ∧ μ497.1 32 13 = 0 ∧ 0 ≤ μ497.1 53 n ∧ μ497.1 53 n ≤ 3 ∧ μ497.1 56 n ≤ S + 1000 ∧ -200000 ≤ μ497.1 57 n ∧ μ497.1 57 n + 1 ≤ hup (cdp μ P A 0) (cdp μ P A 1) S ∧ μ497.1 58 n = A ∧ μ497.1 59 n = μ.1 60 6 ∧ μ497.1 33 3 = max (μ497.1 56 n) 0) := by
      rw [hup_e]
      rcases hp_500 with ⟨q1, ⟨q2, q3, q4, q5⟩ | ⟨q2, q3, q4⟩⟩ | ⟨q1, q2, q3, q4, q5, q6, q7, q8, q9, q10, q11⟩
      · exact Or.inl ⟨by omega, by omega, by omega, by omega, by omega⟩
      · exact Or.inr (Or.inl ⟨by omega, by omega, by omega, by omega⟩)
      · exact Or.inr (Or.inr ⟨by omega, by omega, by omega, by omega, by omega, by omega, by omega, by omega, by omega, by omega, by omega⟩)
    have e_523 : μ497.1 70 1 = μ.1 70 1 := hs_510
    have e_524 : μ497.1 70 3 = μ.1 70 3 := hs_511
    have e_525 : μ497.1 70 6 = μ.1 70 6 := hs_513
    have e_526 : μ497.1 32 11 = A := (hs_514.trans hA.symm)
    have e_527 : μ497.1 32 15 = μ.1 32 15 := hs_515
    have e_528 : μ497.1 32 16 = μ.1 32 16 := hs_516
    have e_529 : μ497.1 45 4 = μ.1 45 4 := hs_517
    exact xr_v G hret hlk dX4_workOut_299 ⟨(Fr.tr Fr.rf F_498 (by decide)), hI_499, h0_e, (fun h9 => ⟨(hp_501 h9).1, (hp_501 h9).2, by have h8 := hp_16; omega⟩), (by omega), (fun h9 => absurd h9 (by have h8 := hp_16; rw [c_35_13] at h8; omega)), (fun j hj => (ha_503 j (by omega))), (fun j hj => (ha_504 j (by omega))), (fun j hj => (ha_505 j (by omega))), (fun j hj => (ha_506 j (by omega))), (fun j hj => (ha_507 j (by omega))), (fun j hj => (ha_508 j (by omega))), (fun j hj => (ha_509 j (by omega))), (by omega), (by omega), (by omega), (by omega), (by omega), (by omega), (by omega)⟩
  by_cases c_35_14 : r_14 = 14
  · refine xb_tin (tgt := 249) hx hb (by unfold ir; omega) dX4_workOut_35 (by omega) (off := 214) (by rw [c_35_14]; rfl) (by decide) ?_
    have h13 := hx13 (by omega)
    have hd14 := td4b h13
    have hf9 : r_6 = cdp μ P A 1 := hp_8
    rw [← hf9] at hd14 h13
    have ht9 : (cdp μ P A 1).tdiv 4 = r_6.tdiv 4 := by rw [hf9]
    refine lv_aload_n hx hb dX4_workOut_249 rfl (lv_at hl 2 rfl) ?_
    refine lv_iload_n hx hb dX4_workOut_250 rfl (lv_at hl 1 rfl) ?_
    refine lv_iconst (v := iv 4) hx hb dX4_workOut_251 rfl ?_
    refine xb_idiv hx hb (by unfold ir; omega) (by omega) dX4_workOut_252 ?_
    have e_530 : μ.1 33 3 = S := hS.symm
    have e_531 : μ.1 52 7 = n := hn.symm
    have hn_532 : 0 ≤ μ.1 45 1 ∧ 9 * μ.1 45 1 ≤ μ.2.1 46 := hI.nm.2.2.2.2.2.2.1
    have e_533 : μ.1 32 10 = P := hP.symm
    have e_534 : μ.1 32 10 = P := hP.symm
    have e_535 : μ.1 32 11 = A := hA.symm
    have hn_536 : 0 ≤ μ.1 60 6 ∧ μ.1 60 6 ≤ 400 := hI.nm.2.2.2.2.2.1
    have e_537 : μ.1 32 11 = A := hA.symm
    have hn_538 : 0 ≤ μ.1 45 4 ∧ 2 * μ.1 45 4 ≤ μ.2.1 51 := hI.nm.2.2.2.2.2.2.2.1
    refine xc_vV G (b := 32) (rest := []) (As := [.int (iv (r_6.tdiv 4))]) (c_X4_callHeld ω l μ (r_6.tdiv 4) S n (by unfold ir; omega) hI (by omega) (by omega) (by omega) (by omega) (by omega) (by omega) hv9 (by omega)) (wm 7 11 rfl rfl) (wm 7 13 rfl rfl) (wm 0 107 rfl rfl) rfl rfl (by decide) rfl (wm 1 14 rfl rfl) (wm 7 14 rfl rfl) (by decide) hR (by decide) (n := 1) rfl rfl (Nat.le_of_ble_eq_true rfl) hl.1 dX4_workOut_253 (fun μ539 ρ d0 H locs hp G => ?_)
    obtain ⟨F_540, hI_541, hp_542, hp_543, hp_544, ha_545, ha_546, ha_547, ha_548, ha_549, ha_550, ha_551, hs_552, hs_553, hs_554, hs_555, hs_556, hs_557, hs_558, hs_559⟩ := hp
    have hn_560 : 0 ≤ μ539.1 52 7 ∧ μ539.1 52 7 ≤ 24 := hI_541.nm.2.2.2.2.1
    have hk_561 := hI_541.row (r := 33) (by unfold isRow; decide)
    unfold rk at hk_561
    simp only [Int.reduceAdd] at hk_561
    have hn_562 : 0 ≤ μ539.1 45 1 ∧ 9 * μ539.1 45 1 ≤ μ539.2.1 46 := hI_541.nm.2.2.2.2.2.2.1
    refine lv_goto (tgt := 299) hx hb dX4_workOut_256 (by decide) ?_
    have e_563 : μ539.1 60 6 = μ.1 60 6 := (F_540.1 60 (by decide) 6)
    have e_564 : μ539.1 45 4 = μ.1 45 4 := hs_559
    have hup_e : hup (cdp μ P A 0) (cdp μ P A 1) S = max (S - ((cdp μ P A 1).tdiv 4 + 1)) 0 + 1 := by rw [← hp_16, c_35_14]; rfl
    have h0_e : (μ539.1 52 7 = n ∧ μ539.1 32 13 = 0 ∧ μ539.1 33 3 ≤ hup (cdp μ P A 0) (cdp μ P A 1) S ∧ μ539.1 32 12 = μ.1 32 12 ∧ μ539.1 32 10 = P) ∨ (μ539.1 52 7 = n ∧ μ539.1 33 3 ≤ S + 1 ∧ (μ539.1 32 13 = 1 ∨ μ539.1 32 13 = 3 ∨ μ539.1 32 13 = 4) ∧ μ539.1 32 10 = P) ∨ (n < 24 ∧ μ539.1 52 7 = n + 1 ∧ μ539.1 32 13 = 0 ∧ 0 ≤ μ539.1 53 n ∧ μ539.1 53 n ≤ 3 ∧ μ539.1 56 n ≤ S + 1000 ∧ -200000 ≤ μ539.1 57 n ∧ μ539.1 57 n + 1 ≤ hup (cdp μ P A 0) (cdp μ P A 1) S ∧ μ539.1 58 n = A ∧ μ539.1 59 n = μ.1 60 6 ∧ μ539.1 33 3 = max (μ539.1 56 n) 0) := by
      rw [hup_e]
      rcases hp_542 with ⟨q1, ⟨q2, q3, q4, q5⟩ | ⟨q2, q3, q4⟩⟩ | ⟨q1, q2, q3, q4, q5, q6, q7, q8, q9, q10, q11⟩
      · exact Or.inl ⟨by omega, by omega, by omega, by omega, by omega⟩
      · exact Or.inr (Or.inl ⟨by omega, by omega, by omega, by omega⟩)
      · exact Or.inr (Or.inr ⟨by omega, by omega, by omega, by omega, by omega, by omega, by omega, by omega, by omega, by omega, by omega⟩)
    have e_565 : μ539.1 70 1 = μ.1 70 1 := hs_552
    have e_566 : μ539.1 70 3 = μ.1 70 3 := hs_553
    have e_567 : μ539.1 70 6 = μ.1 70 6 := hs_555
    have e_568 : μ539.1 32 11 = A := (hs_556.trans hA.symm)
    have e_569 : μ539.1 32 15 = μ.1 32 15 := hs_557
    have e_570 : μ539.1 32 16 = μ.1 32 16 := hs_558
    have e_571 : μ539.1 45 4 = μ.1 45 4 := hs_559
    exact xr_v G hret hlk dX4_workOut_299 ⟨(Fr.tr Fr.rf F_540 (by decide)), hI_541, h0_e, (fun h9 => ⟨(hp_543 h9).1, (hp_543 h9).2, by have h8 := hp_16; omega⟩), (by omega), (fun h9 => absurd h9 (by have h8 := hp_16; rw [c_35_14] at h8; omega)), (fun j hj => (ha_545 j (by omega))), (fun j hj => (ha_546 j (by omega))), (fun j hj => (ha_547 j (by omega))), (fun j hj => (ha_548 j (by omega))), (fun j hj => (ha_549 j (by omega))), (fun j hj => (ha_550 j (by omega))), (fun j hj => (ha_551 j (by omega))), (by omega), (by omega), (by omega), (by omega), (by omega), (by omega), (by omega)⟩
  by_cases c_35_15 : r_14 = 15
  · refine xb_tin (tgt := 259) hx hb (by unfold ir; omega) dX4_workOut_35 (by omega) (off := 224) (by rw [c_35_15]; rfl) (by decide) ?_
    refine lv_aload_n hx hb dX4_workOut_259 rfl (lv_at hl 2 rfl) ?_
    refine lv_iload_n hx hb dX4_workOut_260 rfl (lv_at hl 1 rfl) ?_
    refine lv_iload_n hx hb dX4_workOut_261 rfl (lv_at hl 0 rfl) ?_
    have e_572 : μ.1 33 3 = S := hS.symm
    have hn_573 : 0 ≤ μ.1 45 1 ∧ 9 * μ.1 45 1 ≤ μ.2.1 46 := hI.nm.2.2.2.2.2.2.1
    have e_574 : μ.1 32 10 = P := hP.symm
    have e_575 : μ.1 32 11 = A := hA.symm
    have hn_576 : 0 ≤ μ.1 45 4 ∧ 2 * μ.1 45 4 ≤ μ.2.1 51 := hI.nm.2.2.2.2.2.2.2.1
    refine xc_vV G (b := 32) (rest := []) (As := [.int (iv r_6), .int (iv r_10)]) (c_X4_functionItself ω l μ r_6 r_10 S (by unfold ir; omega) (by unfold ir; omega) hI (by omega) (by omega) (by omega) (by omega)) (wm 7 16 rfl rfl) (wm 7 18 rfl rfl) (wm 0 108 rfl rfl) rfl rfl (by decide) rfl (wm 1 14 rfl rfl) (wm 7 19 rfl rfl) (by decide) hR (by decide) (n := 2) rfl rfl (Nat.le_of_ble_eq_true rfl) hl.1 dX4_workOut_262 (fun μ577 ρ d0 H locs hp G => ?_)
    obtain ⟨F_578, hI_579, hp_580, hp_581, hs_582, hs_583, hs_584, hs_585, hs_586, hs_587, hs_588, hs_589, hs_590, hs_591, hs_592, hs_593⟩ := hp
    have hk_594 := hI_579.row (r := 33) (by unfold isRow; decide)
    unfold rk at hk_594
    simp only [Int.reduceAdd] at hk_594
    have hn_595 : 0 ≤ μ577.1 45 1 ∧ 9 * μ577.1 45 1 ≤ μ577.2.1 46 := hI_579.nm.2.2.2.2.2.2.1
    refine lv_goto (tgt := 299) hx hb dX4_workOut_265 (by decide) ?_
    have e_596 : μ577.1 52 7 = n := ((F_578.1 52 (by decide) 7).trans hn.symm)
    have e_597 : μ577.1 32 12 = μ.1 32 12 := hs_590
    have e_598 : μ577.1 60 6 = μ.1 60 6 := (F_578.1 60 (by decide) 6)
    have e_599 : μ577.1 32 10 = P := (hs_588.trans hP.symm)
    have e_600 : μ577.1 45 4 = μ.1 45 4 := hs_593
    have e_601 : μ577.1 53 n = μ.1 53 n := (F_578.1 53 (by decide) n)
    have e_602 : μ577.1 56 n = μ.1 56 n := (F_578.1 56 (by decide) n)
    have e_603 : μ577.1 57 n = μ.1 57 n := (F_578.1 57 (by decide) n)
    have e_604 : μ577.1 58 n = μ.1 58 n := (F_578.1 58 (by decide) n)
    have e_605 : μ577.1 59 n = μ.1 59 n := (F_578.1 59 (by decide) n)
    have e_606 : ofF μ577 53 = ofF μ 53 := (ofF_fr F_578 (by decide) (by decide))
    have hup_e : hup (cdp μ P A 0) (cdp μ P A 1) S = S + 1 := by rw [← hp_16, c_35_15]; rfl
    have h0_e : (μ577.1 52 7 = n ∧ μ577.1 32 13 = 0 ∧ μ577.1 33 3 ≤ hup (cdp μ P A 0) (cdp μ P A 1) S ∧ μ577.1 32 12 = μ.1 32 12 ∧ μ577.1 32 10 = P) ∨ (μ577.1 52 7 = n ∧ μ577.1 33 3 ≤ S + 1 ∧ (μ577.1 32 13 = 1 ∨ μ577.1 32 13 = 3 ∨ μ577.1 32 13 = 4) ∧ μ577.1 32 10 = P) ∨ (n < 24 ∧ μ577.1 52 7 = n + 1 ∧ μ577.1 32 13 = 0 ∧ 0 ≤ μ577.1 53 n ∧ μ577.1 53 n ≤ 3 ∧ μ577.1 56 n ≤ S + 1000 ∧ -200000 ≤ μ577.1 57 n ∧ μ577.1 57 n + 1 ≤ hup (cdp μ P A 0) (cdp μ P A 1) S ∧ μ577.1 58 n = A ∧ μ577.1 59 n = μ.1 60 6 ∧ μ577.1 33 3 = max (μ577.1 56 n) 0) := by
      rw [hup_e]
      rcases hp_580 with ⟨q1, q2⟩ | ⟨q1, q2⟩
      · exact Or.inl ⟨by omega, by omega, by omega, by omega, by omega⟩
      · exact Or.inr (Or.inl ⟨by omega, by omega, by omega, by omega⟩)
    have e_607 : μ577.1 70 1 = μ.1 70 1 := hs_582
    have e_608 : μ577.1 70 3 = μ.1 70 3 := hs_583
    have e_609 : μ577.1 70 6 = μ.1 70 6 := hs_586
    have e_610 : μ577.1 32 11 = A := (hs_589.trans hA.symm)
    have e_611 : μ577.1 32 15 = μ.1 32 15 := hs_591
    have e_612 : μ577.1 32 16 = μ.1 32 16 := hs_592
    have e_613 : μ577.1 45 4 = μ.1 45 4 := hs_593
    exact xr_v G hret hlk dX4_workOut_299 ⟨(Fr.tr Fr.rf F_578 (by decide)), hI_579, h0_e, (fun h9 => absurd h9 (by omega)), (by omega), (fun h9 => absurd h9 (by have h8 := hp_16; rw [c_35_15] at h8; omega)), (fun j hj => (F_578.1 53 (by decide) j)), (fun j hj => (F_578.1 54 (by decide) j)), (fun j hj => (F_578.1 55 (by decide) j)), (fun j hj => (F_578.1 56 (by decide) j)), (fun j hj => (F_578.1 57 (by decide) j)), (fun j hj => (F_578.1 58 (by decide) j)), (fun j hj => (F_578.1 59 (by decide) j)), (by omega), (by omega), (by omega), (by omega), (by omega), (by omega), (by omega)⟩
  by_cases c_35_16 : r_14 = 16
  · refine xb_tin (tgt := 268) hx hb (by unfold ir; omega) dX4_workOut_35 (by omega) (off := 233) (by rw [c_35_16]; rfl) (by decide) ?_
    refine lv_aload_n hx hb dX4_workOut_268 rfl (lv_at hl 2 rfl) ?_
    have e_614 : μ.1 33 3 = S := hS.symm
    refine xc_vV G (b := 32) (rest := []) (As := []) (c_X4_tagOfTop ω l μ S hI (by omega) (by omega)) (wm 7 20 rfl rfl) (wm 7 22 rfl rfl) (wm 0 109 rfl rfl) rfl rfl (by decide) rfl (wm 1 14 rfl rfl) (wm 7 23 rfl rfl) (by decide) hR (by decide) (n := 0) rfl rfl (Nat.le_of_ble_eq_true rfl) hl.1 dX4_workOut_269 (fun μ615 ρ d0 H locs hp G => ?_)
    obtain ⟨F_616, hI_617, hs_618⟩ := hp
    refine lv_goto (tgt := 299) hx hb dX4_workOut_272 (by decide) ?_
    have e_619 : μ615.1 33 3 = max (S - 1) 0 + 1 := hs_618
    have e_620 : μ615.1 32 13 = μ.1 32 13 := (F_616.1 32 (by decide) 13)
    have e_621 : μ615.1 52 7 = n := ((F_616.1 52 (by decide) 7).trans hn.symm)
    have e_622 : μ615.1 32 12 = μ.1 32 12 := (F_616.1 32 (by decide) 12)
    have e_623 : μ615.1 60 6 = μ.1 60 6 := (F_616.1 60 (by decide) 6)
    have e_624 : μ615.1 32 10 = P := ((F_616.1 32 (by decide) 10).trans hP.symm)
    have e_625 : μ615.1 45 4 = μ.1 45 4 := (F_616.1 45 (by decide) 4)
    have e_626 : μ615.1 53 n = μ.1 53 n := (F_616.1 53 (by decide) n)
    have e_627 : μ615.1 56 n = μ.1 56 n := (F_616.1 56 (by decide) n)
    have e_628 : μ615.1 57 n = μ.1 57 n := (F_616.1 57 (by decide) n)
    have e_629 : μ615.1 58 n = μ.1 58 n := (F_616.1 58 (by decide) n)
    have e_630 : μ615.1 59 n = μ.1 59 n := (F_616.1 59 (by decide) n)
    have e_631 : ofF μ615 53 = ofF μ 53 := (ofF_fr F_616 (by decide) (by decide))
    have hup_e : hup (cdp μ P A 0) (cdp μ P A 1) S = max S 1 := by rw [← hp_16, c_35_16]; rfl
    have h0_e : (μ615.1 52 7 = n ∧ μ615.1 32 13 = 0 ∧ μ615.1 33 3 ≤ hup (cdp μ P A 0) (cdp μ P A 1) S ∧ μ615.1 32 12 = μ.1 32 12 ∧ μ615.1 32 10 = P) ∨ (μ615.1 52 7 = n ∧ μ615.1 33 3 ≤ S + 1 ∧ (μ615.1 32 13 = 1 ∨ μ615.1 32 13 = 3 ∨ μ615.1 32 13 = 4) ∧ μ615.1 32 10 = P) ∨ (n < 24 ∧ μ615.1 52 7 = n + 1 ∧ μ615.1 32 13 = 0 ∧ 0 ≤ μ615.1 53 n ∧ μ615.1 53 n ≤ 3 ∧ μ615.1 56 n ≤ S + 1000 ∧ -200000 ≤ μ615.1 57 n ∧ μ615.1 57 n + 1 ≤ hup (cdp μ P A 0) (cdp μ P A 1) S ∧ μ615.1 58 n = A ∧ μ615.1 59 n = μ.1 60 6 ∧ μ615.1 33 3 = max (μ615.1 56 n) 0) := by
      rw [hup_e]
      exact Or.inl ⟨by omega, by omega, by omega, by omega, by omega⟩
    have e_632 : μ615.1 70 2 = μ.1 70 2 := (F_616.1 70 (by decide) 2)
    have e_633 : μ615.1 70 2 = μ.1 70 2 := (F_616.1 70 (by decide) 2)
    have e_634 : μ615.1 70 8 = μ.1 70 8 := (F_616.1 70 (by decide) 8)
    have e_635 : μ615.1 70 8 = μ.1 70 8 := (F_616.1 70 (by decide) 8)
    have e_636 : μ615.1 45 1 = μ.1 45 1 := (F_616.1 45 (by decide) 1)
    have e_637 : μ615.1 70 2 = μ.1 70 2 := (F_616.1 70 (by decide) 2)
    have e_638 : μ615.1 70 1 = μ.1 70 1 := (F_616.1 70 (by decide) 1)
    have e_639 : μ615.1 70 3 = μ.1 70 3 := (F_616.1 70 (by decide) 3)
    have e_640 : μ615.1 70 6 = μ.1 70 6 := (F_616.1 70 (by decide) 6)
    have e_641 : μ615.1 32 11 = A := ((F_616.1 32 (by decide) 11).trans hA.symm)
    have e_642 : μ615.1 32 15 = μ.1 32 15 := (F_616.1 32 (by decide) 15)
    have e_643 : μ615.1 32 16 = μ.1 32 16 := (F_616.1 32 (by decide) 16)
    have e_644 : μ615.1 45 4 = μ.1 45 4 := (F_616.1 45 (by decide) 4)
    exact xr_v G hret hlk dX4_workOut_299 ⟨(Fr.tr Fr.rf F_616 (by decide)), hI_617, h0_e, (fun h9 => absurd h9 (by omega)), (by omega), (fun h9 => absurd h9 (by have h8 := hp_16; rw [c_35_16] at h8; omega)), (fun j hj => (F_616.1 53 (by decide) j)), (fun j hj => (F_616.1 54 (by decide) j)), (fun j hj => (F_616.1 55 (by decide) j)), (fun j hj => (F_616.1 56 (by decide) j)), (fun j hj => (F_616.1 57 (by decide) j)), (fun j hj => (F_616.1 58 (by decide) j)), (fun j hj => (F_616.1 59 (by decide) j)), (by omega), (by omega), (by omega), (by omega), (by omega), (by omega), (by omega)⟩
  by_cases c_35_17 : r_14 = 17
  · refine xb_tin (tgt := 275) hx hb (by unfold ir; omega) dX4_workOut_35 (by omega) (off := 240) (by rw [c_35_17]; rfl) (by decide) ?_
    refine lv_aload_n hx hb dX4_workOut_275 rfl (lv_at hl 2 rfl) ?_
    refine lv_iload_n hx hb dX4_workOut_276 rfl (lv_at hl 1 rfl) ?_
    have e_645 : μ.1 33 3 = S := hS.symm
    have hn_646 : 0 ≤ μ.1 45 1 ∧ 9 * μ.1 45 1 ≤ μ.2.1 46 := hI.nm.2.2.2.2.2.2.1
    have e_647 : μ.1 32 10 = P := hP.symm
    have e_648 : μ.1 32 11 = A := hA.symm
    have hn_649 : 0 ≤ μ.1 45 4 ∧ 2 * μ.1 45 4 ≤ μ.2.1 51 := hI.nm.2.2.2.2.2.2.2.1
    refine xc_vV G (b := 32) (rest := []) (As := [.int (iv r_6)]) (c_X4_failsWithTop ω l μ r_6 S (by unfold ir; omega) hI (by omega) (by omega) (by omega)) (wm 7 24 rfl rfl) (wm 7 26 rfl rfl) (wm 0 110 rfl rfl) rfl rfl (by decide) rfl (wm 1 14 rfl rfl) (wm 7 27 rfl rfl) (by decide) hR (by decide) (n := 1) rfl rfl (Nat.le_of_ble_eq_true rfl) hl.1 dX4_workOut_277 (fun μ650 ρ d0 H locs hp G => ?_)
    obtain ⟨F_651, hI_652, hp_653, hp_654, hs_655, hs_656, hs_657, hs_658, hs_659, hs_660, hs_661, hs_662, hs_663, hs_664, hs_665, hs_666⟩ := hp
    have hk_667 := hI_652.row (r := 33) (by unfold isRow; decide)
    unfold rk at hk_667
    simp only [Int.reduceAdd] at hk_667
    have hn_668 : 0 ≤ μ650.1 45 1 ∧ 9 * μ650.1 45 1 ≤ μ650.2.1 46 := hI_652.nm.2.2.2.2.2.2.1
    refine lv_goto (tgt := 299) hx hb dX4_workOut_280 (by decide) ?_
    have e_669 : μ650.1 52 7 = n := ((F_651.1 52 (by decide) 7).trans hn.symm)
    have e_670 : μ650.1 32 12 = μ.1 32 12 := hs_663
    have e_671 : μ650.1 60 6 = μ.1 60 6 := (F_651.1 60 (by decide) 6)
    have e_672 : μ650.1 32 10 = P := (hs_661.trans hP.symm)
    have e_673 : μ650.1 45 4 = μ.1 45 4 := hs_666
    have e_674 : μ650.1 53 n = μ.1 53 n := (F_651.1 53 (by decide) n)
    have e_675 : μ650.1 56 n = μ.1 56 n := (F_651.1 56 (by decide) n)
    have e_676 : μ650.1 57 n = μ.1 57 n := (F_651.1 57 (by decide) n)
    have e_677 : μ650.1 58 n = μ.1 58 n := (F_651.1 58 (by decide) n)
    have e_678 : μ650.1 59 n = μ.1 59 n := (F_651.1 59 (by decide) n)
    have e_679 : ofF μ650 53 = ofF μ 53 := (ofF_fr F_651 (by decide) (by decide))
    have hup_e : hup (cdp μ P A 0) (cdp μ P A 1) S = max S 1 := by rw [← hp_16, c_35_17]; rfl
    have h0_e : (μ650.1 52 7 = n ∧ μ650.1 32 13 = 0 ∧ μ650.1 33 3 ≤ hup (cdp μ P A 0) (cdp μ P A 1) S ∧ μ650.1 32 12 = μ.1 32 12 ∧ μ650.1 32 10 = P) ∨ (μ650.1 52 7 = n ∧ μ650.1 33 3 ≤ S + 1 ∧ (μ650.1 32 13 = 1 ∨ μ650.1 32 13 = 3 ∨ μ650.1 32 13 = 4) ∧ μ650.1 32 10 = P) ∨ (n < 24 ∧ μ650.1 52 7 = n + 1 ∧ μ650.1 32 13 = 0 ∧ 0 ≤ μ650.1 53 n ∧ μ650.1 53 n ≤ 3 ∧ μ650.1 56 n ≤ S + 1000 ∧ -200000 ≤ μ650.1 57 n ∧ μ650.1 57 n + 1 ≤ hup (cdp μ P A 0) (cdp μ P A 1) S ∧ μ650.1 58 n = A ∧ μ650.1 59 n = μ.1 60 6 ∧ μ650.1 33 3 = max (μ650.1 56 n) 0) := by
      rw [hup_e]
      rcases hp_653 with ⟨q1, q2, q3⟩ | ⟨q1, q2⟩
      · exact Or.inl ⟨by omega, by omega, by omega, by omega, by omega⟩
      · exact Or.inr (Or.inl ⟨by omega, by omega, by omega, by omega⟩)
    have e_680 : μ650.1 70 1 = μ.1 70 1 := hs_655
    have e_681 : μ650.1 70 3 = μ.1 70 3 := hs_656
    have e_682 : μ650.1 70 6 = μ.1 70 6 := hs_659
    have e_683 : μ650.1 32 11 = A := (hs_662.trans hA.symm)
    have e_684 : μ650.1 32 15 = μ.1 32 15 := hs_664
    have e_685 : μ650.1 32 16 = μ.1 32 16 := hs_665
    have e_686 : μ650.1 45 4 = μ.1 45 4 := hs_666
    exact xr_v G hret hlk dX4_workOut_299 ⟨(Fr.tr Fr.rf F_651 (by decide)), hI_652, h0_e, (fun h9 => absurd h9 (by omega)), (by omega), (fun h9 => absurd h9 (by have h8 := hp_16; rw [c_35_17] at h8; omega)), (fun j hj => (F_651.1 53 (by decide) j)), (fun j hj => (F_651.1 54 (by decide) j)), (fun j hj => (F_651.1 55 (by decide) j)), (fun j hj => (F_651.1 56 (by decide) j)), (fun j hj => (F_651.1 57 (by decide) j)), (fun j hj => (F_651.1 58 (by decide) j)), (fun j hj => (F_651.1 59 (by decide) j)), (by omega), (by omega), (by omega), (by omega), (by omega), (by omega), (by omega)⟩
  have c_35_18 : r_14 = 18 := by omega
  refine xb_tin (tgt := 283) hx hb (by unfold ir; omega) dX4_workOut_35 (by omega) (off := 248) (by rw [c_35_18]; rfl) (by decide) ?_
  refine lv_aload_n hx hb dX4_workOut_283 rfl (lv_at hl 2 rfl) ?_
  refine lv_iconst (v := iv 1) hx hb dX4_workOut_284 rfl ?_
  refine lv_aload_n hx hb dX4_workOut_285 rfl (lv_at hl 2 rfl) ?_
  refine xa_getr G fd_X4 (a := 32) (x := 70) 9 rfl (by decide) rfl (wm 2 153 rfl rfl) ⟨rfl, rfl, rfl⟩ dX4_workOut_286 rfl (G.sk 42 rfl) (by decide) rfl ?_
  refine lv_bipush (v := iv 9) hx hb dX4_workOut_289 rfl ?_
  refine xa_iald G (a := 70) (i := 9) rfl (by have h9 := G.lc (a := 70) (n := 10) 33 rfl; omega) dX4_workOut_291 rfl ?_
  have hr_687 : -2147483648 ≤ μ.1 70 9 ∧ μ.1 70 9 ≤ 2147483647 := by have h9 := G.hr (a := 70) (k := 9) rfl; exact h9
  refine xb_i2l hx hb (by unfold ir; omega) dX4_workOut_292 ?_
  have e_688 : μ.1 33 3 = S := hS.symm
  refine xc_vV G (b := 32) (rest := []) (As := [.int (iv 1), .long (jv (μ.1 70 9))]) (c_X4_pushNumber ω l μ 1 (μ.1 70 9) S (by unfold ir; omega) (by unfold jr; omega) hI (by omega) (by omega)) (wm 5 70 rfl rfl) (wm 5 72 rfl rfl) (wm 0 63 rfl rfl) rfl rfl (by decide) rfl (wm 1 14 rfl rfl) (wm 5 73 rfl rfl) (by decide) hR (by decide) (n := 2) rfl rfl (Nat.le_of_ble_eq_true rfl) hl.1 dX4_workOut_293 (fun μ689 ρ d0 H locs hp G => ?_)
  obtain ⟨F_690, hI_691, hs_692⟩ := hp
  refine lv_goto (tgt := 299) hx hb dX4_workOut_296 (by decide) ?_
  have e_693 : μ689.1 33 3 = S + 1 := hs_692
  have e_694 : μ689.1 32 13 = μ.1 32 13 := (F_690.1 32 (by decide) 13)
  have e_695 : μ689.1 52 7 = n := ((F_690.1 52 (by decide) 7).trans hn.symm)
  have e_696 : μ689.1 32 12 = μ.1 32 12 := (F_690.1 32 (by decide) 12)
  have e_697 : μ689.1 60 6 = μ.1 60 6 := (F_690.1 60 (by decide) 6)
  have e_698 : μ689.1 32 10 = P := ((F_690.1 32 (by decide) 10).trans hP.symm)
  have e_699 : μ689.1 45 4 = μ.1 45 4 := (F_690.1 45 (by decide) 4)
  have e_700 : μ689.1 53 n = μ.1 53 n := (F_690.1 53 (by decide) n)
  have e_701 : μ689.1 56 n = μ.1 56 n := (F_690.1 56 (by decide) n)
  have e_702 : μ689.1 57 n = μ.1 57 n := (F_690.1 57 (by decide) n)
  have e_703 : μ689.1 58 n = μ.1 58 n := (F_690.1 58 (by decide) n)
  have e_704 : μ689.1 59 n = μ.1 59 n := (F_690.1 59 (by decide) n)
  have e_705 : ofF μ689 53 = ofF μ 53 := (ofF_fr F_690 (by decide) (by decide))
  have hup_e : hup (cdp μ P A 0) (cdp μ P A 1) S = S + 1 := by rw [← hp_16, c_35_18]; rfl
  have h0_e : (μ689.1 52 7 = n ∧ μ689.1 32 13 = 0 ∧ μ689.1 33 3 ≤ hup (cdp μ P A 0) (cdp μ P A 1) S ∧ μ689.1 32 12 = μ.1 32 12 ∧ μ689.1 32 10 = P) ∨ (μ689.1 52 7 = n ∧ μ689.1 33 3 ≤ S + 1 ∧ (μ689.1 32 13 = 1 ∨ μ689.1 32 13 = 3 ∨ μ689.1 32 13 = 4) ∧ μ689.1 32 10 = P) ∨ (n < 24 ∧ μ689.1 52 7 = n + 1 ∧ μ689.1 32 13 = 0 ∧ 0 ≤ μ689.1 53 n ∧ μ689.1 53 n ≤ 3 ∧ μ689.1 56 n ≤ S + 1000 ∧ -200000 ≤ μ689.1 57 n ∧ μ689.1 57 n + 1 ≤ hup (cdp μ P A 0) (cdp μ P A 1) S ∧ μ689.1 58 n = A ∧ μ689.1 59 n = μ.1 60 6 ∧ μ689.1 33 3 = max (μ689.1 56 n) 0) := by
    rw [hup_e]
    exact Or.inl ⟨by omega, by omega, by omega, by omega, by omega⟩
  have e_706 : μ689.1 70 2 = μ.1 70 2 := (F_690.1 70 (by decide) 2)
  have e_707 : μ689.1 70 2 = μ.1 70 2 := (F_690.1 70 (by decide) 2)
  have e_708 : μ689.1 70 8 = μ.1 70 8 := (F_690.1 70 (by decide) 8)
  have e_709 : μ689.1 70 8 = μ.1 70 8 := (F_690.1 70 (by decide) 8)
  have e_710 : μ689.1 45 1 = μ.1 45 1 := (F_690.1 45 (by decide) 1)
  have e_711 : μ689.1 70 2 = μ.1 70 2 := (F_690.1 70 (by decide) 2)
  have e_712 : μ689.1 70 1 = μ.1 70 1 := (F_690.1 70 (by decide) 1)
  have e_713 : μ689.1 70 3 = μ.1 70 3 := (F_690.1 70 (by decide) 3)
  have e_714 : μ689.1 70 6 = μ.1 70 6 := (F_690.1 70 (by decide) 6)
  have e_715 : μ689.1 32 11 = A := ((F_690.1 32 (by decide) 11).trans hA.symm)
  have e_716 : μ689.1 32 15 = μ.1 32 15 := (F_690.1 32 (by decide) 15)
  have e_717 : μ689.1 32 16 = μ.1 32 16 := (F_690.1 32 (by decide) 16)
  have e_718 : μ689.1 45 4 = μ.1 45 4 := (F_690.1 45 (by decide) 4)
  exact xr_v G hret hlk dX4_workOut_299 ⟨(Fr.tr Fr.rf F_690 (by decide)), hI_691, h0_e, (fun h9 => absurd h9 (by omega)), (by omega), (fun h9 => absurd h9 (by have h8 := hp_16; rw [c_35_18] at h8; omega)), (fun j hj => (F_690.1 53 (by decide) j)), (fun j hj => (F_690.1 54 (by decide) j)), (fun j hj => (F_690.1 55 (by decide) j)), (fun j hj => (F_690.1 56 (by decide) j)), (fun j hj => (F_690.1 57 (by decide) j)), (fun j hj => (F_690.1 58 (by decide) j)), (fun j hj => (F_690.1 59 (by decide) j)), (by omega), (by omega), (by omega), (by omega), (by omega), (by omega), (by omega)⟩
