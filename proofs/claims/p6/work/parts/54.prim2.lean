abbrev cX7_primary : ByteArray := prog_9_method_46_code
def yX7_primary : MethodName := ⟨RX7, "primary", "()V"⟩
theorem dX7_primary_0 : decode cX7_primary 0 = .ok (.aload_n 0, 1) := by decide +kernel
theorem dX7_primary_1 : decode cX7_primary 1 = .ok (.getfield 43, 3) := by decide +kernel
theorem dX7_primary_4 : decode cX7_primary 4 = .ok (.getfield 80, 3) := by decide +kernel
theorem dX7_primary_7 : decode cX7_primary 7 = .ok (.istore_n 1, 1) := by decide +kernel
theorem dX7_primary_8 : decode cX7_primary 8 = .ok (.iload_n 1, 1) := by decide +kernel
theorem dX7_primary_9 : decode cX7_primary 9 = .ok (.iconst 1, 1) := by decide +kernel
theorem dX7_primary_10 : decode cX7_primary 10 = .ok (.if_icmp .ne 37, 3) := by decide +kernel
theorem dX7_primary_13 : decode cX7_primary 13 = .ok (.aload_n 0, 1) := by decide +kernel
theorem dX7_primary_14 : decode cX7_primary 14 = .ok (.getfield 43, 3) := by decide +kernel
theorem dX7_primary_17 : decode cX7_primary 17 = .ok (.getfield 133, 3) := by decide +kernel
theorem dX7_primary_20 : decode cX7_primary 20 = .ok (.lstore_n 2, 1) := by decide +kernel
theorem dX7_primary_21 : decode cX7_primary 21 = .ok (.aload_n 0, 1) := by decide +kernel
theorem dX7_primary_22 : decode cX7_primary 22 = .ok (.getfield 43, 3) := by decide +kernel
theorem dX7_primary_25 : decode cX7_primary 25 = .ok (.getfield 96, 3) := by decide +kernel
theorem dX7_primary_28 : decode cX7_primary 28 = .ok (.istore 4, 2) := by decide +kernel
theorem dX7_primary_30 : decode cX7_primary 30 = .ok (.aload_n 0, 1) := by decide +kernel
theorem dX7_primary_31 : decode cX7_primary 31 = .ok (.getfield 43, 3) := by decide +kernel
theorem dX7_primary_34 : decode cX7_primary 34 = .ok (.invokevirtual 97, 3) := by decide +kernel
theorem dX7_primary_37 : decode cX7_primary 37 = .ok (.aload_n 0, 1) := by decide +kernel
theorem dX7_primary_38 : decode cX7_primary 38 = .ok (.lload_n 2, 1) := by decide +kernel
theorem dX7_primary_39 : decode cX7_primary 39 = .ok (.iload 4, 2) := by decide +kernel
theorem dX7_primary_41 : decode cX7_primary 41 = .ok (.invokevirtual 234, 3) := by decide +kernel
theorem dX7_primary_44 : decode cX7_primary 44 = .ok (.goto 194, 3) := by decide +kernel
theorem dX7_primary_47 : decode cX7_primary 47 = .ok (.iload_n 1, 1) := by decide +kernel
theorem dX7_primary_48 : decode cX7_primary 48 = .ok (.iconst 2, 1) := by decide +kernel
theorem dX7_primary_49 : decode cX7_primary 49 = .ok (.if_icmp .ne 10, 3) := by decide +kernel
theorem dX7_primary_52 : decode cX7_primary 52 = .ok (.aload_n 0, 1) := by decide +kernel
theorem dX7_primary_53 : decode cX7_primary 53 = .ok (.invokevirtual 285, 3) := by decide +kernel
theorem dX7_primary_56 : decode cX7_primary 56 = .ok (.goto 182, 3) := by decide +kernel
theorem dX7_primary_59 : decode cX7_primary 59 = .ok (.aload_n 0, 1) := by decide +kernel
theorem dX7_primary_60 : decode cX7_primary 60 = .ok (.sipush 223, 3) := by decide +kernel
theorem dX7_primary_63 : decode cX7_primary 63 = .ok (.invokevirtual 83, 3) := by decide +kernel
theorem dX7_primary_66 : decode cX7_primary 66 = .ok (.ifCond .eq 14, 3) := by decide +kernel
theorem dX7_primary_69 : decode cX7_primary 69 = .ok (.aload_n 0, 1) := by decide +kernel
theorem dX7_primary_70 : decode cX7_primary 70 = .ok (.iconst 3, 1) := by decide +kernel
theorem dX7_primary_71 : decode cX7_primary 71 = .ok (.iconst 0, 1) := by decide +kernel
theorem dX7_primary_72 : decode cX7_primary 72 = .ok (.iconst 0, 1) := by decide +kernel
theorem dX7_primary_73 : decode cX7_primary 73 = .ok (.invokevirtual 157, 3) := by decide +kernel
theorem dX7_primary_76 : decode cX7_primary 76 = .ok (.pop, 1) := by decide +kernel
theorem dX7_primary_77 : decode cX7_primary 77 = .ok (.goto 161, 3) := by decide +kernel
theorem dX7_primary_80 : decode cX7_primary 80 = .ok (.aload_n 0, 1) := by decide +kernel
theorem dX7_primary_81 : decode cX7_primary 81 = .ok (.sipush 224, 3) := by decide +kernel
theorem dX7_primary_84 : decode cX7_primary 84 = .ok (.invokevirtual 83, 3) := by decide +kernel
theorem dX7_primary_87 : decode cX7_primary 87 = .ok (.ifCond .eq 28, 3) := by decide +kernel
theorem dX7_primary_90 : decode cX7_primary 90 = .ok (.aload_n 0, 1) := by decide +kernel
theorem dX7_primary_91 : decode cX7_primary 91 = .ok (.bipush 91, 2) := by decide +kernel
theorem dX7_primary_93 : decode cX7_primary 93 = .ok (.bipush 93, 2) := by decide +kernel
theorem dX7_primary_95 : decode cX7_primary 95 = .ok (.invokevirtual 288, 3) := by decide +kernel
theorem dX7_primary_98 : decode cX7_primary 98 = .ok (.aload_n 0, 1) := by decide +kernel
theorem dX7_primary_99 : decode cX7_primary 99 = .ok (.bipush 9, 2) := by decide +kernel
theorem dX7_primary_101 : decode cX7_primary 101 = .ok (.iconst 0, 1) := by decide +kernel
theorem dX7_primary_102 : decode cX7_primary 102 = .ok (.iconst 0, 1) := by decide +kernel
theorem dX7_primary_103 : decode cX7_primary 103 = .ok (.aload_n 0, 1) := by decide +kernel
theorem dX7_primary_104 : decode cX7_primary 104 = .ok (.iconst (-1), 1) := by decide +kernel
theorem dX7_primary_105 : decode cX7_primary 105 = .ok (.iconst 0, 1) := by decide +kernel
theorem dX7_primary_106 : decode cX7_primary 106 = .ok (.invokevirtual 273, 3) := by decide +kernel
theorem dX7_primary_109 : decode cX7_primary 109 = .ok (.invokevirtual 230, 3) := by decide +kernel
theorem dX7_primary_112 : decode cX7_primary 112 = .ok (.goto 126, 3) := by decide +kernel
theorem dX7_primary_115 : decode cX7_primary 115 = .ok (.aload_n 0, 1) := by decide +kernel
theorem dX7_primary_116 : decode cX7_primary 116 = .ok (.sipush 225, 3) := by decide +kernel
theorem dX7_primary_119 : decode cX7_primary 119 = .ok (.invokevirtual 83, 3) := by decide +kernel
theorem dX7_primary_122 : decode cX7_primary 122 = .ok (.ifCond .eq 28, 3) := by decide +kernel
theorem dX7_primary_125 : decode cX7_primary 125 = .ok (.aload_n 0, 1) := by decide +kernel
theorem dX7_primary_126 : decode cX7_primary 126 = .ok (.bipush 40, 2) := by decide +kernel
theorem dX7_primary_128 : decode cX7_primary 128 = .ok (.bipush 41, 2) := by decide +kernel
theorem dX7_primary_130 : decode cX7_primary 130 = .ok (.invokevirtual 288, 3) := by decide +kernel
theorem dX7_primary_133 : decode cX7_primary 133 = .ok (.aload_n 0, 1) := by decide +kernel
theorem dX7_primary_134 : decode cX7_primary 134 = .ok (.bipush 10, 2) := by decide +kernel
theorem dX7_primary_136 : decode cX7_primary 136 = .ok (.iconst 0, 1) := by decide +kernel
theorem dX7_primary_137 : decode cX7_primary 137 = .ok (.iconst 0, 1) := by decide +kernel
theorem dX7_primary_138 : decode cX7_primary 138 = .ok (.aload_n 0, 1) := by decide +kernel
theorem dX7_primary_139 : decode cX7_primary 139 = .ok (.iconst (-1), 1) := by decide +kernel
theorem dX7_primary_140 : decode cX7_primary 140 = .ok (.iconst 0, 1) := by decide +kernel
theorem dX7_primary_141 : decode cX7_primary 141 = .ok (.invokevirtual 273, 3) := by decide +kernel
theorem dX7_primary_144 : decode cX7_primary 144 = .ok (.invokevirtual 230, 3) := by decide +kernel
theorem dX7_primary_147 : decode cX7_primary 147 = .ok (.goto 91, 3) := by decide +kernel
theorem dX7_primary_150 : decode cX7_primary 150 = .ok (.iload_n 1, 1) := by decide +kernel
theorem dX7_primary_151 : decode cX7_primary 151 = .ok (.bipush 40, 2) := by decide +kernel
theorem dX7_primary_153 : decode cX7_primary 153 = .ok (.if_icmp .ne 14, 3) := by decide +kernel
theorem dX7_primary_156 : decode cX7_primary 156 = .ok (.aload_n 0, 1) := by decide +kernel
theorem dX7_primary_157 : decode cX7_primary 157 = .ok (.bipush 40, 2) := by decide +kernel
theorem dX7_primary_159 : decode cX7_primary 159 = .ok (.bipush 41, 2) := by decide +kernel
theorem dX7_primary_161 : decode cX7_primary 161 = .ok (.invokevirtual 288, 3) := by decide +kernel
theorem dX7_primary_164 : decode cX7_primary 164 = .ok (.goto 74, 3) := by decide +kernel
theorem dX7_primary_167 : decode cX7_primary 167 = .ok (.aload_n 0, 1) := by decide +kernel
theorem dX7_primary_168 : decode cX7_primary 168 = .ok (.bipush 38, 2) := by decide +kernel
theorem dX7_primary_170 : decode cX7_primary 170 = .ok (.invokevirtual 83, 3) := by decide +kernel
theorem dX7_primary_173 : decode cX7_primary 173 = .ok (.ifCond .eq 10, 3) := by decide +kernel
theorem dX7_primary_176 : decode cX7_primary 176 = .ok (.aload_n 0, 1) := by decide +kernel
theorem dX7_primary_177 : decode cX7_primary 177 = .ok (.invokevirtual 291, 3) := by decide +kernel
theorem dX7_primary_180 : decode cX7_primary 180 = .ok (.goto 58, 3) := by decide +kernel
theorem dX7_primary_183 : decode cX7_primary 183 = .ok (.aload_n 0, 1) := by decide +kernel
theorem dX7_primary_184 : decode cX7_primary 184 = .ok (.invokevirtual 294, 3) := by decide +kernel
theorem dX7_primary_187 : decode cX7_primary 187 = .ok (.ifCond .eq 47, 3) := by decide +kernel
theorem dX7_primary_190 : decode cX7_primary 190 = .ok (.iload_n 1, 1) := by decide +kernel
theorem dX7_primary_191 : decode cX7_primary 191 = .ok (.sipush 229, 3) := by decide +kernel
theorem dX7_primary_194 : decode cX7_primary 194 = .ok (.isub, 1) := by decide +kernel
theorem dX7_primary_195 : decode cX7_primary 195 = .ok (.istore_n 2, 1) := by decide +kernel
theorem dX7_primary_196 : decode cX7_primary 196 = .ok (.aload_n 0, 1) := by decide +kernel
theorem dX7_primary_197 : decode cX7_primary 197 = .ok (.getfield 43, 3) := by decide +kernel
theorem dX7_primary_200 : decode cX7_primary 200 = .ok (.invokevirtual 97, 3) := by decide +kernel
theorem dX7_primary_203 : decode cX7_primary 203 = .ok (.aload_n 0, 1) := by decide +kernel
theorem dX7_primary_204 : decode cX7_primary 204 = .ok (.bipush 46, 2) := by decide +kernel
theorem dX7_primary_206 : decode cX7_primary 206 = .ok (.invokevirtual 100, 3) := by decide +kernel
theorem dX7_primary_209 : decode cX7_primary 209 = .ok (.aload_n 0, 1) := by decide +kernel
theorem dX7_primary_210 : decode cX7_primary 210 = .ok (.getfield 43, 3) := by decide +kernel
theorem dX7_primary_213 : decode cX7_primary 213 = .ok (.getfield 133, 3) := by decide +kernel
theorem dX7_primary_216 : decode cX7_primary 216 = .ok (.lstore_n 3, 1) := by decide +kernel
theorem dX7_primary_217 : decode cX7_primary 217 = .ok (.aload_n 0, 1) := by decide +kernel
theorem dX7_primary_218 : decode cX7_primary 218 = .ok (.iconst 1, 1) := by decide +kernel
theorem dX7_primary_219 : decode cX7_primary 219 = .ok (.invokevirtual 100, 3) := by decide +kernel
theorem dX7_primary_222 : decode cX7_primary 222 = .ok (.aload_n 0, 1) := by decide +kernel
theorem dX7_primary_223 : decode cX7_primary 223 = .ok (.bipush 13, 2) := by decide +kernel
theorem dX7_primary_225 : decode cX7_primary 225 = .ok (.iload_n 2, 1) := by decide +kernel
theorem dX7_primary_226 : decode cX7_primary 226 = .ok (.lload_n 3, 1) := by decide +kernel
theorem dX7_primary_227 : decode cX7_primary 227 = .ok (.iconst (-1), 1) := by decide +kernel
theorem dX7_primary_228 : decode cX7_primary 228 = .ok (.invokevirtual 297, 3) := by decide +kernel
theorem dX7_primary_231 : decode cX7_primary 231 = .ok (.goto 7, 3) := by decide +kernel
theorem dX7_primary_234 : decode cX7_primary 234 = .ok (.aload_n 0, 1) := by decide +kernel
theorem dX7_primary_235 : decode cX7_primary 235 = .ok (.invokevirtual 301, 3) := by decide +kernel
theorem dX7_primary_238 : decode cX7_primary 238 = .ok (.return_, 1) := by decide +kernel
set_option maxHeartbeats 4000000 in
set_option maxRecDepth 100000 in
theorem c_X7_primary (ω : Om) (l : Launch) (μ : M3) (F : Nat) (Lo : Nat) (kf : Int) (P : Int) (tt : Int) (hI : IC μ) (hP : P = μ.1 23 2) (htt : tt = μ.1 23 8) (hF : 60 ≤ F) (hLo : 2000 ≤ Lo) (hE : ∀ (μ : M3) (x1 : Int) (P : Int) (tt : Int) (hx1 : x1 = 0 ∨ x1 = 1) (hI : IC μ) (hP : P = μ.1 23 2) (htt : tt = μ.1 23 8) (hTK : TK μ) (hB : μ.1 P 1 ≤ 2 * μ.1 26 10 + 100 + 40 * μ.1 26 11) (hKc : μ.1 (P + 2) 3 ≤ μ.1 P 1) (ht3 : 0 ≤ tt ∧ tt ≤ 3) (hdp : 0 ≤ μ.1 23 9 ∧ μ.1 23 9 ≤ 8 + μ.1 26 11) (hfu : 0 ≤ (kf - 1) ∧ 9 ≤ μ.1 23 9 + (kf - 1) + 20 * μ.1 26 11) (hbg : ∀ _ : Unit, x1 = 0 ∨ μ.1 26 11 ≠ 0 ∨ 2 ≤ hs μ P (μ.1 P 1)), CtV ω l yX7_expression cX7_expression 3 (F + 0) (Lo + 0) [.ref (oP ω 23), .int (iv x1)] μ (fun (μ' : M3) => (Fr [2, 3, 4, 23, 24, 26, P, P + 1, P + 2, (P + 2) + 1, (P + 2) + 2, (P + 2) + 3] μ μ') ∧ (IC μ') ∧ (TK μ') ∧ (μ.1 26 11 ≤ μ'.1 26 11) ∧ (μ.1 26 10 ≤ μ'.1 26 10) ∧ (μ.1 P 1 ≤ μ'.1 P 1 ∧ μ'.1 P 1 ≤ μ.1 P 1 + 2 * (μ'.1 26 10 - μ.1 26 10) + (- 1 + 3 * μ'.1 26 11 - 2 * μ.1 26 11 + x1)) ∧ (μ'.1 (P + 2) 3 - μ.1 (P + 2) 3 ≤ μ'.1 P 1 - μ.1 P 1 ∧ μ.1 (P + 2) 3 ≤ μ'.1 (P + 2) 3) ∧ (μ'.1 26 11 = 0 → EX μ μ' P tt (1 - x1) 0) ∧ (μ'.1 23 2 = μ.1 23 2) ∧ (μ'.1 23 5 = μ.1 23 5) ∧ (μ'.1 23 6 = μ.1 23 6) ∧ (μ'.1 23 7 = μ.1 23 7) ∧ (μ'.1 23 8 = μ.1 23 8) ∧ (μ'.1 23 9 = μ.1 23 9) ∧ (μ'.1 23 10 = μ.1 23 10) ∧ (μ'.1 26 6 = μ.1 26 6) ∧ (μ'.1 P 7 = μ.1 P 7))) (hU : ∀ (μ : M3) (x1 : Int) (P : Int) (tt : Int) (hx1 : x1 = 0 ∨ x1 = 1) (hI : IC μ) (hP : P = μ.1 23 2) (htt : tt = μ.1 23 8) (hTK : TK μ) (hB : μ.1 P 1 ≤ 2 * μ.1 26 10 + 100 + 40 * μ.1 26 11) (hKc : μ.1 (P + 2) 3 ≤ μ.1 P 1) (ht3 : 0 ≤ tt ∧ tt ≤ 3) (hdp : 0 ≤ μ.1 23 9 ∧ μ.1 23 9 ≤ 8 + μ.1 26 11) (hfu : 0 ≤ (kf - 1) ∧ 9 ≤ μ.1 23 9 + (kf - 1) + 20 * μ.1 26 11) (hbg : ∀ _ : Unit, x1 = 0 ∨ μ.1 26 11 ≠ 0 ∨ 2 ≤ hs μ P (μ.1 P 1)), CtV ω l yX7_unary cX7_unary 2 (F + 0) (Lo + 0) [.ref (oP ω 23), .int (iv x1)] μ (fun (μ' : M3) => (Fr [2, 3, 4, 23, 24, 26, P, P + 1, P + 2, (P + 2) + 1, (P + 2) + 2, (P + 2) + 3] μ μ') ∧ (IC μ') ∧ (TK μ') ∧ (μ.1 26 11 ≤ μ'.1 26 11) ∧ (μ.1 26 10 ≤ μ'.1 26 10) ∧ (μ.1 P 1 ≤ μ'.1 P 1 ∧ μ'.1 P 1 ≤ μ.1 P 1 + 2 * (μ'.1 26 10 - μ.1 26 10) + (- 1 + 3 * μ'.1 26 11 - 2 * μ.1 26 11 + x1)) ∧ (μ'.1 (P + 2) 3 - μ.1 (P + 2) 3 ≤ μ'.1 P 1 - μ.1 P 1 ∧ μ.1 (P + 2) 3 ≤ μ'.1 (P + 2) 3) ∧ (μ'.1 26 11 = 0 → EX μ μ' P tt (1 - x1) 0) ∧ (μ'.1 23 2 = μ.1 23 2) ∧ (μ'.1 23 5 = μ.1 23 5) ∧ (μ'.1 23 6 = μ.1 23 6) ∧ (μ'.1 23 7 = μ.1 23 7) ∧ (μ'.1 23 8 = μ.1 23 8) ∧ (μ'.1 23 9 = μ.1 23 9) ∧ (μ'.1 23 10 = μ.1 23 10) ∧ (μ'.1 26 6 = μ.1 26 6) ∧ (μ'.1 P 7 = μ.1 P 7))) (hTK : TK μ) (hB : μ.1 P 1 ≤ 2 * μ.1 26 10 + 100 + 40 * μ.1 26 11) (hKc : μ.1 (P + 2) 3 ≤ μ.1 P 1) (ht3 : 0 ≤ tt ∧ tt ≤ 3) (hdp : 0 ≤ μ.1 23 9 ∧ μ.1 23 9 ≤ 8 + μ.1 26 11) (hfu : 0 ≤ kf ∧ 9 ≤ μ.1 23 9 + kf + 20 * μ.1 26 11) : CtV ω l yX7_primary cX7_primary 5 (F + 4) (Lo + 90) [.ref (oP ω 23)] μ (fun (μ' : M3) => (Fr [2, 3, 4, 23, 24, 26, P, P + 1, P + 2, (P + 2) + 1, (P + 2) + 2, (P + 2) + 3] μ μ') ∧ (IC μ') ∧ (TK μ') ∧ (μ.1 26 11 ≤ μ'.1 26 11) ∧ (μ.1 26 10 ≤ μ'.1 26 10) ∧ (μ.1 P 1 ≤ μ'.1 P 1 ∧ μ'.1 P 1 ≤ μ.1 P 1 + 2 * (μ'.1 26 10 - μ.1 26 10) + (- 1 + 3 * μ'.1 26 11 - 2 * μ.1 26 11)) ∧ (μ'.1 (P + 2) 3 - μ.1 (P + 2) 3 ≤ μ'.1 P 1 - μ.1 P 1 ∧ μ.1 (P + 2) 3 ≤ μ'.1 (P + 2) 3) ∧ (μ'.1 26 11 = 0 → EX μ μ' P tt 1 0) ∧ (μ'.1 23 2 = μ.1 23 2) ∧ (μ'.1 23 5 = μ.1 23 5) ∧ (μ'.1 23 6 = μ.1 23 6) ∧ (μ'.1 23 7 = μ.1 23 7) ∧ (μ'.1 23 8 = μ.1 23 8) ∧ (μ'.1 23 9 = μ.1 23 9) ∧ (μ'.1 23 10 = μ.1 23 10) ∧ (μ'.1 26 6 = μ.1 26 6) ∧ (μ'.1 P 7 = μ.1 P 7)) := by
  refine CtV.go (by decide) (Nat.le_of_ble_eq_true rfl) (fun ρ p e s m below meth c R ls G hR hret hlk hl => ?_)
  have hx := G.1.1
  have hb := G.1.2.1
  have hl : lv_has ls 5 [(0, .ref (oP ω 23))] := hl
  generalize s.drawn = d0 at G ⊢
  have hTKb := hTK.b
  have hprP : isPr P := by have h9 := G.sr0.2.2.2.2.2; rw [← hP] at h9; exact h9
  have hprP_d : 13 ≤ P ∧ P ≤ 101 := by rcases hprP with h9 | h9 | h9 | h9 | h9 <;> omega
  have hk_1 := hI.pr (p := P) hprP
  unfold pk at hk_1
  have hc_2 : 16 ≤ μ.2.1 (P + 1) ∧ μ.2.1 (P + 1) ≤ 73024 := hI.rm.1 _ hprP.cap
  have hnil : μ.1 26 11 = 0 → PXE μ μ P tt 0 (-1) 1 := fun _ => PXE.nil (by omega)
  refine lv_aload_n hx hb dX7_primary_0 rfl (lv_at hl 0 rfl) ?_
  refine xa_getr G fd_X7 (a := 23) (x := 26) 0 rfl (by decide) rfl (wm 2 17 rfl rfl) ⟨rfl, rfl, rfl⟩ dX7_primary_1 rfl (G.sk 23 rfl) (by decide) rfl ?_
  refine xa_getN G fd_X10 (host := "FourTongues") (a := 26) 12 rfl (by decide) (by decide) ⟨rfl, rfl, rfl⟩ dX7_primary_4 rfl (v := .int (iv (μ.1 26 12))) (by rw [show μ.1 26 12 = μ.1 26 12 from rfl]; rfl) ?_
  have hr_3 : -2147483648 ≤ μ.1 26 12 ∧ μ.1 26 12 ≤ 2147483647 := by have h9 := G.hr (a := 26) (k := 12) rfl; exact h9
  refine lv_istore_n (lv' := [(1, .int (iv (μ.1 26 12))), (0, .ref (oP ω 23))]) hx hb dX7_primary_7 rfl hl (by decide) rfl (fun ls hl => ?_)
  refine lv_iload_n hx hb dX7_primary_8 rfl (lv_at hl 0 rfl) ?_
  refine lv_iconst (v := iv 1) hx hb dX7_primary_9 rfl ?_
  refine xb_icmp_ne (tgt := 47) hx hb (by unfold ir; omega) (by unfold ir; omega) dX7_primary_10 (by decide) (fun c_10 => ?_) (fun c_10 => ?_)
  · refine lv_iload_n hx hb dX7_primary_47 rfl (lv_at hl 0 rfl) ?_
    refine lv_iconst (v := iv 2) hx hb dX7_primary_48 rfl ?_
    refine xb_icmp_ne (tgt := 59) hx hb (by unfold ir; omega) (by unfold ir; omega) dX7_primary_49 (by decide) (fun c_49 => ?_) (fun c_49 => ?_)
    · refine lv_aload_n hx hb dX7_primary_59 rfl (lv_at hl 1 rfl) ?_
      refine lv_sipush (v := iv 223) hx hb dX7_primary_60 rfl ?_
      have hn_4 : -1 ≤ μ.1 26 10 ∧ μ.1 26 10 ≤ 3000 := hI.nm.2.2.2.2.2.2.2.2.2.2.2.2
      refine xc_iV G (b := 23) (rest := []) (As := [.int (iv 223)]) (c_X7_took_b ω l μ 223 (by unfold ir; omega) hI hTK (by omega)) (wm 3 160 rfl rfl) (wm 3 162 rfl rfl) (wm 0 9 rfl rfl) rfl rfl (by decide) rfl (wm 1 12 rfl rfl) (wm 3 163 rfl rfl) (by decide) hR ⟨nfr hF (by decide), nlo hLo (by decide)⟩ (n := 1) rfl rfl (Nat.le_of_ble_eq_true rfl) hl.1 dX7_primary_63 (fun r_6 μ5 ρ d0 H locs hr_r_6 hp G => ?_)
      have hr_r_6 : -2147483648 ≤ r_6 ∧ r_6 ≤ 2147483647 := hr_r_6
      obtain ⟨F_7, hI_8, hp_9, hp_10, hs_11, hs_12, hs_13, hs_14, hs_15⟩ := hp
      have hn_16 : -1 ≤ μ5.1 26 10 ∧ μ5.1 26 10 ≤ 3000 := hI_8.nm.2.2.2.2.2.2.2.2.2.2.2.2
      have htb_17 := hp_9.b
      refine xb_if_eq (tgt := 80) hx hb (by unfold ir; omega) dX7_primary_66 (by decide) (fun c_66 => ?_) (fun c_66 => ?_)
      · refine lv_aload_n hx hb dX7_primary_80 rfl (lv_at hl 1 rfl) ?_
        refine lv_sipush (v := iv 224) hx hb dX7_primary_81 rfl ?_
        have hpx_18 : μ5.1 26 11 = 0 → PXE μ μ5 P tt 0 (-1) 1 := fun h0 => (hnil (by have h9 : μ.1 26 11 = μ.1 26 11 := rfl; have h8 : μ5.1 26 11 = μ.1 26 11 := hs_11; omega)).fr (K := [26]) (Fr.tr Fr.rf F_7 (by decide)) (npL_p (L := [26]) (by decide) hprP).1 (npL_p (L := [26]) (by decide) hprP).2.1
        have e_19 : μ5.1 26 11 = μ.1 26 11 := hs_11
        refine xc_iV G (b := 23) (rest := []) (As := [.int (iv 224)]) (c_X7_took_b ω l μ5 224 (by unfold ir; omega) hI_8 hp_9 (by omega)) (wm 3 160 rfl rfl) (wm 3 162 rfl rfl) (wm 0 9 rfl rfl) rfl rfl (by decide) rfl (wm 1 12 rfl rfl) (wm 3 163 rfl rfl) (by decide) hR ⟨nfr hF (by decide), nlo hLo (by decide)⟩ (n := 1) rfl rfl (Nat.le_of_ble_eq_true rfl) hl.1 dX7_primary_84 (fun r_21 μ20 ρ d0 H locs hr_r_21 hp G => ?_)
        have hr_r_21 : -2147483648 ≤ r_21 ∧ r_21 ≤ 2147483647 := hr_r_21
        obtain ⟨F_22, hI_23, hp_24, hp_25, hs_26, hs_27, hs_28, hs_29, hs_30⟩ := hp
        have hn_31 : -1 ≤ μ20.1 26 10 ∧ μ20.1 26 10 ≤ 3000 := hI_23.nm.2.2.2.2.2.2.2.2.2.2.2.2
        have htb_32 := hp_24.b
        refine xb_if_eq (tgt := 115) hx hb (by unfold ir; omega) dX7_primary_87 (by decide) (fun c_87 => ?_) (fun c_87 => ?_)
        · refine lv_aload_n hx hb dX7_primary_115 rfl (lv_at hl 1 rfl) ?_
          refine lv_sipush (v := iv 225) hx hb dX7_primary_116 rfl ?_
          have hpx_33 : μ20.1 26 11 = 0 → PXE μ μ20 P tt 0 (-1) 1 := fun h0 => (hpx_18 (by have h9 : μ5.1 26 11 = μ.1 26 11 := hs_11; have h8 : μ20.1 26 11 = μ.1 26 11 := (hs_26.trans hs_11); omega)).fr (K := [26]) (Fr.tr Fr.rf F_22 (by decide)) (npL_p (L := [26]) (by decide) hprP).1 (npL_p (L := [26]) (by decide) hprP).2.1
          have e_34 : μ20.1 26 11 = μ.1 26 11 := (hs_26.trans hs_11)
          refine xc_iV G (b := 23) (rest := []) (As := [.int (iv 225)]) (c_X7_took_b ω l μ20 225 (by unfold ir; omega) hI_23 hp_24 (by omega)) (wm 3 160 rfl rfl) (wm 3 162 rfl rfl) (wm 0 9 rfl rfl) rfl rfl (by decide) rfl (wm 1 12 rfl rfl) (wm 3 163 rfl rfl) (by decide) hR ⟨nfr hF (by decide), nlo hLo (by decide)⟩ (n := 1) rfl rfl (Nat.le_of_ble_eq_true rfl) hl.1 dX7_primary_119 (fun r_36 μ35 ρ d0 H locs hr_r_36 hp G => ?_)
          have hr_r_36 : -2147483648 ≤ r_36 ∧ r_36 ≤ 2147483647 := hr_r_36
          obtain ⟨F_37, hI_38, hp_39, hp_40, hs_41, hs_42, hs_43, hs_44, hs_45⟩ := hp
          have hn_46 : -1 ≤ μ35.1 26 10 ∧ μ35.1 26 10 ≤ 3000 := hI_38.nm.2.2.2.2.2.2.2.2.2.2.2.2
          have htb_47 := hp_39.b
          refine xb_if_eq (tgt := 150) hx hb (by unfold ir; omega) dX7_primary_122 (by decide) (fun c_122 => ?_) (fun c_122 => ?_)
          · refine lv_iload_n hx hb dX7_primary_150 rfl (lv_at hl 0 rfl) ?_
            refine lv_bipush (v := iv 40) hx hb dX7_primary_151 rfl ?_
            refine xb_icmp_ne (tgt := 167) hx hb (by unfold ir; omega) (by unfold ir; omega) dX7_primary_153 (by decide) (fun c_153 => ?_) (fun c_153 => ?_)
            · refine lv_aload_n hx hb dX7_primary_167 rfl (lv_at hl 1 rfl) ?_
              refine lv_bipush (v := iv 38) hx hb dX7_primary_168 rfl ?_
              have hpx_48 : μ35.1 26 11 = 0 → PXE μ μ35 P tt 0 (-1) 1 := fun h0 => (hpx_33 (by have h9 : μ20.1 26 11 = μ.1 26 11 := (hs_26.trans hs_11); have h8 : μ35.1 26 11 = μ.1 26 11 := (hs_41.trans (hs_26.trans hs_11)); omega)).fr (K := [26]) (Fr.tr Fr.rf F_37 (by decide)) (npL_p (L := [26]) (by decide) hprP).1 (npL_p (L := [26]) (by decide) hprP).2.1
              have e_49 : μ35.1 26 11 = μ.1 26 11 := (hs_41.trans (hs_26.trans hs_11))
              refine xc_iV G (b := 23) (rest := []) (As := [.int (iv 38)]) (c_X7_took_b ω l μ35 38 (by unfold ir; omega) hI_38 hp_39 (by omega)) (wm 3 160 rfl rfl) (wm 3 162 rfl rfl) (wm 0 9 rfl rfl) rfl rfl (by decide) rfl (wm 1 12 rfl rfl) (wm 3 163 rfl rfl) (by decide) hR ⟨nfr hF (by decide), nlo hLo (by decide)⟩ (n := 1) rfl rfl (Nat.le_of_ble_eq_true rfl) hl.1 dX7_primary_170 (fun r_51 μ50 ρ d0 H locs hr_r_51 hp G => ?_)
              have hr_r_51 : -2147483648 ≤ r_51 ∧ r_51 ≤ 2147483647 := hr_r_51
              obtain ⟨F_52, hI_53, hp_54, hp_55, hs_56, hs_57, hs_58, hs_59, hs_60⟩ := hp
              have hn_61 : -1 ≤ μ50.1 26 10 ∧ μ50.1 26 10 ≤ 3000 := hI_53.nm.2.2.2.2.2.2.2.2.2.2.2.2
              have htb_62 := hp_54.b
              refine xb_if_eq (tgt := 183) hx hb (by unfold ir; omega) dX7_primary_173 (by decide) (fun c_173 => ?_) (fun c_173 => ?_)
              · refine lv_aload_n hx hb dX7_primary_183 rfl (lv_at hl 1 rfl) ?_
                have hpx_63 : μ50.1 26 11 = 0 → PXE μ μ50 P tt 0 (-1) 1 := fun h0 => (hpx_48 (by have h9 : μ35.1 26 11 = μ.1 26 11 := (hs_41.trans (hs_26.trans hs_11)); have h8 : μ50.1 26 11 = μ.1 26 11 := (hs_56.trans (hs_41.trans (hs_26.trans hs_11))); omega)).fr (K := [26]) (Fr.tr Fr.rf F_52 (by decide)) (npL_p (L := [26]) (by decide) hprP).1 (npL_p (L := [26]) (by decide) hprP).2.1
                refine xc_iV G (b := 23) (rest := []) (As := []) (c_X7_isTongueWord ω l μ50  hI_53) (wm 4 104 rfl rfl) (wm 4 106 rfl rfl) (wm 0 42 rfl rfl) rfl rfl (by decide) rfl (wm 1 12 rfl rfl) (wm 4 107 rfl rfl) (by decide) hR ⟨nfr hF (by decide), nlo hLo (by decide)⟩ (n := 0) rfl rfl (Nat.le_of_ble_eq_true rfl) hl.1 dX7_primary_184 (fun r_65 μ64 ρ d0 H locs hr_r_65 hp G => ?_)
                have hr_r_65 : -2147483648 ≤ r_65 ∧ r_65 ≤ 2147483647 := hr_r_65
                obtain ⟨hsm_66, hp_67⟩ := hp
                have hsm_66 := Eq.symm hsm_66
                subst hsm_66
                refine xb_if_eq (tgt := 234) hx hb (by unfold ir; omega) dX7_primary_187 (by decide) (fun c_187 => ?_) (fun c_187 => ?_)
                · refine lv_aload_n hx hb dX7_primary_234 rfl (lv_at hl 1 rfl) ?_
                  have e_68 : μ50.1 23 2 = P := ((F_52.1 23 (by decide) 2).trans ((F_37.1 23 (by decide) 2).trans ((F_22.1 23 (by decide) 2).trans ((F_7.1 23 (by decide) 2).trans hP.symm))))
                  have e_69 : μ50.1 23 8 = tt := ((F_52.1 23 (by decide) 8).trans ((F_37.1 23 (by decide) 8).trans ((F_22.1 23 (by decide) 8).trans ((F_7.1 23 (by decide) 8).trans htt.symm))))
                  have e_70 : μ50.1 P 1 = μ.1 P 1 := ((F_52.1 P (ni hprP (fun P => P) (fun P => [26]) rfl) 1).trans ((F_37.1 P (ni hprP (fun P => P) (fun P => [26]) rfl) 1).trans ((F_22.1 P (ni hprP (fun P => P) (fun P => [26]) rfl) 1).trans (F_7.1 P (ni hprP (fun P => P) (fun P => [26]) rfl) 1))))
                  have e_71 : μ50.1 26 11 = μ.1 26 11 := (hs_56.trans (hs_41.trans (hs_26.trans hs_11)))
                  have hk_72 := hI.row (r := P + 2) (hprP.row)
                  unfold rk at hk_72
                  have e_73 : μ50.1 (P + 2) 3 = μ.1 (P + 2) 3 := ((F_52.1 (P + 2) (ni hprP (fun P => P + 2) (fun P => [26]) rfl) 3).trans ((F_37.1 (P + 2) (ni hprP (fun P => P + 2) (fun P => [26]) rfl) 3).trans ((F_22.1 (P + 2) (ni hprP (fun P => P + 2) (fun P => [26]) rfl) 3).trans (F_7.1 (P + 2) (ni hprP (fun P => P + 2) (fun P => [26]) rfl) 3))))
                  have e_74 : μ50.1 P 1 = μ.1 P 1 := ((F_52.1 P (ni hprP (fun P => P) (fun P => [26]) rfl) 1).trans ((F_37.1 P (ni hprP (fun P => P) (fun P => [26]) rfl) 1).trans ((F_22.1 P (ni hprP (fun P => P) (fun P => [26]) rfl) 1).trans (F_7.1 P (ni hprP (fun P => P) (fun P => [26]) rfl) 1))))
                  have e_75 : μ50.1 23 9 = μ.1 23 9 := ((F_52.1 23 (by decide) 9).trans ((F_37.1 23 (by decide) 9).trans ((F_22.1 23 (by decide) 9).trans (F_7.1 23 (by decide) 9))))
                  have e_76 : μ50.1 23 9 = μ.1 23 9 := ((F_52.1 23 (by decide) 9).trans ((F_37.1 23 (by decide) 9).trans ((F_22.1 23 (by decide) 9).trans (F_7.1 23 (by decide) 9))))
                  have e_77 : μ50.1 26 11 = μ.1 26 11 := (hs_56.trans (hs_41.trans (hs_26.trans hs_11)))
                  have e_78 : μ50.1 23 9 = μ.1 23 9 := ((F_52.1 23 (by decide) 9).trans ((F_37.1 23 (by decide) 9).trans ((F_22.1 23 (by decide) 9).trans (F_7.1 23 (by decide) 9))))
                  have e_79 : μ50.1 26 11 = μ.1 26 11 := (hs_56.trans (hs_41.trans (hs_26.trans hs_11)))
                  have e_80 : μ50.1 26 11 = μ.1 26 11 := (hs_56.trans (hs_41.trans (hs_26.trans hs_11)))
                  have e_81 : μ50.1 P 1 = μ.1 P 1 := ((F_52.1 P (ni hprP (fun P => P) (fun P => [26]) rfl) 1).trans ((F_37.1 P (ni hprP (fun P => P) (fun P => [26]) rfl) 1).trans ((F_22.1 P (ni hprP (fun P => P) (fun P => [26]) rfl) 1).trans (F_7.1 P (ni hprP (fun P => P) (fun P => [26]) rfl) 1))))
                  have e_82 : μ50.1 P 1 = μ.1 P 1 := ((F_52.1 P (ni hprP (fun P => P) (fun P => [26]) rfl) 1).trans ((F_37.1 P (ni hprP (fun P => P) (fun P => [26]) rfl) 1).trans ((F_22.1 P (ni hprP (fun P => P) (fun P => [26]) rfl) 1).trans (F_7.1 P (ni hprP (fun P => P) (fun P => [26]) rfl) 1))))
                  have e_83 : μ50.1 26 11 = μ.1 26 11 := (hs_56.trans (hs_41.trans (hs_26.trans hs_11)))
                  have e_84 : μ50.1 (P + 2) 3 = μ.1 (P + 2) 3 := ((F_52.1 (P + 2) (ni hprP (fun P => P + 2) (fun P => [26]) rfl) 3).trans ((F_37.1 (P + 2) (ni hprP (fun P => P + 2) (fun P => [26]) rfl) 3).trans ((F_22.1 (P + 2) (ni hprP (fun P => P + 2) (fun P => [26]) rfl) 3).trans (F_7.1 (P + 2) (ni hprP (fun P => P + 2) (fun P => [26]) rfl) 3))))
                  have e_85 : μ50.1 P 1 = μ.1 P 1 := ((F_52.1 P (ni hprP (fun P => P) (fun P => [26]) rfl) 1).trans ((F_37.1 P (ni hprP (fun P => P) (fun P => [26]) rfl) 1).trans ((F_22.1 P (ni hprP (fun P => P) (fun P => [26]) rfl) 1).trans (F_7.1 P (ni hprP (fun P => P) (fun P => [26]) rfl) 1))))
                  have e_86 : μ50.1 (P + 2) 3 = μ.1 (P + 2) 3 := ((F_52.1 (P + 2) (ni hprP (fun P => P + 2) (fun P => [26]) rfl) 3).trans ((F_37.1 (P + 2) (ni hprP (fun P => P + 2) (fun P => [26]) rfl) 3).trans ((F_22.1 (P + 2) (ni hprP (fun P => P + 2) (fun P => [26]) rfl) 3).trans (F_7.1 (P + 2) (ni hprP (fun P => P + 2) (fun P => [26]) rfl) 3))))
                  refine xc_vV G (b := 23) (rest := []) (As := []) (c_X7_ownPrimary ω l μ50 F Lo kf P tt hI_53 (by omega) (by omega) hF hLo hE hU hp_54 (by omega) (by omega) (by omega) (by omega) (by omega)) (wm 4 108 rfl rfl) (wm 4 110 rfl rfl) (wm 0 43 rfl rfl) rfl rfl (by decide) rfl (wm 1 12 rfl rfl) (wm 4 111 rfl rfl) (by decide) hR ⟨sfr (F := F) (a := 2) (by decide), slo (L := Lo) (m := 2) (a := 44) (by decide)⟩ (n := 0) rfl rfl (Nat.le_of_ble_eq_true rfl) hl.1 dX7_primary_235 (fun μ87 ρ d0 H locs hp G => ?_)
                  obtain ⟨F_88, hI_89, hp_90, hp_91, hp_92, hp_93, hp_94, hp_95, hs_96, hs_97, hs_98, hs_99, hs_100, hs_101, hs_102, hs_103, hs_104⟩ := hp
                  have hn_105 : -1 ≤ μ87.1 26 10 ∧ μ87.1 26 10 ≤ 3000 := hI_89.nm.2.2.2.2.2.2.2.2.2.2.2.2
                  have hk_106 := hI_89.pr (p := P) hprP
                  unfold pk at hk_106
                  have hc_107 : 16 ≤ μ87.2.1 (P + 1) ∧ μ87.2.1 (P + 1) ≤ 73024 := hI_89.rm.1 _ hprP.cap
                  have hk_108 := hI_89.row (r := P + 2) (hprP.row)
                  unfold rk at hk_108
                  have htb_109 := hp_90.b
                  have hpx_110 : μ87.1 26 11 = 0 → PXE μ μ87 P tt 1 (-1) 1 := fun h0 => (PXE.app (hpx_63 (by have h9 : μ50.1 26 11 = μ.1 26 11 := (hs_56.trans (hs_41.trans (hs_26.trans hs_11))); have h8 : μ87.1 26 11 = μ87.1 26 11 := rfl; omega)) (hp_95 h0)).e (by omega)
                  exact xr_v G hret hlk dX7_primary_238 ⟨(Fr.tr (Fr.tr (Fr.tr (Fr.tr (Fr.tr Fr.rf F_7 (si hprP (fun P => [26]) (fun P => [2, 3, 4, 23, 24, 26, P, P + 1, P + 2, (P + 2) + 1, (P + 2) + 2, (P + 2) + 3]) rfl)) F_22 (si hprP (fun P => [26]) (fun P => [2, 3, 4, 23, 24, 26, P, P + 1, P + 2, (P + 2) + 1, (P + 2) + 2, (P + 2) + 3]) rfl)) F_37 (si hprP (fun P => [26]) (fun P => [2, 3, 4, 23, 24, 26, P, P + 1, P + 2, (P + 2) + 1, (P + 2) + 2, (P + 2) + 3]) rfl)) F_52 (si hprP (fun P => [26]) (fun P => [2, 3, 4, 23, 24, 26, P, P + 1, P + 2, (P + 2) + 1, (P + 2) + 2, (P + 2) + 3]) rfl)) F_88 (si hprP (fun P => [2, 3, 4, 23, 24, 26, P, P + 1, P + 2, (P + 2) + 1, (P + 2) + 2, (P + 2) + 3]) (fun P => [2, 3, 4, 23, 24, 26, P, P + 1, P + 2, (P + 2) + 1, (P + 2) + 2, (P + 2) + 3]) rfl)), hI_89, hp_90, (by omega), (by omega), (by omega), (by omega), (fun h0 => (PXE.ex (hpx_110 h0)).e (by omega)), ((hs_96.trans ((F_52.1 23 (by decide) 2).trans ((F_37.1 23 (by decide) 2).trans ((F_22.1 23 (by decide) 2).trans ((F_7.1 23 (by decide) 2).trans hP.symm)))))).trans hP, (hs_97.trans ((F_52.1 23 (by decide) 5).trans ((F_37.1 23 (by decide) 5).trans ((F_22.1 23 (by decide) 5).trans (F_7.1 23 (by decide) 5))))), (hs_98.trans ((F_52.1 23 (by decide) 6).trans ((F_37.1 23 (by decide) 6).trans ((F_22.1 23 (by decide) 6).trans (F_7.1 23 (by decide) 6))))), (hs_99.trans ((F_52.1 23 (by decide) 7).trans ((F_37.1 23 (by decide) 7).trans ((F_22.1 23 (by decide) 7).trans (F_7.1 23 (by decide) 7))))), ((hs_100.trans ((F_52.1 23 (by decide) 8).trans ((F_37.1 23 (by decide) 8).trans ((F_22.1 23 (by decide) 8).trans ((F_7.1 23 (by decide) 8).trans htt.symm)))))).trans htt, (hs_101.trans ((F_52.1 23 (by decide) 9).trans ((F_37.1 23 (by decide) 9).trans ((F_22.1 23 (by decide) 9).trans (F_7.1 23 (by decide) 9))))), (hs_102.trans ((F_52.1 23 (by decide) 10).trans ((F_37.1 23 (by decide) 10).trans ((F_22.1 23 (by decide) 10).trans (F_7.1 23 (by decide) 10))))), (hs_103.trans (hs_57.trans (hs_42.trans (hs_27.trans hs_12)))), (hs_104.trans ((F_52.1 P (ni hprP (fun P => P) (fun P => [26]) rfl) 7).trans ((F_37.1 P (ni hprP (fun P => P) (fun P => [26]) rfl) 7).trans ((F_22.1 P (ni hprP (fun P => P) (fun P => [26]) rfl) 7).trans (F_7.1 P (ni hprP (fun P => P) (fun P => [26]) rfl) 7)))))⟩
                · refine lv_iload_n hx hb dX7_primary_190 rfl (lv_at hl 0 rfl) ?_
                  refine lv_sipush (v := iv 229) hx hb dX7_primary_191 rfl ?_
                  refine xb_isub hx hb dX7_primary_194 ?_
                  refine lv_istore_n (lv' := [(2, .int (iv ((μ.1 26 12) - 229))), (1, .int (iv (μ.1 26 12))), (0, .ref (oP ω 23))]) hx hb dX7_primary_195 rfl hl (by decide) rfl (fun ls hl => ?_)
                  refine lv_aload_n hx hb dX7_primary_196 rfl (lv_at hl 2 rfl) ?_
                  refine xa_getr G fd_X7 (a := 23) (x := 26) 0 rfl (by decide) rfl (wm 2 17 rfl rfl) ⟨rfl, rfl, rfl⟩ dX7_primary_197 rfl (G.sk 23 rfl) (by decide) rfl ?_
                  have hn_111 : 0 ≤ μ.1 26 6 ∧ μ.1 26 6 ≤ 3001 := hI.nm.2.2.2.2.2.2.2.2.2.1
                  have e_112 : μ50.1 26 6 = μ.1 26 6 := (hs_57.trans (hs_42.trans (hs_27.trans hs_12)))
                  have e_113 : μ50.1 26 11 = μ.1 26 11 := (hs_56.trans (hs_41.trans (hs_26.trans hs_11)))
                  have e_114 : μ50.1 26 11 = μ.1 26 11 := (hs_56.trans (hs_41.trans (hs_26.trans hs_11)))
                  have e_115 : μ50.1 26 6 = μ.1 26 6 := (hs_57.trans (hs_42.trans (hs_27.trans hs_12)))
                  have e_116 : μ50.1 26 6 = μ.1 26 6 := (hs_57.trans (hs_42.trans (hs_27.trans hs_12)))
                  refine xc_vV G (b := 26) (rest := []) (As := []) (c_X10_next ω l μ50  hI_53 (by omega) (by omega)) (wm 3 164 rfl rfl) (wm 3 157 rfl rfl) (wm 3 158 rfl rfl) rfl rfl (by decide) rfl (wm 1 13 rfl rfl) (wm 3 159 rfl rfl) (by decide) hR ⟨nfr hF (by decide), nlo hLo (by decide)⟩ (n := 0) rfl rfl (Nat.le_of_ble_eq_true rfl) hl.1 dX7_primary_200 (fun μ117 ρ d0 H locs hp G => ?_)
                  obtain ⟨F_118, hI_119, hp_120, hs_121, hs_122, hs_123, hs_124, hs_125⟩ := hp
                  have hn_126 : -1 ≤ μ117.1 26 10 ∧ μ117.1 26 10 ≤ 3000 := hI_119.nm.2.2.2.2.2.2.2.2.2.2.2.2
                  obtain ⟨htk_127, htk_127_s, htk_127_n⟩ := TK.nx hp_54 F_118 (((hs_122.trans (hs_57.trans (hs_42.trans (hs_27.trans hs_12))))).trans ((hs_57.trans (hs_42.trans (hs_27.trans hs_12)))).symm) (((hs_121.trans (hs_56.trans (hs_41.trans (hs_26.trans hs_11))))).trans ((hs_56.trans (hs_41.trans (hs_26.trans hs_11)))).symm) (by have h9 : μ50.1 26 12 = μ50.1 26 12 := rfl; omega) hp_120
                  clear hp_120
                  have e_128 : μ50.1 26 11 = μ.1 26 11 := (hs_56.trans (hs_41.trans (hs_26.trans hs_11)))
                  have htb_129 := htk_127.b
                  refine lv_aload_n hx hb dX7_primary_203 rfl (lv_at hl 2 rfl) ?_
                  refine lv_bipush (v := iv 46) hx hb dX7_primary_204 rfl ?_
                  have hpx_130 : μ117.1 26 11 = 0 → PXE μ μ117 P tt 0 (-1) 1 := fun h0 => (hpx_63 (by have h9 : μ50.1 26 11 = μ.1 26 11 := (hs_56.trans (hs_41.trans (hs_26.trans hs_11))); have h8 : μ117.1 26 11 = μ.1 26 11 := (hs_121.trans (hs_56.trans (hs_41.trans (hs_26.trans hs_11)))); omega)).fr (K := [26]) (Fr.tr Fr.rf F_118 (by decide)) (npL_p (L := [26]) (by decide) hprP).1 (npL_p (L := [26]) (by decide) hprP).2.1
                  have e_131 : μ117.1 26 11 = μ.1 26 11 := (hs_121.trans (hs_56.trans (hs_41.trans (hs_26.trans hs_11))))
                  refine xc_vV G (b := 23) (rest := []) (As := [.int (iv 46)]) (c_X7_need_b ω l μ117 46 (by unfold ir; omega) hI_119 htk_127 (by omega)) (wm 3 169 rfl rfl) (wm 3 171 rfl rfl) (wm 0 11 rfl rfl) rfl rfl (by decide) rfl (wm 1 12 rfl rfl) (wm 3 172 rfl rfl) (by decide) hR ⟨nfr hF (by decide), nlo hLo (by decide)⟩ (n := 1) rfl rfl (Nat.le_of_ble_eq_true rfl) hl.1 dX7_primary_206 (fun μ132 ρ d0 H locs hp G => ?_)
                  obtain ⟨F_133, hI_134, hp_135, hp_136, hp_137, hs_138, hs_139, hs_140, hs_141⟩ := hp
                  have hn_142 : -1 ≤ μ132.1 26 10 ∧ μ132.1 26 10 ≤ 3000 := hI_134.nm.2.2.2.2.2.2.2.2.2.2.2.2
                  have htb_143 := hp_135.b
                  refine lv_aload_n hx hb dX7_primary_209 rfl (lv_at hl 2 rfl) ?_
                  refine xa_getr G fd_X7 (a := 23) (x := 26) 0 rfl (by decide) rfl (wm 2 17 rfl rfl) ⟨rfl, rfl, rfl⟩ dX7_primary_210 rfl (G.sk 23 rfl) (by decide) rfl ?_
                  refine xa_getN G fd_X10 (host := "FourTongues") (a := 26) 14 rfl (by decide) (by decide) ⟨rfl, rfl, rfl⟩ dX7_primary_213 rfl (v := .long (jv (μ132.1 26 14))) (by rw [show μ132.1 26 14 = μ132.1 26 14 from rfl]; rfl) ?_
                  have hj_144 : jr (μ132.1 26 14) := by have h9 := G.hj (a := 26) (k := 14) rfl; exact h9
                  refine lv_lstore_n (lv' := [(3, .long (jv (μ132.1 26 14))), (2, .int (iv ((μ.1 26 12) - 229))), (1, .int (iv (μ.1 26 12))), (0, .ref (oP ω 23))]) hx hb dX7_primary_216 rfl hl (by decide) rfl (fun ls hl => ?_)
                  refine lv_aload_n hx hb dX7_primary_217 rfl (lv_at hl 3 rfl) ?_
                  refine lv_iconst (v := iv 1) hx hb dX7_primary_218 rfl ?_
                  have hpx_145 : μ132.1 26 11 = 0 → PXE μ μ132 P tt 0 (-1) 1 := fun h0 => (hpx_130 (by have h9 : μ117.1 26 11 = μ.1 26 11 := (hs_121.trans (hs_56.trans (hs_41.trans (hs_26.trans hs_11)))); have h8 : μ132.1 26 11 = μ132.1 26 11 := rfl; omega)).fr (K := [26]) (Fr.tr Fr.rf F_133 (by decide)) (npL_p (L := [26]) (by decide) hprP).1 (npL_p (L := [26]) (by decide) hprP).2.1
                  refine xc_vV G (b := 23) (rest := []) (As := [.int (iv 1)]) (c_X7_need_b ω l μ132 1 (by unfold ir; omega) hI_134 hp_135 (by omega)) (wm 3 169 rfl rfl) (wm 3 171 rfl rfl) (wm 0 11 rfl rfl) rfl rfl (by decide) rfl (wm 1 12 rfl rfl) (wm 3 172 rfl rfl) (by decide) hR ⟨nfr hF (by decide), nlo hLo (by decide)⟩ (n := 1) rfl rfl (Nat.le_of_ble_eq_true rfl) hl.1 dX7_primary_219 (fun μ146 ρ d0 H locs hp G => ?_)
                  obtain ⟨F_147, hI_148, hp_149, hp_150, hp_151, hs_152, hs_153, hs_154, hs_155⟩ := hp
                  have hn_156 : -1 ≤ μ146.1 26 10 ∧ μ146.1 26 10 ≤ 3000 := hI_148.nm.2.2.2.2.2.2.2.2.2.2.2.2
                  have htb_157 := hp_149.b
                  refine lv_aload_n hx hb dX7_primary_222 rfl (lv_at hl 3 rfl) ?_
                  refine lv_bipush (v := iv 13) hx hb dX7_primary_223 rfl ?_
                  refine lv_iload_n hx hb dX7_primary_225 rfl (lv_at hl 1 rfl) ?_
                  refine lv_lload_n hx hb dX7_primary_226 rfl (lv_at hl 0 rfl) ?_
                  refine lv_iconst (v := iv (-1)) hx hb dX7_primary_227 rfl ?_
                  have hpx_158 : μ146.1 26 11 = 0 → PXE μ μ146 P tt 0 (-1) 1 := fun h0 => (hpx_145 (by have h9 : μ132.1 26 11 = μ132.1 26 11 := rfl; have h8 : μ146.1 26 11 = μ146.1 26 11 := rfl; omega)).fr (K := [26]) (Fr.tr Fr.rf F_147 (by decide)) (npL_p (L := [26]) (by decide) hprP).1 (npL_p (L := [26]) (by decide) hprP).2.1
                  have e_159 : μ146.1 23 2 = P := ((F_147.1 23 (by decide) 2).trans ((F_133.1 23 (by decide) 2).trans ((F_118.1 23 (by decide) 2).trans ((F_52.1 23 (by decide) 2).trans ((F_37.1 23 (by decide) 2).trans ((F_22.1 23 (by decide) 2).trans ((F_7.1 23 (by decide) 2).trans hP.symm)))))))
                  have e_160 : μ146.1 23 8 = tt := ((F_147.1 23 (by decide) 8).trans ((F_133.1 23 (by decide) 8).trans ((F_118.1 23 (by decide) 8).trans ((F_52.1 23 (by decide) 8).trans ((F_37.1 23 (by decide) 8).trans ((F_22.1 23 (by decide) 8).trans ((F_7.1 23 (by decide) 8).trans htt.symm)))))))
                  have e_161 : μ146.1 P 1 = μ.1 P 1 := ((F_147.1 P (ni hprP (fun P => P) (fun P => [26]) rfl) 1).trans ((F_133.1 P (ni hprP (fun P => P) (fun P => [26]) rfl) 1).trans ((F_118.1 P (ni hprP (fun P => P) (fun P => [26]) rfl) 1).trans ((F_52.1 P (ni hprP (fun P => P) (fun P => [26]) rfl) 1).trans ((F_37.1 P (ni hprP (fun P => P) (fun P => [26]) rfl) 1).trans ((F_22.1 P (ni hprP (fun P => P) (fun P => [26]) rfl) 1).trans (F_7.1 P (ni hprP (fun P => P) (fun P => [26]) rfl) 1)))))))
                  have hk_162 := hI.row (r := P + 2) (hprP.row)
                  unfold rk at hk_162
                  have e_163 : μ146.1 (P + 2) 3 = μ.1 (P + 2) 3 := ((F_147.1 (P + 2) (ni hprP (fun P => P + 2) (fun P => [26]) rfl) 3).trans ((F_133.1 (P + 2) (ni hprP (fun P => P + 2) (fun P => [26]) rfl) 3).trans ((F_118.1 (P + 2) (ni hprP (fun P => P + 2) (fun P => [26]) rfl) 3).trans ((F_52.1 (P + 2) (ni hprP (fun P => P + 2) (fun P => [26]) rfl) 3).trans ((F_37.1 (P + 2) (ni hprP (fun P => P + 2) (fun P => [26]) rfl) 3).trans ((F_22.1 (P + 2) (ni hprP (fun P => P + 2) (fun P => [26]) rfl) 3).trans (F_7.1 (P + 2) (ni hprP (fun P => P + 2) (fun P => [26]) rfl) 3)))))))
                  have e_164 : μ146.1 P 1 = μ.1 P 1 := ((F_147.1 P (ni hprP (fun P => P) (fun P => [26]) rfl) 1).trans ((F_133.1 P (ni hprP (fun P => P) (fun P => [26]) rfl) 1).trans ((F_118.1 P (ni hprP (fun P => P) (fun P => [26]) rfl) 1).trans ((F_52.1 P (ni hprP (fun P => P) (fun P => [26]) rfl) 1).trans ((F_37.1 P (ni hprP (fun P => P) (fun P => [26]) rfl) 1).trans ((F_22.1 P (ni hprP (fun P => P) (fun P => [26]) rfl) 1).trans (F_7.1 P (ni hprP (fun P => P) (fun P => [26]) rfl) 1)))))))
                  have e_165 : μ146.1 23 9 = μ.1 23 9 := ((F_147.1 23 (by decide) 9).trans ((F_133.1 23 (by decide) 9).trans ((F_118.1 23 (by decide) 9).trans ((F_52.1 23 (by decide) 9).trans ((F_37.1 23 (by decide) 9).trans ((F_22.1 23 (by decide) 9).trans (F_7.1 23 (by decide) 9)))))))
                  have e_166 : μ146.1 23 9 = μ.1 23 9 := ((F_147.1 23 (by decide) 9).trans ((F_133.1 23 (by decide) 9).trans ((F_118.1 23 (by decide) 9).trans ((F_52.1 23 (by decide) 9).trans ((F_37.1 23 (by decide) 9).trans ((F_22.1 23 (by decide) 9).trans (F_7.1 23 (by decide) 9)))))))
                  have e_167 : μ146.1 23 9 = μ.1 23 9 := ((F_147.1 23 (by decide) 9).trans ((F_133.1 23 (by decide) 9).trans ((F_118.1 23 (by decide) 9).trans ((F_52.1 23 (by decide) 9).trans ((F_37.1 23 (by decide) 9).trans ((F_22.1 23 (by decide) 9).trans (F_7.1 23 (by decide) 9)))))))
                  have e_168 : μ146.1 P 1 = μ.1 P 1 := ((F_147.1 P (ni hprP (fun P => P) (fun P => [26]) rfl) 1).trans ((F_133.1 P (ni hprP (fun P => P) (fun P => [26]) rfl) 1).trans ((F_118.1 P (ni hprP (fun P => P) (fun P => [26]) rfl) 1).trans ((F_52.1 P (ni hprP (fun P => P) (fun P => [26]) rfl) 1).trans ((F_37.1 P (ni hprP (fun P => P) (fun P => [26]) rfl) 1).trans ((F_22.1 P (ni hprP (fun P => P) (fun P => [26]) rfl) 1).trans (F_7.1 P (ni hprP (fun P => P) (fun P => [26]) rfl) 1)))))))
                  have e_169 : μ146.1 P 1 = μ.1 P 1 := ((F_147.1 P (ni hprP (fun P => P) (fun P => [26]) rfl) 1).trans ((F_133.1 P (ni hprP (fun P => P) (fun P => [26]) rfl) 1).trans ((F_118.1 P (ni hprP (fun P => P) (fun P => [26]) rfl) 1).trans ((F_52.1 P (ni hprP (fun P => P) (fun P => [26]) rfl) 1).trans ((F_37.1 P (ni hprP (fun P => P) (fun P => [26]) rfl) 1).trans ((F_22.1 P (ni hprP (fun P => P) (fun P => [26]) rfl) 1).trans (F_7.1 P (ni hprP (fun P => P) (fun P => [26]) rfl) 1)))))))
                  have e_170 : μ146.1 (P + 2) 3 = μ.1 (P + 2) 3 := ((F_147.1 (P + 2) (ni hprP (fun P => P + 2) (fun P => [26]) rfl) 3).trans ((F_133.1 (P + 2) (ni hprP (fun P => P + 2) (fun P => [26]) rfl) 3).trans ((F_118.1 (P + 2) (ni hprP (fun P => P + 2) (fun P => [26]) rfl) 3).trans ((F_52.1 (P + 2) (ni hprP (fun P => P + 2) (fun P => [26]) rfl) 3).trans ((F_37.1 (P + 2) (ni hprP (fun P => P + 2) (fun P => [26]) rfl) 3).trans ((F_22.1 (P + 2) (ni hprP (fun P => P + 2) (fun P => [26]) rfl) 3).trans (F_7.1 (P + 2) (ni hprP (fun P => P + 2) (fun P => [26]) rfl) 3)))))))
                  have e_171 : μ146.1 P 1 = μ.1 P 1 := ((F_147.1 P (ni hprP (fun P => P) (fun P => [26]) rfl) 1).trans ((F_133.1 P (ni hprP (fun P => P) (fun P => [26]) rfl) 1).trans ((F_118.1 P (ni hprP (fun P => P) (fun P => [26]) rfl) 1).trans ((F_52.1 P (ni hprP (fun P => P) (fun P => [26]) rfl) 1).trans ((F_37.1 P (ni hprP (fun P => P) (fun P => [26]) rfl) 1).trans ((F_22.1 P (ni hprP (fun P => P) (fun P => [26]) rfl) 1).trans (F_7.1 P (ni hprP (fun P => P) (fun P => [26]) rfl) 1)))))))
                  have e_172 : μ146.1 (P + 2) 3 = μ.1 (P + 2) 3 := ((F_147.1 (P + 2) (ni hprP (fun P => P + 2) (fun P => [26]) rfl) 3).trans ((F_133.1 (P + 2) (ni hprP (fun P => P + 2) (fun P => [26]) rfl) 3).trans ((F_118.1 (P + 2) (ni hprP (fun P => P + 2) (fun P => [26]) rfl) 3).trans ((F_52.1 (P + 2) (ni hprP (fun P => P + 2) (fun P => [26]) rfl) 3).trans ((F_37.1 (P + 2) (ni hprP (fun P => P + 2) (fun P => [26]) rfl) 3).trans ((F_22.1 (P + 2) (ni hprP (fun P => P + 2) (fun P => [26]) rfl) 3).trans (F_7.1 (P + 2) (ni hprP (fun P => P + 2) (fun P => [26]) rfl) 3)))))))
                  refine xc_vV G (b := 23) (rest := []) (As := [.int (iv 13), .int (iv ((μ.1 26 12) - 229)), .long (jv (μ132.1 26 14)), .int (iv (-1))]) (c_X7_arguments ω l μ146 13 ((μ.1 26 12) - 229) (μ132.1 26 14) (-1) F Lo kf μ (0) (1) P tt (by unfold ir; omega) (by unfold ir; omega) hj_144 (by unfold ir; omega) hI_148 (by omega) (by omega) hF hLo hE hU hp_149 (by omega) (by omega) (by omega) (by omega) (by omega) (by omega) (by omega) hpx_158 rfl) (wm 4 63 rfl rfl) (wm 4 65 rfl rfl) (wm 0 36 rfl rfl) rfl rfl (by decide) rfl (wm 1 12 rfl rfl) (wm 4 66 rfl rfl) (by decide) hR ⟨sfr (F := F) (a := 1) (by decide), slo (L := Lo) (m := 11) (a := 22) (by decide)⟩ (n := 4) rfl rfl (Nat.le_of_ble_eq_true rfl) hl.1 dX7_primary_228 (fun μ173 ρ d0 H locs hp G => ?_)
                  obtain ⟨F_174, hI_175, hp_176, hp_177, hp_178, hp_179, hp_180, hp_181, hs_182, hs_183, hs_184, hs_185, hs_186, hs_187, hs_188, hs_189, hs_190⟩ := hp
                  have hn_191 : -1 ≤ μ173.1 26 10 ∧ μ173.1 26 10 ≤ 3000 := hI_175.nm.2.2.2.2.2.2.2.2.2.2.2.2
                  have hk_192 := hI_175.pr (p := P) hprP
                  unfold pk at hk_192
                  have hc_193 : 16 ≤ μ173.2.1 (P + 1) ∧ μ173.2.1 (P + 1) ≤ 73024 := hI_175.rm.1 _ hprP.cap
                  have hk_194 := hI_175.row (r := P + 2) (hprP.row)
                  unfold rk at hk_194
                  have htb_195 := hp_176.b
                  have hpx_196 : μ173.1 26 11 = 0 → PXE μ μ173 P tt 1 (-1) 1 := fun h0 => PXE.of (hp_181 h0)
                  refine lv_goto (tgt := 238) hx hb dX7_primary_231 (by decide) ?_
                  exact xr_v G hret hlk dX7_primary_238 ⟨(Fr.tr (Fr.tr (Fr.tr (Fr.tr (Fr.tr (Fr.tr (Fr.tr (Fr.tr Fr.rf F_7 (si hprP (fun P => [26]) (fun P => [2, 3, 4, 23, 24, 26, P, P + 1, P + 2, (P + 2) + 1, (P + 2) + 2, (P + 2) + 3]) rfl)) F_22 (si hprP (fun P => [26]) (fun P => [2, 3, 4, 23, 24, 26, P, P + 1, P + 2, (P + 2) + 1, (P + 2) + 2, (P + 2) + 3]) rfl)) F_37 (si hprP (fun P => [26]) (fun P => [2, 3, 4, 23, 24, 26, P, P + 1, P + 2, (P + 2) + 1, (P + 2) + 2, (P + 2) + 3]) rfl)) F_52 (si hprP (fun P => [26]) (fun P => [2, 3, 4, 23, 24, 26, P, P + 1, P + 2, (P + 2) + 1, (P + 2) + 2, (P + 2) + 3]) rfl)) F_118 (si hprP (fun P => [26]) (fun P => [2, 3, 4, 23, 24, 26, P, P + 1, P + 2, (P + 2) + 1, (P + 2) + 2, (P + 2) + 3]) rfl)) F_133 (si hprP (fun P => [26]) (fun P => [2, 3, 4, 23, 24, 26, P, P + 1, P + 2, (P + 2) + 1, (P + 2) + 2, (P + 2) + 3]) rfl)) F_147 (si hprP (fun P => [26]) (fun P => [2, 3, 4, 23, 24, 26, P, P + 1, P + 2, (P + 2) + 1, (P + 2) + 2, (P + 2) + 3]) rfl)) F_174 (si hprP (fun P => [2, 3, 4, 23, 24, 26, P, P + 1, P + 2, (P + 2) + 1, (P + 2) + 2, (P + 2) + 3]) (fun P => [2, 3, 4, 23, 24, 26, P, P + 1, P + 2, (P + 2) + 1, (P + 2) + 2, (P + 2) + 3]) rfl)), hI_175, hp_176, (by omega), (by omega), (by omega), (by omega), (fun h0 => (PXE.ex (hpx_196 h0)).e (by omega)), ((hs_182.trans ((F_147.1 23 (by decide) 2).trans ((F_133.1 23 (by decide) 2).trans ((F_118.1 23 (by decide) 2).trans ((F_52.1 23 (by decide) 2).trans ((F_37.1 23 (by decide) 2).trans ((F_22.1 23 (by decide) 2).trans ((F_7.1 23 (by decide) 2).trans hP.symm))))))))).trans hP, (hs_183.trans ((F_147.1 23 (by decide) 5).trans ((F_133.1 23 (by decide) 5).trans ((F_118.1 23 (by decide) 5).trans ((F_52.1 23 (by decide) 5).trans ((F_37.1 23 (by decide) 5).trans ((F_22.1 23 (by decide) 5).trans (F_7.1 23 (by decide) 5)))))))), (hs_184.trans ((F_147.1 23 (by decide) 6).trans ((F_133.1 23 (by decide) 6).trans ((F_118.1 23 (by decide) 6).trans ((F_52.1 23 (by decide) 6).trans ((F_37.1 23 (by decide) 6).trans ((F_22.1 23 (by decide) 6).trans (F_7.1 23 (by decide) 6)))))))), (hs_185.trans ((F_147.1 23 (by decide) 7).trans ((F_133.1 23 (by decide) 7).trans ((F_118.1 23 (by decide) 7).trans ((F_52.1 23 (by decide) 7).trans ((F_37.1 23 (by decide) 7).trans ((F_22.1 23 (by decide) 7).trans (F_7.1 23 (by decide) 7)))))))), ((hs_186.trans ((F_147.1 23 (by decide) 8).trans ((F_133.1 23 (by decide) 8).trans ((F_118.1 23 (by decide) 8).trans ((F_52.1 23 (by decide) 8).trans ((F_37.1 23 (by decide) 8).trans ((F_22.1 23 (by decide) 8).trans ((F_7.1 23 (by decide) 8).trans htt.symm))))))))).trans htt, (hs_187.trans ((F_147.1 23 (by decide) 9).trans ((F_133.1 23 (by decide) 9).trans ((F_118.1 23 (by decide) 9).trans ((F_52.1 23 (by decide) 9).trans ((F_37.1 23 (by decide) 9).trans ((F_22.1 23 (by decide) 9).trans (F_7.1 23 (by decide) 9)))))))), (hs_188.trans ((F_147.1 23 (by decide) 10).trans ((F_133.1 23 (by decide) 10).trans ((F_118.1 23 (by decide) 10).trans ((F_52.1 23 (by decide) 10).trans ((F_37.1 23 (by decide) 10).trans ((F_22.1 23 (by decide) 10).trans (F_7.1 23 (by decide) 10)))))))), (hs_189.trans (hs_152.trans (hs_138.trans (hs_122.trans (hs_57.trans (hs_42.trans (hs_27.trans hs_12))))))), (hs_190.trans ((F_147.1 P (ni hprP (fun P => P) (fun P => [26]) rfl) 7).trans ((F_133.1 P (ni hprP (fun P => P) (fun P => [26]) rfl) 7).trans ((F_118.1 P (ni hprP (fun P => P) (fun P => [26]) rfl) 7).trans ((F_52.1 P (ni hprP (fun P => P) (fun P => [26]) rfl) 7).trans ((F_37.1 P (ni hprP (fun P => P) (fun P => [26]) rfl) 7).trans ((F_22.1 P (ni hprP (fun P => P) (fun P => [26]) rfl) 7).trans (F_7.1 P (ni hprP (fun P => P) (fun P => [26]) rfl) 7))))))))⟩
              · refine lv_aload_n hx hb dX7_primary_176 rfl (lv_at hl 1 rfl) ?_
                have hpx_197 : μ50.1 26 11 = 0 → PXE μ μ50 P tt 0 (-1) 1 := fun h0 => (hpx_48 (by have h9 : μ35.1 26 11 = μ.1 26 11 := (hs_41.trans (hs_26.trans hs_11)); have h8 : μ50.1 26 11 = μ.1 26 11 := (hs_56.trans (hs_41.trans (hs_26.trans hs_11))); omega)).fr (K := [26]) (Fr.tr Fr.rf F_52 (by decide)) (npL_p (L := [26]) (by decide) hprP).1 (npL_p (L := [26]) (by decide) hprP).2.1
                have e_198 : μ50.1 23 2 = P := ((F_52.1 23 (by decide) 2).trans ((F_37.1 23 (by decide) 2).trans ((F_22.1 23 (by decide) 2).trans ((F_7.1 23 (by decide) 2).trans hP.symm))))
                have e_199 : μ50.1 23 8 = tt := ((F_52.1 23 (by decide) 8).trans ((F_37.1 23 (by decide) 8).trans ((F_22.1 23 (by decide) 8).trans ((F_7.1 23 (by decide) 8).trans htt.symm))))
                have e_200 : μ50.1 P 1 = μ.1 P 1 := ((F_52.1 P (ni hprP (fun P => P) (fun P => [26]) rfl) 1).trans ((F_37.1 P (ni hprP (fun P => P) (fun P => [26]) rfl) 1).trans ((F_22.1 P (ni hprP (fun P => P) (fun P => [26]) rfl) 1).trans (F_7.1 P (ni hprP (fun P => P) (fun P => [26]) rfl) 1))))
                have e_201 : μ50.1 26 11 = μ.1 26 11 := (hs_56.trans (hs_41.trans (hs_26.trans hs_11)))
                have hk_202 := hI.row (r := P + 2) (hprP.row)
                unfold rk at hk_202
                have e_203 : μ50.1 (P + 2) 3 = μ.1 (P + 2) 3 := ((F_52.1 (P + 2) (ni hprP (fun P => P + 2) (fun P => [26]) rfl) 3).trans ((F_37.1 (P + 2) (ni hprP (fun P => P + 2) (fun P => [26]) rfl) 3).trans ((F_22.1 (P + 2) (ni hprP (fun P => P + 2) (fun P => [26]) rfl) 3).trans (F_7.1 (P + 2) (ni hprP (fun P => P + 2) (fun P => [26]) rfl) 3))))
                have e_204 : μ50.1 P 1 = μ.1 P 1 := ((F_52.1 P (ni hprP (fun P => P) (fun P => [26]) rfl) 1).trans ((F_37.1 P (ni hprP (fun P => P) (fun P => [26]) rfl) 1).trans ((F_22.1 P (ni hprP (fun P => P) (fun P => [26]) rfl) 1).trans (F_7.1 P (ni hprP (fun P => P) (fun P => [26]) rfl) 1))))
                have e_205 : μ50.1 23 9 = μ.1 23 9 := ((F_52.1 23 (by decide) 9).trans ((F_37.1 23 (by decide) 9).trans ((F_22.1 23 (by decide) 9).trans (F_7.1 23 (by decide) 9))))
                have e_206 : μ50.1 23 9 = μ.1 23 9 := ((F_52.1 23 (by decide) 9).trans ((F_37.1 23 (by decide) 9).trans ((F_22.1 23 (by decide) 9).trans (F_7.1 23 (by decide) 9))))
                have e_207 : μ50.1 23 9 = μ.1 23 9 := ((F_52.1 23 (by decide) 9).trans ((F_37.1 23 (by decide) 9).trans ((F_22.1 23 (by decide) 9).trans (F_7.1 23 (by decide) 9))))
                have e_208 : μ50.1 26 11 = μ.1 26 11 := (hs_56.trans (hs_41.trans (hs_26.trans hs_11)))
                have e_209 : μ50.1 P 1 = μ.1 P 1 := ((F_52.1 P (ni hprP (fun P => P) (fun P => [26]) rfl) 1).trans ((F_37.1 P (ni hprP (fun P => P) (fun P => [26]) rfl) 1).trans ((F_22.1 P (ni hprP (fun P => P) (fun P => [26]) rfl) 1).trans (F_7.1 P (ni hprP (fun P => P) (fun P => [26]) rfl) 1))))
                have e_210 : μ50.1 P 1 = μ.1 P 1 := ((F_52.1 P (ni hprP (fun P => P) (fun P => [26]) rfl) 1).trans ((F_37.1 P (ni hprP (fun P => P) (fun P => [26]) rfl) 1).trans ((F_22.1 P (ni hprP (fun P => P) (fun P => [26]) rfl) 1).trans (F_7.1 P (ni hprP (fun P => P) (fun P => [26]) rfl) 1))))
                have e_211 : μ50.1 (P + 2) 3 = μ.1 (P + 2) 3 := ((F_52.1 (P + 2) (ni hprP (fun P => P + 2) (fun P => [26]) rfl) 3).trans ((F_37.1 (P + 2) (ni hprP (fun P => P + 2) (fun P => [26]) rfl) 3).trans ((F_22.1 (P + 2) (ni hprP (fun P => P + 2) (fun P => [26]) rfl) 3).trans (F_7.1 (P + 2) (ni hprP (fun P => P + 2) (fun P => [26]) rfl) 3))))
                have e_212 : μ50.1 P 1 = μ.1 P 1 := ((F_52.1 P (ni hprP (fun P => P) (fun P => [26]) rfl) 1).trans ((F_37.1 P (ni hprP (fun P => P) (fun P => [26]) rfl) 1).trans ((F_22.1 P (ni hprP (fun P => P) (fun P => [26]) rfl) 1).trans (F_7.1 P (ni hprP (fun P => P) (fun P => [26]) rfl) 1))))
                have e_213 : μ50.1 (P + 2) 3 = μ.1 (P + 2) 3 := ((F_52.1 (P + 2) (ni hprP (fun P => P + 2) (fun P => [26]) rfl) 3).trans ((F_37.1 (P + 2) (ni hprP (fun P => P + 2) (fun P => [26]) rfl) 3).trans ((F_22.1 (P + 2) (ni hprP (fun P => P + 2) (fun P => [26]) rfl) 3).trans (F_7.1 (P + 2) (ni hprP (fun P => P + 2) (fun P => [26]) rfl) 3))))
                refine xc_vV G (b := 23) (rest := []) (As := []) (c_X7_functionItself ω l μ50 F Lo kf P tt hI_53 (by omega) (by omega) hF hLo hE hU hp_54 (by omega) (by omega) (by omega) (by omega) (by omega)) (wm 4 100 rfl rfl) (wm 4 102 rfl rfl) (wm 0 41 rfl rfl) rfl rfl (by decide) rfl (wm 1 12 rfl rfl) (wm 4 103 rfl rfl) (by decide) hR ⟨sfr (F := F) (a := 0) (by decide), slo (L := Lo) (m := 4) (a := 0) (by decide)⟩ (n := 0) rfl rfl (Nat.le_of_ble_eq_true rfl) hl.1 dX7_primary_177 (fun μ214 ρ d0 H locs hp G => ?_)
                obtain ⟨F_215, hI_216, hp_217, hp_218, hp_219, hp_220, hp_221, hp_222, hs_223, hs_224, hs_225, hs_226, hs_227, hs_228, hs_229, hs_230, hs_231⟩ := hp
                have hn_232 : -1 ≤ μ214.1 26 10 ∧ μ214.1 26 10 ≤ 3000 := hI_216.nm.2.2.2.2.2.2.2.2.2.2.2.2
                have hk_233 := hI_216.pr (p := P) hprP
                unfold pk at hk_233
                have hc_234 : 16 ≤ μ214.2.1 (P + 1) ∧ μ214.2.1 (P + 1) ≤ 73024 := hI_216.rm.1 _ hprP.cap
                have hk_235 := hI_216.row (r := P + 2) (hprP.row)
                unfold rk at hk_235
                have htb_236 := hp_217.b
                have hpx_237 : μ214.1 26 11 = 0 → PXE μ μ214 P tt 1 (-1) 1 := fun h0 => (PXE.app (hpx_197 (by have h9 : μ50.1 26 11 = μ.1 26 11 := (hs_56.trans (hs_41.trans (hs_26.trans hs_11))); have h8 : μ214.1 26 11 = μ214.1 26 11 := rfl; omega)) (hp_222 h0)).e (by omega)
                refine lv_goto (tgt := 238) hx hb dX7_primary_180 (by decide) ?_
                exact xr_v G hret hlk dX7_primary_238 ⟨(Fr.tr (Fr.tr (Fr.tr (Fr.tr (Fr.tr Fr.rf F_7 (si hprP (fun P => [26]) (fun P => [2, 3, 4, 23, 24, 26, P, P + 1, P + 2, (P + 2) + 1, (P + 2) + 2, (P + 2) + 3]) rfl)) F_22 (si hprP (fun P => [26]) (fun P => [2, 3, 4, 23, 24, 26, P, P + 1, P + 2, (P + 2) + 1, (P + 2) + 2, (P + 2) + 3]) rfl)) F_37 (si hprP (fun P => [26]) (fun P => [2, 3, 4, 23, 24, 26, P, P + 1, P + 2, (P + 2) + 1, (P + 2) + 2, (P + 2) + 3]) rfl)) F_52 (si hprP (fun P => [26]) (fun P => [2, 3, 4, 23, 24, 26, P, P + 1, P + 2, (P + 2) + 1, (P + 2) + 2, (P + 2) + 3]) rfl)) F_215 (si hprP (fun P => [2, 3, 4, 23, 24, 26, P, P + 1, P + 2, (P + 2) + 1, (P + 2) + 2, (P + 2) + 3]) (fun P => [2, 3, 4, 23, 24, 26, P, P + 1, P + 2, (P + 2) + 1, (P + 2) + 2, (P + 2) + 3]) rfl)), hI_216, hp_217, (by omega), (by omega), (by omega), (by omega), (fun h0 => (PXE.ex (hpx_237 h0)).e (by omega)), ((hs_223.trans ((F_52.1 23 (by decide) 2).trans ((F_37.1 23 (by decide) 2).trans ((F_22.1 23 (by decide) 2).trans ((F_7.1 23 (by decide) 2).trans hP.symm)))))).trans hP, (hs_224.trans ((F_52.1 23 (by decide) 5).trans ((F_37.1 23 (by decide) 5).trans ((F_22.1 23 (by decide) 5).trans (F_7.1 23 (by decide) 5))))), (hs_225.trans ((F_52.1 23 (by decide) 6).trans ((F_37.1 23 (by decide) 6).trans ((F_22.1 23 (by decide) 6).trans (F_7.1 23 (by decide) 6))))), (hs_226.trans ((F_52.1 23 (by decide) 7).trans ((F_37.1 23 (by decide) 7).trans ((F_22.1 23 (by decide) 7).trans (F_7.1 23 (by decide) 7))))), ((hs_227.trans ((F_52.1 23 (by decide) 8).trans ((F_37.1 23 (by decide) 8).trans ((F_22.1 23 (by decide) 8).trans ((F_7.1 23 (by decide) 8).trans htt.symm)))))).trans htt, (hs_228.trans ((F_52.1 23 (by decide) 9).trans ((F_37.1 23 (by decide) 9).trans ((F_22.1 23 (by decide) 9).trans (F_7.1 23 (by decide) 9))))), (hs_229.trans ((F_52.1 23 (by decide) 10).trans ((F_37.1 23 (by decide) 10).trans ((F_22.1 23 (by decide) 10).trans (F_7.1 23 (by decide) 10))))), (hs_230.trans (hs_57.trans (hs_42.trans (hs_27.trans hs_12)))), (hs_231.trans ((F_52.1 P (ni hprP (fun P => P) (fun P => [26]) rfl) 7).trans ((F_37.1 P (ni hprP (fun P => P) (fun P => [26]) rfl) 7).trans ((F_22.1 P (ni hprP (fun P => P) (fun P => [26]) rfl) 7).trans (F_7.1 P (ni hprP (fun P => P) (fun P => [26]) rfl) 7)))))⟩
            · refine lv_aload_n hx hb dX7_primary_156 rfl (lv_at hl 1 rfl) ?_
              refine lv_bipush (v := iv 40) hx hb dX7_primary_157 rfl ?_
              refine lv_bipush (v := iv 41) hx hb dX7_primary_159 rfl ?_
              have hpx_238 : μ35.1 26 11 = 0 → PXE μ μ35 P tt 0 (-1) 1 := fun h0 => (hpx_33 (by have h9 : μ20.1 26 11 = μ.1 26 11 := (hs_26.trans hs_11); have h8 : μ35.1 26 11 = μ.1 26 11 := (hs_41.trans (hs_26.trans hs_11)); omega)).fr (K := [26]) (Fr.tr Fr.rf F_37 (by decide)) (npL_p (L := [26]) (by decide) hprP).1 (npL_p (L := [26]) (by decide) hprP).2.1
              have e_239 : μ35.1 23 2 = P := ((F_37.1 23 (by decide) 2).trans ((F_22.1 23 (by decide) 2).trans ((F_7.1 23 (by decide) 2).trans hP.symm)))
              have e_240 : μ35.1 23 8 = tt := ((F_37.1 23 (by decide) 8).trans ((F_22.1 23 (by decide) 8).trans ((F_7.1 23 (by decide) 8).trans htt.symm)))
              have e_241 : μ35.1 P 1 = μ.1 P 1 := ((F_37.1 P (ni hprP (fun P => P) (fun P => [26]) rfl) 1).trans ((F_22.1 P (ni hprP (fun P => P) (fun P => [26]) rfl) 1).trans (F_7.1 P (ni hprP (fun P => P) (fun P => [26]) rfl) 1)))
              have e_242 : μ35.1 26 11 = μ.1 26 11 := (hs_41.trans (hs_26.trans hs_11))
              have hk_243 := hI.row (r := P + 2) (hprP.row)
              unfold rk at hk_243
              have e_244 : μ35.1 (P + 2) 3 = μ.1 (P + 2) 3 := ((F_37.1 (P + 2) (ni hprP (fun P => P + 2) (fun P => [26]) rfl) 3).trans ((F_22.1 (P + 2) (ni hprP (fun P => P + 2) (fun P => [26]) rfl) 3).trans (F_7.1 (P + 2) (ni hprP (fun P => P + 2) (fun P => [26]) rfl) 3)))
              have e_245 : μ35.1 P 1 = μ.1 P 1 := ((F_37.1 P (ni hprP (fun P => P) (fun P => [26]) rfl) 1).trans ((F_22.1 P (ni hprP (fun P => P) (fun P => [26]) rfl) 1).trans (F_7.1 P (ni hprP (fun P => P) (fun P => [26]) rfl) 1)))
              have e_246 : μ35.1 23 9 = μ.1 23 9 := ((F_37.1 23 (by decide) 9).trans ((F_22.1 23 (by decide) 9).trans (F_7.1 23 (by decide) 9)))
              have e_247 : μ35.1 23 9 = μ.1 23 9 := ((F_37.1 23 (by decide) 9).trans ((F_22.1 23 (by decide) 9).trans (F_7.1 23 (by decide) 9)))
              have e_248 : μ35.1 23 9 = μ.1 23 9 := ((F_37.1 23 (by decide) 9).trans ((F_22.1 23 (by decide) 9).trans (F_7.1 23 (by decide) 9)))
              have e_249 : μ35.1 26 11 = μ.1 26 11 := (hs_41.trans (hs_26.trans hs_11))
              have e_250 : μ35.1 P 1 = μ.1 P 1 := ((F_37.1 P (ni hprP (fun P => P) (fun P => [26]) rfl) 1).trans ((F_22.1 P (ni hprP (fun P => P) (fun P => [26]) rfl) 1).trans (F_7.1 P (ni hprP (fun P => P) (fun P => [26]) rfl) 1)))
              have e_251 : μ35.1 P 1 = μ.1 P 1 := ((F_37.1 P (ni hprP (fun P => P) (fun P => [26]) rfl) 1).trans ((F_22.1 P (ni hprP (fun P => P) (fun P => [26]) rfl) 1).trans (F_7.1 P (ni hprP (fun P => P) (fun P => [26]) rfl) 1)))
              have e_252 : μ35.1 (P + 2) 3 = μ.1 (P + 2) 3 := ((F_37.1 (P + 2) (ni hprP (fun P => P + 2) (fun P => [26]) rfl) 3).trans ((F_22.1 (P + 2) (ni hprP (fun P => P + 2) (fun P => [26]) rfl) 3).trans (F_7.1 (P + 2) (ni hprP (fun P => P + 2) (fun P => [26]) rfl) 3)))
              have e_253 : μ35.1 P 1 = μ.1 P 1 := ((F_37.1 P (ni hprP (fun P => P) (fun P => [26]) rfl) 1).trans ((F_22.1 P (ni hprP (fun P => P) (fun P => [26]) rfl) 1).trans (F_7.1 P (ni hprP (fun P => P) (fun P => [26]) rfl) 1)))
              have e_254 : μ35.1 (P + 2) 3 = μ.1 (P + 2) 3 := ((F_37.1 (P + 2) (ni hprP (fun P => P + 2) (fun P => [26]) rfl) 3).trans ((F_22.1 (P + 2) (ni hprP (fun P => P + 2) (fun P => [26]) rfl) 3).trans (F_7.1 (P + 2) (ni hprP (fun P => P + 2) (fun P => [26]) rfl) 3)))
              refine xc_vV G (b := 23) (rest := []) (As := [.int (iv 40), .int (iv 41)]) (c_X7_inBrackets ω l μ35 40 41 F Lo kf P tt (by unfold ir; omega) (by unfold ir; omega) hI_38 (by omega) (by omega) hF hLo hE hU hp_39 (by omega) (by omega) (by omega) (by omega) (by omega) (by omega) (by omega)) (wm 4 92 rfl rfl) (wm 4 94 rfl rfl) (wm 0 39 rfl rfl) rfl rfl (by decide) rfl (wm 1 12 rfl rfl) (wm 4 95 rfl rfl) (by decide) hR ⟨sfr (F := F) (a := 1) (by decide), slo (L := Lo) (m := 3) (a := 22) (by decide)⟩ (n := 2) rfl rfl (Nat.le_of_ble_eq_true rfl) hl.1 dX7_primary_161 (fun μ255 ρ d0 H locs hp G => ?_)
              obtain ⟨F_256, hI_257, hp_258, hp_259, hp_260, hp_261, hp_262, hp_263, hs_264, hs_265, hs_266, hs_267, hs_268, hs_269, hs_270, hs_271, hs_272⟩ := hp
              have hn_273 : -1 ≤ μ255.1 26 10 ∧ μ255.1 26 10 ≤ 3000 := hI_257.nm.2.2.2.2.2.2.2.2.2.2.2.2
              have hk_274 := hI_257.pr (p := P) hprP
              unfold pk at hk_274
              have hc_275 : 16 ≤ μ255.2.1 (P + 1) ∧ μ255.2.1 (P + 1) ≤ 73024 := hI_257.rm.1 _ hprP.cap
              have hk_276 := hI_257.row (r := P + 2) (hprP.row)
              unfold rk at hk_276
              have htb_277 := hp_258.b
              have hpx_278 : μ255.1 26 11 = 0 → PXE μ μ255 P tt 1 (-1) 1 := fun h0 => (PXE.app (hpx_238 (by have h9 : μ35.1 26 11 = μ.1 26 11 := (hs_41.trans (hs_26.trans hs_11)); have h8 : μ255.1 26 11 = μ255.1 26 11 := rfl; omega)) (hp_263 h0)).e (by omega)
              refine lv_goto (tgt := 238) hx hb dX7_primary_164 (by decide) ?_
              exact xr_v G hret hlk dX7_primary_238 ⟨(Fr.tr (Fr.tr (Fr.tr (Fr.tr Fr.rf F_7 (si hprP (fun P => [26]) (fun P => [2, 3, 4, 23, 24, 26, P, P + 1, P + 2, (P + 2) + 1, (P + 2) + 2, (P + 2) + 3]) rfl)) F_22 (si hprP (fun P => [26]) (fun P => [2, 3, 4, 23, 24, 26, P, P + 1, P + 2, (P + 2) + 1, (P + 2) + 2, (P + 2) + 3]) rfl)) F_37 (si hprP (fun P => [26]) (fun P => [2, 3, 4, 23, 24, 26, P, P + 1, P + 2, (P + 2) + 1, (P + 2) + 2, (P + 2) + 3]) rfl)) F_256 (si hprP (fun P => [2, 3, 4, 23, 24, 26, P, P + 1, P + 2, (P + 2) + 1, (P + 2) + 2, (P + 2) + 3]) (fun P => [2, 3, 4, 23, 24, 26, P, P + 1, P + 2, (P + 2) + 1, (P + 2) + 2, (P + 2) + 3]) rfl)), hI_257, hp_258, (by omega), (by omega), (by omega), (by omega), (fun h0 => (PXE.ex (hpx_278 h0)).e (by omega)), ((hs_264.trans ((F_37.1 23 (by decide) 2).trans ((F_22.1 23 (by decide) 2).trans ((F_7.1 23 (by decide) 2).trans hP.symm))))).trans hP, (hs_265.trans ((F_37.1 23 (by decide) 5).trans ((F_22.1 23 (by decide) 5).trans (F_7.1 23 (by decide) 5)))), (hs_266.trans ((F_37.1 23 (by decide) 6).trans ((F_22.1 23 (by decide) 6).trans (F_7.1 23 (by decide) 6)))), (hs_267.trans ((F_37.1 23 (by decide) 7).trans ((F_22.1 23 (by decide) 7).trans (F_7.1 23 (by decide) 7)))), ((hs_268.trans ((F_37.1 23 (by decide) 8).trans ((F_22.1 23 (by decide) 8).trans ((F_7.1 23 (by decide) 8).trans htt.symm))))).trans htt, (hs_269.trans ((F_37.1 23 (by decide) 9).trans ((F_22.1 23 (by decide) 9).trans (F_7.1 23 (by decide) 9)))), (hs_270.trans ((F_37.1 23 (by decide) 10).trans ((F_22.1 23 (by decide) 10).trans (F_7.1 23 (by decide) 10)))), (hs_271.trans (hs_42.trans (hs_27.trans hs_12))), (hs_272.trans ((F_37.1 P (ni hprP (fun P => P) (fun P => [26]) rfl) 7).trans ((F_22.1 P (ni hprP (fun P => P) (fun P => [26]) rfl) 7).trans (F_7.1 P (ni hprP (fun P => P) (fun P => [26]) rfl) 7))))⟩
          · refine lv_aload_n hx hb dX7_primary_125 rfl (lv_at hl 1 rfl) ?_
            refine lv_bipush (v := iv 40) hx hb dX7_primary_126 rfl ?_
            refine lv_bipush (v := iv 41) hx hb dX7_primary_128 rfl ?_
            have hpx_279 : μ35.1 26 11 = 0 → PXE μ μ35 P tt 0 (-1) 1 := fun h0 => (hpx_33 (by have h9 : μ20.1 26 11 = μ.1 26 11 := (hs_26.trans hs_11); have h8 : μ35.1 26 11 = μ.1 26 11 := (hs_41.trans (hs_26.trans hs_11)); omega)).fr (K := [26]) (Fr.tr Fr.rf F_37 (by decide)) (npL_p (L := [26]) (by decide) hprP).1 (npL_p (L := [26]) (by decide) hprP).2.1
            have e_280 : μ35.1 23 2 = P := ((F_37.1 23 (by decide) 2).trans ((F_22.1 23 (by decide) 2).trans ((F_7.1 23 (by decide) 2).trans hP.symm)))
            have e_281 : μ35.1 23 8 = tt := ((F_37.1 23 (by decide) 8).trans ((F_22.1 23 (by decide) 8).trans ((F_7.1 23 (by decide) 8).trans htt.symm)))
            have e_282 : μ35.1 P 1 = μ.1 P 1 := ((F_37.1 P (ni hprP (fun P => P) (fun P => [26]) rfl) 1).trans ((F_22.1 P (ni hprP (fun P => P) (fun P => [26]) rfl) 1).trans (F_7.1 P (ni hprP (fun P => P) (fun P => [26]) rfl) 1)))
            have e_283 : μ35.1 26 11 = μ.1 26 11 := (hs_41.trans (hs_26.trans hs_11))
            have hk_284 := hI.row (r := P + 2) (hprP.row)
            unfold rk at hk_284
            have e_285 : μ35.1 (P + 2) 3 = μ.1 (P + 2) 3 := ((F_37.1 (P + 2) (ni hprP (fun P => P + 2) (fun P => [26]) rfl) 3).trans ((F_22.1 (P + 2) (ni hprP (fun P => P + 2) (fun P => [26]) rfl) 3).trans (F_7.1 (P + 2) (ni hprP (fun P => P + 2) (fun P => [26]) rfl) 3)))
            have e_286 : μ35.1 P 1 = μ.1 P 1 := ((F_37.1 P (ni hprP (fun P => P) (fun P => [26]) rfl) 1).trans ((F_22.1 P (ni hprP (fun P => P) (fun P => [26]) rfl) 1).trans (F_7.1 P (ni hprP (fun P => P) (fun P => [26]) rfl) 1)))
            have e_287 : μ35.1 23 9 = μ.1 23 9 := ((F_37.1 23 (by decide) 9).trans ((F_22.1 23 (by decide) 9).trans (F_7.1 23 (by decide) 9)))
            have e_288 : μ35.1 23 9 = μ.1 23 9 := ((F_37.1 23 (by decide) 9).trans ((F_22.1 23 (by decide) 9).trans (F_7.1 23 (by decide) 9)))
            have e_289 : μ35.1 23 9 = μ.1 23 9 := ((F_37.1 23 (by decide) 9).trans ((F_22.1 23 (by decide) 9).trans (F_7.1 23 (by decide) 9)))
            have e_290 : μ35.1 26 11 = μ.1 26 11 := (hs_41.trans (hs_26.trans hs_11))
            have e_291 : μ35.1 P 1 = μ.1 P 1 := ((F_37.1 P (ni hprP (fun P => P) (fun P => [26]) rfl) 1).trans ((F_22.1 P (ni hprP (fun P => P) (fun P => [26]) rfl) 1).trans (F_7.1 P (ni hprP (fun P => P) (fun P => [26]) rfl) 1)))
            have e_292 : μ35.1 P 1 = μ.1 P 1 := ((F_37.1 P (ni hprP (fun P => P) (fun P => [26]) rfl) 1).trans ((F_22.1 P (ni hprP (fun P => P) (fun P => [26]) rfl) 1).trans (F_7.1 P (ni hprP (fun P => P) (fun P => [26]) rfl) 1)))
            have e_293 : μ35.1 (P + 2) 3 = μ.1 (P + 2) 3 := ((F_37.1 (P + 2) (ni hprP (fun P => P + 2) (fun P => [26]) rfl) 3).trans ((F_22.1 (P + 2) (ni hprP (fun P => P + 2) (fun P => [26]) rfl) 3).trans (F_7.1 (P + 2) (ni hprP (fun P => P + 2) (fun P => [26]) rfl) 3)))
            have e_294 : μ35.1 P 1 = μ.1 P 1 := ((F_37.1 P (ni hprP (fun P => P) (fun P => [26]) rfl) 1).trans ((F_22.1 P (ni hprP (fun P => P) (fun P => [26]) rfl) 1).trans (F_7.1 P (ni hprP (fun P => P) (fun P => [26]) rfl) 1)))
            have e_295 : μ35.1 (P + 2) 3 = μ.1 (P + 2) 3 := ((F_37.1 (P + 2) (ni hprP (fun P => P + 2) (fun P => [26]) rfl) 3).trans ((F_22.1 (P + 2) (ni hprP (fun P => P + 2) (fun P => [26]) rfl) 3).trans (F_7.1 (P + 2) (ni hprP (fun P => P + 2) (fun P => [26]) rfl) 3)))
            refine xc_vV G (b := 23) (rest := []) (As := [.int (iv 40), .int (iv 41)]) (c_X7_inBrackets ω l μ35 40 41 F Lo kf P tt (by unfold ir; omega) (by unfold ir; omega) hI_38 (by omega) (by omega) hF hLo hE hU hp_39 (by omega) (by omega) (by omega) (by omega) (by omega) (by omega) (by omega)) (wm 4 92 rfl rfl) (wm 4 94 rfl rfl) (wm 0 39 rfl rfl) rfl rfl (by decide) rfl (wm 1 12 rfl rfl) (wm 4 95 rfl rfl) (by decide) hR ⟨sfr (F := F) (a := 1) (by decide), slo (L := Lo) (m := 3) (a := 22) (by decide)⟩ (n := 2) rfl rfl (Nat.le_of_ble_eq_true rfl) hl.1 dX7_primary_130 (fun μ296 ρ d0 H locs hp G => ?_)
            obtain ⟨F_297, hI_298, hp_299, hp_300, hp_301, hp_302, hp_303, hp_304, hs_305, hs_306, hs_307, hs_308, hs_309, hs_310, hs_311, hs_312, hs_313⟩ := hp
            have hn_314 : -1 ≤ μ296.1 26 10 ∧ μ296.1 26 10 ≤ 3000 := hI_298.nm.2.2.2.2.2.2.2.2.2.2.2.2
            have hk_315 := hI_298.pr (p := P) hprP
            unfold pk at hk_315
            have hc_316 : 16 ≤ μ296.2.1 (P + 1) ∧ μ296.2.1 (P + 1) ≤ 73024 := hI_298.rm.1 _ hprP.cap
            have hk_317 := hI_298.row (r := P + 2) (hprP.row)
            unfold rk at hk_317
            have htb_318 := hp_299.b
            have hpx_319 : μ296.1 26 11 = 0 → PXE μ μ296 P tt 1 (-1) 1 := fun h0 => (PXE.app (hpx_279 (by have h9 : μ35.1 26 11 = μ.1 26 11 := (hs_41.trans (hs_26.trans hs_11)); have h8 : μ296.1 26 11 = μ296.1 26 11 := rfl; omega)) (hp_304 h0)).e (by omega)
            refine lv_aload_n hx hb dX7_primary_133 rfl (lv_at hl 1 rfl) ?_
            refine lv_bipush (v := iv 10) hx hb dX7_primary_134 rfl ?_
            refine lv_iconst (v := iv 0) hx hb dX7_primary_136 rfl ?_
            refine lv_iconst (v := iv 0) hx hb dX7_primary_137 rfl ?_
            refine lv_aload_n hx hb dX7_primary_138 rfl (lv_at hl 1 rfl) ?_
            refine lv_iconst (v := iv (-1)) hx hb dX7_primary_139 rfl ?_
            refine lv_iconst (v := iv 0) hx hb dX7_primary_140 rfl ?_
            have e_320 : μ296.1 23 2 = P := (hs_305.trans ((F_37.1 23 (by decide) 2).trans ((F_22.1 23 (by decide) 2).trans ((F_7.1 23 (by decide) 2).trans hP.symm))))
            have e_321 : μ296.1 23 8 = tt := (hs_309.trans ((F_37.1 23 (by decide) 8).trans ((F_22.1 23 (by decide) 8).trans ((F_7.1 23 (by decide) 8).trans htt.symm))))
            refine xc_iV G (b := 23) (rest := [.int (iv 0), .int (iv 0), .int (iv 10), .ref (oP ω 23)]) (As := [.int (iv (-1)), .int (iv 0)]) (c_X7_ifFails ω l μ296 (-1) 0 μ (1) (1) P tt (by unfold ir; omega) (by unfold ir; omega) hI_298 (by omega) (by omega) (by omega) hpx_319 (by omega) (by omega)) (wm 4 23 rfl rfl) (wm 4 25 rfl rfl) (wm 0 29 rfl rfl) rfl rfl (by decide) rfl (wm 1 12 rfl rfl) (wm 4 26 rfl rfl) (by decide) hR ⟨nfr hF (by decide), nlo hLo (by decide)⟩ (n := 2) rfl rfl (Nat.le_of_ble_eq_true rfl) hl.1 dX7_primary_141 (fun r_323 μ322 ρ d0 H locs hr_r_323 hp G => ?_)
            have hr_r_323 : -2147483648 ≤ r_323 ∧ r_323 ≤ 2147483647 := hr_r_323
            obtain ⟨F_324, hI_325, hp_326, hp_327, hs_328⟩ := hp
            have hk_329 := hI_325.pr (p := P) hprP
            unfold pk at hk_329
            have hc_330 : 16 ≤ μ322.2.1 (P + 1) ∧ μ322.2.1 (P + 1) ≤ 73024 := hI_325.rm.1 _ hprP.cap
            have hpx_331 : μ322.1 26 11 = 0 → PXE μ μ322 P tt 1 r_323 1 := fun h0 => hp_326 (by have h9 : μ296.1 26 11 = μ296.1 26 11 := rfl; have h8 : μ322.1 26 11 = μ296.1 26 11 := (F_324.1 26 (ni hprP (fun P => 26) (fun P => [P, P + 1]) rfl) 11); omega)
            clear hp_326
            have e_332 : μ322.1 23 2 = P := ((F_324.1 23 (ni hprP (fun P => 23) (fun P => [P, P + 1]) rfl) 2).trans (hs_305.trans ((F_37.1 23 (by decide) 2).trans ((F_22.1 23 (by decide) 2).trans ((F_7.1 23 (by decide) 2).trans hP.symm)))))
            have e_333 : μ322.1 23 8 = tt := ((F_324.1 23 (ni hprP (fun P => 23) (fun P => [P, P + 1]) rfl) 8).trans (hs_309.trans ((F_37.1 23 (by decide) 8).trans ((F_22.1 23 (by decide) 8).trans ((F_7.1 23 (by decide) 8).trans htt.symm)))))
            refine xc_vV G (b := 23) (rest := []) (As := [.int (iv 10), .int (iv 0), .int (iv 0), .int (iv r_323)]) (c_X7_endOfParts ω l μ322 10 0 0 r_323 μ (1) (1) P tt (by unfold ir; omega) (by unfold ir; omega) (by unfold ir; omega) (by unfold ir; omega) hI_325 (by omega) (by omega) (by omega) hpx_331 (Or.inl (by unfold plain; omega)) (by omega) (by rw [show eff 10 0 = 0 from rfl]; omega)) (wm 4 27 rfl rfl) (wm 4 29 rfl rfl) (wm 0 30 rfl rfl) rfl rfl (by decide) rfl (wm 1 12 rfl rfl) (wm 4 30 rfl rfl) (by decide) hR ⟨nfr hF (by decide), nlo hLo (by decide)⟩ (n := 4) rfl rfl (Nat.le_of_ble_eq_true rfl) hl.1 dX7_primary_144 (fun μ334 ρ d0 H locs hp G => ?_)
            obtain ⟨F_335, hI_336, hp_337, hs_338, hs_339⟩ := hp
            have hpx_340 : μ334.1 26 11 = 0 → PXE μ μ334 P tt 1 (-1) 1 := fun h0 => PXE.of (hp_337 (by have h9 : μ322.1 26 11 = μ296.1 26 11 := (F_324.1 26 (ni hprP (fun P => 26) (fun P => [P, P + 1]) rfl) 11); have h8 : μ334.1 26 11 = μ296.1 26 11 := ((F_335.1 26 (ni hprP (fun P => 26) (fun P => [P, P + 1]) rfl) 11).trans (F_324.1 26 (ni hprP (fun P => 26) (fun P => [P, P + 1]) rfl) 11)); omega))
            clear hp_337
            refine lv_goto (tgt := 238) hx hb dX7_primary_147 (by decide) ?_
            have htk_341 : TK μ334 := hp_299.fr (K := [P, P + 1]) (Fr.tr (Fr.tr Fr.rf F_324 (si hprP (fun P => [P, P + 1]) (fun P => [P, P + 1]) rfl)) F_335 (si hprP (fun P => [P, P + 1]) (fun P => [P, P + 1]) rfl)) (ni hprP (fun P => 26) (fun P => [P, P + 1]) rfl) (ni hprP (fun P => 28) (fun P => [P, P + 1]) rfl)
            have e_342 : μ334.1 26 11 = μ296.1 26 11 := ((F_335.1 26 (ni hprP (fun P => 26) (fun P => [P, P + 1]) rfl) 11).trans (F_324.1 26 (ni hprP (fun P => 26) (fun P => [P, P + 1]) rfl) 11))
            have e_343 : μ334.1 26 11 = μ296.1 26 11 := ((F_335.1 26 (ni hprP (fun P => 26) (fun P => [P, P + 1]) rfl) 11).trans (F_324.1 26 (ni hprP (fun P => 26) (fun P => [P, P + 1]) rfl) 11))
            have e_344 : μ334.1 26 10 = μ296.1 26 10 := ((F_335.1 26 (ni hprP (fun P => 26) (fun P => [P, P + 1]) rfl) 10).trans (F_324.1 26 (ni hprP (fun P => 26) (fun P => [P, P + 1]) rfl) 10))
            have e_345 : μ334.1 P 1 = μ322.1 P 1 + 1 := hs_338
            have e_346 : μ334.1 P 1 = μ322.1 P 1 + 1 := hs_338
            have e_347 : μ334.1 26 10 = μ296.1 26 10 := ((F_335.1 26 (ni hprP (fun P => 26) (fun P => [P, P + 1]) rfl) 10).trans (F_324.1 26 (ni hprP (fun P => 26) (fun P => [P, P + 1]) rfl) 10))
            have e_348 : μ334.1 26 11 = μ296.1 26 11 := ((F_335.1 26 (ni hprP (fun P => 26) (fun P => [P, P + 1]) rfl) 11).trans (F_324.1 26 (ni hprP (fun P => 26) (fun P => [P, P + 1]) rfl) 11))
            have e_349 : μ334.1 (P + 2) 3 = μ296.1 (P + 2) 3 := ((F_335.1 (P + 2) (ni hprP (fun P => P + 2) (fun P => [P, P + 1]) rfl) 3).trans (F_324.1 (P + 2) (ni hprP (fun P => P + 2) (fun P => [P, P + 1]) rfl) 3))
            have e_350 : μ334.1 P 1 = μ322.1 P 1 + 1 := hs_338
            have e_351 : μ334.1 (P + 2) 3 = μ296.1 (P + 2) 3 := ((F_335.1 (P + 2) (ni hprP (fun P => P + 2) (fun P => [P, P + 1]) rfl) 3).trans (F_324.1 (P + 2) (ni hprP (fun P => P + 2) (fun P => [P, P + 1]) rfl) 3))
            exact xr_v G hret hlk dX7_primary_238 ⟨(Fr.tr (Fr.tr (Fr.tr (Fr.tr (Fr.tr (Fr.tr Fr.rf F_7 (si hprP (fun P => [26]) (fun P => [2, 3, 4, 23, 24, 26, P, P + 1, P + 2, (P + 2) + 1, (P + 2) + 2, (P + 2) + 3]) rfl)) F_22 (si hprP (fun P => [26]) (fun P => [2, 3, 4, 23, 24, 26, P, P + 1, P + 2, (P + 2) + 1, (P + 2) + 2, (P + 2) + 3]) rfl)) F_37 (si hprP (fun P => [26]) (fun P => [2, 3, 4, 23, 24, 26, P, P + 1, P + 2, (P + 2) + 1, (P + 2) + 2, (P + 2) + 3]) rfl)) F_297 (si hprP (fun P => [2, 3, 4, 23, 24, 26, P, P + 1, P + 2, (P + 2) + 1, (P + 2) + 2, (P + 2) + 3]) (fun P => [2, 3, 4, 23, 24, 26, P, P + 1, P + 2, (P + 2) + 1, (P + 2) + 2, (P + 2) + 3]) rfl)) F_324 (si hprP (fun P => [P, P + 1]) (fun P => [2, 3, 4, 23, 24, 26, P, P + 1, P + 2, (P + 2) + 1, (P + 2) + 2, (P + 2) + 3]) rfl)) F_335 (si hprP (fun P => [P, P + 1]) (fun P => [2, 3, 4, 23, 24, 26, P, P + 1, P + 2, (P + 2) + 1, (P + 2) + 2, (P + 2) + 3]) rfl)), hI_336, htk_341, (by omega), (by omega), (by omega), (by omega), (fun h0 => (PXE.ex (hpx_340 h0)).e (by omega)), (((F_335.1 23 (ni hprP (fun P => 23) (fun P => [P, P + 1]) rfl) 2).trans ((F_324.1 23 (ni hprP (fun P => 23) (fun P => [P, P + 1]) rfl) 2).trans (hs_305.trans ((F_37.1 23 (by decide) 2).trans ((F_22.1 23 (by decide) 2).trans ((F_7.1 23 (by decide) 2).trans hP.symm))))))).trans hP, ((F_335.1 23 (ni hprP (fun P => 23) (fun P => [P, P + 1]) rfl) 5).trans ((F_324.1 23 (ni hprP (fun P => 23) (fun P => [P, P + 1]) rfl) 5).trans (hs_306.trans ((F_37.1 23 (by decide) 5).trans ((F_22.1 23 (by decide) 5).trans (F_7.1 23 (by decide) 5)))))), ((F_335.1 23 (ni hprP (fun P => 23) (fun P => [P, P + 1]) rfl) 6).trans ((F_324.1 23 (ni hprP (fun P => 23) (fun P => [P, P + 1]) rfl) 6).trans (hs_307.trans ((F_37.1 23 (by decide) 6).trans ((F_22.1 23 (by decide) 6).trans (F_7.1 23 (by decide) 6)))))), ((F_335.1 23 (ni hprP (fun P => 23) (fun P => [P, P + 1]) rfl) 7).trans ((F_324.1 23 (ni hprP (fun P => 23) (fun P => [P, P + 1]) rfl) 7).trans (hs_308.trans ((F_37.1 23 (by decide) 7).trans ((F_22.1 23 (by decide) 7).trans (F_7.1 23 (by decide) 7)))))), (((F_335.1 23 (ni hprP (fun P => 23) (fun P => [P, P + 1]) rfl) 8).trans ((F_324.1 23 (ni hprP (fun P => 23) (fun P => [P, P + 1]) rfl) 8).trans (hs_309.trans ((F_37.1 23 (by decide) 8).trans ((F_22.1 23 (by decide) 8).trans ((F_7.1 23 (by decide) 8).trans htt.symm))))))).trans htt, ((F_335.1 23 (ni hprP (fun P => 23) (fun P => [P, P + 1]) rfl) 9).trans ((F_324.1 23 (ni hprP (fun P => 23) (fun P => [P, P + 1]) rfl) 9).trans (hs_310.trans ((F_37.1 23 (by decide) 9).trans ((F_22.1 23 (by decide) 9).trans (F_7.1 23 (by decide) 9)))))), ((F_335.1 23 (ni hprP (fun P => 23) (fun P => [P, P + 1]) rfl) 10).trans ((F_324.1 23 (ni hprP (fun P => 23) (fun P => [P, P + 1]) rfl) 10).trans (hs_311.trans ((F_37.1 23 (by decide) 10).trans ((F_22.1 23 (by decide) 10).trans (F_7.1 23 (by decide) 10)))))), ((F_335.1 26 (ni hprP (fun P => 26) (fun P => [P, P + 1]) rfl) 6).trans ((F_324.1 26 (ni hprP (fun P => 26) (fun P => [P, P + 1]) rfl) 6).trans (hs_312.trans (hs_42.trans (hs_27.trans hs_12))))), (hs_339.trans (hs_328.trans (hs_313.trans ((F_37.1 P (ni hprP (fun P => P) (fun P => [26]) rfl) 7).trans ((F_22.1 P (ni hprP (fun P => P) (fun P => [26]) rfl) 7).trans (F_7.1 P (ni hprP (fun P => P) (fun P => [26]) rfl) 7))))))⟩
        · refine lv_aload_n hx hb dX7_primary_90 rfl (lv_at hl 1 rfl) ?_
          refine lv_bipush (v := iv 91) hx hb dX7_primary_91 rfl ?_
          refine lv_bipush (v := iv 93) hx hb dX7_primary_93 rfl ?_
          have hpx_352 : μ20.1 26 11 = 0 → PXE μ μ20 P tt 0 (-1) 1 := fun h0 => (hpx_18 (by have h9 : μ5.1 26 11 = μ.1 26 11 := hs_11; have h8 : μ20.1 26 11 = μ.1 26 11 := (hs_26.trans hs_11); omega)).fr (K := [26]) (Fr.tr Fr.rf F_22 (by decide)) (npL_p (L := [26]) (by decide) hprP).1 (npL_p (L := [26]) (by decide) hprP).2.1
          have e_353 : μ20.1 23 2 = P := ((F_22.1 23 (by decide) 2).trans ((F_7.1 23 (by decide) 2).trans hP.symm))
          have e_354 : μ20.1 23 8 = tt := ((F_22.1 23 (by decide) 8).trans ((F_7.1 23 (by decide) 8).trans htt.symm))
          have e_355 : μ20.1 P 1 = μ.1 P 1 := ((F_22.1 P (ni hprP (fun P => P) (fun P => [26]) rfl) 1).trans (F_7.1 P (ni hprP (fun P => P) (fun P => [26]) rfl) 1))
          have e_356 : μ20.1 26 11 = μ.1 26 11 := (hs_26.trans hs_11)
          have hk_357 := hI.row (r := P + 2) (hprP.row)
          unfold rk at hk_357
          have e_358 : μ20.1 (P + 2) 3 = μ.1 (P + 2) 3 := ((F_22.1 (P + 2) (ni hprP (fun P => P + 2) (fun P => [26]) rfl) 3).trans (F_7.1 (P + 2) (ni hprP (fun P => P + 2) (fun P => [26]) rfl) 3))
          have e_359 : μ20.1 P 1 = μ.1 P 1 := ((F_22.1 P (ni hprP (fun P => P) (fun P => [26]) rfl) 1).trans (F_7.1 P (ni hprP (fun P => P) (fun P => [26]) rfl) 1))
          have e_360 : μ20.1 23 9 = μ.1 23 9 := ((F_22.1 23 (by decide) 9).trans (F_7.1 23 (by decide) 9))
          have e_361 : μ20.1 23 9 = μ.1 23 9 := ((F_22.1 23 (by decide) 9).trans (F_7.1 23 (by decide) 9))
          have e_362 : μ20.1 23 9 = μ.1 23 9 := ((F_22.1 23 (by decide) 9).trans (F_7.1 23 (by decide) 9))
          have e_363 : μ20.1 26 11 = μ.1 26 11 := (hs_26.trans hs_11)
          have e_364 : μ20.1 P 1 = μ.1 P 1 := ((F_22.1 P (ni hprP (fun P => P) (fun P => [26]) rfl) 1).trans (F_7.1 P (ni hprP (fun P => P) (fun P => [26]) rfl) 1))
          have e_365 : μ20.1 P 1 = μ.1 P 1 := ((F_22.1 P (ni hprP (fun P => P) (fun P => [26]) rfl) 1).trans (F_7.1 P (ni hprP (fun P => P) (fun P => [26]) rfl) 1))
          have e_366 : μ20.1 (P + 2) 3 = μ.1 (P + 2) 3 := ((F_22.1 (P + 2) (ni hprP (fun P => P + 2) (fun P => [26]) rfl) 3).trans (F_7.1 (P + 2) (ni hprP (fun P => P + 2) (fun P => [26]) rfl) 3))
          have e_367 : μ20.1 P 1 = μ.1 P 1 := ((F_22.1 P (ni hprP (fun P => P) (fun P => [26]) rfl) 1).trans (F_7.1 P (ni hprP (fun P => P) (fun P => [26]) rfl) 1))
          have e_368 : μ20.1 (P + 2) 3 = μ.1 (P + 2) 3 := ((F_22.1 (P + 2) (ni hprP (fun P => P + 2) (fun P => [26]) rfl) 3).trans (F_7.1 (P + 2) (ni hprP (fun P => P + 2) (fun P => [26]) rfl) 3))
          refine xc_vV G (b := 23) (rest := []) (As := [.int (iv 91), .int (iv 93)]) (c_X7_inBrackets ω l μ20 91 93 F Lo kf P tt (by unfold ir; omega) (by unfold ir; omega) hI_23 (by omega) (by omega) hF hLo hE hU hp_24 (by omega) (by omega) (by omega) (by omega) (by omega) (by omega) (by omega)) (wm 4 92 rfl rfl) (wm 4 94 rfl rfl) (wm 0 39 rfl rfl) rfl rfl (by decide) rfl (wm 1 12 rfl rfl) (wm 4 95 rfl rfl) (by decide) hR ⟨sfr (F := F) (a := 1) (by decide), slo (L := Lo) (m := 3) (a := 22) (by decide)⟩ (n := 2) rfl rfl (Nat.le_of_ble_eq_true rfl) hl.1 dX7_primary_95 (fun μ369 ρ d0 H locs hp G => ?_)
          obtain ⟨F_370, hI_371, hp_372, hp_373, hp_374, hp_375, hp_376, hp_377, hs_378, hs_379, hs_380, hs_381, hs_382, hs_383, hs_384, hs_385, hs_386⟩ := hp
          have hn_387 : -1 ≤ μ369.1 26 10 ∧ μ369.1 26 10 ≤ 3000 := hI_371.nm.2.2.2.2.2.2.2.2.2.2.2.2
          have hk_388 := hI_371.pr (p := P) hprP
          unfold pk at hk_388
          have hc_389 : 16 ≤ μ369.2.1 (P + 1) ∧ μ369.2.1 (P + 1) ≤ 73024 := hI_371.rm.1 _ hprP.cap
          have hk_390 := hI_371.row (r := P + 2) (hprP.row)
          unfold rk at hk_390
          have htb_391 := hp_372.b
          have hpx_392 : μ369.1 26 11 = 0 → PXE μ μ369 P tt 1 (-1) 1 := fun h0 => (PXE.app (hpx_352 (by have h9 : μ20.1 26 11 = μ.1 26 11 := (hs_26.trans hs_11); have h8 : μ369.1 26 11 = μ369.1 26 11 := rfl; omega)) (hp_377 h0)).e (by omega)
          refine lv_aload_n hx hb dX7_primary_98 rfl (lv_at hl 1 rfl) ?_
          refine lv_bipush (v := iv 9) hx hb dX7_primary_99 rfl ?_
          refine lv_iconst (v := iv 0) hx hb dX7_primary_101 rfl ?_
          refine lv_iconst (v := iv 0) hx hb dX7_primary_102 rfl ?_
          refine lv_aload_n hx hb dX7_primary_103 rfl (lv_at hl 1 rfl) ?_
          refine lv_iconst (v := iv (-1)) hx hb dX7_primary_104 rfl ?_
          refine lv_iconst (v := iv 0) hx hb dX7_primary_105 rfl ?_
          have e_393 : μ369.1 23 2 = P := (hs_378.trans ((F_22.1 23 (by decide) 2).trans ((F_7.1 23 (by decide) 2).trans hP.symm)))
          have e_394 : μ369.1 23 8 = tt := (hs_382.trans ((F_22.1 23 (by decide) 8).trans ((F_7.1 23 (by decide) 8).trans htt.symm)))
          refine xc_iV G (b := 23) (rest := [.int (iv 0), .int (iv 0), .int (iv 9), .ref (oP ω 23)]) (As := [.int (iv (-1)), .int (iv 0)]) (c_X7_ifFails ω l μ369 (-1) 0 μ (1) (1) P tt (by unfold ir; omega) (by unfold ir; omega) hI_371 (by omega) (by omega) (by omega) hpx_392 (by omega) (by omega)) (wm 4 23 rfl rfl) (wm 4 25 rfl rfl) (wm 0 29 rfl rfl) rfl rfl (by decide) rfl (wm 1 12 rfl rfl) (wm 4 26 rfl rfl) (by decide) hR ⟨nfr hF (by decide), nlo hLo (by decide)⟩ (n := 2) rfl rfl (Nat.le_of_ble_eq_true rfl) hl.1 dX7_primary_106 (fun r_396 μ395 ρ d0 H locs hr_r_396 hp G => ?_)
          have hr_r_396 : -2147483648 ≤ r_396 ∧ r_396 ≤ 2147483647 := hr_r_396
          obtain ⟨F_397, hI_398, hp_399, hp_400, hs_401⟩ := hp
          have hk_402 := hI_398.pr (p := P) hprP
          unfold pk at hk_402
          have hc_403 : 16 ≤ μ395.2.1 (P + 1) ∧ μ395.2.1 (P + 1) ≤ 73024 := hI_398.rm.1 _ hprP.cap
          have hpx_404 : μ395.1 26 11 = 0 → PXE μ μ395 P tt 1 r_396 1 := fun h0 => hp_399 (by have h9 : μ369.1 26 11 = μ369.1 26 11 := rfl; have h8 : μ395.1 26 11 = μ369.1 26 11 := (F_397.1 26 (ni hprP (fun P => 26) (fun P => [P, P + 1]) rfl) 11); omega)
          clear hp_399
          have e_405 : μ395.1 23 2 = P := ((F_397.1 23 (ni hprP (fun P => 23) (fun P => [P, P + 1]) rfl) 2).trans (hs_378.trans ((F_22.1 23 (by decide) 2).trans ((F_7.1 23 (by decide) 2).trans hP.symm))))
          have e_406 : μ395.1 23 8 = tt := ((F_397.1 23 (ni hprP (fun P => 23) (fun P => [P, P + 1]) rfl) 8).trans (hs_382.trans ((F_22.1 23 (by decide) 8).trans ((F_7.1 23 (by decide) 8).trans htt.symm))))
          refine xc_vV G (b := 23) (rest := []) (As := [.int (iv 9), .int (iv 0), .int (iv 0), .int (iv r_396)]) (c_X7_endOfParts ω l μ395 9 0 0 r_396 μ (1) (1) P tt (by unfold ir; omega) (by unfold ir; omega) (by unfold ir; omega) (by unfold ir; omega) hI_398 (by omega) (by omega) (by omega) hpx_404 (Or.inl (by unfold plain; omega)) (by omega) (by rw [show eff 9 0 = 0 from rfl]; omega)) (wm 4 27 rfl rfl) (wm 4 29 rfl rfl) (wm 0 30 rfl rfl) rfl rfl (by decide) rfl (wm 1 12 rfl rfl) (wm 4 30 rfl rfl) (by decide) hR ⟨nfr hF (by decide), nlo hLo (by decide)⟩ (n := 4) rfl rfl (Nat.le_of_ble_eq_true rfl) hl.1 dX7_primary_109 (fun μ407 ρ d0 H locs hp G => ?_)
          obtain ⟨F_408, hI_409, hp_410, hs_411, hs_412⟩ := hp
          have hpx_413 : μ407.1 26 11 = 0 → PXE μ μ407 P tt 1 (-1) 1 := fun h0 => PXE.of (hp_410 (by have h9 : μ395.1 26 11 = μ369.1 26 11 := (F_397.1 26 (ni hprP (fun P => 26) (fun P => [P, P + 1]) rfl) 11); have h8 : μ407.1 26 11 = μ369.1 26 11 := ((F_408.1 26 (ni hprP (fun P => 26) (fun P => [P, P + 1]) rfl) 11).trans (F_397.1 26 (ni hprP (fun P => 26) (fun P => [P, P + 1]) rfl) 11)); omega))
          clear hp_410
          refine lv_goto (tgt := 238) hx hb dX7_primary_112 (by decide) ?_
          have htk_414 : TK μ407 := hp_372.fr (K := [P, P + 1]) (Fr.tr (Fr.tr Fr.rf F_397 (si hprP (fun P => [P, P + 1]) (fun P => [P, P + 1]) rfl)) F_408 (si hprP (fun P => [P, P + 1]) (fun P => [P, P + 1]) rfl)) (ni hprP (fun P => 26) (fun P => [P, P + 1]) rfl) (ni hprP (fun P => 28) (fun P => [P, P + 1]) rfl)
          have e_415 : μ407.1 26 11 = μ369.1 26 11 := ((F_408.1 26 (ni hprP (fun P => 26) (fun P => [P, P + 1]) rfl) 11).trans (F_397.1 26 (ni hprP (fun P => 26) (fun P => [P, P + 1]) rfl) 11))
          have e_416 : μ407.1 26 11 = μ369.1 26 11 := ((F_408.1 26 (ni hprP (fun P => 26) (fun P => [P, P + 1]) rfl) 11).trans (F_397.1 26 (ni hprP (fun P => 26) (fun P => [P, P + 1]) rfl) 11))
          have e_417 : μ407.1 26 10 = μ369.1 26 10 := ((F_408.1 26 (ni hprP (fun P => 26) (fun P => [P, P + 1]) rfl) 10).trans (F_397.1 26 (ni hprP (fun P => 26) (fun P => [P, P + 1]) rfl) 10))
          have e_418 : μ407.1 P 1 = μ395.1 P 1 + 1 := hs_411
          have e_419 : μ407.1 P 1 = μ395.1 P 1 + 1 := hs_411
          have e_420 : μ407.1 26 10 = μ369.1 26 10 := ((F_408.1 26 (ni hprP (fun P => 26) (fun P => [P, P + 1]) rfl) 10).trans (F_397.1 26 (ni hprP (fun P => 26) (fun P => [P, P + 1]) rfl) 10))
          have e_421 : μ407.1 26 11 = μ369.1 26 11 := ((F_408.1 26 (ni hprP (fun P => 26) (fun P => [P, P + 1]) rfl) 11).trans (F_397.1 26 (ni hprP (fun P => 26) (fun P => [P, P + 1]) rfl) 11))
          have e_422 : μ407.1 (P + 2) 3 = μ369.1 (P + 2) 3 := ((F_408.1 (P + 2) (ni hprP (fun P => P + 2) (fun P => [P, P + 1]) rfl) 3).trans (F_397.1 (P + 2) (ni hprP (fun P => P + 2) (fun P => [P, P + 1]) rfl) 3))
          have e_423 : μ407.1 P 1 = μ395.1 P 1 + 1 := hs_411
          have e_424 : μ407.1 (P + 2) 3 = μ369.1 (P + 2) 3 := ((F_408.1 (P + 2) (ni hprP (fun P => P + 2) (fun P => [P, P + 1]) rfl) 3).trans (F_397.1 (P + 2) (ni hprP (fun P => P + 2) (fun P => [P, P + 1]) rfl) 3))
          exact xr_v G hret hlk dX7_primary_238 ⟨(Fr.tr (Fr.tr (Fr.tr (Fr.tr (Fr.tr Fr.rf F_7 (si hprP (fun P => [26]) (fun P => [2, 3, 4, 23, 24, 26, P, P + 1, P + 2, (P + 2) + 1, (P + 2) + 2, (P + 2) + 3]) rfl)) F_22 (si hprP (fun P => [26]) (fun P => [2, 3, 4, 23, 24, 26, P, P + 1, P + 2, (P + 2) + 1, (P + 2) + 2, (P + 2) + 3]) rfl)) F_370 (si hprP (fun P => [2, 3, 4, 23, 24, 26, P, P + 1, P + 2, (P + 2) + 1, (P + 2) + 2, (P + 2) + 3]) (fun P => [2, 3, 4, 23, 24, 26, P, P + 1, P + 2, (P + 2) + 1, (P + 2) + 2, (P + 2) + 3]) rfl)) F_397 (si hprP (fun P => [P, P + 1]) (fun P => [2, 3, 4, 23, 24, 26, P, P + 1, P + 2, (P + 2) + 1, (P + 2) + 2, (P + 2) + 3]) rfl)) F_408 (si hprP (fun P => [P, P + 1]) (fun P => [2, 3, 4, 23, 24, 26, P, P + 1, P + 2, (P + 2) + 1, (P + 2) + 2, (P + 2) + 3]) rfl)), hI_409, htk_414, (by omega), (by omega), (by omega), (by omega), (fun h0 => (PXE.ex (hpx_413 h0)).e (by omega)), (((F_408.1 23 (ni hprP (fun P => 23) (fun P => [P, P + 1]) rfl) 2).trans ((F_397.1 23 (ni hprP (fun P => 23) (fun P => [P, P + 1]) rfl) 2).trans (hs_378.trans ((F_22.1 23 (by decide) 2).trans ((F_7.1 23 (by decide) 2).trans hP.symm)))))).trans hP, ((F_408.1 23 (ni hprP (fun P => 23) (fun P => [P, P + 1]) rfl) 5).trans ((F_397.1 23 (ni hprP (fun P => 23) (fun P => [P, P + 1]) rfl) 5).trans (hs_379.trans ((F_22.1 23 (by decide) 5).trans (F_7.1 23 (by decide) 5))))), ((F_408.1 23 (ni hprP (fun P => 23) (fun P => [P, P + 1]) rfl) 6).trans ((F_397.1 23 (ni hprP (fun P => 23) (fun P => [P, P + 1]) rfl) 6).trans (hs_380.trans ((F_22.1 23 (by decide) 6).trans (F_7.1 23 (by decide) 6))))), ((F_408.1 23 (ni hprP (fun P => 23) (fun P => [P, P + 1]) rfl) 7).trans ((F_397.1 23 (ni hprP (fun P => 23) (fun P => [P, P + 1]) rfl) 7).trans (hs_381.trans ((F_22.1 23 (by decide) 7).trans (F_7.1 23 (by decide) 7))))), (((F_408.1 23 (ni hprP (fun P => 23) (fun P => [P, P + 1]) rfl) 8).trans ((F_397.1 23 (ni hprP (fun P => 23) (fun P => [P, P + 1]) rfl) 8).trans (hs_382.trans ((F_22.1 23 (by decide) 8).trans ((F_7.1 23 (by decide) 8).trans htt.symm)))))).trans htt, ((F_408.1 23 (ni hprP (fun P => 23) (fun P => [P, P + 1]) rfl) 9).trans ((F_397.1 23 (ni hprP (fun P => 23) (fun P => [P, P + 1]) rfl) 9).trans (hs_383.trans ((F_22.1 23 (by decide) 9).trans (F_7.1 23 (by decide) 9))))), ((F_408.1 23 (ni hprP (fun P => 23) (fun P => [P, P + 1]) rfl) 10).trans ((F_397.1 23 (ni hprP (fun P => 23) (fun P => [P, P + 1]) rfl) 10).trans (hs_384.trans ((F_22.1 23 (by decide) 10).trans (F_7.1 23 (by decide) 10))))), ((F_408.1 26 (ni hprP (fun P => 26) (fun P => [P, P + 1]) rfl) 6).trans ((F_397.1 26 (ni hprP (fun P => 26) (fun P => [P, P + 1]) rfl) 6).trans (hs_385.trans (hs_27.trans hs_12)))), (hs_412.trans (hs_401.trans (hs_386.trans ((F_22.1 P (ni hprP (fun P => P) (fun P => [26]) rfl) 7).trans (F_7.1 P (ni hprP (fun P => P) (fun P => [26]) rfl) 7)))))⟩
      · refine lv_aload_n hx hb dX7_primary_69 rfl (lv_at hl 1 rfl) ?_
        refine lv_iconst (v := iv 3) hx hb dX7_primary_70 rfl ?_
        refine lv_iconst (v := iv 0) hx hb dX7_primary_71 rfl ?_
        refine lv_iconst (v := iv 0) hx hb dX7_primary_72 rfl ?_
        have hpx_425 : μ5.1 26 11 = 0 → PXE μ μ5 P tt 0 (-1) 1 := fun h0 => (hnil (by have h9 : μ.1 26 11 = μ.1 26 11 := rfl; have h8 : μ5.1 26 11 = μ.1 26 11 := hs_11; omega)).fr (K := [26]) (Fr.tr Fr.rf F_7 (by decide)) (npL_p (L := [26]) (by decide) hprP).1 (npL_p (L := [26]) (by decide) hprP).2.1
        have e_426 : μ5.1 23 2 = P := ((F_7.1 23 (by decide) 2).trans hP.symm)
        have e_427 : μ5.1 P 1 = μ.1 P 1 := (F_7.1 P (ni hprP (fun P => P) (fun P => [26]) rfl) 1)
        have e_428 : μ5.1 P 1 = μ.1 P 1 := (F_7.1 P (ni hprP (fun P => P) (fun P => [26]) rfl) 1)
        have e_429 : μ5.1 P 1 = μ.1 P 1 := (F_7.1 P (ni hprP (fun P => P) (fun P => [26]) rfl) 1)
        refine xc_iV G (b := 23) (rest := []) (As := [.int (iv 3), .int (iv 0), .int (iv 0)]) (c_X7_add ω l μ5 3 0 0 P (by unfold ir; omega) (by unfold ir; omega) (by unfold ir; omega) hI_8 (by omega) (by omega)) (wm 3 226 rfl rfl) (wm 3 228 rfl rfl) (wm 0 21 rfl rfl) rfl rfl (by decide) rfl (wm 1 12 rfl rfl) (wm 3 229 rfl rfl) (by decide) hR ⟨nfr hF (by decide), nlo hLo (by decide)⟩ (n := 3) rfl rfl (Nat.le_of_ble_eq_true rfl) hl.1 dX7_primary_73 (fun r_431 μ430 ρ d0 H locs hr_r_431 hp G => ?_)
        have hr_r_431 : -2147483648 ≤ r_431 ∧ r_431 ≤ 2147483647 := hr_r_431
        obtain ⟨F_432, hI_433, hp_434, hp_435, hs_436, hs_437⟩ := hp
        have hpx_438 : μ430.1 26 11 = 0 → PXE μ μ430 P tt 1 (-1) 1 := fun h0 => (PXE.app (hpx_425 (by have h9 : μ5.1 26 11 = μ.1 26 11 := hs_11; have h8 : μ430.1 26 11 = μ.1 26 11 := ((F_432.1 26 (ni hprP (fun P => 26) (fun P => [P, P + 1]) rfl) 11).trans hs_11); omega)) (EX.pl hp_435 (by omega) (by unfold plain; omega) (e := 1) rfl (by have h9 := hs_1 (μ := μ5) (P := P) (i := μ5.1 P 1); omega))).e (by omega)
        refine lv_pop hx hb dX7_primary_76 rfl ?_
        refine lv_goto (tgt := 238) hx hb dX7_primary_77 (by decide) ?_
        have htk_439 : TK μ430 := hp_9.fr (K := [P, P + 1]) (Fr.tr Fr.rf F_432 (si hprP (fun P => [P, P + 1]) (fun P => [P, P + 1]) rfl)) (ni hprP (fun P => 26) (fun P => [P, P + 1]) rfl) (ni hprP (fun P => 28) (fun P => [P, P + 1]) rfl)
        have e_440 : μ430.1 26 11 = μ.1 26 11 := ((F_432.1 26 (ni hprP (fun P => 26) (fun P => [P, P + 1]) rfl) 11).trans hs_11)
        have e_441 : μ430.1 26 11 = μ.1 26 11 := ((F_432.1 26 (ni hprP (fun P => 26) (fun P => [P, P + 1]) rfl) 11).trans hs_11)
        have e_442 : μ430.1 26 10 = μ5.1 26 10 := (F_432.1 26 (ni hprP (fun P => 26) (fun P => [P, P + 1]) rfl) 10)
        have e_443 : μ430.1 P 1 = μ5.1 P 1 + 1 := hs_436
        have e_444 : μ430.1 P 1 = μ5.1 P 1 + 1 := hs_436
        have e_445 : μ430.1 26 10 = μ5.1 26 10 := (F_432.1 26 (ni hprP (fun P => 26) (fun P => [P, P + 1]) rfl) 10)
        have e_446 : μ430.1 26 11 = μ.1 26 11 := ((F_432.1 26 (ni hprP (fun P => 26) (fun P => [P, P + 1]) rfl) 11).trans hs_11)
        have e_447 : μ430.1 (P + 2) 3 = μ.1 (P + 2) 3 := ((F_432.1 (P + 2) (ni hprP (fun P => P + 2) (fun P => [P, P + 1]) rfl) 3).trans (F_7.1 (P + 2) (ni hprP (fun P => P + 2) (fun P => [26]) rfl) 3))
        have e_448 : μ430.1 P 1 = μ5.1 P 1 + 1 := hs_436
        have e_449 : μ430.1 (P + 2) 3 = μ.1 (P + 2) 3 := ((F_432.1 (P + 2) (ni hprP (fun P => P + 2) (fun P => [P, P + 1]) rfl) 3).trans (F_7.1 (P + 2) (ni hprP (fun P => P + 2) (fun P => [26]) rfl) 3))
        exact xr_v G hret hlk dX7_primary_238 ⟨(Fr.tr (Fr.tr Fr.rf F_7 (si hprP (fun P => [26]) (fun P => [2, 3, 4, 23, 24, 26, P, P + 1, P + 2, (P + 2) + 1, (P + 2) + 2, (P + 2) + 3]) rfl)) F_432 (si hprP (fun P => [P, P + 1]) (fun P => [2, 3, 4, 23, 24, 26, P, P + 1, P + 2, (P + 2) + 1, (P + 2) + 2, (P + 2) + 3]) rfl)), hI_433, htk_439, (by omega), (by omega), (by omega), (by omega), (fun h0 => (PXE.ex (hpx_438 h0)).e (by omega)), (((F_432.1 23 (ni hprP (fun P => 23) (fun P => [P, P + 1]) rfl) 2).trans ((F_7.1 23 (by decide) 2).trans hP.symm))).trans hP, ((F_432.1 23 (ni hprP (fun P => 23) (fun P => [P, P + 1]) rfl) 5).trans (F_7.1 23 (by decide) 5)), ((F_432.1 23 (ni hprP (fun P => 23) (fun P => [P, P + 1]) rfl) 6).trans (F_7.1 23 (by decide) 6)), ((F_432.1 23 (ni hprP (fun P => 23) (fun P => [P, P + 1]) rfl) 7).trans (F_7.1 23 (by decide) 7)), (((F_432.1 23 (ni hprP (fun P => 23) (fun P => [P, P + 1]) rfl) 8).trans ((F_7.1 23 (by decide) 8).trans htt.symm))).trans htt, ((F_432.1 23 (ni hprP (fun P => 23) (fun P => [P, P + 1]) rfl) 9).trans (F_7.1 23 (by decide) 9)), ((F_432.1 23 (ni hprP (fun P => 23) (fun P => [P, P + 1]) rfl) 10).trans (F_7.1 23 (by decide) 10)), ((F_432.1 26 (ni hprP (fun P => 26) (fun P => [P, P + 1]) rfl) 6).trans hs_12), (hs_437.trans (F_7.1 P (ni hprP (fun P => P) (fun P => [26]) rfl) 7))⟩
    · refine lv_aload_n hx hb dX7_primary_52 rfl (lv_at hl 1 rfl) ?_
      have e_450 : μ.1 23 2 = P := hP.symm
      have e_451 : μ.1 23 8 = tt := htt.symm
      have hn_452 : -1 ≤ μ.1 26 10 ∧ μ.1 26 10 ≤ 3000 := hI.nm.2.2.2.2.2.2.2.2.2.2.2.2
      have hk_453 := hI.row (r := P + 2) (hprP.row)
      unfold rk at hk_453
      refine xc_vV G (b := 23) (rest := []) (As := []) (c_X7_number ω l μ F Lo kf P tt hI (by omega) (by omega) hF hLo hE hU hTK (by omega) (by omega) (by omega) (by omega) (by omega) (by omega)) (wm 4 96 rfl rfl) (wm 4 98 rfl rfl) (wm 0 40 rfl rfl) rfl rfl (by decide) rfl (wm 1 12 rfl rfl) (wm 4 99 rfl rfl) (by decide) hR ⟨sfr (F := F) (a := 0) (by decide), slo (L := Lo) (m := 6) (a := 0) (by decide)⟩ (n := 0) rfl rfl (Nat.le_of_ble_eq_true rfl) hl.1 dX7_primary_53 (fun μ454 ρ d0 H locs hp G => ?_)
      obtain ⟨F_455, hI_456, hp_457, hp_458, hp_459, hp_460, hp_461, hp_462, hs_463, hs_464, hs_465, hs_466, hs_467, hs_468, hs_469, hs_470, hs_471⟩ := hp
      have hn_472 : -1 ≤ μ454.1 26 10 ∧ μ454.1 26 10 ≤ 3000 := hI_456.nm.2.2.2.2.2.2.2.2.2.2.2.2
      have hk_473 := hI_456.pr (p := P) hprP
      unfold pk at hk_473
      have hc_474 : 16 ≤ μ454.2.1 (P + 1) ∧ μ454.2.1 (P + 1) ≤ 73024 := hI_456.rm.1 _ hprP.cap
      have hk_475 := hI_456.row (r := P + 2) (hprP.row)
      unfold rk at hk_475
      have htb_476 := hp_457.b
      have hpx_477 : μ454.1 26 11 = 0 → PXE μ μ454 P tt 1 (-1) 1 := fun h0 => (PXE.app (hnil (by have h9 : μ.1 26 11 = μ.1 26 11 := rfl; have h8 : μ454.1 26 11 = μ454.1 26 11 := rfl; omega)) (hp_462 h0)).e (by omega)
      refine lv_goto (tgt := 238) hx hb dX7_primary_56 (by decide) ?_
      exact xr_v G hret hlk dX7_primary_238 ⟨(Fr.tr Fr.rf F_455 (si hprP (fun P => [2, 3, 4, 23, 24, 26, P, P + 1, P + 2, (P + 2) + 1, (P + 2) + 2, (P + 2) + 3]) (fun P => [2, 3, 4, 23, 24, 26, P, P + 1, P + 2, (P + 2) + 1, (P + 2) + 2, (P + 2) + 3]) rfl)), hI_456, hp_457, (by omega), (by omega), (by omega), (by omega), (fun h0 => (PXE.ex (hpx_477 h0)).e (by omega)), ((hs_463.trans hP.symm)).trans hP, hs_464, hs_465, hs_466, ((hs_467.trans htt.symm)).trans htt, hs_468, hs_469, hs_470, hs_471⟩
  · refine lv_aload_n hx hb dX7_primary_13 rfl (lv_at hl 1 rfl) ?_
    refine xa_getr G fd_X7 (a := 23) (x := 26) 0 rfl (by decide) rfl (wm 2 17 rfl rfl) ⟨rfl, rfl, rfl⟩ dX7_primary_14 rfl (G.sk 23 rfl) (by decide) rfl ?_
    refine xa_getN G fd_X10 (host := "FourTongues") (a := 26) 14 rfl (by decide) (by decide) ⟨rfl, rfl, rfl⟩ dX7_primary_17 rfl (v := .long (jv (μ.1 26 14))) (by rw [show μ.1 26 14 = μ.1 26 14 from rfl]; rfl) ?_
    have hj_478 : jr (μ.1 26 14) := by have h9 := G.hj (a := 26) (k := 14) rfl; exact h9
    refine lv_lstore_n (lv' := [(2, .long (jv (μ.1 26 14))), (1, .int (iv (μ.1 26 12))), (0, .ref (oP ω 23))]) hx hb dX7_primary_20 rfl hl (by decide) rfl (fun ls hl => ?_)
    refine lv_aload_n hx hb dX7_primary_21 rfl (lv_at hl 2 rfl) ?_
    refine xa_getr G fd_X7 (a := 23) (x := 26) 0 rfl (by decide) rfl (wm 2 17 rfl rfl) ⟨rfl, rfl, rfl⟩ dX7_primary_22 rfl (G.sk 23 rfl) (by decide) rfl ?_
    refine xa_getN G fd_X10 (host := "FourTongues") (a := 26) 13 rfl (by decide) (by decide) ⟨rfl, rfl, rfl⟩ dX7_primary_25 rfl (v := .int (iv (μ.1 26 13))) (by rw [show μ.1 26 13 = μ.1 26 13 from rfl]; rfl) ?_
    have hr_479 : -2147483648 ≤ μ.1 26 13 ∧ μ.1 26 13 ≤ 2147483647 := by have h9 := G.hr (a := 26) (k := 13) rfl; exact h9
    refine lv_istore (lv' := [(4, .int (iv (μ.1 26 13))), (2, .long (jv (μ.1 26 14))), (1, .int (iv (μ.1 26 12))), (0, .ref (oP ω 23))]) hx hb dX7_primary_28 hl (by decide) rfl (fun ls hl => ?_)
    refine lv_aload_n hx hb dX7_primary_30 rfl (lv_at hl 3 rfl) ?_
    refine xa_getr G fd_X7 (a := 23) (x := 26) 0 rfl (by decide) rfl (wm 2 17 rfl rfl) ⟨rfl, rfl, rfl⟩ dX7_primary_31 rfl (G.sk 23 rfl) (by decide) rfl ?_
    have hn_480 : 0 ≤ μ.1 26 6 ∧ μ.1 26 6 ≤ 3001 := hI.nm.2.2.2.2.2.2.2.2.2.1
    have hn_481 : -1 ≤ μ.1 26 10 ∧ μ.1 26 10 ≤ 3000 := hI.nm.2.2.2.2.2.2.2.2.2.2.2.2
    refine xc_vV G (b := 26) (rest := []) (As := []) (c_X10_next ω l μ  hI (by omega) (by omega)) (wm 3 164 rfl rfl) (wm 3 157 rfl rfl) (wm 3 158 rfl rfl) rfl rfl (by decide) rfl (wm 1 13 rfl rfl) (wm 3 159 rfl rfl) (by decide) hR ⟨nfr hF (by decide), nlo hLo (by decide)⟩ (n := 0) rfl rfl (Nat.le_of_ble_eq_true rfl) hl.1 dX7_primary_34 (fun μ482 ρ d0 H locs hp G => ?_)
    obtain ⟨F_483, hI_484, hp_485, hs_486, hs_487, hs_488, hs_489, hs_490⟩ := hp
    have hn_491 : -1 ≤ μ482.1 26 10 ∧ μ482.1 26 10 ≤ 3000 := hI_484.nm.2.2.2.2.2.2.2.2.2.2.2.2
    obtain ⟨htk_492, htk_492_s, htk_492_n⟩ := TK.nx hTK F_483 hs_487 hs_486 (by have h9 : μ.1 26 12 = μ.1 26 12 := rfl; omega) hp_485
    clear hp_485
    have htb_493 := htk_492.b
    refine lv_aload_n hx hb dX7_primary_37 rfl (lv_at hl 3 rfl) ?_
    refine lv_lload_n hx hb dX7_primary_38 rfl (lv_at hl 1 rfl) ?_
    refine lv_iload hx hb dX7_primary_39 (lv_at hl 0 rfl) ?_
    have hpx_494 : μ482.1 26 11 = 0 → PXE μ μ482 P tt 0 (-1) 1 := fun h0 => (hnil (by have h9 : μ.1 26 11 = μ.1 26 11 := rfl; have h8 : μ482.1 26 11 = μ.1 26 11 := hs_486; omega)).fr (K := [26]) (Fr.tr Fr.rf F_483 (by decide)) (npL_p (L := [26]) (by decide) hprP).1 (npL_p (L := [26]) (by decide) hprP).2.1
    have e_495 : μ482.1 23 2 = P := ((F_483.1 23 (by decide) 2).trans hP.symm)
    have e_496 : μ482.1 23 8 = tt := ((F_483.1 23 (by decide) 8).trans htt.symm)
    have e_497 : μ482.1 P 1 = μ.1 P 1 := (F_483.1 P (ni hprP (fun P => P) (fun P => [26]) rfl) 1)
    have e_498 : μ482.1 26 11 = μ.1 26 11 := hs_486
    have hk_499 := hI.row (r := P + 2) (hprP.row)
    unfold rk at hk_499
    have e_500 : μ482.1 (P + 2) 3 = μ.1 (P + 2) 3 := (F_483.1 (P + 2) (ni hprP (fun P => P + 2) (fun P => [26]) rfl) 3)
    have e_501 : μ482.1 P 1 = μ.1 P 1 := (F_483.1 P (ni hprP (fun P => P) (fun P => [26]) rfl) 1)
    have e_502 : μ482.1 23 9 = μ.1 23 9 := (F_483.1 23 (by decide) 9)
    have e_503 : μ482.1 23 9 = μ.1 23 9 := (F_483.1 23 (by decide) 9)
    have e_504 : μ482.1 23 9 = μ.1 23 9 := (F_483.1 23 (by decide) 9)
    have e_505 : μ482.1 26 11 = μ.1 26 11 := hs_486
    have e_506 : μ482.1 26 11 = μ.1 26 11 := hs_486
    have e_507 : μ482.1 P 1 = μ.1 P 1 := (F_483.1 P (ni hprP (fun P => P) (fun P => [26]) rfl) 1)
    have e_508 : μ482.1 P 1 = μ.1 P 1 := (F_483.1 P (ni hprP (fun P => P) (fun P => [26]) rfl) 1)
    have e_509 : μ482.1 (P + 2) 3 = μ.1 (P + 2) 3 := (F_483.1 (P + 2) (ni hprP (fun P => P + 2) (fun P => [26]) rfl) 3)
    have e_510 : μ482.1 P 1 = μ.1 P 1 := (F_483.1 P (ni hprP (fun P => P) (fun P => [26]) rfl) 1)
    have e_511 : μ482.1 (P + 2) 3 = μ.1 (P + 2) 3 := (F_483.1 (P + 2) (ni hprP (fun P => P + 2) (fun P => [26]) rfl) 3)
    refine xc_vV G (b := 23) (rest := []) (As := [.long (jv (μ.1 26 14)), .int (iv (μ.1 26 13))]) (c_X7_afterName ω l μ482 (μ.1 26 14) (μ.1 26 13) F Lo kf P tt hj_478 (by unfold ir; omega) hI_484 (by omega) (by omega) hF hLo hE hU htk_492 (by omega) (by omega) (by omega) (by omega) (by omega) (by omega)) (wm 4 59 rfl rfl) (wm 4 61 rfl rfl) (wm 0 35 rfl rfl) rfl rfl (by decide) rfl (wm 1 12 rfl rfl) (wm 4 62 rfl rfl) (by decide) hR ⟨sfr (F := F) (a := 3) (by decide), slo (L := Lo) (m := 5) (a := 66) (by decide)⟩ (n := 2) rfl rfl (Nat.le_of_ble_eq_true rfl) hl.1 dX7_primary_41 (fun μ512 ρ d0 H locs hp G => ?_)
    obtain ⟨F_513, hI_514, hp_515, hp_516, hp_517, hp_518, hp_519, hp_520, hs_521, hs_522, hs_523, hs_524, hs_525, hs_526, hs_527, hs_528, hs_529⟩ := hp
    have hn_530 : -1 ≤ μ512.1 26 10 ∧ μ512.1 26 10 ≤ 3000 := hI_514.nm.2.2.2.2.2.2.2.2.2.2.2.2
    have hk_531 := hI_514.pr (p := P) hprP
    unfold pk at hk_531
    have hc_532 : 16 ≤ μ512.2.1 (P + 1) ∧ μ512.2.1 (P + 1) ≤ 73024 := hI_514.rm.1 _ hprP.cap
    have hk_533 := hI_514.row (r := P + 2) (hprP.row)
    unfold rk at hk_533
    have htb_534 := hp_515.b
    have hpx_535 : μ512.1 26 11 = 0 → PXE μ μ512 P tt 1 (-1) 1 := fun h0 => (PXE.app (hpx_494 (by have h9 : μ482.1 26 11 = μ.1 26 11 := hs_486; have h8 : μ512.1 26 11 = μ512.1 26 11 := rfl; omega)) (hp_520 h0)).e (by omega)
    refine lv_goto (tgt := 238) hx hb dX7_primary_44 (by decide) ?_
    exact xr_v G hret hlk dX7_primary_238 ⟨(Fr.tr (Fr.tr Fr.rf F_483 (si hprP (fun P => [26]) (fun P => [2, 3, 4, 23, 24, 26, P, P + 1, P + 2, (P + 2) + 1, (P + 2) + 2, (P + 2) + 3]) rfl)) F_513 (si hprP (fun P => [2, 3, 4, 23, 24, 26, P, P + 1, P + 2, (P + 2) + 1, (P + 2) + 2, (P + 2) + 3]) (fun P => [2, 3, 4, 23, 24, 26, P, P + 1, P + 2, (P + 2) + 1, (P + 2) + 2, (P + 2) + 3]) rfl)), hI_514, hp_515, (by omega), (by omega), (by omega), (by omega), (fun h0 => (PXE.ex (hpx_535 h0)).e (by omega)), ((hs_521.trans ((F_483.1 23 (by decide) 2).trans hP.symm))).trans hP, (hs_522.trans (F_483.1 23 (by decide) 5)), (hs_523.trans (F_483.1 23 (by decide) 6)), (hs_524.trans (F_483.1 23 (by decide) 7)), ((hs_525.trans ((F_483.1 23 (by decide) 8).trans htt.symm))).trans htt, (hs_526.trans (F_483.1 23 (by decide) 9)), (hs_527.trans (F_483.1 23 (by decide) 10)), (hs_528.trans hs_487), (hs_529.trans (F_483.1 P (ni hprP (fun P => P) (fun P => [26]) rfl) 7))⟩
