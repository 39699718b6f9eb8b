abbrev cX7_primary : ByteArray := prog_9_method_46_code
def yX7_primary : MethodName := ⟨RX7, "primary", "()V"⟩
theorem dX7_primary_0 : decode cX7_primary 0 = .ok (.aload_n 0, 1) := by decide +kernel
theorem dX7_primary_1 : decode cX7_primary 1 = .ok (.getfield 43, 3) := by decide +kernel
theorem dX7_primary_4 : decode cX7_primary 4 = .ok (.getfield 80, 3) := by decide +kernel
theorem dX7_primary_7 : decode cX7_primary 7 = .ok (.istore_n 1, 1) := by decide +kernel
theorem dX7_primary_8 : decode cX7_primary 8 = .ok (.iload_n 1, 1) := by decide +kernel
theorem dX7_primary_9 : decode cX7_primary 9 = .ok (.iconst 1, 1) := by decide +kernel
theorem dX7_primary_10 : decode cX7_primary 10 = .ok (.if_icmp .ne 37, 3) := by decide +kernel
theorem dX7_primary_13 : decode cX7_primary 13 = .ok (.aload_n 0, 1) := by decide +kernel
theorem dX7_primary_14 : decode cX7_primary 14 = .ok (.getfield 43, 3) := by decide +kernel
theorem dX7_primary_17 : decode cX7_primary 17 = .ok (.getfield 133, 3) := by decide +kernel
theorem dX7_primary_20 : decode cX7_primary 20 = .ok (.lstore_n 2, 1) := by decide +kernel
theorem dX7_primary_21 : decode cX7_primary 21 = .ok (.aload_n 0, 1) := by decide +kernel
theorem dX7_primary_22 : decode cX7_primary 22 = .ok (.getfield 43, 3) := by decide +kernel
theorem dX7_primary_25 : decode cX7_primary 25 = .ok (.getfield 96, 3) := by decide +kernel
theorem dX7_primary_28 : decode cX7_primary 28 = .ok (.istore 4, 2) := by decide +kernel
theorem dX7_primary_30 : decode cX7_primary 30 = .ok (.aload_n 0, 1) := by decide +kernel
theorem dX7_primary_31 : decode cX7_primary 31 = .ok (.getfield 43, 3) := by decide +kernel
theorem dX7_primary_34 : decode cX7_primary 34 = .ok (.invokevirtual 97, 3) := by decide +kernel
theorem dX7_primary_37 : decode cX7_primary 37 = .ok (.aload_n 0, 1) := by decide +kernel
theorem dX7_primary_38 : decode cX7_primary 38 = .ok (.lload_n 2, 1) := by decide +kernel
theorem dX7_primary_39 : decode cX7_primary 39 = .ok (.iload 4, 2) := by decide +kernel
theorem dX7_primary_41 : decode cX7_primary 41 = .ok (.invokevirtual 234, 3) := by decide +kernel
theorem dX7_primary_44 : decode cX7_primary 44 = .ok (.goto 194, 3) := by decide +kernel
theorem dX7_primary_47 : decode cX7_primary 47 = .ok (.iload_n 1, 1) := by decide +kernel
theorem dX7_primary_48 : decode cX7_primary 48 = .ok (.iconst 2, 1) := by decide +kernel
theorem dX7_primary_49 : decode cX7_primary 49 = .ok (.if_icmp .ne 10, 3) := by decide +kernel
theorem dX7_primary_52 : decode cX7_primary 52 = .ok (.aload_n 0, 1) := by decide +kernel
theorem dX7_primary_53 : decode cX7_primary 53 = .ok (.invokevirtual 285, 3) := by decide +kernel
theorem dX7_primary_56 : decode cX7_primary 56 = .ok (.goto 182, 3) := by decide +kernel
theorem dX7_primary_59 : decode cX7_primary 59 = .ok (.aload_n 0, 1) := by decide +kernel
theorem dX7_primary_60 : decode cX7_primary 60 = .ok (.sipush 223, 3) := by decide +kernel
theorem dX7_primary_63 : decode cX7_primary 63 = .ok (.invokevirtual 83, 3) := by decide +kernel
theorem dX7_primary_66 : decode cX7_primary 66 = .ok (.ifCond .eq 14, 3) := by decide +kernel
theorem dX7_primary_69 : decode cX7_primary 69 = .ok (.aload_n 0, 1) := by decide +kernel
theorem dX7_primary_70 : decode cX7_primary 70 = .ok (.iconst 3, 1) := by decide +kernel
theorem dX7_primary_71 : decode cX7_primary 71 = .ok (.iconst 0, 1) := by decide +kernel
theorem dX7_primary_72 : decode cX7_primary 72 = .ok (.iconst 0, 1) := by decide +kernel
theorem dX7_primary_73 : decode cX7_primary 73 = .ok (.invokevirtual 157, 3) := by decide +kernel
theorem dX7_primary_76 : decode cX7_primary 76 = .ok (.pop, 1) := by decide +kernel
theorem dX7_primary_77 : decode cX7_primary 77 = .ok (.goto 161, 3) := by decide +kernel
theorem dX7_primary_80 : decode cX7_primary 80 = .ok (.aload_n 0, 1) := by decide +kernel
theorem dX7_primary_81 : decode cX7_primary 81 = .ok (.sipush 224, 3) := by decide +kernel
theorem dX7_primary_84 : decode cX7_primary 84 = .ok (.invokevirtual 83, 3) := by decide +kernel
theorem dX7_primary_87 : decode cX7_primary 87 = .ok (.ifCond .eq 28, 3) := by decide +kernel
theorem dX7_primary_90 : decode cX7_primary 90 = .ok (.aload_n 0, 1) := by decide +kernel
theorem dX7_primary_91 : decode cX7_primary 91 = .ok (.bipush 91, 2) := by decide +kernel
theorem dX7_primary_93 : decode cX7_primary 93 = .ok (.bipush 93, 2) := by decide +kernel
theorem dX7_primary_95 : decode cX7_primary 95 = .ok (.invokevirtual 288, 3) := by decide +kernel
theorem dX7_primary_98 : decode cX7_primary 98 = .ok (.aload_n 0, 1) := by decide +kernel
theorem dX7_primary_99 : decode cX7_primary 99 = .ok (.bipush 9, 2) := by decide +kernel
theorem dX7_primary_101 : decode cX7_primary 101 = .ok (.iconst 0, 1) := by decide +kernel
theorem dX7_primary_102 : decode cX7_primary 102 = .ok (.iconst 0, 1) := by decide +kernel
theorem dX7_primary_103 : decode cX7_primary 103 = .ok (.aload_n 0, 1) := by decide +kernel
theorem dX7_primary_104 : decode cX7_primary 104 = .ok (.iconst (-1), 1) := by decide +kernel
theorem dX7_primary_105 : decode cX7_primary 105 = .ok (.iconst 0, 1) := by decide +kernel
theorem dX7_primary_106 : decode cX7_primary 106 = .ok (.invokevirtual 273, 3) := by decide +kernel
theorem dX7_primary_109 : decode cX7_primary 109 = .ok (.invokevirtual 230, 3) := by decide +kernel
theorem dX7_primary_112 : decode cX7_primary 112 = .ok (.goto 126, 3) := by decide +kernel
theorem dX7_primary_115 : decode cX7_primary 115 = .ok (.aload_n 0, 1) := by decide +kernel
theorem dX7_primary_116 : decode cX7_primary 116 = .ok (.sipush 225, 3) := by decide +kernel
theorem dX7_primary_119 : decode cX7_primary 119 = .ok (.invokevirtual 83, 3) := by decide +kernel
theorem dX7_primary_122 : decode cX7_primary 122 = .ok (.ifCond .eq 28, 3) := by decide +kernel
theorem dX7_primary_125 : decode cX7_primary 125 = .ok (.aload_n 0, 1) := by decide +kernel
theorem dX7_primary_126 : decode cX7_primary 126 = .ok (.bipush 40, 2) := by decide +kernel
theorem dX7_primary_128 : decode cX7_primary 128 = .ok (.bipush 41, 2) := by decide +kernel
theorem dX7_primary_130 : decode cX7_primary 130 = .ok (.invokevirtual 288, 3) := by decide +kernel
theorem dX7_primary_133 : decode cX7_primary 133 = .ok (.aload_n 0, 1) := by decide +kernel
theorem dX7_primary_134 : decode cX7_primary 134 = .ok (.bipush 10, 2) := by decide +kernel
theorem dX7_primary_136 : decode cX7_primary 136 = .ok (.iconst 0, 1) := by decide +kernel
theorem dX7_primary_137 : decode cX7_primary 137 = .ok (.iconst 0, 1) := by decide +kernel
theorem dX7_primary_138 : decode cX7_primary 138 = .ok (.aload_n 0, 1) := by decide +kernel
theorem dX7_primary_139 : decode cX7_primary 139 = .ok (.iconst (-1), 1) := by decide +kernel
theorem dX7_primary_140 : decode cX7_primary 140 = .ok (.iconst 0, 1) := by decide +kernel
theorem dX7_primary_141 : decode cX7_primary 141 = .ok (.invokevirtual 273, 3) := by decide +kernel
theorem dX7_primary_144 : decode cX7_primary 144 = .ok (.invokevirtual 230, 3) := by decide +kernel
theorem dX7_primary_147 : decode cX7_primary 147 = .ok (.goto 91, 3) := by decide +kernel
theorem dX7_primary_150 : decode cX7_primary 150 = .ok (.iload_n 1, 1) := by decide +kernel
theorem dX7_primary_151 : decode cX7_primary 151 = .ok (.bipush 40, 2) := by decide +kernel
theorem dX7_primary_153 : decode cX7_primary 153 = .ok (.if_icmp .ne 14, 3) := by decide +kernel
theorem dX7_primary_156 : decode cX7_primary 156 = .ok (.aload_n 0, 1) := by decide +kernel
theorem dX7_primary_157 : decode cX7_primary 157 = .ok (.bipush 40, 2) := by decide +kernel
theorem dX7_primary_159 : decode cX7_primary 159 = .ok (.bipush 41, 2) := by decide +kernel
theorem dX7_primary_161 : decode cX7_primary 161 = .ok (.invokevirtual 288, 3) := by decide +kernel
theorem dX7_primary_164 : decode cX7_primary 164 = .ok (.goto 74, 3) := by decide +kernel
theorem dX7_primary_167 : decode cX7_primary 167 = .ok (.aload_n 0, 1) := by decide +kernel
theorem dX7_primary_168 : decode cX7_primary 168 = .ok (.bipush 38, 2) := by decide +kernel
theorem dX7_primary_170 : decode cX7_primary 170 = .ok (.invokevirtual 83, 3) := by decide +kernel
theorem dX7_primary_173 : decode cX7_primary 173 = .ok (.ifCond .eq 10, 3) := by decide +kernel
theorem dX7_primary_176 : decode cX7_primary 176 = .ok (.aload_n 0, 1) := by decide +kernel
theorem dX7_primary_177 : decode cX7_primary 177 = .ok (.invokevirtual 291, 3) := by decide +kernel
theorem dX7_primary_180 : decode cX7_primary 180 = .ok (.goto 58, 3) := by decide +kernel
theorem dX7_primary_183 : decode cX7_primary 183 = .ok (.aload_n 0, 1) := by decide +kernel
theorem dX7_primary_184 : decode cX7_primary 184 = .ok (.invokevirtual 294, 3) := by decide +kernel
theorem dX7_primary_187 : decode cX7_primary 187 = .ok (.ifCond .eq 47, 3) := by decide +kernel
theorem dX7_primary_190 : decode cX7_primary 190 = .ok (.iload_n 1, 1) := by decide +kernel
theorem dX7_primary_191 : decode cX7_primary 191 = .ok (.sipush 229, 3) := by decide +kernel
theorem dX7_primary_194 : decode cX7_primary 194 = .ok (.isub, 1) := by decide +kernel
theorem dX7_primary_195 : decode cX7_primary 195 = .ok (.istore_n 2, 1) := by decide +kernel
theorem dX7_primary_196 : decode cX7_primary 196 = .ok (.aload_n 0, 1) := by decide +kernel
theorem dX7_primary_197 : decode cX7_primary 197 = .ok (.getfield 43, 3) := by decide +kernel
theorem dX7_primary_200 : decode cX7_primary 200 = .ok (.invokevirtual 97, 3) := by decide +kernel
theorem dX7_primary_203 : decode cX7_primary 203 = .ok (.aload_n 0, 1) := by decide +kernel
theorem dX7_primary_204 : decode cX7_primary 204 = .ok (.bipush 46, 2) := by decide +kernel
theorem dX7_primary_206 : decode cX7_primary 206 = .ok (.invokevirtual 100, 3) := by decide +kernel
theorem dX7_primary_209 : decode cX7_primary 209 = .ok (.aload_n 0, 1) := by decide +kernel
theorem dX7_primary_210 : decode cX7_primary 210 = .ok (.getfield 43, 3) := by decide +kernel
theorem dX7_primary_213 : decode cX7_primary 213 = .ok (.getfield 133, 3) := by decide +kernel
theorem dX7_primary_216 : decode cX7_primary 216 = .ok (.lstore_n 3, 1) := by decide +kernel
theorem dX7_primary_217 : decode cX7_primary 217 = .ok (.aload_n 0, 1) := by decide +kernel
theorem dX7_primary_218 : decode cX7_primary 218 = .ok (.iconst 1, 1) := by decide +kernel
theorem dX7_primary_219 : decode cX7_primary 219 = .ok (.invokevirtual 100, 3) := by decide +kernel
theorem dX7_primary_222 : decode cX7_primary 222 = .ok (.aload_n 0, 1) := by decide +kernel
theorem dX7_primary_223 : decode cX7_primary 223 = .ok (.bipush 13, 2) := by decide +kernel
theorem dX7_primary_225 : decode cX7_primary 225 = .ok (.iload_n 2, 1) := by decide +kernel
theorem dX7_primary_226 : decode cX7_primary 226 = .ok (.lload_n 3, 1) := by decide +kernel
theorem dX7_primary_227 : decode cX7_primary 227 = .ok (.iconst (-1), 1) := by decide +kernel
theorem dX7_primary_228 : decode cX7_primary 228 = .ok (.invokevirtual 297, 3) := by decide +kernel
theorem dX7_primary_231 : decode cX7_primary 231 = .ok (.goto 7, 3) := by decide +kernel
theorem dX7_primary_234 : decode cX7_primary 234 = .ok (.aload_n 0, 1) := by decide +kernel
theorem dX7_primary_235 : decode cX7_primary 235 = .ok (.invokevirtual 301, 3) := by decide +kernel
theorem dX7_primary_238 : decode cX7_primary 238 = .ok (.return_, 1) := by decide +kernel
set_option maxHeartbeats 4000000 in
set_option maxRecDepth 100000 in
theorem c_X7_primary (ω : Om) (l : Launch) (μ : M3) (F : Nat) (Lo : Nat) (Fu : Nat) (Lu : Nat) (kf : Int) (P : Int) (tt : Int) (hI : IC μ) (hP : P = μ.1 23 2) (htt : tt = μ.1 23 8) (hF : 60 ≤ F) (hLo : 2000 ≤ Lo) (hFu : Fu ≤ F) (hLu : Lu ≤ Lo) (hE : ∀ (μ : M3) (x1 : Int) (P : Int) (tt : Int) (hx1 : x1 = 0 ∨ x1 = 1) (hI : IC μ) (hP : P = μ.1 23 2) (htt : tt = μ.1 23 8) (hTK : TK μ) (hB : 2 * μ.1 P 1 ≤ 5 * μ.1 26 10 + 200 + 80 * μ.1 26 11) (hKc : μ.1 (P + 2) 3 ≤ μ.1 P 1) (ht3 : 0 ≤ tt ∧ tt ≤ 3) (hdp : 0 ≤ μ.1 23 9 ∧ μ.1 23 9 ≤ 8 + μ.1 26 11) (hfu : 0 ≤ (kf - 1) ∧ 9 ≤ μ.1 23 9 + (kf - 1) + 20 * μ.1 26 11) (hbg : ∀ _ : Unit, x1 = 0 ∨ μ.1 26 11 ≠ 0 ∨ 2 ≤ hs μ P (μ.1 P 1)), CtV ω l yX7_expression cX7_expression 3 (F + 0) (Lo + 0) [.ref (oP ω 23), .int (iv x1)] μ (fun (μ' : M3) => (Fr [2, 3, 4, 23, 24, 26, P, P + 1, P + 2, (P + 2) + 1, (P + 2) + 2, (P + 2) + 3] μ μ') ∧ (IC μ') ∧ (TK μ') ∧ (μ.1 26 11 ≤ μ'.1 26 11) ∧ (μ.1 26 10 ≤ μ'.1 26 10) ∧ (μ.1 P 1 ≤ μ'.1 P 1 ∧ μ'.1 P 1 ≤ μ.1 P 1 + 2 * (μ'.1 26 10 - μ.1 26 10) + (- 1 + 3 * μ'.1 26 11 - 2 * μ.1 26 11 + x1)) ∧ (μ'.1 (P + 2) 3 - μ.1 (P + 2) 3 ≤ μ'.1 P 1 - μ.1 P 1 ∧ μ.1 (P + 2) 3 ≤ μ'.1 (P + 2) 3) ∧ (μ'.1 26 11 = 0 → EX μ μ' P tt (1 - x1) 0) ∧ (μ'.1 23 2 = μ.1 23 2) ∧ (μ'.1 23 5 = μ.1 23 5) ∧ (μ'.1 23 6 = μ.1 23 6) ∧ (μ'.1 23 7 = μ.1 23 7) ∧ (μ'.1 23 8 = μ.1 23 8) ∧ (μ'.1 23 9 = μ.1 23 9) ∧ (μ'.1 23 10 = μ.1 23 10) ∧ (μ'.1 26 6 = μ.1 26 6) ∧ (μ'.1 P 7 = μ.1 P 7))) (hU : ∀ (μ : M3) (x1 : Int) (P : Int) (tt : Int) (hx1 : x1 = 0 ∨ x1 = 1) (hI : IC μ) (hP : P = μ.1 23 2) (htt : tt = μ.1 23 8) (hTK : TK μ) (hB : 2 * μ.1 P 1 ≤ 5 * μ.1 26 10 + 200 + 80 * μ.1 26 11) (hKc : μ.1 (P + 2) 3 ≤ μ.1 P 1) (ht3 : 0 ≤ tt ∧ tt ≤ 3) (hdp : 0 ≤ μ.1 23 9 ∧ μ.1 23 9 ≤ 8 + μ.1 26 11) (hfu : 0 ≤ (kf - 1) ∧ 9 ≤ μ.1 23 9 + (kf - 1) + 20 * μ.1 26 11) (hbg : ∀ _ : Unit, x1 = 0 ∨ μ.1 26 11 ≠ 0 ∨ 2 ≤ hs μ P (μ.1 P 1)), CtV ω l yX7_unary cX7_unary 2 (Fu + 0) (Lu + 0) [.ref (oP ω 23), .int (iv x1)] μ (fun (μ' : M3) => (Fr [2, 3, 4, 23, 24, 26, P, P + 1, P + 2, (P + 2) + 1, (P + 2) + 2, (P + 2) + 3] μ μ') ∧ (IC μ') ∧ (TK μ') ∧ (μ.1 26 11 ≤ μ'.1 26 11) ∧ (μ.1 26 10 ≤ μ'.1 26 10) ∧ (μ.1 P 1 ≤ μ'.1 P 1 ∧ μ'.1 P 1 ≤ μ.1 P 1 + 2 * (μ'.1 26 10 - μ.1 26 10) + (- 1 + 3 * μ'.1 26 11 - 2 * μ.1 26 11 + x1)) ∧ (μ'.1 (P + 2) 3 - μ.1 (P + 2) 3 ≤ μ'.1 P 1 - μ.1 P 1 ∧ μ.1 (P + 2) 3 ≤ μ'.1 (P + 2) 3) ∧ (μ'.1 26 11 = 0 → EX μ μ' P tt (1 - x1) 0) ∧ (μ'.1 23 2 = μ.1 23 2) ∧ (μ'.1 23 5 = μ.1 23 5) ∧ (μ'.1 23 6 = μ.1 23 6) ∧ (μ'.1 23 7 = μ.1 23 7) ∧ (μ'.1 23 8 = μ.1 23 8) ∧ (μ'.1 23 9 = μ.1 23 9) ∧ (μ'.1 23 10 = μ.1 23 10) ∧ (μ'.1 26 6 = μ.1 26 6) ∧ (μ'.1 P 7 = μ.1 P 7))) (hTK : TK μ) (hB : 2 * μ.1 P 1 ≤ 5 * μ.1 26 10 + 200 + 80 * μ.1 26 11) (hKc : μ.1 (P + 2) 3 ≤ μ.1 P 1) (ht3 : 0 ≤ tt ∧ tt ≤ 3) (hdp : 0 ≤ μ.1 23 9 ∧ μ.1 23 9 ≤ 8 + μ.1 26 11) (hfu : 0 ≤ kf ∧ 9 ≤ μ.1 23 9 + kf + 20 * μ.1 26 11) : CtV ω l yX7_primary cX7_primary 5 (F + 4) (Lo + 90) [.ref (oP ω 23)] μ (fun (μ' : M3) => (Fr [2, 3, 4, 23, 24, 26, P, P + 1, P + 2, (P + 2) + 1, (P + 2) + 2, (P + 2) + 3] μ μ') ∧ (IC μ') ∧ (TK μ') ∧ (μ.1 26 11 ≤ μ'.1 26 11) ∧ (μ.1 26 10 ≤ μ'.1 26 10) ∧ (μ.1 P 1 ≤ μ'.1 P 1 ∧ μ'.1 P 1 ≤ μ.1 P 1 + 2 * (μ'.1 26 10 - μ.1 26 10) + (- 1 + 3 * μ'.1 26 11 - 2 * μ.1 26 11)) ∧ (μ'.1 (P + 2) 3 - μ.1 (P + 2) 3 ≤ μ'.1 P 1 - μ.1 P 1 ∧ μ.1 (P + 2) 3 ≤ μ'.1 (P + 2) 3) ∧ (μ'.1 26 11 = 0 → EX μ μ' P tt 1 0) ∧ (μ'.1 23 2 = μ.1 23 2) ∧ (μ'.1 23 5 = μ.1 23 5) ∧ (μ'.1 23 6 = μ.1 23 6) ∧ (μ'.1 23 7 = μ.1 23 7) ∧ (μ'.1 23 8 = μ.1 23 8) ∧ (μ'.1 23 9 = μ.1 23 9) ∧ (μ'.1 23 10 = μ.1 23 10) ∧ (μ'.1 26 6 = μ.1 26 6) ∧ (μ'.1 P 7 = μ.1 P 7)) := by
  refine CtV.go (by decide) (Nat.le_of_ble_eq_true rfl) (fun ρ p e s m below meth c R ls G hR hret hlk hl => ?_)
  have hx := G.1.1
  have hb := G.1.2.1
  have hl : lv_has ls 5 [(0, .ref (oP ω 23))] := hl
  generalize s.drawn = d0 at G ⊢
  have hTKb := hTK.b
  have hprP : isPr P := by have h9 := G.sr0.2.2.2.2.2; rw [← hP] at h9; exact h9
  have hprP_d : 13 ≤ P ∧ P ≤ 101 := by rcases hprP with h9 | h9 | h9 | h9 | h9 <;> omega
  have hk_1 := hI.pr (p := P) hprP
  unfold pk at hk_1
  have hc_2 : 16 ≤ μ.2.1 (P + 1) ∧ μ.2.1 (P + 1) ≤ 73024 := hI.rm.1 _ hprP.cap
  have hnil : μ.1 26 11 = 0 → PXE μ μ P tt 0 (-1) 1 := fun _ => PXE.nil (by omega)
  refine lv_aload_n hx hb dX7_primary_0 rfl (lv_at hl 0 rfl) ?_
  refine xa_getr G fd_X7 (a := 23) (x := 26) 0 rfl (by decide) rfl (wm 2 17 rfl rfl) ⟨rfl, rfl, rfl⟩ dX7_primary_1 rfl (G.sk 23 rfl) (by decide) rfl ?_
  refine xa_getN G fd_X10 (host := "FourTongues") (a := 26) 12 rfl (by decide) (by decide) ⟨rfl, rfl, rfl⟩ dX7_primary_4 rfl (v := .int (iv (μ.1 26 12))) (by rw [show μ.1 26 12 = μ.1 26 12 from rfl]; rfl) ?_
  have hr_3 : -2147483648 ≤ μ.1 26 12 ∧ μ.1 26 12 ≤ 2147483647 := by have h9 := G.hr (a := 26) (k := 12) rfl; exact h9
  refine lv_istore_n (lv' := [(1, .int (iv (μ.1 26 12))), (0, .ref (oP ω 23))]) hx hb dX7_primary_7 rfl hl (by decide) rfl (fun ls hl => ?_)
  refine lv_iload_n hx hb dX7_primary_8 rfl (lv_at hl 0 rfl) ?_
  refine lv_iconst (v := iv 1) hx hb dX7_primary_9 rfl ?_
  refine xb_icmp_ne (tgt := 47) hx hb (by unfold ir; omega) (by unfold ir; omega) dX7_primary_10 (by decide) (fun c_10 => ?_) (fun c_10 => ?_)
  · refine lv_iload_n hx hb dX7_primary_47 rfl (lv_at hl 0 rfl) ?_
    refine lv_iconst (v := iv 2) hx hb dX7_primary_48 rfl ?_
    refine xb_icmp_ne (tgt := 59) hx hb (by unfold ir; omega) (by unfold ir; omega) dX7_primary_49 (by decide) (fun c_49 => ?_) (fun c_49 => ?_)
    · refine lv_aload_n hx hb dX7_primary_59 rfl (lv_at hl 1 rfl) ?_
      refine lv_sipush (v := iv 223) hx hb dX7_primary_60 rfl ?_
      have hn_4 : -1 ≤ μ.1 26 10 ∧ μ.1 26 10 ≤ 3000 := hI.nm.2.2.2.2.2.2.2.2.2.2.2.2
      refine xc_iV G (b := 23) (rest := []) (As := [.int (iv 223)]) (c_X7_took_b ω l μ 223 (by unfold ir; omega) hI hTK (by omega)) (wm 3 160 rfl rfl) (wm 3 162 rfl rfl) (wm 0 9 rfl rfl) rfl rfl (by decide) rfl (wm 1 12 rfl rfl) (wm 3 163 rfl rfl) (by decide) hR ⟨nfr hF (by decide), nlo hLo (by decide)⟩ (n := 1) rfl rfl (Nat.le_of_ble_eq_true rfl) hl.1 dX7_primary_63 (fun r_6 μ5 ρ d0 H locs hr_r_6 hp G => ?_)
      have hr_r_6 : -2147483648 ≤ r_6 ∧ r_6 ≤ 2147483647 := hr_r_6
      obtain ⟨F_7, hI_8, hp_9, hp_10, hp_11, hs_12, hs_13, hs_14, hs_15, hs_16⟩ := hp
      have hn_17 : -1 ≤ μ5.1 26 10 ∧ μ5.1 26 10 ≤ 3000 := hI_8.nm.2.2.2.2.2.2.2.2.2.2.2.2
      have htb_18 := hp_9.b
      refine xb_if_eq (tgt := 80) hx hb (by unfold ir; omega) dX7_primary_66 (by decide) (fun c_66 => ?_) (fun c_66 => ?_)
      · refine lv_aload_n hx hb dX7_primary_80 rfl (lv_at hl 1 rfl) ?_
        refine lv_sipush (v := iv 224) hx hb dX7_primary_81 rfl ?_
        have hpx_19 : μ5.1 26 11 = 0 → PXE μ μ5 P tt 0 (-1) 1 := fun h0 => (hnil (by have h9 : μ.1 26 11 = μ.1 26 11 := rfl; have h8 : μ5.1 26 11 = μ.1 26 11 := hs_12; omega)).fr (K := [26]) (Fr.tr Fr.rf F_7 (by decide)) (npL_p (L := [26]) (by decide) hprP).1 (npL_p (L := [26]) (by decide) hprP).2.1
        have e_20 : μ5.1 26 11 = μ.1 26 11 := hs_12
        refine xc_iV G (b := 23) (rest := []) (As := [.int (iv 224)]) (c_X7_took_b ω l μ5 224 (by unfold ir; omega) hI_8 hp_9 (by omega)) (wm 3 160 rfl rfl) (wm 3 162 rfl rfl) (wm 0 9 rfl rfl) rfl rfl (by decide) rfl (wm 1 12 rfl rfl) (wm 3 163 rfl rfl) (by decide) hR ⟨nfr hF (by decide), nlo hLo (by decide)⟩ (n := 1) rfl rfl (Nat.le_of_ble_eq_true rfl) hl.1 dX7_primary_84 (fun r_22 μ21 ρ d0 H locs hr_r_22 hp G => ?_)
        have hr_r_22 : -2147483648 ≤ r_22 ∧ r_22 ≤ 2147483647 := hr_r_22
        obtain ⟨F_23, hI_24, hp_25, hp_26, hp_27, hs_28, hs_29, hs_30, hs_31, hs_32⟩ := hp
        have hn_33 : -1 ≤ μ21.1 26 10 ∧ μ21.1 26 10 ≤ 3000 := hI_24.nm.2.2.2.2.2.2.2.2.2.2.2.2
        have htb_34 := hp_25.b
        refine xb_if_eq (tgt := 115) hx hb (by unfold ir; omega) dX7_primary_87 (by decide) (fun c_87 => ?_) (fun c_87 => ?_)
        · refine lv_aload_n hx hb dX7_primary_115 rfl (lv_at hl 1 rfl) ?_
          refine lv_sipush (v := iv 225) hx hb dX7_primary_116 rfl ?_
          have hpx_35 : μ21.1 26 11 = 0 → PXE μ μ21 P tt 0 (-1) 1 := fun h0 => (hpx_19 (by have h9 : μ5.1 26 11 = μ.1 26 11 := hs_12; have h8 : μ21.1 26 11 = μ.1 26 11 := (hs_28.trans hs_12); omega)).fr (K := [26]) (Fr.tr Fr.rf F_23 (by decide)) (npL_p (L := [26]) (by decide) hprP).1 (npL_p (L := [26]) (by decide) hprP).2.1
          have e_36 : μ21.1 26 11 = μ.1 26 11 := (hs_28.trans hs_12)
          refine xc_iV G (b := 23) (rest := []) (As := [.int (iv 225)]) (c_X7_took_b ω l μ21 225 (by unfold ir; omega) hI_24 hp_25 (by omega)) (wm 3 160 rfl rfl) (wm 3 162 rfl rfl) (wm 0 9 rfl rfl) rfl rfl (by decide) rfl (wm 1 12 rfl rfl) (wm 3 163 rfl rfl) (by decide) hR ⟨nfr hF (by decide), nlo hLo (by decide)⟩ (n := 1) rfl rfl (Nat.le_of_ble_eq_true rfl) hl.1 dX7_primary_119 (fun r_38 μ37 ρ d0 H locs hr_r_38 hp G => ?_)
          have hr_r_38 : -2147483648 ≤ r_38 ∧ r_38 ≤ 2147483647 := hr_r_38
          obtain ⟨F_39, hI_40, hp_41, hp_42, hp_43, hs_44, hs_45, hs_46, hs_47, hs_48⟩ := hp
          have hn_49 : -1 ≤ μ37.1 26 10 ∧ μ37.1 26 10 ≤ 3000 := hI_40.nm.2.2.2.2.2.2.2.2.2.2.2.2
          have htb_50 := hp_41.b
          refine xb_if_eq (tgt := 150) hx hb (by unfold ir; omega) dX7_primary_122 (by decide) (fun c_122 => ?_) (fun c_122 => ?_)
          · refine lv_iload_n hx hb dX7_primary_150 rfl (lv_at hl 0 rfl) ?_
            refine lv_bipush (v := iv 40) hx hb dX7_primary_151 rfl ?_
            refine xb_icmp_ne (tgt := 167) hx hb (by unfold ir; omega) (by unfold ir; omega) dX7_primary_153 (by decide) (fun c_153 => ?_) (fun c_153 => ?_)
            · refine lv_aload_n hx hb dX7_primary_167 rfl (lv_at hl 1 rfl) ?_
              refine lv_bipush (v := iv 38) hx hb dX7_primary_168 rfl ?_
              have hpx_51 : μ37.1 26 11 = 0 → PXE μ μ37 P tt 0 (-1) 1 := fun h0 => (hpx_35 (by have h9 : μ21.1 26 11 = μ.1 26 11 := (hs_28.trans hs_12); have h8 : μ37.1 26 11 = μ.1 26 11 := (hs_44.trans (hs_28.trans hs_12)); omega)).fr (K := [26]) (Fr.tr Fr.rf F_39 (by decide)) (npL_p (L := [26]) (by decide) hprP).1 (npL_p (L := [26]) (by decide) hprP).2.1
              have e_52 : μ37.1 26 11 = μ.1 26 11 := (hs_44.trans (hs_28.trans hs_12))
              refine xc_iV G (b := 23) (rest := []) (As := [.int (iv 38)]) (c_X7_took_b ω l μ37 38 (by unfold ir; omega) hI_40 hp_41 (by omega)) (wm 3 160 rfl rfl) (wm 3 162 rfl rfl) (wm 0 9 rfl rfl) rfl rfl (by decide) rfl (wm 1 12 rfl rfl) (wm 3 163 rfl rfl) (by decide) hR ⟨nfr hF (by decide), nlo hLo (by decide)⟩ (n := 1) rfl rfl (Nat.le_of_ble_eq_true rfl) hl.1 dX7_primary_170 (fun r_54 μ53 ρ d0 H locs hr_r_54 hp G => ?_)
              have hr_r_54 : -2147483648 ≤ r_54 ∧ r_54 ≤ 2147483647 := hr_r_54
              obtain ⟨F_55, hI_56, hp_57, hp_58, hp_59, hs_60, hs_61, hs_62, hs_63, hs_64⟩ := hp
              have hn_65 : -1 ≤ μ53.1 26 10 ∧ μ53.1 26 10 ≤ 3000 := hI_56.nm.2.2.2.2.2.2.2.2.2.2.2.2
              have htb_66 := hp_57.b
              refine xb_if_eq (tgt := 183) hx hb (by unfold ir; omega) dX7_primary_173 (by decide) (fun c_173 => ?_) (fun c_173 => ?_)
              · refine lv_aload_n hx hb dX7_primary_183 rfl (lv_at hl 1 rfl) ?_
                have hpx_67 : μ53.1 26 11 = 0 → PXE μ μ53 P tt 0 (-1) 1 := fun h0 => (hpx_51 (by have h9 : μ37.1 26 11 = μ.1 26 11 := (hs_44.trans (hs_28.trans hs_12)); have h8 : μ53.1 26 11 = μ.1 26 11 := (hs_60.trans (hs_44.trans (hs_28.trans hs_12))); omega)).fr (K := [26]) (Fr.tr Fr.rf F_55 (by decide)) (npL_p (L := [26]) (by decide) hprP).1 (npL_p (L := [26]) (by decide) hprP).2.1
                refine xc_iV G (b := 23) (rest := []) (As := []) (c_X7_isTongueWord ω l μ53  hI_56) (wm 4 104 rfl rfl) (wm 4 106 rfl rfl) (wm 0 42 rfl rfl) rfl rfl (by decide) rfl (wm 1 12 rfl rfl) (wm 4 107 rfl rfl) (by decide) hR ⟨nfr hF (by decide), nlo hLo (by decide)⟩ (n := 0) rfl rfl (Nat.le_of_ble_eq_true rfl) hl.1 dX7_primary_184 (fun r_69 μ68 ρ d0 H locs hr_r_69 hp G => ?_)
                have hr_r_69 : -2147483648 ≤ r_69 ∧ r_69 ≤ 2147483647 := hr_r_69
                obtain ⟨hsm_70, hp_71⟩ := hp
                have hsm_70 := Eq.symm hsm_70
                subst hsm_70
                refine xb_if_eq (tgt := 234) hx hb (by unfold ir; omega) dX7_primary_187 (by decide) (fun c_187 => ?_) (fun c_187 => ?_)
                · refine lv_aload_n hx hb dX7_primary_234 rfl (lv_at hl 1 rfl) ?_
                  have e_72 : μ53.1 23 2 = P := ((F_55.1 23 (by decide) 2).trans ((F_39.1 23 (by decide) 2).trans ((F_23.1 23 (by decide) 2).trans ((F_7.1 23 (by decide) 2).trans hP.symm))))
                  have e_73 : μ53.1 23 8 = tt := ((F_55.1 23 (by decide) 8).trans ((F_39.1 23 (by decide) 8).trans ((F_23.1 23 (by decide) 8).trans ((F_7.1 23 (by decide) 8).trans htt.symm))))
                  have e_74 : μ53.1 P 1 = μ.1 P 1 := ((F_55.1 P (ni hprP (fun P => P) (fun P => [26]) rfl) 1).trans ((F_39.1 P (ni hprP (fun P => P) (fun P => [26]) rfl) 1).trans ((F_23.1 P (ni hprP (fun P => P) (fun P => [26]) rfl) 1).trans (F_7.1 P (ni hprP (fun P => P) (fun P => [26]) rfl) 1))))
                  have e_75 : μ53.1 26 11 = μ.1 26 11 := (hs_60.trans (hs_44.trans (hs_28.trans hs_12)))
                  have hk_76 := hI.row (r := P + 2) (hprP.row)
                  unfold rk at hk_76
                  have e_77 : μ53.1 (P + 2) 3 = μ.1 (P + 2) 3 := ((F_55.1 (P + 2) (ni hprP (fun P => P + 2) (fun P => [26]) rfl) 3).trans ((F_39.1 (P + 2) (ni hprP (fun P => P + 2) (fun P => [26]) rfl) 3).trans ((F_23.1 (P + 2) (ni hprP (fun P => P + 2) (fun P => [26]) rfl) 3).trans (F_7.1 (P + 2) (ni hprP (fun P => P + 2) (fun P => [26]) rfl) 3))))
                  have e_78 : μ53.1 P 1 = μ.1 P 1 := ((F_55.1 P (ni hprP (fun P => P) (fun P => [26]) rfl) 1).trans ((F_39.1 P (ni hprP (fun P => P) (fun P => [26]) rfl) 1).trans ((F_23.1 P (ni hprP (fun P => P) (fun P => [26]) rfl) 1).trans (F_7.1 P (ni hprP (fun P => P) (fun P => [26]) rfl) 1))))
                  have e_79 : μ53.1 23 9 = μ.1 23 9 := ((F_55.1 23 (by decide) 9).trans ((F_39.1 23 (by decide) 9).trans ((F_23.1 23 (by decide) 9).trans (F_7.1 23 (by decide) 9))))
                  have e_80 : μ53.1 23 9 = μ.1 23 9 := ((F_55.1 23 (by decide) 9).trans ((F_39.1 23 (by decide) 9).trans ((F_23.1 23 (by decide) 9).trans (F_7.1 23 (by decide) 9))))
                  have e_81 : μ53.1 26 11 = μ.1 26 11 := (hs_60.trans (hs_44.trans (hs_28.trans hs_12)))
                  have e_82 : μ53.1 23 9 = μ.1 23 9 := ((F_55.1 23 (by decide) 9).trans ((F_39.1 23 (by decide) 9).trans ((F_23.1 23 (by decide) 9).trans (F_7.1 23 (by decide) 9))))
                  have e_83 : μ53.1 26 11 = μ.1 26 11 := (hs_60.trans (hs_44.trans (hs_28.trans hs_12)))
                  have e_84 : μ53.1 26 11 = μ.1 26 11 := (hs_60.trans (hs_44.trans (hs_28.trans hs_12)))
                  have e_85 : μ53.1 P 1 = μ.1 P 1 := ((F_55.1 P (ni hprP (fun P => P) (fun P => [26]) rfl) 1).trans ((F_39.1 P (ni hprP (fun P => P) (fun P => [26]) rfl) 1).trans ((F_23.1 P (ni hprP (fun P => P) (fun P => [26]) rfl) 1).trans (F_7.1 P (ni hprP (fun P => P) (fun P => [26]) rfl) 1))))
                  have e_86 : μ53.1 P 1 = μ.1 P 1 := ((F_55.1 P (ni hprP (fun P => P) (fun P => [26]) rfl) 1).trans ((F_39.1 P (ni hprP (fun P => P) (fun P => [26]) rfl) 1).trans ((F_23.1 P (ni hprP (fun P => P) (fun P => [26]) rfl) 1).trans (F_7.1 P (ni hprP (fun P => P) (fun P => [26]) rfl) 1))))
                  have e_87 : μ53.1 26 11 = μ.1 26 11 := (hs_60.trans (hs_44.trans (hs_28.trans hs_12)))
                  have e_88 : μ53.1 (P + 2) 3 = μ.1 (P + 2) 3 := ((F_55.1 (P + 2) (ni hprP (fun P => P + 2) (fun P => [26]) rfl) 3).trans ((F_39.1 (P + 2) (ni hprP (fun P => P + 2) (fun P => [26]) rfl) 3).trans ((F_23.1 (P + 2) (ni hprP (fun P => P + 2) (fun P => [26]) rfl) 3).trans (F_7.1 (P + 2) (ni hprP (fun P => P + 2) (fun P => [26]) rfl) 3))))
                  have e_89 : μ53.1 P 1 = μ.1 P 1 := ((F_55.1 P (ni hprP (fun P => P) (fun P => [26]) rfl) 1).trans ((F_39.1 P (ni hprP (fun P => P) (fun P => [26]) rfl) 1).trans ((F_23.1 P (ni hprP (fun P => P) (fun P => [26]) rfl) 1).trans (F_7.1 P (ni hprP (fun P => P) (fun P => [26]) rfl) 1))))
                  have e_90 : μ53.1 (P + 2) 3 = μ.1 (P + 2) 3 := ((F_55.1 (P + 2) (ni hprP (fun P => P + 2) (fun P => [26]) rfl) 3).trans ((F_39.1 (P + 2) (ni hprP (fun P => P + 2) (fun P => [26]) rfl) 3).trans ((F_23.1 (P + 2) (ni hprP (fun P => P + 2) (fun P => [26]) rfl) 3).trans (F_7.1 (P + 2) (ni hprP (fun P => P + 2) (fun P => [26]) rfl) 3))))
                  refine xc_vV G (b := 23) (rest := []) (As := []) (c_X7_ownPrimary ω l μ53 F Lo Fu Lu kf P tt hI_56 (by omega) (by omega) hF hLo hFu hLu hE hU hp_57 (by omega) (by omega) (by omega) (by omega) (by omega)) (wm 4 108 rfl rfl) (wm 4 110 rfl rfl) (wm 0 43 rfl rfl) rfl rfl (by decide) rfl (wm 1 12 rfl rfl) (wm 4 111 rfl rfl) (by decide) hR ⟨sfr (F := F) (a := 2) (by decide), slo (L := Lo) (m := 2) (a := 44) (by decide)⟩ (n := 0) rfl rfl (Nat.le_of_ble_eq_true rfl) hl.1 dX7_primary_235 (fun μ91 ρ d0 H locs hp G => ?_)
                  obtain ⟨F_92, hI_93, hp_94, hp_95, hp_96, hp_97, hp_98, hp_99, hs_100, hs_101, hs_102, hs_103, hs_104, hs_105, hs_106, hs_107, hs_108⟩ := hp
                  have hn_109 : -1 ≤ μ91.1 26 10 ∧ μ91.1 26 10 ≤ 3000 := hI_93.nm.2.2.2.2.2.2.2.2.2.2.2.2
                  have hk_110 := hI_93.pr (p := P) hprP
                  unfold pk at hk_110
                  have hc_111 : 16 ≤ μ91.2.1 (P + 1) ∧ μ91.2.1 (P + 1) ≤ 73024 := hI_93.rm.1 _ hprP.cap
                  have hk_112 := hI_93.row (r := P + 2) (hprP.row)
                  unfold rk at hk_112
                  have htb_113 := hp_94.b
                  have hpx_114 : μ91.1 26 11 = 0 → PXE μ μ91 P tt 1 (-1) 1 := fun h0 => (PXE.app (hpx_67 (by have h9 : μ53.1 26 11 = μ.1 26 11 := (hs_60.trans (hs_44.trans (hs_28.trans hs_12))); have h8 : μ91.1 26 11 = μ91.1 26 11 := rfl; omega)) (hp_99 h0)).e (by omega)
                  exact xr_v G hret hlk dX7_primary_238 ⟨(Fr.tr (Fr.tr (Fr.tr (Fr.tr (Fr.tr Fr.rf F_7 (si hprP (fun P => [26]) (fun P => [2, 3, 4, 23, 24, 26, P, P + 1, P + 2, (P + 2) + 1, (P + 2) + 2, (P + 2) + 3]) rfl)) F_23 (si hprP (fun P => [26]) (fun P => [2, 3, 4, 23, 24, 26, P, P + 1, P + 2, (P + 2) + 1, (P + 2) + 2, (P + 2) + 3]) rfl)) F_39 (si hprP (fun P => [26]) (fun P => [2, 3, 4, 23, 24, 26, P, P + 1, P + 2, (P + 2) + 1, (P + 2) + 2, (P + 2) + 3]) rfl)) F_55 (si hprP (fun P => [26]) (fun P => [2, 3, 4, 23, 24, 26, P, P + 1, P + 2, (P + 2) + 1, (P + 2) + 2, (P + 2) + 3]) rfl)) F_92 (si hprP (fun P => [2, 3, 4, 23, 24, 26, P, P + 1, P + 2, (P + 2) + 1, (P + 2) + 2, (P + 2) + 3]) (fun P => [2, 3, 4, 23, 24, 26, P, P + 1, P + 2, (P + 2) + 1, (P + 2) + 2, (P + 2) + 3]) rfl)), hI_93, hp_94, (by omega), (by omega), (by omega), (by omega), (fun h0 => (PXE.ex (hpx_114 h0)).e (by omega)), ((hs_100.trans ((F_55.1 23 (by decide) 2).trans ((F_39.1 23 (by decide) 2).trans ((F_23.1 23 (by decide) 2).trans ((F_7.1 23 (by decide) 2).trans hP.symm)))))).trans hP, (hs_101.trans ((F_55.1 23 (by decide) 5).trans ((F_39.1 23 (by decide) 5).trans ((F_23.1 23 (by decide) 5).trans (F_7.1 23 (by decide) 5))))), (hs_102.trans ((F_55.1 23 (by decide) 6).trans ((F_39.1 23 (by decide) 6).trans ((F_23.1 23 (by decide) 6).trans (F_7.1 23 (by decide) 6))))), (hs_103.trans ((F_55.1 23 (by decide) 7).trans ((F_39.1 23 (by decide) 7).trans ((F_23.1 23 (by decide) 7).trans (F_7.1 23 (by decide) 7))))), ((hs_104.trans ((F_55.1 23 (by decide) 8).trans ((F_39.1 23 (by decide) 8).trans ((F_23.1 23 (by decide) 8).trans ((F_7.1 23 (by decide) 8).trans htt.symm)))))).trans htt, (hs_105.trans ((F_55.1 23 (by decide) 9).trans ((F_39.1 23 (by decide) 9).trans ((F_23.1 23 (by decide) 9).trans (F_7.1 23 (by decide) 9))))), (hs_106.trans ((F_55.1 23 (by decide) 10).trans ((F_39.1 23 (by decide) 10).trans ((F_23.1 23 (by decide) 10).trans (F_7.1 23 (by decide) 10))))), (hs_107.trans (hs_61.trans (hs_45.trans (hs_29.trans hs_13)))), (hs_108.trans ((F_55.1 P (ni hprP (fun P => P) (fun P => [26]) rfl) 7).trans ((F_39.1 P (ni hprP (fun P => P) (fun P => [26]) rfl) 7).trans ((F_23.1 P (ni hprP (fun P => P) (fun P => [26]) rfl) 7).trans (F_7.1 P (ni hprP (fun P => P) (fun P => [26]) rfl) 7)))))⟩
                · have hkk_115 := hp_11 () (by omega)
                  have hkk_116 := hp_27 () (by omega)
                  have hkk_117 := hp_43 () (by omega)
                  have hkk_118 := hp_59 () (by omega)
                  refine lv_iload_n hx hb dX7_primary_190 rfl (lv_at hl 0 rfl) ?_
                  refine lv_sipush (v := iv 229) hx hb dX7_primary_191 rfl ?_
                  refine xb_isub hx hb dX7_primary_194 ?_
                  refine lv_istore_n (lv' := [(2, .int (iv ((μ.1 26 12) - 229))), (1, .int (iv (μ.1 26 12))), (0, .ref (oP ω 23))]) hx hb dX7_primary_195 rfl hl (by decide) rfl (fun ls hl => ?_)
                  refine lv_aload_n hx hb dX7_primary_196 rfl (lv_at hl 2 rfl) ?_
                  refine xa_getr G fd_X7 (a := 23) (x := 26) 0 rfl (by decide) rfl (wm 2 17 rfl rfl) ⟨rfl, rfl, rfl⟩ dX7_primary_197 rfl (G.sk 23 rfl) (by decide) rfl ?_
                  have hn_119 : 0 ≤ μ.1 26 6 ∧ μ.1 26 6 ≤ 3001 := hI.nm.2.2.2.2.2.2.2.2.2.1
                  have e_120 : μ53.1 26 6 = μ.1 26 6 := (hs_61.trans (hs_45.trans (hs_29.trans hs_13)))
                  have e_121 : μ53.1 26 11 = μ.1 26 11 := (hs_60.trans (hs_44.trans (hs_28.trans hs_12)))
                  have e_122 : μ53.1 26 11 = μ.1 26 11 := (hs_60.trans (hs_44.trans (hs_28.trans hs_12)))
                  have e_123 : μ53.1 26 6 = μ.1 26 6 := (hs_61.trans (hs_45.trans (hs_29.trans hs_13)))
                  have e_124 : μ53.1 26 6 = μ.1 26 6 := (hs_61.trans (hs_45.trans (hs_29.trans hs_13)))
                  have e_125 : μ53.1 26 11 = μ.1 26 11 := (hs_60.trans (hs_44.trans (hs_28.trans hs_12)))
                  have e_126 : μ53.1 26 11 = μ.1 26 11 := (hs_60.trans (hs_44.trans (hs_28.trans hs_12)))
                  refine xc_vV G (b := 26) (rest := []) (As := []) (c_X10_next ω l μ53  hI_56 (by omega) (by omega)) (wm 3 164 rfl rfl) (wm 3 157 rfl rfl) (wm 3 158 rfl rfl) rfl rfl (by decide) rfl (wm 1 13 rfl rfl) (wm 3 159 rfl rfl) (by decide) hR ⟨nfr hF (by decide), nlo hLo (by decide)⟩ (n := 0) rfl rfl (Nat.le_of_ble_eq_true rfl) hl.1 dX7_primary_200 (fun μ127 ρ d0 H locs hp G => ?_)
                  obtain ⟨F_128, hI_129, hp_130, hp_131, hs_132, hs_133, hs_134, hs_135, hs_136⟩ := hp
                  have hn_137 : -1 ≤ μ127.1 26 10 ∧ μ127.1 26 10 ≤ 3000 := hI_129.nm.2.2.2.2.2.2.2.2.2.2.2.2
                  obtain ⟨htk_138, htk_138_s, htk_138_n⟩ := TK.nx hp_57 F_128 (((hs_133.trans (hs_61.trans (hs_45.trans (hs_29.trans hs_13))))).trans ((hs_61.trans (hs_45.trans (hs_29.trans hs_13)))).symm) (((hs_132.trans (hs_60.trans (hs_44.trans (hs_28.trans hs_12))))).trans ((hs_60.trans (hs_44.trans (hs_28.trans hs_12)))).symm) (by have h9 : μ53.1 26 12 = μ53.1 26 12 := rfl; omega) hp_130 hp_131
                  clear hp_130 hp_131
                  have e_139 : μ53.1 26 11 = μ.1 26 11 := (hs_60.trans (hs_44.trans (hs_28.trans hs_12)))
                  have htb_140 := htk_138.b
                  refine lv_aload_n hx hb dX7_primary_203 rfl (lv_at hl 2 rfl) ?_
                  refine lv_bipush (v := iv 46) hx hb dX7_primary_204 rfl ?_
                  have hpx_141 : μ127.1 26 11 = 0 → PXE μ μ127 P tt 0 (-1) 1 := fun h0 => (hpx_67 (by have h9 : μ53.1 26 11 = μ.1 26 11 := (hs_60.trans (hs_44.trans (hs_28.trans hs_12))); have h8 : μ127.1 26 11 = μ.1 26 11 := (hs_132.trans (hs_60.trans (hs_44.trans (hs_28.trans hs_12)))); omega)).fr (K := [26]) (Fr.tr Fr.rf F_128 (by decide)) (npL_p (L := [26]) (by decide) hprP).1 (npL_p (L := [26]) (by decide) hprP).2.1
                  have e_142 : μ127.1 26 11 = μ.1 26 11 := (hs_132.trans (hs_60.trans (hs_44.trans (hs_28.trans hs_12))))
                  refine xc_vV G (b := 23) (rest := []) (As := [.int (iv 46)]) (c_X7_need_b ω l μ127 46 (by unfold ir; omega) hI_129 htk_138 (by omega)) (wm 3 169 rfl rfl) (wm 3 171 rfl rfl) (wm 0 11 rfl rfl) rfl rfl (by decide) rfl (wm 1 12 rfl rfl) (wm 3 172 rfl rfl) (by decide) hR ⟨nfr hF (by decide), nlo hLo (by decide)⟩ (n := 1) rfl rfl (Nat.le_of_ble_eq_true rfl) hl.1 dX7_primary_206 (fun μ143 ρ d0 H locs hp G => ?_)
                  obtain ⟨F_144, hI_145, hp_146, hp_147, hp_148, hs_149, hs_150, hs_151, hs_152⟩ := hp
                  have hn_153 : -1 ≤ μ143.1 26 10 ∧ μ143.1 26 10 ≤ 3000 := hI_145.nm.2.2.2.2.2.2.2.2.2.2.2.2
                  have htb_154 := hp_146.b
                  refine lv_aload_n hx hb dX7_primary_209 rfl (lv_at hl 2 rfl) ?_
                  refine xa_getr G fd_X7 (a := 23) (x := 26) 0 rfl (by decide) rfl (wm 2 17 rfl rfl) ⟨rfl, rfl, rfl⟩ dX7_primary_210 rfl (G.sk 23 rfl) (by decide) rfl ?_
                  refine xa_getN G fd_X10 (host := "FourTongues") (a := 26) 14 rfl (by decide) (by decide) ⟨rfl, rfl, rfl⟩ dX7_primary_213 rfl (v := .long (jv (μ143.1 26 14))) (by rw [show μ143.1 26 14 = μ143.1 26 14 from rfl]; rfl) ?_
                  have hj_155 : jr (μ143.1 26 14) := by have h9 := G.hj (a := 26) (k := 14) rfl; exact h9
                  refine lv_lstore_n (lv' := [(3, .long (jv (μ143.1 26 14))), (2, .int (iv ((μ.1 26 12) - 229))), (1, .int (iv (μ.1 26 12))), (0, .ref (oP ω 23))]) hx hb dX7_primary_216 rfl hl (by decide) rfl (fun ls hl => ?_)
                  refine lv_aload_n hx hb dX7_primary_217 rfl (lv_at hl 3 rfl) ?_
                  refine lv_iconst (v := iv 1) hx hb dX7_primary_218 rfl ?_
                  have hpx_156 : μ143.1 26 11 = 0 → PXE μ μ143 P tt 0 (-1) 1 := fun h0 => (hpx_141 (by have h9 : μ127.1 26 11 = μ.1 26 11 := (hs_132.trans (hs_60.trans (hs_44.trans (hs_28.trans hs_12)))); have h8 : μ143.1 26 11 = μ143.1 26 11 := rfl; omega)).fr (K := [26]) (Fr.tr Fr.rf F_144 (by decide)) (npL_p (L := [26]) (by decide) hprP).1 (npL_p (L := [26]) (by decide) hprP).2.1
                  refine xc_vV G (b := 23) (rest := []) (As := [.int (iv 1)]) (c_X7_need_b ω l μ143 1 (by unfold ir; omega) hI_145 hp_146 (by omega)) (wm 3 169 rfl rfl) (wm 3 171 rfl rfl) (wm 0 11 rfl rfl) rfl rfl (by decide) rfl (wm 1 12 rfl rfl) (wm 3 172 rfl rfl) (by decide) hR ⟨nfr hF (by decide), nlo hLo (by decide)⟩ (n := 1) rfl rfl (Nat.le_of_ble_eq_true rfl) hl.1 dX7_primary_219 (fun μ157 ρ d0 H locs hp G => ?_)
                  obtain ⟨F_158, hI_159, hp_160, hp_161, hp_162, hs_163, hs_164, hs_165, hs_166⟩ := hp
                  have hn_167 : -1 ≤ μ157.1 26 10 ∧ μ157.1 26 10 ≤ 3000 := hI_159.nm.2.2.2.2.2.2.2.2.2.2.2.2
                  have htb_168 := hp_160.b
                  refine lv_aload_n hx hb dX7_primary_222 rfl (lv_at hl 3 rfl) ?_
                  refine lv_bipush (v := iv 13) hx hb dX7_primary_223 rfl ?_
                  refine lv_iload_n hx hb dX7_primary_225 rfl (lv_at hl 1 rfl) ?_
                  refine lv_lload_n hx hb dX7_primary_226 rfl (lv_at hl 0 rfl) ?_
                  refine lv_iconst (v := iv (-1)) hx hb dX7_primary_227 rfl ?_
                  have hpx_169 : μ157.1 26 11 = 0 → PXE μ μ157 P tt 0 (-1) 1 := fun h0 => (hpx_156 (by have h9 : μ143.1 26 11 = μ143.1 26 11 := rfl; have h8 : μ157.1 26 11 = μ157.1 26 11 := rfl; omega)).fr (K := [26]) (Fr.tr Fr.rf F_158 (by decide)) (npL_p (L := [26]) (by decide) hprP).1 (npL_p (L := [26]) (by decide) hprP).2.1
                  have e_170 : μ157.1 23 2 = P := ((F_158.1 23 (by decide) 2).trans ((F_144.1 23 (by decide) 2).trans ((F_128.1 23 (by decide) 2).trans ((F_55.1 23 (by decide) 2).trans ((F_39.1 23 (by decide) 2).trans ((F_23.1 23 (by decide) 2).trans ((F_7.1 23 (by decide) 2).trans hP.symm)))))))
                  have e_171 : μ157.1 23 8 = tt := ((F_158.1 23 (by decide) 8).trans ((F_144.1 23 (by decide) 8).trans ((F_128.1 23 (by decide) 8).trans ((F_55.1 23 (by decide) 8).trans ((F_39.1 23 (by decide) 8).trans ((F_23.1 23 (by decide) 8).trans ((F_7.1 23 (by decide) 8).trans htt.symm)))))))
                  have e_172 : μ157.1 P 1 = μ.1 P 1 := ((F_158.1 P (ni hprP (fun P => P) (fun P => [26]) rfl) 1).trans ((F_144.1 P (ni hprP (fun P => P) (fun P => [26]) rfl) 1).trans ((F_128.1 P (ni hprP (fun P => P) (fun P => [26]) rfl) 1).trans ((F_55.1 P (ni hprP (fun P => P) (fun P => [26]) rfl) 1).trans ((F_39.1 P (ni hprP (fun P => P) (fun P => [26]) rfl) 1).trans ((F_23.1 P (ni hprP (fun P => P) (fun P => [26]) rfl) 1).trans (F_7.1 P (ni hprP (fun P => P) (fun P => [26]) rfl) 1)))))))
                  have hk_173 := hI.row (r := P + 2) (hprP.row)
                  unfold rk at hk_173
                  have e_174 : μ157.1 (P + 2) 3 = μ.1 (P + 2) 3 := ((F_158.1 (P + 2) (ni hprP (fun P => P + 2) (fun P => [26]) rfl) 3).trans ((F_144.1 (P + 2) (ni hprP (fun P => P + 2) (fun P => [26]) rfl) 3).trans ((F_128.1 (P + 2) (ni hprP (fun P => P + 2) (fun P => [26]) rfl) 3).trans ((F_55.1 (P + 2) (ni hprP (fun P => P + 2) (fun P => [26]) rfl) 3).trans ((F_39.1 (P + 2) (ni hprP (fun P => P + 2) (fun P => [26]) rfl) 3).trans ((F_23.1 (P + 2) (ni hprP (fun P => P + 2) (fun P => [26]) rfl) 3).trans (F_7.1 (P + 2) (ni hprP (fun P => P + 2) (fun P => [26]) rfl) 3)))))))
                  have e_175 : μ157.1 P 1 = μ.1 P 1 := ((F_158.1 P (ni hprP (fun P => P) (fun P => [26]) rfl) 1).trans ((F_144.1 P (ni hprP (fun P => P) (fun P => [26]) rfl) 1).trans ((F_128.1 P (ni hprP (fun P => P) (fun P => [26]) rfl) 1).trans ((F_55.1 P (ni hprP (fun P => P) (fun P => [26]) rfl) 1).trans ((F_39.1 P (ni hprP (fun P => P) (fun P => [26]) rfl) 1).trans ((F_23.1 P (ni hprP (fun P => P) (fun P => [26]) rfl) 1).trans (F_7.1 P (ni hprP (fun P => P) (fun P => [26]) rfl) 1)))))))
                  have e_176 : μ157.1 23 9 = μ.1 23 9 := ((F_158.1 23 (by decide) 9).trans ((F_144.1 23 (by decide) 9).trans ((F_128.1 23 (by decide) 9).trans ((F_55.1 23 (by decide) 9).trans ((F_39.1 23 (by decide) 9).trans ((F_23.1 23 (by decide) 9).trans (F_7.1 23 (by decide) 9)))))))
                  have e_177 : μ157.1 23 9 = μ.1 23 9 := ((F_158.1 23 (by decide) 9).trans ((F_144.1 23 (by decide) 9).trans ((F_128.1 23 (by decide) 9).trans ((F_55.1 23 (by decide) 9).trans ((F_39.1 23 (by decide) 9).trans ((F_23.1 23 (by decide) 9).trans (F_7.1 23 (by decide) 9)))))))
                  have e_178 : μ157.1 23 9 = μ.1 23 9 := ((F_158.1 23 (by decide) 9).trans ((F_144.1 23 (by decide) 9).trans ((F_128.1 23 (by decide) 9).trans ((F_55.1 23 (by decide) 9).trans ((F_39.1 23 (by decide) 9).trans ((F_23.1 23 (by decide) 9).trans (F_7.1 23 (by decide) 9)))))))
                  have e_179 : μ157.1 P 1 = μ.1 P 1 := ((F_158.1 P (ni hprP (fun P => P) (fun P => [26]) rfl) 1).trans ((F_144.1 P (ni hprP (fun P => P) (fun P => [26]) rfl) 1).trans ((F_128.1 P (ni hprP (fun P => P) (fun P => [26]) rfl) 1).trans ((F_55.1 P (ni hprP (fun P => P) (fun P => [26]) rfl) 1).trans ((F_39.1 P (ni hprP (fun P => P) (fun P => [26]) rfl) 1).trans ((F_23.1 P (ni hprP (fun P => P) (fun P => [26]) rfl) 1).trans (F_7.1 P (ni hprP (fun P => P) (fun P => [26]) rfl) 1)))))))
                  have e_180 : μ157.1 P 1 = μ.1 P 1 := ((F_158.1 P (ni hprP (fun P => P) (fun P => [26]) rfl) 1).trans ((F_144.1 P (ni hprP (fun P => P) (fun P => [26]) rfl) 1).trans ((F_128.1 P (ni hprP (fun P => P) (fun P => [26]) rfl) 1).trans ((F_55.1 P (ni hprP (fun P => P) (fun P => [26]) rfl) 1).trans ((F_39.1 P (ni hprP (fun P => P) (fun P => [26]) rfl) 1).trans ((F_23.1 P (ni hprP (fun P => P) (fun P => [26]) rfl) 1).trans (F_7.1 P (ni hprP (fun P => P) (fun P => [26]) rfl) 1)))))))
                  have e_181 : μ157.1 (P + 2) 3 = μ.1 (P + 2) 3 := ((F_158.1 (P + 2) (ni hprP (fun P => P + 2) (fun P => [26]) rfl) 3).trans ((F_144.1 (P + 2) (ni hprP (fun P => P + 2) (fun P => [26]) rfl) 3).trans ((F_128.1 (P + 2) (ni hprP (fun P => P + 2) (fun P => [26]) rfl) 3).trans ((F_55.1 (P + 2) (ni hprP (fun P => P + 2) (fun P => [26]) rfl) 3).trans ((F_39.1 (P + 2) (ni hprP (fun P => P + 2) (fun P => [26]) rfl) 3).trans ((F_23.1 (P + 2) (ni hprP (fun P => P + 2) (fun P => [26]) rfl) 3).trans (F_7.1 (P + 2) (ni hprP (fun P => P + 2) (fun P => [26]) rfl) 3)))))))
                  have e_182 : μ157.1 P 1 = μ.1 P 1 := ((F_158.1 P (ni hprP (fun P => P) (fun P => [26]) rfl) 1).trans ((F_144.1 P (ni hprP (fun P => P) (fun P => [26]) rfl) 1).trans ((F_128.1 P (ni hprP (fun P => P) (fun P => [26]) rfl) 1).trans ((F_55.1 P (ni hprP (fun P => P) (fun P => [26]) rfl) 1).trans ((F_39.1 P (ni hprP (fun P => P) (fun P => [26]) rfl) 1).trans ((F_23.1 P (ni hprP (fun P => P) (fun P => [26]) rfl) 1).trans (F_7.1 P (ni hprP (fun P => P) (fun P => [26]) rfl) 1)))))))
                  have e_183 : μ157.1 (P + 2) 3 = μ.1 (P + 2) 3 := ((F_158.1 (P + 2) (ni hprP (fun P => P + 2) (fun P => [26]) rfl) 3).trans ((F_144.1 (P + 2) (ni hprP (fun P => P + 2) (fun P => [26]) rfl) 3).trans ((F_128.1 (P + 2) (ni hprP (fun P => P + 2) (fun P => [26]) rfl) 3).trans ((F_55.1 (P + 2) (ni hprP (fun P => P + 2) (fun P => [26]) rfl) 3).trans ((F_39.1 (P + 2) (ni hprP (fun P => P + 2) (fun P => [26]) rfl) 3).trans ((F_23.1 (P + 2) (ni hprP (fun P => P + 2) (fun P => [26]) rfl) 3).trans (F_7.1 (P + 2) (ni hprP (fun P => P + 2) (fun P => [26]) rfl) 3)))))))
                  refine xc_vV G (b := 23) (rest := []) (As := [.int (iv 13), .int (iv ((μ.1 26 12) - 229)), .long (jv (μ143.1 26 14)), .int (iv (-1))]) (c_X7_arguments ω l μ157 13 ((μ.1 26 12) - 229) (μ143.1 26 14) (-1) F Lo Fu Lu kf μ (0) (1) P tt (by unfold ir; omega) (by unfold ir; omega) hj_155 (by unfold ir; omega) hI_159 (by omega) (by omega) hF hLo hFu hLu hE hU hp_160 (by omega) (by omega) (by omega) (by omega) (by omega) (by omega) (by omega) hpx_169 rfl) (wm 4 63 rfl rfl) (wm 4 65 rfl rfl) (wm 0 36 rfl rfl) rfl rfl (by decide) rfl (wm 1 12 rfl rfl) (wm 4 66 rfl rfl) (by decide) hR ⟨sfr (F := F) (a := 1) (by decide), slo (L := Lo) (m := 11) (a := 22) (by decide)⟩ (n := 4) rfl rfl (Nat.le_of_ble_eq_true rfl) hl.1 dX7_primary_228 (fun μ184 ρ d0 H locs hp G => ?_)
                  obtain ⟨F_185, hI_186, hp_187, hp_188, hp_189, hp_190, hp_191, hp_192, hs_193, hs_194, hs_195, hs_196, hs_197, hs_198, hs_199, hs_200, hs_201⟩ := hp
                  have hn_202 : -1 ≤ μ184.1 26 10 ∧ μ184.1 26 10 ≤ 3000 := hI_186.nm.2.2.2.2.2.2.2.2.2.2.2.2
                  have hk_203 := hI_186.pr (p := P) hprP
                  unfold pk at hk_203
                  have hc_204 : 16 ≤ μ184.2.1 (P + 1) ∧ μ184.2.1 (P + 1) ≤ 73024 := hI_186.rm.1 _ hprP.cap
                  have hk_205 := hI_186.row (r := P + 2) (hprP.row)
                  unfold rk at hk_205
                  have htb_206 := hp_187.b
                  have hpx_207 : μ184.1 26 11 = 0 → PXE μ μ184 P tt 1 (-1) 1 := fun h0 => PXE.of (hp_192 h0)
                  refine lv_goto (tgt := 238) hx hb dX7_primary_231 (by decide) ?_
                  exact xr_v G hret hlk dX7_primary_238 ⟨(Fr.tr (Fr.tr (Fr.tr (Fr.tr (Fr.tr (Fr.tr (Fr.tr (Fr.tr Fr.rf F_7 (si hprP (fun P => [26]) (fun P => [2, 3, 4, 23, 24, 26, P, P + 1, P + 2, (P + 2) + 1, (P + 2) + 2, (P + 2) + 3]) rfl)) F_23 (si hprP (fun P => [26]) (fun P => [2, 3, 4, 23, 24, 26, P, P + 1, P + 2, (P + 2) + 1, (P + 2) + 2, (P + 2) + 3]) rfl)) F_39 (si hprP (fun P => [26]) (fun P => [2, 3, 4, 23, 24, 26, P, P + 1, P + 2, (P + 2) + 1, (P + 2) + 2, (P + 2) + 3]) rfl)) F_55 (si hprP (fun P => [26]) (fun P => [2, 3, 4, 23, 24, 26, P, P + 1, P + 2, (P + 2) + 1, (P + 2) + 2, (P + 2) + 3]) rfl)) F_128 (si hprP (fun P => [26]) (fun P => [2, 3, 4, 23, 24, 26, P, P + 1, P + 2, (P + 2) + 1, (P + 2) + 2, (P + 2) + 3]) rfl)) F_144 (si hprP (fun P => [26]) (fun P => [2, 3, 4, 23, 24, 26, P, P + 1, P + 2, (P + 2) + 1, (P + 2) + 2, (P + 2) + 3]) rfl)) F_158 (si hprP (fun P => [26]) (fun P => [2, 3, 4, 23, 24, 26, P, P + 1, P + 2, (P + 2) + 1, (P + 2) + 2, (P + 2) + 3]) rfl)) F_185 (si hprP (fun P => [2, 3, 4, 23, 24, 26, P, P + 1, P + 2, (P + 2) + 1, (P + 2) + 2, (P + 2) + 3]) (fun P => [2, 3, 4, 23, 24, 26, P, P + 1, P + 2, (P + 2) + 1, (P + 2) + 2, (P + 2) + 3]) rfl)), hI_186, hp_187, (by omega), (by omega), (by omega), (by omega), (fun h0 => (PXE.ex (hpx_207 h0)).e (by omega)), ((hs_193.trans ((F_158.1 23 (by decide) 2).trans ((F_144.1 23 (by decide) 2).trans ((F_128.1 23 (by decide) 2).trans ((F_55.1 23 (by decide) 2).trans ((F_39.1 23 (by decide) 2).trans ((F_23.1 23 (by decide) 2).trans ((F_7.1 23 (by decide) 2).trans hP.symm))))))))).trans hP, (hs_194.trans ((F_158.1 23 (by decide) 5).trans ((F_144.1 23 (by decide) 5).trans ((F_128.1 23 (by decide) 5).trans ((F_55.1 23 (by decide) 5).trans ((F_39.1 23 (by decide) 5).trans ((F_23.1 23 (by decide) 5).trans (F_7.1 23 (by decide) 5)))))))), (hs_195.trans ((F_158.1 23 (by decide) 6).trans ((F_144.1 23 (by decide) 6).trans ((F_128.1 23 (by decide) 6).trans ((F_55.1 23 (by decide) 6).trans ((F_39.1 23 (by decide) 6).trans ((F_23.1 23 (by decide) 6).trans (F_7.1 23 (by decide) 6)))))))), (hs_196.trans ((F_158.1 23 (by decide) 7).trans ((F_144.1 23 (by decide) 7).trans ((F_128.1 23 (by decide) 7).trans ((F_55.1 23 (by decide) 7).trans ((F_39.1 23 (by decide) 7).trans ((F_23.1 23 (by decide) 7).trans (F_7.1 23 (by decide) 7)))))))), ((hs_197.trans ((F_158.1 23 (by decide) 8).trans ((F_144.1 23 (by decide) 8).trans ((F_128.1 23 (by decide) 8).trans ((F_55.1 23 (by decide) 8).trans ((F_39.1 23 (by decide) 8).trans ((F_23.1 23 (by decide) 8).trans ((F_7.1 23 (by decide) 8).trans htt.symm))))))))).trans htt, (hs_198.trans ((F_158.1 23 (by decide) 9).trans ((F_144.1 23 (by decide) 9).trans ((F_128.1 23 (by decide) 9).trans ((F_55.1 23 (by decide) 9).trans ((F_39.1 23 (by decide) 9).trans ((F_23.1 23 (by decide) 9).trans (F_7.1 23 (by decide) 9)))))))), (hs_199.trans ((F_158.1 23 (by decide) 10).trans ((F_144.1 23 (by decide) 10).trans ((F_128.1 23 (by decide) 10).trans ((F_55.1 23 (by decide) 10).trans ((F_39.1 23 (by decide) 10).trans ((F_23.1 23 (by decide) 10).trans (F_7.1 23 (by decide) 10)))))))), (hs_200.trans (hs_163.trans (hs_149.trans (hs_133.trans (hs_61.trans (hs_45.trans (hs_29.trans hs_13))))))), (hs_201.trans ((F_158.1 P (ni hprP (fun P => P) (fun P => [26]) rfl) 7).trans ((F_144.1 P (ni hprP (fun P => P) (fun P => [26]) rfl) 7).trans ((F_128.1 P (ni hprP (fun P => P) (fun P => [26]) rfl) 7).trans ((F_55.1 P (ni hprP (fun P => P) (fun P => [26]) rfl) 7).trans ((F_39.1 P (ni hprP (fun P => P) (fun P => [26]) rfl) 7).trans ((F_23.1 P (ni hprP (fun P => P) (fun P => [26]) rfl) 7).trans (F_7.1 P (ni hprP (fun P => P) (fun P => [26]) rfl) 7))))))))⟩
              · refine lv_aload_n hx hb dX7_primary_176 rfl (lv_at hl 1 rfl) ?_
                have hpx_208 : μ53.1 26 11 = 0 → PXE μ μ53 P tt 0 (-1) 1 := fun h0 => (hpx_51 (by have h9 : μ37.1 26 11 = μ.1 26 11 := (hs_44.trans (hs_28.trans hs_12)); have h8 : μ53.1 26 11 = μ.1 26 11 := (hs_60.trans (hs_44.trans (hs_28.trans hs_12))); omega)).fr (K := [26]) (Fr.tr Fr.rf F_55 (by decide)) (npL_p (L := [26]) (by decide) hprP).1 (npL_p (L := [26]) (by decide) hprP).2.1
                have e_209 : μ53.1 23 2 = P := ((F_55.1 23 (by decide) 2).trans ((F_39.1 23 (by decide) 2).trans ((F_23.1 23 (by decide) 2).trans ((F_7.1 23 (by decide) 2).trans hP.symm))))
                have e_210 : μ53.1 23 8 = tt := ((F_55.1 23 (by decide) 8).trans ((F_39.1 23 (by decide) 8).trans ((F_23.1 23 (by decide) 8).trans ((F_7.1 23 (by decide) 8).trans htt.symm))))
                have e_211 : μ53.1 P 1 = μ.1 P 1 := ((F_55.1 P (ni hprP (fun P => P) (fun P => [26]) rfl) 1).trans ((F_39.1 P (ni hprP (fun P => P) (fun P => [26]) rfl) 1).trans ((F_23.1 P (ni hprP (fun P => P) (fun P => [26]) rfl) 1).trans (F_7.1 P (ni hprP (fun P => P) (fun P => [26]) rfl) 1))))
                have e_212 : μ53.1 26 11 = μ.1 26 11 := (hs_60.trans (hs_44.trans (hs_28.trans hs_12)))
                have hk_213 := hI.row (r := P + 2) (hprP.row)
                unfold rk at hk_213
                have e_214 : μ53.1 (P + 2) 3 = μ.1 (P + 2) 3 := ((F_55.1 (P + 2) (ni hprP (fun P => P + 2) (fun P => [26]) rfl) 3).trans ((F_39.1 (P + 2) (ni hprP (fun P => P + 2) (fun P => [26]) rfl) 3).trans ((F_23.1 (P + 2) (ni hprP (fun P => P + 2) (fun P => [26]) rfl) 3).trans (F_7.1 (P + 2) (ni hprP (fun P => P + 2) (fun P => [26]) rfl) 3))))
                have e_215 : μ53.1 P 1 = μ.1 P 1 := ((F_55.1 P (ni hprP (fun P => P) (fun P => [26]) rfl) 1).trans ((F_39.1 P (ni hprP (fun P => P) (fun P => [26]) rfl) 1).trans ((F_23.1 P (ni hprP (fun P => P) (fun P => [26]) rfl) 1).trans (F_7.1 P (ni hprP (fun P => P) (fun P => [26]) rfl) 1))))
                have e_216 : μ53.1 23 9 = μ.1 23 9 := ((F_55.1 23 (by decide) 9).trans ((F_39.1 23 (by decide) 9).trans ((F_23.1 23 (by decide) 9).trans (F_7.1 23 (by decide) 9))))
                have e_217 : μ53.1 23 9 = μ.1 23 9 := ((F_55.1 23 (by decide) 9).trans ((F_39.1 23 (by decide) 9).trans ((F_23.1 23 (by decide) 9).trans (F_7.1 23 (by decide) 9))))
                have e_218 : μ53.1 23 9 = μ.1 23 9 := ((F_55.1 23 (by decide) 9).trans ((F_39.1 23 (by decide) 9).trans ((F_23.1 23 (by decide) 9).trans (F_7.1 23 (by decide) 9))))
                have e_219 : μ53.1 26 11 = μ.1 26 11 := (hs_60.trans (hs_44.trans (hs_28.trans hs_12)))
                have e_220 : μ53.1 P 1 = μ.1 P 1 := ((F_55.1 P (ni hprP (fun P => P) (fun P => [26]) rfl) 1).trans ((F_39.1 P (ni hprP (fun P => P) (fun P => [26]) rfl) 1).trans ((F_23.1 P (ni hprP (fun P => P) (fun P => [26]) rfl) 1).trans (F_7.1 P (ni hprP (fun P => P) (fun P => [26]) rfl) 1))))
                have e_221 : μ53.1 P 1 = μ.1 P 1 := ((F_55.1 P (ni hprP (fun P => P) (fun P => [26]) rfl) 1).trans ((F_39.1 P (ni hprP (fun P => P) (fun P => [26]) rfl) 1).trans ((F_23.1 P (ni hprP (fun P => P) (fun P => [26]) rfl) 1).trans (F_7.1 P (ni hprP (fun P => P) (fun P => [26]) rfl) 1))))
                have e_222 : μ53.1 (P + 2) 3 = μ.1 (P + 2) 3 := ((F_55.1 (P + 2) (ni hprP (fun P => P + 2) (fun P => [26]) rfl) 3).trans ((F_39.1 (P + 2) (ni hprP (fun P => P + 2) (fun P => [26]) rfl) 3).trans ((F_23.1 (P + 2) (ni hprP (fun P => P + 2) (fun P => [26]) rfl) 3).trans (F_7.1 (P + 2) (ni hprP (fun P => P + 2) (fun P => [26]) rfl) 3))))
                have e_223 : μ53.1 P 1 = μ.1 P 1 := ((F_55.1 P (ni hprP (fun P => P) (fun P => [26]) rfl) 1).trans ((F_39.1 P (ni hprP (fun P => P) (fun P => [26]) rfl) 1).trans ((F_23.1 P (ni hprP (fun P => P) (fun P => [26]) rfl) 1).trans (F_7.1 P (ni hprP (fun P => P) (fun P => [26]) rfl) 1))))
                have e_224 : μ53.1 (P + 2) 3 = μ.1 (P + 2) 3 := ((F_55.1 (P + 2) (ni hprP (fun P => P + 2) (fun P => [26]) rfl) 3).trans ((F_39.1 (P + 2) (ni hprP (fun P => P + 2) (fun P => [26]) rfl) 3).trans ((F_23.1 (P + 2) (ni hprP (fun P => P + 2) (fun P => [26]) rfl) 3).trans (F_7.1 (P + 2) (ni hprP (fun P => P + 2) (fun P => [26]) rfl) 3))))
                refine xc_vV G (b := 23) (rest := []) (As := []) (c_X7_functionItself ω l μ53 F Lo Fu Lu kf P tt hI_56 (by omega) (by omega) hF hLo hFu hLu hE hU hp_57 (by omega) (by omega) (by omega) (by omega) (by omega)) (wm 4 100 rfl rfl) (wm 4 102 rfl rfl) (wm 0 41 rfl rfl) rfl rfl (by decide) rfl (wm 1 12 rfl rfl) (wm 4 103 rfl rfl) (by decide) hR ⟨sfr (F := F) (a := 0) (by decide), slo (L := Lo) (m := 4) (a := 0) (by decide)⟩ (n := 0) rfl rfl (Nat.le_of_ble_eq_true rfl) hl.1 dX7_primary_177 (fun μ225 ρ d0 H locs hp G => ?_)
                obtain ⟨F_226, hI_227, hp_228, hp_229, hp_230, hp_231, hp_232, hp_233, hs_234, hs_235, hs_236, hs_237, hs_238, hs_239, hs_240, hs_241, hs_242⟩ := hp
                have hn_243 : -1 ≤ μ225.1 26 10 ∧ μ225.1 26 10 ≤ 3000 := hI_227.nm.2.2.2.2.2.2.2.2.2.2.2.2
                have hk_244 := hI_227.pr (p := P) hprP
                unfold pk at hk_244
                have hc_245 : 16 ≤ μ225.2.1 (P + 1) ∧ μ225.2.1 (P + 1) ≤ 73024 := hI_227.rm.1 _ hprP.cap
                have hk_246 := hI_227.row (r := P + 2) (hprP.row)
                unfold rk at hk_246
                have htb_247 := hp_228.b
                have hpx_248 : μ225.1 26 11 = 0 → PXE μ μ225 P tt 1 (-1) 1 := fun h0 => (PXE.app (hpx_208 (by have h9 : μ53.1 26 11 = μ.1 26 11 := (hs_60.trans (hs_44.trans (hs_28.trans hs_12))); have h8 : μ225.1 26 11 = μ225.1 26 11 := rfl; omega)) (hp_233 h0)).e (by omega)
                refine lv_goto (tgt := 238) hx hb dX7_primary_180 (by decide) ?_
                exact xr_v G hret hlk dX7_primary_238 ⟨(Fr.tr (Fr.tr (Fr.tr (Fr.tr (Fr.tr Fr.rf F_7 (si hprP (fun P => [26]) (fun P => [2, 3, 4, 23, 24, 26, P, P + 1, P + 2, (P + 2) + 1, (P + 2) + 2, (P + 2) + 3]) rfl)) F_23 (si hprP (fun P => [26]) (fun P => [2, 3, 4, 23, 24, 26, P, P + 1, P + 2, (P + 2) + 1, (P + 2) + 2, (P + 2) + 3]) rfl)) F_39 (si hprP (fun P => [26]) (fun P => [2, 3, 4, 23, 24, 26, P, P + 1, P + 2, (P + 2) + 1, (P + 2) + 2, (P + 2) + 3]) rfl)) F_55 (si hprP (fun P => [26]) (fun P => [2, 3, 4, 23, 24, 26, P, P + 1, P + 2, (P + 2) + 1, (P + 2) + 2, (P + 2) + 3]) rfl)) F_226 (si hprP (fun P => [2, 3, 4, 23, 24, 26, P, P + 1, P + 2, (P + 2) + 1, (P + 2) + 2, (P + 2) + 3]) (fun P => [2, 3, 4, 23, 24, 26, P, P + 1, P + 2, (P + 2) + 1, (P + 2) + 2, (P + 2) + 3]) rfl)), hI_227, hp_228, (by omega), (by omega), (by omega), (by omega), (fun h0 => (PXE.ex (hpx_248 h0)).e (by omega)), ((hs_234.trans ((F_55.1 23 (by decide) 2).trans ((F_39.1 23 (by decide) 2).trans ((F_23.1 23 (by decide) 2).trans ((F_7.1 23 (by decide) 2).trans hP.symm)))))).trans hP, (hs_235.trans ((F_55.1 23 (by decide) 5).trans ((F_39.1 23 (by decide) 5).trans ((F_23.1 23 (by decide) 5).trans (F_7.1 23 (by decide) 5))))), (hs_236.trans ((F_55.1 23 (by decide) 6).trans ((F_39.1 23 (by decide) 6).trans ((F_23.1 23 (by decide) 6).trans (F_7.1 23 (by decide) 6))))), (hs_237.trans ((F_55.1 23 (by decide) 7).trans ((F_39.1 23 (by decide) 7).trans ((F_23.1 23 (by decide) 7).trans (F_7.1 23 (by decide) 7))))), ((hs_238.trans ((F_55.1 23 (by decide) 8).trans ((F_39.1 23 (by decide) 8).trans ((F_23.1 23 (by decide) 8).trans ((F_7.1 23 (by decide) 8).trans htt.symm)))))).trans htt, (hs_239.trans ((F_55.1 23 (by decide) 9).trans ((F_39.1 23 (by decide) 9).trans ((F_23.1 23 (by decide) 9).trans (F_7.1 23 (by decide) 9))))), (hs_240.trans ((F_55.1 23 (by decide) 10).trans ((F_39.1 23 (by decide) 10).trans ((F_23.1 23 (by decide) 10).trans (F_7.1 23 (by decide) 10))))), (hs_241.trans (hs_61.trans (hs_45.trans (hs_29.trans hs_13)))), (hs_242.trans ((F_55.1 P (ni hprP (fun P => P) (fun P => [26]) rfl) 7).trans ((F_39.1 P (ni hprP (fun P => P) (fun P => [26]) rfl) 7).trans ((F_23.1 P (ni hprP (fun P => P) (fun P => [26]) rfl) 7).trans (F_7.1 P (ni hprP (fun P => P) (fun P => [26]) rfl) 7)))))⟩
            · have hs0_ : μ.1 26 11 = 0 := hTK.k.resolve_right (by omega)
              refine lv_aload_n hx hb dX7_primary_156 rfl (lv_at hl 1 rfl) ?_
              refine lv_bipush (v := iv 40) hx hb dX7_primary_157 rfl ?_
              refine lv_bipush (v := iv 41) hx hb dX7_primary_159 rfl ?_
              have hpx_249 : μ37.1 26 11 = 0 → PXE μ μ37 P tt 0 (-1) 1 := fun h0 => (hpx_35 (by have h9 : μ21.1 26 11 = μ.1 26 11 := (hs_28.trans hs_12); have h8 : μ37.1 26 11 = μ.1 26 11 := (hs_44.trans (hs_28.trans hs_12)); omega)).fr (K := [26]) (Fr.tr Fr.rf F_39 (by decide)) (npL_p (L := [26]) (by decide) hprP).1 (npL_p (L := [26]) (by decide) hprP).2.1
              have e_250 : μ37.1 23 2 = P := ((F_39.1 23 (by decide) 2).trans ((F_23.1 23 (by decide) 2).trans ((F_7.1 23 (by decide) 2).trans hP.symm)))
              have e_251 : μ37.1 23 8 = tt := ((F_39.1 23 (by decide) 8).trans ((F_23.1 23 (by decide) 8).trans ((F_7.1 23 (by decide) 8).trans htt.symm)))
              have e_252 : μ37.1 P 1 = μ.1 P 1 := ((F_39.1 P (ni hprP (fun P => P) (fun P => [26]) rfl) 1).trans ((F_23.1 P (ni hprP (fun P => P) (fun P => [26]) rfl) 1).trans (F_7.1 P (ni hprP (fun P => P) (fun P => [26]) rfl) 1)))
              have e_253 : μ37.1 26 11 = μ.1 26 11 := (hs_44.trans (hs_28.trans hs_12))
              have hk_254 := hI.row (r := P + 2) (hprP.row)
              unfold rk at hk_254
              have e_255 : μ37.1 (P + 2) 3 = μ.1 (P + 2) 3 := ((F_39.1 (P + 2) (ni hprP (fun P => P + 2) (fun P => [26]) rfl) 3).trans ((F_23.1 (P + 2) (ni hprP (fun P => P + 2) (fun P => [26]) rfl) 3).trans (F_7.1 (P + 2) (ni hprP (fun P => P + 2) (fun P => [26]) rfl) 3)))
              have e_256 : μ37.1 P 1 = μ.1 P 1 := ((F_39.1 P (ni hprP (fun P => P) (fun P => [26]) rfl) 1).trans ((F_23.1 P (ni hprP (fun P => P) (fun P => [26]) rfl) 1).trans (F_7.1 P (ni hprP (fun P => P) (fun P => [26]) rfl) 1)))
              have e_257 : μ37.1 23 9 = μ.1 23 9 := ((F_39.1 23 (by decide) 9).trans ((F_23.1 23 (by decide) 9).trans (F_7.1 23 (by decide) 9)))
              have e_258 : μ37.1 23 9 = μ.1 23 9 := ((F_39.1 23 (by decide) 9).trans ((F_23.1 23 (by decide) 9).trans (F_7.1 23 (by decide) 9)))
              have e_259 : μ37.1 23 9 = μ.1 23 9 := ((F_39.1 23 (by decide) 9).trans ((F_23.1 23 (by decide) 9).trans (F_7.1 23 (by decide) 9)))
              have e_260 : μ37.1 26 11 = μ.1 26 11 := (hs_44.trans (hs_28.trans hs_12))
              have e_261 : μ37.1 P 1 = μ.1 P 1 := ((F_39.1 P (ni hprP (fun P => P) (fun P => [26]) rfl) 1).trans ((F_23.1 P (ni hprP (fun P => P) (fun P => [26]) rfl) 1).trans (F_7.1 P (ni hprP (fun P => P) (fun P => [26]) rfl) 1)))
              have e_262 : μ37.1 P 1 = μ.1 P 1 := ((F_39.1 P (ni hprP (fun P => P) (fun P => [26]) rfl) 1).trans ((F_23.1 P (ni hprP (fun P => P) (fun P => [26]) rfl) 1).trans (F_7.1 P (ni hprP (fun P => P) (fun P => [26]) rfl) 1)))
              have e_263 : μ37.1 (P + 2) 3 = μ.1 (P + 2) 3 := ((F_39.1 (P + 2) (ni hprP (fun P => P + 2) (fun P => [26]) rfl) 3).trans ((F_23.1 (P + 2) (ni hprP (fun P => P + 2) (fun P => [26]) rfl) 3).trans (F_7.1 (P + 2) (ni hprP (fun P => P + 2) (fun P => [26]) rfl) 3)))
              have e_264 : μ37.1 P 1 = μ.1 P 1 := ((F_39.1 P (ni hprP (fun P => P) (fun P => [26]) rfl) 1).trans ((F_23.1 P (ni hprP (fun P => P) (fun P => [26]) rfl) 1).trans (F_7.1 P (ni hprP (fun P => P) (fun P => [26]) rfl) 1)))
              have e_265 : μ37.1 (P + 2) 3 = μ.1 (P + 2) 3 := ((F_39.1 (P + 2) (ni hprP (fun P => P + 2) (fun P => [26]) rfl) 3).trans ((F_23.1 (P + 2) (ni hprP (fun P => P + 2) (fun P => [26]) rfl) 3).trans (F_7.1 (P + 2) (ni hprP (fun P => P + 2) (fun P => [26]) rfl) 3)))
              refine xc_vV G (b := 23) (rest := []) (As := [.int (iv 40), .int (iv 41)]) (c_X7_inBrackets ω l μ37 40 41 F Lo Fu Lu kf P tt (by unfold ir; omega) (by unfold ir; omega) hI_40 (by omega) (by omega) hF hLo hFu hLu hE hU hp_41 (by omega) (by omega) (by omega) (by omega) (by omega) (by omega) (by omega)) (wm 4 92 rfl rfl) (wm 4 94 rfl rfl) (wm 0 39 rfl rfl) rfl rfl (by decide) rfl (wm 1 12 rfl rfl) (wm 4 95 rfl rfl) (by decide) hR ⟨sfr (F := F) (a := 1) (by decide), slo (L := Lo) (m := 3) (a := 22) (by decide)⟩ (n := 2) rfl rfl (Nat.le_of_ble_eq_true rfl) hl.1 dX7_primary_161 (fun μ266 ρ d0 H locs hp G => ?_)
              obtain ⟨F_267, hI_268, hp_269, hp_270, hp_271, hp_272, hp_273, hp_274, hs_275, hs_276, hs_277, hs_278, hs_279, hs_280, hs_281, hs_282, hs_283⟩ := hp
              have hn_284 : -1 ≤ μ266.1 26 10 ∧ μ266.1 26 10 ≤ 3000 := hI_268.nm.2.2.2.2.2.2.2.2.2.2.2.2
              have hk_285 := hI_268.pr (p := P) hprP
              unfold pk at hk_285
              have hc_286 : 16 ≤ μ266.2.1 (P + 1) ∧ μ266.2.1 (P + 1) ≤ 73024 := hI_268.rm.1 _ hprP.cap
              have hk_287 := hI_268.row (r := P + 2) (hprP.row)
              unfold rk at hk_287
              have htb_288 := hp_269.b
              have hpx_289 : μ266.1 26 11 = 0 → PXE μ μ266 P tt 1 (-1) 1 := fun h0 => (PXE.app (hpx_249 (by have h9 : μ37.1 26 11 = μ.1 26 11 := (hs_44.trans (hs_28.trans hs_12)); have h8 : μ266.1 26 11 = μ266.1 26 11 := rfl; omega)) (hp_274 h0)).e (by omega)
              refine lv_goto (tgt := 238) hx hb dX7_primary_164 (by decide) ?_
              exact xr_v G hret hlk dX7_primary_238 ⟨(Fr.tr (Fr.tr (Fr.tr (Fr.tr Fr.rf F_7 (si hprP (fun P => [26]) (fun P => [2, 3, 4, 23, 24, 26, P, P + 1, P + 2, (P + 2) + 1, (P + 2) + 2, (P + 2) + 3]) rfl)) F_23 (si hprP (fun P => [26]) (fun P => [2, 3, 4, 23, 24, 26, P, P + 1, P + 2, (P + 2) + 1, (P + 2) + 2, (P + 2) + 3]) rfl)) F_39 (si hprP (fun P => [26]) (fun P => [2, 3, 4, 23, 24, 26, P, P + 1, P + 2, (P + 2) + 1, (P + 2) + 2, (P + 2) + 3]) rfl)) F_267 (si hprP (fun P => [2, 3, 4, 23, 24, 26, P, P + 1, P + 2, (P + 2) + 1, (P + 2) + 2, (P + 2) + 3]) (fun P => [2, 3, 4, 23, 24, 26, P, P + 1, P + 2, (P + 2) + 1, (P + 2) + 2, (P + 2) + 3]) rfl)), hI_268, hp_269, (by omega), (by omega), (by omega), (by omega), (fun h0 => (PXE.ex (hpx_289 h0)).e (by omega)), ((hs_275.trans ((F_39.1 23 (by decide) 2).trans ((F_23.1 23 (by decide) 2).trans ((F_7.1 23 (by decide) 2).trans hP.symm))))).trans hP, (hs_276.trans ((F_39.1 23 (by decide) 5).trans ((F_23.1 23 (by decide) 5).trans (F_7.1 23 (by decide) 5)))), (hs_277.trans ((F_39.1 23 (by decide) 6).trans ((F_23.1 23 (by decide) 6).trans (F_7.1 23 (by decide) 6)))), (hs_278.trans ((F_39.1 23 (by decide) 7).trans ((F_23.1 23 (by decide) 7).trans (F_7.1 23 (by decide) 7)))), ((hs_279.trans ((F_39.1 23 (by decide) 8).trans ((F_23.1 23 (by decide) 8).trans ((F_7.1 23 (by decide) 8).trans htt.symm))))).trans htt, (hs_280.trans ((F_39.1 23 (by decide) 9).trans ((F_23.1 23 (by decide) 9).trans (F_7.1 23 (by decide) 9)))), (hs_281.trans ((F_39.1 23 (by decide) 10).trans ((F_23.1 23 (by decide) 10).trans (F_7.1 23 (by decide) 10)))), (hs_282.trans (hs_45.trans (hs_29.trans hs_13))), (hs_283.trans ((F_39.1 P (ni hprP (fun P => P) (fun P => [26]) rfl) 7).trans ((F_23.1 P (ni hprP (fun P => P) (fun P => [26]) rfl) 7).trans (F_7.1 P (ni hprP (fun P => P) (fun P => [26]) rfl) 7))))⟩
          · refine lv_aload_n hx hb dX7_primary_125 rfl (lv_at hl 1 rfl) ?_
            refine lv_bipush (v := iv 40) hx hb dX7_primary_126 rfl ?_
            refine lv_bipush (v := iv 41) hx hb dX7_primary_128 rfl ?_
            have hpx_290 : μ37.1 26 11 = 0 → PXE μ μ37 P tt 0 (-1) 1 := fun h0 => (hpx_35 (by have h9 : μ21.1 26 11 = μ.1 26 11 := (hs_28.trans hs_12); have h8 : μ37.1 26 11 = μ.1 26 11 := (hs_44.trans (hs_28.trans hs_12)); omega)).fr (K := [26]) (Fr.tr Fr.rf F_39 (by decide)) (npL_p (L := [26]) (by decide) hprP).1 (npL_p (L := [26]) (by decide) hprP).2.1
            have e_291 : μ37.1 23 2 = P := ((F_39.1 23 (by decide) 2).trans ((F_23.1 23 (by decide) 2).trans ((F_7.1 23 (by decide) 2).trans hP.symm)))
            have e_292 : μ37.1 23 8 = tt := ((F_39.1 23 (by decide) 8).trans ((F_23.1 23 (by decide) 8).trans ((F_7.1 23 (by decide) 8).trans htt.symm)))
            have e_293 : μ37.1 P 1 = μ.1 P 1 := ((F_39.1 P (ni hprP (fun P => P) (fun P => [26]) rfl) 1).trans ((F_23.1 P (ni hprP (fun P => P) (fun P => [26]) rfl) 1).trans (F_7.1 P (ni hprP (fun P => P) (fun P => [26]) rfl) 1)))
            have e_294 : μ37.1 26 11 = μ.1 26 11 := (hs_44.trans (hs_28.trans hs_12))
            have hk_295 := hI.row (r := P + 2) (hprP.row)
            unfold rk at hk_295
            have e_296 : μ37.1 (P + 2) 3 = μ.1 (P + 2) 3 := ((F_39.1 (P + 2) (ni hprP (fun P => P + 2) (fun P => [26]) rfl) 3).trans ((F_23.1 (P + 2) (ni hprP (fun P => P + 2) (fun P => [26]) rfl) 3).trans (F_7.1 (P + 2) (ni hprP (fun P => P + 2) (fun P => [26]) rfl) 3)))
            have e_297 : μ37.1 P 1 = μ.1 P 1 := ((F_39.1 P (ni hprP (fun P => P) (fun P => [26]) rfl) 1).trans ((F_23.1 P (ni hprP (fun P => P) (fun P => [26]) rfl) 1).trans (F_7.1 P (ni hprP (fun P => P) (fun P => [26]) rfl) 1)))
            have e_298 : μ37.1 23 9 = μ.1 23 9 := ((F_39.1 23 (by decide) 9).trans ((F_23.1 23 (by decide) 9).trans (F_7.1 23 (by decide) 9)))
            have e_299 : μ37.1 23 9 = μ.1 23 9 := ((F_39.1 23 (by decide) 9).trans ((F_23.1 23 (by decide) 9).trans (F_7.1 23 (by decide) 9)))
            have e_300 : μ37.1 23 9 = μ.1 23 9 := ((F_39.1 23 (by decide) 9).trans ((F_23.1 23 (by decide) 9).trans (F_7.1 23 (by decide) 9)))
            have e_301 : μ37.1 26 11 = μ.1 26 11 := (hs_44.trans (hs_28.trans hs_12))
            have e_302 : μ37.1 P 1 = μ.1 P 1 := ((F_39.1 P (ni hprP (fun P => P) (fun P => [26]) rfl) 1).trans ((F_23.1 P (ni hprP (fun P => P) (fun P => [26]) rfl) 1).trans (F_7.1 P (ni hprP (fun P => P) (fun P => [26]) rfl) 1)))
            have e_303 : μ37.1 P 1 = μ.1 P 1 := ((F_39.1 P (ni hprP (fun P => P) (fun P => [26]) rfl) 1).trans ((F_23.1 P (ni hprP (fun P => P) (fun P => [26]) rfl) 1).trans (F_7.1 P (ni hprP (fun P => P) (fun P => [26]) rfl) 1)))
            have e_304 : μ37.1 (P + 2) 3 = μ.1 (P + 2) 3 := ((F_39.1 (P + 2) (ni hprP (fun P => P + 2) (fun P => [26]) rfl) 3).trans ((F_23.1 (P + 2) (ni hprP (fun P => P + 2) (fun P => [26]) rfl) 3).trans (F_7.1 (P + 2) (ni hprP (fun P => P + 2) (fun P => [26]) rfl) 3)))
            have e_305 : μ37.1 P 1 = μ.1 P 1 := ((F_39.1 P (ni hprP (fun P => P) (fun P => [26]) rfl) 1).trans ((F_23.1 P (ni hprP (fun P => P) (fun P => [26]) rfl) 1).trans (F_7.1 P (ni hprP (fun P => P) (fun P => [26]) rfl) 1)))
            have e_306 : μ37.1 (P + 2) 3 = μ.1 (P + 2) 3 := ((F_39.1 (P + 2) (ni hprP (fun P => P + 2) (fun P => [26]) rfl) 3).trans ((F_23.1 (P + 2) (ni hprP (fun P => P + 2) (fun P => [26]) rfl) 3).trans (F_7.1 (P + 2) (ni hprP (fun P => P + 2) (fun P => [26]) rfl) 3)))
            refine xc_vV G (b := 23) (rest := []) (As := [.int (iv 40), .int (iv 41)]) (c_X7_inBrackets ω l μ37 40 41 F Lo Fu Lu kf P tt (by unfold ir; omega) (by unfold ir; omega) hI_40 (by omega) (by omega) hF hLo hFu hLu hE hU hp_41 (by omega) (by omega) (by omega) (by omega) (by omega) (by omega) (by omega)) (wm 4 92 rfl rfl) (wm 4 94 rfl rfl) (wm 0 39 rfl rfl) rfl rfl (by decide) rfl (wm 1 12 rfl rfl) (wm 4 95 rfl rfl) (by decide) hR ⟨sfr (F := F) (a := 1) (by decide), slo (L := Lo) (m := 3) (a := 22) (by decide)⟩ (n := 2) rfl rfl (Nat.le_of_ble_eq_true rfl) hl.1 dX7_primary_130 (fun μ307 ρ d0 H locs hp G => ?_)
            obtain ⟨F_308, hI_309, hp_310, hp_311, hp_312, hp_313, hp_314, hp_315, hs_316, hs_317, hs_318, hs_319, hs_320, hs_321, hs_322, hs_323, hs_324⟩ := hp
            have hn_325 : -1 ≤ μ307.1 26 10 ∧ μ307.1 26 10 ≤ 3000 := hI_309.nm.2.2.2.2.2.2.2.2.2.2.2.2
            have hk_326 := hI_309.pr (p := P) hprP
            unfold pk at hk_326
            have hc_327 : 16 ≤ μ307.2.1 (P + 1) ∧ μ307.2.1 (P + 1) ≤ 73024 := hI_309.rm.1 _ hprP.cap
            have hk_328 := hI_309.row (r := P + 2) (hprP.row)
            unfold rk at hk_328
            have htb_329 := hp_310.b
            have hpx_330 : μ307.1 26 11 = 0 → PXE μ μ307 P tt 1 (-1) 1 := fun h0 => (PXE.app (hpx_290 (by have h9 : μ37.1 26 11 = μ.1 26 11 := (hs_44.trans (hs_28.trans hs_12)); have h8 : μ307.1 26 11 = μ307.1 26 11 := rfl; omega)) (hp_315 h0)).e (by omega)
            refine lv_aload_n hx hb dX7_primary_133 rfl (lv_at hl 1 rfl) ?_
            refine lv_bipush (v := iv 10) hx hb dX7_primary_134 rfl ?_
            refine lv_iconst (v := iv 0) hx hb dX7_primary_136 rfl ?_
            refine lv_iconst (v := iv 0) hx hb dX7_primary_137 rfl ?_
            refine lv_aload_n hx hb dX7_primary_138 rfl (lv_at hl 1 rfl) ?_
            refine lv_iconst (v := iv (-1)) hx hb dX7_primary_139 rfl ?_
            refine lv_iconst (v := iv 0) hx hb dX7_primary_140 rfl ?_
            have e_331 : μ307.1 23 2 = P := (hs_316.trans ((F_39.1 23 (by decide) 2).trans ((F_23.1 23 (by decide) 2).trans ((F_7.1 23 (by decide) 2).trans hP.symm))))
            have e_332 : μ307.1 23 8 = tt := (hs_320.trans ((F_39.1 23 (by decide) 8).trans ((F_23.1 23 (by decide) 8).trans ((F_7.1 23 (by decide) 8).trans htt.symm))))
            refine xc_iV G (b := 23) (rest := [.int (iv 0), .int (iv 0), .int (iv 10), .ref (oP ω 23)]) (As := [.int (iv (-1)), .int (iv 0)]) (c_X7_ifFails ω l μ307 (-1) 0 μ (1) (1) P tt (by unfold ir; omega) (by unfold ir; omega) hI_309 (by omega) (by omega) (by omega) hpx_330 (by omega) (by omega)) (wm 4 23 rfl rfl) (wm 4 25 rfl rfl) (wm 0 29 rfl rfl) rfl rfl (by decide) rfl (wm 1 12 rfl rfl) (wm 4 26 rfl rfl) (by decide) hR ⟨nfr hF (by decide), nlo hLo (by decide)⟩ (n := 2) rfl rfl (Nat.le_of_ble_eq_true rfl) hl.1 dX7_primary_141 (fun r_334 μ333 ρ d0 H locs hr_r_334 hp G => ?_)
            have hr_r_334 : -2147483648 ≤ r_334 ∧ r_334 ≤ 2147483647 := hr_r_334
            obtain ⟨F_335, hI_336, hp_337, hp_338, hs_339⟩ := hp
            have hk_340 := hI_336.pr (p := P) hprP
            unfold pk at hk_340
            have hc_341 : 16 ≤ μ333.2.1 (P + 1) ∧ μ333.2.1 (P + 1) ≤ 73024 := hI_336.rm.1 _ hprP.cap
            have hpx_342 : μ333.1 26 11 = 0 → PXE μ μ333 P tt 1 r_334 1 := fun h0 => hp_337 (by have h9 : μ307.1 26 11 = μ307.1 26 11 := rfl; have h8 : μ333.1 26 11 = μ307.1 26 11 := (F_335.1 26 (ni hprP (fun P => 26) (fun P => [P, P + 1]) rfl) 11); omega)
            clear hp_337
            have e_343 : μ333.1 23 2 = P := ((F_335.1 23 (ni hprP (fun P => 23) (fun P => [P, P + 1]) rfl) 2).trans (hs_316.trans ((F_39.1 23 (by decide) 2).trans ((F_23.1 23 (by decide) 2).trans ((F_7.1 23 (by decide) 2).trans hP.symm)))))
            have e_344 : μ333.1 23 8 = tt := ((F_335.1 23 (ni hprP (fun P => 23) (fun P => [P, P + 1]) rfl) 8).trans (hs_320.trans ((F_39.1 23 (by decide) 8).trans ((F_23.1 23 (by decide) 8).trans ((F_7.1 23 (by decide) 8).trans htt.symm)))))
            refine xc_vV G (b := 23) (rest := []) (As := [.int (iv 10), .int (iv 0), .int (iv 0), .int (iv r_334)]) (c_X7_endOfParts ω l μ333 10 0 0 r_334 μ (1) (1) P tt (by unfold ir; omega) (by unfold ir; omega) (by unfold ir; omega) (by unfold ir; omega) hI_336 (by omega) (by omega) (by omega) hpx_342 (Or.inl (by unfold plain; omega)) (by omega) (by rw [show eff 10 0 = 0 from rfl]; omega)) (wm 4 27 rfl rfl) (wm 4 29 rfl rfl) (wm 0 30 rfl rfl) rfl rfl (by decide) rfl (wm 1 12 rfl rfl) (wm 4 30 rfl rfl) (by decide) hR ⟨nfr hF (by decide), nlo hLo (by decide)⟩ (n := 4) rfl rfl (Nat.le_of_ble_eq_true rfl) hl.1 dX7_primary_144 (fun μ345 ρ d0 H locs hp G => ?_)
            obtain ⟨F_346, hI_347, hp_348, hs_349, hs_350⟩ := hp
            have hpx_351 : μ345.1 26 11 = 0 → PXE μ μ345 P tt 1 (-1) 1 := fun h0 => PXE.of (hp_348 (by have h9 : μ333.1 26 11 = μ307.1 26 11 := (F_335.1 26 (ni hprP (fun P => 26) (fun P => [P, P + 1]) rfl) 11); have h8 : μ345.1 26 11 = μ307.1 26 11 := ((F_346.1 26 (ni hprP (fun P => 26) (fun P => [P, P + 1]) rfl) 11).trans (F_335.1 26 (ni hprP (fun P => 26) (fun P => [P, P + 1]) rfl) 11)); omega))
            clear hp_348
            refine lv_goto (tgt := 238) hx hb dX7_primary_147 (by decide) ?_
            have htk_352 : TK μ345 := hp_310.fr (K := [P, P + 1]) (Fr.tr (Fr.tr Fr.rf F_335 (si hprP (fun P => [P, P + 1]) (fun P => [P, P + 1]) rfl)) F_346 (si hprP (fun P => [P, P + 1]) (fun P => [P, P + 1]) rfl)) (ni hprP (fun P => 26) (fun P => [P, P + 1]) rfl) (ni hprP (fun P => 28) (fun P => [P, P + 1]) rfl) (ni hprP (fun P => 29) (fun P => [P, P + 1]) rfl)
            have e_353 : μ345.1 26 11 = μ307.1 26 11 := ((F_346.1 26 (ni hprP (fun P => 26) (fun P => [P, P + 1]) rfl) 11).trans (F_335.1 26 (ni hprP (fun P => 26) (fun P => [P, P + 1]) rfl) 11))
            have e_354 : μ345.1 26 11 = μ307.1 26 11 := ((F_346.1 26 (ni hprP (fun P => 26) (fun P => [P, P + 1]) rfl) 11).trans (F_335.1 26 (ni hprP (fun P => 26) (fun P => [P, P + 1]) rfl) 11))
            have e_355 : μ345.1 26 10 = μ307.1 26 10 := ((F_346.1 26 (ni hprP (fun P => 26) (fun P => [P, P + 1]) rfl) 10).trans (F_335.1 26 (ni hprP (fun P => 26) (fun P => [P, P + 1]) rfl) 10))
            have e_356 : μ345.1 P 1 = μ333.1 P 1 + 1 := hs_349
            have e_357 : μ345.1 P 1 = μ333.1 P 1 + 1 := hs_349
            have e_358 : μ345.1 26 10 = μ307.1 26 10 := ((F_346.1 26 (ni hprP (fun P => 26) (fun P => [P, P + 1]) rfl) 10).trans (F_335.1 26 (ni hprP (fun P => 26) (fun P => [P, P + 1]) rfl) 10))
            have e_359 : μ345.1 26 11 = μ307.1 26 11 := ((F_346.1 26 (ni hprP (fun P => 26) (fun P => [P, P + 1]) rfl) 11).trans (F_335.1 26 (ni hprP (fun P => 26) (fun P => [P, P + 1]) rfl) 11))
            have e_360 : μ345.1 (P + 2) 3 = μ307.1 (P + 2) 3 := ((F_346.1 (P + 2) (ni hprP (fun P => P + 2) (fun P => [P, P + 1]) rfl) 3).trans (F_335.1 (P + 2) (ni hprP (fun P => P + 2) (fun P => [P, P + 1]) rfl) 3))
            have e_361 : μ345.1 P 1 = μ333.1 P 1 + 1 := hs_349
            have e_362 : μ345.1 (P + 2) 3 = μ307.1 (P + 2) 3 := ((F_346.1 (P + 2) (ni hprP (fun P => P + 2) (fun P => [P, P + 1]) rfl) 3).trans (F_335.1 (P + 2) (ni hprP (fun P => P + 2) (fun P => [P, P + 1]) rfl) 3))
            exact xr_v G hret hlk dX7_primary_238 ⟨(Fr.tr (Fr.tr (Fr.tr (Fr.tr (Fr.tr (Fr.tr Fr.rf F_7 (si hprP (fun P => [26]) (fun P => [2, 3, 4, 23, 24, 26, P, P + 1, P + 2, (P + 2) + 1, (P + 2) + 2, (P + 2) + 3]) rfl)) F_23 (si hprP (fun P => [26]) (fun P => [2, 3, 4, 23, 24, 26, P, P + 1, P + 2, (P + 2) + 1, (P + 2) + 2, (P + 2) + 3]) rfl)) F_39 (si hprP (fun P => [26]) (fun P => [2, 3, 4, 23, 24, 26, P, P + 1, P + 2, (P + 2) + 1, (P + 2) + 2, (P + 2) + 3]) rfl)) F_308 (si hprP (fun P => [2, 3, 4, 23, 24, 26, P, P + 1, P + 2, (P + 2) + 1, (P + 2) + 2, (P + 2) + 3]) (fun P => [2, 3, 4, 23, 24, 26, P, P + 1, P + 2, (P + 2) + 1, (P + 2) + 2, (P + 2) + 3]) rfl)) F_335 (si hprP (fun P => [P, P + 1]) (fun P => [2, 3, 4, 23, 24, 26, P, P + 1, P + 2, (P + 2) + 1, (P + 2) + 2, (P + 2) + 3]) rfl)) F_346 (si hprP (fun P => [P, P + 1]) (fun P => [2, 3, 4, 23, 24, 26, P, P + 1, P + 2, (P + 2) + 1, (P + 2) + 2, (P + 2) + 3]) rfl)), hI_347, htk_352, (by omega), (by omega), (by omega), (by omega), (fun h0 => (PXE.ex (hpx_351 h0)).e (by omega)), (((F_346.1 23 (ni hprP (fun P => 23) (fun P => [P, P + 1]) rfl) 2).trans ((F_335.1 23 (ni hprP (fun P => 23) (fun P => [P, P + 1]) rfl) 2).trans (hs_316.trans ((F_39.1 23 (by decide) 2).trans ((F_23.1 23 (by decide) 2).trans ((F_7.1 23 (by decide) 2).trans hP.symm))))))).trans hP, ((F_346.1 23 (ni hprP (fun P => 23) (fun P => [P, P + 1]) rfl) 5).trans ((F_335.1 23 (ni hprP (fun P => 23) (fun P => [P, P + 1]) rfl) 5).trans (hs_317.trans ((F_39.1 23 (by decide) 5).trans ((F_23.1 23 (by decide) 5).trans (F_7.1 23 (by decide) 5)))))), ((F_346.1 23 (ni hprP (fun P => 23) (fun P => [P, P + 1]) rfl) 6).trans ((F_335.1 23 (ni hprP (fun P => 23) (fun P => [P, P + 1]) rfl) 6).trans (hs_318.trans ((F_39.1 23 (by decide) 6).trans ((F_23.1 23 (by decide) 6).trans (F_7.1 23 (by decide) 6)))))), ((F_346.1 23 (ni hprP (fun P => 23) (fun P => [P, P + 1]) rfl) 7).trans ((F_335.1 23 (ni hprP (fun P => 23) (fun P => [P, P + 1]) rfl) 7).trans (hs_319.trans ((F_39.1 23 (by decide) 7).trans ((F_23.1 23 (by decide) 7).trans (F_7.1 23 (by decide) 7)))))), (((F_346.1 23 (ni hprP (fun P => 23) (fun P => [P, P + 1]) rfl) 8).trans ((F_335.1 23 (ni hprP (fun P => 23) (fun P => [P, P + 1]) rfl) 8).trans (hs_320.trans ((F_39.1 23 (by decide) 8).trans ((F_23.1 23 (by decide) 8).trans ((F_7.1 23 (by decide) 8).trans htt.symm))))))).trans htt, ((F_346.1 23 (ni hprP (fun P => 23) (fun P => [P, P + 1]) rfl) 9).trans ((F_335.1 23 (ni hprP (fun P => 23) (fun P => [P, P + 1]) rfl) 9).trans (hs_321.trans ((F_39.1 23 (by decide) 9).trans ((F_23.1 23 (by decide) 9).trans (F_7.1 23 (by decide) 9)))))), ((F_346.1 23 (ni hprP (fun P => 23) (fun P => [P, P + 1]) rfl) 10).trans ((F_335.1 23 (ni hprP (fun P => 23) (fun P => [P, P + 1]) rfl) 10).trans (hs_322.trans ((F_39.1 23 (by decide) 10).trans ((F_23.1 23 (by decide) 10).trans (F_7.1 23 (by decide) 10)))))), ((F_346.1 26 (ni hprP (fun P => 26) (fun P => [P, P + 1]) rfl) 6).trans ((F_335.1 26 (ni hprP (fun P => 26) (fun P => [P, P + 1]) rfl) 6).trans (hs_323.trans (hs_45.trans (hs_29.trans hs_13))))), (hs_350.trans (hs_339.trans (hs_324.trans ((F_39.1 P (ni hprP (fun P => P) (fun P => [26]) rfl) 7).trans ((F_23.1 P (ni hprP (fun P => P) (fun P => [26]) rfl) 7).trans (F_7.1 P (ni hprP (fun P => P) (fun P => [26]) rfl) 7))))))⟩
        · refine lv_aload_n hx hb dX7_primary_90 rfl (lv_at hl 1 rfl) ?_
          refine lv_bipush (v := iv 91) hx hb dX7_primary_91 rfl ?_
          refine lv_bipush (v := iv 93) hx hb dX7_primary_93 rfl ?_
          have hpx_363 : μ21.1 26 11 = 0 → PXE μ μ21 P tt 0 (-1) 1 := fun h0 => (hpx_19 (by have h9 : μ5.1 26 11 = μ.1 26 11 := hs_12; have h8 : μ21.1 26 11 = μ.1 26 11 := (hs_28.trans hs_12); omega)).fr (K := [26]) (Fr.tr Fr.rf F_23 (by decide)) (npL_p (L := [26]) (by decide) hprP).1 (npL_p (L := [26]) (by decide) hprP).2.1
          have e_364 : μ21.1 23 2 = P := ((F_23.1 23 (by decide) 2).trans ((F_7.1 23 (by decide) 2).trans hP.symm))
          have e_365 : μ21.1 23 8 = tt := ((F_23.1 23 (by decide) 8).trans ((F_7.1 23 (by decide) 8).trans htt.symm))
          have e_366 : μ21.1 P 1 = μ.1 P 1 := ((F_23.1 P (ni hprP (fun P => P) (fun P => [26]) rfl) 1).trans (F_7.1 P (ni hprP (fun P => P) (fun P => [26]) rfl) 1))
          have e_367 : μ21.1 26 11 = μ.1 26 11 := (hs_28.trans hs_12)
          have hk_368 := hI.row (r := P + 2) (hprP.row)
          unfold rk at hk_368
          have e_369 : μ21.1 (P + 2) 3 = μ.1 (P + 2) 3 := ((F_23.1 (P + 2) (ni hprP (fun P => P + 2) (fun P => [26]) rfl) 3).trans (F_7.1 (P + 2) (ni hprP (fun P => P + 2) (fun P => [26]) rfl) 3))
          have e_370 : μ21.1 P 1 = μ.1 P 1 := ((F_23.1 P (ni hprP (fun P => P) (fun P => [26]) rfl) 1).trans (F_7.1 P (ni hprP (fun P => P) (fun P => [26]) rfl) 1))
          have e_371 : μ21.1 23 9 = μ.1 23 9 := ((F_23.1 23 (by decide) 9).trans (F_7.1 23 (by decide) 9))
          have e_372 : μ21.1 23 9 = μ.1 23 9 := ((F_23.1 23 (by decide) 9).trans (F_7.1 23 (by decide) 9))
          have e_373 : μ21.1 23 9 = μ.1 23 9 := ((F_23.1 23 (by decide) 9).trans (F_7.1 23 (by decide) 9))
          have e_374 : μ21.1 26 11 = μ.1 26 11 := (hs_28.trans hs_12)
          have e_375 : μ21.1 P 1 = μ.1 P 1 := ((F_23.1 P (ni hprP (fun P => P) (fun P => [26]) rfl) 1).trans (F_7.1 P (ni hprP (fun P => P) (fun P => [26]) rfl) 1))
          have e_376 : μ21.1 P 1 = μ.1 P 1 := ((F_23.1 P (ni hprP (fun P => P) (fun P => [26]) rfl) 1).trans (F_7.1 P (ni hprP (fun P => P) (fun P => [26]) rfl) 1))
          have e_377 : μ21.1 (P + 2) 3 = μ.1 (P + 2) 3 := ((F_23.1 (P + 2) (ni hprP (fun P => P + 2) (fun P => [26]) rfl) 3).trans (F_7.1 (P + 2) (ni hprP (fun P => P + 2) (fun P => [26]) rfl) 3))
          have e_378 : μ21.1 P 1 = μ.1 P 1 := ((F_23.1 P (ni hprP (fun P => P) (fun P => [26]) rfl) 1).trans (F_7.1 P (ni hprP (fun P => P) (fun P => [26]) rfl) 1))
          have e_379 : μ21.1 (P + 2) 3 = μ.1 (P + 2) 3 := ((F_23.1 (P + 2) (ni hprP (fun P => P + 2) (fun P => [26]) rfl) 3).trans (F_7.1 (P + 2) (ni hprP (fun P => P + 2) (fun P => [26]) rfl) 3))
          refine xc_vV G (b := 23) (rest := []) (As := [.int (iv 91), .int (iv 93)]) (c_X7_inBrackets ω l μ21 91 93 F Lo Fu Lu kf P tt (by unfold ir; omega) (by unfold ir; omega) hI_24 (by omega) (by omega) hF hLo hFu hLu hE hU hp_25 (by omega) (by omega) (by omega) (by omega) (by omega) (by omega) (by omega)) (wm 4 92 rfl rfl) (wm 4 94 rfl rfl) (wm 0 39 rfl rfl) rfl rfl (by decide) rfl (wm 1 12 rfl rfl) (wm 4 95 rfl rfl) (by decide) hR ⟨sfr (F := F) (a := 1) (by decide), slo (L := Lo) (m := 3) (a := 22) (by decide)⟩ (n := 2) rfl rfl (Nat.le_of_ble_eq_true rfl) hl.1 dX7_primary_95 (fun μ380 ρ d0 H locs hp G => ?_)
          obtain ⟨F_381, hI_382, hp_383, hp_384, hp_385, hp_386, hp_387, hp_388, hs_389, hs_390, hs_391, hs_392, hs_393, hs_394, hs_395, hs_396, hs_397⟩ := hp
          have hn_398 : -1 ≤ μ380.1 26 10 ∧ μ380.1 26 10 ≤ 3000 := hI_382.nm.2.2.2.2.2.2.2.2.2.2.2.2
          have hk_399 := hI_382.pr (p := P) hprP
          unfold pk at hk_399
          have hc_400 : 16 ≤ μ380.2.1 (P + 1) ∧ μ380.2.1 (P + 1) ≤ 73024 := hI_382.rm.1 _ hprP.cap
          have hk_401 := hI_382.row (r := P + 2) (hprP.row)
          unfold rk at hk_401
          have htb_402 := hp_383.b
          have hpx_403 : μ380.1 26 11 = 0 → PXE μ μ380 P tt 1 (-1) 1 := fun h0 => (PXE.app (hpx_363 (by have h9 : μ21.1 26 11 = μ.1 26 11 := (hs_28.trans hs_12); have h8 : μ380.1 26 11 = μ380.1 26 11 := rfl; omega)) (hp_388 h0)).e (by omega)
          refine lv_aload_n hx hb dX7_primary_98 rfl (lv_at hl 1 rfl) ?_
          refine lv_bipush (v := iv 9) hx hb dX7_primary_99 rfl ?_
          refine lv_iconst (v := iv 0) hx hb dX7_primary_101 rfl ?_
          refine lv_iconst (v := iv 0) hx hb dX7_primary_102 rfl ?_
          refine lv_aload_n hx hb dX7_primary_103 rfl (lv_at hl 1 rfl) ?_
          refine lv_iconst (v := iv (-1)) hx hb dX7_primary_104 rfl ?_
          refine lv_iconst (v := iv 0) hx hb dX7_primary_105 rfl ?_
          have e_404 : μ380.1 23 2 = P := (hs_389.trans ((F_23.1 23 (by decide) 2).trans ((F_7.1 23 (by decide) 2).trans hP.symm)))
          have e_405 : μ380.1 23 8 = tt := (hs_393.trans ((F_23.1 23 (by decide) 8).trans ((F_7.1 23 (by decide) 8).trans htt.symm)))
          refine xc_iV G (b := 23) (rest := [.int (iv 0), .int (iv 0), .int (iv 9), .ref (oP ω 23)]) (As := [.int (iv (-1)), .int (iv 0)]) (c_X7_ifFails ω l μ380 (-1) 0 μ (1) (1) P tt (by unfold ir; omega) (by unfold ir; omega) hI_382 (by omega) (by omega) (by omega) hpx_403 (by omega) (by omega)) (wm 4 23 rfl rfl) (wm 4 25 rfl rfl) (wm 0 29 rfl rfl) rfl rfl (by decide) rfl (wm 1 12 rfl rfl) (wm 4 26 rfl rfl) (by decide) hR ⟨nfr hF (by decide), nlo hLo (by decide)⟩ (n := 2) rfl rfl (Nat.le_of_ble_eq_true rfl) hl.1 dX7_primary_106 (fun r_407 μ406 ρ d0 H locs hr_r_407 hp G => ?_)
          have hr_r_407 : -2147483648 ≤ r_407 ∧ r_407 ≤ 2147483647 := hr_r_407
          obtain ⟨F_408, hI_409, hp_410, hp_411, hs_412⟩ := hp
          have hk_413 := hI_409.pr (p := P) hprP
          unfold pk at hk_413
          have hc_414 : 16 ≤ μ406.2.1 (P + 1) ∧ μ406.2.1 (P + 1) ≤ 73024 := hI_409.rm.1 _ hprP.cap
          have hpx_415 : μ406.1 26 11 = 0 → PXE μ μ406 P tt 1 r_407 1 := fun h0 => hp_410 (by have h9 : μ380.1 26 11 = μ380.1 26 11 := rfl; have h8 : μ406.1 26 11 = μ380.1 26 11 := (F_408.1 26 (ni hprP (fun P => 26) (fun P => [P, P + 1]) rfl) 11); omega)
          clear hp_410
          have e_416 : μ406.1 23 2 = P := ((F_408.1 23 (ni hprP (fun P => 23) (fun P => [P, P + 1]) rfl) 2).trans (hs_389.trans ((F_23.1 23 (by decide) 2).trans ((F_7.1 23 (by decide) 2).trans hP.symm))))
          have e_417 : μ406.1 23 8 = tt := ((F_408.1 23 (ni hprP (fun P => 23) (fun P => [P, P + 1]) rfl) 8).trans (hs_393.trans ((F_23.1 23 (by decide) 8).trans ((F_7.1 23 (by decide) 8).trans htt.symm))))
          refine xc_vV G (b := 23) (rest := []) (As := [.int (iv 9), .int (iv 0), .int (iv 0), .int (iv r_407)]) (c_X7_endOfParts ω l μ406 9 0 0 r_407 μ (1) (1) P tt (by unfold ir; omega) (by unfold ir; omega) (by unfold ir; omega) (by unfold ir; omega) hI_409 (by omega) (by omega) (by omega) hpx_415 (Or.inl (by unfold plain; omega)) (by omega) (by rw [show eff 9 0 = 0 from rfl]; omega)) (wm 4 27 rfl rfl) (wm 4 29 rfl rfl) (wm 0 30 rfl rfl) rfl rfl (by decide) rfl (wm 1 12 rfl rfl) (wm 4 30 rfl rfl) (by decide) hR ⟨nfr hF (by decide), nlo hLo (by decide)⟩ (n := 4) rfl rfl (Nat.le_of_ble_eq_true rfl) hl.1 dX7_primary_109 (fun μ418 ρ d0 H locs hp G => ?_)
          obtain ⟨F_419, hI_420, hp_421, hs_422, hs_423⟩ := hp
          have hpx_424 : μ418.1 26 11 = 0 → PXE μ μ418 P tt 1 (-1) 1 := fun h0 => PXE.of (hp_421 (by have h9 : μ406.1 26 11 = μ380.1 26 11 := (F_408.1 26 (ni hprP (fun P => 26) (fun P => [P, P + 1]) rfl) 11); have h8 : μ418.1 26 11 = μ380.1 26 11 := ((F_419.1 26 (ni hprP (fun P => 26) (fun P => [P, P + 1]) rfl) 11).trans (F_408.1 26 (ni hprP (fun P => 26) (fun P => [P, P + 1]) rfl) 11)); omega))
          clear hp_421
          refine lv_goto (tgt := 238) hx hb dX7_primary_112 (by decide) ?_
          have htk_425 : TK μ418 := hp_383.fr (K := [P, P + 1]) (Fr.tr (Fr.tr Fr.rf F_408 (si hprP (fun P => [P, P + 1]) (fun P => [P, P + 1]) rfl)) F_419 (si hprP (fun P => [P, P + 1]) (fun P => [P, P + 1]) rfl)) (ni hprP (fun P => 26) (fun P => [P, P + 1]) rfl) (ni hprP (fun P => 28) (fun P => [P, P + 1]) rfl) (ni hprP (fun P => 29) (fun P => [P, P + 1]) rfl)
          have e_426 : μ418.1 26 11 = μ380.1 26 11 := ((F_419.1 26 (ni hprP (fun P => 26) (fun P => [P, P + 1]) rfl) 11).trans (F_408.1 26 (ni hprP (fun P => 26) (fun P => [P, P + 1]) rfl) 11))
          have e_427 : μ418.1 26 11 = μ380.1 26 11 := ((F_419.1 26 (ni hprP (fun P => 26) (fun P => [P, P + 1]) rfl) 11).trans (F_408.1 26 (ni hprP (fun P => 26) (fun P => [P, P + 1]) rfl) 11))
          have e_428 : μ418.1 26 10 = μ380.1 26 10 := ((F_419.1 26 (ni hprP (fun P => 26) (fun P => [P, P + 1]) rfl) 10).trans (F_408.1 26 (ni hprP (fun P => 26) (fun P => [P, P + 1]) rfl) 10))
          have e_429 : μ418.1 P 1 = μ406.1 P 1 + 1 := hs_422
          have e_430 : μ418.1 P 1 = μ406.1 P 1 + 1 := hs_422
          have e_431 : μ418.1 26 10 = μ380.1 26 10 := ((F_419.1 26 (ni hprP (fun P => 26) (fun P => [P, P + 1]) rfl) 10).trans (F_408.1 26 (ni hprP (fun P => 26) (fun P => [P, P + 1]) rfl) 10))
          have e_432 : μ418.1 26 11 = μ380.1 26 11 := ((F_419.1 26 (ni hprP (fun P => 26) (fun P => [P, P + 1]) rfl) 11).trans (F_408.1 26 (ni hprP (fun P => 26) (fun P => [P, P + 1]) rfl) 11))
          have e_433 : μ418.1 (P + 2) 3 = μ380.1 (P + 2) 3 := ((F_419.1 (P + 2) (ni hprP (fun P => P + 2) (fun P => [P, P + 1]) rfl) 3).trans (F_408.1 (P + 2) (ni hprP (fun P => P + 2) (fun P => [P, P + 1]) rfl) 3))
          have e_434 : μ418.1 P 1 = μ406.1 P 1 + 1 := hs_422
          have e_435 : μ418.1 (P + 2) 3 = μ380.1 (P + 2) 3 := ((F_419.1 (P + 2) (ni hprP (fun P => P + 2) (fun P => [P, P + 1]) rfl) 3).trans (F_408.1 (P + 2) (ni hprP (fun P => P + 2) (fun P => [P, P + 1]) rfl) 3))
          exact xr_v G hret hlk dX7_primary_238 ⟨(Fr.tr (Fr.tr (Fr.tr (Fr.tr (Fr.tr Fr.rf F_7 (si hprP (fun P => [26]) (fun P => [2, 3, 4, 23, 24, 26, P, P + 1, P + 2, (P + 2) + 1, (P + 2) + 2, (P + 2) + 3]) rfl)) F_23 (si hprP (fun P => [26]) (fun P => [2, 3, 4, 23, 24, 26, P, P + 1, P + 2, (P + 2) + 1, (P + 2) + 2, (P + 2) + 3]) rfl)) F_381 (si hprP (fun P => [2, 3, 4, 23, 24, 26, P, P + 1, P + 2, (P + 2) + 1, (P + 2) + 2, (P + 2) + 3]) (fun P => [2, 3, 4, 23, 24, 26, P, P + 1, P + 2, (P + 2) + 1, (P + 2) + 2, (P + 2) + 3]) rfl)) F_408 (si hprP (fun P => [P, P + 1]) (fun P => [2, 3, 4, 23, 24, 26, P, P + 1, P + 2, (P + 2) + 1, (P + 2) + 2, (P + 2) + 3]) rfl)) F_419 (si hprP (fun P => [P, P + 1]) (fun P => [2, 3, 4, 23, 24, 26, P, P + 1, P + 2, (P + 2) + 1, (P + 2) + 2, (P + 2) + 3]) rfl)), hI_420, htk_425, (by omega), (by omega), (by omega), (by omega), (fun h0 => (PXE.ex (hpx_424 h0)).e (by omega)), (((F_419.1 23 (ni hprP (fun P => 23) (fun P => [P, P + 1]) rfl) 2).trans ((F_408.1 23 (ni hprP (fun P => 23) (fun P => [P, P + 1]) rfl) 2).trans (hs_389.trans ((F_23.1 23 (by decide) 2).trans ((F_7.1 23 (by decide) 2).trans hP.symm)))))).trans hP, ((F_419.1 23 (ni hprP (fun P => 23) (fun P => [P, P + 1]) rfl) 5).trans ((F_408.1 23 (ni hprP (fun P => 23) (fun P => [P, P + 1]) rfl) 5).trans (hs_390.trans ((F_23.1 23 (by decide) 5).trans (F_7.1 23 (by decide) 5))))), ((F_419.1 23 (ni hprP (fun P => 23) (fun P => [P, P + 1]) rfl) 6).trans ((F_408.1 23 (ni hprP (fun P => 23) (fun P => [P, P + 1]) rfl) 6).trans (hs_391.trans ((F_23.1 23 (by decide) 6).trans (F_7.1 23 (by decide) 6))))), ((F_419.1 23 (ni hprP (fun P => 23) (fun P => [P, P + 1]) rfl) 7).trans ((F_408.1 23 (ni hprP (fun P => 23) (fun P => [P, P + 1]) rfl) 7).trans (hs_392.trans ((F_23.1 23 (by decide) 7).trans (F_7.1 23 (by decide) 7))))), (((F_419.1 23 (ni hprP (fun P => 23) (fun P => [P, P + 1]) rfl) 8).trans ((F_408.1 23 (ni hprP (fun P => 23) (fun P => [P, P + 1]) rfl) 8).trans (hs_393.trans ((F_23.1 23 (by decide) 8).trans ((F_7.1 23 (by decide) 8).trans htt.symm)))))).trans htt, ((F_419.1 23 (ni hprP (fun P => 23) (fun P => [P, P + 1]) rfl) 9).trans ((F_408.1 23 (ni hprP (fun P => 23) (fun P => [P, P + 1]) rfl) 9).trans (hs_394.trans ((F_23.1 23 (by decide) 9).trans (F_7.1 23 (by decide) 9))))), ((F_419.1 23 (ni hprP (fun P => 23) (fun P => [P, P + 1]) rfl) 10).trans ((F_408.1 23 (ni hprP (fun P => 23) (fun P => [P, P + 1]) rfl) 10).trans (hs_395.trans ((F_23.1 23 (by decide) 10).trans (F_7.1 23 (by decide) 10))))), ((F_419.1 26 (ni hprP (fun P => 26) (fun P => [P, P + 1]) rfl) 6).trans ((F_408.1 26 (ni hprP (fun P => 26) (fun P => [P, P + 1]) rfl) 6).trans (hs_396.trans (hs_29.trans hs_13)))), (hs_423.trans (hs_412.trans (hs_397.trans ((F_23.1 P (ni hprP (fun P => P) (fun P => [26]) rfl) 7).trans (F_7.1 P (ni hprP (fun P => P) (fun P => [26]) rfl) 7)))))⟩
      · refine lv_aload_n hx hb dX7_primary_69 rfl (lv_at hl 1 rfl) ?_
        refine lv_iconst (v := iv 3) hx hb dX7_primary_70 rfl ?_
        refine lv_iconst (v := iv 0) hx hb dX7_primary_71 rfl ?_
        refine lv_iconst (v := iv 0) hx hb dX7_primary_72 rfl ?_
        have hpx_436 : μ5.1 26 11 = 0 → PXE μ μ5 P tt 0 (-1) 1 := fun h0 => (hnil (by have h9 : μ.1 26 11 = μ.1 26 11 := rfl; have h8 : μ5.1 26 11 = μ.1 26 11 := hs_12; omega)).fr (K := [26]) (Fr.tr Fr.rf F_7 (by decide)) (npL_p (L := [26]) (by decide) hprP).1 (npL_p (L := [26]) (by decide) hprP).2.1
        have e_437 : μ5.1 23 2 = P := ((F_7.1 23 (by decide) 2).trans hP.symm)
        have e_438 : μ5.1 P 1 = μ.1 P 1 := (F_7.1 P (ni hprP (fun P => P) (fun P => [26]) rfl) 1)
        have e_439 : μ5.1 P 1 = μ.1 P 1 := (F_7.1 P (ni hprP (fun P => P) (fun P => [26]) rfl) 1)
        have e_440 : μ5.1 P 1 = μ.1 P 1 := (F_7.1 P (ni hprP (fun P => P) (fun P => [26]) rfl) 1)
        refine xc_iV G (b := 23) (rest := []) (As := [.int (iv 3), .int (iv 0), .int (iv 0)]) (c_X7_add ω l μ5 3 0 0 P (by unfold ir; omega) (by unfold ir; omega) (by unfold ir; omega) hI_8 (by omega) (by omega)) (wm 3 226 rfl rfl) (wm 3 228 rfl rfl) (wm 0 21 rfl rfl) rfl rfl (by decide) rfl (wm 1 12 rfl rfl) (wm 3 229 rfl rfl) (by decide) hR ⟨nfr hF (by decide), nlo hLo (by decide)⟩ (n := 3) rfl rfl (Nat.le_of_ble_eq_true rfl) hl.1 dX7_primary_73 (fun r_442 μ441 ρ d0 H locs hr_r_442 hp G => ?_)
        have hr_r_442 : -2147483648 ≤ r_442 ∧ r_442 ≤ 2147483647 := hr_r_442
        obtain ⟨F_443, hI_444, hp_445, hp_446, hs_447, hs_448⟩ := hp
        have hpx_449 : μ441.1 26 11 = 0 → PXE μ μ441 P tt 1 (-1) 1 := fun h0 => (PXE.app (hpx_436 (by have h9 : μ5.1 26 11 = μ.1 26 11 := hs_12; have h8 : μ441.1 26 11 = μ.1 26 11 := ((F_443.1 26 (ni hprP (fun P => 26) (fun P => [P, P + 1]) rfl) 11).trans hs_12); omega)) (EX.pl hp_446 (by omega) (by unfold plain; omega) (e := 1) rfl (by have h9 := hs_1 (μ := μ5) (P := P) (i := μ5.1 P 1); omega))).e (by omega)
        refine lv_pop hx hb dX7_primary_76 rfl ?_
        refine lv_goto (tgt := 238) hx hb dX7_primary_77 (by decide) ?_
        have htk_450 : TK μ441 := hp_9.fr (K := [P, P + 1]) (Fr.tr Fr.rf F_443 (si hprP (fun P => [P, P + 1]) (fun P => [P, P + 1]) rfl)) (ni hprP (fun P => 26) (fun P => [P, P + 1]) rfl) (ni hprP (fun P => 28) (fun P => [P, P + 1]) rfl) (ni hprP (fun P => 29) (fun P => [P, P + 1]) rfl)
        have e_451 : μ441.1 26 11 = μ.1 26 11 := ((F_443.1 26 (ni hprP (fun P => 26) (fun P => [P, P + 1]) rfl) 11).trans hs_12)
        have e_452 : μ441.1 26 11 = μ.1 26 11 := ((F_443.1 26 (ni hprP (fun P => 26) (fun P => [P, P + 1]) rfl) 11).trans hs_12)
        have e_453 : μ441.1 26 10 = μ5.1 26 10 := (F_443.1 26 (ni hprP (fun P => 26) (fun P => [P, P + 1]) rfl) 10)
        have e_454 : μ441.1 P 1 = μ5.1 P 1 + 1 := hs_447
        have e_455 : μ441.1 P 1 = μ5.1 P 1 + 1 := hs_447
        have e_456 : μ441.1 26 10 = μ5.1 26 10 := (F_443.1 26 (ni hprP (fun P => 26) (fun P => [P, P + 1]) rfl) 10)
        have e_457 : μ441.1 26 11 = μ.1 26 11 := ((F_443.1 26 (ni hprP (fun P => 26) (fun P => [P, P + 1]) rfl) 11).trans hs_12)
        have e_458 : μ441.1 (P + 2) 3 = μ.1 (P + 2) 3 := ((F_443.1 (P + 2) (ni hprP (fun P => P + 2) (fun P => [P, P + 1]) rfl) 3).trans (F_7.1 (P + 2) (ni hprP (fun P => P + 2) (fun P => [26]) rfl) 3))
        have e_459 : μ441.1 P 1 = μ5.1 P 1 + 1 := hs_447
        have e_460 : μ441.1 (P + 2) 3 = μ.1 (P + 2) 3 := ((F_443.1 (P + 2) (ni hprP (fun P => P + 2) (fun P => [P, P + 1]) rfl) 3).trans (F_7.1 (P + 2) (ni hprP (fun P => P + 2) (fun P => [26]) rfl) 3))
        exact xr_v G hret hlk dX7_primary_238 ⟨(Fr.tr (Fr.tr Fr.rf F_7 (si hprP (fun P => [26]) (fun P => [2, 3, 4, 23, 24, 26, P, P + 1, P + 2, (P + 2) + 1, (P + 2) + 2, (P + 2) + 3]) rfl)) F_443 (si hprP (fun P => [P, P + 1]) (fun P => [2, 3, 4, 23, 24, 26, P, P + 1, P + 2, (P + 2) + 1, (P + 2) + 2, (P + 2) + 3]) rfl)), hI_444, htk_450, (by omega), (by omega), (by omega), (by omega), (fun h0 => (PXE.ex (hpx_449 h0)).e (by omega)), (((F_443.1 23 (ni hprP (fun P => 23) (fun P => [P, P + 1]) rfl) 2).trans ((F_7.1 23 (by decide) 2).trans hP.symm))).trans hP, ((F_443.1 23 (ni hprP (fun P => 23) (fun P => [P, P + 1]) rfl) 5).trans (F_7.1 23 (by decide) 5)), ((F_443.1 23 (ni hprP (fun P => 23) (fun P => [P, P + 1]) rfl) 6).trans (F_7.1 23 (by decide) 6)), ((F_443.1 23 (ni hprP (fun P => 23) (fun P => [P, P + 1]) rfl) 7).trans (F_7.1 23 (by decide) 7)), (((F_443.1 23 (ni hprP (fun P => 23) (fun P => [P, P + 1]) rfl) 8).trans ((F_7.1 23 (by decide) 8).trans htt.symm))).trans htt, ((F_443.1 23 (ni hprP (fun P => 23) (fun P => [P, P + 1]) rfl) 9).trans (F_7.1 23 (by decide) 9)), ((F_443.1 23 (ni hprP (fun P => 23) (fun P => [P, P + 1]) rfl) 10).trans (F_7.1 23 (by decide) 10)), ((F_443.1 26 (ni hprP (fun P => 26) (fun P => [P, P + 1]) rfl) 6).trans hs_13), (hs_448.trans (F_7.1 P (ni hprP (fun P => P) (fun P => [26]) rfl) 7))⟩
    · have hs0_ : μ.1 26 11 = 0 := hTK.k.resolve_right (by omega)
      refine lv_aload_n hx hb dX7_primary_52 rfl (lv_at hl 1 rfl) ?_
      have e_461 : μ.1 23 2 = P := hP.symm
      have e_462 : μ.1 23 8 = tt := htt.symm
      have hn_463 : -1 ≤ μ.1 26 10 ∧ μ.1 26 10 ≤ 3000 := hI.nm.2.2.2.2.2.2.2.2.2.2.2.2
      have hk_464 := hI.row (r := P + 2) (hprP.row)
      unfold rk at hk_464
      refine xc_vV G (b := 23) (rest := []) (As := []) (c_X7_number ω l μ F Lo Fu Lu kf P tt hI (by omega) (by omega) hF hLo hFu hLu hE hU hTK (by omega) (by omega) (by omega) (by omega) (by omega) (by omega)) (wm 4 96 rfl rfl) (wm 4 98 rfl rfl) (wm 0 40 rfl rfl) rfl rfl (by decide) rfl (wm 1 12 rfl rfl) (wm 4 99 rfl rfl) (by decide) hR ⟨sfr (F := F) (a := 0) (by decide), slo (L := Lo) (m := 6) (a := 0) (by decide)⟩ (n := 0) rfl rfl (Nat.le_of_ble_eq_true rfl) hl.1 dX7_primary_53 (fun μ465 ρ d0 H locs hp G => ?_)
      obtain ⟨F_466, hI_467, hp_468, hp_469, hp_470, hp_471, hp_472, hp_473, hs_474, hs_475, hs_476, hs_477, hs_478, hs_479, hs_480, hs_481, hs_482⟩ := hp
      have hn_483 : -1 ≤ μ465.1 26 10 ∧ μ465.1 26 10 ≤ 3000 := hI_467.nm.2.2.2.2.2.2.2.2.2.2.2.2
      have hk_484 := hI_467.pr (p := P) hprP
      unfold pk at hk_484
      have hc_485 : 16 ≤ μ465.2.1 (P + 1) ∧ μ465.2.1 (P + 1) ≤ 73024 := hI_467.rm.1 _ hprP.cap
      have hk_486 := hI_467.row (r := P + 2) (hprP.row)
      unfold rk at hk_486
      have htb_487 := hp_468.b
      have hpx_488 : μ465.1 26 11 = 0 → PXE μ μ465 P tt 1 (-1) 1 := fun h0 => (PXE.app (hnil (by have h9 : μ.1 26 11 = μ.1 26 11 := rfl; have h8 : μ465.1 26 11 = μ465.1 26 11 := rfl; omega)) (hp_473 h0)).e (by omega)
      refine lv_goto (tgt := 238) hx hb dX7_primary_56 (by decide) ?_
      exact xr_v G hret hlk dX7_primary_238 ⟨(Fr.tr Fr.rf F_466 (si hprP (fun P => [2, 3, 4, 23, 24, 26, P, P + 1, P + 2, (P + 2) + 1, (P + 2) + 2, (P + 2) + 3]) (fun P => [2, 3, 4, 23, 24, 26, P, P + 1, P + 2, (P + 2) + 1, (P + 2) + 2, (P + 2) + 3]) rfl)), hI_467, hp_468, (by omega), (by omega), (by omega), (by omega), (fun h0 => (PXE.ex (hpx_488 h0)).e (by omega)), ((hs_474.trans hP.symm)).trans hP, hs_475, hs_476, hs_477, ((hs_478.trans htt.symm)).trans htt, hs_479, hs_480, hs_481, hs_482⟩
  · refine lv_aload_n hx hb dX7_primary_13 rfl (lv_at hl 1 rfl) ?_
    refine xa_getr G fd_X7 (a := 23) (x := 26) 0 rfl (by decide) rfl (wm 2 17 rfl rfl) ⟨rfl, rfl, rfl⟩ dX7_primary_14 rfl (G.sk 23 rfl) (by decide) rfl ?_
    refine xa_getN G fd_X10 (host := "FourTongues") (a := 26) 14 rfl (by decide) (by decide) ⟨rfl, rfl, rfl⟩ dX7_primary_17 rfl (v := .long (jv (μ.1 26 14))) (by rw [show μ.1 26 14 = μ.1 26 14 from rfl]; rfl) ?_
    have hj_489 : jr (μ.1 26 14) := by have h9 := G.hj (a := 26) (k := 14) rfl; exact h9
    refine lv_lstore_n (lv' := [(2, .long (jv (μ.1 26 14))), (1, .int (iv (μ.1 26 12))), (0, .ref (oP ω 23))]) hx hb dX7_primary_20 rfl hl (by decide) rfl (fun ls hl => ?_)
    refine lv_aload_n hx hb dX7_primary_21 rfl (lv_at hl 2 rfl) ?_
    refine xa_getr G fd_X7 (a := 23) (x := 26) 0 rfl (by decide) rfl (wm 2 17 rfl rfl) ⟨rfl, rfl, rfl⟩ dX7_primary_22 rfl (G.sk 23 rfl) (by decide) rfl ?_
    refine xa_getN G fd_X10 (host := "FourTongues") (a := 26) 13 rfl (by decide) (by decide) ⟨rfl, rfl, rfl⟩ dX7_primary_25 rfl (v := .int (iv (μ.1 26 13))) (by rw [show μ.1 26 13 = μ.1 26 13 from rfl]; rfl) ?_
    have hr_490 : -2147483648 ≤ μ.1 26 13 ∧ μ.1 26 13 ≤ 2147483647 := by have h9 := G.hr (a := 26) (k := 13) rfl; exact h9
    refine lv_istore (lv' := [(4, .int (iv (μ.1 26 13))), (2, .long (jv (μ.1 26 14))), (1, .int (iv (μ.1 26 12))), (0, .ref (oP ω 23))]) hx hb dX7_primary_28 hl (by decide) rfl (fun ls hl => ?_)
    refine lv_aload_n hx hb dX7_primary_30 rfl (lv_at hl 3 rfl) ?_
    refine xa_getr G fd_X7 (a := 23) (x := 26) 0 rfl (by decide) rfl (wm 2 17 rfl rfl) ⟨rfl, rfl, rfl⟩ dX7_primary_31 rfl (G.sk 23 rfl) (by decide) rfl ?_
    have hn_491 : 0 ≤ μ.1 26 6 ∧ μ.1 26 6 ≤ 3001 := hI.nm.2.2.2.2.2.2.2.2.2.1
    have hn_492 : -1 ≤ μ.1 26 10 ∧ μ.1 26 10 ≤ 3000 := hI.nm.2.2.2.2.2.2.2.2.2.2.2.2
    refine xc_vV G (b := 26) (rest := []) (As := []) (c_X10_next ω l μ  hI (by omega) (by omega)) (wm 3 164 rfl rfl) (wm 3 157 rfl rfl) (wm 3 158 rfl rfl) rfl rfl (by decide) rfl (wm 1 13 rfl rfl) (wm 3 159 rfl rfl) (by decide) hR ⟨nfr hF (by decide), nlo hLo (by decide)⟩ (n := 0) rfl rfl (Nat.le_of_ble_eq_true rfl) hl.1 dX7_primary_34 (fun μ493 ρ d0 H locs hp G => ?_)
    obtain ⟨F_494, hI_495, hp_496, hp_497, hs_498, hs_499, hs_500, hs_501, hs_502⟩ := hp
    have hn_503 : -1 ≤ μ493.1 26 10 ∧ μ493.1 26 10 ≤ 3000 := hI_495.nm.2.2.2.2.2.2.2.2.2.2.2.2
    obtain ⟨htk_504, htk_504_s, htk_504_n⟩ := TK.nx hTK F_494 hs_499 hs_498 (by have h9 : μ.1 26 12 = μ.1 26 12 := rfl; omega) hp_496 hp_497
    clear hp_496 hp_497
    have htb_505 := htk_504.b
    refine lv_aload_n hx hb dX7_primary_37 rfl (lv_at hl 3 rfl) ?_
    refine lv_lload_n hx hb dX7_primary_38 rfl (lv_at hl 1 rfl) ?_
    refine lv_iload hx hb dX7_primary_39 (lv_at hl 0 rfl) ?_
    have hpx_506 : μ493.1 26 11 = 0 → PXE μ μ493 P tt 0 (-1) 1 := fun h0 => (hnil (by have h9 : μ.1 26 11 = μ.1 26 11 := rfl; have h8 : μ493.1 26 11 = μ.1 26 11 := hs_498; omega)).fr (K := [26]) (Fr.tr Fr.rf F_494 (by decide)) (npL_p (L := [26]) (by decide) hprP).1 (npL_p (L := [26]) (by decide) hprP).2.1
    have e_507 : μ493.1 23 2 = P := ((F_494.1 23 (by decide) 2).trans hP.symm)
    have e_508 : μ493.1 23 8 = tt := ((F_494.1 23 (by decide) 8).trans htt.symm)
    have e_509 : μ493.1 P 1 = μ.1 P 1 := (F_494.1 P (ni hprP (fun P => P) (fun P => [26]) rfl) 1)
    have e_510 : μ493.1 26 11 = μ.1 26 11 := hs_498
    have hk_511 := hI.row (r := P + 2) (hprP.row)
    unfold rk at hk_511
    have e_512 : μ493.1 (P + 2) 3 = μ.1 (P + 2) 3 := (F_494.1 (P + 2) (ni hprP (fun P => P + 2) (fun P => [26]) rfl) 3)
    have e_513 : μ493.1 P 1 = μ.1 P 1 := (F_494.1 P (ni hprP (fun P => P) (fun P => [26]) rfl) 1)
    have e_514 : μ493.1 23 9 = μ.1 23 9 := (F_494.1 23 (by decide) 9)
    have e_515 : μ493.1 23 9 = μ.1 23 9 := (F_494.1 23 (by decide) 9)
    have e_516 : μ493.1 23 9 = μ.1 23 9 := (F_494.1 23 (by decide) 9)
    have e_517 : μ493.1 26 11 = μ.1 26 11 := hs_498
    have e_518 : μ493.1 26 11 = μ.1 26 11 := hs_498
    have e_519 : μ493.1 P 1 = μ.1 P 1 := (F_494.1 P (ni hprP (fun P => P) (fun P => [26]) rfl) 1)
    have e_520 : μ493.1 P 1 = μ.1 P 1 := (F_494.1 P (ni hprP (fun P => P) (fun P => [26]) rfl) 1)
    have e_521 : μ493.1 (P + 2) 3 = μ.1 (P + 2) 3 := (F_494.1 (P + 2) (ni hprP (fun P => P + 2) (fun P => [26]) rfl) 3)
    have e_522 : μ493.1 P 1 = μ.1 P 1 := (F_494.1 P (ni hprP (fun P => P) (fun P => [26]) rfl) 1)
    have e_523 : μ493.1 (P + 2) 3 = μ.1 (P + 2) 3 := (F_494.1 (P + 2) (ni hprP (fun P => P + 2) (fun P => [26]) rfl) 3)
    refine xc_vV G (b := 23) (rest := []) (As := [.long (jv (μ.1 26 14)), .int (iv (μ.1 26 13))]) (c_X7_afterName ω l μ493 (μ.1 26 14) (μ.1 26 13) F Lo Fu Lu kf P tt hj_489 (by unfold ir; omega) hI_495 (by omega) (by omega) hF hLo hFu hLu hE hU htk_504 (by omega) (by omega) (by omega) (by omega) (by omega) (by omega)) (wm 4 59 rfl rfl) (wm 4 61 rfl rfl) (wm 0 35 rfl rfl) rfl rfl (by decide) rfl (wm 1 12 rfl rfl) (wm 4 62 rfl rfl) (by decide) hR ⟨sfr (F := F) (a := 3) (by decide), slo (L := Lo) (m := 5) (a := 66) (by decide)⟩ (n := 2) rfl rfl (Nat.le_of_ble_eq_true rfl) hl.1 dX7_primary_41 (fun μ524 ρ d0 H locs hp G => ?_)
    obtain ⟨F_525, hI_526, hp_527, hp_528, hp_529, hp_530, hp_531, hp_532, hs_533, hs_534, hs_535, hs_536, hs_537, hs_538, hs_539, hs_540, hs_541⟩ := hp
    have hn_542 : -1 ≤ μ524.1 26 10 ∧ μ524.1 26 10 ≤ 3000 := hI_526.nm.2.2.2.2.2.2.2.2.2.2.2.2
    have hk_543 := hI_526.pr (p := P) hprP
    unfold pk at hk_543
    have hc_544 : 16 ≤ μ524.2.1 (P + 1) ∧ μ524.2.1 (P + 1) ≤ 73024 := hI_526.rm.1 _ hprP.cap
    have hk_545 := hI_526.row (r := P + 2) (hprP.row)
    unfold rk at hk_545
    have htb_546 := hp_527.b
    have hpx_547 : μ524.1 26 11 = 0 → PXE μ μ524 P tt 1 (-1) 1 := fun h0 => (PXE.app (hpx_506 (by have h9 : μ493.1 26 11 = μ.1 26 11 := hs_498; have h8 : μ524.1 26 11 = μ524.1 26 11 := rfl; omega)) (hp_532 h0)).e (by omega)
    refine lv_goto (tgt := 238) hx hb dX7_primary_44 (by decide) ?_
    exact xr_v G hret hlk dX7_primary_238 ⟨(Fr.tr (Fr.tr Fr.rf F_494 (si hprP (fun P => [26]) (fun P => [2, 3, 4, 23, 24, 26, P, P + 1, P + 2, (P + 2) + 1, (P + 2) + 2, (P + 2) + 3]) rfl)) F_525 (si hprP (fun P => [2, 3, 4, 23, 24, 26, P, P + 1, P + 2, (P + 2) + 1, (P + 2) + 2, (P + 2) + 3]) (fun P => [2, 3, 4, 23, 24, 26, P, P + 1, P + 2, (P + 2) + 1, (P + 2) + 2, (P + 2) + 3]) rfl)), hI_526, hp_527, (by omega), (by omega), (by omega), (by omega), (fun h0 => (PXE.ex (hpx_547 h0)).e (by omega)), ((hs_533.trans ((F_494.1 23 (by decide) 2).trans hP.symm))).trans hP, (hs_534.trans (F_494.1 23 (by decide) 5)), (hs_535.trans (F_494.1 23 (by decide) 6)), (hs_536.trans (F_494.1 23 (by decide) 7)), ((hs_537.trans ((F_494.1 23 (by decide) 8).trans htt.symm))).trans htt, (hs_538.trans (F_494.1 23 (by decide) 9)), (hs_539.trans (F_494.1 23 (by decide) 10)), (hs_540.trans hs_499), (hs_541.trans (F_494.1 P (ni hprP (fun P => P) (fun P => [26]) rfl) 7))⟩
