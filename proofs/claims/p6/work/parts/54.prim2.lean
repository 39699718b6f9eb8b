abbrev cX7_primary : ByteArray := prog_9_method_46_code
def yX7_primary : MethodName := ⟨RX7, "primary", "()V"⟩
theorem dX7_primary_0 : decode cX7_primary 0 = .ok (.aload_n 0, 1) := by decide +kernel
theorem dX7_primary_1 : decode cX7_primary 1 = .ok (.getfield 43, 3) := by decide +kernel
theorem dX7_primary_4 : decode cX7_primary 4 = .ok (.getfield 80, 3) := by decide +kernel
theorem dX7_primary_7 : decode cX7_primary 7 = .ok (.istore_n 1, 1) := by decide +kernel
theorem dX7_primary_8 : decode cX7_primary 8 = .ok (.iload_n 1, 1) := by decide +kernel
theorem dX7_primary_9 : decode cX7_primary 9 = .ok (.iconst 1, 1) := by decide +kernel
theorem dX7_primary_10 : decode cX7_primary 10 = .ok (.if_icmp .ne 37, 3) := by decide +kernel
theorem dX7_primary_13 : decode cX7_primary 13 = .ok (.aload_n 0, 1) := by decide +kernel
theorem dX7_primary_14 : decode cX7_primary 14 = .ok (.getfield 43, 3) := by decide +kernel
theorem dX7_primary_17 : decode cX7_primary 17 = .ok (.getfield 133, 3) := by decide +kernel
theorem dX7_primary_20 : decode cX7_primary 20 = .ok (.lstore_n 2, 1) := by decide +kernel
theorem dX7_primary_21 : decode cX7_primary 21 = .ok (.aload_n 0, 1) := by decide +kernel
theorem dX7_primary_22 : decode cX7_primary 22 = .ok (.getfield 43, 3) := by decide +kernel
theorem dX7_primary_25 : decode cX7_primary 25 = .ok (.getfield 96, 3) := by decide +kernel
theorem dX7_primary_28 : decode cX7_primary 28 = .ok (.istore 4, 2) := by decide +kernel
theorem dX7_primary_30 : decode cX7_primary 30 = .ok (.aload_n 0, 1) := by decide +kernel
theorem dX7_primary_31 : decode cX7_primary 31 = .ok (.getfield 43, 3) := by decide +kernel
theorem dX7_primary_34 : decode cX7_primary 34 = .ok (.invokevirtual 97, 3) := by decide +kernel
theorem dX7_primary_37 : decode cX7_primary 37 = .ok (.aload_n 0, 1) := by decide +kernel
theorem dX7_primary_38 : decode cX7_primary 38 = .ok (.lload_n 2, 1) := by decide +kernel
theorem dX7_primary_39 : decode cX7_primary 39 = .ok (.iload 4, 2) := by decide +kernel
theorem dX7_primary_41 : decode cX7_primary 41 = .ok (.invokevirtual 234, 3) := by decide +kernel
theorem dX7_primary_44 : decode cX7_primary 44 = .ok (.goto 194, 3) := by decide +kernel
theorem dX7_primary_47 : decode cX7_primary 47 = .ok (.iload_n 1, 1) := by decide +kernel
theorem dX7_primary_48 : decode cX7_primary 48 = .ok (.iconst 2, 1) := by decide +kernel
theorem dX7_primary_49 : decode cX7_primary 49 = .ok (.if_icmp .ne 10, 3) := by decide +kernel
theorem dX7_primary_52 : decode cX7_primary 52 = .ok (.aload_n 0, 1) := by decide +kernel
theorem dX7_primary_53 : decode cX7_primary 53 = .ok (.invokevirtual 285, 3) := by decide +kernel
theorem dX7_primary_56 : decode cX7_primary 56 = .ok (.goto 182, 3) := by decide +kernel
theorem dX7_primary_59 : decode cX7_primary 59 = .ok (.aload_n 0, 1) := by decide +kernel
theorem dX7_primary_60 : decode cX7_primary 60 = .ok (.sipush 223, 3) := by decide +kernel
theorem dX7_primary_63 : decode cX7_primary 63 = .ok (.invokevirtual 83, 3) := by decide +kernel
theorem dX7_primary_66 : decode cX7_primary 66 = .ok (.ifCond .eq 14, 3) := by decide +kernel
theorem dX7_primary_69 : decode cX7_primary 69 = .ok (.aload_n 0, 1) := by decide +kernel
theorem dX7_primary_70 : decode cX7_primary 70 = .ok (.iconst 3, 1) := by decide +kernel
theorem dX7_primary_71 : decode cX7_primary 71 = .ok (.iconst 0, 1) := by decide +kernel
theorem dX7_primary_72 : decode cX7_primary 72 = .ok (.iconst 0, 1) := by decide +kernel
theorem dX7_primary_73 : decode cX7_primary 73 = .ok (.invokevirtual 157, 3) := by decide +kernel
theorem dX7_primary_76 : decode cX7_primary 76 = .ok (.pop, 1) := by decide +kernel
theorem dX7_primary_77 : decode cX7_primary 77 = .ok (.goto 161, 3) := by decide +kernel
theorem dX7_primary_80 : decode cX7_primary 80 = .ok (.aload_n 0, 1) := by decide +kernel
theorem dX7_primary_81 : decode cX7_primary 81 = .ok (.sipush 224, 3) := by decide +kernel
theorem dX7_primary_84 : decode cX7_primary 84 = .ok (.invokevirtual 83, 3) := by decide +kernel
theorem dX7_primary_87 : decode cX7_primary 87 = .ok (.ifCond .eq 28, 3) := by decide +kernel
theorem dX7_primary_90 : decode cX7_primary 90 = .ok (.aload_n 0, 1) := by decide +kernel
theorem dX7_primary_91 : decode cX7_primary 91 = .ok (.bipush 91, 2) := by decide +kernel
theorem dX7_primary_93 : decode cX7_primary 93 = .ok (.bipush 93, 2) := by decide +kernel
theorem dX7_primary_95 : decode cX7_primary 95 = .ok (.invokevirtual 288, 3) := by decide +kernel
theorem dX7_primary_98 : decode cX7_primary 98 = .ok (.aload_n 0, 1) := by decide +kernel
theorem dX7_primary_99 : decode cX7_primary 99 = .ok (.bipush 9, 2) := by decide +kernel
theorem dX7_primary_101 : decode cX7_primary 101 = .ok (.iconst 0, 1) := by decide +kernel
theorem dX7_primary_102 : decode cX7_primary 102 = .ok (.iconst 0, 1) := by decide +kernel
theorem dX7_primary_103 : decode cX7_primary 103 = .ok (.aload_n 0, 1) := by decide +kernel
theorem dX7_primary_104 : decode cX7_primary 104 = .ok (.iconst (-1), 1) := by decide +kernel
theorem dX7_primary_105 : decode cX7_primary 105 = .ok (.iconst 0, 1) := by decide +kernel
theorem dX7_primary_106 : decode cX7_primary 106 = .ok (.invokevirtual 273, 3) := by decide +kernel
theorem dX7_primary_109 : decode cX7_primary 109 = .ok (.invokevirtual 230, 3) := by decide +kernel
theorem dX7_primary_112 : decode cX7_primary 112 = .ok (.goto 126, 3) := by decide +kernel
theorem dX7_primary_115 : decode cX7_primary 115 = .ok (.aload_n 0, 1) := by decide +kernel
theorem dX7_primary_116 : decode cX7_primary 116 = .ok (.sipush 225, 3) := by decide +kernel
theorem dX7_primary_119 : decode cX7_primary 119 = .ok (.invokevirtual 83, 3) := by decide +kernel
theorem dX7_primary_122 : decode cX7_primary 122 = .ok (.ifCond .eq 28, 3) := by decide +kernel
theorem dX7_primary_125 : decode cX7_primary 125 = .ok (.aload_n 0, 1) := by decide +kernel
theorem dX7_primary_126 : decode cX7_primary 126 = .ok (.bipush 40, 2) := by decide +kernel
theorem dX7_primary_128 : decode cX7_primary 128 = .ok (.bipush 41, 2) := by decide +kernel
theorem dX7_primary_130 : decode cX7_primary 130 = .ok (.invokevirtual 288, 3) := by decide +kernel
theorem dX7_primary_133 : decode cX7_primary 133 = .ok (.aload_n 0, 1) := by decide +kernel
theorem dX7_primary_134 : decode cX7_primary 134 = .ok (.bipush 10, 2) := by decide +kernel
theorem dX7_primary_136 : decode cX7_primary 136 = .ok (.iconst 0, 1) := by decide +kernel
theorem dX7_primary_137 : decode cX7_primary 137 = .ok (.iconst 0, 1) := by decide +kernel
theorem dX7_primary_138 : decode cX7_primary 138 = .ok (.aload_n 0, 1) := by decide +kernel
theorem dX7_primary_139 : decode cX7_primary 139 = .ok (.iconst (-1), 1) := by decide +kernel
theorem dX7_primary_140 : decode cX7_primary 140 = .ok (.iconst 0, 1) := by decide +kernel
theorem dX7_primary_141 : decode cX7_primary 141 = .ok (.invokevirtual 273, 3) := by decide +kernel
theorem dX7_primary_144 : decode cX7_primary 144 = .ok (.invokevirtual 230, 3) := by decide +kernel
theorem dX7_primary_147 : decode cX7_primary 147 = .ok (.goto 91, 3) := by decide +kernel
theorem dX7_primary_150 : decode cX7_primary 150 = .ok (.iload_n 1, 1) := by decide +kernel
theorem dX7_primary_151 : decode cX7_primary 151 = .ok (.bipush 40, 2) := by decide +kernel
theorem dX7_primary_153 : decode cX7_primary 153 = .ok (.if_icmp .ne 14, 3) := by decide +kernel
theorem dX7_primary_156 : decode cX7_primary 156 = .ok (.aload_n 0, 1) := by decide +kernel
theorem dX7_primary_157 : decode cX7_primary 157 = .ok (.bipush 40, 2) := by decide +kernel
theorem dX7_primary_159 : decode cX7_primary 159 = .ok (.bipush 41, 2) := by decide +kernel
theorem dX7_primary_161 : decode cX7_primary 161 = .ok (.invokevirtual 288, 3) := by decide +kernel
theorem dX7_primary_164 : decode cX7_primary 164 = .ok (.goto 74, 3) := by decide +kernel
theorem dX7_primary_167 : decode cX7_primary 167 = .ok (.aload_n 0, 1) := by decide +kernel
theorem dX7_primary_168 : decode cX7_primary 168 = .ok (.bipush 38, 2) := by decide +kernel
theorem dX7_primary_170 : decode cX7_primary 170 = .ok (.invokevirtual 83, 3) := by decide +kernel
theorem dX7_primary_173 : decode cX7_primary 173 = .ok (.ifCond .eq 10, 3) := by decide +kernel
theorem dX7_primary_176 : decode cX7_primary 176 = .ok (.aload_n 0, 1) := by decide +kernel
theorem dX7_primary_177 : decode cX7_primary 177 = .ok (.invokevirtual 291, 3) := by decide +kernel
theorem dX7_primary_180 : decode cX7_primary 180 = .ok (.goto 58, 3) := by decide +kernel
theorem dX7_primary_183 : decode cX7_primary 183 = .ok (.aload_n 0, 1) := by decide +kernel
theorem dX7_primary_184 : decode cX7_primary 184 = .ok (.invokevirtual 294, 3) := by decide +kernel
theorem dX7_primary_187 : decode cX7_primary 187 = .ok (.ifCond .eq 47, 3) := by decide +kernel
theorem dX7_primary_190 : decode cX7_primary 190 = .ok (.iload_n 1, 1) := by decide +kernel
theorem dX7_primary_191 : decode cX7_primary 191 = .ok (.sipush 229, 3) := by decide +kernel
theorem dX7_primary_194 : decode cX7_primary 194 = .ok (.isub, 1) := by decide +kernel
theorem dX7_primary_195 : decode cX7_primary 195 = .ok (.istore_n 2, 1) := by decide +kernel
theorem dX7_primary_196 : decode cX7_primary 196 = .ok (.aload_n 0, 1) := by decide +kernel
theorem dX7_primary_197 : decode cX7_primary 197 = .ok (.getfield 43, 3) := by decide +kernel
theorem dX7_primary_200 : decode cX7_primary 200 = .ok (.invokevirtual 97, 3) := by decide +kernel
theorem dX7_primary_203 : decode cX7_primary 203 = .ok (.aload_n 0, 1) := by decide +kernel
theorem dX7_primary_204 : decode cX7_primary 204 = .ok (.bipush 46, 2) := by decide +kernel
theorem dX7_primary_206 : decode cX7_primary 206 = .ok (.invokevirtual 100, 3) := by decide +kernel
theorem dX7_primary_209 : decode cX7_primary 209 = .ok (.aload_n 0, 1) := by decide +kernel
theorem dX7_primary_210 : decode cX7_primary 210 = .ok (.getfield 43, 3) := by decide +kernel
theorem dX7_primary_213 : decode cX7_primary 213 = .ok (.getfield 133, 3) := by decide +kernel
theorem dX7_primary_216 : decode cX7_primary 216 = .ok (.lstore_n 3, 1) := by decide +kernel
theorem dX7_primary_217 : decode cX7_primary 217 = .ok (.aload_n 0, 1) := by decide +kernel
theorem dX7_primary_218 : decode cX7_primary 218 = .ok (.iconst 1, 1) := by decide +kernel
theorem dX7_primary_219 : decode cX7_primary 219 = .ok (.invokevirtual 100, 3) := by decide +kernel
theorem dX7_primary_222 : decode cX7_primary 222 = .ok (.aload_n 0, 1) := by decide +kernel
theorem dX7_primary_223 : decode cX7_primary 223 = .ok (.bipush 13, 2) := by decide +kernel
theorem dX7_primary_225 : decode cX7_primary 225 = .ok (.iload_n 2, 1) := by decide +kernel
theorem dX7_primary_226 : decode cX7_primary 226 = .ok (.lload_n 3, 1) := by decide +kernel
theorem dX7_primary_227 : decode cX7_primary 227 = .ok (.iconst (-1), 1) := by decide +kernel
theorem dX7_primary_228 : decode cX7_primary 228 = .ok (.invokevirtual 297, 3) := by decide +kernel
theorem dX7_primary_231 : decode cX7_primary 231 = .ok (.goto 7, 3) := by decide +kernel
theorem dX7_primary_234 : decode cX7_primary 234 = .ok (.aload_n 0, 1) := by decide +kernel
theorem dX7_primary_235 : decode cX7_primary 235 = .ok (.invokevirtual 301, 3) := by decide +kernel
theorem dX7_primary_238 : decode cX7_primary 238 = .ok (.return_, 1) := by decide +kernel
set_option maxHeartbeats 4000000 in
set_option maxRecDepth 100000 in
theorem c_X7_primary (ω : Om) (l : Launch) (μ : M3) (F : Nat) (Lo : Nat) (Fu : Nat) (Lu : Nat) (kf : Int) (P : Int) (tt : Int) (hI : IC μ) (hP : P = μ.1 23 2) (htt : tt = μ.1 23 8) (hF : 60 ≤ F) (hLo : 2000 ≤ Lo) (hFu : Fu ≤ F) (hLu : Lu ≤ Lo) (hE : ∀ (μ : M3) (x1 : Int) (P : Int) (tt : Int) (hx1 : x1 = 0 ∨ x1 = 1) (hI : IC μ) (hP : P = μ.1 23 2) (htt : tt = μ.1 23 8) (hTK : TK μ) (hB : 2 * μ.1 P 1 ≤ 5 * μ.1 26 10 + 200 + 80 * μ.1 26 11) (hKc : μ.1 (P + 2) 3 ≤ μ.1 P 1) (ht3 : 0 ≤ tt ∧ tt ≤ 3) (hdp : 0 ≤ μ.1 23 9 ∧ μ.1 23 9 ≤ 8 + μ.1 26 11) (hfu : 0 ≤ (kf - 1) ∧ 9 ≤ μ.1 23 9 + (kf - 1) + 20 * μ.1 26 11) (hbg : ∀ _ : Unit, x1 = 0 ∨ μ.1 26 11 ≠ 0 ∨ 2 ≤ hs μ P (μ.1 P 1)), CtV ω l yX7_expression cX7_expression 3 (F + 0) (Lo + 0) [.ref (oP ω 23), .int (iv x1)] μ (fun (μ' : M3) => (Fr [2, 3, 4, 23, 24, 26, P, P + 1, P + 2, (P + 2) + 1, (P + 2) + 2, (P + 2) + 3] μ μ') ∧ (IC μ') ∧ (TK μ') ∧ (μ.1 26 11 ≤ μ'.1 26 11) ∧ (μ.1 26 10 ≤ μ'.1 26 10) ∧ (μ.1 P 1 ≤ μ'.1 P 1 ∧ μ'.1 P 1 ≤ μ.1 P 1 + 2 * (μ'.1 26 10 - μ.1 26 10) + (- 1 + 3 * μ'.1 26 11 - 2 * μ.1 26 11 + x1)) ∧ (μ'.1 (P + 2) 3 - μ.1 (P + 2) 3 ≤ μ'.1 P 1 - μ.1 P 1 ∧ μ.1 (P + 2) 3 ≤ μ'.1 (P + 2) 3) ∧ (μ'.1 26 11 = 0 → EX μ μ' P tt (1 - x1) 0) ∧ (μ'.1 23 2 = μ.1 23 2) ∧ (μ'.1 23 5 = μ.1 23 5) ∧ (μ'.1 23 6 = μ.1 23 6) ∧ (μ'.1 23 7 = μ.1 23 7) ∧ (μ'.1 23 8 = μ.1 23 8) ∧ (μ'.1 23 9 = μ.1 23 9) ∧ (μ'.1 23 10 = μ.1 23 10) ∧ (μ'.1 26 6 = μ.1 26 6) ∧ (μ'.1 P 7 = μ.1 P 7))) (hU : ∀ (μ : M3) (x1 : Int) (P : Int) (tt : Int) (hx1 : x1 = 0 ∨ x1 = 1) (hI : IC μ) (hP : P = μ.1 23 2) (htt : tt = μ.1 23 8) (hTK : TK μ) (hB : 2 * μ.1 P 1 ≤ 5 * μ.1 26 10 + 200 + 80 * μ.1 26 11) (hKc : μ.1 (P + 2) 3 ≤ μ.1 P 1) (ht3 : 0 ≤ tt ∧ tt ≤ 3) (hdp : 0 ≤ μ.1 23 9 ∧ μ.1 23 9 ≤ 8 + μ.1 26 11) (hfu : 0 ≤ (kf - 1) ∧ 9 ≤ μ.1 23 9 + (kf - 1) + 20 * μ.1 26 11) (hbg : ∀ _ : Unit, x1 = 0 ∨ μ.1 26 11 ≠ 0 ∨ 2 ≤ hs μ P (μ.1 P 1)), CtV ω l yX7_unary cX7_unary 2 (Fu + 0) (Lu + 0) [.ref (oP ω 23), .int (iv x1)] μ (fun (μ' : M3) => (Fr [2, 3, 4, 23, 24, 26, P, P + 1, P + 2, (P + 2) + 1, (P + 2) + 2, (P + 2) + 3] μ μ') ∧ (IC μ') ∧ (TK μ') ∧ (μ.1 26 11 ≤ μ'.1 26 11) ∧ (μ.1 26 10 ≤ μ'.1 26 10) ∧ (μ.1 P 1 ≤ μ'.1 P 1 ∧ μ'.1 P 1 ≤ μ.1 P 1 + 2 * (μ'.1 26 10 - μ.1 26 10) + (- 1 + 3 * μ'.1 26 11 - 2 * μ.1 26 11 + x1)) ∧ (μ'.1 (P + 2) 3 - μ.1 (P + 2) 3 ≤ μ'.1 P 1 - μ.1 P 1 ∧ μ.1 (P + 2) 3 ≤ μ'.1 (P + 2) 3) ∧ (μ'.1 26 11 = 0 → EX μ μ' P tt (1 - x1) 0) ∧ (μ'.1 23 2 = μ.1 23 2) ∧ (μ'.1 23 5 = μ.1 23 5) ∧ (μ'.1 23 6 = μ.1 23 6) ∧ (μ'.1 23 7 = μ.1 23 7) ∧ (μ'.1 23 8 = μ.1 23 8) ∧ (μ'.1 23 9 = μ.1 23 9) ∧ (μ'.1 23 10 = μ.1 23 10) ∧ (μ'.1 26 6 = μ.1 26 6) ∧ (μ'.1 P 7 = μ.1 P 7))) (hTK : TK μ) (hB : 2 * μ.1 P 1 ≤ 5 * μ.1 26 10 + 200 + 80 * μ.1 26 11) (hKc : μ.1 (P + 2) 3 ≤ μ.1 P 1) (ht3 : 0 ≤ tt ∧ tt ≤ 3) (hdp : 0 ≤ μ.1 23 9 ∧ μ.1 23 9 ≤ 8 + μ.1 26 11) (hfu : 0 ≤ kf ∧ 9 ≤ μ.1 23 9 + kf + 20 * μ.1 26 11) : CtV ω l yX7_primary cX7_primary 5 (F + 4) (Lo + 90) [.ref (oP ω 23)] μ (fun (μ' : M3) => (Fr [2, 3, 4, 23, 24, 26, P, P + 1, P + 2, (P + 2) + 1, (P + 2) + 2, (P + 2) + 3] μ μ') ∧ (IC μ') ∧ (TK μ') ∧ (μ.1 26 11 ≤ μ'.1 26 11) ∧ (μ.1 26 10 ≤ μ'.1 26 10) ∧ (μ.1 P 1 ≤ μ'.1 P 1 ∧ μ'.1 P 1 ≤ μ.1 P 1 + 2 * (μ'.1 26 10 - μ.1 26 10) + (- 1 + 3 * μ'.1 26 11 - 2 * μ.1 26 11)) ∧ (μ'.1 (P + 2) 3 - μ.1 (P + 2) 3 ≤ μ'.1 P 1 - μ.1 P 1 ∧ μ.1 (P + 2) 3 ≤ μ'.1 (P + 2) 3) ∧ (μ'.1 26 11 = 0 → EX μ μ' P tt 1 0) ∧ (μ'.1 23 2 = μ.1 23 2) ∧ (μ'.1 23 5 = μ.1 23 5) ∧ (μ'.1 23 6 = μ.1 23 6) ∧ (μ'.1 23 7 = μ.1 23 7) ∧ (μ'.1 23 8 = μ.1 23 8) ∧ (μ'.1 23 9 = μ.1 23 9) ∧ (μ'.1 23 10 = μ.1 23 10) ∧ (μ'.1 26 6 = μ.1 26 6) ∧ (μ'.1 P 7 = μ.1 P 7)) := by
  refine CtV.go (by decide) (Nat.le_of_ble_eq_true rfl) (fun ρ p e s m below meth c R ls G hR hret hlk hl => ?_)
  have hx := G.1.1
  have hb := G.1.2.1
  have hl : lv_has ls 5 [(0, .ref (oP ω 23))] := hl
  generalize s.drawn = d0 at G ⊢
  have hTKb := hTK.b
  have hprP : isPr P := by have h9 := G.sr0.2.2.2.2.2; rw [← hP] at h9; exact h9
  have hprP_d : 13 ≤ P ∧ P ≤ 101 := by rcases hprP with h9 | h9 | h9 | h9 | h9 <;> omega
  have hk_1 := hI.pr (p := P) hprP
  unfold pk at hk_1
  have hc_2 : 16 ≤ μ.2.1 (P + 1) ∧ μ.2.1 (P + 1) ≤ 73024 := hI.rm.1 _ hprP.cap
  have hnil : μ.1 26 11 = 0 → PXE μ μ P tt 0 (-1) 1 := fun _ => PXE.nil (by omega)
  refine lv_aload_n hx hb dX7_primary_0 rfl (lv_at hl 0 rfl) ?_
  refine xa_getr G fd_X7 (a := 23) (x := 26) 0 rfl (by decide) rfl (wm 2 17 rfl rfl) ⟨rfl, rfl, rfl⟩ dX7_primary_1 rfl (G.sk 23 rfl) (by decide) rfl ?_
  refine xa_getN G fd_X10 (host := "FourTongues") (a := 26) 12 rfl (by decide) (by decide) ⟨rfl, rfl, rfl⟩ dX7_primary_4 rfl (v := .int (iv (μ.1 26 12))) (by rw [show μ.1 26 12 = μ.1 26 12 from rfl]; rfl) ?_
  have hr_3 : -2147483648 ≤ μ.1 26 12 ∧ μ.1 26 12 ≤ 2147483647 := by have h9 := G.hr (a := 26) (k := 12) rfl; exact h9
  refine lv_istore_n (lv' := [(1, .int (iv (μ.1 26 12))), (0, .ref (oP ω 23))]) hx hb dX7_primary_7 rfl hl (by decide) rfl (fun ls hl => ?_)
  refine lv_iload_n hx hb dX7_primary_8 rfl (lv_at hl 0 rfl) ?_
  refine lv_iconst (v := iv 1) hx hb dX7_primary_9 rfl ?_
  refine xb_icmp_ne (tgt := 47) hx hb (by unfold ir; omega) (by unfold ir; omega) dX7_primary_10 (by decide) (fun c_10 => ?_) (fun c_10 => ?_)
  · refine lv_iload_n hx hb dX7_primary_47 rfl (lv_at hl 0 rfl) ?_
    refine lv_iconst (v := iv 2) hx hb dX7_primary_48 rfl ?_
    refine xb_icmp_ne (tgt := 59) hx hb (by unfold ir; omega) (by unfold ir; omega) dX7_primary_49 (by decide) (fun c_49 => ?_) (fun c_49 => ?_)
    · refine lv_aload_n hx hb dX7_primary_59 rfl (lv_at hl 1 rfl) ?_
      refine lv_sipush (v := iv 223) hx hb dX7_primary_60 rfl ?_
      have hn_4 : -1 ≤ μ.1 26 10 ∧ μ.1 26 10 ≤ 3000 := hI.nm.2.2.2.2.2.2.2.2.2.2.2.2
      refine xc_iV G (b := 23) (rest := []) (As := [.int (iv 223)]) (c_X7_took_b ω l μ 223 (by unfold ir; omega) hI hTK (by omega)) (wm 3 160 rfl rfl) (wm 3 162 rfl rfl) (wm 0 9 rfl rfl) rfl rfl (by decide) rfl (wm 1 12 rfl rfl) (wm 3 163 rfl rfl) (by decide) hR ⟨nfr hF (by decide), nlo hLo (by decide)⟩ (n := 1) rfl rfl (Nat.le_of_ble_eq_true rfl) hl.1 dX7_primary_63 (fun r_6 μ5 ρ d0 H locs hr_r_6 hp G => ?_)
      have hr_r_6 : -2147483648 ≤ r_6 ∧ r_6 ≤ 2147483647 := hr_r_6
      obtain ⟨F_7, hI_8, hp_9, hp_10, hp_11, hs_12, hs_13, hs_14, hs_15, hs_16⟩ := hp
      have hn_17 : -1 ≤ μ5.1 26 10 ∧ μ5.1 26 10 ≤ 3000 := hI_8.nm.2.2.2.2.2.2.2.2.2.2.2.2
      have htb_18 := hp_9.b
      refine xb_if_eq (tgt := 80) hx hb (by unfold ir; omega) dX7_primary_66 (by decide) (fun c_66 => ?_) (fun c_66 => ?_)
      · refine lv_aload_n hx hb dX7_primary_80 rfl (lv_at hl 1 rfl) ?_
        refine lv_sipush (v := iv 224) hx hb dX7_primary_81 rfl ?_
        have hpx_19 : μ5.1 26 11 = 0 → PXE μ μ5 P tt 0 (-1) 1 := fun h0 => (hnil (by have h9 : μ.1 26 11 = μ.1 26 11 := rfl; have h8 : μ5.1 26 11 = μ.1 26 11 := hs_12; omega)).fr (K := [26]) (Fr.tr Fr.rf F_7 (by decide)) (npL_p (L := [26]) (by decide) hprP).1 (npL_p (L := [26]) (by decide) hprP).2.1
        have e_20 : μ5.1 26 11 = μ.1 26 11 := hs_12
        refine xc_iV G (b := 23) (rest := []) (As := [.int (iv 224)]) (c_X7_took_b ω l μ5 224 (by unfold ir; omega) hI_8 hp_9 (by omega)) (wm 3 160 rfl rfl) (wm 3 162 rfl rfl) (wm 0 9 rfl rfl) rfl rfl (by decide) rfl (wm 1 12 rfl rfl) (wm 3 163 rfl rfl) (by decide) hR ⟨nfr hF (by decide), nlo hLo (by decide)⟩ (n := 1) rfl rfl (Nat.le_of_ble_eq_true rfl) hl.1 dX7_primary_84 (fun r_22 μ21 ρ d0 H locs hr_r_22 hp G => ?_)
        have hr_r_22 : -2147483648 ≤ r_22 ∧ r_22 ≤ 2147483647 := hr_r_22
        obtain ⟨F_23, hI_24, hp_25, hp_26, hp_27, hs_28, hs_29, hs_30, hs_31, hs_32⟩ := hp
        have hn_33 : -1 ≤ μ21.1 26 10 ∧ μ21.1 26 10 ≤ 3000 := hI_24.nm.2.2.2.2.2.2.2.2.2.2.2.2
        have htb_34 := hp_25.b
        refine xb_if_eq (tgt := 115) hx hb (by unfold ir; omega) dX7_primary_87 (by decide) (fun c_87 => ?_) (fun c_87 => ?_)
        · refine lv_aload_n hx hb dX7_primary_115 rfl (lv_at hl 1 rfl) ?_
          refine lv_sipush (v := iv 225) hx hb dX7_primary_116 rfl ?_
          have hpx_35 : μ21.1 26 11 = 0 → PXE μ μ21 P tt 0 (-1) 1 := fun h0 => (hpx_19 (by have h9 : μ5.1 26 11 = μ.1 26 11 := hs_12; have h8 : μ21.1 26 11 = μ.1 26 11 := (hs_28.trans hs_12); omega)).fr (K := [26]) (Fr.tr Fr.rf F_23 (by decide)) (npL_p (L := [26]) (by decide) hprP).1 (npL_p (L := [26]) (by decide) hprP).2.1
          have e_36 : μ21.1 26 11 = μ.1 26 11 := (hs_28.trans hs_12)
          refine xc_iV G (b := 23) (rest := []) (As := [.int (iv 225)]) (c_X7_took_b ω l μ21 225 (by unfold ir; omega) hI_24 hp_25 (by omega)) (wm 3 160 rfl rfl) (wm 3 162 rfl rfl) (wm 0 9 rfl rfl) rfl rfl (by decide) rfl (wm 1 12 rfl rfl) (wm 3 163 rfl rfl) (by decide) hR ⟨nfr hF (by decide), nlo hLo (by decide)⟩ (n := 1) rfl rfl (Nat.le_of_ble_eq_true rfl) hl.1 dX7_primary_119 (fun r_38 μ37 ρ d0 H locs hr_r_38 hp G => ?_)
          have hr_r_38 : -2147483648 ≤ r_38 ∧ r_38 ≤ 2147483647 := hr_r_38
          obtain ⟨F_39, hI_40, hp_41, hp_42, hp_43, hs_44, hs_45, hs_46, hs_47, hs_48⟩ := hp
          have hn_49 : -1 ≤ μ37.1 26 10 ∧ μ37.1 26 10 ≤ 3000 := hI_40.nm.2.2.2.2.2.2.2.2.2.2.2.2
          have htb_50 := hp_41.b
          refine xb_if_eq (tgt := 150) hx hb (by unfold ir; omega) dX7_primary_122 (by decide) (fun c_122 => ?_) (fun c_122 => ?_)
          · refine lv_iload_n hx hb dX7_primary_150 rfl (lv_at hl 0 rfl) ?_
            refine lv_bipush (v := iv 40) hx hb dX7_primary_151 rfl ?_
            refine xb_icmp_ne (tgt := 167) hx hb (by unfold ir; omega) (by unfold ir; omega) dX7_primary_153 (by decide) (fun c_153 => ?_) (fun c_153 => ?_)
            · refine lv_aload_n hx hb dX7_primary_167 rfl (lv_at hl 1 rfl) ?_
              refine lv_bipush (v := iv 38) hx hb dX7_primary_168 rfl ?_
              have hpx_51 : μ37.1 26 11 = 0 → PXE μ μ37 P tt 0 (-1) 1 := fun h0 => (hpx_35 (by have h9 : μ21.1 26 11 = μ.1 26 11 := (hs_28.trans hs_12); have h8 : μ37.1 26 11 = μ.1 26 11 := (hs_44.trans (hs_28.trans hs_12)); omega)).fr (K := [26]) (Fr.tr Fr.rf F_39 (by decide)) (npL_p (L := [26]) (by decide) hprP).1 (npL_p (L := [26]) (by decide) hprP).2.1
              have e_52 : μ37.1 26 11 = μ.1 26 11 := (hs_44.trans (hs_28.trans hs_12))
              refine xc_iV G (b := 23) (rest := []) (As := [.int (iv 38)]) (c_X7_took_b ω l μ37 38 (by unfold ir; omega) hI_40 hp_41 (by omega)) (wm 3 160 rfl rfl) (wm 3 162 rfl rfl) (wm 0 9 rfl rfl) rfl rfl (by decide) rfl (wm 1 12 rfl rfl) (wm 3 163 rfl rfl) (by decide) hR ⟨nfr hF (by decide), nlo hLo (by decide)⟩ (n := 1) rfl rfl (Nat.le_of_ble_eq_true rfl) hl.1 dX7_primary_170 (fun r_54 μ53 ρ d0 H locs hr_r_54 hp G => ?_)
              have hr_r_54 : -2147483648 ≤ r_54 ∧ r_54 ≤ 2147483647 := hr_r_54
              obtain ⟨F_55, hI_56, hp_57, hp_58, hp_59, hs_60, hs_61, hs_62, hs_63, hs_64⟩ := hp
              have hn_65 : -1 ≤ μ53.1 26 10 ∧ μ53.1 26 10 ≤ 3000 := hI_56.nm.2.2.2.2.2.2.2.2.2.2.2.2
              have htb_66 := hp_57.b
              refine xb_if_eq (tgt := 183) hx hb (by unfold ir; omega) dX7_primary_173 (by decide) (fun c_173 => ?_) (fun c_173 => ?_)
              · refine lv_aload_n hx hb dX7_primary_183 rfl (lv_at hl 1 rfl) ?_
                have hpx_67 : μ53.1 26 11 = 0 → PXE μ μ53 P tt 0 (-1) 1 := fun h0 => (hpx_51 (by have h9 : μ37.1 26 11 = μ.1 26 11 := (hs_44.trans (hs_28.trans hs_12)); have h8 : μ53.1 26 11 = μ.1 26 11 := (hs_60.trans (hs_44.trans (hs_28.trans hs_12))); omega)).fr (K := [26]) (Fr.tr Fr.rf F_55 (by decide)) (npL_p (L := [26]) (by decide) hprP).1 (npL_p (L := [26]) (by decide) hprP).2.1
                refine xc_iV G (b := 23) (rest := []) (As := []) (c_X7_isTongueWord ω l μ53  hI_56) (wm 4 104 rfl rfl) (wm 4 106 rfl rfl) (wm 0 42 rfl rfl) rfl rfl (by decide) rfl (wm 1 12 rfl rfl) (wm 4 107 rfl rfl) (by decide) hR ⟨nfr hF (by decide), nlo hLo (by decide)⟩ (n := 0) rfl rfl (Nat.le_of_ble_eq_true rfl) hl.1 dX7_primary_184 (fun r_69 μ68 ρ d0 H locs hr_r_69 hp G => ?_)
                have hr_r_69 : -2147483648 ≤ r_69 ∧ r_69 ≤ 2147483647 := hr_r_69
                obtain ⟨hsm_70, hp_71⟩ := hp
                have hsm_70 := Eq.symm hsm_70
                subst hsm_70
                refine xb_if_eq (tgt := 234) hx hb (by unfold ir; omega) dX7_primary_187 (by decide) (fun c_187 => ?_) (fun c_187 => ?_)
                · refine lv_aload_n hx hb dX7_primary_234 rfl (lv_at hl 1 rfl) ?_
                  have e_72 : μ53.1 23 2 = P := ((F_55.1 23 (by decide) 2).trans ((F_39.1 23 (by decide) 2).trans ((F_23.1 23 (by decide) 2).trans ((F_7.1 23 (by decide) 2).trans hP.symm))))
                  have e_73 : μ53.1 23 8 = tt := ((F_55.1 23 (by decide) 8).trans ((F_39.1 23 (by decide) 8).trans ((F_23.1 23 (by decide) 8).trans ((F_7.1 23 (by decide) 8).trans htt.symm))))
                  have e_74 : μ53.1 P 1 = μ.1 P 1 := ((F_55.1 P (ni hprP (fun P => P) (fun P => [26]) rfl) 1).trans ((F_39.1 P (ni hprP (fun P => P) (fun P => [26]) rfl) 1).trans ((F_23.1 P (ni hprP (fun P => P) (fun P => [26]) rfl) 1).trans (F_7.1 P (ni hprP (fun P => P) (fun P => [26]) rfl) 1))))
                  have e_75 : μ53.1 26 11 = μ.1 26 11 := (hs_60.trans (hs_44.trans (hs_28.trans hs_12)))
                  have hk_76 := hI.row (r := P + 2) (hprP.row)
                  unfold rk at hk_76
                  have e_77 : μ53.1 (P + 2) 3 = μ.1 (P + 2) 3 := ((F_55.1 (P + 2) (ni hprP (fun P => P + 2) (fun P => [26]) rfl) 3).trans ((F_39.1 (P + 2) (ni hprP (fun P => P + 2) (fun P => [26]) rfl) 3).trans ((F_23.1 (P + 2) (ni hprP (fun P => P + 2) (fun P => [26]) rfl) 3).trans (F_7.1 (P + 2) (ni hprP (fun P => P + 2) (fun P => [26]) rfl) 3))))
                  have e_78 : μ53.1 P 1 = μ.1 P 1 := ((F_55.1 P (ni hprP (fun P => P) (fun P => [26]) rfl) 1).trans ((F_39.1 P (ni hprP (fun P => P) (fun P => [26]) rfl) 1).trans ((F_23.1 P (ni hprP (fun P => P) (fun P => [26]) rfl) 1).trans (F_7.1 P (ni hprP (fun P => P) (fun P => [26]) rfl) 1))))
                  have e_79 : μ53.1 23 9 = μ.1 23 9 := ((F_55.1 23 (by decide) 9).trans ((F_39.1 23 (by decide) 9).trans ((F_23.1 23 (by decide) 9).trans (F_7.1 23 (by decide) 9))))
                  have e_80 : μ53.1 23 9 = μ.1 23 9 := ((F_55.1 23 (by decide) 9).trans ((F_39.1 23 (by decide) 9).trans ((F_23.1 23 (by decide) 9).trans (F_7.1 23 (by decide) 9))))
                  have e_81 : μ53.1 26 11 = μ.1 26 11 := (hs_60.trans (hs_44.trans (hs_28.trans hs_12)))
                  have e_82 : μ53.1 23 9 = μ.1 23 9 := ((F_55.1 23 (by decide) 9).trans ((F_39.1 23 (by decide) 9).trans ((F_23.1 23 (by decide) 9).trans (F_7.1 23 (by decide) 9))))
                  have e_83 : μ53.1 26 11 = μ.1 26 11 := (hs_60.trans (hs_44.trans (hs_28.trans hs_12)))
                  have e_84 : μ53.1 26 11 = μ.1 26 11 := (hs_60.trans (hs_44.trans (hs_28.trans hs_12)))
                  have e_85 : μ53.1 P 1 = μ.1 P 1 := ((F_55.1 P (ni hprP (fun P => P) (fun P => [26]) rfl) 1).trans ((F_39.1 P (ni hprP (fun P => P) (fun P => [26]) rfl) 1).trans ((F_23.1 P (ni hprP (fun P => P) (fun P => [26]) rfl) 1).trans (F_7.1 P (ni hprP (fun P => P) (fun P => [26]) rfl) 1))))
                  have e_86 : μ53.1 P 1 = μ.1 P 1 := ((F_55.1 P (ni hprP (fun P => P) (fun P => [26]) rfl) 1).trans ((F_39.1 P (ni hprP (fun P => P) (fun P => [26]) rfl) 1).trans ((F_23.1 P (ni hprP (fun P => P) (fun P => [26]) rfl) 1).trans (F_7.1 P (ni hprP (fun P => P) (fun P => [26]) rfl) 1))))
                  have e_87 : μ53.1 26 11 = μ.1 26 11 := (hs_60.trans (hs_44.trans (hs_28.trans hs_12)))
                  have e_88 : μ53.1 (P + 2) 3 = μ.1 (P + 2) 3 := ((F_55.1 (P + 2) (ni hprP (fun P => P + 2) (fun P => [26]) rfl) 3).trans ((F_39.1 (P + 2) (ni hprP (fun P => P + 2) (fun P => [26]) rfl) 3).trans ((F_23.1 (P + 2) (ni hprP (fun P => P + 2) (fun P => [26]) rfl) 3).trans (F_7.1 (P + 2) (ni hprP (fun P => P + 2) (fun P => [26]) rfl) 3))))
                  have e_89 : μ53.1 P 1 = μ.1 P 1 := ((F_55.1 P (ni hprP (fun P => P) (fun P => [26]) rfl) 1).trans ((F_39.1 P (ni hprP (fun P => P) (fun P => [26]) rfl) 1).trans ((F_23.1 P (ni hprP (fun P => P) (fun P => [26]) rfl) 1).trans (F_7.1 P (ni hprP (fun P => P) (fun P => [26]) rfl) 1))))
                  have e_90 : μ53.1 (P + 2) 3 = μ.1 (P + 2) 3 := ((F_55.1 (P + 2) (ni hprP (fun P => P + 2) (fun P => [26]) rfl) 3).trans ((F_39.1 (P + 2) (ni hprP (fun P => P + 2) (fun P => [26]) rfl) 3).trans ((F_23.1 (P + 2) (ni hprP (fun P => P + 2) (fun P => [26]) rfl) 3).trans (F_7.1 (P + 2) (ni hprP (fun P => P + 2) (fun P => [26]) rfl) 3))))
                  refine xc_vV G (b := 23) (rest := []) (As := []) (c_X7_ownPrimary ω l μ53 F Lo Fu Lu kf P tt hI_56 (by omega) (by omega) hF hLo hFu hLu hE hU hp_57 (by omega) (by omega) (by omega) (by omega) (by omega)) (wm 4 108 rfl rfl) (wm 4 110 rfl rfl) (wm 0 43 rfl rfl) rfl rfl (by decide) rfl (wm 1 12 rfl rfl) (wm 4 111 rfl rfl) (by decide) hR ⟨sfr (F := F) (a := 2) (by decide), slo (L := Lo) (m := 2) (a := 44) (by decide)⟩ (n := 0) rfl rfl (Nat.le_of_ble_eq_true rfl) hl.1 dX7_primary_235 (fun μ91 ρ d0 H locs hp G => ?_)
                  obtain ⟨F_92, hI_93, hp_94, hp_95, hp_96, hp_97, hp_98, hp_99, hs_100, hs_101, hs_102, hs_103, hs_104, hs_105, hs_106, hs_107, hs_108⟩ := hp
                  have hn_109 : -1 ≤ μ91.1 26 10 ∧ μ91.1 26 10 ≤ 3000 := hI_93.nm.2.2.2.2.2.2.2.2.2.2.2.2
                  have hk_110 := hI_93.pr (p := P) hprP
                  unfold pk at hk_110
                  have hc_111 : 16 ≤ μ91.2.1 (P + 1) ∧ μ91.2.1 (P + 1) ≤ 73024 := hI_93.rm.1 _ hprP.cap
                  have hk_112 := hI_93.row (r := P + 2) (hprP.row)
                  unfold rk at hk_112
                  have htb_113 := hp_94.b
                  have hpx_114 : μ91.1 26 11 = 0 → PXE μ μ91 P tt 1 (-1) 1 := fun h0 => (PXE.app (hpx_67 (by have h9 : μ53.1 26 11 = μ.1 26 11 := (hs_60.trans (hs_44.trans (hs_28.trans hs_12))); have h8 : μ91.1 26 11 = μ91.1 26 11 := rfl; omega)) (hp_99 h0)).e (by omega)
                  exact xr_v G hret hlk dX7_primary_238 ⟨(Fr.tr (Fr.tr (Fr.tr (Fr.tr (Fr.tr Fr.rf F_7 (si hprP (fun P => [26]) (fun P => [2, 3, 4, 23, 24, 26, P, P + 1, P + 2, (P + 2) + 1, (P + 2) + 2, (P + 2) + 3]) rfl)) F_23 (si hprP (fun P => [26]) (fun P => [2, 3, 4, 23, 24, 26, P, P + 1, P + 2, (P + 2) + 1, (P + 2) + 2, (P + 2) + 3]) rfl)) F_39 (si hprP (fun P => [26]) (fun P => [2, 3, 4, 23, 24, 26, P, P + 1, P + 2, (P + 2) + 1, (P + 2) + 2, (P + 2) + 3]) rfl)) F_55 (si hprP (fun P => [26]) (fun P => [2, 3, 4, 23, 24, 26, P, P + 1, P + 2, (P + 2) + 1, (P + 2) + 2, (P + 2) + 3]) rfl)) F_92 (si hprP (fun P => [2, 3, 4, 23, 24, 26, P, P + 1, P + 2, (P + 2) + 1, (P + 2) + 2, (P + 2) + 3]) (fun P => [2, 3, 4, 23, 24, 26, P, P + 1, P + 2, (P + 2) + 1, (P + 2) + 2, (P + 2) + 3]) rfl)), hI_93, hp_94, (by omega), (by omega), (by omega), (by omega), (fun h0 => (PXE.ex (hpx_114 h0)).e (by omega)), ((hs_100.trans ((F_55.1 23 (by decide) 2).trans ((F_39.1 23 (by decide) 2).trans ((F_23.1 23 (by decide) 2).trans ((F_7.1 23 (by decide) 2).trans hP.symm)))))).trans hP, (hs_101.trans ((F_55.1 23 (by decide) 5).trans ((F_39.1 23 (by decide) 5).trans ((F_23.1 23 (by decide) 5).trans (F_7.1 23 (by decide) 5))))), (hs_102.trans ((F_55.1 23 (by decide) 6).trans ((F_39.1 23 (by decide) 6).trans ((F_23.1 23 (by decide) 6).trans (F_7.1 23 (by decide) 6))))), (hs_103.trans ((F_55.1 23 (by decide) 7).trans ((F_39.1 23 (by decide) 7).trans ((F_23.1 23 (by decide) 7).trans (F_7.1 23 (by decide) 7))))), ((hs_104.trans ((F_55.1 23 (by decide) 8).trans ((F_39.1 23 (by decide) 8).trans ((F_23.1 23 (by decide) 8).trans ((F_7.1 23 (by decide) 8).trans htt.symm)))))).trans htt, (hs_105.trans ((F_55.1 23 (by decide) 9).trans ((F_39.1 23 (by decide) 9).trans ((F_23.1 23 (by decide) 9).trans (F_7.1 23 (by decide) 9))))), (hs_106.trans ((F_55.1 23 (by decide) 10).trans ((F_39.1 23 (by decide) 10).trans ((F_23.1 23 (by decide) 10).trans (F_7.1 23 (by decide) 10))))), (hs_107.trans (hs_61.trans (hs_45.trans (hs_29.trans hs_13)))), (hs_108.trans ((F_55.1 P (ni hprP (fun P => P) (fun P => [26]) rfl) 7).trans ((F_39.1 P (ni hprP (fun P => P) (fun P => [26]) rfl) 7).trans ((F_23.1 P (ni hprP (fun P => P) (fun P => [26]) rfl) 7).trans (F_7.1 P (ni hprP (fun P => P) (fun P => [26]) rfl) 7)))))⟩
                · have hkk_115 := hp_11 () (by omega)
                  have hkk_116 := hp_27 () (by omega)
                  have hkk_117 := hp_43 () (by omega)
                  have hkk_118 := hp_59 () (by omega)
                  refine lv_iload_n hx hb dX7_primary_190 rfl (lv_at hl 0 rfl) ?_
                  refine lv_sipush (v := iv 229) hx hb dX7_primary_191 rfl ?_
                  refine xb_isub hx hb dX7_primary_194 ?_
                  refine lv_istore_n (lv' := [(2, .int (iv ((μ.1 26 12) - 229))), (1, .int (iv (μ.1 26 12))), (0, .ref (oP ω 23))]) hx hb dX7_primary_195 rfl hl (by decide) rfl (fun ls hl => ?_)
                  refine lv_aload_n hx hb dX7_primary_196 rfl (lv_at hl 2 rfl) ?_
                  refine xa_getr G fd_X7 (a := 23) (x := 26) 0 rfl (by decide) rfl (wm 2 17 rfl rfl) ⟨rfl, rfl, rfl⟩ dX7_primary_197 rfl (G.sk 23 rfl) (by decide) rfl ?_
                  have hn_119 : 0 ≤ μ.1 26 6 ∧ μ.1 26 6 ≤ 3001 := hI.nm.2.2.2.2.2.2.2.2.2.1
                  have e_120 : μ53.1 26 6 = μ.1 26 6 := (hs_61.trans (hs_45.trans (hs_29.trans hs_13)))
                  have e_121 : μ53.1 26 11 = μ.1 26 11 := (hs_60.trans (hs_44.trans (hs_28.trans hs_12)))
                  have e_122 : μ53.1 26 11 = μ.1 26 11 := (hs_60.trans (hs_44.trans (hs_28.trans hs_12)))
                  have e_123 : μ53.1 26 6 = μ.1 26 6 := (hs_61.trans (hs_45.trans (hs_29.trans hs_13)))
                  have e_124 : μ53.1 26 6 = μ.1 26 6 := (hs_61.trans (hs_45.trans (hs_29.trans hs_13)))
                  refine xc_vV G (b := 26) (rest := []) (As := []) (c_X10_next ω l μ53  hI_56 (by omega) (by omega)) (wm 3 164 rfl rfl) (wm 3 157 rfl rfl) (wm 3 158 rfl rfl) rfl rfl (by decide) rfl (wm 1 13 rfl rfl) (wm 3 159 rfl rfl) (by decide) hR ⟨nfr hF (by decide), nlo hLo (by decide)⟩ (n := 0) rfl rfl (Nat.le_of_ble_eq_true rfl) hl.1 dX7_primary_200 (fun μ125 ρ d0 H locs hp G => ?_)
                  obtain ⟨F_126, hI_127, hp_128, hs_129, hs_130, hs_131, hs_132, hs_133⟩ := hp
                  have hn_134 : -1 ≤ μ125.1 26 10 ∧ μ125.1 26 10 ≤ 3000 := hI_127.nm.2.2.2.2.2.2.2.2.2.2.2.2
                  obtain ⟨htk_135, htk_135_s, htk_135_n⟩ := TK.nx hp_57 F_126 (((hs_130.trans (hs_61.trans (hs_45.trans (hs_29.trans hs_13))))).trans ((hs_61.trans (hs_45.trans (hs_29.trans hs_13)))).symm) (((hs_129.trans (hs_60.trans (hs_44.trans (hs_28.trans hs_12))))).trans ((hs_60.trans (hs_44.trans (hs_28.trans hs_12)))).symm) (by have h9 : μ53.1 26 12 = μ53.1 26 12 := rfl; omega) hp_128
                  clear hp_128
                  have e_136 : μ53.1 26 11 = μ.1 26 11 := (hs_60.trans (hs_44.trans (hs_28.trans hs_12)))
                  have htb_137 := htk_135.b
                  refine lv_aload_n hx hb dX7_primary_203 rfl (lv_at hl 2 rfl) ?_
                  refine lv_bipush (v := iv 46) hx hb dX7_primary_204 rfl ?_
                  have hpx_138 : μ125.1 26 11 = 0 → PXE μ μ125 P tt 0 (-1) 1 := fun h0 => (hpx_67 (by have h9 : μ53.1 26 11 = μ.1 26 11 := (hs_60.trans (hs_44.trans (hs_28.trans hs_12))); have h8 : μ125.1 26 11 = μ.1 26 11 := (hs_129.trans (hs_60.trans (hs_44.trans (hs_28.trans hs_12)))); omega)).fr (K := [26]) (Fr.tr Fr.rf F_126 (by decide)) (npL_p (L := [26]) (by decide) hprP).1 (npL_p (L := [26]) (by decide) hprP).2.1
                  have e_139 : μ125.1 26 11 = μ.1 26 11 := (hs_129.trans (hs_60.trans (hs_44.trans (hs_28.trans hs_12))))
                  refine xc_vV G (b := 23) (rest := []) (As := [.int (iv 46)]) (c_X7_need_b ω l μ125 46 (by unfold ir; omega) hI_127 htk_135 (by omega)) (wm 3 169 rfl rfl) (wm 3 171 rfl rfl) (wm 0 11 rfl rfl) rfl rfl (by decide) rfl (wm 1 12 rfl rfl) (wm 3 172 rfl rfl) (by decide) hR ⟨nfr hF (by decide), nlo hLo (by decide)⟩ (n := 1) rfl rfl (Nat.le_of_ble_eq_true rfl) hl.1 dX7_primary_206 (fun μ140 ρ d0 H locs hp G => ?_)
                  obtain ⟨F_141, hI_142, hp_143, hp_144, hp_145, hs_146, hs_147, hs_148, hs_149⟩ := hp
                  have hn_150 : -1 ≤ μ140.1 26 10 ∧ μ140.1 26 10 ≤ 3000 := hI_142.nm.2.2.2.2.2.2.2.2.2.2.2.2
                  have htb_151 := hp_143.b
                  refine lv_aload_n hx hb dX7_primary_209 rfl (lv_at hl 2 rfl) ?_
                  refine xa_getr G fd_X7 (a := 23) (x := 26) 0 rfl (by decide) rfl (wm 2 17 rfl rfl) ⟨rfl, rfl, rfl⟩ dX7_primary_210 rfl (G.sk 23 rfl) (by decide) rfl ?_
                  refine xa_getN G fd_X10 (host := "FourTongues") (a := 26) 14 rfl (by decide) (by decide) ⟨rfl, rfl, rfl⟩ dX7_primary_213 rfl (v := .long (jv (μ140.1 26 14))) (by rw [show μ140.1 26 14 = μ140.1 26 14 from rfl]; rfl) ?_
                  have hj_152 : jr (μ140.1 26 14) := by have h9 := G.hj (a := 26) (k := 14) rfl; exact h9
                  refine lv_lstore_n (lv' := [(3, .long (jv (μ140.1 26 14))), (2, .int (iv ((μ.1 26 12) - 229))), (1, .int (iv (μ.1 26 12))), (0, .ref (oP ω 23))]) hx hb dX7_primary_216 rfl hl (by decide) rfl (fun ls hl => ?_)
                  refine lv_aload_n hx hb dX7_primary_217 rfl (lv_at hl 3 rfl) ?_
                  refine lv_iconst (v := iv 1) hx hb dX7_primary_218 rfl ?_
                  have hpx_153 : μ140.1 26 11 = 0 → PXE μ μ140 P tt 0 (-1) 1 := fun h0 => (hpx_138 (by have h9 : μ125.1 26 11 = μ.1 26 11 := (hs_129.trans (hs_60.trans (hs_44.trans (hs_28.trans hs_12)))); have h8 : μ140.1 26 11 = μ140.1 26 11 := rfl; omega)).fr (K := [26]) (Fr.tr Fr.rf F_141 (by decide)) (npL_p (L := [26]) (by decide) hprP).1 (npL_p (L := [26]) (by decide) hprP).2.1
                  refine xc_vV G (b := 23) (rest := []) (As := [.int (iv 1)]) (c_X7_need_b ω l μ140 1 (by unfold ir; omega) hI_142 hp_143 (by omega)) (wm 3 169 rfl rfl) (wm 3 171 rfl rfl) (wm 0 11 rfl rfl) rfl rfl (by decide) rfl (wm 1 12 rfl rfl) (wm 3 172 rfl rfl) (by decide) hR ⟨nfr hF (by decide), nlo hLo (by decide)⟩ (n := 1) rfl rfl (Nat.le_of_ble_eq_true rfl) hl.1 dX7_primary_219 (fun μ154 ρ d0 H locs hp G => ?_)
                  obtain ⟨F_155, hI_156, hp_157, hp_158, hp_159, hs_160, hs_161, hs_162, hs_163⟩ := hp
                  have hn_164 : -1 ≤ μ154.1 26 10 ∧ μ154.1 26 10 ≤ 3000 := hI_156.nm.2.2.2.2.2.2.2.2.2.2.2.2
                  have htb_165 := hp_157.b
                  refine lv_aload_n hx hb dX7_primary_222 rfl (lv_at hl 3 rfl) ?_
                  refine lv_bipush (v := iv 13) hx hb dX7_primary_223 rfl ?_
                  refine lv_iload_n hx hb dX7_primary_225 rfl (lv_at hl 1 rfl) ?_
                  refine lv_lload_n hx hb dX7_primary_226 rfl (lv_at hl 0 rfl) ?_
                  refine lv_iconst (v := iv (-1)) hx hb dX7_primary_227 rfl ?_
                  have hpx_166 : μ154.1 26 11 = 0 → PXE μ μ154 P tt 0 (-1) 1 := fun h0 => (hpx_153 (by have h9 : μ140.1 26 11 = μ140.1 26 11 := rfl; have h8 : μ154.1 26 11 = μ154.1 26 11 := rfl; omega)).fr (K := [26]) (Fr.tr Fr.rf F_155 (by decide)) (npL_p (L := [26]) (by decide) hprP).1 (npL_p (L := [26]) (by decide) hprP).2.1
                  have e_167 : μ154.1 23 2 = P := ((F_155.1 23 (by decide) 2).trans ((F_141.1 23 (by decide) 2).trans ((F_126.1 23 (by decide) 2).trans ((F_55.1 23 (by decide) 2).trans ((F_39.1 23 (by decide) 2).trans ((F_23.1 23 (by decide) 2).trans ((F_7.1 23 (by decide) 2).trans hP.symm)))))))
                  have e_168 : μ154.1 23 8 = tt := ((F_155.1 23 (by decide) 8).trans ((F_141.1 23 (by decide) 8).trans ((F_126.1 23 (by decide) 8).trans ((F_55.1 23 (by decide) 8).trans ((F_39.1 23 (by decide) 8).trans ((F_23.1 23 (by decide) 8).trans ((F_7.1 23 (by decide) 8).trans htt.symm)))))))
                  have e_169 : μ154.1 P 1 = μ.1 P 1 := ((F_155.1 P (ni hprP (fun P => P) (fun P => [26]) rfl) 1).trans ((F_141.1 P (ni hprP (fun P => P) (fun P => [26]) rfl) 1).trans ((F_126.1 P (ni hprP (fun P => P) (fun P => [26]) rfl) 1).trans ((F_55.1 P (ni hprP (fun P => P) (fun P => [26]) rfl) 1).trans ((F_39.1 P (ni hprP (fun P => P) (fun P => [26]) rfl) 1).trans ((F_23.1 P (ni hprP (fun P => P) (fun P => [26]) rfl) 1).trans (F_7.1 P (ni hprP (fun P => P) (fun P => [26]) rfl) 1)))))))
                  have hk_170 := hI.row (r := P + 2) (hprP.row)
                  unfold rk at hk_170
                  have e_171 : μ154.1 (P + 2) 3 = μ.1 (P + 2) 3 := ((F_155.1 (P + 2) (ni hprP (fun P => P + 2) (fun P => [26]) rfl) 3).trans ((F_141.1 (P + 2) (ni hprP (fun P => P + 2) (fun P => [26]) rfl) 3).trans ((F_126.1 (P + 2) (ni hprP (fun P => P + 2) (fun P => [26]) rfl) 3).trans ((F_55.1 (P + 2) (ni hprP (fun P => P + 2) (fun P => [26]) rfl) 3).trans ((F_39.1 (P + 2) (ni hprP (fun P => P + 2) (fun P => [26]) rfl) 3).trans ((F_23.1 (P + 2) (ni hprP (fun P => P + 2) (fun P => [26]) rfl) 3).trans (F_7.1 (P + 2) (ni hprP (fun P => P + 2) (fun P => [26]) rfl) 3)))))))
                  have e_172 : μ154.1 P 1 = μ.1 P 1 := ((F_155.1 P (ni hprP (fun P => P) (fun P => [26]) rfl) 1).trans ((F_141.1 P (ni hprP (fun P => P) (fun P => [26]) rfl) 1).trans ((F_126.1 P (ni hprP (fun P => P) (fun P => [26]) rfl) 1).trans ((F_55.1 P (ni hprP (fun P => P) (fun P => [26]) rfl) 1).trans ((F_39.1 P (ni hprP (fun P => P) (fun P => [26]) rfl) 1).trans ((F_23.1 P (ni hprP (fun P => P) (fun P => [26]) rfl) 1).trans (F_7.1 P (ni hprP (fun P => P) (fun P => [26]) rfl) 1)))))))
                  have e_173 : μ154.1 23 9 = μ.1 23 9 := ((F_155.1 23 (by decide) 9).trans ((F_141.1 23 (by decide) 9).trans ((F_126.1 23 (by decide) 9).trans ((F_55.1 23 (by decide) 9).trans ((F_39.1 23 (by decide) 9).trans ((F_23.1 23 (by decide) 9).trans (F_7.1 23 (by decide) 9)))))))
                  have e_174 : μ154.1 23 9 = μ.1 23 9 := ((F_155.1 23 (by decide) 9).trans ((F_141.1 23 (by decide) 9).trans ((F_126.1 23 (by decide) 9).trans ((F_55.1 23 (by decide) 9).trans ((F_39.1 23 (by decide) 9).trans ((F_23.1 23 (by decide) 9).trans (F_7.1 23 (by decide) 9)))))))
                  have e_175 : μ154.1 23 9 = μ.1 23 9 := ((F_155.1 23 (by decide) 9).trans ((F_141.1 23 (by decide) 9).trans ((F_126.1 23 (by decide) 9).trans ((F_55.1 23 (by decide) 9).trans ((F_39.1 23 (by decide) 9).trans ((F_23.1 23 (by decide) 9).trans (F_7.1 23 (by decide) 9)))))))
                  have e_176 : μ154.1 P 1 = μ.1 P 1 := ((F_155.1 P (ni hprP (fun P => P) (fun P => [26]) rfl) 1).trans ((F_141.1 P (ni hprP (fun P => P) (fun P => [26]) rfl) 1).trans ((F_126.1 P (ni hprP (fun P => P) (fun P => [26]) rfl) 1).trans ((F_55.1 P (ni hprP (fun P => P) (fun P => [26]) rfl) 1).trans ((F_39.1 P (ni hprP (fun P => P) (fun P => [26]) rfl) 1).trans ((F_23.1 P (ni hprP (fun P => P) (fun P => [26]) rfl) 1).trans (F_7.1 P (ni hprP (fun P => P) (fun P => [26]) rfl) 1)))))))
                  have e_177 : μ154.1 P 1 = μ.1 P 1 := ((F_155.1 P (ni hprP (fun P => P) (fun P => [26]) rfl) 1).trans ((F_141.1 P (ni hprP (fun P => P) (fun P => [26]) rfl) 1).trans ((F_126.1 P (ni hprP (fun P => P) (fun P => [26]) rfl) 1).trans ((F_55.1 P (ni hprP (fun P => P) (fun P => [26]) rfl) 1).trans ((F_39.1 P (ni hprP (fun P => P) (fun P => [26]) rfl) 1).trans ((F_23.1 P (ni hprP (fun P => P) (fun P => [26]) rfl) 1).trans (F_7.1 P (ni hprP (fun P => P) (fun P => [26]) rfl) 1)))))))
                  have e_178 : μ154.1 (P + 2) 3 = μ.1 (P + 2) 3 := ((F_155.1 (P + 2) (ni hprP (fun P => P + 2) (fun P => [26]) rfl) 3).trans ((F_141.1 (P + 2) (ni hprP (fun P => P + 2) (fun P => [26]) rfl) 3).trans ((F_126.1 (P + 2) (ni hprP (fun P => P + 2) (fun P => [26]) rfl) 3).trans ((F_55.1 (P + 2) (ni hprP (fun P => P + 2) (fun P => [26]) rfl) 3).trans ((F_39.1 (P + 2) (ni hprP (fun P => P + 2) (fun P => [26]) rfl) 3).trans ((F_23.1 (P + 2) (ni hprP (fun P => P + 2) (fun P => [26]) rfl) 3).trans (F_7.1 (P + 2) (ni hprP (fun P => P + 2) (fun P => [26]) rfl) 3)))))))
                  have e_179 : μ154.1 P 1 = μ.1 P 1 := ((F_155.1 P (ni hprP (fun P => P) (fun P => [26]) rfl) 1).trans ((F_141.1 P (ni hprP (fun P => P) (fun P => [26]) rfl) 1).trans ((F_126.1 P (ni hprP (fun P => P) (fun P => [26]) rfl) 1).trans ((F_55.1 P (ni hprP (fun P => P) (fun P => [26]) rfl) 1).trans ((F_39.1 P (ni hprP (fun P => P) (fun P => [26]) rfl) 1).trans ((F_23.1 P (ni hprP (fun P => P) (fun P => [26]) rfl) 1).trans (F_7.1 P (ni hprP (fun P => P) (fun P => [26]) rfl) 1)))))))
                  have e_180 : μ154.1 (P + 2) 3 = μ.1 (P + 2) 3 := ((F_155.1 (P + 2) (ni hprP (fun P => P + 2) (fun P => [26]) rfl) 3).trans ((F_141.1 (P + 2) (ni hprP (fun P => P + 2) (fun P => [26]) rfl) 3).trans ((F_126.1 (P + 2) (ni hprP (fun P => P + 2) (fun P => [26]) rfl) 3).trans ((F_55.1 (P + 2) (ni hprP (fun P => P + 2) (fun P => [26]) rfl) 3).trans ((F_39.1 (P + 2) (ni hprP (fun P => P + 2) (fun P => [26]) rfl) 3).trans ((F_23.1 (P + 2) (ni hprP (fun P => P + 2) (fun P => [26]) rfl) 3).trans (F_7.1 (P + 2) (ni hprP (fun P => P + 2) (fun P => [26]) rfl) 3)))))))
                  refine xc_vV G (b := 23) (rest := []) (As := [.int (iv 13), .int (iv ((μ.1 26 12) - 229)), .long (jv (μ140.1 26 14)), .int (iv (-1))]) (c_X7_arguments ω l μ154 13 ((μ.1 26 12) - 229) (μ140.1 26 14) (-1) F Lo Fu Lu kf μ (0) (1) P tt (by unfold ir; omega) (by unfold ir; omega) hj_152 (by unfold ir; omega) hI_156 (by omega) (by omega) hF hLo hFu hLu hE hU hp_157 (by omega) (by omega) (by omega) (by omega) (by omega) (by omega) (by omega) hpx_166 rfl) (wm 4 63 rfl rfl) (wm 4 65 rfl rfl) (wm 0 36 rfl rfl) rfl rfl (by decide) rfl (wm 1 12 rfl rfl) (wm 4 66 rfl rfl) (by decide) hR ⟨sfr (F := F) (a := 1) (by decide), slo (L := Lo) (m := 11) (a := 22) (by decide)⟩ (n := 4) rfl rfl (Nat.le_of_ble_eq_true rfl) hl.1 dX7_primary_228 (fun μ181 ρ d0 H locs hp G => ?_)
                  obtain ⟨F_182, hI_183, hp_184, hp_185, hp_186, hp_187, hp_188, hp_189, hs_190, hs_191, hs_192, hs_193, hs_194, hs_195, hs_196, hs_197, hs_198⟩ := hp
                  have hn_199 : -1 ≤ μ181.1 26 10 ∧ μ181.1 26 10 ≤ 3000 := hI_183.nm.2.2.2.2.2.2.2.2.2.2.2.2
                  have hk_200 := hI_183.pr (p := P) hprP
                  unfold pk at hk_200
                  have hc_201 : 16 ≤ μ181.2.1 (P + 1) ∧ μ181.2.1 (P + 1) ≤ 73024 := hI_183.rm.1 _ hprP.cap
                  have hk_202 := hI_183.row (r := P + 2) (hprP.row)
                  unfold rk at hk_202
                  have htb_203 := hp_184.b
                  have hpx_204 : μ181.1 26 11 = 0 → PXE μ μ181 P tt 1 (-1) 1 := fun h0 => PXE.of (hp_189 h0)
                  refine lv_goto (tgt := 238) hx hb dX7_primary_231 (by decide) ?_
                  exact xr_v G hret hlk dX7_primary_238 ⟨(Fr.tr (Fr.tr (Fr.tr (Fr.tr (Fr.tr (Fr.tr (Fr.tr (Fr.tr Fr.rf F_7 (si hprP (fun P => [26]) (fun P => [2, 3, 4, 23, 24, 26, P, P + 1, P + 2, (P + 2) + 1, (P + 2) + 2, (P + 2) + 3]) rfl)) F_23 (si hprP (fun P => [26]) (fun P => [2, 3, 4, 23, 24, 26, P, P + 1, P + 2, (P + 2) + 1, (P + 2) + 2, (P + 2) + 3]) rfl)) F_39 (si hprP (fun P => [26]) (fun P => [2, 3, 4, 23, 24, 26, P, P + 1, P + 2, (P + 2) + 1, (P + 2) + 2, (P + 2) + 3]) rfl)) F_55 (si hprP (fun P => [26]) (fun P => [2, 3, 4, 23, 24, 26, P, P + 1, P + 2, (P + 2) + 1, (P + 2) + 2, (P + 2) + 3]) rfl)) F_126 (si hprP (fun P => [26]) (fun P => [2, 3, 4, 23, 24, 26, P, P + 1, P + 2, (P + 2) + 1, (P + 2) + 2, (P + 2) + 3]) rfl)) F_141 (si hprP (fun P => [26]) (fun P => [2, 3, 4, 23, 24, 26, P, P + 1, P + 2, (P + 2) + 1, (P + 2) + 2, (P + 2) + 3]) rfl)) F_155 (si hprP (fun P => [26]) (fun P => [2, 3, 4, 23, 24, 26, P, P + 1, P + 2, (P + 2) + 1, (P + 2) + 2, (P + 2) + 3]) rfl)) F_182 (si hprP (fun P => [2, 3, 4, 23, 24, 26, P, P + 1, P + 2, (P + 2) + 1, (P + 2) + 2, (P + 2) + 3]) (fun P => [2, 3, 4, 23, 24, 26, P, P + 1, P + 2, (P + 2) + 1, (P + 2) + 2, (P + 2) + 3]) rfl)), hI_183, hp_184, (by omega), (by omega), (by omega), (by omega), (fun h0 => (PXE.ex (hpx_204 h0)).e (by omega)), ((hs_190.trans ((F_155.1 23 (by decide) 2).trans ((F_141.1 23 (by decide) 2).trans ((F_126.1 23 (by decide) 2).trans ((F_55.1 23 (by decide) 2).trans ((F_39.1 23 (by decide) 2).trans ((F_23.1 23 (by decide) 2).trans ((F_7.1 23 (by decide) 2).trans hP.symm))))))))).trans hP, (hs_191.trans ((F_155.1 23 (by decide) 5).trans ((F_141.1 23 (by decide) 5).trans ((F_126.1 23 (by decide) 5).trans ((F_55.1 23 (by decide) 5).trans ((F_39.1 23 (by decide) 5).trans ((F_23.1 23 (by decide) 5).trans (F_7.1 23 (by decide) 5)))))))), (hs_192.trans ((F_155.1 23 (by decide) 6).trans ((F_141.1 23 (by decide) 6).trans ((F_126.1 23 (by decide) 6).trans ((F_55.1 23 (by decide) 6).trans ((F_39.1 23 (by decide) 6).trans ((F_23.1 23 (by decide) 6).trans (F_7.1 23 (by decide) 6)))))))), (hs_193.trans ((F_155.1 23 (by decide) 7).trans ((F_141.1 23 (by decide) 7).trans ((F_126.1 23 (by decide) 7).trans ((F_55.1 23 (by decide) 7).trans ((F_39.1 23 (by decide) 7).trans ((F_23.1 23 (by decide) 7).trans (F_7.1 23 (by decide) 7)))))))), ((hs_194.trans ((F_155.1 23 (by decide) 8).trans ((F_141.1 23 (by decide) 8).trans ((F_126.1 23 (by decide) 8).trans ((F_55.1 23 (by decide) 8).trans ((F_39.1 23 (by decide) 8).trans ((F_23.1 23 (by decide) 8).trans ((F_7.1 23 (by decide) 8).trans htt.symm))))))))).trans htt, (hs_195.trans ((F_155.1 23 (by decide) 9).trans ((F_141.1 23 (by decide) 9).trans ((F_126.1 23 (by decide) 9).trans ((F_55.1 23 (by decide) 9).trans ((F_39.1 23 (by decide) 9).trans ((F_23.1 23 (by decide) 9).trans (F_7.1 23 (by decide) 9)))))))), (hs_196.trans ((F_155.1 23 (by decide) 10).trans ((F_141.1 23 (by decide) 10).trans ((F_126.1 23 (by decide) 10).trans ((F_55.1 23 (by decide) 10).trans ((F_39.1 23 (by decide) 10).trans ((F_23.1 23 (by decide) 10).trans (F_7.1 23 (by decide) 10)))))))), (hs_197.trans (hs_160.trans (hs_146.trans (hs_130.trans (hs_61.trans (hs_45.trans (hs_29.trans hs_13))))))), (hs_198.trans ((F_155.1 P (ni hprP (fun P => P) (fun P => [26]) rfl) 7).trans ((F_141.1 P (ni hprP (fun P => P) (fun P => [26]) rfl) 7).trans ((F_126.1 P (ni hprP (fun P => P) (fun P => [26]) rfl) 7).trans ((F_55.1 P (ni hprP (fun P => P) (fun P => [26]) rfl) 7).trans ((F_39.1 P (ni hprP (fun P => P) (fun P => [26]) rfl) 7).trans ((F_23.1 P (ni hprP (fun P => P) (fun P => [26]) rfl) 7).trans (F_7.1 P (ni hprP (fun P => P) (fun P => [26]) rfl) 7))))))))⟩
              · refine lv_aload_n hx hb dX7_primary_176 rfl (lv_at hl 1 rfl) ?_
                have hpx_205 : μ53.1 26 11 = 0 → PXE μ μ53 P tt 0 (-1) 1 := fun h0 => (hpx_51 (by have h9 : μ37.1 26 11 = μ.1 26 11 := (hs_44.trans (hs_28.trans hs_12)); have h8 : μ53.1 26 11 = μ.1 26 11 := (hs_60.trans (hs_44.trans (hs_28.trans hs_12))); omega)).fr (K := [26]) (Fr.tr Fr.rf F_55 (by decide)) (npL_p (L := [26]) (by decide) hprP).1 (npL_p (L := [26]) (by decide) hprP).2.1
                have e_206 : μ53.1 23 2 = P := ((F_55.1 23 (by decide) 2).trans ((F_39.1 23 (by decide) 2).trans ((F_23.1 23 (by decide) 2).trans ((F_7.1 23 (by decide) 2).trans hP.symm))))
                have e_207 : μ53.1 23 8 = tt := ((F_55.1 23 (by decide) 8).trans ((F_39.1 23 (by decide) 8).trans ((F_23.1 23 (by decide) 8).trans ((F_7.1 23 (by decide) 8).trans htt.symm))))
                have e_208 : μ53.1 P 1 = μ.1 P 1 := ((F_55.1 P (ni hprP (fun P => P) (fun P => [26]) rfl) 1).trans ((F_39.1 P (ni hprP (fun P => P) (fun P => [26]) rfl) 1).trans ((F_23.1 P (ni hprP (fun P => P) (fun P => [26]) rfl) 1).trans (F_7.1 P (ni hprP (fun P => P) (fun P => [26]) rfl) 1))))
                have e_209 : μ53.1 26 11 = μ.1 26 11 := (hs_60.trans (hs_44.trans (hs_28.trans hs_12)))
                have hk_210 := hI.row (r := P + 2) (hprP.row)
                unfold rk at hk_210
                have e_211 : μ53.1 (P + 2) 3 = μ.1 (P + 2) 3 := ((F_55.1 (P + 2) (ni hprP (fun P => P + 2) (fun P => [26]) rfl) 3).trans ((F_39.1 (P + 2) (ni hprP (fun P => P + 2) (fun P => [26]) rfl) 3).trans ((F_23.1 (P + 2) (ni hprP (fun P => P + 2) (fun P => [26]) rfl) 3).trans (F_7.1 (P + 2) (ni hprP (fun P => P + 2) (fun P => [26]) rfl) 3))))
                have e_212 : μ53.1 P 1 = μ.1 P 1 := ((F_55.1 P (ni hprP (fun P => P) (fun P => [26]) rfl) 1).trans ((F_39.1 P (ni hprP (fun P => P) (fun P => [26]) rfl) 1).trans ((F_23.1 P (ni hprP (fun P => P) (fun P => [26]) rfl) 1).trans (F_7.1 P (ni hprP (fun P => P) (fun P => [26]) rfl) 1))))
                have e_213 : μ53.1 23 9 = μ.1 23 9 := ((F_55.1 23 (by decide) 9).trans ((F_39.1 23 (by decide) 9).trans ((F_23.1 23 (by decide) 9).trans (F_7.1 23 (by decide) 9))))
                have e_214 : μ53.1 23 9 = μ.1 23 9 := ((F_55.1 23 (by decide) 9).trans ((F_39.1 23 (by decide) 9).trans ((F_23.1 23 (by decide) 9).trans (F_7.1 23 (by decide) 9))))
                have e_215 : μ53.1 23 9 = μ.1 23 9 := ((F_55.1 23 (by decide) 9).trans ((F_39.1 23 (by decide) 9).trans ((F_23.1 23 (by decide) 9).trans (F_7.1 23 (by decide) 9))))
                have e_216 : μ53.1 26 11 = μ.1 26 11 := (hs_60.trans (hs_44.trans (hs_28.trans hs_12)))
                have e_217 : μ53.1 P 1 = μ.1 P 1 := ((F_55.1 P (ni hprP (fun P => P) (fun P => [26]) rfl) 1).trans ((F_39.1 P (ni hprP (fun P => P) (fun P => [26]) rfl) 1).trans ((F_23.1 P (ni hprP (fun P => P) (fun P => [26]) rfl) 1).trans (F_7.1 P (ni hprP (fun P => P) (fun P => [26]) rfl) 1))))
                have e_218 : μ53.1 P 1 = μ.1 P 1 := ((F_55.1 P (ni hprP (fun P => P) (fun P => [26]) rfl) 1).trans ((F_39.1 P (ni hprP (fun P => P) (fun P => [26]) rfl) 1).trans ((F_23.1 P (ni hprP (fun P => P) (fun P => [26]) rfl) 1).trans (F_7.1 P (ni hprP (fun P => P) (fun P => [26]) rfl) 1))))
                have e_219 : μ53.1 (P + 2) 3 = μ.1 (P + 2) 3 := ((F_55.1 (P + 2) (ni hprP (fun P => P + 2) (fun P => [26]) rfl) 3).trans ((F_39.1 (P + 2) (ni hprP (fun P => P + 2) (fun P => [26]) rfl) 3).trans ((F_23.1 (P + 2) (ni hprP (fun P => P + 2) (fun P => [26]) rfl) 3).trans (F_7.1 (P + 2) (ni hprP (fun P => P + 2) (fun P => [26]) rfl) 3))))
                have e_220 : μ53.1 P 1 = μ.1 P 1 := ((F_55.1 P (ni hprP (fun P => P) (fun P => [26]) rfl) 1).trans ((F_39.1 P (ni hprP (fun P => P) (fun P => [26]) rfl) 1).trans ((F_23.1 P (ni hprP (fun P => P) (fun P => [26]) rfl) 1).trans (F_7.1 P (ni hprP (fun P => P) (fun P => [26]) rfl) 1))))
                have e_221 : μ53.1 (P + 2) 3 = μ.1 (P + 2) 3 := ((F_55.1 (P + 2) (ni hprP (fun P => P + 2) (fun P => [26]) rfl) 3).trans ((F_39.1 (P + 2) (ni hprP (fun P => P + 2) (fun P => [26]) rfl) 3).trans ((F_23.1 (P + 2) (ni hprP (fun P => P + 2) (fun P => [26]) rfl) 3).trans (F_7.1 (P + 2) (ni hprP (fun P => P + 2) (fun P => [26]) rfl) 3))))
                refine xc_vV G (b := 23) (rest := []) (As := []) (c_X7_functionItself ω l μ53 F Lo Fu Lu kf P tt hI_56 (by omega) (by omega) hF hLo hFu hLu hE hU hp_57 (by omega) (by omega) (by omega) (by omega) (by omega)) (wm 4 100 rfl rfl) (wm 4 102 rfl rfl) (wm 0 41 rfl rfl) rfl rfl (by decide) rfl (wm 1 12 rfl rfl) (wm 4 103 rfl rfl) (by decide) hR ⟨sfr (F := F) (a := 0) (by decide), slo (L := Lo) (m := 4) (a := 0) (by decide)⟩ (n := 0) rfl rfl (Nat.le_of_ble_eq_true rfl) hl.1 dX7_primary_177 (fun μ222 ρ d0 H locs hp G => ?_)
                obtain ⟨F_223, hI_224, hp_225, hp_226, hp_227, hp_228, hp_229, hp_230, hs_231, hs_232, hs_233, hs_234, hs_235, hs_236, hs_237, hs_238, hs_239⟩ := hp
                have hn_240 : -1 ≤ μ222.1 26 10 ∧ μ222.1 26 10 ≤ 3000 := hI_224.nm.2.2.2.2.2.2.2.2.2.2.2.2
                have hk_241 := hI_224.pr (p := P) hprP
                unfold pk at hk_241
                have hc_242 : 16 ≤ μ222.2.1 (P + 1) ∧ μ222.2.1 (P + 1) ≤ 73024 := hI_224.rm.1 _ hprP.cap
                have hk_243 := hI_224.row (r := P + 2) (hprP.row)
                unfold rk at hk_243
                have htb_244 := hp_225.b
                have hpx_245 : μ222.1 26 11 = 0 → PXE μ μ222 P tt 1 (-1) 1 := fun h0 => (PXE.app (hpx_205 (by have h9 : μ53.1 26 11 = μ.1 26 11 := (hs_60.trans (hs_44.trans (hs_28.trans hs_12))); have h8 : μ222.1 26 11 = μ222.1 26 11 := rfl; omega)) (hp_230 h0)).e (by omega)
                refine lv_goto (tgt := 238) hx hb dX7_primary_180 (by decide) ?_
                exact xr_v G hret hlk dX7_primary_238 ⟨(Fr.tr (Fr.tr (Fr.tr (Fr.tr (Fr.tr Fr.rf F_7 (si hprP (fun P => [26]) (fun P => [2, 3, 4, 23, 24, 26, P, P + 1, P + 2, (P + 2) + 1, (P + 2) + 2, (P + 2) + 3]) rfl)) F_23 (si hprP (fun P => [26]) (fun P => [2, 3, 4, 23, 24, 26, P, P + 1, P + 2, (P + 2) + 1, (P + 2) + 2, (P + 2) + 3]) rfl)) F_39 (si hprP (fun P => [26]) (fun P => [2, 3, 4, 23, 24, 26, P, P + 1, P + 2, (P + 2) + 1, (P + 2) + 2, (P + 2) + 3]) rfl)) F_55 (si hprP (fun P => [26]) (fun P => [2, 3, 4, 23, 24, 26, P, P + 1, P + 2, (P + 2) + 1, (P + 2) + 2, (P + 2) + 3]) rfl)) F_223 (si hprP (fun P => [2, 3, 4, 23, 24, 26, P, P + 1, P + 2, (P + 2) + 1, (P + 2) + 2, (P + 2) + 3]) (fun P => [2, 3, 4, 23, 24, 26, P, P + 1, P + 2, (P + 2) + 1, (P + 2) + 2, (P + 2) + 3]) rfl)), hI_224, hp_225, (by omega), (by omega), (by omega), (by omega), (fun h0 => (PXE.ex (hpx_245 h0)).e (by omega)), ((hs_231.trans ((F_55.1 23 (by decide) 2).trans ((F_39.1 23 (by decide) 2).trans ((F_23.1 23 (by decide) 2).trans ((F_7.1 23 (by decide) 2).trans hP.symm)))))).trans hP, (hs_232.trans ((F_55.1 23 (by decide) 5).trans ((F_39.1 23 (by decide) 5).trans ((F_23.1 23 (by decide) 5).trans (F_7.1 23 (by decide) 5))))), (hs_233.trans ((F_55.1 23 (by decide) 6).trans ((F_39.1 23 (by decide) 6).trans ((F_23.1 23 (by decide) 6).trans (F_7.1 23 (by decide) 6))))), (hs_234.trans ((F_55.1 23 (by decide) 7).trans ((F_39.1 23 (by decide) 7).trans ((F_23.1 23 (by decide) 7).trans (F_7.1 23 (by decide) 7))))), ((hs_235.trans ((F_55.1 23 (by decide) 8).trans ((F_39.1 23 (by decide) 8).trans ((F_23.1 23 (by decide) 8).trans ((F_7.1 23 (by decide) 8).trans htt.symm)))))).trans htt, (hs_236.trans ((F_55.1 23 (by decide) 9).trans ((F_39.1 23 (by decide) 9).trans ((F_23.1 23 (by decide) 9).trans (F_7.1 23 (by decide) 9))))), (hs_237.trans ((F_55.1 23 (by decide) 10).trans ((F_39.1 23 (by decide) 10).trans ((F_23.1 23 (by decide) 10).trans (F_7.1 23 (by decide) 10))))), (hs_238.trans (hs_61.trans (hs_45.trans (hs_29.trans hs_13)))), (hs_239.trans ((F_55.1 P (ni hprP (fun P => P) (fun P => [26]) rfl) 7).trans ((F_39.1 P (ni hprP (fun P => P) (fun P => [26]) rfl) 7).trans ((F_23.1 P (ni hprP (fun P => P) (fun P => [26]) rfl) 7).trans (F_7.1 P (ni hprP (fun P => P) (fun P => [26]) rfl) 7)))))⟩
            · have hs0_ : μ.1 26 11 = 0 := hTK.k.resolve_right (by omega)
              refine lv_aload_n hx hb dX7_primary_156 rfl (lv_at hl 1 rfl) ?_
              refine lv_bipush (v := iv 40) hx hb dX7_primary_157 rfl ?_
              refine lv_bipush (v := iv 41) hx hb dX7_primary_159 rfl ?_
              have hpx_246 : μ37.1 26 11 = 0 → PXE μ μ37 P tt 0 (-1) 1 := fun h0 => (hpx_35 (by have h9 : μ21.1 26 11 = μ.1 26 11 := (hs_28.trans hs_12); have h8 : μ37.1 26 11 = μ.1 26 11 := (hs_44.trans (hs_28.trans hs_12)); omega)).fr (K := [26]) (Fr.tr Fr.rf F_39 (by decide)) (npL_p (L := [26]) (by decide) hprP).1 (npL_p (L := [26]) (by decide) hprP).2.1
              have e_247 : μ37.1 23 2 = P := ((F_39.1 23 (by decide) 2).trans ((F_23.1 23 (by decide) 2).trans ((F_7.1 23 (by decide) 2).trans hP.symm)))
              have e_248 : μ37.1 23 8 = tt := ((F_39.1 23 (by decide) 8).trans ((F_23.1 23 (by decide) 8).trans ((F_7.1 23 (by decide) 8).trans htt.symm)))
              have e_249 : μ37.1 P 1 = μ.1 P 1 := ((F_39.1 P (ni hprP (fun P => P) (fun P => [26]) rfl) 1).trans ((F_23.1 P (ni hprP (fun P => P) (fun P => [26]) rfl) 1).trans (F_7.1 P (ni hprP (fun P => P) (fun P => [26]) rfl) 1)))
              have e_250 : μ37.1 26 11 = μ.1 26 11 := (hs_44.trans (hs_28.trans hs_12))
              have hk_251 := hI.row (r := P + 2) (hprP.row)
              unfold rk at hk_251
              have e_252 : μ37.1 (P + 2) 3 = μ.1 (P + 2) 3 := ((F_39.1 (P + 2) (ni hprP (fun P => P + 2) (fun P => [26]) rfl) 3).trans ((F_23.1 (P + 2) (ni hprP (fun P => P + 2) (fun P => [26]) rfl) 3).trans (F_7.1 (P + 2) (ni hprP (fun P => P + 2) (fun P => [26]) rfl) 3)))
              have e_253 : μ37.1 P 1 = μ.1 P 1 := ((F_39.1 P (ni hprP (fun P => P) (fun P => [26]) rfl) 1).trans ((F_23.1 P (ni hprP (fun P => P) (fun P => [26]) rfl) 1).trans (F_7.1 P (ni hprP (fun P => P) (fun P => [26]) rfl) 1)))
              have e_254 : μ37.1 23 9 = μ.1 23 9 := ((F_39.1 23 (by decide) 9).trans ((F_23.1 23 (by decide) 9).trans (F_7.1 23 (by decide) 9)))
              have e_255 : μ37.1 23 9 = μ.1 23 9 := ((F_39.1 23 (by decide) 9).trans ((F_23.1 23 (by decide) 9).trans (F_7.1 23 (by decide) 9)))
              have e_256 : μ37.1 23 9 = μ.1 23 9 := ((F_39.1 23 (by decide) 9).trans ((F_23.1 23 (by decide) 9).trans (F_7.1 23 (by decide) 9)))
              have e_257 : μ37.1 26 11 = μ.1 26 11 := (hs_44.trans (hs_28.trans hs_12))
              have e_258 : μ37.1 P 1 = μ.1 P 1 := ((F_39.1 P (ni hprP (fun P => P) (fun P => [26]) rfl) 1).trans ((F_23.1 P (ni hprP (fun P => P) (fun P => [26]) rfl) 1).trans (F_7.1 P (ni hprP (fun P => P) (fun P => [26]) rfl) 1)))
              have e_259 : μ37.1 P 1 = μ.1 P 1 := ((F_39.1 P (ni hprP (fun P => P) (fun P => [26]) rfl) 1).trans ((F_23.1 P (ni hprP (fun P => P) (fun P => [26]) rfl) 1).trans (F_7.1 P (ni hprP (fun P => P) (fun P => [26]) rfl) 1)))
              have e_260 : μ37.1 (P + 2) 3 = μ.1 (P + 2) 3 := ((F_39.1 (P + 2) (ni hprP (fun P => P + 2) (fun P => [26]) rfl) 3).trans ((F_23.1 (P + 2) (ni hprP (fun P => P + 2) (fun P => [26]) rfl) 3).trans (F_7.1 (P + 2) (ni hprP (fun P => P + 2) (fun P => [26]) rfl) 3)))
              have e_261 : μ37.1 P 1 = μ.1 P 1 := ((F_39.1 P (ni hprP (fun P => P) (fun P => [26]) rfl) 1).trans ((F_23.1 P (ni hprP (fun P => P) (fun P => [26]) rfl) 1).trans (F_7.1 P (ni hprP (fun P => P) (fun P => [26]) rfl) 1)))
              have e_262 : μ37.1 (P + 2) 3 = μ.1 (P + 2) 3 := ((F_39.1 (P + 2) (ni hprP (fun P => P + 2) (fun P => [26]) rfl) 3).trans ((F_23.1 (P + 2) (ni hprP (fun P => P + 2) (fun P => [26]) rfl) 3).trans (F_7.1 (P + 2) (ni hprP (fun P => P + 2) (fun P => [26]) rfl) 3)))
              refine xc_vV G (b := 23) (rest := []) (As := [.int (iv 40), .int (iv 41)]) (c_X7_inBrackets ω l μ37 40 41 F Lo Fu Lu kf P tt (by unfold ir; omega) (by unfold ir; omega) hI_40 (by omega) (by omega) hF hLo hFu hLu hE hU hp_41 (by omega) (by omega) (by omega) (by omega) (by omega) (by omega) (by omega)) (wm 4 92 rfl rfl) (wm 4 94 rfl rfl) (wm 0 39 rfl rfl) rfl rfl (by decide) rfl (wm 1 12 rfl rfl) (wm 4 95 rfl rfl) (by decide) hR ⟨sfr (F := F) (a := 1) (by decide), slo (L := Lo) (m := 3) (a := 22) (by decide)⟩ (n := 2) rfl rfl (Nat.le_of_ble_eq_true rfl) hl.1 dX7_primary_161 (fun μ263 ρ d0 H locs hp G => ?_)
              obtain ⟨F_264, hI_265, hp_266, hp_267, hp_268, hp_269, hp_270, hp_271, hs_272, hs_273, hs_274, hs_275, hs_276, hs_277, hs_278, hs_279, hs_280⟩ := hp
              have hn_281 : -1 ≤ μ263.1 26 10 ∧ μ263.1 26 10 ≤ 3000 := hI_265.nm.2.2.2.2.2.2.2.2.2.2.2.2
              have hk_282 := hI_265.pr (p := P) hprP
              unfold pk at hk_282
              have hc_283 : 16 ≤ μ263.2.1 (P + 1) ∧ μ263.2.1 (P + 1) ≤ 73024 := hI_265.rm.1 _ hprP.cap
              have hk_284 := hI_265.row (r := P + 2) (hprP.row)
              unfold rk at hk_284
              have htb_285 := hp_266.b
              have hpx_286 : μ263.1 26 11 = 0 → PXE μ μ263 P tt 1 (-1) 1 := fun h0 => (PXE.app (hpx_246 (by have h9 : μ37.1 26 11 = μ.1 26 11 := (hs_44.trans (hs_28.trans hs_12)); have h8 : μ263.1 26 11 = μ263.1 26 11 := rfl; omega)) (hp_271 h0)).e (by omega)
              refine lv_goto (tgt := 238) hx hb dX7_primary_164 (by decide) ?_
              exact xr_v G hret hlk dX7_primary_238 ⟨(Fr.tr (Fr.tr (Fr.tr (Fr.tr Fr.rf F_7 (si hprP (fun P => [26]) (fun P => [2, 3, 4, 23, 24, 26, P, P + 1, P + 2, (P + 2) + 1, (P + 2) + 2, (P + 2) + 3]) rfl)) F_23 (si hprP (fun P => [26]) (fun P => [2, 3, 4, 23, 24, 26, P, P + 1, P + 2, (P + 2) + 1, (P + 2) + 2, (P + 2) + 3]) rfl)) F_39 (si hprP (fun P => [26]) (fun P => [2, 3, 4, 23, 24, 26, P, P + 1, P + 2, (P + 2) + 1, (P + 2) + 2, (P + 2) + 3]) rfl)) F_264 (si hprP (fun P => [2, 3, 4, 23, 24, 26, P, P + 1, P + 2, (P + 2) + 1, (P + 2) + 2, (P + 2) + 3]) (fun P => [2, 3, 4, 23, 24, 26, P, P + 1, P + 2, (P + 2) + 1, (P + 2) + 2, (P + 2) + 3]) rfl)), hI_265, hp_266, (by omega), (by omega), (by omega), (by omega), (fun h0 => (PXE.ex (hpx_286 h0)).e (by omega)), ((hs_272.trans ((F_39.1 23 (by decide) 2).trans ((F_23.1 23 (by decide) 2).trans ((F_7.1 23 (by decide) 2).trans hP.symm))))).trans hP, (hs_273.trans ((F_39.1 23 (by decide) 5).trans ((F_23.1 23 (by decide) 5).trans (F_7.1 23 (by decide) 5)))), (hs_274.trans ((F_39.1 23 (by decide) 6).trans ((F_23.1 23 (by decide) 6).trans (F_7.1 23 (by decide) 6)))), (hs_275.trans ((F_39.1 23 (by decide) 7).trans ((F_23.1 23 (by decide) 7).trans (F_7.1 23 (by decide) 7)))), ((hs_276.trans ((F_39.1 23 (by decide) 8).trans ((F_23.1 23 (by decide) 8).trans ((F_7.1 23 (by decide) 8).trans htt.symm))))).trans htt, (hs_277.trans ((F_39.1 23 (by decide) 9).trans ((F_23.1 23 (by decide) 9).trans (F_7.1 23 (by decide) 9)))), (hs_278.trans ((F_39.1 23 (by decide) 10).trans ((F_23.1 23 (by decide) 10).trans (F_7.1 23 (by decide) 10)))), (hs_279.trans (hs_45.trans (hs_29.trans hs_13))), (hs_280.trans ((F_39.1 P (ni hprP (fun P => P) (fun P => [26]) rfl) 7).trans ((F_23.1 P (ni hprP (fun P => P) (fun P => [26]) rfl) 7).trans (F_7.1 P (ni hprP (fun P => P) (fun P => [26]) rfl) 7))))⟩
          · refine lv_aload_n hx hb dX7_primary_125 rfl (lv_at hl 1 rfl) ?_
            refine lv_bipush (v := iv 40) hx hb dX7_primary_126 rfl ?_
            refine lv_bipush (v := iv 41) hx hb dX7_primary_128 rfl ?_
            have hpx_287 : μ37.1 26 11 = 0 → PXE μ μ37 P tt 0 (-1) 1 := fun h0 => (hpx_35 (by have h9 : μ21.1 26 11 = μ.1 26 11 := (hs_28.trans hs_12); have h8 : μ37.1 26 11 = μ.1 26 11 := (hs_44.trans (hs_28.trans hs_12)); omega)).fr (K := [26]) (Fr.tr Fr.rf F_39 (by decide)) (npL_p (L := [26]) (by decide) hprP).1 (npL_p (L := [26]) (by decide) hprP).2.1
            have e_288 : μ37.1 23 2 = P := ((F_39.1 23 (by decide) 2).trans ((F_23.1 23 (by decide) 2).trans ((F_7.1 23 (by decide) 2).trans hP.symm)))
            have e_289 : μ37.1 23 8 = tt := ((F_39.1 23 (by decide) 8).trans ((F_23.1 23 (by decide) 8).trans ((F_7.1 23 (by decide) 8).trans htt.symm)))
            have e_290 : μ37.1 P 1 = μ.1 P 1 := ((F_39.1 P (ni hprP (fun P => P) (fun P => [26]) rfl) 1).trans ((F_23.1 P (ni hprP (fun P => P) (fun P => [26]) rfl) 1).trans (F_7.1 P (ni hprP (fun P => P) (fun P => [26]) rfl) 1)))
            have e_291 : μ37.1 26 11 = μ.1 26 11 := (hs_44.trans (hs_28.trans hs_12))
            have hk_292 := hI.row (r := P + 2) (hprP.row)
            unfold rk at hk_292
            have e_293 : μ37.1 (P + 2) 3 = μ.1 (P + 2) 3 := ((F_39.1 (P + 2) (ni hprP (fun P => P + 2) (fun P => [26]) rfl) 3).trans ((F_23.1 (P + 2) (ni hprP (fun P => P + 2) (fun P => [26]) rfl) 3).trans (F_7.1 (P + 2) (ni hprP (fun P => P + 2) (fun P => [26]) rfl) 3)))
            have e_294 : μ37.1 P 1 = μ.1 P 1 := ((F_39.1 P (ni hprP (fun P => P) (fun P => [26]) rfl) 1).trans ((F_23.1 P (ni hprP (fun P => P) (fun P => [26]) rfl) 1).trans (F_7.1 P (ni hprP (fun P => P) (fun P => [26]) rfl) 1)))
            have e_295 : μ37.1 23 9 = μ.1 23 9 := ((F_39.1 23 (by decide) 9).trans ((F_23.1 23 (by decide) 9).trans (F_7.1 23 (by decide) 9)))
            have e_296 : μ37.1 23 9 = μ.1 23 9 := ((F_39.1 23 (by decide) 9).trans ((F_23.1 23 (by decide) 9).trans (F_7.1 23 (by decide) 9)))
            have e_297 : μ37.1 23 9 = μ.1 23 9 := ((F_39.1 23 (by decide) 9).trans ((F_23.1 23 (by decide) 9).trans (F_7.1 23 (by decide) 9)))
            have e_298 : μ37.1 26 11 = μ.1 26 11 := (hs_44.trans (hs_28.trans hs_12))
            have e_299 : μ37.1 P 1 = μ.1 P 1 := ((F_39.1 P (ni hprP (fun P => P) (fun P => [26]) rfl) 1).trans ((F_23.1 P (ni hprP (fun P => P) (fun P => [26]) rfl) 1).trans (F_7.1 P (ni hprP (fun P => P) (fun P => [26]) rfl) 1)))
            have e_300 : μ37.1 P 1 = μ.1 P 1 := ((F_39.1 P (ni hprP (fun P => P) (fun P => [26]) rfl) 1).trans ((F_23.1 P (ni hprP (fun P => P) (fun P => [26]) rfl) 1).trans (F_7.1 P (ni hprP (fun P => P) (fun P => [26]) rfl) 1)))
            have e_301 : μ37.1 (P + 2) 3 = μ.1 (P + 2) 3 := ((F_39.1 (P + 2) (ni hprP (fun P => P + 2) (fun P => [26]) rfl) 3).trans ((F_23.1 (P + 2) (ni hprP (fun P => P + 2) (fun P => [26]) rfl) 3).trans (F_7.1 (P + 2) (ni hprP (fun P => P + 2) (fun P => [26]) rfl) 3)))
            have e_302 : μ37.1 P 1 = μ.1 P 1 := ((F_39.1 P (ni hprP (fun P => P) (fun P => [26]) rfl) 1).trans ((F_23.1 P (ni hprP (fun P => P) (fun P => [26]) rfl) 1).trans (F_7.1 P (ni hprP (fun P => P) (fun P => [26]) rfl) 1)))
            have e_303 : μ37.1 (P + 2) 3 = μ.1 (P + 2) 3 := ((F_39.1 (P + 2) (ni hprP (fun P => P + 2) (fun P => [26]) rfl) 3).trans ((F_23.1 (P + 2) (ni hprP (fun P => P + 2) (fun P => [26]) rfl) 3).trans (F_7.1 (P + 2) (ni hprP (fun P => P + 2) (fun P => [26]) rfl) 3)))
            refine xc_vV G (b := 23) (rest := []) (As := [.int (iv 40), .int (iv 41)]) (c_X7_inBrackets ω l μ37 40 41 F Lo Fu Lu kf P tt (by unfold ir; omega) (by unfold ir; omega) hI_40 (by omega) (by omega) hF hLo hFu hLu hE hU hp_41 (by omega) (by omega) (by omega) (by omega) (by omega) (by omega) (by omega)) (wm 4 92 rfl rfl) (wm 4 94 rfl rfl) (wm 0 39 rfl rfl) rfl rfl (by decide) rfl (wm 1 12 rfl rfl) (wm 4 95 rfl rfl) (by decide) hR ⟨sfr (F := F) (a := 1) (by decide), slo (L := Lo) (m := 3) (a := 22) (by decide)⟩ (n := 2) rfl rfl (Nat.le_of_ble_eq_true rfl) hl.1 dX7_primary_130 (fun μ304 ρ d0 H locs hp G => ?_)
            obtain ⟨F_305, hI_306, hp_307, hp_308, hp_309, hp_310, hp_311, hp_312, hs_313, hs_314, hs_315, hs_316, hs_317, hs_318, hs_319, hs_320, hs_321⟩ := hp
            have hn_322 : -1 ≤ μ304.1 26 10 ∧ μ304.1 26 10 ≤ 3000 := hI_306.nm.2.2.2.2.2.2.2.2.2.2.2.2
            have hk_323 := hI_306.pr (p := P) hprP
            unfold pk at hk_323
            have hc_324 : 16 ≤ μ304.2.1 (P + 1) ∧ μ304.2.1 (P + 1) ≤ 73024 := hI_306.rm.1 _ hprP.cap
            have hk_325 := hI_306.row (r := P + 2) (hprP.row)
            unfold rk at hk_325
            have htb_326 := hp_307.b
            have hpx_327 : μ304.1 26 11 = 0 → PXE μ μ304 P tt 1 (-1) 1 := fun h0 => (PXE.app (hpx_287 (by have h9 : μ37.1 26 11 = μ.1 26 11 := (hs_44.trans (hs_28.trans hs_12)); have h8 : μ304.1 26 11 = μ304.1 26 11 := rfl; omega)) (hp_312 h0)).e (by omega)
            refine lv_aload_n hx hb dX7_primary_133 rfl (lv_at hl 1 rfl) ?_
            refine lv_bipush (v := iv 10) hx hb dX7_primary_134 rfl ?_
            refine lv_iconst (v := iv 0) hx hb dX7_primary_136 rfl ?_
            refine lv_iconst (v := iv 0) hx hb dX7_primary_137 rfl ?_
            refine lv_aload_n hx hb dX7_primary_138 rfl (lv_at hl 1 rfl) ?_
            refine lv_iconst (v := iv (-1)) hx hb dX7_primary_139 rfl ?_
            refine lv_iconst (v := iv 0) hx hb dX7_primary_140 rfl ?_
            have e_328 : μ304.1 23 2 = P := (hs_313.trans ((F_39.1 23 (by decide) 2).trans ((F_23.1 23 (by decide) 2).trans ((F_7.1 23 (by decide) 2).trans hP.symm))))
            have e_329 : μ304.1 23 8 = tt := (hs_317.trans ((F_39.1 23 (by decide) 8).trans ((F_23.1 23 (by decide) 8).trans ((F_7.1 23 (by decide) 8).trans htt.symm))))
            refine xc_iV G (b := 23) (rest := [.int (iv 0), .int (iv 0), .int (iv 10), .ref (oP ω 23)]) (As := [.int (iv (-1)), .int (iv 0)]) (c_X7_ifFails ω l μ304 (-1) 0 μ (1) (1) P tt (by unfold ir; omega) (by unfold ir; omega) hI_306 (by omega) (by omega) (by omega) hpx_327 (by omega) (by omega)) (wm 4 23 rfl rfl) (wm 4 25 rfl rfl) (wm 0 29 rfl rfl) rfl rfl (by decide) rfl (wm 1 12 rfl rfl) (wm 4 26 rfl rfl) (by decide) hR ⟨nfr hF (by decide), nlo hLo (by decide)⟩ (n := 2) rfl rfl (Nat.le_of_ble_eq_true rfl) hl.1 dX7_primary_141 (fun r_331 μ330 ρ d0 H locs hr_r_331 hp G => ?_)
            have hr_r_331 : -2147483648 ≤ r_331 ∧ r_331 ≤ 2147483647 := hr_r_331
            obtain ⟨F_332, hI_333, hp_334, hp_335, hs_336⟩ := hp
            have hk_337 := hI_333.pr (p := P) hprP
            unfold pk at hk_337
            have hc_338 : 16 ≤ μ330.2.1 (P + 1) ∧ μ330.2.1 (P + 1) ≤ 73024 := hI_333.rm.1 _ hprP.cap
            have hpx_339 : μ330.1 26 11 = 0 → PXE μ μ330 P tt 1 r_331 1 := fun h0 => hp_334 (by have h9 : μ304.1 26 11 = μ304.1 26 11 := rfl; have h8 : μ330.1 26 11 = μ304.1 26 11 := (F_332.1 26 (ni hprP (fun P => 26) (fun P => [P, P + 1]) rfl) 11); omega)
            clear hp_334
            have e_340 : μ330.1 23 2 = P := ((F_332.1 23 (ni hprP (fun P => 23) (fun P => [P, P + 1]) rfl) 2).trans (hs_313.trans ((F_39.1 23 (by decide) 2).trans ((F_23.1 23 (by decide) 2).trans ((F_7.1 23 (by decide) 2).trans hP.symm)))))
            have e_341 : μ330.1 23 8 = tt := ((F_332.1 23 (ni hprP (fun P => 23) (fun P => [P, P + 1]) rfl) 8).trans (hs_317.trans ((F_39.1 23 (by decide) 8).trans ((F_23.1 23 (by decide) 8).trans ((F_7.1 23 (by decide) 8).trans htt.symm)))))
            refine xc_vV G (b := 23) (rest := []) (As := [.int (iv 10), .int (iv 0), .int (iv 0), .int (iv r_331)]) (c_X7_endOfParts ω l μ330 10 0 0 r_331 μ (1) (1) P tt (by unfold ir; omega) (by unfold ir; omega) (by unfold ir; omega) (by unfold ir; omega) hI_333 (by omega) (by omega) (by omega) hpx_339 (Or.inl (by unfold plain; omega)) (by omega) (by rw [show eff 10 0 = 0 from rfl]; omega)) (wm 4 27 rfl rfl) (wm 4 29 rfl rfl) (wm 0 30 rfl rfl) rfl rfl (by decide) rfl (wm 1 12 rfl rfl) (wm 4 30 rfl rfl) (by decide) hR ⟨nfr hF (by decide), nlo hLo (by decide)⟩ (n := 4) rfl rfl (Nat.le_of_ble_eq_true rfl) hl.1 dX7_primary_144 (fun μ342 ρ d0 H locs hp G => ?_)
            obtain ⟨F_343, hI_344, hp_345, hs_346, hs_347⟩ := hp
            have hpx_348 : μ342.1 26 11 = 0 → PXE μ μ342 P tt 1 (-1) 1 := fun h0 => PXE.of (hp_345 (by have h9 : μ330.1 26 11 = μ304.1 26 11 := (F_332.1 26 (ni hprP (fun P => 26) (fun P => [P, P + 1]) rfl) 11); have h8 : μ342.1 26 11 = μ304.1 26 11 := ((F_343.1 26 (ni hprP (fun P => 26) (fun P => [P, P + 1]) rfl) 11).trans (F_332.1 26 (ni hprP (fun P => 26) (fun P => [P, P + 1]) rfl) 11)); omega))
            clear hp_345
            refine lv_goto (tgt := 238) hx hb dX7_primary_147 (by decide) ?_
            have htk_349 : TK μ342 := hp_307.fr (K := [P, P + 1]) (Fr.tr (Fr.tr Fr.rf F_332 (si hprP (fun P => [P, P + 1]) (fun P => [P, P + 1]) rfl)) F_343 (si hprP (fun P => [P, P + 1]) (fun P => [P, P + 1]) rfl)) (ni hprP (fun P => 26) (fun P => [P, P + 1]) rfl) (ni hprP (fun P => 28) (fun P => [P, P + 1]) rfl)
            have e_350 : μ342.1 26 11 = μ304.1 26 11 := ((F_343.1 26 (ni hprP (fun P => 26) (fun P => [P, P + 1]) rfl) 11).trans (F_332.1 26 (ni hprP (fun P => 26) (fun P => [P, P + 1]) rfl) 11))
            have e_351 : μ342.1 26 11 = μ304.1 26 11 := ((F_343.1 26 (ni hprP (fun P => 26) (fun P => [P, P + 1]) rfl) 11).trans (F_332.1 26 (ni hprP (fun P => 26) (fun P => [P, P + 1]) rfl) 11))
            have e_352 : μ342.1 26 10 = μ304.1 26 10 := ((F_343.1 26 (ni hprP (fun P => 26) (fun P => [P, P + 1]) rfl) 10).trans (F_332.1 26 (ni hprP (fun P => 26) (fun P => [P, P + 1]) rfl) 10))
            have e_353 : μ342.1 P 1 = μ330.1 P 1 + 1 := hs_346
            have e_354 : μ342.1 P 1 = μ330.1 P 1 + 1 := hs_346
            have e_355 : μ342.1 26 10 = μ304.1 26 10 := ((F_343.1 26 (ni hprP (fun P => 26) (fun P => [P, P + 1]) rfl) 10).trans (F_332.1 26 (ni hprP (fun P => 26) (fun P => [P, P + 1]) rfl) 10))
            have e_356 : μ342.1 26 11 = μ304.1 26 11 := ((F_343.1 26 (ni hprP (fun P => 26) (fun P => [P, P + 1]) rfl) 11).trans (F_332.1 26 (ni hprP (fun P => 26) (fun P => [P, P + 1]) rfl) 11))
            have e_357 : μ342.1 (P + 2) 3 = μ304.1 (P + 2) 3 := ((F_343.1 (P + 2) (ni hprP (fun P => P + 2) (fun P => [P, P + 1]) rfl) 3).trans (F_332.1 (P + 2) (ni hprP (fun P => P + 2) (fun P => [P, P + 1]) rfl) 3))
            have e_358 : μ342.1 P 1 = μ330.1 P 1 + 1 := hs_346
            have e_359 : μ342.1 (P + 2) 3 = μ304.1 (P + 2) 3 := ((F_343.1 (P + 2) (ni hprP (fun P => P + 2) (fun P => [P, P + 1]) rfl) 3).trans (F_332.1 (P + 2) (ni hprP (fun P => P + 2) (fun P => [P, P + 1]) rfl) 3))
            exact xr_v G hret hlk dX7_primary_238 ⟨(Fr.tr (Fr.tr (Fr.tr (Fr.tr (Fr.tr (Fr.tr Fr.rf F_7 (si hprP (fun P => [26]) (fun P => [2, 3, 4, 23, 24, 26, P, P + 1, P + 2, (P + 2) + 1, (P + 2) + 2, (P + 2) + 3]) rfl)) F_23 (si hprP (fun P => [26]) (fun P => [2, 3, 4, 23, 24, 26, P, P + 1, P + 2, (P + 2) + 1, (P + 2) + 2, (P + 2) + 3]) rfl)) F_39 (si hprP (fun P => [26]) (fun P => [2, 3, 4, 23, 24, 26, P, P + 1, P + 2, (P + 2) + 1, (P + 2) + 2, (P + 2) + 3]) rfl)) F_305 (si hprP (fun P => [2, 3, 4, 23, 24, 26, P, P + 1, P + 2, (P + 2) + 1, (P + 2) + 2, (P + 2) + 3]) (fun P => [2, 3, 4, 23, 24, 26, P, P + 1, P + 2, (P + 2) + 1, (P + 2) + 2, (P + 2) + 3]) rfl)) F_332 (si hprP (fun P => [P, P + 1]) (fun P => [2, 3, 4, 23, 24, 26, P, P + 1, P + 2, (P + 2) + 1, (P + 2) + 2, (P + 2) + 3]) rfl)) F_343 (si hprP (fun P => [P, P + 1]) (fun P => [2, 3, 4, 23, 24, 26, P, P + 1, P + 2, (P + 2) + 1, (P + 2) + 2, (P + 2) + 3]) rfl)), hI_344, htk_349, (by omega), (by omega), (by omega), (by omega), (fun h0 => (PXE.ex (hpx_348 h0)).e (by omega)), (((F_343.1 23 (ni hprP (fun P => 23) (fun P => [P, P + 1]) rfl) 2).trans ((F_332.1 23 (ni hprP (fun P => 23) (fun P => [P, P + 1]) rfl) 2).trans (hs_313.trans ((F_39.1 23 (by decide) 2).trans ((F_23.1 23 (by decide) 2).trans ((F_7.1 23 (by decide) 2).trans hP.symm))))))).trans hP, ((F_343.1 23 (ni hprP (fun P => 23) (fun P => [P, P + 1]) rfl) 5).trans ((F_332.1 23 (ni hprP (fun P => 23) (fun P => [P, P + 1]) rfl) 5).trans (hs_314.trans ((F_39.1 23 (by decide) 5).trans ((F_23.1 23 (by decide) 5).trans (F_7.1 23 (by decide) 5)))))), ((F_343.1 23 (ni hprP (fun P => 23) (fun P => [P, P + 1]) rfl) 6).trans ((F_332.1 23 (ni hprP (fun P => 23) (fun P => [P, P + 1]) rfl) 6).trans (hs_315.trans ((F_39.1 23 (by decide) 6).trans ((F_23.1 23 (by decide) 6).trans (F_7.1 23 (by decide) 6)))))), ((F_343.1 23 (ni hprP (fun P => 23) (fun P => [P, P + 1]) rfl) 7).trans ((F_332.1 23 (ni hprP (fun P => 23) (fun P => [P, P + 1]) rfl) 7).trans (hs_316.trans ((F_39.1 23 (by decide) 7).trans ((F_23.1 23 (by decide) 7).trans (F_7.1 23 (by decide) 7)))))), (((F_343.1 23 (ni hprP (fun P => 23) (fun P => [P, P + 1]) rfl) 8).trans ((F_332.1 23 (ni hprP (fun P => 23) (fun P => [P, P + 1]) rfl) 8).trans (hs_317.trans ((F_39.1 23 (by decide) 8).trans ((F_23.1 23 (by decide) 8).trans ((F_7.1 23 (by decide) 8).trans htt.symm))))))).trans htt, ((F_343.1 23 (ni hprP (fun P => 23) (fun P => [P, P + 1]) rfl) 9).trans ((F_332.1 23 (ni hprP (fun P => 23) (fun P => [P, P + 1]) rfl) 9).trans (hs_318.trans ((F_39.1 23 (by decide) 9).trans ((F_23.1 23 (by decide) 9).trans (F_7.1 23 (by decide) 9)))))), ((F_343.1 23 (ni hprP (fun P => 23) (fun P => [P, P + 1]) rfl) 10).trans ((F_332.1 23 (ni hprP (fun P => 23) (fun P => [P, P + 1]) rfl) 10).trans (hs_319.trans ((F_39.1 23 (by decide) 10).trans ((F_23.1 23 (by decide) 10).trans (F_7.1 23 (by decide) 10)))))), ((F_343.1 26 (ni hprP (fun P => 26) (fun P => [P, P + 1]) rfl) 6).trans ((F_332.1 26 (ni hprP (fun P => 26) (fun P => [P, P + 1]) rfl) 6).trans (hs_320.trans (hs_45.trans (hs_29.trans hs_13))))), (hs_347.trans (hs_336.trans (hs_321.trans ((F_39.1 P (ni hprP (fun P => P) (fun P => [26]) rfl) 7).trans ((F_23.1 P (ni hprP (fun P => P) (fun P => [26]) rfl) 7).trans (F_7.1 P (ni hprP (fun P => P) (fun P => [26]) rfl) 7))))))⟩
        · refine lv_aload_n hx hb dX7_primary_90 rfl (lv_at hl 1 rfl) ?_
          refine lv_bipush (v := iv 91) hx hb dX7_primary_91 rfl ?_
          refine lv_bipush (v := iv 93) hx hb dX7_primary_93 rfl ?_
          have hpx_360 : μ21.1 26 11 = 0 → PXE μ μ21 P tt 0 (-1) 1 := fun h0 => (hpx_19 (by have h9 : μ5.1 26 11 = μ.1 26 11 := hs_12; have h8 : μ21.1 26 11 = μ.1 26 11 := (hs_28.trans hs_12); omega)).fr (K := [26]) (Fr.tr Fr.rf F_23 (by decide)) (npL_p (L := [26]) (by decide) hprP).1 (npL_p (L := [26]) (by decide) hprP).2.1
          have e_361 : μ21.1 23 2 = P := ((F_23.1 23 (by decide) 2).trans ((F_7.1 23 (by decide) 2).trans hP.symm))
          have e_362 : μ21.1 23 8 = tt := ((F_23.1 23 (by decide) 8).trans ((F_7.1 23 (by decide) 8).trans htt.symm))
          have e_363 : μ21.1 P 1 = μ.1 P 1 := ((F_23.1 P (ni hprP (fun P => P) (fun P => [26]) rfl) 1).trans (F_7.1 P (ni hprP (fun P => P) (fun P => [26]) rfl) 1))
          have e_364 : μ21.1 26 11 = μ.1 26 11 := (hs_28.trans hs_12)
          have hk_365 := hI.row (r := P + 2) (hprP.row)
          unfold rk at hk_365
          have e_366 : μ21.1 (P + 2) 3 = μ.1 (P + 2) 3 := ((F_23.1 (P + 2) (ni hprP (fun P => P + 2) (fun P => [26]) rfl) 3).trans (F_7.1 (P + 2) (ni hprP (fun P => P + 2) (fun P => [26]) rfl) 3))
          have e_367 : μ21.1 P 1 = μ.1 P 1 := ((F_23.1 P (ni hprP (fun P => P) (fun P => [26]) rfl) 1).trans (F_7.1 P (ni hprP (fun P => P) (fun P => [26]) rfl) 1))
          have e_368 : μ21.1 23 9 = μ.1 23 9 := ((F_23.1 23 (by decide) 9).trans (F_7.1 23 (by decide) 9))
          have e_369 : μ21.1 23 9 = μ.1 23 9 := ((F_23.1 23 (by decide) 9).trans (F_7.1 23 (by decide) 9))
          have e_370 : μ21.1 23 9 = μ.1 23 9 := ((F_23.1 23 (by decide) 9).trans (F_7.1 23 (by decide) 9))
          have e_371 : μ21.1 26 11 = μ.1 26 11 := (hs_28.trans hs_12)
          have e_372 : μ21.1 P 1 = μ.1 P 1 := ((F_23.1 P (ni hprP (fun P => P) (fun P => [26]) rfl) 1).trans (F_7.1 P (ni hprP (fun P => P) (fun P => [26]) rfl) 1))
          have e_373 : μ21.1 P 1 = μ.1 P 1 := ((F_23.1 P (ni hprP (fun P => P) (fun P => [26]) rfl) 1).trans (F_7.1 P (ni hprP (fun P => P) (fun P => [26]) rfl) 1))
          have e_374 : μ21.1 (P + 2) 3 = μ.1 (P + 2) 3 := ((F_23.1 (P + 2) (ni hprP (fun P => P + 2) (fun P => [26]) rfl) 3).trans (F_7.1 (P + 2) (ni hprP (fun P => P + 2) (fun P => [26]) rfl) 3))
          have e_375 : μ21.1 P 1 = μ.1 P 1 := ((F_23.1 P (ni hprP (fun P => P) (fun P => [26]) rfl) 1).trans (F_7.1 P (ni hprP (fun P => P) (fun P => [26]) rfl) 1))
          have e_376 : μ21.1 (P + 2) 3 = μ.1 (P + 2) 3 := ((F_23.1 (P + 2) (ni hprP (fun P => P + 2) (fun P => [26]) rfl) 3).trans (F_7.1 (P + 2) (ni hprP (fun P => P + 2) (fun P => [26]) rfl) 3))
          refine xc_vV G (b := 23) (rest := []) (As := [.int (iv 91), .int (iv 93)]) (c_X7_inBrackets ω l μ21 91 93 F Lo Fu Lu kf P tt (by unfold ir; omega) (by unfold ir; omega) hI_24 (by omega) (by omega) hF hLo hFu hLu hE hU hp_25 (by omega) (by omega) (by omega) (by omega) (by omega) (by omega) (by omega)) (wm 4 92 rfl rfl) (wm 4 94 rfl rfl) (wm 0 39 rfl rfl) rfl rfl (by decide) rfl (wm 1 12 rfl rfl) (wm 4 95 rfl rfl) (by decide) hR ⟨sfr (F := F) (a := 1) (by decide), slo (L := Lo) (m := 3) (a := 22) (by decide)⟩ (n := 2) rfl rfl (Nat.le_of_ble_eq_true rfl) hl.1 dX7_primary_95 (fun μ377 ρ d0 H locs hp G => ?_)
          obtain ⟨F_378, hI_379, hp_380, hp_381, hp_382, hp_383, hp_384, hp_385, hs_386, hs_387, hs_388, hs_389, hs_390, hs_391, hs_392, hs_393, hs_394⟩ := hp
          have hn_395 : -1 ≤ μ377.1 26 10 ∧ μ377.1 26 10 ≤ 3000 := hI_379.nm.2.2.2.2.2.2.2.2.2.2.2.2
          have hk_396 := hI_379.pr (p := P) hprP
          unfold pk at hk_396
          have hc_397 : 16 ≤ μ377.2.1 (P + 1) ∧ μ377.2.1 (P + 1) ≤ 73024 := hI_379.rm.1 _ hprP.cap
          have hk_398 := hI_379.row (r := P + 2) (hprP.row)
          unfold rk at hk_398
          have htb_399 := hp_380.b
          have hpx_400 : μ377.1 26 11 = 0 → PXE μ μ377 P tt 1 (-1) 1 := fun h0 => (PXE.app (hpx_360 (by have h9 : μ21.1 26 11 = μ.1 26 11 := (hs_28.trans hs_12); have h8 : μ377.1 26 11 = μ377.1 26 11 := rfl; omega)) (hp_385 h0)).e (by omega)
          refine lv_aload_n hx hb dX7_primary_98 rfl (lv_at hl 1 rfl) ?_
          refine lv_bipush (v := iv 9) hx hb dX7_primary_99 rfl ?_
          refine lv_iconst (v := iv 0) hx hb dX7_primary_101 rfl ?_
          refine lv_iconst (v := iv 0) hx hb dX7_primary_102 rfl ?_
          refine lv_aload_n hx hb dX7_primary_103 rfl (lv_at hl 1 rfl) ?_
          refine lv_iconst (v := iv (-1)) hx hb dX7_primary_104 rfl ?_
          refine lv_iconst (v := iv 0) hx hb dX7_primary_105 rfl ?_
          have e_401 : μ377.1 23 2 = P := (hs_386.trans ((F_23.1 23 (by decide) 2).trans ((F_7.1 23 (by decide) 2).trans hP.symm)))
          have e_402 : μ377.1 23 8 = tt := (hs_390.trans ((F_23.1 23 (by decide) 8).trans ((F_7.1 23 (by decide) 8).trans htt.symm)))
          refine xc_iV G (b := 23) (rest := [.int (iv 0), .int (iv 0), .int (iv 9), .ref (oP ω 23)]) (As := [.int (iv (-1)), .int (iv 0)]) (c_X7_ifFails ω l μ377 (-1) 0 μ (1) (1) P tt (by unfold ir; omega) (by unfold ir; omega) hI_379 (by omega) (by omega) (by omega) hpx_400 (by omega) (by omega)) (wm 4 23 rfl rfl) (wm 4 25 rfl rfl) (wm 0 29 rfl rfl) rfl rfl (by decide) rfl (wm 1 12 rfl rfl) (wm 4 26 rfl rfl) (by decide) hR ⟨nfr hF (by decide), nlo hLo (by decide)⟩ (n := 2) rfl rfl (Nat.le_of_ble_eq_true rfl) hl.1 dX7_primary_106 (fun r_404 μ403 ρ d0 H locs hr_r_404 hp G => ?_)
          have hr_r_404 : -2147483648 ≤ r_404 ∧ r_404 ≤ 2147483647 := hr_r_404
          obtain ⟨F_405, hI_406, hp_407, hp_408, hs_409⟩ := hp
          have hk_410 := hI_406.pr (p := P) hprP
          unfold pk at hk_410
          have hc_411 : 16 ≤ μ403.2.1 (P + 1) ∧ μ403.2.1 (P + 1) ≤ 73024 := hI_406.rm.1 _ hprP.cap
          have hpx_412 : μ403.1 26 11 = 0 → PXE μ μ403 P tt 1 r_404 1 := fun h0 => hp_407 (by have h9 : μ377.1 26 11 = μ377.1 26 11 := rfl; have h8 : μ403.1 26 11 = μ377.1 26 11 := (F_405.1 26 (ni hprP (fun P => 26) (fun P => [P, P + 1]) rfl) 11); omega)
          clear hp_407
          have e_413 : μ403.1 23 2 = P := ((F_405.1 23 (ni hprP (fun P => 23) (fun P => [P, P + 1]) rfl) 2).trans (hs_386.trans ((F_23.1 23 (by decide) 2).trans ((F_7.1 23 (by decide) 2).trans hP.symm))))
          have e_414 : μ403.1 23 8 = tt := ((F_405.1 23 (ni hprP (fun P => 23) (fun P => [P, P + 1]) rfl) 8).trans (hs_390.trans ((F_23.1 23 (by decide) 8).trans ((F_7.1 23 (by decide) 8).trans htt.symm))))
          refine xc_vV G (b := 23) (rest := []) (As := [.int (iv 9), .int (iv 0), .int (iv 0), .int (iv r_404)]) (c_X7_endOfParts ω l μ403 9 0 0 r_404 μ (1) (1) P tt (by unfold ir; omega) (by unfold ir; omega) (by unfold ir; omega) (by unfold ir; omega) hI_406 (by omega) (by omega) (by omega) hpx_412 (Or.inl (by unfold plain; omega)) (by omega) (by rw [show eff 9 0 = 0 from rfl]; omega)) (wm 4 27 rfl rfl) (wm 4 29 rfl rfl) (wm 0 30 rfl rfl) rfl rfl (by decide) rfl (wm 1 12 rfl rfl) (wm 4 30 rfl rfl) (by decide) hR ⟨nfr hF (by decide), nlo hLo (by decide)⟩ (n := 4) rfl rfl (Nat.le_of_ble_eq_true rfl) hl.1 dX7_primary_109 (fun μ415 ρ d0 H locs hp G => ?_)
          obtain ⟨F_416, hI_417, hp_418, hs_419, hs_420⟩ := hp
          have hpx_421 : μ415.1 26 11 = 0 → PXE μ μ415 P tt 1 (-1) 1 := fun h0 => PXE.of (hp_418 (by have h9 : μ403.1 26 11 = μ377.1 26 11 := (F_405.1 26 (ni hprP (fun P => 26) (fun P => [P, P + 1]) rfl) 11); have h8 : μ415.1 26 11 = μ377.1 26 11 := ((F_416.1 26 (ni hprP (fun P => 26) (fun P => [P, P + 1]) rfl) 11).trans (F_405.1 26 (ni hprP (fun P => 26) (fun P => [P, P + 1]) rfl) 11)); omega))
          clear hp_418
          refine lv_goto (tgt := 238) hx hb dX7_primary_112 (by decide) ?_
          have htk_422 : TK μ415 := hp_380.fr (K := [P, P + 1]) (Fr.tr (Fr.tr Fr.rf F_405 (si hprP (fun P => [P, P + 1]) (fun P => [P, P + 1]) rfl)) F_416 (si hprP (fun P => [P, P + 1]) (fun P => [P, P + 1]) rfl)) (ni hprP (fun P => 26) (fun P => [P, P + 1]) rfl) (ni hprP (fun P => 28) (fun P => [P, P + 1]) rfl)
          have e_423 : μ415.1 26 11 = μ377.1 26 11 := ((F_416.1 26 (ni hprP (fun P => 26) (fun P => [P, P + 1]) rfl) 11).trans (F_405.1 26 (ni hprP (fun P => 26) (fun P => [P, P + 1]) rfl) 11))
          have e_424 : μ415.1 26 11 = μ377.1 26 11 := ((F_416.1 26 (ni hprP (fun P => 26) (fun P => [P, P + 1]) rfl) 11).trans (F_405.1 26 (ni hprP (fun P => 26) (fun P => [P, P + 1]) rfl) 11))
          have e_425 : μ415.1 26 10 = μ377.1 26 10 := ((F_416.1 26 (ni hprP (fun P => 26) (fun P => [P, P + 1]) rfl) 10).trans (F_405.1 26 (ni hprP (fun P => 26) (fun P => [P, P + 1]) rfl) 10))
          have e_426 : μ415.1 P 1 = μ403.1 P 1 + 1 := hs_419
          have e_427 : μ415.1 P 1 = μ403.1 P 1 + 1 := hs_419
          have e_428 : μ415.1 26 10 = μ377.1 26 10 := ((F_416.1 26 (ni hprP (fun P => 26) (fun P => [P, P + 1]) rfl) 10).trans (F_405.1 26 (ni hprP (fun P => 26) (fun P => [P, P + 1]) rfl) 10))
          have e_429 : μ415.1 26 11 = μ377.1 26 11 := ((F_416.1 26 (ni hprP (fun P => 26) (fun P => [P, P + 1]) rfl) 11).trans (F_405.1 26 (ni hprP (fun P => 26) (fun P => [P, P + 1]) rfl) 11))
          have e_430 : μ415.1 (P + 2) 3 = μ377.1 (P + 2) 3 := ((F_416.1 (P + 2) (ni hprP (fun P => P + 2) (fun P => [P, P + 1]) rfl) 3).trans (F_405.1 (P + 2) (ni hprP (fun P => P + 2) (fun P => [P, P + 1]) rfl) 3))
          have e_431 : μ415.1 P 1 = μ403.1 P 1 + 1 := hs_419
          have e_432 : μ415.1 (P + 2) 3 = μ377.1 (P + 2) 3 := ((F_416.1 (P + 2) (ni hprP (fun P => P + 2) (fun P => [P, P + 1]) rfl) 3).trans (F_405.1 (P + 2) (ni hprP (fun P => P + 2) (fun P => [P, P + 1]) rfl) 3))
          exact xr_v G hret hlk dX7_primary_238 ⟨(Fr.tr (Fr.tr (Fr.tr (Fr.tr (Fr.tr Fr.rf F_7 (si hprP (fun P => [26]) (fun P => [2, 3, 4, 23, 24, 26, P, P + 1, P + 2, (P + 2) + 1, (P + 2) + 2, (P + 2) + 3]) rfl)) F_23 (si hprP (fun P => [26]) (fun P => [2, 3, 4, 23, 24, 26, P, P + 1, P + 2, (P + 2) + 1, (P + 2) + 2, (P + 2) + 3]) rfl)) F_378 (si hprP (fun P => [2, 3, 4, 23, 24, 26, P, P + 1, P + 2, (P + 2) + 1, (P + 2) + 2, (P + 2) + 3]) (fun P => [2, 3, 4, 23, 24, 26, P, P + 1, P + 2, (P + 2) + 1, (P + 2) + 2, (P + 2) + 3]) rfl)) F_405 (si hprP (fun P => [P, P + 1]) (fun P => [2, 3, 4, 23, 24, 26, P, P + 1, P + 2, (P + 2) + 1, (P + 2) + 2, (P + 2) + 3]) rfl)) F_416 (si hprP (fun P => [P, P + 1]) (fun P => [2, 3, 4, 23, 24, 26, P, P + 1, P + 2, (P + 2) + 1, (P + 2) + 2, (P + 2) + 3]) rfl)), hI_417, htk_422, (by omega), (by omega), (by omega), (by omega), (fun h0 => (PXE.ex (hpx_421 h0)).e (by omega)), (((F_416.1 23 (ni hprP (fun P => 23) (fun P => [P, P + 1]) rfl) 2).trans ((F_405.1 23 (ni hprP (fun P => 23) (fun P => [P, P + 1]) rfl) 2).trans (hs_386.trans ((F_23.1 23 (by decide) 2).trans ((F_7.1 23 (by decide) 2).trans hP.symm)))))).trans hP, ((F_416.1 23 (ni hprP (fun P => 23) (fun P => [P, P + 1]) rfl) 5).trans ((F_405.1 23 (ni hprP (fun P => 23) (fun P => [P, P + 1]) rfl) 5).trans (hs_387.trans ((F_23.1 23 (by decide) 5).trans (F_7.1 23 (by decide) 5))))), ((F_416.1 23 (ni hprP (fun P => 23) (fun P => [P, P + 1]) rfl) 6).trans ((F_405.1 23 (ni hprP (fun P => 23) (fun P => [P, P + 1]) rfl) 6).trans (hs_388.trans ((F_23.1 23 (by decide) 6).trans (F_7.1 23 (by decide) 6))))), ((F_416.1 23 (ni hprP (fun P => 23) (fun P => [P, P + 1]) rfl) 7).trans ((F_405.1 23 (ni hprP (fun P => 23) (fun P => [P, P + 1]) rfl) 7).trans (hs_389.trans ((F_23.1 23 (by decide) 7).trans (F_7.1 23 (by decide) 7))))), (((F_416.1 23 (ni hprP (fun P => 23) (fun P => [P, P + 1]) rfl) 8).trans ((F_405.1 23 (ni hprP (fun P => 23) (fun P => [P, P + 1]) rfl) 8).trans (hs_390.trans ((F_23.1 23 (by decide) 8).trans ((F_7.1 23 (by decide) 8).trans htt.symm)))))).trans htt, ((F_416.1 23 (ni hprP (fun P => 23) (fun P => [P, P + 1]) rfl) 9).trans ((F_405.1 23 (ni hprP (fun P => 23) (fun P => [P, P + 1]) rfl) 9).trans (hs_391.trans ((F_23.1 23 (by decide) 9).trans (F_7.1 23 (by decide) 9))))), ((F_416.1 23 (ni hprP (fun P => 23) (fun P => [P, P + 1]) rfl) 10).trans ((F_405.1 23 (ni hprP (fun P => 23) (fun P => [P, P + 1]) rfl) 10).trans (hs_392.trans ((F_23.1 23 (by decide) 10).trans (F_7.1 23 (by decide) 10))))), ((F_416.1 26 (ni hprP (fun P => 26) (fun P => [P, P + 1]) rfl) 6).trans ((F_405.1 26 (ni hprP (fun P => 26) (fun P => [P, P + 1]) rfl) 6).trans (hs_393.trans (hs_29.trans hs_13)))), (hs_420.trans (hs_409.trans (hs_394.trans ((F_23.1 P (ni hprP (fun P => P) (fun P => [26]) rfl) 7).trans (F_7.1 P (ni hprP (fun P => P) (fun P => [26]) rfl) 7)))))⟩
      · refine lv_aload_n hx hb dX7_primary_69 rfl (lv_at hl 1 rfl) ?_
        refine lv_iconst (v := iv 3) hx hb dX7_primary_70 rfl ?_
        refine lv_iconst (v := iv 0) hx hb dX7_primary_71 rfl ?_
        refine lv_iconst (v := iv 0) hx hb dX7_primary_72 rfl ?_
        have hpx_433 : μ5.1 26 11 = 0 → PXE μ μ5 P tt 0 (-1) 1 := fun h0 => (hnil (by have h9 : μ.1 26 11 = μ.1 26 11 := rfl; have h8 : μ5.1 26 11 = μ.1 26 11 := hs_12; omega)).fr (K := [26]) (Fr.tr Fr.rf F_7 (by decide)) (npL_p (L := [26]) (by decide) hprP).1 (npL_p (L := [26]) (by decide) hprP).2.1
        have e_434 : μ5.1 23 2 = P := ((F_7.1 23 (by decide) 2).trans hP.symm)
        have e_435 : μ5.1 P 1 = μ.1 P 1 := (F_7.1 P (ni hprP (fun P => P) (fun P => [26]) rfl) 1)
        have e_436 : μ5.1 P 1 = μ.1 P 1 := (F_7.1 P (ni hprP (fun P => P) (fun P => [26]) rfl) 1)
        have e_437 : μ5.1 P 1 = μ.1 P 1 := (F_7.1 P (ni hprP (fun P => P) (fun P => [26]) rfl) 1)
        refine xc_iV G (b := 23) (rest := []) (As := [.int (iv 3), .int (iv 0), .int (iv 0)]) (c_X7_add ω l μ5 3 0 0 P (by unfold ir; omega) (by unfold ir; omega) (by unfold ir; omega) hI_8 (by omega) (by omega)) (wm 3 226 rfl rfl) (wm 3 228 rfl rfl) (wm 0 21 rfl rfl) rfl rfl (by decide) rfl (wm 1 12 rfl rfl) (wm 3 229 rfl rfl) (by decide) hR ⟨nfr hF (by decide), nlo hLo (by decide)⟩ (n := 3) rfl rfl (Nat.le_of_ble_eq_true rfl) hl.1 dX7_primary_73 (fun r_439 μ438 ρ d0 H locs hr_r_439 hp G => ?_)
        have hr_r_439 : -2147483648 ≤ r_439 ∧ r_439 ≤ 2147483647 := hr_r_439
        obtain ⟨F_440, hI_441, hp_442, hp_443, hs_444, hs_445⟩ := hp
        have hpx_446 : μ438.1 26 11 = 0 → PXE μ μ438 P tt 1 (-1) 1 := fun h0 => (PXE.app (hpx_433 (by have h9 : μ5.1 26 11 = μ.1 26 11 := hs_12; have h8 : μ438.1 26 11 = μ.1 26 11 := ((F_440.1 26 (ni hprP (fun P => 26) (fun P => [P, P + 1]) rfl) 11).trans hs_12); omega)) (EX.pl hp_443 (by omega) (by unfold plain; omega) (e := 1) rfl (by have h9 := hs_1 (μ := μ5) (P := P) (i := μ5.1 P 1); omega))).e (by omega)
        refine lv_pop hx hb dX7_primary_76 rfl ?_
        refine lv_goto (tgt := 238) hx hb dX7_primary_77 (by decide) ?_
        have htk_447 : TK μ438 := hp_9.fr (K := [P, P + 1]) (Fr.tr Fr.rf F_440 (si hprP (fun P => [P, P + 1]) (fun P => [P, P + 1]) rfl)) (ni hprP (fun P => 26) (fun P => [P, P + 1]) rfl) (ni hprP (fun P => 28) (fun P => [P, P + 1]) rfl)
        have e_448 : μ438.1 26 11 = μ.1 26 11 := ((F_440.1 26 (ni hprP (fun P => 26) (fun P => [P, P + 1]) rfl) 11).trans hs_12)
        have e_449 : μ438.1 26 11 = μ.1 26 11 := ((F_440.1 26 (ni hprP (fun P => 26) (fun P => [P, P + 1]) rfl) 11).trans hs_12)
        have e_450 : μ438.1 26 10 = μ5.1 26 10 := (F_440.1 26 (ni hprP (fun P => 26) (fun P => [P, P + 1]) rfl) 10)
        have e_451 : μ438.1 P 1 = μ5.1 P 1 + 1 := hs_444
        have e_452 : μ438.1 P 1 = μ5.1 P 1 + 1 := hs_444
        have e_453 : μ438.1 26 10 = μ5.1 26 10 := (F_440.1 26 (ni hprP (fun P => 26) (fun P => [P, P + 1]) rfl) 10)
        have e_454 : μ438.1 26 11 = μ.1 26 11 := ((F_440.1 26 (ni hprP (fun P => 26) (fun P => [P, P + 1]) rfl) 11).trans hs_12)
        have e_455 : μ438.1 (P + 2) 3 = μ.1 (P + 2) 3 := ((F_440.1 (P + 2) (ni hprP (fun P => P + 2) (fun P => [P, P + 1]) rfl) 3).trans (F_7.1 (P + 2) (ni hprP (fun P => P + 2) (fun P => [26]) rfl) 3))
        have e_456 : μ438.1 P 1 = μ5.1 P 1 + 1 := hs_444
        have e_457 : μ438.1 (P + 2) 3 = μ.1 (P + 2) 3 := ((F_440.1 (P + 2) (ni hprP (fun P => P + 2) (fun P => [P, P + 1]) rfl) 3).trans (F_7.1 (P + 2) (ni hprP (fun P => P + 2) (fun P => [26]) rfl) 3))
        exact xr_v G hret hlk dX7_primary_238 ⟨(Fr.tr (Fr.tr Fr.rf F_7 (si hprP (fun P => [26]) (fun P => [2, 3, 4, 23, 24, 26, P, P + 1, P + 2, (P + 2) + 1, (P + 2) + 2, (P + 2) + 3]) rfl)) F_440 (si hprP (fun P => [P, P + 1]) (fun P => [2, 3, 4, 23, 24, 26, P, P + 1, P + 2, (P + 2) + 1, (P + 2) + 2, (P + 2) + 3]) rfl)), hI_441, htk_447, (by omega), (by omega), (by omega), (by omega), (fun h0 => (PXE.ex (hpx_446 h0)).e (by omega)), (((F_440.1 23 (ni hprP (fun P => 23) (fun P => [P, P + 1]) rfl) 2).trans ((F_7.1 23 (by decide) 2).trans hP.symm))).trans hP, ((F_440.1 23 (ni hprP (fun P => 23) (fun P => [P, P + 1]) rfl) 5).trans (F_7.1 23 (by decide) 5)), ((F_440.1 23 (ni hprP (fun P => 23) (fun P => [P, P + 1]) rfl) 6).trans (F_7.1 23 (by decide) 6)), ((F_440.1 23 (ni hprP (fun P => 23) (fun P => [P, P + 1]) rfl) 7).trans (F_7.1 23 (by decide) 7)), (((F_440.1 23 (ni hprP (fun P => 23) (fun P => [P, P + 1]) rfl) 8).trans ((F_7.1 23 (by decide) 8).trans htt.symm))).trans htt, ((F_440.1 23 (ni hprP (fun P => 23) (fun P => [P, P + 1]) rfl) 9).trans (F_7.1 23 (by decide) 9)), ((F_440.1 23 (ni hprP (fun P => 23) (fun P => [P, P + 1]) rfl) 10).trans (F_7.1 23 (by decide) 10)), ((F_440.1 26 (ni hprP (fun P => 26) (fun P => [P, P + 1]) rfl) 6).trans hs_13), (hs_445.trans (F_7.1 P (ni hprP (fun P => P) (fun P => [26]) rfl) 7))⟩
    · have hs0_ : μ.1 26 11 = 0 := hTK.k.resolve_right (by omega)
      refine lv_aload_n hx hb dX7_primary_52 rfl (lv_at hl 1 rfl) ?_
      have e_458 : μ.1 23 2 = P := hP.symm
      have e_459 : μ.1 23 8 = tt := htt.symm
      have hn_460 : -1 ≤ μ.1 26 10 ∧ μ.1 26 10 ≤ 3000 := hI.nm.2.2.2.2.2.2.2.2.2.2.2.2
      have hk_461 := hI.row (r := P + 2) (hprP.row)
      unfold rk at hk_461
      refine xc_vV G (b := 23) (rest := []) (As := []) (c_X7_number ω l μ F Lo Fu Lu kf P tt hI (by omega) (by omega) hF hLo hFu hLu hE hU hTK (by omega) (by omega) (by omega) (by omega) (by omega) (by omega)) (wm 4 96 rfl rfl) (wm 4 98 rfl rfl) (wm 0 40 rfl rfl) rfl rfl (by decide) rfl (wm 1 12 rfl rfl) (wm 4 99 rfl rfl) (by decide) hR ⟨sfr (F := F) (a := 0) (by decide), slo (L := Lo) (m := 6) (a := 0) (by decide)⟩ (n := 0) rfl rfl (Nat.le_of_ble_eq_true rfl) hl.1 dX7_primary_53 (fun μ462 ρ d0 H locs hp G => ?_)
      obtain ⟨F_463, hI_464, hp_465, hp_466, hp_467, hp_468, hp_469, hp_470, hs_471, hs_472, hs_473, hs_474, hs_475, hs_476, hs_477, hs_478, hs_479⟩ := hp
      have hn_480 : -1 ≤ μ462.1 26 10 ∧ μ462.1 26 10 ≤ 3000 := hI_464.nm.2.2.2.2.2.2.2.2.2.2.2.2
      have hk_481 := hI_464.pr (p := P) hprP
      unfold pk at hk_481
      have hc_482 : 16 ≤ μ462.2.1 (P + 1) ∧ μ462.2.1 (P + 1) ≤ 73024 := hI_464.rm.1 _ hprP.cap
      have hk_483 := hI_464.row (r := P + 2) (hprP.row)
      unfold rk at hk_483
      have htb_484 := hp_465.b
      have hpx_485 : μ462.1 26 11 = 0 → PXE μ μ462 P tt 1 (-1) 1 := fun h0 => (PXE.app (hnil (by have h9 : μ.1 26 11 = μ.1 26 11 := rfl; have h8 : μ462.1 26 11 = μ462.1 26 11 := rfl; omega)) (hp_470 h0)).e (by omega)
      refine lv_goto (tgt := 238) hx hb dX7_primary_56 (by decide) ?_
      exact xr_v G hret hlk dX7_primary_238 ⟨(Fr.tr Fr.rf F_463 (si hprP (fun P => [2, 3, 4, 23, 24, 26, P, P + 1, P + 2, (P + 2) + 1, (P + 2) + 2, (P + 2) + 3]) (fun P => [2, 3, 4, 23, 24, 26, P, P + 1, P + 2, (P + 2) + 1, (P + 2) + 2, (P + 2) + 3]) rfl)), hI_464, hp_465, (by omega), (by omega), (by omega), (by omega), (fun h0 => (PXE.ex (hpx_485 h0)).e (by omega)), ((hs_471.trans hP.symm)).trans hP, hs_472, hs_473, hs_474, ((hs_475.trans htt.symm)).trans htt, hs_476, hs_477, hs_478, hs_479⟩
  · refine lv_aload_n hx hb dX7_primary_13 rfl (lv_at hl 1 rfl) ?_
    refine xa_getr G fd_X7 (a := 23) (x := 26) 0 rfl (by decide) rfl (wm 2 17 rfl rfl) ⟨rfl, rfl, rfl⟩ dX7_primary_14 rfl (G.sk 23 rfl) (by decide) rfl ?_
    refine xa_getN G fd_X10 (host := "FourTongues") (a := 26) 14 rfl (by decide) (by decide) ⟨rfl, rfl, rfl⟩ dX7_primary_17 rfl (v := .long (jv (μ.1 26 14))) (by rw [show μ.1 26 14 = μ.1 26 14 from rfl]; rfl) ?_
    have hj_486 : jr (μ.1 26 14) := by have h9 := G.hj (a := 26) (k := 14) rfl; exact h9
    refine lv_lstore_n (lv' := [(2, .long (jv (μ.1 26 14))), (1, .int (iv (μ.1 26 12))), (0, .ref (oP ω 23))]) hx hb dX7_primary_20 rfl hl (by decide) rfl (fun ls hl => ?_)
    refine lv_aload_n hx hb dX7_primary_21 rfl (lv_at hl 2 rfl) ?_
    refine xa_getr G fd_X7 (a := 23) (x := 26) 0 rfl (by decide) rfl (wm 2 17 rfl rfl) ⟨rfl, rfl, rfl⟩ dX7_primary_22 rfl (G.sk 23 rfl) (by decide) rfl ?_
    refine xa_getN G fd_X10 (host := "FourTongues") (a := 26) 13 rfl (by decide) (by decide) ⟨rfl, rfl, rfl⟩ dX7_primary_25 rfl (v := .int (iv (μ.1 26 13))) (by rw [show μ.1 26 13 = μ.1 26 13 from rfl]; rfl) ?_
    have hr_487 : -2147483648 ≤ μ.1 26 13 ∧ μ.1 26 13 ≤ 2147483647 := by have h9 := G.hr (a := 26) (k := 13) rfl; exact h9
    refine lv_istore (lv' := [(4, .int (iv (μ.1 26 13))), (2, .long (jv (μ.1 26 14))), (1, .int (iv (μ.1 26 12))), (0, .ref (oP ω 23))]) hx hb dX7_primary_28 hl (by decide) rfl (fun ls hl => ?_)
    refine lv_aload_n hx hb dX7_primary_30 rfl (lv_at hl 3 rfl) ?_
    refine xa_getr G fd_X7 (a := 23) (x := 26) 0 rfl (by decide) rfl (wm 2 17 rfl rfl) ⟨rfl, rfl, rfl⟩ dX7_primary_31 rfl (G.sk 23 rfl) (by decide) rfl ?_
    have hn_488 : 0 ≤ μ.1 26 6 ∧ μ.1 26 6 ≤ 3001 := hI.nm.2.2.2.2.2.2.2.2.2.1
    have hn_489 : -1 ≤ μ.1 26 10 ∧ μ.1 26 10 ≤ 3000 := hI.nm.2.2.2.2.2.2.2.2.2.2.2.2
    refine xc_vV G (b := 26) (rest := []) (As := []) (c_X10_next ω l μ  hI (by omega) (by omega)) (wm 3 164 rfl rfl) (wm 3 157 rfl rfl) (wm 3 158 rfl rfl) rfl rfl (by decide) rfl (wm 1 13 rfl rfl) (wm 3 159 rfl rfl) (by decide) hR ⟨nfr hF (by decide), nlo hLo (by decide)⟩ (n := 0) rfl rfl (Nat.le_of_ble_eq_true rfl) hl.1 dX7_primary_34 (fun μ490 ρ d0 H locs hp G => ?_)
    obtain ⟨F_491, hI_492, hp_493, hs_494, hs_495, hs_496, hs_497, hs_498⟩ := hp
    have hn_499 : -1 ≤ μ490.1 26 10 ∧ μ490.1 26 10 ≤ 3000 := hI_492.nm.2.2.2.2.2.2.2.2.2.2.2.2
    obtain ⟨htk_500, htk_500_s, htk_500_n⟩ := TK.nx hTK F_491 hs_495 hs_494 (by have h9 : μ.1 26 12 = μ.1 26 12 := rfl; omega) hp_493
    clear hp_493
    have htb_501 := htk_500.b
    refine lv_aload_n hx hb dX7_primary_37 rfl (lv_at hl 3 rfl) ?_
    refine lv_lload_n hx hb dX7_primary_38 rfl (lv_at hl 1 rfl) ?_
    refine lv_iload hx hb dX7_primary_39 (lv_at hl 0 rfl) ?_
    have hpx_502 : μ490.1 26 11 = 0 → PXE μ μ490 P tt 0 (-1) 1 := fun h0 => (hnil (by have h9 : μ.1 26 11 = μ.1 26 11 := rfl; have h8 : μ490.1 26 11 = μ.1 26 11 := hs_494; omega)).fr (K := [26]) (Fr.tr Fr.rf F_491 (by decide)) (npL_p (L := [26]) (by decide) hprP).1 (npL_p (L := [26]) (by decide) hprP).2.1
    have e_503 : μ490.1 23 2 = P := ((F_491.1 23 (by decide) 2).trans hP.symm)
    have e_504 : μ490.1 23 8 = tt := ((F_491.1 23 (by decide) 8).trans htt.symm)
    have e_505 : μ490.1 P 1 = μ.1 P 1 := (F_491.1 P (ni hprP (fun P => P) (fun P => [26]) rfl) 1)
    have e_506 : μ490.1 26 11 = μ.1 26 11 := hs_494
    have hk_507 := hI.row (r := P + 2) (hprP.row)
    unfold rk at hk_507
    have e_508 : μ490.1 (P + 2) 3 = μ.1 (P + 2) 3 := (F_491.1 (P + 2) (ni hprP (fun P => P + 2) (fun P => [26]) rfl) 3)
    have e_509 : μ490.1 P 1 = μ.1 P 1 := (F_491.1 P (ni hprP (fun P => P) (fun P => [26]) rfl) 1)
    have e_510 : μ490.1 23 9 = μ.1 23 9 := (F_491.1 23 (by decide) 9)
    have e_511 : μ490.1 23 9 = μ.1 23 9 := (F_491.1 23 (by decide) 9)
    have e_512 : μ490.1 23 9 = μ.1 23 9 := (F_491.1 23 (by decide) 9)
    have e_513 : μ490.1 26 11 = μ.1 26 11 := hs_494
    have e_514 : μ490.1 26 11 = μ.1 26 11 := hs_494
    have e_515 : μ490.1 P 1 = μ.1 P 1 := (F_491.1 P (ni hprP (fun P => P) (fun P => [26]) rfl) 1)
    have e_516 : μ490.1 P 1 = μ.1 P 1 := (F_491.1 P (ni hprP (fun P => P) (fun P => [26]) rfl) 1)
    have e_517 : μ490.1 (P + 2) 3 = μ.1 (P + 2) 3 := (F_491.1 (P + 2) (ni hprP (fun P => P + 2) (fun P => [26]) rfl) 3)
    have e_518 : μ490.1 P 1 = μ.1 P 1 := (F_491.1 P (ni hprP (fun P => P) (fun P => [26]) rfl) 1)
    have e_519 : μ490.1 (P + 2) 3 = μ.1 (P + 2) 3 := (F_491.1 (P + 2) (ni hprP (fun P => P + 2) (fun P => [26]) rfl) 3)
    refine xc_vV G (b := 23) (rest := []) (As := [.long (jv (μ.1 26 14)), .int (iv (μ.1 26 13))]) (c_X7_afterName ω l μ490 (μ.1 26 14) (μ.1 26 13) F Lo Fu Lu kf P tt hj_486 (by unfold ir; omega) hI_492 (by omega) (by omega) hF hLo hFu hLu hE hU htk_500 (by omega) (by omega) (by omega) (by omega) (by omega) (by omega)) (wm 4 59 rfl rfl) (wm 4 61 rfl rfl) (wm 0 35 rfl rfl) rfl rfl (by decide) rfl (wm 1 12 rfl rfl) (wm 4 62 rfl rfl) (by decide) hR ⟨sfr (F := F) (a := 3) (by decide), slo (L := Lo) (m := 5) (a := 66) (by decide)⟩ (n := 2) rfl rfl (Nat.le_of_ble_eq_true rfl) hl.1 dX7_primary_41 (fun μ520 ρ d0 H locs hp G => ?_)
    obtain ⟨F_521, hI_522, hp_523, hp_524, hp_525, hp_526, hp_527, hp_528, hs_529, hs_530, hs_531, hs_532, hs_533, hs_534, hs_535, hs_536, hs_537⟩ := hp
    have hn_538 : -1 ≤ μ520.1 26 10 ∧ μ520.1 26 10 ≤ 3000 := hI_522.nm.2.2.2.2.2.2.2.2.2.2.2.2
    have hk_539 := hI_522.pr (p := P) hprP
    unfold pk at hk_539
    have hc_540 : 16 ≤ μ520.2.1 (P + 1) ∧ μ520.2.1 (P + 1) ≤ 73024 := hI_522.rm.1 _ hprP.cap
    have hk_541 := hI_522.row (r := P + 2) (hprP.row)
    unfold rk at hk_541
    have htb_542 := hp_523.b
    have hpx_543 : μ520.1 26 11 = 0 → PXE μ μ520 P tt 1 (-1) 1 := fun h0 => (PXE.app (hpx_502 (by have h9 : μ490.1 26 11 = μ.1 26 11 := hs_494; have h8 : μ520.1 26 11 = μ520.1 26 11 := rfl; omega)) (hp_528 h0)).e (by omega)
    refine lv_goto (tgt := 238) hx hb dX7_primary_44 (by decide) ?_
    exact xr_v G hret hlk dX7_primary_238 ⟨(Fr.tr (Fr.tr Fr.rf F_491 (si hprP (fun P => [26]) (fun P => [2, 3, 4, 23, 24, 26, P, P + 1, P + 2, (P + 2) + 1, (P + 2) + 2, (P + 2) + 3]) rfl)) F_521 (si hprP (fun P => [2, 3, 4, 23, 24, 26, P, P + 1, P + 2, (P + 2) + 1, (P + 2) + 2, (P + 2) + 3]) (fun P => [2, 3, 4, 23, 24, 26, P, P + 1, P + 2, (P + 2) + 1, (P + 2) + 2, (P + 2) + 3]) rfl)), hI_522, hp_523, (by omega), (by omega), (by omega), (by omega), (fun h0 => (PXE.ex (hpx_543 h0)).e (by omega)), ((hs_529.trans ((F_491.1 23 (by decide) 2).trans hP.symm))).trans hP, (hs_530.trans (F_491.1 23 (by decide) 5)), (hs_531.trans (F_491.1 23 (by decide) 6)), (hs_532.trans (F_491.1 23 (by decide) 7)), ((hs_533.trans ((F_491.1 23 (by decide) 8).trans htt.symm))).trans htt, (hs_534.trans (F_491.1 23 (by decide) 9)), (hs_535.trans (F_491.1 23 (by decide) 10)), (hs_536.trans hs_495), (hs_537.trans (F_491.1 P (ni hprP (fun P => P) (fun P => [26]) rfl) 7))⟩
