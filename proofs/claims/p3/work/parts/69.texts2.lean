abbrev cX7_faultKind : ByteArray := prog_9_method_2_code
def yX7_faultKind : MethodName := ⟨RX7, "faultKind", "()I"⟩
abbrev cX7_faultPlace : ByteArray := prog_9_method_3_code
def yX7_faultPlace : MethodName := ⟨RX7, "faultPlace", "()I"⟩
abbrev cX7_parse : ByteArray := prog_9_method_4_code
def yX7_parse : MethodName := ⟨RX7, "parse", "(IILFourTongues$Program;)V"⟩
abbrev cX7_function : ByteArray := prog_9_method_15_code
def yX7_function : MethodName := ⟨RX7, "function", "()V"⟩
theorem dX7_faultKind_0 : decode cX7_faultKind 0 = .ok (.iconst 1, 1) := by decide +kernel
theorem dX7_faultKind_1 : decode cX7_faultKind 1 = .ok (.istore_n 1, 1) := by decide +kernel
theorem dX7_faultKind_2 : decode cX7_faultKind 2 = .ok (.iload_n 1, 1) := by decide +kernel
theorem dX7_faultKind_3 : decode cX7_faultKind 3 = .ok (.iconst 3, 1) := by decide +kernel
theorem dX7_faultKind_4 : decode cX7_faultKind 4 = .ok (.if_icmp .gt 20, 3) := by decide +kernel
theorem dX7_faultKind_7 : decode cX7_faultKind 7 = .ok (.aload_n 0, 1) := by decide +kernel
theorem dX7_faultKind_8 : decode cX7_faultKind 8 = .ok (.getfield 9, 3) := by decide +kernel
theorem dX7_faultKind_11 : decode cX7_faultKind 11 = .ok (.iload_n 1, 1) := by decide +kernel
theorem dX7_faultKind_12 : decode cX7_faultKind 12 = .ok (.iaload, 1) := by decide +kernel
theorem dX7_faultKind_13 : decode cX7_faultKind 13 = .ok (.ifCond .lt 5, 3) := by decide +kernel
theorem dX7_faultKind_16 : decode cX7_faultKind 16 = .ok (.iload_n 1, 1) := by decide +kernel
theorem dX7_faultKind_17 : decode cX7_faultKind 17 = .ok (.ireturn, 1) := by decide +kernel
theorem dX7_faultKind_18 : decode cX7_faultKind 18 = .ok (.iinc 1 1, 3) := by decide +kernel
theorem dX7_faultKind_21 : decode cX7_faultKind 21 = .ok (.goto (-19), 3) := by decide +kernel
theorem dX7_faultKind_24 : decode cX7_faultKind 24 = .ok (.iconst 0, 1) := by decide +kernel
theorem dX7_faultKind_25 : decode cX7_faultKind 25 = .ok (.ireturn, 1) := by decide +kernel
theorem dX7_faultPlace_0 : decode cX7_faultPlace 0 = .ok (.aload_n 0, 1) := by decide +kernel
theorem dX7_faultPlace_1 : decode cX7_faultPlace 1 = .ok (.getfield 9, 3) := by decide +kernel
theorem dX7_faultPlace_4 : decode cX7_faultPlace 4 = .ok (.aload_n 0, 1) := by decide +kernel
theorem dX7_faultPlace_5 : decode cX7_faultPlace 5 = .ok (.invokevirtual 55, 3) := by decide +kernel
theorem dX7_faultPlace_8 : decode cX7_faultPlace 8 = .ok (.iaload, 1) := by decide +kernel
theorem dX7_faultPlace_9 : decode cX7_faultPlace 9 = .ok (.iconst 0, 1) := by decide +kernel
theorem dX7_faultPlace_10 : decode cX7_faultPlace 10 = .ok (.invokestatic 59, 3) := by decide +kernel
theorem dX7_faultPlace_13 : decode cX7_faultPlace 13 = .ok (.ireturn, 1) := by decide +kernel
theorem dX7_parse_0 : decode cX7_parse 0 = .ok (.aload_n 0, 1) := by decide +kernel
theorem dX7_parse_1 : decode cX7_parse 1 = .ok (.aload_n 3, 1) := by decide +kernel
theorem dX7_parse_2 : decode cX7_parse 2 = .ok (.putfield 51, 3) := by decide +kernel
theorem dX7_parse_5 : decode cX7_parse 5 = .ok (.aload_n 0, 1) := by decide +kernel
theorem dX7_parse_6 : decode cX7_parse 6 = .ok (.getfield 51, 3) := by decide +kernel
theorem dX7_parse_9 : decode cX7_parse 9 = .ok (.invokevirtual 65, 3) := by decide +kernel
theorem dX7_parse_12 : decode cX7_parse 12 = .ok (.aload_n 0, 1) := by decide +kernel
theorem dX7_parse_13 : decode cX7_parse 13 = .ok (.iload_n 1, 1) := by decide +kernel
theorem dX7_parse_14 : decode cX7_parse 14 = .ok (.putfield 29, 3) := by decide +kernel
theorem dX7_parse_17 : decode cX7_parse 17 = .ok (.aload_n 0, 1) := by decide +kernel
theorem dX7_parse_18 : decode cX7_parse 18 = .ok (.iconst 0, 1) := by decide +kernel
theorem dX7_parse_19 : decode cX7_parse 19 = .ok (.putfield 32, 3) := by decide +kernel
theorem dX7_parse_22 : decode cX7_parse 22 = .ok (.aload_n 0, 1) := by decide +kernel
theorem dX7_parse_23 : decode cX7_parse 23 = .ok (.iconst 0, 1) := by decide +kernel
theorem dX7_parse_24 : decode cX7_parse 24 = .ok (.putfield 26, 3) := by decide +kernel
theorem dX7_parse_27 : decode cX7_parse 27 = .ok (.aload_n 0, 1) := by decide +kernel
theorem dX7_parse_28 : decode cX7_parse 28 = .ok (.getfield 9, 3) := by decide +kernel
theorem dX7_parse_31 : decode cX7_parse 31 = .ok (.iconst (-1), 1) := by decide +kernel
theorem dX7_parse_32 : decode cX7_parse 32 = .ok (.invokestatic 70, 3) := by decide +kernel
theorem dX7_parse_35 : decode cX7_parse 35 = .ok (.aload_n 0, 1) := by decide +kernel
theorem dX7_parse_36 : decode cX7_parse 36 = .ok (.getfield 43, 3) := by decide +kernel
theorem dX7_parse_39 : decode cX7_parse 39 = .ok (.iload_n 1, 1) := by decide +kernel
theorem dX7_parse_40 : decode cX7_parse 40 = .ok (.iload_n 2, 1) := by decide +kernel
theorem dX7_parse_41 : decode cX7_parse 41 = .ok (.invokevirtual 76, 3) := by decide +kernel
theorem dX7_parse_44 : decode cX7_parse 44 = .ok (.iconst 0, 1) := by decide +kernel
theorem dX7_parse_45 : decode cX7_parse 45 = .ok (.istore 4, 2) := by decide +kernel
theorem dX7_parse_47 : decode cX7_parse 47 = .ok (.iload 4, 2) := by decide +kernel
theorem dX7_parse_49 : decode cX7_parse 49 = .ok (.sipush 3000, 3) := by decide +kernel
theorem dX7_parse_52 : decode cX7_parse 52 = .ok (.if_icmp .ge 78, 3) := by decide +kernel
theorem dX7_parse_55 : decode cX7_parse 55 = .ok (.aload_n 0, 1) := by decide +kernel
theorem dX7_parse_56 : decode cX7_parse 56 = .ok (.getfield 43, 3) := by decide +kernel
theorem dX7_parse_59 : decode cX7_parse 59 = .ok (.getfield 80, 3) := by decide +kernel
theorem dX7_parse_62 : decode cX7_parse 62 = .ok (.ifCond .eq 68, 3) := by decide +kernel
theorem dX7_parse_65 : decode cX7_parse 65 = .ok (.aload_n 0, 1) := by decide +kernel
theorem dX7_parse_66 : decode cX7_parse 66 = .ok (.getfield 43, 3) := by decide +kernel
theorem dX7_parse_69 : decode cX7_parse 69 = .ok (.getfield 80, 3) := by decide +kernel
theorem dX7_parse_72 : decode cX7_parse 72 = .ok (.iconst 3, 1) := by decide +kernel
theorem dX7_parse_73 : decode cX7_parse 73 = .ok (.if_icmp .eq 57, 3) := by decide +kernel
theorem dX7_parse_76 : decode cX7_parse 76 = .ok (.aload_n 0, 1) := by decide +kernel
theorem dX7_parse_77 : decode cX7_parse 77 = .ok (.sipush 202, 3) := by decide +kernel
theorem dX7_parse_80 : decode cX7_parse 80 = .ok (.invokevirtual 83, 3) := by decide +kernel
theorem dX7_parse_83 : decode cX7_parse 83 = .ok (.ifCond .eq 10, 3) := by decide +kernel
theorem dX7_parse_86 : decode cX7_parse 86 = .ok (.aload_n 0, 1) := by decide +kernel
theorem dX7_parse_87 : decode cX7_parse 87 = .ok (.invokevirtual 87, 3) := by decide +kernel
theorem dX7_parse_90 : decode cX7_parse 90 = .ok (.goto 34, 3) := by decide +kernel
theorem dX7_parse_93 : decode cX7_parse 93 = .ok (.aload_n 0, 1) := by decide +kernel
theorem dX7_parse_94 : decode cX7_parse 94 = .ok (.getfield 29, 3) := by decide +kernel
theorem dX7_parse_97 : decode cX7_parse 97 = .ok (.ifCond .ne 20, 3) := by decide +kernel
theorem dX7_parse_100 : decode cX7_parse 100 = .ok (.aload_n 0, 1) := by decide +kernel
theorem dX7_parse_101 : decode cX7_parse 101 = .ok (.sipush 200, 3) := by decide +kernel
theorem dX7_parse_104 : decode cX7_parse 104 = .ok (.invokevirtual 83, 3) := by decide +kernel
theorem dX7_parse_107 : decode cX7_parse 107 = .ok (.ifCond .eq 10, 3) := by decide +kernel
theorem dX7_parse_110 : decode cX7_parse 110 = .ok (.aload_n 0, 1) := by decide +kernel
theorem dX7_parse_111 : decode cX7_parse 111 = .ok (.invokevirtual 90, 3) := by decide +kernel
theorem dX7_parse_114 : decode cX7_parse 114 = .ok (.goto 10, 3) := by decide +kernel
theorem dX7_parse_117 : decode cX7_parse 117 = .ok (.aload_n 0, 1) := by decide +kernel
theorem dX7_parse_118 : decode cX7_parse 118 = .ok (.getfield 43, 3) := by decide +kernel
theorem dX7_parse_121 : decode cX7_parse 121 = .ok (.invokevirtual 93, 3) := by decide +kernel
theorem dX7_parse_124 : decode cX7_parse 124 = .ok (.iinc 4 1, 3) := by decide +kernel
theorem dX7_parse_127 : decode cX7_parse 127 = .ok (.goto (-80), 3) := by decide +kernel
theorem dX7_parse_130 : decode cX7_parse 130 = .ok (.aload_n 0, 1) := by decide +kernel
theorem dX7_parse_131 : decode cX7_parse 131 = .ok (.getfield 43, 3) := by decide +kernel
theorem dX7_parse_134 : decode cX7_parse 134 = .ok (.getfield 80, 3) := by decide +kernel
theorem dX7_parse_137 : decode cX7_parse 137 = .ok (.iconst 3, 1) := by decide +kernel
theorem dX7_parse_138 : decode cX7_parse 138 = .ok (.if_icmp .ne 16, 3) := by decide +kernel
theorem dX7_parse_141 : decode cX7_parse 141 = .ok (.aload_n 0, 1) := by decide +kernel
theorem dX7_parse_142 : decode cX7_parse 142 = .ok (.getfield 9, 3) := by decide +kernel
theorem dX7_parse_145 : decode cX7_parse 145 = .ok (.iconst 1, 1) := by decide +kernel
theorem dX7_parse_146 : decode cX7_parse 146 = .ok (.aload_n 0, 1) := by decide +kernel
theorem dX7_parse_147 : decode cX7_parse 147 = .ok (.getfield 43, 3) := by decide +kernel
theorem dX7_parse_150 : decode cX7_parse 150 = .ok (.getfield 96, 3) := by decide +kernel
theorem dX7_parse_153 : decode cX7_parse 153 = .ok (.iastore, 1) := by decide +kernel
theorem dX7_parse_154 : decode cX7_parse 154 = .ok (.return_, 1) := by decide +kernel
theorem dX7_function_0 : decode cX7_function 0 = .ok (.aload_n 0, 1) := by decide +kernel
theorem dX7_function_1 : decode cX7_function 1 = .ok (.getfield 43, 3) := by decide +kernel
theorem dX7_function_4 : decode cX7_function 4 = .ok (.getfield 133, 3) := by decide +kernel
theorem dX7_function_7 : decode cX7_function 7 = .ok (.lstore_n 1, 1) := by decide +kernel
theorem dX7_function_8 : decode cX7_function 8 = .ok (.aload_n 0, 1) := by decide +kernel
theorem dX7_function_9 : decode cX7_function 9 = .ok (.getfield 43, 3) := by decide +kernel
theorem dX7_function_12 : decode cX7_function 12 = .ok (.getfield 96, 3) := by decide +kernel
theorem dX7_function_15 : decode cX7_function 15 = .ok (.istore_n 3, 1) := by decide +kernel
theorem dX7_function_16 : decode cX7_function 16 = .ok (.aload_n 0, 1) := by decide +kernel
theorem dX7_function_17 : decode cX7_function 17 = .ok (.iconst 1, 1) := by decide +kernel
theorem dX7_function_18 : decode cX7_function 18 = .ok (.invokevirtual 100, 3) := by decide +kernel
theorem dX7_function_21 : decode cX7_function 21 = .ok (.aload_n 0, 1) := by decide +kernel
theorem dX7_function_22 : decode cX7_function 22 = .ok (.dup, 1) := by decide +kernel
theorem dX7_function_23 : decode cX7_function 23 = .ok (.getfield 26, 3) := by decide +kernel
theorem dX7_function_26 : decode cX7_function 26 = .ok (.iconst 1, 1) := by decide +kernel
theorem dX7_function_27 : decode cX7_function 27 = .ok (.iadd, 1) := by decide +kernel
theorem dX7_function_28 : decode cX7_function 28 = .ok (.putfield 26, 3) := by decide +kernel
theorem dX7_function_31 : decode cX7_function 31 = .ok (.aload_n 0, 1) := by decide +kernel
theorem dX7_function_32 : decode cX7_function 32 = .ok (.getfield 26, 3) := by decide +kernel
theorem dX7_function_35 : decode cX7_function 35 = .ok (.bipush 40, 2) := by decide +kernel
theorem dX7_function_37 : decode cX7_function 37 = .ok (.if_icmp .le 9, 3) := by decide +kernel
theorem dX7_function_40 : decode cX7_function 40 = .ok (.aload_n 0, 1) := by decide +kernel
theorem dX7_function_41 : decode cX7_function 41 = .ok (.iconst 2, 1) := by decide +kernel
theorem dX7_function_42 : decode cX7_function 42 = .ok (.iload_n 3, 1) := by decide +kernel
theorem dX7_function_43 : decode cX7_function 43 = .ok (.invokevirtual 127, 3) := by decide +kernel
theorem dX7_function_46 : decode cX7_function 46 = .ok (.aload_n 0, 1) := by decide +kernel
theorem dX7_function_47 : decode cX7_function 47 = .ok (.getfield 51, 3) := by decide +kernel
theorem dX7_function_50 : decode cX7_function 50 = .ok (.lload_n 1, 1) := by decide +kernel
theorem dX7_function_51 : decode cX7_function 51 = .ok (.invokevirtual 141, 3) := by decide +kernel
theorem dX7_function_54 : decode cX7_function 54 = .ok (.ifCond .lt 9, 3) := by decide +kernel
theorem dX7_function_57 : decode cX7_function 57 = .ok (.aload_n 0, 1) := by decide +kernel
theorem dX7_function_58 : decode cX7_function 58 = .ok (.iconst 3, 1) := by decide +kernel
theorem dX7_function_59 : decode cX7_function 59 = .ok (.iload_n 3, 1) := by decide +kernel
theorem dX7_function_60 : decode cX7_function 60 = .ok (.invokevirtual 127, 3) := by decide +kernel
theorem dX7_function_63 : decode cX7_function 63 = .ok (.aload_n 0, 1) := by decide +kernel
theorem dX7_function_64 : decode cX7_function 64 = .ok (.getfield 51, 3) := by decide +kernel
theorem dX7_function_67 : decode cX7_function 67 = .ok (.lload_n 1, 1) := by decide +kernel
theorem dX7_function_68 : decode cX7_function 68 = .ok (.invokevirtual 144, 3) := by decide +kernel
theorem dX7_function_71 : decode cX7_function 71 = .ok (.aload_n 0, 1) := by decide +kernel
theorem dX7_function_72 : decode cX7_function 72 = .ok (.getfield 51, 3) := by decide +kernel
theorem dX7_function_75 : decode cX7_function 75 = .ok (.invokevirtual 148, 3) := by decide +kernel
theorem dX7_function_78 : decode cX7_function 78 = .ok (.iconst 1, 1) := by decide +kernel
theorem dX7_function_79 : decode cX7_function 79 = .ok (.isub, 1) := by decide +kernel
theorem dX7_function_80 : decode cX7_function 80 = .ok (.istore 4, 2) := by decide +kernel
theorem dX7_function_82 : decode cX7_function 82 = .ok (.aload_n 0, 1) := by decide +kernel
theorem dX7_function_83 : decode cX7_function 83 = .ok (.iconst 0, 1) := by decide +kernel
theorem dX7_function_84 : decode cX7_function 84 = .ok (.putfield 19, 3) := by decide +kernel
theorem dX7_function_87 : decode cX7_function 87 = .ok (.aload_n 0, 1) := by decide +kernel
theorem dX7_function_88 : decode cX7_function 88 = .ok (.iconst 0, 1) := by decide +kernel
theorem dX7_function_89 : decode cX7_function 89 = .ok (.putfield 23, 3) := by decide +kernel
theorem dX7_function_92 : decode cX7_function 92 = .ok (.aload_n 0, 1) := by decide +kernel
theorem dX7_function_93 : decode cX7_function 93 = .ok (.invokevirtual 151, 3) := by decide +kernel
theorem dX7_function_96 : decode cX7_function 96 = .ok (.aload_n 0, 1) := by decide +kernel
theorem dX7_function_97 : decode cX7_function 97 = .ok (.getfield 23, 3) := by decide +kernel
theorem dX7_function_100 : decode cX7_function 100 = .ok (.istore 5, 2) := by decide +kernel
theorem dX7_function_102 : decode cX7_function 102 = .ok (.aload_n 0, 1) := by decide +kernel
theorem dX7_function_103 : decode cX7_function 103 = .ok (.invokevirtual 154, 3) := by decide +kernel
theorem dX7_function_106 : decode cX7_function 106 = .ok (.aload_n 0, 1) := by decide +kernel
theorem dX7_function_107 : decode cX7_function 107 = .ok (.iconst 3, 1) := by decide +kernel
theorem dX7_function_108 : decode cX7_function 108 = .ok (.iconst 0, 1) := by decide +kernel
theorem dX7_function_109 : decode cX7_function 109 = .ok (.iconst 0, 1) := by decide +kernel
theorem dX7_function_110 : decode cX7_function 110 = .ok (.invokevirtual 157, 3) := by decide +kernel
theorem dX7_function_113 : decode cX7_function 113 = .ok (.pop, 1) := by decide +kernel
theorem dX7_function_114 : decode cX7_function 114 = .ok (.aload_n 0, 1) := by decide +kernel
theorem dX7_function_115 : decode cX7_function 115 = .ok (.bipush 21, 2) := by decide +kernel
theorem dX7_function_117 : decode cX7_function 117 = .ok (.iconst 0, 1) := by decide +kernel
theorem dX7_function_118 : decode cX7_function 118 = .ok (.iconst 0, 1) := by decide +kernel
theorem dX7_function_119 : decode cX7_function 119 = .ok (.invokevirtual 157, 3) := by decide +kernel
theorem dX7_function_122 : decode cX7_function 122 = .ok (.pop, 1) := by decide +kernel
theorem dX7_function_123 : decode cX7_function 123 = .ok (.aload_n 0, 1) := by decide +kernel
theorem dX7_function_124 : decode cX7_function 124 = .ok (.getfield 51, 3) := by decide +kernel
theorem dX7_function_127 : decode cX7_function 127 = .ok (.iload 4, 2) := by decide +kernel
theorem dX7_function_129 : decode cX7_function 129 = .ok (.iload 5, 2) := by decide +kernel
theorem dX7_function_131 : decode cX7_function 131 = .ok (.aload_n 0, 1) := by decide +kernel
theorem dX7_function_132 : decode cX7_function 132 = .ok (.getfield 19, 3) := by decide +kernel
theorem dX7_function_135 : decode cX7_function 135 = .ok (.invokevirtual 160, 3) := by decide +kernel
theorem dX7_function_138 : decode cX7_function 138 = .ok (.return_, 1) := by decide +kernel
set_option maxHeartbeats 4000000 in
set_option maxRecDepth 100000 in
theorem c_X7_function (ω : Om) (l : Launch) (μ : M3) (P : Int) (tt : Int) (hI : IC μ) (hP : P = μ.1 23 2) (htt : tt = μ.1 23 8) (hTK : TK μ) (hB : 2 * μ.1 P 1 ≤ 5 * μ.1 26 10 + 90 + 80 * μ.1 26 11) (hKc : μ.1 (P + 2) 3 ≤ μ.1 P 1) (ht3 : 0 ≤ tt ∧ tt ≤ 3) (hd0 : μ.1 23 9 = 0) (htl : 0 ≤ μ.1 23 7 ∧ μ.1 23 7 ≤ 5000) (hv9 : vrk μ) (hpg : ∀ _ : Unit, μ.1 26 11 = 0 → PG μ P tt) (hs0 : μ.1 26 11 = 0) : CtV ω l yX7_function cX7_function 6 251 7121 [.ref (oP ω 23)] μ (fun (μ' : M3) => (Fr [2, 3, 4, 23, 24, 25, 26, P, P + 1, P + 2, (P + 2) + 1, (P + 2) + 2, (P + 2) + 3, P + 6, P + 7, P + 8, P + 9] μ μ') ∧ (IC μ') ∧ (TK μ') ∧ (μ.1 26 11 ≤ μ'.1 26 11) ∧ (μ.1 26 10 ≤ μ'.1 26 10) ∧ (2 * μ'.1 P 1 ≤ 2 * μ.1 P 1 + 5 * (μ'.1 26 10 - μ.1 26 10) + 9 * μ'.1 26 11) ∧ (μ'.1 (P + 2) 3 ≤ μ'.1 P 1) ∧ (μ'.1 23 7 = μ.1 23 7 + 1 ∧ μ'.1 23 9 = 0) ∧ (vrk μ') ∧ (∀ _ : Unit, μ'.1 26 11 = 0 → PG μ' P tt) ∧ (μ'.1 23 2 = μ.1 23 2) ∧ (μ'.1 23 8 = μ.1 23 8)) := by
  refine CtV.go (by decide) (Nat.le_of_ble_eq_true rfl) (fun ρ p e s m below meth c R ls G hR hret hlk hl => ?_)
  have hx := G.1.1
  have hb := G.1.2.1
  have hl : lv_has ls 6 [(0, .ref (oP ω 23))] := hl
  generalize s.drawn = d0 at G ⊢
  have hTKb := hTK.b
  have hprP : isPr P := by have h9 := G.sr0.2.2.2.2.2; rw [← hP] at h9; exact h9
  have hprP_d : 13 ≤ P ∧ P ≤ 101 := by rcases hprP with h9 | h9 | h9 | h9 | h9 <;> omega
  have hk_1 := hI.pr (p := P) hprP
  unfold pk at hk_1
  have hc_2 : 16 ≤ μ.2.1 (P + 1) ∧ μ.2.1 (P + 1) ≤ 73024 := hI.rm.1 _ hprP.cap
  have hn_3 : 0 ≤ μ.1 23 5 ∧ μ.1 23 5 ≤ 1000 := hI.nm.2.2.2.2.2.2.2.2.1
  refine lv_aload_n hx hb dX7_function_0 rfl (lv_at hl 0 rfl) ?_
  refine xa_getr G fd_X7 (a := 23) (x := 26) 0 rfl (by decide) rfl (wm 2 17 rfl rfl) ⟨rfl, rfl, rfl⟩ dX7_function_1 rfl (G.sk 23 rfl) (by decide) rfl ?_
  refine xa_getN G fd_X10 (host := "FourTongues") (a := 26) 14 rfl (by decide) (by decide) ⟨rfl, rfl, rfl⟩ dX7_function_4 rfl (v := .long (jv (μ.1 26 14))) (by rw [show μ.1 26 14 = μ.1 26 14 from rfl]; rfl) ?_
  have hj_4 : jr (μ.1 26 14) := by have h9 := G.hj (a := 26) (k := 14) rfl; exact h9
  refine lv_lstore_n (lv' := [(1, .long (jv (μ.1 26 14))), (0, .ref (oP ω 23))]) hx hb dX7_function_7 rfl hl (by decide) rfl (fun ls hl => ?_)
  refine lv_aload_n hx hb dX7_function_8 rfl (lv_at hl 1 rfl) ?_
  refine xa_getr G fd_X7 (a := 23) (x := 26) 0 rfl (by decide) rfl (wm 2 17 rfl rfl) ⟨rfl, rfl, rfl⟩ dX7_function_9 rfl (G.sk 23 rfl) (by decide) rfl ?_
  refine xa_getN G fd_X10 (host := "FourTongues") (a := 26) 13 rfl (by decide) (by decide) ⟨rfl, rfl, rfl⟩ dX7_function_12 rfl (v := .int (iv (μ.1 26 13))) (by rw [show μ.1 26 13 = μ.1 26 13 from rfl]; rfl) ?_
  have hr_5 : -2147483648 ≤ μ.1 26 13 ∧ μ.1 26 13 ≤ 2147483647 := by have h9 := G.hr (a := 26) (k := 13) rfl; exact h9
  refine lv_istore_n (lv' := [(3, .int (iv (μ.1 26 13))), (1, .long (jv (μ.1 26 14))), (0, .ref (oP ω 23))]) hx hb dX7_function_15 rfl hl (by decide) rfl (fun ls hl => ?_)
  refine lv_aload_n hx hb dX7_function_16 rfl (lv_at hl 2 rfl) ?_
  refine lv_iconst (v := iv 1) hx hb dX7_function_17 rfl ?_
  have hn_6 : -1 ≤ μ.1 26 10 ∧ μ.1 26 10 ≤ 3000 := hI.nm.2.2.2.2.2.2.2.2.2.2.2.2
  have hn_7 : 0 ≤ μ.1 26 6 ∧ μ.1 26 6 ≤ 3001 := hI.nm.2.2.2.2.2.2.2.2.2.1
  have hn_8 : 0 ≤ μ.1 26 7 ∧ μ.1 26 7 ≤ 3000 := hI.nm.2.2.2.2.2.2.2.2.2.2.1
  have hn_9 : 0 ≤ μ.1 26 9 ∧ μ.1 26 9 ≤ 3000 := hI.nm.2.2.2.2.2.2.2.2.2.2.2.1
  refine xc_vV G (b := 23) (rest := []) (As := [.int (iv 1)]) (c_X7_need_b ω l μ 1 (by unfold ir; omega) hI hTK (by omega)) (wm 3 169 rfl rfl) (wm 3 171 rfl rfl) (wm 0 11 rfl rfl) rfl rfl (by decide) rfl (wm 1 12 rfl rfl) (wm 3 172 rfl rfl) (by decide) hR (by decide) (n := 1) rfl rfl (Nat.le_of_ble_eq_true rfl) hl.1 dX7_function_18 (fun μ10 ρ d0 H locs hp G => ?_)
  obtain ⟨F_11, hI_12, hp_13, hp_14, hp_15, hs_16, hs_17, hs_18, hs_19⟩ := hp
  have hn_20 : -1 ≤ μ10.1 26 10 ∧ μ10.1 26 10 ≤ 3000 := hI_12.nm.2.2.2.2.2.2.2.2.2.2.2.2
  have htb_21 := hp_13.b
  refine lv_aload_n hx hb dX7_function_21 rfl (lv_at hl 2 rfl) ?_
  refine lv_dup hx hb dX7_function_22 rfl ?_
  refine xa_geti G fd_X7 (a := 23) (x := μ.1 23 7) 7 rfl (by decide) rfl (wm 2 24 rfl rfl) ⟨rfl, rfl, rfl⟩ dX7_function_23 rfl (F_11.1 23 (by decide) 7) ?_
  have hr_22 : -2147483648 ≤ μ.1 23 7 ∧ μ.1 23 7 ≤ 2147483647 := by have h9 := G.hr (a := 23) (k := 7) rfl; rw [show μ10.1 23 7 = μ.1 23 7 from (F_11.1 23 (by decide) 7)] at h9; exact h9
  refine lv_iconst (v := iv 1) hx hb dX7_function_26 rfl ?_
  refine xb_iadd hx hb dX7_function_27 ?_
  refine xa_puti G fd_X7 (a := 23) (x := (μ.1 23 7) + 1) 7 (kz := 7) rfl rfl (by decide) rfl (by unfold ir; omega) (wm 2 24 rfl rfl) ⟨rfl, rfl, rfl, rfl⟩ rfl dX7_function_28 rfl (fun H locs G => ?_)
  refine lv_aload_n hx hb dX7_function_31 rfl (lv_at hl 2 rfl) ?_
  refine xa_geti G fd_X7 (a := 23) (x := (μ.1 23 7) + 1) 7 rfl (by decide) rfl (wm 2 24 rfl rfl) ⟨rfl, rfl, rfl⟩ dX7_function_32 rfl (sv_s _ _ _ _) ?_
  have hr_23 : -2147483648 ≤ (μ.1 23 7) + 1 ∧ (μ.1 23 7) + 1 ≤ 2147483647 := by have h9 := G.hr (a := 23) (k := 7) rfl; rw [show (sv μ10 23 7 ((μ.1 23 7) + 1)).1 23 7 = (μ.1 23 7) + 1 from (sv_s _ _ _ _)] at h9; exact h9
  refine lv_bipush (v := iv 40) hx hb dX7_function_35 rfl ?_
  refine xb_icmp_le (tgt := 46) hx hb (by unfold ir; omega) (by unfold ir; omega) dX7_function_37 (by decide) (fun c_37 => ?_) (fun c_37 => ?_)
  · refine lv_aload_n hx hb dX7_function_46 rfl (lv_at hl 2 rfl) ?_
    refine xa_getr G fd_X7 (a := 23) (x := P) 2 rfl (by decide) rfl (wm 2 19 rfl rfl) ⟨rfl, rfl, rfl⟩ dX7_function_47 rfl ((sv_n _ (by decide)).trans ((F_11.1 23 (by decide) 2).trans hP.symm)) (by omega) (hprP.hq ω ρ) ?_
    refine lv_lload_n hx hb dX7_function_50 rfl (lv_at hl 1 rfl) ?_
    have hI_24 : IC (sv μ10 23 7 ((μ.1 23 7) + 1)) := (IC.put hI_12 (by decide +kernel))
    refine xc_iV G (b := P) (rest := []) (As := [.long (jv (μ.1 26 14))]) (c_X8_find ω l (sv μ10 23 7 ((μ.1 23 7) + 1)) P (μ.1 26 14) hprP hj_4 hI_24) (wm 3 181 rfl rfl) (wm 3 182 rfl rfl) (wm 3 183 rfl rfl) hprP.ly rfl (by decide) (hprP.hq ω ρ) (wm 1 9 rfl rfl) (wm 3 184 rfl rfl) (by decide) hR (by decide) (n := 1) rfl rfl (Nat.le_of_ble_eq_true rfl) hl.1 dX7_function_51 (fun r_26 μ25 ρ d0 H locs hr_r_26 hp G => ?_)
    have hr_r_26 : -2147483648 ≤ r_26 ∧ r_26 ≤ 2147483647 := hr_r_26
    obtain ⟨hsm_27, hp_28⟩ := hp
    have hsm_27 := Eq.symm hsm_27
    subst hsm_27
    refine xb_if_lt (tgt := 63) hx hb (by unfold ir; omega) dX7_function_54 (by decide) (fun c_54 => ?_) (fun c_54 => ?_)
    · refine lv_aload_n hx hb dX7_function_63 rfl (lv_at hl 2 rfl) ?_
      refine xa_getr G fd_X7 (a := 23) (x := P) 2 rfl (by decide) rfl (wm 2 19 rfl rfl) ⟨rfl, rfl, rfl⟩ dX7_function_64 rfl ((sv_n _ (by decide)).trans ((F_11.1 23 (by decide) 2).trans hP.symm)) (by omega) (hprP.hq ω ρ) ?_
      refine lv_lload_n hx hb dX7_function_67 rfl (lv_at hl 1 rfl) ?_
      have htP_29 : ∀ _ : Unit, (sv μ10 23 7 ((μ.1 23 7) + 1)).1 26 11 = 0 → PG (sv μ10 23 7 ((μ.1 23 7) + 1)) P tt := fun _ h0 => PG.fr (K := [23, 26]) (hpg () (by have h9 : μ.1 26 11 = μ.1 26 11 := rfl; have h8 : (sv μ10 23 7 ((μ.1 23 7) + 1)).1 26 11 = μ10.1 26 11 := (sv_n _ (fun h9 => absurd h9.1 (by decide))); omega)) (Fr.put (Fr.tr Fr.rf F_11 (by decide)) (by decide)) (ni hprP (fun P => P) (fun P => [23, 26]) rfl) (ni hprP (fun P => P + 1) (fun P => [23, 26]) rfl) (ni hprP (fun P => P + 7) (fun P => [23, 26]) rfl)
      have e_30 : (sv μ10 23 7 ((μ.1 23 7) + 1)).1 P 7 = μ.1 P 7 := ((sv_n _ (fun h9 => (ni hprP (fun P => P) (fun P => [23]) rfl) (List.mem_singleton.2 h9.1))).trans (F_11.1 P (ni hprP (fun P => P) (fun P => [26]) rfl) 7))
      have e_31 : (sv μ10 23 7 ((μ.1 23 7) + 1)).1 P 7 = μ.1 P 7 := ((sv_n _ (fun h9 => (ni hprP (fun P => P) (fun P => [23]) rfl) (List.mem_singleton.2 h9.1))).trans (F_11.1 P (ni hprP (fun P => P) (fun P => [26]) rfl) 7))
      have e_32 : (sv μ10 23 7 ((μ.1 23 7) + 1)).1 P 1 = μ.1 P 1 := ((sv_n _ (fun h9 => (ni hprP (fun P => P) (fun P => [23]) rfl) (List.mem_singleton.2 h9.1))).trans (F_11.1 P (ni hprP (fun P => P) (fun P => [26]) rfl) 1))
      refine xc_vV G (b := P) (rest := []) (As := [.long (jv (μ.1 26 14))]) (c_X8_addFunction_b ω l (sv μ10 23 7 ((μ.1 23 7) + 1)) P (μ.1 26 14) (μ.1 P 7) hprP hj_4 hI_24 (by omega) (by omega)) (wm 3 185 rfl rfl) (wm 3 186 rfl rfl) (wm 3 187 rfl rfl) hprP.ly rfl (by decide) (hprP.hq ω ρ) (wm 1 9 rfl rfl) (wm 3 188 rfl rfl) (by decide) hR (by decide) (n := 1) rfl rfl (Nat.le_of_ble_eq_true rfl) hl.1 dX7_function_68 (fun μ33 ρ d0 H locs hp G => ?_)
      obtain ⟨F_34, hI_35, hp_36, hp_37, hs_38⟩ := hp
      have hk_39 := hI_35.pr (p := P) hprP
      unfold pk at hk_39
      have hc_40 : 16 ≤ μ33.2.1 (P + 1) ∧ μ33.2.1 (P + 1) ≤ 73024 := hI_35.rm.1 _ hprP.cap
      replace hp_37 := fun _ : Unit => hp_37
      have hX_41 : ∀ _ : Unit, μ33.1 26 11 = 0 → PG μ33 P tt := by
        intro _ h0
        have l1 : μ33.1 P 1 = (sv μ10 23 7 ((μ.1 23 7) + 1)).1 P 1 := by rw [show μ33.1 P 1 = μ.1 P 1 from (hs_38.trans ((sv_n _ (fun h9 => (ni hprP (fun P => P) (fun P => [23]) rfl) (List.mem_singleton.2 h9.1))).trans (F_11.1 P (ni hprP (fun P => P) (fun P => [26]) rfl) 1))), show (sv μ10 23 7 ((μ.1 23 7) + 1)).1 P 1 = μ.1 P 1 from ((sv_n _ (fun h9 => (ni hprP (fun P => P) (fun P => [23]) rfl) (List.mem_singleton.2 h9.1))).trans (F_11.1 P (ni hprP (fun P => P) (fun P => [26]) rfl) 1))]
        have l7 : (sv μ10 23 7 ((μ.1 23 7) + 1)).1 P 7 = μ.1 P 7 := ((sv_n _ (fun h9 => (ni hprP (fun P => P) (fun P => [23]) rfl) (List.mem_singleton.2 h9.1))).trans (F_11.1 P (ni hprP (fun P => P) (fun P => [26]) rfl) 7))
        have c1 : ∀ j, μ33.1 (P + 1) j = (sv μ10 23 7 ((μ.1 23 7) + 1)).1 (P + 1) j := fun j => F_34.1 (P + 1) (ni hprP (fun P => P + 1) (fun P => [P + 6, P + 7, P]) rfl) j
        refine PG.fn ((htP_29 ()) (by have h9 : (sv μ10 23 7 ((μ.1 23 7) + 1)).1 26 11 = μ10.1 26 11 := (sv_n _ (fun h9 => absurd h9.1 (by decide))); have h8 : μ33.1 26 11 = μ10.1 26 11 := ((F_34.1 26 (ni hprP (fun P => 26) (fun P => [P + 6, P + 7, P]) rfl) 11).trans (sv_n _ (fun h9 => absurd h9.1 (by decide)))); omega)) l1 (fun i k => by unfold cdp; rw [l1, c1]) ?_
        rw [l7]
        have hd_ := (hp_37 ())
        rcases hd_ with ⟨q1, q2⟩ | ⟨q0, q1, q2, q3⟩
        · exact Or.inl ⟨q1, q2⟩
        · exact Or.inr ⟨q0, q1, q2, q3⟩
      refine lv_aload_n hx hb dX7_function_71 rfl (lv_at hl 2 rfl) ?_
      refine xa_getr G fd_X7 (a := 23) (x := P) 2 rfl (by decide) rfl (wm 2 19 rfl rfl) ⟨rfl, rfl, rfl⟩ dX7_function_72 rfl ((F_34.1 23 (ni hprP (fun P => 23) (fun P => [P + 6, P + 7, P]) rfl) 2).trans ((sv_n _ (by decide)).trans ((F_11.1 23 (by decide) 2).trans hP.symm))) (by omega) (hprP.hq ω ρ) ?_
      refine xc_iV G (b := P) (rest := []) (As := []) (c_X8_functions ω l μ33 P hprP hI_35) (wm 3 189 rfl rfl) (wm 3 190 rfl rfl) (wm 3 191 rfl rfl) hprP.ly rfl (by decide) (hprP.hq ω ρ) (wm 1 9 rfl rfl) (wm 3 192 rfl rfl) (by decide) hR (by decide) (n := 0) rfl rfl (Nat.le_of_ble_eq_true rfl) hl.1 dX7_function_75 (fun r_43 μ42 ρ d0 H locs hr_r_43 hp G => ?_)
      have hr_r_43 : -2147483648 ≤ r_43 ∧ r_43 ≤ 2147483647 := hr_r_43
      obtain ⟨hsm_44, hp_45⟩ := hp
      have hsm_44 := Eq.symm hsm_44
      subst hsm_44
      refine lv_iconst (v := iv 1) hx hb dX7_function_78 rfl ?_
      refine xb_isub hx hb dX7_function_79 ?_
      refine lv_istore (lv' := [(4, .int (iv (r_43 - 1))), (3, .int (iv (μ.1 26 13))), (1, .long (jv (μ.1 26 14))), (0, .ref (oP ω 23))]) hx hb dX7_function_80 hl (by decide) rfl (fun ls hl => ?_)
      refine lv_aload_n hx hb dX7_function_82 rfl (lv_at hl 3 rfl) ?_
      refine lv_iconst (v := iv 0) hx hb dX7_function_83 rfl ?_
      refine xa_puti G fd_X7 (a := 23) (x := 0) 5 (kz := 5) rfl rfl (by decide) rfl (by unfold ir; omega) (wm 2 22 rfl rfl) ⟨rfl, rfl, rfl, rfl⟩ rfl dX7_function_84 rfl (fun H locs G => ?_)
      refine lv_aload_n hx hb dX7_function_87 rfl (lv_at hl 3 rfl) ?_
      refine lv_iconst (v := iv 0) hx hb dX7_function_88 rfl ?_
      refine xa_puti G fd_X7 (a := 23) (x := 0) 6 (kz := 6) rfl rfl (by decide) rfl (by unfold ir; omega) (wm 2 23 rfl rfl) ⟨rfl, rfl, rfl, rfl⟩ rfl dX7_function_89 rfl (fun H locs G => ?_)
      refine lv_aload_n hx hb dX7_function_92 rfl (lv_at hl 3 rfl) ?_
      have hI_46 : IC (sv (sv μ33 23 5 0) 23 6 0) := (IC.put (IC.n_23_5 hI_35 (by omega)) (by decide +kernel))
      have htk_47 : TK (sv (sv μ33 23 5 0) 23 6 0) := hp_13.fr (K := [23, P + 6, P + 7, P]) (Fr.put (Fr.put (Fr.tr (Fr.put Fr.rf (si hprP (fun P => [23]) (fun P => [23, P + 6, P + 7, P]) rfl 23 (List.mem_singleton.2 rfl))) F_34 (si hprP (fun P => [P + 6, P + 7, P]) (fun P => [23, P + 6, P + 7, P]) rfl)) (si hprP (fun P => [23]) (fun P => [23, P + 6, P + 7, P]) rfl 23 (List.mem_singleton.2 rfl))) (si hprP (fun P => [23]) (fun P => [23, P + 6, P + 7, P]) rfl 23 (List.mem_singleton.2 rfl))) (ni hprP (fun P => 26) (fun P => [23, P + 6, P + 7, P]) rfl) (ni hprP (fun P => 28) (fun P => [23, P + 6, P + 7, P]) rfl) (ni hprP (fun P => 29) (fun P => [23, P + 6, P + 7, P]) rfl)
      have e_48 : (sv (sv μ33 23 5 0) 23 6 0).1 23 6 = 0 := (sv_s _ _ _ _)
      have e_49 : (sv (sv μ33 23 5 0) 23 6 0).1 23 9 = μ.1 23 9 := ((sv_n _ (by decide)).trans ((sv_n _ (by decide)).trans ((F_34.1 23 (ni hprP (fun P => 23) (fun P => [P + 6, P + 7, P]) rfl) 9).trans ((sv_n _ (by decide)).trans (F_11.1 23 (by decide) 9)))))
      have e_50 : (sv (sv μ33 23 5 0) 23 6 0).1 26 11 = μ10.1 26 11 := ((sv_n _ (fun h9 => absurd h9.1 (by decide))).trans ((sv_n _ (fun h9 => absurd h9.1 (by decide))).trans ((F_34.1 26 (ni hprP (fun P => 26) (fun P => [P + 6, P + 7, P]) rfl) 11).trans (sv_n _ (fun h9 => absurd h9.1 (by decide))))))
      have e_51 : (sv (sv μ33 23 5 0) 23 6 0).1 26 10 = μ10.1 26 10 := ((sv_n _ (fun h9 => absurd h9.1 (by decide))).trans ((sv_n _ (fun h9 => absurd h9.1 (by decide))).trans ((F_34.1 26 (ni hprP (fun P => 26) (fun P => [P + 6, P + 7, P]) rfl) 10).trans (sv_n _ (fun h9 => absurd h9.1 (by decide))))))
      have e_52 : (sv (sv μ33 23 5 0) 23 6 0).1 23 9 = μ.1 23 9 := ((sv_n _ (by decide)).trans ((sv_n _ (by decide)).trans ((F_34.1 23 (ni hprP (fun P => 23) (fun P => [P + 6, P + 7, P]) rfl) 9).trans ((sv_n _ (by decide)).trans (F_11.1 23 (by decide) 9)))))
      have e_53 : (sv (sv μ33 23 5 0) 23 6 0).1 26 6 = μ.1 26 6 := ((sv_n _ (fun h9 => absurd h9.1 (by decide))).trans ((sv_n _ (fun h9 => absurd h9.1 (by decide))).trans ((F_34.1 26 (ni hprP (fun P => 26) (fun P => [P + 6, P + 7, P]) rfl) 6).trans ((sv_n _ (fun h9 => absurd h9.1 (by decide))).trans hs_16))))
      have e_54 : (sv (sv μ33 23 5 0) 23 6 0).1 26 7 = μ.1 26 7 := ((sv_n _ (fun h9 => absurd h9.1 (by decide))).trans ((sv_n _ (fun h9 => absurd h9.1 (by decide))).trans ((F_34.1 26 (ni hprP (fun P => 26) (fun P => [P + 6, P + 7, P]) rfl) 7).trans ((sv_n _ (fun h9 => absurd h9.1 (by decide))).trans hs_17))))
      have e_55 : (sv (sv μ33 23 5 0) 23 6 0).1 26 8 = μ.1 26 8 := ((sv_n _ (fun h9 => absurd h9.1 (by decide))).trans ((sv_n _ (fun h9 => absurd h9.1 (by decide))).trans ((F_34.1 26 (ni hprP (fun P => 26) (fun P => [P + 6, P + 7, P]) rfl) 8).trans ((sv_n _ (fun h9 => absurd h9.1 (by decide))).trans hs_18))))
      have e_56 : (sv (sv μ33 23 5 0) 23 6 0).1 26 9 = μ.1 26 9 := ((sv_n _ (fun h9 => absurd h9.1 (by decide))).trans ((sv_n _ (fun h9 => absurd h9.1 (by decide))).trans ((F_34.1 26 (ni hprP (fun P => 26) (fun P => [P + 6, P + 7, P]) rfl) 9).trans ((sv_n _ (fun h9 => absurd h9.1 (by decide))).trans hs_19))))
      have e_57 : (sv (sv μ33 23 5 0) 23 6 0).1 23 2 = P := ((sv_n _ (by decide)).trans ((sv_n _ (by decide)).trans ((F_34.1 23 (ni hprP (fun P => 23) (fun P => [P + 6, P + 7, P]) rfl) 2).trans ((sv_n _ (by decide)).trans ((F_11.1 23 (by decide) 2).trans hP.symm)))))
      have e_58 : (sv (sv μ33 23 5 0) 23 6 0).1 23 7 = (μ.1 23 7) + 1 := ((sv_n _ (by decide)).trans ((sv_n _ (by decide)).trans ((F_34.1 23 (ni hprP (fun P => 23) (fun P => [P + 6, P + 7, P]) rfl) 7).trans (sv_s _ _ _ _))))
      have e_59 : (sv (sv μ33 23 5 0) 23 6 0).1 23 8 = tt := ((sv_n _ (by decide)).trans ((sv_n _ (by decide)).trans ((F_34.1 23 (ni hprP (fun P => 23) (fun P => [P + 6, P + 7, P]) rfl) 8).trans ((sv_n _ (by decide)).trans ((F_11.1 23 (by decide) 8).trans htt.symm)))))
      have e_60 : (sv (sv μ33 23 5 0) 23 6 0).1 23 10 = μ.1 23 10 := ((sv_n _ (by decide)).trans ((sv_n _ (by decide)).trans ((F_34.1 23 (ni hprP (fun P => 23) (fun P => [P + 6, P + 7, P]) rfl) 10).trans ((sv_n _ (by decide)).trans (F_11.1 23 (by decide) 10)))))
      refine xc_vV G (b := 23) (rest := []) (As := []) (c_X7_parameters ω l (sv (sv μ33 23 5 0) 23 6 0)  hI_46 htk_47 (by omega) (by omega)) (wm 3 193 rfl rfl) (wm 3 195 rfl rfl) (wm 0 13 rfl rfl) rfl rfl (by decide) rfl (wm 1 12 rfl rfl) (wm 3 196 rfl rfl) (by decide) hR (by decide) (n := 0) rfl rfl (Nat.le_of_ble_eq_true rfl) hl.1 dX7_function_93 (fun μ61 ρ d0 H locs hp G => ?_)
      obtain ⟨F_62, hI_63, hp_64, hp_65, hp_66, hp_67, hs_68, hs_69, hs_70, hs_71, hs_72, hs_73, hs_74, hs_75, hs_76⟩ := hp
      have hn_77 : -1 ≤ μ61.1 26 10 ∧ μ61.1 26 10 ≤ 3000 := hI_63.nm.2.2.2.2.2.2.2.2.2.2.2.2
      have htb_78 := hp_64.b
      refine lv_aload_n hx hb dX7_function_96 rfl (lv_at hl 3 rfl) ?_
      refine xa_geti G fd_X7 (a := 23) (x := μ61.1 23 6) 6 rfl (by decide) rfl (wm 2 23 rfl rfl) ⟨rfl, rfl, rfl⟩ dX7_function_97 rfl rfl ?_
      have hr_79 : -2147483648 ≤ μ61.1 23 6 ∧ μ61.1 23 6 ≤ 2147483647 := by have h9 := G.hr (a := 23) (k := 6) rfl; exact h9
      have hn_80 : 0 ≤ μ61.1 23 5 ∧ μ61.1 23 5 ≤ 1000 := hI_63.nm.2.2.2.2.2.2.2.2.1
      refine lv_istore (lv' := [(5, .int (iv (μ61.1 23 6))), (4, .int (iv (r_43 - 1))), (3, .int (iv (μ.1 26 13))), (1, .long (jv (μ.1 26 14))), (0, .ref (oP ω 23))]) hx hb dX7_function_100 hl (by decide) rfl (fun ls hl => ?_)
      refine lv_aload_n hx hb dX7_function_102 rfl (lv_at hl 4 rfl) ?_
      have htP_81 : ∀ _ : Unit, μ61.1 26 11 = 0 → PG μ61 P tt := fun _ h0 => PG.fr (K := [26, 23, 25, 24]) (hX_41 () (by have h9 : μ33.1 26 11 = μ10.1 26 11 := ((F_34.1 26 (ni hprP (fun P => 26) (fun P => [P + 6, P + 7, P]) rfl) 11).trans (sv_n _ (fun h9 => absurd h9.1 (by decide)))); have h8 : μ61.1 26 11 = μ61.1 26 11 := rfl; omega)) (Fr.tr (Fr.put (Fr.put Fr.rf (by decide)) (by decide)) F_62 (by decide)) (ni hprP (fun P => P) (fun P => [26, 23, 25, 24]) rfl) (ni hprP (fun P => P + 1) (fun P => [26, 23, 25, 24]) rfl) (ni hprP (fun P => P + 7) (fun P => [26, 23, 25, 24]) rfl)
      have hhc_82 : ∀ _ : Unit, μ61.1 26 11 = 0 → HC μ61 P tt 0 := fun _ h0 => ((htP_81 ()) h0).hc
      have e_83 : μ61.1 23 2 = P := (hs_73.trans ((sv_n _ (by decide)).trans ((sv_n _ (by decide)).trans ((F_34.1 23 (ni hprP (fun P => 23) (fun P => [P + 6, P + 7, P]) rfl) 2).trans ((sv_n _ (by decide)).trans ((F_11.1 23 (by decide) 2).trans hP.symm))))))
      have e_84 : μ61.1 23 8 = tt := (hs_75.trans ((sv_n _ (by decide)).trans ((sv_n _ (by decide)).trans ((F_34.1 23 (ni hprP (fun P => 23) (fun P => [P + 6, P + 7, P]) rfl) 8).trans ((sv_n _ (by decide)).trans ((F_11.1 23 (by decide) 8).trans htt.symm))))))
      have e_85 : μ61.1 P 1 = μ.1 P 1 := ((F_62.1 P (ni hprP (fun P => P) (fun P => [26, 23, 25, 24]) rfl) 1).trans ((sv_n _ (fun h9 => (ni hprP (fun P => P) (fun P => [23]) rfl) (List.mem_singleton.2 h9.1))).trans ((sv_n _ (fun h9 => (ni hprP (fun P => P) (fun P => [23]) rfl) (List.mem_singleton.2 h9.1))).trans (hs_38.trans ((sv_n _ (fun h9 => (ni hprP (fun P => P) (fun P => [23]) rfl) (List.mem_singleton.2 h9.1))).trans (F_11.1 P (ni hprP (fun P => P) (fun P => [26]) rfl) 1))))))
      have hk_86 := hI.row (r := P + 2) (hprP.row)
      unfold rk at hk_86
      have e_87 : μ61.1 (P + 2) 3 = μ.1 (P + 2) 3 := ((F_62.1 (P + 2) (ni hprP (fun P => P + 2) (fun P => [26, 23, 25, 24]) rfl) 3).trans ((sv_n _ (fun h9 => (ni hprP (fun P => P + 2) (fun P => [23]) rfl) (List.mem_singleton.2 h9.1))).trans ((sv_n _ (fun h9 => (ni hprP (fun P => P + 2) (fun P => [23]) rfl) (List.mem_singleton.2 h9.1))).trans ((F_34.1 (P + 2) (ni hprP (fun P => P + 2) (fun P => [P + 6, P + 7, P]) rfl) 3).trans ((sv_n _ (fun h9 => (ni hprP (fun P => P + 2) (fun P => [23]) rfl) (List.mem_singleton.2 h9.1))).trans (F_11.1 (P + 2) (ni hprP (fun P => P + 2) (fun P => [26]) rfl) 3))))))
      have e_88 : μ61.1 P 1 = μ.1 P 1 := ((F_62.1 P (ni hprP (fun P => P) (fun P => [26, 23, 25, 24]) rfl) 1).trans ((sv_n _ (fun h9 => (ni hprP (fun P => P) (fun P => [23]) rfl) (List.mem_singleton.2 h9.1))).trans ((sv_n _ (fun h9 => (ni hprP (fun P => P) (fun P => [23]) rfl) (List.mem_singleton.2 h9.1))).trans (hs_38.trans ((sv_n _ (fun h9 => (ni hprP (fun P => P) (fun P => [23]) rfl) (List.mem_singleton.2 h9.1))).trans (F_11.1 P (ni hprP (fun P => P) (fun P => [26]) rfl) 1))))))
      have e_89 : μ61.1 23 9 = μ.1 23 9 := (hs_68.trans ((sv_n _ (by decide)).trans ((sv_n _ (by decide)).trans ((F_34.1 23 (ni hprP (fun P => 23) (fun P => [P + 6, P + 7, P]) rfl) 9).trans ((sv_n _ (by decide)).trans (F_11.1 23 (by decide) 9))))))
      have e_90 : μ61.1 23 9 = μ.1 23 9 := (hs_68.trans ((sv_n _ (by decide)).trans ((sv_n _ (by decide)).trans ((F_34.1 23 (ni hprP (fun P => 23) (fun P => [P + 6, P + 7, P]) rfl) 9).trans ((sv_n _ (by decide)).trans (F_11.1 23 (by decide) 9))))))
      have e_91 : μ61.1 P 1 = μ.1 P 1 := ((F_62.1 P (ni hprP (fun P => P) (fun P => [26, 23, 25, 24]) rfl) 1).trans ((sv_n _ (fun h9 => (ni hprP (fun P => P) (fun P => [23]) rfl) (List.mem_singleton.2 h9.1))).trans ((sv_n _ (fun h9 => (ni hprP (fun P => P) (fun P => [23]) rfl) (List.mem_singleton.2 h9.1))).trans (hs_38.trans ((sv_n _ (fun h9 => (ni hprP (fun P => P) (fun P => [23]) rfl) (List.mem_singleton.2 h9.1))).trans (F_11.1 P (ni hprP (fun P => P) (fun P => [26]) rfl) 1))))))
      have e_92 : μ61.1 P 1 = μ.1 P 1 := ((F_62.1 P (ni hprP (fun P => P) (fun P => [26, 23, 25, 24]) rfl) 1).trans ((sv_n _ (fun h9 => (ni hprP (fun P => P) (fun P => [23]) rfl) (List.mem_singleton.2 h9.1))).trans ((sv_n _ (fun h9 => (ni hprP (fun P => P) (fun P => [23]) rfl) (List.mem_singleton.2 h9.1))).trans (hs_38.trans ((sv_n _ (fun h9 => (ni hprP (fun P => P) (fun P => [23]) rfl) (List.mem_singleton.2 h9.1))).trans (F_11.1 P (ni hprP (fun P => P) (fun P => [26]) rfl) 1))))))
      have e_93 : μ61.1 (P + 2) 3 = μ.1 (P + 2) 3 := ((F_62.1 (P + 2) (ni hprP (fun P => P + 2) (fun P => [26, 23, 25, 24]) rfl) 3).trans ((sv_n _ (fun h9 => (ni hprP (fun P => P + 2) (fun P => [23]) rfl) (List.mem_singleton.2 h9.1))).trans ((sv_n _ (fun h9 => (ni hprP (fun P => P + 2) (fun P => [23]) rfl) (List.mem_singleton.2 h9.1))).trans ((F_34.1 (P + 2) (ni hprP (fun P => P + 2) (fun P => [P + 6, P + 7, P]) rfl) 3).trans ((sv_n _ (fun h9 => (ni hprP (fun P => P + 2) (fun P => [23]) rfl) (List.mem_singleton.2 h9.1))).trans (F_11.1 (P + 2) (ni hprP (fun P => P + 2) (fun P => [26]) rfl) 3))))))
      have e_94 : μ61.1 P 1 = μ.1 P 1 := ((F_62.1 P (ni hprP (fun P => P) (fun P => [26, 23, 25, 24]) rfl) 1).trans ((sv_n _ (fun h9 => (ni hprP (fun P => P) (fun P => [23]) rfl) (List.mem_singleton.2 h9.1))).trans ((sv_n _ (fun h9 => (ni hprP (fun P => P) (fun P => [23]) rfl) (List.mem_singleton.2 h9.1))).trans (hs_38.trans ((sv_n _ (fun h9 => (ni hprP (fun P => P) (fun P => [23]) rfl) (List.mem_singleton.2 h9.1))).trans (F_11.1 P (ni hprP (fun P => P) (fun P => [26]) rfl) 1))))))
      have e_95 : μ61.1 (P + 2) 3 = μ.1 (P + 2) 3 := ((F_62.1 (P + 2) (ni hprP (fun P => P + 2) (fun P => [26, 23, 25, 24]) rfl) 3).trans ((sv_n _ (fun h9 => (ni hprP (fun P => P + 2) (fun P => [23]) rfl) (List.mem_singleton.2 h9.1))).trans ((sv_n _ (fun h9 => (ni hprP (fun P => P + 2) (fun P => [23]) rfl) (List.mem_singleton.2 h9.1))).trans ((F_34.1 (P + 2) (ni hprP (fun P => P + 2) (fun P => [P + 6, P + 7, P]) rfl) 3).trans ((sv_n _ (fun h9 => (ni hprP (fun P => P + 2) (fun P => [23]) rfl) (List.mem_singleton.2 h9.1))).trans (F_11.1 (P + 2) (ni hprP (fun P => P + 2) (fun P => [26]) rfl) 3))))))
      have e_96 : μ61.1 23 9 = μ.1 23 9 := (hs_68.trans ((sv_n _ (by decide)).trans ((sv_n _ (by decide)).trans ((F_34.1 23 (ni hprP (fun P => 23) (fun P => [P + 6, P + 7, P]) rfl) 9).trans ((sv_n _ (by decide)).trans (F_11.1 23 (by decide) 9))))))
      have e_97 : μ61.1 23 2 = P := (hs_73.trans ((sv_n _ (by decide)).trans ((sv_n _ (by decide)).trans ((F_34.1 23 (ni hprP (fun P => 23) (fun P => [P + 6, P + 7, P]) rfl) 2).trans ((sv_n _ (by decide)).trans ((F_11.1 23 (by decide) 2).trans hP.symm))))))
      have e_98 : μ61.1 23 7 = (μ.1 23 7) + 1 := (hs_74.trans ((sv_n _ (by decide)).trans ((sv_n _ (by decide)).trans ((F_34.1 23 (ni hprP (fun P => 23) (fun P => [P + 6, P + 7, P]) rfl) 7).trans (sv_s _ _ _ _)))))
      have e_99 : μ61.1 23 8 = tt := (hs_75.trans ((sv_n _ (by decide)).trans ((sv_n _ (by decide)).trans ((F_34.1 23 (ni hprP (fun P => 23) (fun P => [P + 6, P + 7, P]) rfl) 8).trans ((sv_n _ (by decide)).trans ((F_11.1 23 (by decide) 8).trans htt.symm))))))
      have e_100 : μ61.1 23 9 = μ.1 23 9 := (hs_68.trans ((sv_n _ (by decide)).trans ((sv_n _ (by decide)).trans ((F_34.1 23 (ni hprP (fun P => 23) (fun P => [P + 6, P + 7, P]) rfl) 9).trans ((sv_n _ (by decide)).trans (F_11.1 23 (by decide) 9))))))
      have e_101 : μ61.1 26 6 = μ.1 26 6 := (hs_69.trans ((sv_n _ (fun h9 => absurd h9.1 (by decide))).trans ((sv_n _ (fun h9 => absurd h9.1 (by decide))).trans ((F_34.1 26 (ni hprP (fun P => 26) (fun P => [P + 6, P + 7, P]) rfl) 6).trans ((sv_n _ (fun h9 => absurd h9.1 (by decide))).trans hs_16)))))
      have e_102 : μ61.1 P 7 = μ33.1 P 7 := ((F_62.1 P (ni hprP (fun P => P) (fun P => [26, 23, 25, 24]) rfl) 7).trans ((sv_n _ (fun h9 => (ni hprP (fun P => P) (fun P => [23]) rfl) (List.mem_singleton.2 h9.1))).trans (sv_n _ (fun h9 => (ni hprP (fun P => P) (fun P => [23]) rfl) (List.mem_singleton.2 h9.1)))))
      refine xc_vV G (b := 23) (rest := []) (As := []) (c_X7_block_a ω l μ61 P tt hI_63 (by omega) (by omega) hp_64 (by omega) (by omega) (by omega) (by omega) hhc_82) (wm 3 218 rfl rfl) (wm 3 220 rfl rfl) (wm 0 19 rfl rfl) rfl rfl (by decide) rfl (wm 1 12 rfl rfl) (wm 3 221 rfl rfl) (by decide) hR (by decide) (n := 0) rfl rfl (Nat.le_of_ble_eq_true rfl) hl.1 dX7_function_103 (fun μ103 ρ d0 H locs hp G => ?_)
      obtain ⟨F_104, hI_105, hp_106, hp_107, hp_108, hp_109, hp_110, hp_111, hp_112, hs_113, hs_114, hs_115, hs_116, hs_117, hs_118⟩ := hp
      have hn_119 : -1 ≤ μ103.1 26 10 ∧ μ103.1 26 10 ≤ 3000 := hI_105.nm.2.2.2.2.2.2.2.2.2.2.2.2
      have hk_120 := hI_105.pr (p := P) hprP
      unfold pk at hk_120
      have hc_121 : 16 ≤ μ103.2.1 (P + 1) ∧ μ103.2.1 (P + 1) ≤ 73024 := hI_105.rm.1 _ hprP.cap
      have hk_122 := hI_105.row (r := P + 2) (hprP.row)
      unfold rk at hk_122
      have htb_123 := hp_106.b
      replace hp_111 := fun _ : Unit => hp_111
      have hXP_124 : ∀ _ : Unit, μ103.1 26 11 = 0 → PG μ103 P tt := fun _ h0 => ((htP_81 ()) (by have h9 : μ61.1 26 11 = μ61.1 26 11 := rfl; have h8 : μ103.1 26 11 = μ103.1 26 11 := rfl; omega)).ex ((hp_111 ()) h0) (by have h9 : μ61.1 23 9 = μ.1 23 9 := (hs_68.trans ((sv_n _ (by decide)).trans ((sv_n _ (by decide)).trans ((F_34.1 23 (ni hprP (fun P => 23) (fun P => [P + 6, P + 7, P]) rfl) 9).trans ((sv_n _ (by decide)).trans (F_11.1 23 (by decide) 9)))))); omega) (by rw [show μ103.1 P 7 = μ33.1 P 7 from (hs_118.trans ((F_62.1 P (ni hprP (fun P => P) (fun P => [26, 23, 25, 24]) rfl) 7).trans ((sv_n _ (fun h9 => (ni hprP (fun P => P) (fun P => [23]) rfl) (List.mem_singleton.2 h9.1))).trans (sv_n _ (fun h9 => (ni hprP (fun P => P) (fun P => [23]) rfl) (List.mem_singleton.2 h9.1)))))), show μ61.1 P 7 = μ33.1 P 7 from ((F_62.1 P (ni hprP (fun P => P) (fun P => [26, 23, 25, 24]) rfl) 7).trans ((sv_n _ (fun h9 => (ni hprP (fun P => P) (fun P => [23]) rfl) (List.mem_singleton.2 h9.1))).trans (sv_n _ (fun h9 => (ni hprP (fun P => P) (fun P => [23]) rfl) (List.mem_singleton.2 h9.1)))))]) (fun j => F_104.1 (P + 7) (ni hprP (fun P => P + 7) (fun P => [2, 3, 4, 23, 24, 25, 26, P, P + 1, P + 2, (P + 2) + 1, (P + 2) + 2, (P + 2) + 3]) rfl) j)
      refine lv_aload_n hx hb dX7_function_106 rfl (lv_at hl 4 rfl) ?_
      refine lv_iconst (v := iv 3) hx hb dX7_function_107 rfl ?_
      refine lv_iconst (v := iv 0) hx hb dX7_function_108 rfl ?_
      refine lv_iconst (v := iv 0) hx hb dX7_function_109 rfl ?_
      have e_125 : μ103.1 23 2 = P := (hs_113.trans (hs_73.trans ((sv_n _ (by decide)).trans ((sv_n _ (by decide)).trans ((F_34.1 23 (ni hprP (fun P => 23) (fun P => [P + 6, P + 7, P]) rfl) 2).trans ((sv_n _ (by decide)).trans ((F_11.1 23 (by decide) 2).trans hP.symm)))))))
      have e_126 : μ103.1 P 7 = μ33.1 P 7 := (hs_118.trans ((F_62.1 P (ni hprP (fun P => P) (fun P => [26, 23, 25, 24]) rfl) 7).trans ((sv_n _ (fun h9 => (ni hprP (fun P => P) (fun P => [23]) rfl) (List.mem_singleton.2 h9.1))).trans (sv_n _ (fun h9 => (ni hprP (fun P => P) (fun P => [23]) rfl) (List.mem_singleton.2 h9.1))))))
      refine xc_iV G (b := 23) (rest := []) (As := [.int (iv 3), .int (iv 0), .int (iv 0)]) (c_X7_add ω l μ103 3 0 0 P (by unfold ir; omega) (by unfold ir; omega) (by unfold ir; omega) hI_105 (by omega) (by omega)) (wm 3 226 rfl rfl) (wm 3 228 rfl rfl) (wm 0 21 rfl rfl) rfl rfl (by decide) rfl (wm 1 12 rfl rfl) (wm 3 229 rfl rfl) (by decide) hR (by decide) (n := 3) rfl rfl (Nat.le_of_ble_eq_true rfl) hl.1 dX7_function_110 (fun r_128 μ127 ρ d0 H locs hr_r_128 hp G => ?_)
      have hr_r_128 : -2147483648 ≤ r_128 ∧ r_128 ≤ 2147483647 := hr_r_128
      obtain ⟨F_129, hI_130, hp_131, hp_132, hs_133, hs_134⟩ := hp
      refine lv_pop hx hb dX7_function_113 rfl ?_
      refine lv_aload_n hx hb dX7_function_114 rfl (lv_at hl 4 rfl) ?_
      refine lv_bipush (v := iv 21) hx hb dX7_function_115 rfl ?_
      refine lv_iconst (v := iv 0) hx hb dX7_function_117 rfl ?_
      refine lv_iconst (v := iv 0) hx hb dX7_function_118 rfl ?_
      have e_135 : μ127.1 23 2 = P := ((F_129.1 23 (ni hprP (fun P => 23) (fun P => [P, P + 1]) rfl) 2).trans (hs_113.trans (hs_73.trans ((sv_n _ (by decide)).trans ((sv_n _ (by decide)).trans ((F_34.1 23 (ni hprP (fun P => 23) (fun P => [P + 6, P + 7, P]) rfl) 2).trans ((sv_n _ (by decide)).trans ((F_11.1 23 (by decide) 2).trans hP.symm))))))))
      have e_136 : μ127.1 P 1 = μ103.1 P 1 + 1 := hs_133
      have e_137 : μ127.1 P 1 = μ103.1 P 1 + 1 := hs_133
      have e_138 : μ127.1 P 1 = μ103.1 P 1 + 1 := hs_133
      have e_139 : μ127.1 P 7 = μ33.1 P 7 := (hs_134.trans (hs_118.trans ((F_62.1 P (ni hprP (fun P => P) (fun P => [26, 23, 25, 24]) rfl) 7).trans ((sv_n _ (fun h9 => (ni hprP (fun P => P) (fun P => [23]) rfl) (List.mem_singleton.2 h9.1))).trans (sv_n _ (fun h9 => (ni hprP (fun P => P) (fun P => [23]) rfl) (List.mem_singleton.2 h9.1)))))))
      refine xc_iV G (b := 23) (rest := []) (As := [.int (iv 21), .int (iv 0), .int (iv 0)]) (c_X7_add ω l μ127 21 0 0 P (by unfold ir; omega) (by unfold ir; omega) (by unfold ir; omega) hI_130 (by omega) (by omega)) (wm 3 226 rfl rfl) (wm 3 228 rfl rfl) (wm 0 21 rfl rfl) rfl rfl (by decide) rfl (wm 1 12 rfl rfl) (wm 3 229 rfl rfl) (by decide) hR (by decide) (n := 3) rfl rfl (Nat.le_of_ble_eq_true rfl) hl.1 dX7_function_119 (fun r_141 μ140 ρ d0 H locs hr_r_141 hp G => ?_)
      have hr_r_141 : -2147483648 ≤ r_141 ∧ r_141 ≤ 2147483647 := hr_r_141
      obtain ⟨F_142, hI_143, hp_144, hp_145, hs_146, hs_147⟩ := hp
      have hX_148 : ∀ _ : Unit, μ140.1 26 11 = 0 → PG μ140 P tt := by
        intro _ h0
        have hp := (hXP_124 ()) (by have h9 : μ103.1 26 11 = μ103.1 26 11 := rfl; have h8 : μ140.1 26 11 = μ103.1 26 11 := ((F_142.1 26 (ni hprP (fun P => 26) (fun P => [P, P + 1]) rfl) 11).trans (F_129.1 26 (ni hprP (fun P => 26) (fun P => [P, P + 1]) rfl) 11)); omega)
        have hh := hp.hc
        have e1 := EX.pl (t := tt) hp_132 hh.1 (by unfold plain; omega) (e := 1) rfl (by rw [hh.2.1]; decide)
        have hh2 := e1.h
        rw [hh.2.1] at hh2
        have e2 := EX.pl (t := tt) hp_145 (by have := e1.1.1; have := hh.1; omega) (by unfold plain; omega) (e := -1) rfl (by omega)
        exact hp.ex ((e1.tr e2).e rfl) (by decide) (by rw [show μ140.1 P 7 = μ33.1 P 7 from (hs_147.trans (hs_134.trans (hs_118.trans ((F_62.1 P (ni hprP (fun P => P) (fun P => [26, 23, 25, 24]) rfl) 7).trans ((sv_n _ (fun h9 => (ni hprP (fun P => P) (fun P => [23]) rfl) (List.mem_singleton.2 h9.1))).trans (sv_n _ (fun h9 => (ni hprP (fun P => P) (fun P => [23]) rfl) (List.mem_singleton.2 h9.1)))))))), show μ103.1 P 7 = μ33.1 P 7 from (hs_118.trans ((F_62.1 P (ni hprP (fun P => P) (fun P => [26, 23, 25, 24]) rfl) 7).trans ((sv_n _ (fun h9 => (ni hprP (fun P => P) (fun P => [23]) rfl) (List.mem_singleton.2 h9.1))).trans (sv_n _ (fun h9 => (ni hprP (fun P => P) (fun P => [23]) rfl) (List.mem_singleton.2 h9.1))))))]) (fun j => ((show Fr [P, P + 1] μ103 μ140 from (Fr.tr (Fr.tr Fr.rf F_129 (si hprP (fun P => [P, P + 1]) (fun P => [P, P + 1]) rfl)) F_142 (si hprP (fun P => [P, P + 1]) (fun P => [P, P + 1]) rfl)))).1 (P + 7) (ni hprP (fun P => P + 7) (fun P => [P, P + 1]) rfl) j)
      refine lv_pop hx hb dX7_function_122 rfl ?_
      refine lv_aload_n hx hb dX7_function_123 rfl (lv_at hl 4 rfl) ?_
      refine xa_getr G fd_X7 (a := 23) (x := P) 2 rfl (by decide) rfl (wm 2 19 rfl rfl) ⟨rfl, rfl, rfl⟩ dX7_function_124 rfl ((F_142.1 23 (ni hprP (fun P => 23) (fun P => [P, P + 1]) rfl) 2).trans ((F_129.1 23 (ni hprP (fun P => 23) (fun P => [P, P + 1]) rfl) 2).trans (hs_113.trans (hs_73.trans ((sv_n _ (by decide)).trans ((sv_n _ (by decide)).trans ((F_34.1 23 (ni hprP (fun P => 23) (fun P => [P + 6, P + 7, P]) rfl) 2).trans ((sv_n _ (by decide)).trans ((F_11.1 23 (by decide) 2).trans hP.symm))))))))) (by omega) (hprP.hq ω ρ) ?_
      refine lv_iload hx hb dX7_function_127 (lv_at hl 1 rfl) ?_
      refine lv_iload hx hb dX7_function_129 (lv_at hl 0 rfl) ?_
      have hn_149 : 0 ≤ μ103.1 23 5 ∧ μ103.1 23 5 ≤ 1000 := hI_105.nm.2.2.2.2.2.2.2.2.1
      refine lv_aload_n hx hb dX7_function_131 rfl (lv_at hl 4 rfl) ?_
      refine xa_geti G fd_X7 (a := 23) (x := μ103.1 23 5) 5 rfl (by decide) rfl (wm 2 22 rfl rfl) ⟨rfl, rfl, rfl⟩ dX7_function_132 rfl ((F_142.1 23 (ni hprP (fun P => 23) (fun P => [P, P + 1]) rfl) 5).trans (F_129.1 23 (ni hprP (fun P => 23) (fun P => [P, P + 1]) rfl) 5)) ?_
      have hr_150 : -2147483648 ≤ μ103.1 23 5 ∧ μ103.1 23 5 ≤ 2147483647 := by have h9 := G.hr (a := 23) (k := 5) rfl; rw [show μ140.1 23 5 = μ103.1 23 5 from ((F_142.1 23 (ni hprP (fun P => 23) (fun P => [P, P + 1]) rfl) 5).trans (F_129.1 23 (ni hprP (fun P => 23) (fun P => [P, P + 1]) rfl) 5))] at h9; exact h9
      have hvr_151 : vrk μ140 := vrk.fP (P := P) (L := fun P => [P, P + 1, 2, 3, 4, 23, 24, 25, 26, P + 2, (P + 2) + 1, (P + 2) + 2, (P + 2) + 3, P + 6, P + 7]) hprP rfl (Fr.tr (Fr.tr (Fr.tr (Fr.tr (Fr.put (Fr.put (Fr.tr (Fr.put (Fr.tr Fr.rf F_11 (si hprP (fun P => [26]) (fun P => [P, P + 1, 2, 3, 4, 23, 24, 25, 26, P + 2, (P + 2) + 1, (P + 2) + 2, (P + 2) + 3, P + 6, P + 7]) rfl)) (si hprP (fun P => [23]) (fun P => [P, P + 1, 2, 3, 4, 23, 24, 25, 26, P + 2, (P + 2) + 1, (P + 2) + 2, (P + 2) + 3, P + 6, P + 7]) rfl 23 (List.mem_singleton.2 rfl))) F_34 (si hprP (fun P => [P + 6, P + 7, P]) (fun P => [P, P + 1, 2, 3, 4, 23, 24, 25, 26, P + 2, (P + 2) + 1, (P + 2) + 2, (P + 2) + 3, P + 6, P + 7]) rfl)) (si hprP (fun P => [23]) (fun P => [P, P + 1, 2, 3, 4, 23, 24, 25, 26, P + 2, (P + 2) + 1, (P + 2) + 2, (P + 2) + 3, P + 6, P + 7]) rfl 23 (List.mem_singleton.2 rfl))) (si hprP (fun P => [23]) (fun P => [P, P + 1, 2, 3, 4, 23, 24, 25, 26, P + 2, (P + 2) + 1, (P + 2) + 2, (P + 2) + 3, P + 6, P + 7]) rfl 23 (List.mem_singleton.2 rfl))) F_62 (si hprP (fun P => [26, 23, 25, 24]) (fun P => [P, P + 1, 2, 3, 4, 23, 24, 25, 26, P + 2, (P + 2) + 1, (P + 2) + 2, (P + 2) + 3, P + 6, P + 7]) rfl)) F_104 (si hprP (fun P => [2, 3, 4, 23, 24, 25, 26, P, P + 1, P + 2, (P + 2) + 1, (P + 2) + 2, (P + 2) + 3]) (fun P => [P, P + 1, 2, 3, 4, 23, 24, 25, 26, P + 2, (P + 2) + 1, (P + 2) + 2, (P + 2) + 3, P + 6, P + 7]) rfl)) F_129 (si hprP (fun P => [P, P + 1]) (fun P => [P, P + 1, 2, 3, 4, 23, 24, 25, 26, P + 2, (P + 2) + 1, (P + 2) + 2, (P + 2) + 3, P + 6, P + 7]) rfl)) F_142 (si hprP (fun P => [P, P + 1]) (fun P => [P, P + 1, 2, 3, 4, 23, 24, 25, 26, P + 2, (P + 2) + 1, (P + 2) + 2, (P + 2) + 3, P + 6, P + 7]) rfl)) hv9
      have e_152 : μ140.1 P 1 = μ127.1 P 1 + 1 := hs_146
      have e_153 : μ140.1 P 7 = μ33.1 P 7 := (hs_147.trans (hs_134.trans (hs_118.trans ((F_62.1 P (ni hprP (fun P => P) (fun P => [26, 23, 25, 24]) rfl) 7).trans ((sv_n _ (fun h9 => (ni hprP (fun P => P) (fun P => [23]) rfl) (List.mem_singleton.2 h9.1))).trans (sv_n _ (fun h9 => (ni hprP (fun P => P) (fun P => [23]) rfl) (List.mem_singleton.2 h9.1))))))))
      refine xc_vV G (b := P) (rest := []) (As := [.int (iv (r_43 - 1)), .int (iv (μ61.1 23 6)), .int (iv (μ103.1 23 5))]) (c_X8_setCounts_b ω l μ140 P (r_43 - 1) (μ61.1 23 6) (μ103.1 23 5) hprP (by unfold ir; omega) (by unfold ir; omega) (by unfold ir; omega) hI_143 hvr_151 (by omega) (by omega)) (wm 4 187 rfl rfl) (wm 4 188 rfl rfl) (wm 4 189 rfl rfl) hprP.ly rfl (by decide) (hprP.hq ω ρ) (wm 1 9 rfl rfl) (wm 4 190 rfl rfl) (by decide) hR (by decide) (n := 3) rfl rfl (Nat.le_of_ble_eq_true rfl) hl.1 dX7_function_135 (fun μ154 ρ d0 H locs hp G => ?_)
      obtain ⟨F_155, hI_156, hp_157, hs_158, hs_159⟩ := hp
      clear hk_1 hc_2 hk_39 hc_40 hk_86 hk_120 hc_121 hk_122
      have e_160 : μ154.1 26 11 = μ103.1 26 11 := ((F_155.1 26 (ni hprP (fun P => 26) (fun P => [P + 8, P + 9]) rfl) 11).trans ((F_142.1 26 (ni hprP (fun P => 26) (fun P => [P, P + 1]) rfl) 11).trans (F_129.1 26 (ni hprP (fun P => 26) (fun P => [P, P + 1]) rfl) 11)))
      have htP_161 : ∀ _ : Unit, μ154.1 26 11 = 0 → PG μ154 P tt := fun _ h0 => PG.fr (K := [P + 8, P + 9]) (hX_148 () (by have h9 : μ140.1 26 11 = μ103.1 26 11 := ((F_142.1 26 (ni hprP (fun P => 26) (fun P => [P, P + 1]) rfl) 11).trans (F_129.1 26 (ni hprP (fun P => 26) (fun P => [P, P + 1]) rfl) 11)); have h8 : μ154.1 26 11 = μ103.1 26 11 := ((F_155.1 26 (ni hprP (fun P => 26) (fun P => [P + 8, P + 9]) rfl) 11).trans ((F_142.1 26 (ni hprP (fun P => 26) (fun P => [P, P + 1]) rfl) 11).trans (F_129.1 26 (ni hprP (fun P => 26) (fun P => [P, P + 1]) rfl) 11))); omega)) (Fr.tr Fr.rf F_155 (si hprP (fun P => [P + 8, P + 9]) (fun P => [P + 8, P + 9]) rfl)) (ni hprP (fun P => P) (fun P => [P + 8, P + 9]) rfl) (ni hprP (fun P => P + 1) (fun P => [P + 8, P + 9]) rfl) (ni hprP (fun P => P + 7) (fun P => [P + 8, P + 9]) rfl)
      have htk_162 : TK μ154 := hp_106.fr (K := [P + 8, P + 9, P, P + 1]) (Fr.tr (Fr.tr (Fr.tr Fr.rf F_129 (si hprP (fun P => [P, P + 1]) (fun P => [P + 8, P + 9, P, P + 1]) rfl)) F_142 (si hprP (fun P => [P, P + 1]) (fun P => [P + 8, P + 9, P, P + 1]) rfl)) F_155 (si hprP (fun P => [P + 8, P + 9]) (fun P => [P + 8, P + 9, P, P + 1]) rfl)) (ni hprP (fun P => 26) (fun P => [P + 8, P + 9, P, P + 1]) rfl) (ni hprP (fun P => 28) (fun P => [P + 8, P + 9, P, P + 1]) rfl) (ni hprP (fun P => 29) (fun P => [P + 8, P + 9, P, P + 1]) rfl)
      have e_163 : μ154.1 26 11 = μ103.1 26 11 := ((F_155.1 26 (ni hprP (fun P => 26) (fun P => [P + 8, P + 9]) rfl) 11).trans ((F_142.1 26 (ni hprP (fun P => 26) (fun P => [P, P + 1]) rfl) 11).trans (F_129.1 26 (ni hprP (fun P => 26) (fun P => [P, P + 1]) rfl) 11)))
      have e_164 : μ154.1 26 10 = μ103.1 26 10 := ((F_155.1 26 (ni hprP (fun P => 26) (fun P => [P + 8, P + 9]) rfl) 10).trans ((F_142.1 26 (ni hprP (fun P => 26) (fun P => [P, P + 1]) rfl) 10).trans (F_129.1 26 (ni hprP (fun P => 26) (fun P => [P, P + 1]) rfl) 10)))
      have e_165 : μ154.1 P 1 = μ127.1 P 1 + 1 := (hs_158.trans hs_146)
      have e_166 : μ154.1 26 10 = μ103.1 26 10 := ((F_155.1 26 (ni hprP (fun P => 26) (fun P => [P + 8, P + 9]) rfl) 10).trans ((F_142.1 26 (ni hprP (fun P => 26) (fun P => [P, P + 1]) rfl) 10).trans (F_129.1 26 (ni hprP (fun P => 26) (fun P => [P, P + 1]) rfl) 10)))
      have e_167 : μ154.1 26 11 = μ103.1 26 11 := ((F_155.1 26 (ni hprP (fun P => 26) (fun P => [P + 8, P + 9]) rfl) 11).trans ((F_142.1 26 (ni hprP (fun P => 26) (fun P => [P, P + 1]) rfl) 11).trans (F_129.1 26 (ni hprP (fun P => 26) (fun P => [P, P + 1]) rfl) 11)))
      have e_168 : μ154.1 (P + 2) 3 = μ103.1 (P + 2) 3 := ((F_155.1 (P + 2) (ni hprP (fun P => P + 2) (fun P => [P + 8, P + 9]) rfl) 3).trans ((F_142.1 (P + 2) (ni hprP (fun P => P + 2) (fun P => [P, P + 1]) rfl) 3).trans (F_129.1 (P + 2) (ni hprP (fun P => P + 2) (fun P => [P, P + 1]) rfl) 3)))
      have e_169 : μ154.1 P 1 = μ127.1 P 1 + 1 := (hs_158.trans hs_146)
      have e_170 : μ154.1 23 7 = (μ.1 23 7) + 1 := ((F_155.1 23 (ni hprP (fun P => 23) (fun P => [P + 8, P + 9]) rfl) 7).trans ((F_142.1 23 (ni hprP (fun P => 23) (fun P => [P, P + 1]) rfl) 7).trans ((F_129.1 23 (ni hprP (fun P => 23) (fun P => [P, P + 1]) rfl) 7).trans (hs_114.trans (hs_74.trans ((sv_n _ (by decide)).trans ((sv_n _ (by decide)).trans ((F_34.1 23 (ni hprP (fun P => 23) (fun P => [P + 6, P + 7, P]) rfl) 7).trans (sv_s _ _ _ _)))))))))
      have e_171 : μ154.1 23 9 = μ.1 23 9 := ((F_155.1 23 (ni hprP (fun P => 23) (fun P => [P + 8, P + 9]) rfl) 9).trans ((F_142.1 23 (ni hprP (fun P => 23) (fun P => [P, P + 1]) rfl) 9).trans ((F_129.1 23 (ni hprP (fun P => 23) (fun P => [P, P + 1]) rfl) 9).trans (hs_116.trans (hs_68.trans ((sv_n _ (by decide)).trans ((sv_n _ (by decide)).trans ((F_34.1 23 (ni hprP (fun P => 23) (fun P => [P + 6, P + 7, P]) rfl) 9).trans ((sv_n _ (by decide)).trans (F_11.1 23 (by decide) 9))))))))))
      have e_172 : μ154.1 23 2 = P := ((F_155.1 23 (ni hprP (fun P => 23) (fun P => [P + 8, P + 9]) rfl) 2).trans ((F_142.1 23 (ni hprP (fun P => 23) (fun P => [P, P + 1]) rfl) 2).trans ((F_129.1 23 (ni hprP (fun P => 23) (fun P => [P, P + 1]) rfl) 2).trans (hs_113.trans (hs_73.trans ((sv_n _ (by decide)).trans ((sv_n _ (by decide)).trans ((F_34.1 23 (ni hprP (fun P => 23) (fun P => [P + 6, P + 7, P]) rfl) 2).trans ((sv_n _ (by decide)).trans ((F_11.1 23 (by decide) 2).trans hP.symm))))))))))
      have e_173 : μ154.1 23 8 = tt := ((F_155.1 23 (ni hprP (fun P => 23) (fun P => [P + 8, P + 9]) rfl) 8).trans ((F_142.1 23 (ni hprP (fun P => 23) (fun P => [P, P + 1]) rfl) 8).trans ((F_129.1 23 (ni hprP (fun P => 23) (fun P => [P, P + 1]) rfl) 8).trans (hs_115.trans (hs_75.trans ((sv_n _ (by decide)).trans ((sv_n _ (by decide)).trans ((F_34.1 23 (ni hprP (fun P => 23) (fun P => [P + 6, P + 7, P]) rfl) 8).trans ((sv_n _ (by decide)).trans ((F_11.1 23 (by decide) 8).trans htt.symm))))))))))
      exact xr_v G hret hlk dX7_function_138 ⟨(Fr.tr (Fr.tr (Fr.tr (Fr.tr (Fr.tr (Fr.put (Fr.put (Fr.tr (Fr.put (Fr.tr Fr.rf F_11 (si hprP (fun P => [26]) (fun P => [2, 3, 4, 23, 24, 25, 26, P, P + 1, P + 2, (P + 2) + 1, (P + 2) + 2, (P + 2) + 3, P + 6, P + 7, P + 8, P + 9]) rfl)) (si hprP (fun P => [23]) (fun P => [2, 3, 4, 23, 24, 25, 26, P, P + 1, P + 2, (P + 2) + 1, (P + 2) + 2, (P + 2) + 3, P + 6, P + 7, P + 8, P + 9]) rfl 23 (List.mem_singleton.2 rfl))) F_34 (si hprP (fun P => [P + 6, P + 7, P]) (fun P => [2, 3, 4, 23, 24, 25, 26, P, P + 1, P + 2, (P + 2) + 1, (P + 2) + 2, (P + 2) + 3, P + 6, P + 7, P + 8, P + 9]) rfl)) (si hprP (fun P => [23]) (fun P => [2, 3, 4, 23, 24, 25, 26, P, P + 1, P + 2, (P + 2) + 1, (P + 2) + 2, (P + 2) + 3, P + 6, P + 7, P + 8, P + 9]) rfl 23 (List.mem_singleton.2 rfl))) (si hprP (fun P => [23]) (fun P => [2, 3, 4, 23, 24, 25, 26, P, P + 1, P + 2, (P + 2) + 1, (P + 2) + 2, (P + 2) + 3, P + 6, P + 7, P + 8, P + 9]) rfl 23 (List.mem_singleton.2 rfl))) F_62 (si hprP (fun P => [26, 23, 25, 24]) (fun P => [2, 3, 4, 23, 24, 25, 26, P, P + 1, P + 2, (P + 2) + 1, (P + 2) + 2, (P + 2) + 3, P + 6, P + 7, P + 8, P + 9]) rfl)) F_104 (si hprP (fun P => [2, 3, 4, 23, 24, 25, 26, P, P + 1, P + 2, (P + 2) + 1, (P + 2) + 2, (P + 2) + 3]) (fun P => [2, 3, 4, 23, 24, 25, 26, P, P + 1, P + 2, (P + 2) + 1, (P + 2) + 2, (P + 2) + 3, P + 6, P + 7, P + 8, P + 9]) rfl)) F_129 (si hprP (fun P => [P, P + 1]) (fun P => [2, 3, 4, 23, 24, 25, 26, P, P + 1, P + 2, (P + 2) + 1, (P + 2) + 2, (P + 2) + 3, P + 6, P + 7, P + 8, P + 9]) rfl)) F_142 (si hprP (fun P => [P, P + 1]) (fun P => [2, 3, 4, 23, 24, 25, 26, P, P + 1, P + 2, (P + 2) + 1, (P + 2) + 2, (P + 2) + 3, P + 6, P + 7, P + 8, P + 9]) rfl)) F_155 (si hprP (fun P => [P + 8, P + 9]) (fun P => [2, 3, 4, 23, 24, 25, 26, P, P + 1, P + 2, (P + 2) + 1, (P + 2) + 2, (P + 2) + 3, P + 6, P + 7, P + 8, P + 9]) rfl)), hI_156, htk_162, (by omega), (by omega), (by omega), (by omega), (by omega), hp_157, (fun _ => (htP_161 ())), (by omega), (by omega)⟩
    · refine lv_aload_n hx hb dX7_function_57 rfl (lv_at hl 2 rfl) ?_
      refine lv_iconst (v := iv 3) hx hb dX7_function_58 rfl ?_
      refine lv_iload_n hx hb dX7_function_59 rfl (lv_at hl 0 rfl) ?_
      refine xc_vV G (b := 23) (rest := []) (As := [.int (iv 3), .int (iv (μ.1 26 13))]) (c_X7_tellFault ω l (sv μ10 23 7 ((μ.1 23 7) + 1)) 3 (μ.1 26 13) (by unfold ir; omega) (by unfold ir; omega) hI_24 (by omega)) (wm 3 177 rfl rfl) (wm 3 179 rfl rfl) (wm 0 12 rfl rfl) rfl rfl (by decide) rfl (wm 1 12 rfl rfl) (wm 3 180 rfl rfl) (by decide) hR (by decide) (n := 2) rfl rfl (Nat.le_of_ble_eq_true rfl) hl.1 dX7_function_60 (fun μ174 ρ d0 H locs hp G => ?_)
      obtain ⟨F_175, hI_176⟩ := hp
      refine lv_aload_n hx hb dX7_function_63 rfl (lv_at hl 2 rfl) ?_
      refine xa_getr G fd_X7 (a := 23) (x := P) 2 rfl (by decide) rfl (wm 2 19 rfl rfl) ⟨rfl, rfl, rfl⟩ dX7_function_64 rfl ((F_175.1 23 (by decide) 2).trans ((sv_n _ (by decide)).trans ((F_11.1 23 (by decide) 2).trans hP.symm))) (by omega) (hprP.hq ω ρ) ?_
      refine lv_lload_n hx hb dX7_function_67 rfl (lv_at hl 1 rfl) ?_
      have htP_177 : ∀ _ : Unit, μ174.1 26 11 = 0 → PG μ174 P tt := fun _ h0 => PG.fr (K := [24, 23, 26]) (hpg () (by have h9 : μ.1 26 11 = μ.1 26 11 := rfl; have h8 : μ174.1 26 11 = μ10.1 26 11 := ((F_175.1 26 (by decide) 11).trans (sv_n _ (fun h9 => absurd h9.1 (by decide)))); omega)) (Fr.tr (Fr.put (Fr.tr Fr.rf F_11 (by decide)) (by decide)) F_175 (by decide)) (ni hprP (fun P => P) (fun P => [24, 23, 26]) rfl) (ni hprP (fun P => P + 1) (fun P => [24, 23, 26]) rfl) (ni hprP (fun P => P + 7) (fun P => [24, 23, 26]) rfl)
      have e_178 : μ174.1 P 7 = μ.1 P 7 := ((F_175.1 P (ni hprP (fun P => P) (fun P => [24]) rfl) 7).trans ((sv_n _ (fun h9 => (ni hprP (fun P => P) (fun P => [23]) rfl) (List.mem_singleton.2 h9.1))).trans (F_11.1 P (ni hprP (fun P => P) (fun P => [26]) rfl) 7)))
      have e_179 : μ174.1 P 7 = μ.1 P 7 := ((F_175.1 P (ni hprP (fun P => P) (fun P => [24]) rfl) 7).trans ((sv_n _ (fun h9 => (ni hprP (fun P => P) (fun P => [23]) rfl) (List.mem_singleton.2 h9.1))).trans (F_11.1 P (ni hprP (fun P => P) (fun P => [26]) rfl) 7)))
      have e_180 : μ174.1 P 1 = μ.1 P 1 := ((F_175.1 P (ni hprP (fun P => P) (fun P => [24]) rfl) 1).trans ((sv_n _ (fun h9 => (ni hprP (fun P => P) (fun P => [23]) rfl) (List.mem_singleton.2 h9.1))).trans (F_11.1 P (ni hprP (fun P => P) (fun P => [26]) rfl) 1)))
      refine xc_vV G (b := P) (rest := []) (As := [.long (jv (μ.1 26 14))]) (c_X8_addFunction_b ω l μ174 P (μ.1 26 14) (μ.1 P 7) hprP hj_4 hI_176 (by omega) (by omega)) (wm 3 185 rfl rfl) (wm 3 186 rfl rfl) (wm 3 187 rfl rfl) hprP.ly rfl (by decide) (hprP.hq ω ρ) (wm 1 9 rfl rfl) (wm 3 188 rfl rfl) (by decide) hR (by decide) (n := 1) rfl rfl (Nat.le_of_ble_eq_true rfl) hl.1 dX7_function_68 (fun μ181 ρ d0 H locs hp G => ?_)
      obtain ⟨F_182, hI_183, hp_184, hp_185, hs_186⟩ := hp
      have hk_187 := hI_183.pr (p := P) hprP
      unfold pk at hk_187
      have hc_188 : 16 ≤ μ181.2.1 (P + 1) ∧ μ181.2.1 (P + 1) ≤ 73024 := hI_183.rm.1 _ hprP.cap
      replace hp_185 := fun _ : Unit => hp_185
      have hX_189 : ∀ _ : Unit, μ181.1 26 11 = 0 → PG μ181 P tt := by
        intro _ h0
        have l1 : μ181.1 P 1 = μ174.1 P 1 := by rw [show μ181.1 P 1 = μ.1 P 1 from (hs_186.trans ((F_175.1 P (ni hprP (fun P => P) (fun P => [24]) rfl) 1).trans ((sv_n _ (fun h9 => (ni hprP (fun P => P) (fun P => [23]) rfl) (List.mem_singleton.2 h9.1))).trans (F_11.1 P (ni hprP (fun P => P) (fun P => [26]) rfl) 1)))), show μ174.1 P 1 = μ.1 P 1 from ((F_175.1 P (ni hprP (fun P => P) (fun P => [24]) rfl) 1).trans ((sv_n _ (fun h9 => (ni hprP (fun P => P) (fun P => [23]) rfl) (List.mem_singleton.2 h9.1))).trans (F_11.1 P (ni hprP (fun P => P) (fun P => [26]) rfl) 1)))]
        have l7 : μ174.1 P 7 = μ.1 P 7 := ((F_175.1 P (ni hprP (fun P => P) (fun P => [24]) rfl) 7).trans ((sv_n _ (fun h9 => (ni hprP (fun P => P) (fun P => [23]) rfl) (List.mem_singleton.2 h9.1))).trans (F_11.1 P (ni hprP (fun P => P) (fun P => [26]) rfl) 7)))
        have c1 : ∀ j, μ181.1 (P + 1) j = μ174.1 (P + 1) j := fun j => F_182.1 (P + 1) (ni hprP (fun P => P + 1) (fun P => [P + 6, P + 7, P]) rfl) j
        refine PG.fn ((htP_177 ()) (by have h9 : μ174.1 26 11 = μ10.1 26 11 := ((F_175.1 26 (by decide) 11).trans (sv_n _ (fun h9 => absurd h9.1 (by decide)))); have h8 : μ181.1 26 11 = μ10.1 26 11 := ((F_182.1 26 (ni hprP (fun P => 26) (fun P => [P + 6, P + 7, P]) rfl) 11).trans ((F_175.1 26 (by decide) 11).trans (sv_n _ (fun h9 => absurd h9.1 (by decide))))); omega)) l1 (fun i k => by unfold cdp; rw [l1, c1]) ?_
        rw [l7]
        have hd_ := (hp_185 ())
        rcases hd_ with ⟨q1, q2⟩ | ⟨q0, q1, q2, q3⟩
        · exact Or.inl ⟨q1, q2⟩
        · exact Or.inr ⟨q0, q1, q2, q3⟩
      refine lv_aload_n hx hb dX7_function_71 rfl (lv_at hl 2 rfl) ?_
      refine xa_getr G fd_X7 (a := 23) (x := P) 2 rfl (by decide) rfl (wm 2 19 rfl rfl) ⟨rfl, rfl, rfl⟩ dX7_function_72 rfl ((F_182.1 23 (ni hprP (fun P => 23) (fun P => [P + 6, P + 7, P]) rfl) 2).trans ((F_175.1 23 (by decide) 2).trans ((sv_n _ (by decide)).trans ((F_11.1 23 (by decide) 2).trans hP.symm)))) (by omega) (hprP.hq ω ρ) ?_
      refine xc_iV G (b := P) (rest := []) (As := []) (c_X8_functions ω l μ181 P hprP hI_183) (wm 3 189 rfl rfl) (wm 3 190 rfl rfl) (wm 3 191 rfl rfl) hprP.ly rfl (by decide) (hprP.hq ω ρ) (wm 1 9 rfl rfl) (wm 3 192 rfl rfl) (by decide) hR (by decide) (n := 0) rfl rfl (Nat.le_of_ble_eq_true rfl) hl.1 dX7_function_75 (fun r_191 μ190 ρ d0 H locs hr_r_191 hp G => ?_)
      have hr_r_191 : -2147483648 ≤ r_191 ∧ r_191 ≤ 2147483647 := hr_r_191
      obtain ⟨hsm_192, hp_193⟩ := hp
      have hsm_192 := Eq.symm hsm_192
      subst hsm_192
      refine lv_iconst (v := iv 1) hx hb dX7_function_78 rfl ?_
      refine xb_isub hx hb dX7_function_79 ?_
      refine lv_istore (lv' := [(4, .int (iv (r_191 - 1))), (3, .int (iv (μ.1 26 13))), (1, .long (jv (μ.1 26 14))), (0, .ref (oP ω 23))]) hx hb dX7_function_80 hl (by decide) rfl (fun ls hl => ?_)
      refine lv_aload_n hx hb dX7_function_82 rfl (lv_at hl 3 rfl) ?_
      refine lv_iconst (v := iv 0) hx hb dX7_function_83 rfl ?_
      refine xa_puti G fd_X7 (a := 23) (x := 0) 5 (kz := 5) rfl rfl (by decide) rfl (by unfold ir; omega) (wm 2 22 rfl rfl) ⟨rfl, rfl, rfl, rfl⟩ rfl dX7_function_84 rfl (fun H locs G => ?_)
      refine lv_aload_n hx hb dX7_function_87 rfl (lv_at hl 3 rfl) ?_
      refine lv_iconst (v := iv 0) hx hb dX7_function_88 rfl ?_
      refine xa_puti G fd_X7 (a := 23) (x := 0) 6 (kz := 6) rfl rfl (by decide) rfl (by unfold ir; omega) (wm 2 23 rfl rfl) ⟨rfl, rfl, rfl, rfl⟩ rfl dX7_function_89 rfl (fun H locs G => ?_)
      refine lv_aload_n hx hb dX7_function_92 rfl (lv_at hl 3 rfl) ?_
      have hI_194 : IC (sv (sv μ181 23 5 0) 23 6 0) := (IC.put (IC.n_23_5 hI_183 (by omega)) (by decide +kernel))
      have htk_195 : TK (sv (sv μ181 23 5 0) 23 6 0) := hp_13.fr (K := [23, P + 6, P + 7, P, 24]) (Fr.put (Fr.put (Fr.tr (Fr.tr (Fr.put Fr.rf (si hprP (fun P => [23]) (fun P => [23, P + 6, P + 7, P, 24]) rfl 23 (List.mem_singleton.2 rfl))) F_175 (si hprP (fun P => [24]) (fun P => [23, P + 6, P + 7, P, 24]) rfl)) F_182 (si hprP (fun P => [P + 6, P + 7, P]) (fun P => [23, P + 6, P + 7, P, 24]) rfl)) (si hprP (fun P => [23]) (fun P => [23, P + 6, P + 7, P, 24]) rfl 23 (List.mem_singleton.2 rfl))) (si hprP (fun P => [23]) (fun P => [23, P + 6, P + 7, P, 24]) rfl 23 (List.mem_singleton.2 rfl))) (ni hprP (fun P => 26) (fun P => [23, P + 6, P + 7, P, 24]) rfl) (ni hprP (fun P => 28) (fun P => [23, P + 6, P + 7, P, 24]) rfl) (ni hprP (fun P => 29) (fun P => [23, P + 6, P + 7, P, 24]) rfl)
      have e_196 : (sv (sv μ181 23 5 0) 23 6 0).1 23 6 = 0 := (sv_s _ _ _ _)
      have e_197 : (sv (sv μ181 23 5 0) 23 6 0).1 23 9 = μ.1 23 9 := ((sv_n _ (by decide)).trans ((sv_n _ (by decide)).trans ((F_182.1 23 (ni hprP (fun P => 23) (fun P => [P + 6, P + 7, P]) rfl) 9).trans ((F_175.1 23 (by decide) 9).trans ((sv_n _ (by decide)).trans (F_11.1 23 (by decide) 9))))))
      have e_198 : (sv (sv μ181 23 5 0) 23 6 0).1 26 11 = μ10.1 26 11 := ((sv_n _ (fun h9 => absurd h9.1 (by decide))).trans ((sv_n _ (fun h9 => absurd h9.1 (by decide))).trans ((F_182.1 26 (ni hprP (fun P => 26) (fun P => [P + 6, P + 7, P]) rfl) 11).trans ((F_175.1 26 (by decide) 11).trans (sv_n _ (fun h9 => absurd h9.1 (by decide)))))))
      have e_199 : (sv (sv μ181 23 5 0) 23 6 0).1 26 10 = μ10.1 26 10 := ((sv_n _ (fun h9 => absurd h9.1 (by decide))).trans ((sv_n _ (fun h9 => absurd h9.1 (by decide))).trans ((F_182.1 26 (ni hprP (fun P => 26) (fun P => [P + 6, P + 7, P]) rfl) 10).trans ((F_175.1 26 (by decide) 10).trans (sv_n _ (fun h9 => absurd h9.1 (by decide)))))))
      have e_200 : (sv (sv μ181 23 5 0) 23 6 0).1 23 9 = μ.1 23 9 := ((sv_n _ (by decide)).trans ((sv_n _ (by decide)).trans ((F_182.1 23 (ni hprP (fun P => 23) (fun P => [P + 6, P + 7, P]) rfl) 9).trans ((F_175.1 23 (by decide) 9).trans ((sv_n _ (by decide)).trans (F_11.1 23 (by decide) 9))))))
      have e_201 : (sv (sv μ181 23 5 0) 23 6 0).1 26 6 = μ.1 26 6 := ((sv_n _ (fun h9 => absurd h9.1 (by decide))).trans ((sv_n _ (fun h9 => absurd h9.1 (by decide))).trans ((F_182.1 26 (ni hprP (fun P => 26) (fun P => [P + 6, P + 7, P]) rfl) 6).trans ((F_175.1 26 (by decide) 6).trans ((sv_n _ (fun h9 => absurd h9.1 (by decide))).trans hs_16)))))
      have e_202 : (sv (sv μ181 23 5 0) 23 6 0).1 26 7 = μ.1 26 7 := ((sv_n _ (fun h9 => absurd h9.1 (by decide))).trans ((sv_n _ (fun h9 => absurd h9.1 (by decide))).trans ((F_182.1 26 (ni hprP (fun P => 26) (fun P => [P + 6, P + 7, P]) rfl) 7).trans ((F_175.1 26 (by decide) 7).trans ((sv_n _ (fun h9 => absurd h9.1 (by decide))).trans hs_17)))))
      have e_203 : (sv (sv μ181 23 5 0) 23 6 0).1 26 8 = μ.1 26 8 := ((sv_n _ (fun h9 => absurd h9.1 (by decide))).trans ((sv_n _ (fun h9 => absurd h9.1 (by decide))).trans ((F_182.1 26 (ni hprP (fun P => 26) (fun P => [P + 6, P + 7, P]) rfl) 8).trans ((F_175.1 26 (by decide) 8).trans ((sv_n _ (fun h9 => absurd h9.1 (by decide))).trans hs_18)))))
      have e_204 : (sv (sv μ181 23 5 0) 23 6 0).1 26 9 = μ.1 26 9 := ((sv_n _ (fun h9 => absurd h9.1 (by decide))).trans ((sv_n _ (fun h9 => absurd h9.1 (by decide))).trans ((F_182.1 26 (ni hprP (fun P => 26) (fun P => [P + 6, P + 7, P]) rfl) 9).trans ((F_175.1 26 (by decide) 9).trans ((sv_n _ (fun h9 => absurd h9.1 (by decide))).trans hs_19)))))
      have e_205 : (sv (sv μ181 23 5 0) 23 6 0).1 23 2 = P := ((sv_n _ (by decide)).trans ((sv_n _ (by decide)).trans ((F_182.1 23 (ni hprP (fun P => 23) (fun P => [P + 6, P + 7, P]) rfl) 2).trans ((F_175.1 23 (by decide) 2).trans ((sv_n _ (by decide)).trans ((F_11.1 23 (by decide) 2).trans hP.symm))))))
      have e_206 : (sv (sv μ181 23 5 0) 23 6 0).1 23 7 = (μ.1 23 7) + 1 := ((sv_n _ (by decide)).trans ((sv_n _ (by decide)).trans ((F_182.1 23 (ni hprP (fun P => 23) (fun P => [P + 6, P + 7, P]) rfl) 7).trans ((F_175.1 23 (by decide) 7).trans (sv_s _ _ _ _)))))
      have e_207 : (sv (sv μ181 23 5 0) 23 6 0).1 23 8 = tt := ((sv_n _ (by decide)).trans ((sv_n _ (by decide)).trans ((F_182.1 23 (ni hprP (fun P => 23) (fun P => [P + 6, P + 7, P]) rfl) 8).trans ((F_175.1 23 (by decide) 8).trans ((sv_n _ (by decide)).trans ((F_11.1 23 (by decide) 8).trans htt.symm))))))
      have e_208 : (sv (sv μ181 23 5 0) 23 6 0).1 23 10 = μ.1 23 10 := ((sv_n _ (by decide)).trans ((sv_n _ (by decide)).trans ((F_182.1 23 (ni hprP (fun P => 23) (fun P => [P + 6, P + 7, P]) rfl) 10).trans ((F_175.1 23 (by decide) 10).trans ((sv_n _ (by decide)).trans (F_11.1 23 (by decide) 10))))))
      refine xc_vV G (b := 23) (rest := []) (As := []) (c_X7_parameters ω l (sv (sv μ181 23 5 0) 23 6 0)  hI_194 htk_195 (by omega) (by omega)) (wm 3 193 rfl rfl) (wm 3 195 rfl rfl) (wm 0 13 rfl rfl) rfl rfl (by decide) rfl (wm 1 12 rfl rfl) (wm 3 196 rfl rfl) (by decide) hR (by decide) (n := 0) rfl rfl (Nat.le_of_ble_eq_true rfl) hl.1 dX7_function_93 (fun μ209 ρ d0 H locs hp G => ?_)
      obtain ⟨F_210, hI_211, hp_212, hp_213, hp_214, hp_215, hs_216, hs_217, hs_218, hs_219, hs_220, hs_221, hs_222, hs_223, hs_224⟩ := hp
      have hn_225 : -1 ≤ μ209.1 26 10 ∧ μ209.1 26 10 ≤ 3000 := hI_211.nm.2.2.2.2.2.2.2.2.2.2.2.2
      have htb_226 := hp_212.b
      refine lv_aload_n hx hb dX7_function_96 rfl (lv_at hl 3 rfl) ?_
      refine xa_geti G fd_X7 (a := 23) (x := μ209.1 23 6) 6 rfl (by decide) rfl (wm 2 23 rfl rfl) ⟨rfl, rfl, rfl⟩ dX7_function_97 rfl rfl ?_
      have hr_227 : -2147483648 ≤ μ209.1 23 6 ∧ μ209.1 23 6 ≤ 2147483647 := by have h9 := G.hr (a := 23) (k := 6) rfl; exact h9
      have hn_228 : 0 ≤ μ209.1 23 5 ∧ μ209.1 23 5 ≤ 1000 := hI_211.nm.2.2.2.2.2.2.2.2.1
      refine lv_istore (lv' := [(5, .int (iv (μ209.1 23 6))), (4, .int (iv (r_191 - 1))), (3, .int (iv (μ.1 26 13))), (1, .long (jv (μ.1 26 14))), (0, .ref (oP ω 23))]) hx hb dX7_function_100 hl (by decide) rfl (fun ls hl => ?_)
      refine lv_aload_n hx hb dX7_function_102 rfl (lv_at hl 4 rfl) ?_
      have htP_229 : ∀ _ : Unit, μ209.1 26 11 = 0 → PG μ209 P tt := fun _ h0 => PG.fr (K := [26, 23, 25, 24]) (hX_189 () (by have h9 : μ181.1 26 11 = μ10.1 26 11 := ((F_182.1 26 (ni hprP (fun P => 26) (fun P => [P + 6, P + 7, P]) rfl) 11).trans ((F_175.1 26 (by decide) 11).trans (sv_n _ (fun h9 => absurd h9.1 (by decide))))); have h8 : μ209.1 26 11 = μ209.1 26 11 := rfl; omega)) (Fr.tr (Fr.put (Fr.put Fr.rf (by decide)) (by decide)) F_210 (by decide)) (ni hprP (fun P => P) (fun P => [26, 23, 25, 24]) rfl) (ni hprP (fun P => P + 1) (fun P => [26, 23, 25, 24]) rfl) (ni hprP (fun P => P + 7) (fun P => [26, 23, 25, 24]) rfl)
      have hhc_230 : ∀ _ : Unit, μ209.1 26 11 = 0 → HC μ209 P tt 0 := fun _ h0 => ((htP_229 ()) h0).hc
      have e_231 : μ209.1 23 2 = P := (hs_221.trans ((sv_n _ (by decide)).trans ((sv_n _ (by decide)).trans ((F_182.1 23 (ni hprP (fun P => 23) (fun P => [P + 6, P + 7, P]) rfl) 2).trans ((F_175.1 23 (by decide) 2).trans ((sv_n _ (by decide)).trans ((F_11.1 23 (by decide) 2).trans hP.symm)))))))
      have e_232 : μ209.1 23 8 = tt := (hs_223.trans ((sv_n _ (by decide)).trans ((sv_n _ (by decide)).trans ((F_182.1 23 (ni hprP (fun P => 23) (fun P => [P + 6, P + 7, P]) rfl) 8).trans ((F_175.1 23 (by decide) 8).trans ((sv_n _ (by decide)).trans ((F_11.1 23 (by decide) 8).trans htt.symm)))))))
      have e_233 : μ209.1 P 1 = μ.1 P 1 := ((F_210.1 P (ni hprP (fun P => P) (fun P => [26, 23, 25, 24]) rfl) 1).trans ((sv_n _ (fun h9 => (ni hprP (fun P => P) (fun P => [23]) rfl) (List.mem_singleton.2 h9.1))).trans ((sv_n _ (fun h9 => (ni hprP (fun P => P) (fun P => [23]) rfl) (List.mem_singleton.2 h9.1))).trans (hs_186.trans ((F_175.1 P (ni hprP (fun P => P) (fun P => [24]) rfl) 1).trans ((sv_n _ (fun h9 => (ni hprP (fun P => P) (fun P => [23]) rfl) (List.mem_singleton.2 h9.1))).trans (F_11.1 P (ni hprP (fun P => P) (fun P => [26]) rfl) 1)))))))
      have hk_234 := hI.row (r := P + 2) (hprP.row)
      unfold rk at hk_234
      have e_235 : μ209.1 (P + 2) 3 = μ.1 (P + 2) 3 := ((F_210.1 (P + 2) (ni hprP (fun P => P + 2) (fun P => [26, 23, 25, 24]) rfl) 3).trans ((sv_n _ (fun h9 => (ni hprP (fun P => P + 2) (fun P => [23]) rfl) (List.mem_singleton.2 h9.1))).trans ((sv_n _ (fun h9 => (ni hprP (fun P => P + 2) (fun P => [23]) rfl) (List.mem_singleton.2 h9.1))).trans ((F_182.1 (P + 2) (ni hprP (fun P => P + 2) (fun P => [P + 6, P + 7, P]) rfl) 3).trans ((F_175.1 (P + 2) (ni hprP (fun P => P + 2) (fun P => [24]) rfl) 3).trans ((sv_n _ (fun h9 => (ni hprP (fun P => P + 2) (fun P => [23]) rfl) (List.mem_singleton.2 h9.1))).trans (F_11.1 (P + 2) (ni hprP (fun P => P + 2) (fun P => [26]) rfl) 3)))))))
      have e_236 : μ209.1 P 1 = μ.1 P 1 := ((F_210.1 P (ni hprP (fun P => P) (fun P => [26, 23, 25, 24]) rfl) 1).trans ((sv_n _ (fun h9 => (ni hprP (fun P => P) (fun P => [23]) rfl) (List.mem_singleton.2 h9.1))).trans ((sv_n _ (fun h9 => (ni hprP (fun P => P) (fun P => [23]) rfl) (List.mem_singleton.2 h9.1))).trans (hs_186.trans ((F_175.1 P (ni hprP (fun P => P) (fun P => [24]) rfl) 1).trans ((sv_n _ (fun h9 => (ni hprP (fun P => P) (fun P => [23]) rfl) (List.mem_singleton.2 h9.1))).trans (F_11.1 P (ni hprP (fun P => P) (fun P => [26]) rfl) 1)))))))
      have e_237 : μ209.1 23 9 = μ.1 23 9 := (hs_216.trans ((sv_n _ (by decide)).trans ((sv_n _ (by decide)).trans ((F_182.1 23 (ni hprP (fun P => 23) (fun P => [P + 6, P + 7, P]) rfl) 9).trans ((F_175.1 23 (by decide) 9).trans ((sv_n _ (by decide)).trans (F_11.1 23 (by decide) 9)))))))
      have e_238 : μ209.1 23 9 = μ.1 23 9 := (hs_216.trans ((sv_n _ (by decide)).trans ((sv_n _ (by decide)).trans ((F_182.1 23 (ni hprP (fun P => 23) (fun P => [P + 6, P + 7, P]) rfl) 9).trans ((F_175.1 23 (by decide) 9).trans ((sv_n _ (by decide)).trans (F_11.1 23 (by decide) 9)))))))
      have e_239 : μ209.1 P 1 = μ.1 P 1 := ((F_210.1 P (ni hprP (fun P => P) (fun P => [26, 23, 25, 24]) rfl) 1).trans ((sv_n _ (fun h9 => (ni hprP (fun P => P) (fun P => [23]) rfl) (List.mem_singleton.2 h9.1))).trans ((sv_n _ (fun h9 => (ni hprP (fun P => P) (fun P => [23]) rfl) (List.mem_singleton.2 h9.1))).trans (hs_186.trans ((F_175.1 P (ni hprP (fun P => P) (fun P => [24]) rfl) 1).trans ((sv_n _ (fun h9 => (ni hprP (fun P => P) (fun P => [23]) rfl) (List.mem_singleton.2 h9.1))).trans (F_11.1 P (ni hprP (fun P => P) (fun P => [26]) rfl) 1)))))))
      have e_240 : μ209.1 P 1 = μ.1 P 1 := ((F_210.1 P (ni hprP (fun P => P) (fun P => [26, 23, 25, 24]) rfl) 1).trans ((sv_n _ (fun h9 => (ni hprP (fun P => P) (fun P => [23]) rfl) (List.mem_singleton.2 h9.1))).trans ((sv_n _ (fun h9 => (ni hprP (fun P => P) (fun P => [23]) rfl) (List.mem_singleton.2 h9.1))).trans (hs_186.trans ((F_175.1 P (ni hprP (fun P => P) (fun P => [24]) rfl) 1).trans ((sv_n _ (fun h9 => (ni hprP (fun P => P) (fun P => [23]) rfl) (List.mem_singleton.2 h9.1))).trans (F_11.1 P (ni hprP (fun P => P) (fun P => [26]) rfl) 1)))))))
      have e_241 : μ209.1 (P + 2) 3 = μ.1 (P + 2) 3 := ((F_210.1 (P + 2) (ni hprP (fun P => P + 2) (fun P => [26, 23, 25, 24]) rfl) 3).trans ((sv_n _ (fun h9 => (ni hprP (fun P => P + 2) (fun P => [23]) rfl) (List.mem_singleton.2 h9.1))).trans ((sv_n _ (fun h9 => (ni hprP (fun P => P + 2) (fun P => [23]) rfl) (List.mem_singleton.2 h9.1))).trans ((F_182.1 (P + 2) (ni hprP (fun P => P + 2) (fun P => [P + 6, P + 7, P]) rfl) 3).trans ((F_175.1 (P + 2) (ni hprP (fun P => P + 2) (fun P => [24]) rfl) 3).trans ((sv_n _ (fun h9 => (ni hprP (fun P => P + 2) (fun P => [23]) rfl) (List.mem_singleton.2 h9.1))).trans (F_11.1 (P + 2) (ni hprP (fun P => P + 2) (fun P => [26]) rfl) 3)))))))
      have e_242 : μ209.1 P 1 = μ.1 P 1 := ((F_210.1 P (ni hprP (fun P => P) (fun P => [26, 23, 25, 24]) rfl) 1).trans ((sv_n _ (fun h9 => (ni hprP (fun P => P) (fun P => [23]) rfl) (List.mem_singleton.2 h9.1))).trans ((sv_n _ (fun h9 => (ni hprP (fun P => P) (fun P => [23]) rfl) (List.mem_singleton.2 h9.1))).trans (hs_186.trans ((F_175.1 P (ni hprP (fun P => P) (fun P => [24]) rfl) 1).trans ((sv_n _ (fun h9 => (ni hprP (fun P => P) (fun P => [23]) rfl) (List.mem_singleton.2 h9.1))).trans (F_11.1 P (ni hprP (fun P => P) (fun P => [26]) rfl) 1)))))))
      have e_243 : μ209.1 (P + 2) 3 = μ.1 (P + 2) 3 := ((F_210.1 (P + 2) (ni hprP (fun P => P + 2) (fun P => [26, 23, 25, 24]) rfl) 3).trans ((sv_n _ (fun h9 => (ni hprP (fun P => P + 2) (fun P => [23]) rfl) (List.mem_singleton.2 h9.1))).trans ((sv_n _ (fun h9 => (ni hprP (fun P => P + 2) (fun P => [23]) rfl) (List.mem_singleton.2 h9.1))).trans ((F_182.1 (P + 2) (ni hprP (fun P => P + 2) (fun P => [P + 6, P + 7, P]) rfl) 3).trans ((F_175.1 (P + 2) (ni hprP (fun P => P + 2) (fun P => [24]) rfl) 3).trans ((sv_n _ (fun h9 => (ni hprP (fun P => P + 2) (fun P => [23]) rfl) (List.mem_singleton.2 h9.1))).trans (F_11.1 (P + 2) (ni hprP (fun P => P + 2) (fun P => [26]) rfl) 3)))))))
      have e_244 : μ209.1 23 9 = μ.1 23 9 := (hs_216.trans ((sv_n _ (by decide)).trans ((sv_n _ (by decide)).trans ((F_182.1 23 (ni hprP (fun P => 23) (fun P => [P + 6, P + 7, P]) rfl) 9).trans ((F_175.1 23 (by decide) 9).trans ((sv_n _ (by decide)).trans (F_11.1 23 (by decide) 9)))))))
      have e_245 : μ209.1 23 2 = P := (hs_221.trans ((sv_n _ (by decide)).trans ((sv_n _ (by decide)).trans ((F_182.1 23 (ni hprP (fun P => 23) (fun P => [P + 6, P + 7, P]) rfl) 2).trans ((F_175.1 23 (by decide) 2).trans ((sv_n _ (by decide)).trans ((F_11.1 23 (by decide) 2).trans hP.symm)))))))
      have e_246 : μ209.1 23 7 = (μ.1 23 7) + 1 := (hs_222.trans ((sv_n _ (by decide)).trans ((sv_n _ (by decide)).trans ((F_182.1 23 (ni hprP (fun P => 23) (fun P => [P + 6, P + 7, P]) rfl) 7).trans ((F_175.1 23 (by decide) 7).trans (sv_s _ _ _ _))))))
      have e_247 : μ209.1 23 8 = tt := (hs_223.trans ((sv_n _ (by decide)).trans ((sv_n _ (by decide)).trans ((F_182.1 23 (ni hprP (fun P => 23) (fun P => [P + 6, P + 7, P]) rfl) 8).trans ((F_175.1 23 (by decide) 8).trans ((sv_n _ (by decide)).trans ((F_11.1 23 (by decide) 8).trans htt.symm)))))))
      have e_248 : μ209.1 23 9 = μ.1 23 9 := (hs_216.trans ((sv_n _ (by decide)).trans ((sv_n _ (by decide)).trans ((F_182.1 23 (ni hprP (fun P => 23) (fun P => [P + 6, P + 7, P]) rfl) 9).trans ((F_175.1 23 (by decide) 9).trans ((sv_n _ (by decide)).trans (F_11.1 23 (by decide) 9)))))))
      have e_249 : μ209.1 26 6 = μ.1 26 6 := (hs_217.trans ((sv_n _ (fun h9 => absurd h9.1 (by decide))).trans ((sv_n _ (fun h9 => absurd h9.1 (by decide))).trans ((F_182.1 26 (ni hprP (fun P => 26) (fun P => [P + 6, P + 7, P]) rfl) 6).trans ((F_175.1 26 (by decide) 6).trans ((sv_n _ (fun h9 => absurd h9.1 (by decide))).trans hs_16))))))
      have e_250 : μ209.1 P 7 = μ181.1 P 7 := ((F_210.1 P (ni hprP (fun P => P) (fun P => [26, 23, 25, 24]) rfl) 7).trans ((sv_n _ (fun h9 => (ni hprP (fun P => P) (fun P => [23]) rfl) (List.mem_singleton.2 h9.1))).trans (sv_n _ (fun h9 => (ni hprP (fun P => P) (fun P => [23]) rfl) (List.mem_singleton.2 h9.1)))))
      refine xc_vV G (b := 23) (rest := []) (As := []) (c_X7_block_a ω l μ209 P tt hI_211 (by omega) (by omega) hp_212 (by omega) (by omega) (by omega) (by omega) hhc_230) (wm 3 218 rfl rfl) (wm 3 220 rfl rfl) (wm 0 19 rfl rfl) rfl rfl (by decide) rfl (wm 1 12 rfl rfl) (wm 3 221 rfl rfl) (by decide) hR (by decide) (n := 0) rfl rfl (Nat.le_of_ble_eq_true rfl) hl.1 dX7_function_103 (fun μ251 ρ d0 H locs hp G => ?_)
      obtain ⟨F_252, hI_253, hp_254, hp_255, hp_256, hp_257, hp_258, hp_259, hp_260, hs_261, hs_262, hs_263, hs_264, hs_265, hs_266⟩ := hp
      have hn_267 : -1 ≤ μ251.1 26 10 ∧ μ251.1 26 10 ≤ 3000 := hI_253.nm.2.2.2.2.2.2.2.2.2.2.2.2
      have hk_268 := hI_253.pr (p := P) hprP
      unfold pk at hk_268
      have hc_269 : 16 ≤ μ251.2.1 (P + 1) ∧ μ251.2.1 (P + 1) ≤ 73024 := hI_253.rm.1 _ hprP.cap
      have hk_270 := hI_253.row (r := P + 2) (hprP.row)
      unfold rk at hk_270
      have htb_271 := hp_254.b
      replace hp_259 := fun _ : Unit => hp_259
      have hXP_272 : ∀ _ : Unit, μ251.1 26 11 = 0 → PG μ251 P tt := fun _ h0 => ((htP_229 ()) (by have h9 : μ209.1 26 11 = μ209.1 26 11 := rfl; have h8 : μ251.1 26 11 = μ251.1 26 11 := rfl; omega)).ex ((hp_259 ()) h0) (by have h9 : μ209.1 23 9 = μ.1 23 9 := (hs_216.trans ((sv_n _ (by decide)).trans ((sv_n _ (by decide)).trans ((F_182.1 23 (ni hprP (fun P => 23) (fun P => [P + 6, P + 7, P]) rfl) 9).trans ((F_175.1 23 (by decide) 9).trans ((sv_n _ (by decide)).trans (F_11.1 23 (by decide) 9))))))); omega) (by rw [show μ251.1 P 7 = μ181.1 P 7 from (hs_266.trans ((F_210.1 P (ni hprP (fun P => P) (fun P => [26, 23, 25, 24]) rfl) 7).trans ((sv_n _ (fun h9 => (ni hprP (fun P => P) (fun P => [23]) rfl) (List.mem_singleton.2 h9.1))).trans (sv_n _ (fun h9 => (ni hprP (fun P => P) (fun P => [23]) rfl) (List.mem_singleton.2 h9.1)))))), show μ209.1 P 7 = μ181.1 P 7 from ((F_210.1 P (ni hprP (fun P => P) (fun P => [26, 23, 25, 24]) rfl) 7).trans ((sv_n _ (fun h9 => (ni hprP (fun P => P) (fun P => [23]) rfl) (List.mem_singleton.2 h9.1))).trans (sv_n _ (fun h9 => (ni hprP (fun P => P) (fun P => [23]) rfl) (List.mem_singleton.2 h9.1)))))]) (fun j => F_252.1 (P + 7) (ni hprP (fun P => P + 7) (fun P => [2, 3, 4, 23, 24, 25, 26, P, P + 1, P + 2, (P + 2) + 1, (P + 2) + 2, (P + 2) + 3]) rfl) j)
      refine lv_aload_n hx hb dX7_function_106 rfl (lv_at hl 4 rfl) ?_
      refine lv_iconst (v := iv 3) hx hb dX7_function_107 rfl ?_
      refine lv_iconst (v := iv 0) hx hb dX7_function_108 rfl ?_
      refine lv_iconst (v := iv 0) hx hb dX7_function_109 rfl ?_
      have e_273 : μ251.1 23 2 = P := (hs_261.trans (hs_221.trans ((sv_n _ (by decide)).trans ((sv_n _ (by decide)).trans ((F_182.1 23 (ni hprP (fun P => 23) (fun P => [P + 6, P + 7, P]) rfl) 2).trans ((F_175.1 23 (by decide) 2).trans ((sv_n _ (by decide)).trans ((F_11.1 23 (by decide) 2).trans hP.symm))))))))
      have e_274 : μ251.1 P 7 = μ181.1 P 7 := (hs_266.trans ((F_210.1 P (ni hprP (fun P => P) (fun P => [26, 23, 25, 24]) rfl) 7).trans ((sv_n _ (fun h9 => (ni hprP (fun P => P) (fun P => [23]) rfl) (List.mem_singleton.2 h9.1))).trans (sv_n _ (fun h9 => (ni hprP (fun P => P) (fun P => [23]) rfl) (List.mem_singleton.2 h9.1))))))
      refine xc_iV G (b := 23) (rest := []) (As := [.int (iv 3), .int (iv 0), .int (iv 0)]) (c_X7_add ω l μ251 3 0 0 P (by unfold ir; omega) (by unfold ir; omega) (by unfold ir; omega) hI_253 (by omega) (by omega)) (wm 3 226 rfl rfl) (wm 3 228 rfl rfl) (wm 0 21 rfl rfl) rfl rfl (by decide) rfl (wm 1 12 rfl rfl) (wm 3 229 rfl rfl) (by decide) hR (by decide) (n := 3) rfl rfl (Nat.le_of_ble_eq_true rfl) hl.1 dX7_function_110 (fun r_276 μ275 ρ d0 H locs hr_r_276 hp G => ?_)
      have hr_r_276 : -2147483648 ≤ r_276 ∧ r_276 ≤ 2147483647 := hr_r_276
      obtain ⟨F_277, hI_278, hp_279, hp_280, hs_281, hs_282⟩ := hp
      refine lv_pop hx hb dX7_function_113 rfl ?_
      refine lv_aload_n hx hb dX7_function_114 rfl (lv_at hl 4 rfl) ?_
      refine lv_bipush (v := iv 21) hx hb dX7_function_115 rfl ?_
      refine lv_iconst (v := iv 0) hx hb dX7_function_117 rfl ?_
      refine lv_iconst (v := iv 0) hx hb dX7_function_118 rfl ?_
      have e_283 : μ275.1 23 2 = P := ((F_277.1 23 (ni hprP (fun P => 23) (fun P => [P, P + 1]) rfl) 2).trans (hs_261.trans (hs_221.trans ((sv_n _ (by decide)).trans ((sv_n _ (by decide)).trans ((F_182.1 23 (ni hprP (fun P => 23) (fun P => [P + 6, P + 7, P]) rfl) 2).trans ((F_175.1 23 (by decide) 2).trans ((sv_n _ (by decide)).trans ((F_11.1 23 (by decide) 2).trans hP.symm)))))))))
      have e_284 : μ275.1 P 1 = μ251.1 P 1 + 1 := hs_281
      have e_285 : μ275.1 P 1 = μ251.1 P 1 + 1 := hs_281
      have e_286 : μ275.1 P 1 = μ251.1 P 1 + 1 := hs_281
      have e_287 : μ275.1 P 7 = μ181.1 P 7 := (hs_282.trans (hs_266.trans ((F_210.1 P (ni hprP (fun P => P) (fun P => [26, 23, 25, 24]) rfl) 7).trans ((sv_n _ (fun h9 => (ni hprP (fun P => P) (fun P => [23]) rfl) (List.mem_singleton.2 h9.1))).trans (sv_n _ (fun h9 => (ni hprP (fun P => P) (fun P => [23]) rfl) (List.mem_singleton.2 h9.1)))))))
      refine xc_iV G (b := 23) (rest := []) (As := [.int (iv 21), .int (iv 0), .int (iv 0)]) (c_X7_add ω l μ275 21 0 0 P (by unfold ir; omega) (by unfold ir; omega) (by unfold ir; omega) hI_278 (by omega) (by omega)) (wm 3 226 rfl rfl) (wm 3 228 rfl rfl) (wm 0 21 rfl rfl) rfl rfl (by decide) rfl (wm 1 12 rfl rfl) (wm 3 229 rfl rfl) (by decide) hR (by decide) (n := 3) rfl rfl (Nat.le_of_ble_eq_true rfl) hl.1 dX7_function_119 (fun r_289 μ288 ρ d0 H locs hr_r_289 hp G => ?_)
      have hr_r_289 : -2147483648 ≤ r_289 ∧ r_289 ≤ 2147483647 := hr_r_289
      obtain ⟨F_290, hI_291, hp_292, hp_293, hs_294, hs_295⟩ := hp
      have hX_296 : ∀ _ : Unit, μ288.1 26 11 = 0 → PG μ288 P tt := by
        intro _ h0
        have hp := (hXP_272 ()) (by have h9 : μ251.1 26 11 = μ251.1 26 11 := rfl; have h8 : μ288.1 26 11 = μ251.1 26 11 := ((F_290.1 26 (ni hprP (fun P => 26) (fun P => [P, P + 1]) rfl) 11).trans (F_277.1 26 (ni hprP (fun P => 26) (fun P => [P, P + 1]) rfl) 11)); omega)
        have hh := hp.hc
        have e1 := EX.pl (t := tt) hp_280 hh.1 (by unfold plain; omega) (e := 1) rfl (by rw [hh.2.1]; decide)
        have hh2 := e1.h
        rw [hh.2.1] at hh2
        have e2 := EX.pl (t := tt) hp_293 (by have := e1.1.1; have := hh.1; omega) (by unfold plain; omega) (e := -1) rfl (by omega)
        exact hp.ex ((e1.tr e2).e rfl) (by decide) (by rw [show μ288.1 P 7 = μ181.1 P 7 from (hs_295.trans (hs_282.trans (hs_266.trans ((F_210.1 P (ni hprP (fun P => P) (fun P => [26, 23, 25, 24]) rfl) 7).trans ((sv_n _ (fun h9 => (ni hprP (fun P => P) (fun P => [23]) rfl) (List.mem_singleton.2 h9.1))).trans (sv_n _ (fun h9 => (ni hprP (fun P => P) (fun P => [23]) rfl) (List.mem_singleton.2 h9.1)))))))), show μ251.1 P 7 = μ181.1 P 7 from (hs_266.trans ((F_210.1 P (ni hprP (fun P => P) (fun P => [26, 23, 25, 24]) rfl) 7).trans ((sv_n _ (fun h9 => (ni hprP (fun P => P) (fun P => [23]) rfl) (List.mem_singleton.2 h9.1))).trans (sv_n _ (fun h9 => (ni hprP (fun P => P) (fun P => [23]) rfl) (List.mem_singleton.2 h9.1))))))]) (fun j => ((show Fr [P, P + 1] μ251 μ288 from (Fr.tr (Fr.tr Fr.rf F_277 (si hprP (fun P => [P, P + 1]) (fun P => [P, P + 1]) rfl)) F_290 (si hprP (fun P => [P, P + 1]) (fun P => [P, P + 1]) rfl)))).1 (P + 7) (ni hprP (fun P => P + 7) (fun P => [P, P + 1]) rfl) j)
      refine lv_pop hx hb dX7_function_122 rfl ?_
      refine lv_aload_n hx hb dX7_function_123 rfl (lv_at hl 4 rfl) ?_
      refine xa_getr G fd_X7 (a := 23) (x := P) 2 rfl (by decide) rfl (wm 2 19 rfl rfl) ⟨rfl, rfl, rfl⟩ dX7_function_124 rfl ((F_290.1 23 (ni hprP (fun P => 23) (fun P => [P, P + 1]) rfl) 2).trans ((F_277.1 23 (ni hprP (fun P => 23) (fun P => [P, P + 1]) rfl) 2).trans (hs_261.trans (hs_221.trans ((sv_n _ (by decide)).trans ((sv_n _ (by decide)).trans ((F_182.1 23 (ni hprP (fun P => 23) (fun P => [P + 6, P + 7, P]) rfl) 2).trans ((F_175.1 23 (by decide) 2).trans ((sv_n _ (by decide)).trans ((F_11.1 23 (by decide) 2).trans hP.symm)))))))))) (by omega) (hprP.hq ω ρ) ?_
      refine lv_iload hx hb dX7_function_127 (lv_at hl 1 rfl) ?_
      refine lv_iload hx hb dX7_function_129 (lv_at hl 0 rfl) ?_
      have hn_297 : 0 ≤ μ251.1 23 5 ∧ μ251.1 23 5 ≤ 1000 := hI_253.nm.2.2.2.2.2.2.2.2.1
      refine lv_aload_n hx hb dX7_function_131 rfl (lv_at hl 4 rfl) ?_
      refine xa_geti G fd_X7 (a := 23) (x := μ251.1 23 5) 5 rfl (by decide) rfl (wm 2 22 rfl rfl) ⟨rfl, rfl, rfl⟩ dX7_function_132 rfl ((F_290.1 23 (ni hprP (fun P => 23) (fun P => [P, P + 1]) rfl) 5).trans (F_277.1 23 (ni hprP (fun P => 23) (fun P => [P, P + 1]) rfl) 5)) ?_
      have hr_298 : -2147483648 ≤ μ251.1 23 5 ∧ μ251.1 23 5 ≤ 2147483647 := by have h9 := G.hr (a := 23) (k := 5) rfl; rw [show μ288.1 23 5 = μ251.1 23 5 from ((F_290.1 23 (ni hprP (fun P => 23) (fun P => [P, P + 1]) rfl) 5).trans (F_277.1 23 (ni hprP (fun P => 23) (fun P => [P, P + 1]) rfl) 5))] at h9; exact h9
      have hvr_299 : vrk μ288 := vrk.fP (P := P) (L := fun P => [P, P + 1, 2, 3, 4, 23, 24, 25, 26, P + 2, (P + 2) + 1, (P + 2) + 2, (P + 2) + 3, P + 6, P + 7]) hprP rfl (Fr.tr (Fr.tr (Fr.tr (Fr.tr (Fr.put (Fr.put (Fr.tr (Fr.tr (Fr.put (Fr.tr Fr.rf F_11 (si hprP (fun P => [26]) (fun P => [P, P + 1, 2, 3, 4, 23, 24, 25, 26, P + 2, (P + 2) + 1, (P + 2) + 2, (P + 2) + 3, P + 6, P + 7]) rfl)) (si hprP (fun P => [23]) (fun P => [P, P + 1, 2, 3, 4, 23, 24, 25, 26, P + 2, (P + 2) + 1, (P + 2) + 2, (P + 2) + 3, P + 6, P + 7]) rfl 23 (List.mem_singleton.2 rfl))) F_175 (si hprP (fun P => [24]) (fun P => [P, P + 1, 2, 3, 4, 23, 24, 25, 26, P + 2, (P + 2) + 1, (P + 2) + 2, (P + 2) + 3, P + 6, P + 7]) rfl)) F_182 (si hprP (fun P => [P + 6, P + 7, P]) (fun P => [P, P + 1, 2, 3, 4, 23, 24, 25, 26, P + 2, (P + 2) + 1, (P + 2) + 2, (P + 2) + 3, P + 6, P + 7]) rfl)) (si hprP (fun P => [23]) (fun P => [P, P + 1, 2, 3, 4, 23, 24, 25, 26, P + 2, (P + 2) + 1, (P + 2) + 2, (P + 2) + 3, P + 6, P + 7]) rfl 23 (List.mem_singleton.2 rfl))) (si hprP (fun P => [23]) (fun P => [P, P + 1, 2, 3, 4, 23, 24, 25, 26, P + 2, (P + 2) + 1, (P + 2) + 2, (P + 2) + 3, P + 6, P + 7]) rfl 23 (List.mem_singleton.2 rfl))) F_210 (si hprP (fun P => [26, 23, 25, 24]) (fun P => [P, P + 1, 2, 3, 4, 23, 24, 25, 26, P + 2, (P + 2) + 1, (P + 2) + 2, (P + 2) + 3, P + 6, P + 7]) rfl)) F_252 (si hprP (fun P => [2, 3, 4, 23, 24, 25, 26, P, P + 1, P + 2, (P + 2) + 1, (P + 2) + 2, (P + 2) + 3]) (fun P => [P, P + 1, 2, 3, 4, 23, 24, 25, 26, P + 2, (P + 2) + 1, (P + 2) + 2, (P + 2) + 3, P + 6, P + 7]) rfl)) F_277 (si hprP (fun P => [P, P + 1]) (fun P => [P, P + 1, 2, 3, 4, 23, 24, 25, 26, P + 2, (P + 2) + 1, (P + 2) + 2, (P + 2) + 3, P + 6, P + 7]) rfl)) F_290 (si hprP (fun P => [P, P + 1]) (fun P => [P, P + 1, 2, 3, 4, 23, 24, 25, 26, P + 2, (P + 2) + 1, (P + 2) + 2, (P + 2) + 3, P + 6, P + 7]) rfl)) hv9
      have e_300 : μ288.1 P 1 = μ275.1 P 1 + 1 := hs_294
      have e_301 : μ288.1 P 7 = μ181.1 P 7 := (hs_295.trans (hs_282.trans (hs_266.trans ((F_210.1 P (ni hprP (fun P => P) (fun P => [26, 23, 25, 24]) rfl) 7).trans ((sv_n _ (fun h9 => (ni hprP (fun P => P) (fun P => [23]) rfl) (List.mem_singleton.2 h9.1))).trans (sv_n _ (fun h9 => (ni hprP (fun P => P) (fun P => [23]) rfl) (List.mem_singleton.2 h9.1))))))))
      refine xc_vV G (b := P) (rest := []) (As := [.int (iv (r_191 - 1)), .int (iv (μ209.1 23 6)), .int (iv (μ251.1 23 5))]) (c_X8_setCounts_b ω l μ288 P (r_191 - 1) (μ209.1 23 6) (μ251.1 23 5) hprP (by unfold ir; omega) (by unfold ir; omega) (by unfold ir; omega) hI_291 hvr_299 (by omega) (by omega)) (wm 4 187 rfl rfl) (wm 4 188 rfl rfl) (wm 4 189 rfl rfl) hprP.ly rfl (by decide) (hprP.hq ω ρ) (wm 1 9 rfl rfl) (wm 4 190 rfl rfl) (by decide) hR (by decide) (n := 3) rfl rfl (Nat.le_of_ble_eq_true rfl) hl.1 dX7_function_135 (fun μ302 ρ d0 H locs hp G => ?_)
      obtain ⟨F_303, hI_304, hp_305, hs_306, hs_307⟩ := hp
      clear hk_1 hc_2 hk_187 hc_188 hk_234 hk_268 hc_269 hk_270
      have e_308 : μ302.1 26 11 = μ251.1 26 11 := ((F_303.1 26 (ni hprP (fun P => 26) (fun P => [P + 8, P + 9]) rfl) 11).trans ((F_290.1 26 (ni hprP (fun P => 26) (fun P => [P, P + 1]) rfl) 11).trans (F_277.1 26 (ni hprP (fun P => 26) (fun P => [P, P + 1]) rfl) 11)))
      have htP_309 : ∀ _ : Unit, μ302.1 26 11 = 0 → PG μ302 P tt := fun _ h0 => PG.fr (K := [P + 8, P + 9]) (hX_296 () (by have h9 : μ288.1 26 11 = μ251.1 26 11 := ((F_290.1 26 (ni hprP (fun P => 26) (fun P => [P, P + 1]) rfl) 11).trans (F_277.1 26 (ni hprP (fun P => 26) (fun P => [P, P + 1]) rfl) 11)); have h8 : μ302.1 26 11 = μ251.1 26 11 := ((F_303.1 26 (ni hprP (fun P => 26) (fun P => [P + 8, P + 9]) rfl) 11).trans ((F_290.1 26 (ni hprP (fun P => 26) (fun P => [P, P + 1]) rfl) 11).trans (F_277.1 26 (ni hprP (fun P => 26) (fun P => [P, P + 1]) rfl) 11))); omega)) (Fr.tr Fr.rf F_303 (si hprP (fun P => [P + 8, P + 9]) (fun P => [P + 8, P + 9]) rfl)) (ni hprP (fun P => P) (fun P => [P + 8, P + 9]) rfl) (ni hprP (fun P => P + 1) (fun P => [P + 8, P + 9]) rfl) (ni hprP (fun P => P + 7) (fun P => [P + 8, P + 9]) rfl)
      have htk_310 : TK μ302 := hp_254.fr (K := [P + 8, P + 9, P, P + 1]) (Fr.tr (Fr.tr (Fr.tr Fr.rf F_277 (si hprP (fun P => [P, P + 1]) (fun P => [P + 8, P + 9, P, P + 1]) rfl)) F_290 (si hprP (fun P => [P, P + 1]) (fun P => [P + 8, P + 9, P, P + 1]) rfl)) F_303 (si hprP (fun P => [P + 8, P + 9]) (fun P => [P + 8, P + 9, P, P + 1]) rfl)) (ni hprP (fun P => 26) (fun P => [P + 8, P + 9, P, P + 1]) rfl) (ni hprP (fun P => 28) (fun P => [P + 8, P + 9, P, P + 1]) rfl) (ni hprP (fun P => 29) (fun P => [P + 8, P + 9, P, P + 1]) rfl)
      have e_311 : μ302.1 26 11 = μ251.1 26 11 := ((F_303.1 26 (ni hprP (fun P => 26) (fun P => [P + 8, P + 9]) rfl) 11).trans ((F_290.1 26 (ni hprP (fun P => 26) (fun P => [P, P + 1]) rfl) 11).trans (F_277.1 26 (ni hprP (fun P => 26) (fun P => [P, P + 1]) rfl) 11)))
      have e_312 : μ302.1 26 10 = μ251.1 26 10 := ((F_303.1 26 (ni hprP (fun P => 26) (fun P => [P + 8, P + 9]) rfl) 10).trans ((F_290.1 26 (ni hprP (fun P => 26) (fun P => [P, P + 1]) rfl) 10).trans (F_277.1 26 (ni hprP (fun P => 26) (fun P => [P, P + 1]) rfl) 10)))
      have e_313 : μ302.1 P 1 = μ275.1 P 1 + 1 := (hs_306.trans hs_294)
      have e_314 : μ302.1 26 10 = μ251.1 26 10 := ((F_303.1 26 (ni hprP (fun P => 26) (fun P => [P + 8, P + 9]) rfl) 10).trans ((F_290.1 26 (ni hprP (fun P => 26) (fun P => [P, P + 1]) rfl) 10).trans (F_277.1 26 (ni hprP (fun P => 26) (fun P => [P, P + 1]) rfl) 10)))
      have e_315 : μ302.1 26 11 = μ251.1 26 11 := ((F_303.1 26 (ni hprP (fun P => 26) (fun P => [P + 8, P + 9]) rfl) 11).trans ((F_290.1 26 (ni hprP (fun P => 26) (fun P => [P, P + 1]) rfl) 11).trans (F_277.1 26 (ni hprP (fun P => 26) (fun P => [P, P + 1]) rfl) 11)))
      have e_316 : μ302.1 (P + 2) 3 = μ251.1 (P + 2) 3 := ((F_303.1 (P + 2) (ni hprP (fun P => P + 2) (fun P => [P + 8, P + 9]) rfl) 3).trans ((F_290.1 (P + 2) (ni hprP (fun P => P + 2) (fun P => [P, P + 1]) rfl) 3).trans (F_277.1 (P + 2) (ni hprP (fun P => P + 2) (fun P => [P, P + 1]) rfl) 3)))
      have e_317 : μ302.1 P 1 = μ275.1 P 1 + 1 := (hs_306.trans hs_294)
      have e_318 : μ302.1 23 7 = (μ.1 23 7) + 1 := ((F_303.1 23 (ni hprP (fun P => 23) (fun P => [P + 8, P + 9]) rfl) 7).trans ((F_290.1 23 (ni hprP (fun P => 23) (fun P => [P, P + 1]) rfl) 7).trans ((F_277.1 23 (ni hprP (fun P => 23) (fun P => [P, P + 1]) rfl) 7).trans (hs_262.trans (hs_222.trans ((sv_n _ (by decide)).trans ((sv_n _ (by decide)).trans ((F_182.1 23 (ni hprP (fun P => 23) (fun P => [P + 6, P + 7, P]) rfl) 7).trans ((F_175.1 23 (by decide) 7).trans (sv_s _ _ _ _))))))))))
      have e_319 : μ302.1 23 9 = μ.1 23 9 := ((F_303.1 23 (ni hprP (fun P => 23) (fun P => [P + 8, P + 9]) rfl) 9).trans ((F_290.1 23 (ni hprP (fun P => 23) (fun P => [P, P + 1]) rfl) 9).trans ((F_277.1 23 (ni hprP (fun P => 23) (fun P => [P, P + 1]) rfl) 9).trans (hs_264.trans (hs_216.trans ((sv_n _ (by decide)).trans ((sv_n _ (by decide)).trans ((F_182.1 23 (ni hprP (fun P => 23) (fun P => [P + 6, P + 7, P]) rfl) 9).trans ((F_175.1 23 (by decide) 9).trans ((sv_n _ (by decide)).trans (F_11.1 23 (by decide) 9)))))))))))
      have e_320 : μ302.1 23 2 = P := ((F_303.1 23 (ni hprP (fun P => 23) (fun P => [P + 8, P + 9]) rfl) 2).trans ((F_290.1 23 (ni hprP (fun P => 23) (fun P => [P, P + 1]) rfl) 2).trans ((F_277.1 23 (ni hprP (fun P => 23) (fun P => [P, P + 1]) rfl) 2).trans (hs_261.trans (hs_221.trans ((sv_n _ (by decide)).trans ((sv_n _ (by decide)).trans ((F_182.1 23 (ni hprP (fun P => 23) (fun P => [P + 6, P + 7, P]) rfl) 2).trans ((F_175.1 23 (by decide) 2).trans ((sv_n _ (by decide)).trans ((F_11.1 23 (by decide) 2).trans hP.symm)))))))))))
      have e_321 : μ302.1 23 8 = tt := ((F_303.1 23 (ni hprP (fun P => 23) (fun P => [P + 8, P + 9]) rfl) 8).trans ((F_290.1 23 (ni hprP (fun P => 23) (fun P => [P, P + 1]) rfl) 8).trans ((F_277.1 23 (ni hprP (fun P => 23) (fun P => [P, P + 1]) rfl) 8).trans (hs_263.trans (hs_223.trans ((sv_n _ (by decide)).trans ((sv_n _ (by decide)).trans ((F_182.1 23 (ni hprP (fun P => 23) (fun P => [P + 6, P + 7, P]) rfl) 8).trans ((F_175.1 23 (by decide) 8).trans ((sv_n _ (by decide)).trans ((F_11.1 23 (by decide) 8).trans htt.symm)))))))))))
      exact xr_v G hret hlk dX7_function_138 ⟨(Fr.tr (Fr.tr (Fr.tr (Fr.tr (Fr.tr (Fr.put (Fr.put (Fr.tr (Fr.tr (Fr.put (Fr.tr Fr.rf F_11 (si hprP (fun P => [26]) (fun P => [2, 3, 4, 23, 24, 25, 26, P, P + 1, P + 2, (P + 2) + 1, (P + 2) + 2, (P + 2) + 3, P + 6, P + 7, P + 8, P + 9]) rfl)) (si hprP (fun P => [23]) (fun P => [2, 3, 4, 23, 24, 25, 26, P, P + 1, P + 2, (P + 2) + 1, (P + 2) + 2, (P + 2) + 3, P + 6, P + 7, P + 8, P + 9]) rfl 23 (List.mem_singleton.2 rfl))) F_175 (si hprP (fun P => [24]) (fun P => [2, 3, 4, 23, 24, 25, 26, P, P + 1, P + 2, (P + 2) + 1, (P + 2) + 2, (P + 2) + 3, P + 6, P + 7, P + 8, P + 9]) rfl)) F_182 (si hprP (fun P => [P + 6, P + 7, P]) (fun P => [2, 3, 4, 23, 24, 25, 26, P, P + 1, P + 2, (P + 2) + 1, (P + 2) + 2, (P + 2) + 3, P + 6, P + 7, P + 8, P + 9]) rfl)) (si hprP (fun P => [23]) (fun P => [2, 3, 4, 23, 24, 25, 26, P, P + 1, P + 2, (P + 2) + 1, (P + 2) + 2, (P + 2) + 3, P + 6, P + 7, P + 8, P + 9]) rfl 23 (List.mem_singleton.2 rfl))) (si hprP (fun P => [23]) (fun P => [2, 3, 4, 23, 24, 25, 26, P, P + 1, P + 2, (P + 2) + 1, (P + 2) + 2, (P + 2) + 3, P + 6, P + 7, P + 8, P + 9]) rfl 23 (List.mem_singleton.2 rfl))) F_210 (si hprP (fun P => [26, 23, 25, 24]) (fun P => [2, 3, 4, 23, 24, 25, 26, P, P + 1, P + 2, (P + 2) + 1, (P + 2) + 2, (P + 2) + 3, P + 6, P + 7, P + 8, P + 9]) rfl)) F_252 (si hprP (fun P => [2, 3, 4, 23, 24, 25, 26, P, P + 1, P + 2, (P + 2) + 1, (P + 2) + 2, (P + 2) + 3]) (fun P => [2, 3, 4, 23, 24, 25, 26, P, P + 1, P + 2, (P + 2) + 1, (P + 2) + 2, (P + 2) + 3, P + 6, P + 7, P + 8, P + 9]) rfl)) F_277 (si hprP (fun P => [P, P + 1]) (fun P => [2, 3, 4, 23, 24, 25, 26, P, P + 1, P + 2, (P + 2) + 1, (P + 2) + 2, (P + 2) + 3, P + 6, P + 7, P + 8, P + 9]) rfl)) F_290 (si hprP (fun P => [P, P + 1]) (fun P => [2, 3, 4, 23, 24, 25, 26, P, P + 1, P + 2, (P + 2) + 1, (P + 2) + 2, (P + 2) + 3, P + 6, P + 7, P + 8, P + 9]) rfl)) F_303 (si hprP (fun P => [P + 8, P + 9]) (fun P => [2, 3, 4, 23, 24, 25, 26, P, P + 1, P + 2, (P + 2) + 1, (P + 2) + 2, (P + 2) + 3, P + 6, P + 7, P + 8, P + 9]) rfl)), hI_304, htk_310, (by omega), (by omega), (by omega), (by omega), (by omega), hp_305, (fun _ => (htP_309 ())), (by omega), (by omega)⟩
  · refine lv_aload_n hx hb dX7_function_40 rfl (lv_at hl 2 rfl) ?_
    refine lv_iconst (v := iv 2) hx hb dX7_function_41 rfl ?_
    refine lv_iload_n hx hb dX7_function_42 rfl (lv_at hl 0 rfl) ?_
    have hI_322 : IC (sv μ10 23 7 ((μ.1 23 7) + 1)) := (IC.put hI_12 (by decide +kernel))
    refine xc_vV G (b := 23) (rest := []) (As := [.int (iv 2), .int (iv (μ.1 26 13))]) (c_X7_tellFault ω l (sv μ10 23 7 ((μ.1 23 7) + 1)) 2 (μ.1 26 13) (by unfold ir; omega) (by unfold ir; omega) hI_322 (by omega)) (wm 3 177 rfl rfl) (wm 3 179 rfl rfl) (wm 0 12 rfl rfl) rfl rfl (by decide) rfl (wm 1 12 rfl rfl) (wm 3 180 rfl rfl) (by decide) hR (by decide) (n := 2) rfl rfl (Nat.le_of_ble_eq_true rfl) hl.1 dX7_function_43 (fun μ323 ρ d0 H locs hp G => ?_)
    obtain ⟨F_324, hI_325⟩ := hp
    refine lv_aload_n hx hb dX7_function_46 rfl (lv_at hl 2 rfl) ?_
    refine xa_getr G fd_X7 (a := 23) (x := P) 2 rfl (by decide) rfl (wm 2 19 rfl rfl) ⟨rfl, rfl, rfl⟩ dX7_function_47 rfl ((F_324.1 23 (by decide) 2).trans ((sv_n _ (by decide)).trans ((F_11.1 23 (by decide) 2).trans hP.symm))) (by omega) (hprP.hq ω ρ) ?_
    refine lv_lload_n hx hb dX7_function_50 rfl (lv_at hl 1 rfl) ?_
    refine xc_iV G (b := P) (rest := []) (As := [.long (jv (μ.1 26 14))]) (c_X8_find ω l μ323 P (μ.1 26 14) hprP hj_4 hI_325) (wm 3 181 rfl rfl) (wm 3 182 rfl rfl) (wm 3 183 rfl rfl) hprP.ly rfl (by decide) (hprP.hq ω ρ) (wm 1 9 rfl rfl) (wm 3 184 rfl rfl) (by decide) hR (by decide) (n := 1) rfl rfl (Nat.le_of_ble_eq_true rfl) hl.1 dX7_function_51 (fun r_327 μ326 ρ d0 H locs hr_r_327 hp G => ?_)
    have hr_r_327 : -2147483648 ≤ r_327 ∧ r_327 ≤ 2147483647 := hr_r_327
    obtain ⟨hsm_328, hp_329⟩ := hp
    have hsm_328 := Eq.symm hsm_328
    subst hsm_328
    refine xb_if_lt (tgt := 63) hx hb (by unfold ir; omega) dX7_function_54 (by decide) (fun c_54 => ?_) (fun c_54 => ?_)
    · refine lv_aload_n hx hb dX7_function_63 rfl (lv_at hl 2 rfl) ?_
      refine xa_getr G fd_X7 (a := 23) (x := P) 2 rfl (by decide) rfl (wm 2 19 rfl rfl) ⟨rfl, rfl, rfl⟩ dX7_function_64 rfl ((F_324.1 23 (by decide) 2).trans ((sv_n _ (by decide)).trans ((F_11.1 23 (by decide) 2).trans hP.symm))) (by omega) (hprP.hq ω ρ) ?_
      refine lv_lload_n hx hb dX7_function_67 rfl (lv_at hl 1 rfl) ?_
      have htP_330 : ∀ _ : Unit, μ323.1 26 11 = 0 → PG μ323 P tt := fun _ h0 => PG.fr (K := [24, 23, 26]) (hpg () (by have h9 : μ.1 26 11 = μ.1 26 11 := rfl; have h8 : μ323.1 26 11 = μ10.1 26 11 := ((F_324.1 26 (by decide) 11).trans (sv_n _ (fun h9 => absurd h9.1 (by decide)))); omega)) (Fr.tr (Fr.put (Fr.tr Fr.rf F_11 (by decide)) (by decide)) F_324 (by decide)) (ni hprP (fun P => P) (fun P => [24, 23, 26]) rfl) (ni hprP (fun P => P + 1) (fun P => [24, 23, 26]) rfl) (ni hprP (fun P => P + 7) (fun P => [24, 23, 26]) rfl)
      have e_331 : μ323.1 P 7 = μ.1 P 7 := ((F_324.1 P (ni hprP (fun P => P) (fun P => [24]) rfl) 7).trans ((sv_n _ (fun h9 => (ni hprP (fun P => P) (fun P => [23]) rfl) (List.mem_singleton.2 h9.1))).trans (F_11.1 P (ni hprP (fun P => P) (fun P => [26]) rfl) 7)))
      have e_332 : μ323.1 P 7 = μ.1 P 7 := ((F_324.1 P (ni hprP (fun P => P) (fun P => [24]) rfl) 7).trans ((sv_n _ (fun h9 => (ni hprP (fun P => P) (fun P => [23]) rfl) (List.mem_singleton.2 h9.1))).trans (F_11.1 P (ni hprP (fun P => P) (fun P => [26]) rfl) 7)))
      have e_333 : μ323.1 P 1 = μ.1 P 1 := ((F_324.1 P (ni hprP (fun P => P) (fun P => [24]) rfl) 1).trans ((sv_n _ (fun h9 => (ni hprP (fun P => P) (fun P => [23]) rfl) (List.mem_singleton.2 h9.1))).trans (F_11.1 P (ni hprP (fun P => P) (fun P => [26]) rfl) 1)))
      refine xc_vV G (b := P) (rest := []) (As := [.long (jv (μ.1 26 14))]) (c_X8_addFunction_b ω l μ323 P (μ.1 26 14) (μ.1 P 7) hprP hj_4 hI_325 (by omega) (by omega)) (wm 3 185 rfl rfl) (wm 3 186 rfl rfl) (wm 3 187 rfl rfl) hprP.ly rfl (by decide) (hprP.hq ω ρ) (wm 1 9 rfl rfl) (wm 3 188 rfl rfl) (by decide) hR (by decide) (n := 1) rfl rfl (Nat.le_of_ble_eq_true rfl) hl.1 dX7_function_68 (fun μ334 ρ d0 H locs hp G => ?_)
      obtain ⟨F_335, hI_336, hp_337, hp_338, hs_339⟩ := hp
      have hk_340 := hI_336.pr (p := P) hprP
      unfold pk at hk_340
      have hc_341 : 16 ≤ μ334.2.1 (P + 1) ∧ μ334.2.1 (P + 1) ≤ 73024 := hI_336.rm.1 _ hprP.cap
      replace hp_338 := fun _ : Unit => hp_338
      have hX_342 : ∀ _ : Unit, μ334.1 26 11 = 0 → PG μ334 P tt := by
        intro _ h0
        have l1 : μ334.1 P 1 = μ323.1 P 1 := by rw [show μ334.1 P 1 = μ.1 P 1 from (hs_339.trans ((F_324.1 P (ni hprP (fun P => P) (fun P => [24]) rfl) 1).trans ((sv_n _ (fun h9 => (ni hprP (fun P => P) (fun P => [23]) rfl) (List.mem_singleton.2 h9.1))).trans (F_11.1 P (ni hprP (fun P => P) (fun P => [26]) rfl) 1)))), show μ323.1 P 1 = μ.1 P 1 from ((F_324.1 P (ni hprP (fun P => P) (fun P => [24]) rfl) 1).trans ((sv_n _ (fun h9 => (ni hprP (fun P => P) (fun P => [23]) rfl) (List.mem_singleton.2 h9.1))).trans (F_11.1 P (ni hprP (fun P => P) (fun P => [26]) rfl) 1)))]
        have l7 : μ323.1 P 7 = μ.1 P 7 := ((F_324.1 P (ni hprP (fun P => P) (fun P => [24]) rfl) 7).trans ((sv_n _ (fun h9 => (ni hprP (fun P => P) (fun P => [23]) rfl) (List.mem_singleton.2 h9.1))).trans (F_11.1 P (ni hprP (fun P => P) (fun P => [26]) rfl) 7)))
        have c1 : ∀ j, μ334.1 (P + 1) j = μ323.1 (P + 1) j := fun j => F_335.1 (P + 1) (ni hprP (fun P => P + 1) (fun P => [P + 6, P + 7, P]) rfl) j
        refine PG.fn ((htP_330 ()) (by have h9 : μ323.1 26 11 = μ10.1 26 11 := ((F_324.1 26 (by decide) 11).trans (sv_n _ (fun h9 => absurd h9.1 (by decide)))); have h8 : μ334.1 26 11 = μ10.1 26 11 := ((F_335.1 26 (ni hprP (fun P => 26) (fun P => [P + 6, P + 7, P]) rfl) 11).trans ((F_324.1 26 (by decide) 11).trans (sv_n _ (fun h9 => absurd h9.1 (by decide))))); omega)) l1 (fun i k => by unfold cdp; rw [l1, c1]) ?_
        rw [l7]
        have hd_ := (hp_338 ())
        rcases hd_ with ⟨q1, q2⟩ | ⟨q0, q1, q2, q3⟩
        · exact Or.inl ⟨q1, q2⟩
        · exact Or.inr ⟨q0, q1, q2, q3⟩
      refine lv_aload_n hx hb dX7_function_71 rfl (lv_at hl 2 rfl) ?_
      refine xa_getr G fd_X7 (a := 23) (x := P) 2 rfl (by decide) rfl (wm 2 19 rfl rfl) ⟨rfl, rfl, rfl⟩ dX7_function_72 rfl ((F_335.1 23 (ni hprP (fun P => 23) (fun P => [P + 6, P + 7, P]) rfl) 2).trans ((F_324.1 23 (by decide) 2).trans ((sv_n _ (by decide)).trans ((F_11.1 23 (by decide) 2).trans hP.symm)))) (by omega) (hprP.hq ω ρ) ?_
      refine xc_iV G (b := P) (rest := []) (As := []) (c_X8_functions ω l μ334 P hprP hI_336) (wm 3 189 rfl rfl) (wm 3 190 rfl rfl) (wm 3 191 rfl rfl) hprP.ly rfl (by decide) (hprP.hq ω ρ) (wm 1 9 rfl rfl) (wm 3 192 rfl rfl) (by decide) hR (by decide) (n := 0) rfl rfl (Nat.le_of_ble_eq_true rfl) hl.1 dX7_function_75 (fun r_344 μ343 ρ d0 H locs hr_r_344 hp G => ?_)
      have hr_r_344 : -2147483648 ≤ r_344 ∧ r_344 ≤ 2147483647 := hr_r_344
      obtain ⟨hsm_345, hp_346⟩ := hp
      have hsm_345 := Eq.symm hsm_345
      subst hsm_345
      refine lv_iconst (v := iv 1) hx hb dX7_function_78 rfl ?_
      refine xb_isub hx hb dX7_function_79 ?_
      refine lv_istore (lv' := [(4, .int (iv (r_344 - 1))), (3, .int (iv (μ.1 26 13))), (1, .long (jv (μ.1 26 14))), (0, .ref (oP ω 23))]) hx hb dX7_function_80 hl (by decide) rfl (fun ls hl => ?_)
      refine lv_aload_n hx hb dX7_function_82 rfl (lv_at hl 3 rfl) ?_
      refine lv_iconst (v := iv 0) hx hb dX7_function_83 rfl ?_
      refine xa_puti G fd_X7 (a := 23) (x := 0) 5 (kz := 5) rfl rfl (by decide) rfl (by unfold ir; omega) (wm 2 22 rfl rfl) ⟨rfl, rfl, rfl, rfl⟩ rfl dX7_function_84 rfl (fun H locs G => ?_)
      refine lv_aload_n hx hb dX7_function_87 rfl (lv_at hl 3 rfl) ?_
      refine lv_iconst (v := iv 0) hx hb dX7_function_88 rfl ?_
      refine xa_puti G fd_X7 (a := 23) (x := 0) 6 (kz := 6) rfl rfl (by decide) rfl (by unfold ir; omega) (wm 2 23 rfl rfl) ⟨rfl, rfl, rfl, rfl⟩ rfl dX7_function_89 rfl (fun H locs G => ?_)
      refine lv_aload_n hx hb dX7_function_92 rfl (lv_at hl 3 rfl) ?_
      have hI_347 : IC (sv (sv μ334 23 5 0) 23 6 0) := (IC.put (IC.n_23_5 hI_336 (by omega)) (by decide +kernel))
      have htk_348 : TK (sv (sv μ334 23 5 0) 23 6 0) := hp_13.fr (K := [23, P + 6, P + 7, P, 24]) (Fr.put (Fr.put (Fr.tr (Fr.tr (Fr.put Fr.rf (si hprP (fun P => [23]) (fun P => [23, P + 6, P + 7, P, 24]) rfl 23 (List.mem_singleton.2 rfl))) F_324 (si hprP (fun P => [24]) (fun P => [23, P + 6, P + 7, P, 24]) rfl)) F_335 (si hprP (fun P => [P + 6, P + 7, P]) (fun P => [23, P + 6, P + 7, P, 24]) rfl)) (si hprP (fun P => [23]) (fun P => [23, P + 6, P + 7, P, 24]) rfl 23 (List.mem_singleton.2 rfl))) (si hprP (fun P => [23]) (fun P => [23, P + 6, P + 7, P, 24]) rfl 23 (List.mem_singleton.2 rfl))) (ni hprP (fun P => 26) (fun P => [23, P + 6, P + 7, P, 24]) rfl) (ni hprP (fun P => 28) (fun P => [23, P + 6, P + 7, P, 24]) rfl) (ni hprP (fun P => 29) (fun P => [23, P + 6, P + 7, P, 24]) rfl)
      have e_349 : (sv (sv μ334 23 5 0) 23 6 0).1 23 6 = 0 := (sv_s _ _ _ _)
      have e_350 : (sv (sv μ334 23 5 0) 23 6 0).1 23 9 = μ.1 23 9 := ((sv_n _ (by decide)).trans ((sv_n _ (by decide)).trans ((F_335.1 23 (ni hprP (fun P => 23) (fun P => [P + 6, P + 7, P]) rfl) 9).trans ((F_324.1 23 (by decide) 9).trans ((sv_n _ (by decide)).trans (F_11.1 23 (by decide) 9))))))
      have e_351 : (sv (sv μ334 23 5 0) 23 6 0).1 26 11 = μ10.1 26 11 := ((sv_n _ (fun h9 => absurd h9.1 (by decide))).trans ((sv_n _ (fun h9 => absurd h9.1 (by decide))).trans ((F_335.1 26 (ni hprP (fun P => 26) (fun P => [P + 6, P + 7, P]) rfl) 11).trans ((F_324.1 26 (by decide) 11).trans (sv_n _ (fun h9 => absurd h9.1 (by decide)))))))
      have e_352 : (sv (sv μ334 23 5 0) 23 6 0).1 26 10 = μ10.1 26 10 := ((sv_n _ (fun h9 => absurd h9.1 (by decide))).trans ((sv_n _ (fun h9 => absurd h9.1 (by decide))).trans ((F_335.1 26 (ni hprP (fun P => 26) (fun P => [P + 6, P + 7, P]) rfl) 10).trans ((F_324.1 26 (by decide) 10).trans (sv_n _ (fun h9 => absurd h9.1 (by decide)))))))
      have e_353 : (sv (sv μ334 23 5 0) 23 6 0).1 23 9 = μ.1 23 9 := ((sv_n _ (by decide)).trans ((sv_n _ (by decide)).trans ((F_335.1 23 (ni hprP (fun P => 23) (fun P => [P + 6, P + 7, P]) rfl) 9).trans ((F_324.1 23 (by decide) 9).trans ((sv_n _ (by decide)).trans (F_11.1 23 (by decide) 9))))))
      have e_354 : (sv (sv μ334 23 5 0) 23 6 0).1 26 6 = μ.1 26 6 := ((sv_n _ (fun h9 => absurd h9.1 (by decide))).trans ((sv_n _ (fun h9 => absurd h9.1 (by decide))).trans ((F_335.1 26 (ni hprP (fun P => 26) (fun P => [P + 6, P + 7, P]) rfl) 6).trans ((F_324.1 26 (by decide) 6).trans ((sv_n _ (fun h9 => absurd h9.1 (by decide))).trans hs_16)))))
      have e_355 : (sv (sv μ334 23 5 0) 23 6 0).1 26 7 = μ.1 26 7 := ((sv_n _ (fun h9 => absurd h9.1 (by decide))).trans ((sv_n _ (fun h9 => absurd h9.1 (by decide))).trans ((F_335.1 26 (ni hprP (fun P => 26) (fun P => [P + 6, P + 7, P]) rfl) 7).trans ((F_324.1 26 (by decide) 7).trans ((sv_n _ (fun h9 => absurd h9.1 (by decide))).trans hs_17)))))
      have e_356 : (sv (sv μ334 23 5 0) 23 6 0).1 26 8 = μ.1 26 8 := ((sv_n _ (fun h9 => absurd h9.1 (by decide))).trans ((sv_n _ (fun h9 => absurd h9.1 (by decide))).trans ((F_335.1 26 (ni hprP (fun P => 26) (fun P => [P + 6, P + 7, P]) rfl) 8).trans ((F_324.1 26 (by decide) 8).trans ((sv_n _ (fun h9 => absurd h9.1 (by decide))).trans hs_18)))))
      have e_357 : (sv (sv μ334 23 5 0) 23 6 0).1 26 9 = μ.1 26 9 := ((sv_n _ (fun h9 => absurd h9.1 (by decide))).trans ((sv_n _ (fun h9 => absurd h9.1 (by decide))).trans ((F_335.1 26 (ni hprP (fun P => 26) (fun P => [P + 6, P + 7, P]) rfl) 9).trans ((F_324.1 26 (by decide) 9).trans ((sv_n _ (fun h9 => absurd h9.1 (by decide))).trans hs_19)))))
      have e_358 : (sv (sv μ334 23 5 0) 23 6 0).1 23 2 = P := ((sv_n _ (by decide)).trans ((sv_n _ (by decide)).trans ((F_335.1 23 (ni hprP (fun P => 23) (fun P => [P + 6, P + 7, P]) rfl) 2).trans ((F_324.1 23 (by decide) 2).trans ((sv_n _ (by decide)).trans ((F_11.1 23 (by decide) 2).trans hP.symm))))))
      have e_359 : (sv (sv μ334 23 5 0) 23 6 0).1 23 7 = (μ.1 23 7) + 1 := ((sv_n _ (by decide)).trans ((sv_n _ (by decide)).trans ((F_335.1 23 (ni hprP (fun P => 23) (fun P => [P + 6, P + 7, P]) rfl) 7).trans ((F_324.1 23 (by decide) 7).trans (sv_s _ _ _ _)))))
      have e_360 : (sv (sv μ334 23 5 0) 23 6 0).1 23 8 = tt := ((sv_n _ (by decide)).trans ((sv_n _ (by decide)).trans ((F_335.1 23 (ni hprP (fun P => 23) (fun P => [P + 6, P + 7, P]) rfl) 8).trans ((F_324.1 23 (by decide) 8).trans ((sv_n _ (by decide)).trans ((F_11.1 23 (by decide) 8).trans htt.symm))))))
      have e_361 : (sv (sv μ334 23 5 0) 23 6 0).1 23 10 = μ.1 23 10 := ((sv_n _ (by decide)).trans ((sv_n _ (by decide)).trans ((F_335.1 23 (ni hprP (fun P => 23) (fun P => [P + 6, P + 7, P]) rfl) 10).trans ((F_324.1 23 (by decide) 10).trans ((sv_n _ (by decide)).trans (F_11.1 23 (by decide) 10))))))
      refine xc_vV G (b := 23) (rest := []) (As := []) (c_X7_parameters ω l (sv (sv μ334 23 5 0) 23 6 0)  hI_347 htk_348 (by omega) (by omega)) (wm 3 193 rfl rfl) (wm 3 195 rfl rfl) (wm 0 13 rfl rfl) rfl rfl (by decide) rfl (wm 1 12 rfl rfl) (wm 3 196 rfl rfl) (by decide) hR (by decide) (n := 0) rfl rfl (Nat.le_of_ble_eq_true rfl) hl.1 dX7_function_93 (fun μ362 ρ d0 H locs hp G => ?_)
      obtain ⟨F_363, hI_364, hp_365, hp_366, hp_367, hp_368, hs_369, hs_370, hs_371, hs_372, hs_373, hs_374, hs_375, hs_376, hs_377⟩ := hp
      have hn_378 : -1 ≤ μ362.1 26 10 ∧ μ362.1 26 10 ≤ 3000 := hI_364.nm.2.2.2.2.2.2.2.2.2.2.2.2
      have htb_379 := hp_365.b
      refine lv_aload_n hx hb dX7_function_96 rfl (lv_at hl 3 rfl) ?_
      refine xa_geti G fd_X7 (a := 23) (x := μ362.1 23 6) 6 rfl (by decide) rfl (wm 2 23 rfl rfl) ⟨rfl, rfl, rfl⟩ dX7_function_97 rfl rfl ?_
      have hr_380 : -2147483648 ≤ μ362.1 23 6 ∧ μ362.1 23 6 ≤ 2147483647 := by have h9 := G.hr (a := 23) (k := 6) rfl; exact h9
      have hn_381 : 0 ≤ μ362.1 23 5 ∧ μ362.1 23 5 ≤ 1000 := hI_364.nm.2.2.2.2.2.2.2.2.1
      refine lv_istore (lv' := [(5, .int (iv (μ362.1 23 6))), (4, .int (iv (r_344 - 1))), (3, .int (iv (μ.1 26 13))), (1, .long (jv (μ.1 26 14))), (0, .ref (oP ω 23))]) hx hb dX7_function_100 hl (by decide) rfl (fun ls hl => ?_)
      refine lv_aload_n hx hb dX7_function_102 rfl (lv_at hl 4 rfl) ?_
      have htP_382 : ∀ _ : Unit, μ362.1 26 11 = 0 → PG μ362 P tt := fun _ h0 => PG.fr (K := [26, 23, 25, 24]) (hX_342 () (by have h9 : μ334.1 26 11 = μ10.1 26 11 := ((F_335.1 26 (ni hprP (fun P => 26) (fun P => [P + 6, P + 7, P]) rfl) 11).trans ((F_324.1 26 (by decide) 11).trans (sv_n _ (fun h9 => absurd h9.1 (by decide))))); have h8 : μ362.1 26 11 = μ362.1 26 11 := rfl; omega)) (Fr.tr (Fr.put (Fr.put Fr.rf (by decide)) (by decide)) F_363 (by decide)) (ni hprP (fun P => P) (fun P => [26, 23, 25, 24]) rfl) (ni hprP (fun P => P + 1) (fun P => [26, 23, 25, 24]) rfl) (ni hprP (fun P => P + 7) (fun P => [26, 23, 25, 24]) rfl)
      have hhc_383 : ∀ _ : Unit, μ362.1 26 11 = 0 → HC μ362 P tt 0 := fun _ h0 => ((htP_382 ()) h0).hc
      have e_384 : μ362.1 23 2 = P := (hs_374.trans ((sv_n _ (by decide)).trans ((sv_n _ (by decide)).trans ((F_335.1 23 (ni hprP (fun P => 23) (fun P => [P + 6, P + 7, P]) rfl) 2).trans ((F_324.1 23 (by decide) 2).trans ((sv_n _ (by decide)).trans ((F_11.1 23 (by decide) 2).trans hP.symm)))))))
      have e_385 : μ362.1 23 8 = tt := (hs_376.trans ((sv_n _ (by decide)).trans ((sv_n _ (by decide)).trans ((F_335.1 23 (ni hprP (fun P => 23) (fun P => [P + 6, P + 7, P]) rfl) 8).trans ((F_324.1 23 (by decide) 8).trans ((sv_n _ (by decide)).trans ((F_11.1 23 (by decide) 8).trans htt.symm)))))))
      have e_386 : μ362.1 P 1 = μ.1 P 1 := ((F_363.1 P (ni hprP (fun P => P) (fun P => [26, 23, 25, 24]) rfl) 1).trans ((sv_n _ (fun h9 => (ni hprP (fun P => P) (fun P => [23]) rfl) (List.mem_singleton.2 h9.1))).trans ((sv_n _ (fun h9 => (ni hprP (fun P => P) (fun P => [23]) rfl) (List.mem_singleton.2 h9.1))).trans (hs_339.trans ((F_324.1 P (ni hprP (fun P => P) (fun P => [24]) rfl) 1).trans ((sv_n _ (fun h9 => (ni hprP (fun P => P) (fun P => [23]) rfl) (List.mem_singleton.2 h9.1))).trans (F_11.1 P (ni hprP (fun P => P) (fun P => [26]) rfl) 1)))))))
      have hk_387 := hI.row (r := P + 2) (hprP.row)
      unfold rk at hk_387
      have e_388 : μ362.1 (P + 2) 3 = μ.1 (P + 2) 3 := ((F_363.1 (P + 2) (ni hprP (fun P => P + 2) (fun P => [26, 23, 25, 24]) rfl) 3).trans ((sv_n _ (fun h9 => (ni hprP (fun P => P + 2) (fun P => [23]) rfl) (List.mem_singleton.2 h9.1))).trans ((sv_n _ (fun h9 => (ni hprP (fun P => P + 2) (fun P => [23]) rfl) (List.mem_singleton.2 h9.1))).trans ((F_335.1 (P + 2) (ni hprP (fun P => P + 2) (fun P => [P + 6, P + 7, P]) rfl) 3).trans ((F_324.1 (P + 2) (ni hprP (fun P => P + 2) (fun P => [24]) rfl) 3).trans ((sv_n _ (fun h9 => (ni hprP (fun P => P + 2) (fun P => [23]) rfl) (List.mem_singleton.2 h9.1))).trans (F_11.1 (P + 2) (ni hprP (fun P => P + 2) (fun P => [26]) rfl) 3)))))))
      have e_389 : μ362.1 P 1 = μ.1 P 1 := ((F_363.1 P (ni hprP (fun P => P) (fun P => [26, 23, 25, 24]) rfl) 1).trans ((sv_n _ (fun h9 => (ni hprP (fun P => P) (fun P => [23]) rfl) (List.mem_singleton.2 h9.1))).trans ((sv_n _ (fun h9 => (ni hprP (fun P => P) (fun P => [23]) rfl) (List.mem_singleton.2 h9.1))).trans (hs_339.trans ((F_324.1 P (ni hprP (fun P => P) (fun P => [24]) rfl) 1).trans ((sv_n _ (fun h9 => (ni hprP (fun P => P) (fun P => [23]) rfl) (List.mem_singleton.2 h9.1))).trans (F_11.1 P (ni hprP (fun P => P) (fun P => [26]) rfl) 1)))))))
      have e_390 : μ362.1 23 9 = μ.1 23 9 := (hs_369.trans ((sv_n _ (by decide)).trans ((sv_n _ (by decide)).trans ((F_335.1 23 (ni hprP (fun P => 23) (fun P => [P + 6, P + 7, P]) rfl) 9).trans ((F_324.1 23 (by decide) 9).trans ((sv_n _ (by decide)).trans (F_11.1 23 (by decide) 9)))))))
      have e_391 : μ362.1 23 9 = μ.1 23 9 := (hs_369.trans ((sv_n _ (by decide)).trans ((sv_n _ (by decide)).trans ((F_335.1 23 (ni hprP (fun P => 23) (fun P => [P + 6, P + 7, P]) rfl) 9).trans ((F_324.1 23 (by decide) 9).trans ((sv_n _ (by decide)).trans (F_11.1 23 (by decide) 9)))))))
      have e_392 : μ362.1 P 1 = μ.1 P 1 := ((F_363.1 P (ni hprP (fun P => P) (fun P => [26, 23, 25, 24]) rfl) 1).trans ((sv_n _ (fun h9 => (ni hprP (fun P => P) (fun P => [23]) rfl) (List.mem_singleton.2 h9.1))).trans ((sv_n _ (fun h9 => (ni hprP (fun P => P) (fun P => [23]) rfl) (List.mem_singleton.2 h9.1))).trans (hs_339.trans ((F_324.1 P (ni hprP (fun P => P) (fun P => [24]) rfl) 1).trans ((sv_n _ (fun h9 => (ni hprP (fun P => P) (fun P => [23]) rfl) (List.mem_singleton.2 h9.1))).trans (F_11.1 P (ni hprP (fun P => P) (fun P => [26]) rfl) 1)))))))
      have e_393 : μ362.1 P 1 = μ.1 P 1 := ((F_363.1 P (ni hprP (fun P => P) (fun P => [26, 23, 25, 24]) rfl) 1).trans ((sv_n _ (fun h9 => (ni hprP (fun P => P) (fun P => [23]) rfl) (List.mem_singleton.2 h9.1))).trans ((sv_n _ (fun h9 => (ni hprP (fun P => P) (fun P => [23]) rfl) (List.mem_singleton.2 h9.1))).trans (hs_339.trans ((F_324.1 P (ni hprP (fun P => P) (fun P => [24]) rfl) 1).trans ((sv_n _ (fun h9 => (ni hprP (fun P => P) (fun P => [23]) rfl) (List.mem_singleton.2 h9.1))).trans (F_11.1 P (ni hprP (fun P => P) (fun P => [26]) rfl) 1)))))))
      have e_394 : μ362.1 (P + 2) 3 = μ.1 (P + 2) 3 := ((F_363.1 (P + 2) (ni hprP (fun P => P + 2) (fun P => [26, 23, 25, 24]) rfl) 3).trans ((sv_n _ (fun h9 => (ni hprP (fun P => P + 2) (fun P => [23]) rfl) (List.mem_singleton.2 h9.1))).trans ((sv_n _ (fun h9 => (ni hprP (fun P => P + 2) (fun P => [23]) rfl) (List.mem_singleton.2 h9.1))).trans ((F_335.1 (P + 2) (ni hprP (fun P => P + 2) (fun P => [P + 6, P + 7, P]) rfl) 3).trans ((F_324.1 (P + 2) (ni hprP (fun P => P + 2) (fun P => [24]) rfl) 3).trans ((sv_n _ (fun h9 => (ni hprP (fun P => P + 2) (fun P => [23]) rfl) (List.mem_singleton.2 h9.1))).trans (F_11.1 (P + 2) (ni hprP (fun P => P + 2) (fun P => [26]) rfl) 3)))))))
      have e_395 : μ362.1 P 1 = μ.1 P 1 := ((F_363.1 P (ni hprP (fun P => P) (fun P => [26, 23, 25, 24]) rfl) 1).trans ((sv_n _ (fun h9 => (ni hprP (fun P => P) (fun P => [23]) rfl) (List.mem_singleton.2 h9.1))).trans ((sv_n _ (fun h9 => (ni hprP (fun P => P) (fun P => [23]) rfl) (List.mem_singleton.2 h9.1))).trans (hs_339.trans ((F_324.1 P (ni hprP (fun P => P) (fun P => [24]) rfl) 1).trans ((sv_n _ (fun h9 => (ni hprP (fun P => P) (fun P => [23]) rfl) (List.mem_singleton.2 h9.1))).trans (F_11.1 P (ni hprP (fun P => P) (fun P => [26]) rfl) 1)))))))
      have e_396 : μ362.1 (P + 2) 3 = μ.1 (P + 2) 3 := ((F_363.1 (P + 2) (ni hprP (fun P => P + 2) (fun P => [26, 23, 25, 24]) rfl) 3).trans ((sv_n _ (fun h9 => (ni hprP (fun P => P + 2) (fun P => [23]) rfl) (List.mem_singleton.2 h9.1))).trans ((sv_n _ (fun h9 => (ni hprP (fun P => P + 2) (fun P => [23]) rfl) (List.mem_singleton.2 h9.1))).trans ((F_335.1 (P + 2) (ni hprP (fun P => P + 2) (fun P => [P + 6, P + 7, P]) rfl) 3).trans ((F_324.1 (P + 2) (ni hprP (fun P => P + 2) (fun P => [24]) rfl) 3).trans ((sv_n _ (fun h9 => (ni hprP (fun P => P + 2) (fun P => [23]) rfl) (List.mem_singleton.2 h9.1))).trans (F_11.1 (P + 2) (ni hprP (fun P => P + 2) (fun P => [26]) rfl) 3)))))))
      have e_397 : μ362.1 23 9 = μ.1 23 9 := (hs_369.trans ((sv_n _ (by decide)).trans ((sv_n _ (by decide)).trans ((F_335.1 23 (ni hprP (fun P => 23) (fun P => [P + 6, P + 7, P]) rfl) 9).trans ((F_324.1 23 (by decide) 9).trans ((sv_n _ (by decide)).trans (F_11.1 23 (by decide) 9)))))))
      have e_398 : μ362.1 23 2 = P := (hs_374.trans ((sv_n _ (by decide)).trans ((sv_n _ (by decide)).trans ((F_335.1 23 (ni hprP (fun P => 23) (fun P => [P + 6, P + 7, P]) rfl) 2).trans ((F_324.1 23 (by decide) 2).trans ((sv_n _ (by decide)).trans ((F_11.1 23 (by decide) 2).trans hP.symm)))))))
      have e_399 : μ362.1 23 7 = (μ.1 23 7) + 1 := (hs_375.trans ((sv_n _ (by decide)).trans ((sv_n _ (by decide)).trans ((F_335.1 23 (ni hprP (fun P => 23) (fun P => [P + 6, P + 7, P]) rfl) 7).trans ((F_324.1 23 (by decide) 7).trans (sv_s _ _ _ _))))))
      have e_400 : μ362.1 23 8 = tt := (hs_376.trans ((sv_n _ (by decide)).trans ((sv_n _ (by decide)).trans ((F_335.1 23 (ni hprP (fun P => 23) (fun P => [P + 6, P + 7, P]) rfl) 8).trans ((F_324.1 23 (by decide) 8).trans ((sv_n _ (by decide)).trans ((F_11.1 23 (by decide) 8).trans htt.symm)))))))
      have e_401 : μ362.1 23 9 = μ.1 23 9 := (hs_369.trans ((sv_n _ (by decide)).trans ((sv_n _ (by decide)).trans ((F_335.1 23 (ni hprP (fun P => 23) (fun P => [P + 6, P + 7, P]) rfl) 9).trans ((F_324.1 23 (by decide) 9).trans ((sv_n _ (by decide)).trans (F_11.1 23 (by decide) 9)))))))
      have e_402 : μ362.1 26 6 = μ.1 26 6 := (hs_370.trans ((sv_n _ (fun h9 => absurd h9.1 (by decide))).trans ((sv_n _ (fun h9 => absurd h9.1 (by decide))).trans ((F_335.1 26 (ni hprP (fun P => 26) (fun P => [P + 6, P + 7, P]) rfl) 6).trans ((F_324.1 26 (by decide) 6).trans ((sv_n _ (fun h9 => absurd h9.1 (by decide))).trans hs_16))))))
      have e_403 : μ362.1 P 7 = μ334.1 P 7 := ((F_363.1 P (ni hprP (fun P => P) (fun P => [26, 23, 25, 24]) rfl) 7).trans ((sv_n _ (fun h9 => (ni hprP (fun P => P) (fun P => [23]) rfl) (List.mem_singleton.2 h9.1))).trans (sv_n _ (fun h9 => (ni hprP (fun P => P) (fun P => [23]) rfl) (List.mem_singleton.2 h9.1)))))
      refine xc_vV G (b := 23) (rest := []) (As := []) (c_X7_block_a ω l μ362 P tt hI_364 (by omega) (by omega) hp_365 (by omega) (by omega) (by omega) (by omega) hhc_383) (wm 3 218 rfl rfl) (wm 3 220 rfl rfl) (wm 0 19 rfl rfl) rfl rfl (by decide) rfl (wm 1 12 rfl rfl) (wm 3 221 rfl rfl) (by decide) hR (by decide) (n := 0) rfl rfl (Nat.le_of_ble_eq_true rfl) hl.1 dX7_function_103 (fun μ404 ρ d0 H locs hp G => ?_)
      obtain ⟨F_405, hI_406, hp_407, hp_408, hp_409, hp_410, hp_411, hp_412, hp_413, hs_414, hs_415, hs_416, hs_417, hs_418, hs_419⟩ := hp
      have hn_420 : -1 ≤ μ404.1 26 10 ∧ μ404.1 26 10 ≤ 3000 := hI_406.nm.2.2.2.2.2.2.2.2.2.2.2.2
      have hk_421 := hI_406.pr (p := P) hprP
      unfold pk at hk_421
      have hc_422 : 16 ≤ μ404.2.1 (P + 1) ∧ μ404.2.1 (P + 1) ≤ 73024 := hI_406.rm.1 _ hprP.cap
      have hk_423 := hI_406.row (r := P + 2) (hprP.row)
      unfold rk at hk_423
      have htb_424 := hp_407.b
      replace hp_412 := fun _ : Unit => hp_412
      have hXP_425 : ∀ _ : Unit, μ404.1 26 11 = 0 → PG μ404 P tt := fun _ h0 => ((htP_382 ()) (by have h9 : μ362.1 26 11 = μ362.1 26 11 := rfl; have h8 : μ404.1 26 11 = μ404.1 26 11 := rfl; omega)).ex ((hp_412 ()) h0) (by have h9 : μ362.1 23 9 = μ.1 23 9 := (hs_369.trans ((sv_n _ (by decide)).trans ((sv_n _ (by decide)).trans ((F_335.1 23 (ni hprP (fun P => 23) (fun P => [P + 6, P + 7, P]) rfl) 9).trans ((F_324.1 23 (by decide) 9).trans ((sv_n _ (by decide)).trans (F_11.1 23 (by decide) 9))))))); omega) (by rw [show μ404.1 P 7 = μ334.1 P 7 from (hs_419.trans ((F_363.1 P (ni hprP (fun P => P) (fun P => [26, 23, 25, 24]) rfl) 7).trans ((sv_n _ (fun h9 => (ni hprP (fun P => P) (fun P => [23]) rfl) (List.mem_singleton.2 h9.1))).trans (sv_n _ (fun h9 => (ni hprP (fun P => P) (fun P => [23]) rfl) (List.mem_singleton.2 h9.1)))))), show μ362.1 P 7 = μ334.1 P 7 from ((F_363.1 P (ni hprP (fun P => P) (fun P => [26, 23, 25, 24]) rfl) 7).trans ((sv_n _ (fun h9 => (ni hprP (fun P => P) (fun P => [23]) rfl) (List.mem_singleton.2 h9.1))).trans (sv_n _ (fun h9 => (ni hprP (fun P => P) (fun P => [23]) rfl) (List.mem_singleton.2 h9.1)))))]) (fun j => F_405.1 (P + 7) (ni hprP (fun P => P + 7) (fun P => [2, 3, 4, 23, 24, 25, 26, P, P + 1, P + 2, (P + 2) + 1, (P + 2) + 2, (P + 2) + 3]) rfl) j)
      refine lv_aload_n hx hb dX7_function_106 rfl (lv_at hl 4 rfl) ?_
      refine lv_iconst (v := iv 3) hx hb dX7_function_107 rfl ?_
      refine lv_iconst (v := iv 0) hx hb dX7_function_108 rfl ?_
      refine lv_iconst (v := iv 0) hx hb dX7_function_109 rfl ?_
      have e_426 : μ404.1 23 2 = P := (hs_414.trans (hs_374.trans ((sv_n _ (by decide)).trans ((sv_n _ (by decide)).trans ((F_335.1 23 (ni hprP (fun P => 23) (fun P => [P + 6, P + 7, P]) rfl) 2).trans ((F_324.1 23 (by decide) 2).trans ((sv_n _ (by decide)).trans ((F_11.1 23 (by decide) 2).trans hP.symm))))))))
      have e_427 : μ404.1 P 7 = μ334.1 P 7 := (hs_419.trans ((F_363.1 P (ni hprP (fun P => P) (fun P => [26, 23, 25, 24]) rfl) 7).trans ((sv_n _ (fun h9 => (ni hprP (fun P => P) (fun P => [23]) rfl) (List.mem_singleton.2 h9.1))).trans (sv_n _ (fun h9 => (ni hprP (fun P => P) (fun P => [23]) rfl) (List.mem_singleton.2 h9.1))))))
      refine xc_iV G (b := 23) (rest := []) (As := [.int (iv 3), .int (iv 0), .int (iv 0)]) (c_X7_add ω l μ404 3 0 0 P (by unfold ir; omega) (by unfold ir; omega) (by unfold ir; omega) hI_406 (by omega) (by omega)) (wm 3 226 rfl rfl) (wm 3 228 rfl rfl) (wm 0 21 rfl rfl) rfl rfl (by decide) rfl (wm 1 12 rfl rfl) (wm 3 229 rfl rfl) (by decide) hR (by decide) (n := 3) rfl rfl (Nat.le_of_ble_eq_true rfl) hl.1 dX7_function_110 (fun r_429 μ428 ρ d0 H locs hr_r_429 hp G => ?_)
      have hr_r_429 : -2147483648 ≤ r_429 ∧ r_429 ≤ 2147483647 := hr_r_429
      obtain ⟨F_430, hI_431, hp_432, hp_433, hs_434, hs_435⟩ := hp
      refine lv_pop hx hb dX7_function_113 rfl ?_
      refine lv_aload_n hx hb dX7_function_114 rfl (lv_at hl 4 rfl) ?_
      refine lv_bipush (v := iv 21) hx hb dX7_function_115 rfl ?_
      refine lv_iconst (v := iv 0) hx hb dX7_function_117 rfl ?_
      refine lv_iconst (v := iv 0) hx hb dX7_function_118 rfl ?_
      have e_436 : μ428.1 23 2 = P := ((F_430.1 23 (ni hprP (fun P => 23) (fun P => [P, P + 1]) rfl) 2).trans (hs_414.trans (hs_374.trans ((sv_n _ (by decide)).trans ((sv_n _ (by decide)).trans ((F_335.1 23 (ni hprP (fun P => 23) (fun P => [P + 6, P + 7, P]) rfl) 2).trans ((F_324.1 23 (by decide) 2).trans ((sv_n _ (by decide)).trans ((F_11.1 23 (by decide) 2).trans hP.symm)))))))))
      have e_437 : μ428.1 P 1 = μ404.1 P 1 + 1 := hs_434
      have e_438 : μ428.1 P 1 = μ404.1 P 1 + 1 := hs_434
      have e_439 : μ428.1 P 1 = μ404.1 P 1 + 1 := hs_434
      have e_440 : μ428.1 P 7 = μ334.1 P 7 := (hs_435.trans (hs_419.trans ((F_363.1 P (ni hprP (fun P => P) (fun P => [26, 23, 25, 24]) rfl) 7).trans ((sv_n _ (fun h9 => (ni hprP (fun P => P) (fun P => [23]) rfl) (List.mem_singleton.2 h9.1))).trans (sv_n _ (fun h9 => (ni hprP (fun P => P) (fun P => [23]) rfl) (List.mem_singleton.2 h9.1)))))))
      refine xc_iV G (b := 23) (rest := []) (As := [.int (iv 21), .int (iv 0), .int (iv 0)]) (c_X7_add ω l μ428 21 0 0 P (by unfold ir; omega) (by unfold ir; omega) (by unfold ir; omega) hI_431 (by omega) (by omega)) (wm 3 226 rfl rfl) (wm 3 228 rfl rfl) (wm 0 21 rfl rfl) rfl rfl (by decide) rfl (wm 1 12 rfl rfl) (wm 3 229 rfl rfl) (by decide) hR (by decide) (n := 3) rfl rfl (Nat.le_of_ble_eq_true rfl) hl.1 dX7_function_119 (fun r_442 μ441 ρ d0 H locs hr_r_442 hp G => ?_)
      have hr_r_442 : -2147483648 ≤ r_442 ∧ r_442 ≤ 2147483647 := hr_r_442
      obtain ⟨F_443, hI_444, hp_445, hp_446, hs_447, hs_448⟩ := hp
      have hX_449 : ∀ _ : Unit, μ441.1 26 11 = 0 → PG μ441 P tt := by
        intro _ h0
        have hp := (hXP_425 ()) (by have h9 : μ404.1 26 11 = μ404.1 26 11 := rfl; have h8 : μ441.1 26 11 = μ404.1 26 11 := ((F_443.1 26 (ni hprP (fun P => 26) (fun P => [P, P + 1]) rfl) 11).trans (F_430.1 26 (ni hprP (fun P => 26) (fun P => [P, P + 1]) rfl) 11)); omega)
        have hh := hp.hc
        have e1 := EX.pl (t := tt) hp_433 hh.1 (by unfold plain; omega) (e := 1) rfl (by rw [hh.2.1]; decide)
        have hh2 := e1.h
        rw [hh.2.1] at hh2
        have e2 := EX.pl (t := tt) hp_446 (by have := e1.1.1; have := hh.1; omega) (by unfold plain; omega) (e := -1) rfl (by omega)
        exact hp.ex ((e1.tr e2).e rfl) (by decide) (by rw [show μ441.1 P 7 = μ334.1 P 7 from (hs_448.trans (hs_435.trans (hs_419.trans ((F_363.1 P (ni hprP (fun P => P) (fun P => [26, 23, 25, 24]) rfl) 7).trans ((sv_n _ (fun h9 => (ni hprP (fun P => P) (fun P => [23]) rfl) (List.mem_singleton.2 h9.1))).trans (sv_n _ (fun h9 => (ni hprP (fun P => P) (fun P => [23]) rfl) (List.mem_singleton.2 h9.1)))))))), show μ404.1 P 7 = μ334.1 P 7 from (hs_419.trans ((F_363.1 P (ni hprP (fun P => P) (fun P => [26, 23, 25, 24]) rfl) 7).trans ((sv_n _ (fun h9 => (ni hprP (fun P => P) (fun P => [23]) rfl) (List.mem_singleton.2 h9.1))).trans (sv_n _ (fun h9 => (ni hprP (fun P => P) (fun P => [23]) rfl) (List.mem_singleton.2 h9.1))))))]) (fun j => ((show Fr [P, P + 1] μ404 μ441 from (Fr.tr (Fr.tr Fr.rf F_430 (si hprP (fun P => [P, P + 1]) (fun P => [P, P + 1]) rfl)) F_443 (si hprP (fun P => [P, P + 1]) (fun P => [P, P + 1]) rfl)))).1 (P + 7) (ni hprP (fun P => P + 7) (fun P => [P, P + 1]) rfl) j)
      refine lv_pop hx hb dX7_function_122 rfl ?_
      refine lv_aload_n hx hb dX7_function_123 rfl (lv_at hl 4 rfl) ?_
      refine xa_getr G fd_X7 (a := 23) (x := P) 2 rfl (by decide) rfl (wm 2 19 rfl rfl) ⟨rfl, rfl, rfl⟩ dX7_function_124 rfl ((F_443.1 23 (ni hprP (fun P => 23) (fun P => [P, P + 1]) rfl) 2).trans ((F_430.1 23 (ni hprP (fun P => 23) (fun P => [P, P + 1]) rfl) 2).trans (hs_414.trans (hs_374.trans ((sv_n _ (by decide)).trans ((sv_n _ (by decide)).trans ((F_335.1 23 (ni hprP (fun P => 23) (fun P => [P + 6, P + 7, P]) rfl) 2).trans ((F_324.1 23 (by decide) 2).trans ((sv_n _ (by decide)).trans ((F_11.1 23 (by decide) 2).trans hP.symm)))))))))) (by omega) (hprP.hq ω ρ) ?_
      refine lv_iload hx hb dX7_function_127 (lv_at hl 1 rfl) ?_
      refine lv_iload hx hb dX7_function_129 (lv_at hl 0 rfl) ?_
      have hn_450 : 0 ≤ μ404.1 23 5 ∧ μ404.1 23 5 ≤ 1000 := hI_406.nm.2.2.2.2.2.2.2.2.1
      refine lv_aload_n hx hb dX7_function_131 rfl (lv_at hl 4 rfl) ?_
      refine xa_geti G fd_X7 (a := 23) (x := μ404.1 23 5) 5 rfl (by decide) rfl (wm 2 22 rfl rfl) ⟨rfl, rfl, rfl⟩ dX7_function_132 rfl ((F_443.1 23 (ni hprP (fun P => 23) (fun P => [P, P + 1]) rfl) 5).trans (F_430.1 23 (ni hprP (fun P => 23) (fun P => [P, P + 1]) rfl) 5)) ?_
      have hr_451 : -2147483648 ≤ μ404.1 23 5 ∧ μ404.1 23 5 ≤ 2147483647 := by have h9 := G.hr (a := 23) (k := 5) rfl; rw [show μ441.1 23 5 = μ404.1 23 5 from ((F_443.1 23 (ni hprP (fun P => 23) (fun P => [P, P + 1]) rfl) 5).trans (F_430.1 23 (ni hprP (fun P => 23) (fun P => [P, P + 1]) rfl) 5))] at h9; exact h9
      have hvr_452 : vrk μ441 := vrk.fP (P := P) (L := fun P => [P, P + 1, 2, 3, 4, 23, 24, 25, 26, P + 2, (P + 2) + 1, (P + 2) + 2, (P + 2) + 3, P + 6, P + 7]) hprP rfl (Fr.tr (Fr.tr (Fr.tr (Fr.tr (Fr.put (Fr.put (Fr.tr (Fr.tr (Fr.put (Fr.tr Fr.rf F_11 (si hprP (fun P => [26]) (fun P => [P, P + 1, 2, 3, 4, 23, 24, 25, 26, P + 2, (P + 2) + 1, (P + 2) + 2, (P + 2) + 3, P + 6, P + 7]) rfl)) (si hprP (fun P => [23]) (fun P => [P, P + 1, 2, 3, 4, 23, 24, 25, 26, P + 2, (P + 2) + 1, (P + 2) + 2, (P + 2) + 3, P + 6, P + 7]) rfl 23 (List.mem_singleton.2 rfl))) F_324 (si hprP (fun P => [24]) (fun P => [P, P + 1, 2, 3, 4, 23, 24, 25, 26, P + 2, (P + 2) + 1, (P + 2) + 2, (P + 2) + 3, P + 6, P + 7]) rfl)) F_335 (si hprP (fun P => [P + 6, P + 7, P]) (fun P => [P, P + 1, 2, 3, 4, 23, 24, 25, 26, P + 2, (P + 2) + 1, (P + 2) + 2, (P + 2) + 3, P + 6, P + 7]) rfl)) (si hprP (fun P => [23]) (fun P => [P, P + 1, 2, 3, 4, 23, 24, 25, 26, P + 2, (P + 2) + 1, (P + 2) + 2, (P + 2) + 3, P + 6, P + 7]) rfl 23 (List.mem_singleton.2 rfl))) (si hprP (fun P => [23]) (fun P => [P, P + 1, 2, 3, 4, 23, 24, 25, 26, P + 2, (P + 2) + 1, (P + 2) + 2, (P + 2) + 3, P + 6, P + 7]) rfl 23 (List.mem_singleton.2 rfl))) F_363 (si hprP (fun P => [26, 23, 25, 24]) (fun P => [P, P + 1, 2, 3, 4, 23, 24, 25, 26, P + 2, (P + 2) + 1, (P + 2) + 2, (P + 2) + 3, P + 6, P + 7]) rfl)) F_405 (si hprP (fun P => [2, 3, 4, 23, 24, 25, 26, P, P + 1, P + 2, (P + 2) + 1, (P + 2) + 2, (P + 2) + 3]) (fun P => [P, P + 1, 2, 3, 4, 23, 24, 25, 26, P + 2, (P + 2) + 1, (P + 2) + 2, (P + 2) + 3, P + 6, P + 7]) rfl)) F_430 (si hprP (fun P => [P, P + 1]) (fun P => [P, P + 1, 2, 3, 4, 23, 24, 25, 26, P + 2, (P + 2) + 1, (P + 2) + 2, (P + 2) + 3, P + 6, P + 7]) rfl)) F_443 (si hprP (fun P => [P, P + 1]) (fun P => [P, P + 1, 2, 3, 4, 23, 24, 25, 26, P + 2, (P + 2) + 1, (P + 2) + 2, (P + 2) + 3, P + 6, P + 7]) rfl)) hv9
      have e_453 : μ441.1 P 1 = μ428.1 P 1 + 1 := hs_447
      have e_454 : μ441.1 P 7 = μ334.1 P 7 := (hs_448.trans (hs_435.trans (hs_419.trans ((F_363.1 P (ni hprP (fun P => P) (fun P => [26, 23, 25, 24]) rfl) 7).trans ((sv_n _ (fun h9 => (ni hprP (fun P => P) (fun P => [23]) rfl) (List.mem_singleton.2 h9.1))).trans (sv_n _ (fun h9 => (ni hprP (fun P => P) (fun P => [23]) rfl) (List.mem_singleton.2 h9.1))))))))
      refine xc_vV G (b := P) (rest := []) (As := [.int (iv (r_344 - 1)), .int (iv (μ362.1 23 6)), .int (iv (μ404.1 23 5))]) (c_X8_setCounts_b ω l μ441 P (r_344 - 1) (μ362.1 23 6) (μ404.1 23 5) hprP (by unfold ir; omega) (by unfold ir; omega) (by unfold ir; omega) hI_444 hvr_452 (by omega) (by omega)) (wm 4 187 rfl rfl) (wm 4 188 rfl rfl) (wm 4 189 rfl rfl) hprP.ly rfl (by decide) (hprP.hq ω ρ) (wm 1 9 rfl rfl) (wm 4 190 rfl rfl) (by decide) hR (by decide) (n := 3) rfl rfl (Nat.le_of_ble_eq_true rfl) hl.1 dX7_function_135 (fun μ455 ρ d0 H locs hp G => ?_)
      obtain ⟨F_456, hI_457, hp_458, hs_459, hs_460⟩ := hp
      clear hk_1 hc_2 hk_340 hc_341 hk_387 hk_421 hc_422 hk_423
      have e_461 : μ455.1 26 11 = μ404.1 26 11 := ((F_456.1 26 (ni hprP (fun P => 26) (fun P => [P + 8, P + 9]) rfl) 11).trans ((F_443.1 26 (ni hprP (fun P => 26) (fun P => [P, P + 1]) rfl) 11).trans (F_430.1 26 (ni hprP (fun P => 26) (fun P => [P, P + 1]) rfl) 11)))
      have htP_462 : ∀ _ : Unit, μ455.1 26 11 = 0 → PG μ455 P tt := fun _ h0 => PG.fr (K := [P + 8, P + 9]) (hX_449 () (by have h9 : μ441.1 26 11 = μ404.1 26 11 := ((F_443.1 26 (ni hprP (fun P => 26) (fun P => [P, P + 1]) rfl) 11).trans (F_430.1 26 (ni hprP (fun P => 26) (fun P => [P, P + 1]) rfl) 11)); have h8 : μ455.1 26 11 = μ404.1 26 11 := ((F_456.1 26 (ni hprP (fun P => 26) (fun P => [P + 8, P + 9]) rfl) 11).trans ((F_443.1 26 (ni hprP (fun P => 26) (fun P => [P, P + 1]) rfl) 11).trans (F_430.1 26 (ni hprP (fun P => 26) (fun P => [P, P + 1]) rfl) 11))); omega)) (Fr.tr Fr.rf F_456 (si hprP (fun P => [P + 8, P + 9]) (fun P => [P + 8, P + 9]) rfl)) (ni hprP (fun P => P) (fun P => [P + 8, P + 9]) rfl) (ni hprP (fun P => P + 1) (fun P => [P + 8, P + 9]) rfl) (ni hprP (fun P => P + 7) (fun P => [P + 8, P + 9]) rfl)
      have htk_463 : TK μ455 := hp_407.fr (K := [P + 8, P + 9, P, P + 1]) (Fr.tr (Fr.tr (Fr.tr Fr.rf F_430 (si hprP (fun P => [P, P + 1]) (fun P => [P + 8, P + 9, P, P + 1]) rfl)) F_443 (si hprP (fun P => [P, P + 1]) (fun P => [P + 8, P + 9, P, P + 1]) rfl)) F_456 (si hprP (fun P => [P + 8, P + 9]) (fun P => [P + 8, P + 9, P, P + 1]) rfl)) (ni hprP (fun P => 26) (fun P => [P + 8, P + 9, P, P + 1]) rfl) (ni hprP (fun P => 28) (fun P => [P + 8, P + 9, P, P + 1]) rfl) (ni hprP (fun P => 29) (fun P => [P + 8, P + 9, P, P + 1]) rfl)
      have e_464 : μ455.1 26 11 = μ404.1 26 11 := ((F_456.1 26 (ni hprP (fun P => 26) (fun P => [P + 8, P + 9]) rfl) 11).trans ((F_443.1 26 (ni hprP (fun P => 26) (fun P => [P, P + 1]) rfl) 11).trans (F_430.1 26 (ni hprP (fun P => 26) (fun P => [P, P + 1]) rfl) 11)))
      have e_465 : μ455.1 26 10 = μ404.1 26 10 := ((F_456.1 26 (ni hprP (fun P => 26) (fun P => [P + 8, P + 9]) rfl) 10).trans ((F_443.1 26 (ni hprP (fun P => 26) (fun P => [P, P + 1]) rfl) 10).trans (F_430.1 26 (ni hprP (fun P => 26) (fun P => [P, P + 1]) rfl) 10)))
      have e_466 : μ455.1 P 1 = μ428.1 P 1 + 1 := (hs_459.trans hs_447)
      have e_467 : μ455.1 26 10 = μ404.1 26 10 := ((F_456.1 26 (ni hprP (fun P => 26) (fun P => [P + 8, P + 9]) rfl) 10).trans ((F_443.1 26 (ni hprP (fun P => 26) (fun P => [P, P + 1]) rfl) 10).trans (F_430.1 26 (ni hprP (fun P => 26) (fun P => [P, P + 1]) rfl) 10)))
      have e_468 : μ455.1 26 11 = μ404.1 26 11 := ((F_456.1 26 (ni hprP (fun P => 26) (fun P => [P + 8, P + 9]) rfl) 11).trans ((F_443.1 26 (ni hprP (fun P => 26) (fun P => [P, P + 1]) rfl) 11).trans (F_430.1 26 (ni hprP (fun P => 26) (fun P => [P, P + 1]) rfl) 11)))
      have e_469 : μ455.1 (P + 2) 3 = μ404.1 (P + 2) 3 := ((F_456.1 (P + 2) (ni hprP (fun P => P + 2) (fun P => [P + 8, P + 9]) rfl) 3).trans ((F_443.1 (P + 2) (ni hprP (fun P => P + 2) (fun P => [P, P + 1]) rfl) 3).trans (F_430.1 (P + 2) (ni hprP (fun P => P + 2) (fun P => [P, P + 1]) rfl) 3)))
      have e_470 : μ455.1 P 1 = μ428.1 P 1 + 1 := (hs_459.trans hs_447)
      have e_471 : μ455.1 23 7 = (μ.1 23 7) + 1 := ((F_456.1 23 (ni hprP (fun P => 23) (fun P => [P + 8, P + 9]) rfl) 7).trans ((F_443.1 23 (ni hprP (fun P => 23) (fun P => [P, P + 1]) rfl) 7).trans ((F_430.1 23 (ni hprP (fun P => 23) (fun P => [P, P + 1]) rfl) 7).trans (hs_415.trans (hs_375.trans ((sv_n _ (by decide)).trans ((sv_n _ (by decide)).trans ((F_335.1 23 (ni hprP (fun P => 23) (fun P => [P + 6, P + 7, P]) rfl) 7).trans ((F_324.1 23 (by decide) 7).trans (sv_s _ _ _ _))))))))))
      have e_472 : μ455.1 23 9 = μ.1 23 9 := ((F_456.1 23 (ni hprP (fun P => 23) (fun P => [P + 8, P + 9]) rfl) 9).trans ((F_443.1 23 (ni hprP (fun P => 23) (fun P => [P, P + 1]) rfl) 9).trans ((F_430.1 23 (ni hprP (fun P => 23) (fun P => [P, P + 1]) rfl) 9).trans (hs_417.trans (hs_369.trans ((sv_n _ (by decide)).trans ((sv_n _ (by decide)).trans ((F_335.1 23 (ni hprP (fun P => 23) (fun P => [P + 6, P + 7, P]) rfl) 9).trans ((F_324.1 23 (by decide) 9).trans ((sv_n _ (by decide)).trans (F_11.1 23 (by decide) 9)))))))))))
      have e_473 : μ455.1 23 2 = P := ((F_456.1 23 (ni hprP (fun P => 23) (fun P => [P + 8, P + 9]) rfl) 2).trans ((F_443.1 23 (ni hprP (fun P => 23) (fun P => [P, P + 1]) rfl) 2).trans ((F_430.1 23 (ni hprP (fun P => 23) (fun P => [P, P + 1]) rfl) 2).trans (hs_414.trans (hs_374.trans ((sv_n _ (by decide)).trans ((sv_n _ (by decide)).trans ((F_335.1 23 (ni hprP (fun P => 23) (fun P => [P + 6, P + 7, P]) rfl) 2).trans ((F_324.1 23 (by decide) 2).trans ((sv_n _ (by decide)).trans ((F_11.1 23 (by decide) 2).trans hP.symm)))))))))))
      have e_474 : μ455.1 23 8 = tt := ((F_456.1 23 (ni hprP (fun P => 23) (fun P => [P + 8, P + 9]) rfl) 8).trans ((F_443.1 23 (ni hprP (fun P => 23) (fun P => [P, P + 1]) rfl) 8).trans ((F_430.1 23 (ni hprP (fun P => 23) (fun P => [P, P + 1]) rfl) 8).trans (hs_416.trans (hs_376.trans ((sv_n _ (by decide)).trans ((sv_n _ (by decide)).trans ((F_335.1 23 (ni hprP (fun P => 23) (fun P => [P + 6, P + 7, P]) rfl) 8).trans ((F_324.1 23 (by decide) 8).trans ((sv_n _ (by decide)).trans ((F_11.1 23 (by decide) 8).trans htt.symm)))))))))))
      exact xr_v G hret hlk dX7_function_138 ⟨(Fr.tr (Fr.tr (Fr.tr (Fr.tr (Fr.tr (Fr.put (Fr.put (Fr.tr (Fr.tr (Fr.put (Fr.tr Fr.rf F_11 (si hprP (fun P => [26]) (fun P => [2, 3, 4, 23, 24, 25, 26, P, P + 1, P + 2, (P + 2) + 1, (P + 2) + 2, (P + 2) + 3, P + 6, P + 7, P + 8, P + 9]) rfl)) (si hprP (fun P => [23]) (fun P => [2, 3, 4, 23, 24, 25, 26, P, P + 1, P + 2, (P + 2) + 1, (P + 2) + 2, (P + 2) + 3, P + 6, P + 7, P + 8, P + 9]) rfl 23 (List.mem_singleton.2 rfl))) F_324 (si hprP (fun P => [24]) (fun P => [2, 3, 4, 23, 24, 25, 26, P, P + 1, P + 2, (P + 2) + 1, (P + 2) + 2, (P + 2) + 3, P + 6, P + 7, P + 8, P + 9]) rfl)) F_335 (si hprP (fun P => [P + 6, P + 7, P]) (fun P => [2, 3, 4, 23, 24, 25, 26, P, P + 1, P + 2, (P + 2) + 1, (P + 2) + 2, (P + 2) + 3, P + 6, P + 7, P + 8, P + 9]) rfl)) (si hprP (fun P => [23]) (fun P => [2, 3, 4, 23, 24, 25, 26, P, P + 1, P + 2, (P + 2) + 1, (P + 2) + 2, (P + 2) + 3, P + 6, P + 7, P + 8, P + 9]) rfl 23 (List.mem_singleton.2 rfl))) (si hprP (fun P => [23]) (fun P => [2, 3, 4, 23, 24, 25, 26, P, P + 1, P + 2, (P + 2) + 1, (P + 2) + 2, (P + 2) + 3, P + 6, P + 7, P + 8, P + 9]) rfl 23 (List.mem_singleton.2 rfl))) F_363 (si hprP (fun P => [26, 23, 25, 24]) (fun P => [2, 3, 4, 23, 24, 25, 26, P, P + 1, P + 2, (P + 2) + 1, (P + 2) + 2, (P + 2) + 3, P + 6, P + 7, P + 8, P + 9]) rfl)) F_405 (si hprP (fun P => [2, 3, 4, 23, 24, 25, 26, P, P + 1, P + 2, (P + 2) + 1, (P + 2) + 2, (P + 2) + 3]) (fun P => [2, 3, 4, 23, 24, 25, 26, P, P + 1, P + 2, (P + 2) + 1, (P + 2) + 2, (P + 2) + 3, P + 6, P + 7, P + 8, P + 9]) rfl)) F_430 (si hprP (fun P => [P, P + 1]) (fun P => [2, 3, 4, 23, 24, 25, 26, P, P + 1, P + 2, (P + 2) + 1, (P + 2) + 2, (P + 2) + 3, P + 6, P + 7, P + 8, P + 9]) rfl)) F_443 (si hprP (fun P => [P, P + 1]) (fun P => [2, 3, 4, 23, 24, 25, 26, P, P + 1, P + 2, (P + 2) + 1, (P + 2) + 2, (P + 2) + 3, P + 6, P + 7, P + 8, P + 9]) rfl)) F_456 (si hprP (fun P => [P + 8, P + 9]) (fun P => [2, 3, 4, 23, 24, 25, 26, P, P + 1, P + 2, (P + 2) + 1, (P + 2) + 2, (P + 2) + 3, P + 6, P + 7, P + 8, P + 9]) rfl)), hI_457, htk_463, (by omega), (by omega), (by omega), (by omega), (by omega), hp_458, (fun _ => (htP_462 ())), (by omega), (by omega)⟩
    · refine lv_aload_n hx hb dX7_function_57 rfl (lv_at hl 2 rfl) ?_
      refine lv_iconst (v := iv 3) hx hb dX7_function_58 rfl ?_
      refine lv_iload_n hx hb dX7_function_59 rfl (lv_at hl 0 rfl) ?_
      refine xc_vV G (b := 23) (rest := []) (As := [.int (iv 3), .int (iv (μ.1 26 13))]) (c_X7_tellFault ω l μ323 3 (μ.1 26 13) (by unfold ir; omega) (by unfold ir; omega) hI_325 (by omega)) (wm 3 177 rfl rfl) (wm 3 179 rfl rfl) (wm 0 12 rfl rfl) rfl rfl (by decide) rfl (wm 1 12 rfl rfl) (wm 3 180 rfl rfl) (by decide) hR (by decide) (n := 2) rfl rfl (Nat.le_of_ble_eq_true rfl) hl.1 dX7_function_60 (fun μ475 ρ d0 H locs hp G => ?_)
      obtain ⟨F_476, hI_477⟩ := hp
      refine lv_aload_n hx hb dX7_function_63 rfl (lv_at hl 2 rfl) ?_
      refine xa_getr G fd_X7 (a := 23) (x := P) 2 rfl (by decide) rfl (wm 2 19 rfl rfl) ⟨rfl, rfl, rfl⟩ dX7_function_64 rfl ((F_476.1 23 (by decide) 2).trans ((F_324.1 23 (by decide) 2).trans ((sv_n _ (by decide)).trans ((F_11.1 23 (by decide) 2).trans hP.symm)))) (by omega) (hprP.hq ω ρ) ?_
      refine lv_lload_n hx hb dX7_function_67 rfl (lv_at hl 1 rfl) ?_
      have htP_478 : ∀ _ : Unit, μ475.1 26 11 = 0 → PG μ475 P tt := fun _ h0 => PG.fr (K := [24, 23, 26]) (hpg () (by have h9 : μ.1 26 11 = μ.1 26 11 := rfl; have h8 : μ475.1 26 11 = μ10.1 26 11 := ((F_476.1 26 (by decide) 11).trans ((F_324.1 26 (by decide) 11).trans (sv_n _ (fun h9 => absurd h9.1 (by decide))))); omega)) (Fr.tr (Fr.tr (Fr.put (Fr.tr Fr.rf F_11 (by decide)) (by decide)) F_324 (by decide)) F_476 (by decide)) (ni hprP (fun P => P) (fun P => [24, 23, 26]) rfl) (ni hprP (fun P => P + 1) (fun P => [24, 23, 26]) rfl) (ni hprP (fun P => P + 7) (fun P => [24, 23, 26]) rfl)
      have e_479 : μ475.1 P 7 = μ.1 P 7 := ((F_476.1 P (ni hprP (fun P => P) (fun P => [24]) rfl) 7).trans ((F_324.1 P (ni hprP (fun P => P) (fun P => [24]) rfl) 7).trans ((sv_n _ (fun h9 => (ni hprP (fun P => P) (fun P => [23]) rfl) (List.mem_singleton.2 h9.1))).trans (F_11.1 P (ni hprP (fun P => P) (fun P => [26]) rfl) 7))))
      have e_480 : μ475.1 P 7 = μ.1 P 7 := ((F_476.1 P (ni hprP (fun P => P) (fun P => [24]) rfl) 7).trans ((F_324.1 P (ni hprP (fun P => P) (fun P => [24]) rfl) 7).trans ((sv_n _ (fun h9 => (ni hprP (fun P => P) (fun P => [23]) rfl) (List.mem_singleton.2 h9.1))).trans (F_11.1 P (ni hprP (fun P => P) (fun P => [26]) rfl) 7))))
      have e_481 : μ475.1 P 1 = μ.1 P 1 := ((F_476.1 P (ni hprP (fun P => P) (fun P => [24]) rfl) 1).trans ((F_324.1 P (ni hprP (fun P => P) (fun P => [24]) rfl) 1).trans ((sv_n _ (fun h9 => (ni hprP (fun P => P) (fun P => [23]) rfl) (List.mem_singleton.2 h9.1))).trans (F_11.1 P (ni hprP (fun P => P) (fun P => [26]) rfl) 1))))
      refine xc_vV G (b := P) (rest := []) (As := [.long (jv (μ.1 26 14))]) (c_X8_addFunction_b ω l μ475 P (μ.1 26 14) (μ.1 P 7) hprP hj_4 hI_477 (by omega) (by omega)) (wm 3 185 rfl rfl) (wm 3 186 rfl rfl) (wm 3 187 rfl rfl) hprP.ly rfl (by decide) (hprP.hq ω ρ) (wm 1 9 rfl rfl) (wm 3 188 rfl rfl) (by decide) hR (by decide) (n := 1) rfl rfl (Nat.le_of_ble_eq_true rfl) hl.1 dX7_function_68 (fun μ482 ρ d0 H locs hp G => ?_)
      obtain ⟨F_483, hI_484, hp_485, hp_486, hs_487⟩ := hp
      have hk_488 := hI_484.pr (p := P) hprP
      unfold pk at hk_488
      have hc_489 : 16 ≤ μ482.2.1 (P + 1) ∧ μ482.2.1 (P + 1) ≤ 73024 := hI_484.rm.1 _ hprP.cap
      replace hp_486 := fun _ : Unit => hp_486
      have hX_490 : ∀ _ : Unit, μ482.1 26 11 = 0 → PG μ482 P tt := by
        intro _ h0
        have l1 : μ482.1 P 1 = μ475.1 P 1 := by rw [show μ482.1 P 1 = μ.1 P 1 from (hs_487.trans ((F_476.1 P (ni hprP (fun P => P) (fun P => [24]) rfl) 1).trans ((F_324.1 P (ni hprP (fun P => P) (fun P => [24]) rfl) 1).trans ((sv_n _ (fun h9 => (ni hprP (fun P => P) (fun P => [23]) rfl) (List.mem_singleton.2 h9.1))).trans (F_11.1 P (ni hprP (fun P => P) (fun P => [26]) rfl) 1))))), show μ475.1 P 1 = μ.1 P 1 from ((F_476.1 P (ni hprP (fun P => P) (fun P => [24]) rfl) 1).trans ((F_324.1 P (ni hprP (fun P => P) (fun P => [24]) rfl) 1).trans ((sv_n _ (fun h9 => (ni hprP (fun P => P) (fun P => [23]) rfl) (List.mem_singleton.2 h9.1))).trans (F_11.1 P (ni hprP (fun P => P) (fun P => [26]) rfl) 1))))]
        have l7 : μ475.1 P 7 = μ.1 P 7 := ((F_476.1 P (ni hprP (fun P => P) (fun P => [24]) rfl) 7).trans ((F_324.1 P (ni hprP (fun P => P) (fun P => [24]) rfl) 7).trans ((sv_n _ (fun h9 => (ni hprP (fun P => P) (fun P => [23]) rfl) (List.mem_singleton.2 h9.1))).trans (F_11.1 P (ni hprP (fun P => P) (fun P => [26]) rfl) 7))))
        have c1 : ∀ j, μ482.1 (P + 1) j = μ475.1 (P + 1) j := fun j => F_483.1 (P + 1) (ni hprP (fun P => P + 1) (fun P => [P + 6, P + 7, P]) rfl) j
        refine PG.fn ((htP_478 ()) (by have h9 : μ475.1 26 11 = μ10.1 26 11 := ((F_476.1 26 (by decide) 11).trans ((F_324.1 26 (by decide) 11).trans (sv_n _ (fun h9 => absurd h9.1 (by decide))))); have h8 : μ482.1 26 11 = μ10.1 26 11 := ((F_483.1 26 (ni hprP (fun P => 26) (fun P => [P + 6, P + 7, P]) rfl) 11).trans ((F_476.1 26 (by decide) 11).trans ((F_324.1 26 (by decide) 11).trans (sv_n _ (fun h9 => absurd h9.1 (by decide)))))); omega)) l1 (fun i k => by unfold cdp; rw [l1, c1]) ?_
        rw [l7]
        have hd_ := (hp_486 ())
        rcases hd_ with ⟨q1, q2⟩ | ⟨q0, q1, q2, q3⟩
        · exact Or.inl ⟨q1, q2⟩
        · exact Or.inr ⟨q0, q1, q2, q3⟩
      refine lv_aload_n hx hb dX7_function_71 rfl (lv_at hl 2 rfl) ?_
      refine xa_getr G fd_X7 (a := 23) (x := P) 2 rfl (by decide) rfl (wm 2 19 rfl rfl) ⟨rfl, rfl, rfl⟩ dX7_function_72 rfl ((F_483.1 23 (ni hprP (fun P => 23) (fun P => [P + 6, P + 7, P]) rfl) 2).trans ((F_476.1 23 (by decide) 2).trans ((F_324.1 23 (by decide) 2).trans ((sv_n _ (by decide)).trans ((F_11.1 23 (by decide) 2).trans hP.symm))))) (by omega) (hprP.hq ω ρ) ?_
      refine xc_iV G (b := P) (rest := []) (As := []) (c_X8_functions ω l μ482 P hprP hI_484) (wm 3 189 rfl rfl) (wm 3 190 rfl rfl) (wm 3 191 rfl rfl) hprP.ly rfl (by decide) (hprP.hq ω ρ) (wm 1 9 rfl rfl) (wm 3 192 rfl rfl) (by decide) hR (by decide) (n := 0) rfl rfl (Nat.le_of_ble_eq_true rfl) hl.1 dX7_function_75 (fun r_492 μ491 ρ d0 H locs hr_r_492 hp G => ?_)
      have hr_r_492 : -2147483648 ≤ r_492 ∧ r_492 ≤ 2147483647 := hr_r_492
      obtain ⟨hsm_493, hp_494⟩ := hp
      have hsm_493 := Eq.symm hsm_493
      subst hsm_493
      refine lv_iconst (v := iv 1) hx hb dX7_function_78 rfl ?_
      refine xb_isub hx hb dX7_function_79 ?_
      refine lv_istore (lv' := [(4, .int (iv (r_492 - 1))), (3, .int (iv (μ.1 26 13))), (1, .long (jv (μ.1 26 14))), (0, .ref (oP ω 23))]) hx hb dX7_function_80 hl (by decide) rfl (fun ls hl => ?_)
      refine lv_aload_n hx hb dX7_function_82 rfl (lv_at hl 3 rfl) ?_
      refine lv_iconst (v := iv 0) hx hb dX7_function_83 rfl ?_
      refine xa_puti G fd_X7 (a := 23) (x := 0) 5 (kz := 5) rfl rfl (by decide) rfl (by unfold ir; omega) (wm 2 22 rfl rfl) ⟨rfl, rfl, rfl, rfl⟩ rfl dX7_function_84 rfl (fun H locs G => ?_)
      refine lv_aload_n hx hb dX7_function_87 rfl (lv_at hl 3 rfl) ?_
      refine lv_iconst (v := iv 0) hx hb dX7_function_88 rfl ?_
      refine xa_puti G fd_X7 (a := 23) (x := 0) 6 (kz := 6) rfl rfl (by decide) rfl (by unfold ir; omega) (wm 2 23 rfl rfl) ⟨rfl, rfl, rfl, rfl⟩ rfl dX7_function_89 rfl (fun H locs G => ?_)
      refine lv_aload_n hx hb dX7_function_92 rfl (lv_at hl 3 rfl) ?_
      have hI_495 : IC (sv (sv μ482 23 5 0) 23 6 0) := (IC.put (IC.n_23_5 hI_484 (by omega)) (by decide +kernel))
      have htk_496 : TK (sv (sv μ482 23 5 0) 23 6 0) := hp_13.fr (K := [23, P + 6, P + 7, P, 24]) (Fr.put (Fr.put (Fr.tr (Fr.tr (Fr.tr (Fr.put Fr.rf (si hprP (fun P => [23]) (fun P => [23, P + 6, P + 7, P, 24]) rfl 23 (List.mem_singleton.2 rfl))) F_324 (si hprP (fun P => [24]) (fun P => [23, P + 6, P + 7, P, 24]) rfl)) F_476 (si hprP (fun P => [24]) (fun P => [23, P + 6, P + 7, P, 24]) rfl)) F_483 (si hprP (fun P => [P + 6, P + 7, P]) (fun P => [23, P + 6, P + 7, P, 24]) rfl)) (si hprP (fun P => [23]) (fun P => [23, P + 6, P + 7, P, 24]) rfl 23 (List.mem_singleton.2 rfl))) (si hprP (fun P => [23]) (fun P => [23, P + 6, P + 7, P, 24]) rfl 23 (List.mem_singleton.2 rfl))) (ni hprP (fun P => 26) (fun P => [23, P + 6, P + 7, P, 24]) rfl) (ni hprP (fun P => 28) (fun P => [23, P + 6, P + 7, P, 24]) rfl) (ni hprP (fun P => 29) (fun P => [23, P + 6, P + 7, P, 24]) rfl)
      have e_497 : (sv (sv μ482 23 5 0) 23 6 0).1 23 6 = 0 := (sv_s _ _ _ _)
      have e_498 : (sv (sv μ482 23 5 0) 23 6 0).1 23 9 = μ.1 23 9 := ((sv_n _ (by decide)).trans ((sv_n _ (by decide)).trans ((F_483.1 23 (ni hprP (fun P => 23) (fun P => [P + 6, P + 7, P]) rfl) 9).trans ((F_476.1 23 (by decide) 9).trans ((F_324.1 23 (by decide) 9).trans ((sv_n _ (by decide)).trans (F_11.1 23 (by decide) 9)))))))
      have e_499 : (sv (sv μ482 23 5 0) 23 6 0).1 26 11 = μ10.1 26 11 := ((sv_n _ (fun h9 => absurd h9.1 (by decide))).trans ((sv_n _ (fun h9 => absurd h9.1 (by decide))).trans ((F_483.1 26 (ni hprP (fun P => 26) (fun P => [P + 6, P + 7, P]) rfl) 11).trans ((F_476.1 26 (by decide) 11).trans ((F_324.1 26 (by decide) 11).trans (sv_n _ (fun h9 => absurd h9.1 (by decide))))))))
      have e_500 : (sv (sv μ482 23 5 0) 23 6 0).1 26 10 = μ10.1 26 10 := ((sv_n _ (fun h9 => absurd h9.1 (by decide))).trans ((sv_n _ (fun h9 => absurd h9.1 (by decide))).trans ((F_483.1 26 (ni hprP (fun P => 26) (fun P => [P + 6, P + 7, P]) rfl) 10).trans ((F_476.1 26 (by decide) 10).trans ((F_324.1 26 (by decide) 10).trans (sv_n _ (fun h9 => absurd h9.1 (by decide))))))))
      have e_501 : (sv (sv μ482 23 5 0) 23 6 0).1 23 9 = μ.1 23 9 := ((sv_n _ (by decide)).trans ((sv_n _ (by decide)).trans ((F_483.1 23 (ni hprP (fun P => 23) (fun P => [P + 6, P + 7, P]) rfl) 9).trans ((F_476.1 23 (by decide) 9).trans ((F_324.1 23 (by decide) 9).trans ((sv_n _ (by decide)).trans (F_11.1 23 (by decide) 9)))))))
      have e_502 : (sv (sv μ482 23 5 0) 23 6 0).1 26 6 = μ.1 26 6 := ((sv_n _ (fun h9 => absurd h9.1 (by decide))).trans ((sv_n _ (fun h9 => absurd h9.1 (by decide))).trans ((F_483.1 26 (ni hprP (fun P => 26) (fun P => [P + 6, P + 7, P]) rfl) 6).trans ((F_476.1 26 (by decide) 6).trans ((F_324.1 26 (by decide) 6).trans ((sv_n _ (fun h9 => absurd h9.1 (by decide))).trans hs_16))))))
      have e_503 : (sv (sv μ482 23 5 0) 23 6 0).1 26 7 = μ.1 26 7 := ((sv_n _ (fun h9 => absurd h9.1 (by decide))).trans ((sv_n _ (fun h9 => absurd h9.1 (by decide))).trans ((F_483.1 26 (ni hprP (fun P => 26) (fun P => [P + 6, P + 7, P]) rfl) 7).trans ((F_476.1 26 (by decide) 7).trans ((F_324.1 26 (by decide) 7).trans ((sv_n _ (fun h9 => absurd h9.1 (by decide))).trans hs_17))))))
      have e_504 : (sv (sv μ482 23 5 0) 23 6 0).1 26 8 = μ.1 26 8 := ((sv_n _ (fun h9 => absurd h9.1 (by decide))).trans ((sv_n _ (fun h9 => absurd h9.1 (by decide))).trans ((F_483.1 26 (ni hprP (fun P => 26) (fun P => [P + 6, P + 7, P]) rfl) 8).trans ((F_476.1 26 (by decide) 8).trans ((F_324.1 26 (by decide) 8).trans ((sv_n _ (fun h9 => absurd h9.1 (by decide))).trans hs_18))))))
      have e_505 : (sv (sv μ482 23 5 0) 23 6 0).1 26 9 = μ.1 26 9 := ((sv_n _ (fun h9 => absurd h9.1 (by decide))).trans ((sv_n _ (fun h9 => absurd h9.1 (by decide))).trans ((F_483.1 26 (ni hprP (fun P => 26) (fun P => [P + 6, P + 7, P]) rfl) 9).trans ((F_476.1 26 (by decide) 9).trans ((F_324.1 26 (by decide) 9).trans ((sv_n _ (fun h9 => absurd h9.1 (by decide))).trans hs_19))))))
      have e_506 : (sv (sv μ482 23 5 0) 23 6 0).1 23 2 = P := ((sv_n _ (by decide)).trans ((sv_n _ (by decide)).trans ((F_483.1 23 (ni hprP (fun P => 23) (fun P => [P + 6, P + 7, P]) rfl) 2).trans ((F_476.1 23 (by decide) 2).trans ((F_324.1 23 (by decide) 2).trans ((sv_n _ (by decide)).trans ((F_11.1 23 (by decide) 2).trans hP.symm)))))))
      have e_507 : (sv (sv μ482 23 5 0) 23 6 0).1 23 7 = (μ.1 23 7) + 1 := ((sv_n _ (by decide)).trans ((sv_n _ (by decide)).trans ((F_483.1 23 (ni hprP (fun P => 23) (fun P => [P + 6, P + 7, P]) rfl) 7).trans ((F_476.1 23 (by decide) 7).trans ((F_324.1 23 (by decide) 7).trans (sv_s _ _ _ _))))))
      have e_508 : (sv (sv μ482 23 5 0) 23 6 0).1 23 8 = tt := ((sv_n _ (by decide)).trans ((sv_n _ (by decide)).trans ((F_483.1 23 (ni hprP (fun P => 23) (fun P => [P + 6, P + 7, P]) rfl) 8).trans ((F_476.1 23 (by decide) 8).trans ((F_324.1 23 (by decide) 8).trans ((sv_n _ (by decide)).trans ((F_11.1 23 (by decide) 8).trans htt.symm)))))))
      have e_509 : (sv (sv μ482 23 5 0) 23 6 0).1 23 10 = μ.1 23 10 := ((sv_n _ (by decide)).trans ((sv_n _ (by decide)).trans ((F_483.1 23 (ni hprP (fun P => 23) (fun P => [P + 6, P + 7, P]) rfl) 10).trans ((F_476.1 23 (by decide) 10).trans ((F_324.1 23 (by decide) 10).trans ((sv_n _ (by decide)).trans (F_11.1 23 (by decide) 10)))))))
      refine xc_vV G (b := 23) (rest := []) (As := []) (c_X7_parameters ω l (sv (sv μ482 23 5 0) 23 6 0)  hI_495 htk_496 (by omega) (by omega)) (wm 3 193 rfl rfl) (wm 3 195 rfl rfl) (wm 0 13 rfl rfl) rfl rfl (by decide) rfl (wm 1 12 rfl rfl) (wm 3 196 rfl rfl) (by decide) hR (by decide) (n := 0) rfl rfl (Nat.le_of_ble_eq_true rfl) hl.1 dX7_function_93 (fun μ510 ρ d0 H locs hp G => ?_)
      obtain ⟨F_511, hI_512, hp_513, hp_514, hp_515, hp_516, hs_517, hs_518, hs_519, hs_520, hs_521, hs_522, hs_523, hs_524, hs_525⟩ := hp
      have hn_526 : -1 ≤ μ510.1 26 10 ∧ μ510.1 26 10 ≤ 3000 := hI_512.nm.2.2.2.2.2.2.2.2.2.2.2.2
      have htb_527 := hp_513.b
      refine lv_aload_n hx hb dX7_function_96 rfl (lv_at hl 3 rfl) ?_
      refine xa_geti G fd_X7 (a := 23) (x := μ510.1 23 6) 6 rfl (by decide) rfl (wm 2 23 rfl rfl) ⟨rfl, rfl, rfl⟩ dX7_function_97 rfl rfl ?_
      have hr_528 : -2147483648 ≤ μ510.1 23 6 ∧ μ510.1 23 6 ≤ 2147483647 := by have h9 := G.hr (a := 23) (k := 6) rfl; exact h9
      have hn_529 : 0 ≤ μ510.1 23 5 ∧ μ510.1 23 5 ≤ 1000 := hI_512.nm.2.2.2.2.2.2.2.2.1
      refine lv_istore (lv' := [(5, .int (iv (μ510.1 23 6))), (4, .int (iv (r_492 - 1))), (3, .int (iv (μ.1 26 13))), (1, .long (jv (μ.1 26 14))), (0, .ref (oP ω 23))]) hx hb dX7_function_100 hl (by decide) rfl (fun ls hl => ?_)
      refine lv_aload_n hx hb dX7_function_102 rfl (lv_at hl 4 rfl) ?_
      have htP_530 : ∀ _ : Unit, μ510.1 26 11 = 0 → PG μ510 P tt := fun _ h0 => PG.fr (K := [26, 23, 25, 24]) (hX_490 () (by have h9 : μ482.1 26 11 = μ10.1 26 11 := ((F_483.1 26 (ni hprP (fun P => 26) (fun P => [P + 6, P + 7, P]) rfl) 11).trans ((F_476.1 26 (by decide) 11).trans ((F_324.1 26 (by decide) 11).trans (sv_n _ (fun h9 => absurd h9.1 (by decide)))))); have h8 : μ510.1 26 11 = μ510.1 26 11 := rfl; omega)) (Fr.tr (Fr.put (Fr.put Fr.rf (by decide)) (by decide)) F_511 (by decide)) (ni hprP (fun P => P) (fun P => [26, 23, 25, 24]) rfl) (ni hprP (fun P => P + 1) (fun P => [26, 23, 25, 24]) rfl) (ni hprP (fun P => P + 7) (fun P => [26, 23, 25, 24]) rfl)
      have hhc_531 : ∀ _ : Unit, μ510.1 26 11 = 0 → HC μ510 P tt 0 := fun _ h0 => ((htP_530 ()) h0).hc
      have e_532 : μ510.1 23 2 = P := (hs_522.trans ((sv_n _ (by decide)).trans ((sv_n _ (by decide)).trans ((F_483.1 23 (ni hprP (fun P => 23) (fun P => [P + 6, P + 7, P]) rfl) 2).trans ((F_476.1 23 (by decide) 2).trans ((F_324.1 23 (by decide) 2).trans ((sv_n _ (by decide)).trans ((F_11.1 23 (by decide) 2).trans hP.symm))))))))
      have e_533 : μ510.1 23 8 = tt := (hs_524.trans ((sv_n _ (by decide)).trans ((sv_n _ (by decide)).trans ((F_483.1 23 (ni hprP (fun P => 23) (fun P => [P + 6, P + 7, P]) rfl) 8).trans ((F_476.1 23 (by decide) 8).trans ((F_324.1 23 (by decide) 8).trans ((sv_n _ (by decide)).trans ((F_11.1 23 (by decide) 8).trans htt.symm))))))))
      have e_534 : μ510.1 P 1 = μ.1 P 1 := ((F_511.1 P (ni hprP (fun P => P) (fun P => [26, 23, 25, 24]) rfl) 1).trans ((sv_n _ (fun h9 => (ni hprP (fun P => P) (fun P => [23]) rfl) (List.mem_singleton.2 h9.1))).trans ((sv_n _ (fun h9 => (ni hprP (fun P => P) (fun P => [23]) rfl) (List.mem_singleton.2 h9.1))).trans (hs_487.trans ((F_476.1 P (ni hprP (fun P => P) (fun P => [24]) rfl) 1).trans ((F_324.1 P (ni hprP (fun P => P) (fun P => [24]) rfl) 1).trans ((sv_n _ (fun h9 => (ni hprP (fun P => P) (fun P => [23]) rfl) (List.mem_singleton.2 h9.1))).trans (F_11.1 P (ni hprP (fun P => P) (fun P => [26]) rfl) 1))))))))
      have hk_535 := hI.row (r := P + 2) (hprP.row)
      unfold rk at hk_535
      have e_536 : μ510.1 (P + 2) 3 = μ.1 (P + 2) 3 := ((F_511.1 (P + 2) (ni hprP (fun P => P + 2) (fun P => [26, 23, 25, 24]) rfl) 3).trans ((sv_n _ (fun h9 => (ni hprP (fun P => P + 2) (fun P => [23]) rfl) (List.mem_singleton.2 h9.1))).trans ((sv_n _ (fun h9 => (ni hprP (fun P => P + 2) (fun P => [23]) rfl) (List.mem_singleton.2 h9.1))).trans ((F_483.1 (P + 2) (ni hprP (fun P => P + 2) (fun P => [P + 6, P + 7, P]) rfl) 3).trans ((F_476.1 (P + 2) (ni hprP (fun P => P + 2) (fun P => [24]) rfl) 3).trans ((F_324.1 (P + 2) (ni hprP (fun P => P + 2) (fun P => [24]) rfl) 3).trans ((sv_n _ (fun h9 => (ni hprP (fun P => P + 2) (fun P => [23]) rfl) (List.mem_singleton.2 h9.1))).trans (F_11.1 (P + 2) (ni hprP (fun P => P + 2) (fun P => [26]) rfl) 3))))))))
      have e_537 : μ510.1 P 1 = μ.1 P 1 := ((F_511.1 P (ni hprP (fun P => P) (fun P => [26, 23, 25, 24]) rfl) 1).trans ((sv_n _ (fun h9 => (ni hprP (fun P => P) (fun P => [23]) rfl) (List.mem_singleton.2 h9.1))).trans ((sv_n _ (fun h9 => (ni hprP (fun P => P) (fun P => [23]) rfl) (List.mem_singleton.2 h9.1))).trans (hs_487.trans ((F_476.1 P (ni hprP (fun P => P) (fun P => [24]) rfl) 1).trans ((F_324.1 P (ni hprP (fun P => P) (fun P => [24]) rfl) 1).trans ((sv_n _ (fun h9 => (ni hprP (fun P => P) (fun P => [23]) rfl) (List.mem_singleton.2 h9.1))).trans (F_11.1 P (ni hprP (fun P => P) (fun P => [26]) rfl) 1))))))))
      have e_538 : μ510.1 23 9 = μ.1 23 9 := (hs_517.trans ((sv_n _ (by decide)).trans ((sv_n _ (by decide)).trans ((F_483.1 23 (ni hprP (fun P => 23) (fun P => [P + 6, P + 7, P]) rfl) 9).trans ((F_476.1 23 (by decide) 9).trans ((F_324.1 23 (by decide) 9).trans ((sv_n _ (by decide)).trans (F_11.1 23 (by decide) 9))))))))
      have e_539 : μ510.1 23 9 = μ.1 23 9 := (hs_517.trans ((sv_n _ (by decide)).trans ((sv_n _ (by decide)).trans ((F_483.1 23 (ni hprP (fun P => 23) (fun P => [P + 6, P + 7, P]) rfl) 9).trans ((F_476.1 23 (by decide) 9).trans ((F_324.1 23 (by decide) 9).trans ((sv_n _ (by decide)).trans (F_11.1 23 (by decide) 9))))))))
      have e_540 : μ510.1 P 1 = μ.1 P 1 := ((F_511.1 P (ni hprP (fun P => P) (fun P => [26, 23, 25, 24]) rfl) 1).trans ((sv_n _ (fun h9 => (ni hprP (fun P => P) (fun P => [23]) rfl) (List.mem_singleton.2 h9.1))).trans ((sv_n _ (fun h9 => (ni hprP (fun P => P) (fun P => [23]) rfl) (List.mem_singleton.2 h9.1))).trans (hs_487.trans ((F_476.1 P (ni hprP (fun P => P) (fun P => [24]) rfl) 1).trans ((F_324.1 P (ni hprP (fun P => P) (fun P => [24]) rfl) 1).trans ((sv_n _ (fun h9 => (ni hprP (fun P => P) (fun P => [23]) rfl) (List.mem_singleton.2 h9.1))).trans (F_11.1 P (ni hprP (fun P => P) (fun P => [26]) rfl) 1))))))))
      have e_541 : μ510.1 P 1 = μ.1 P 1 := ((F_511.1 P (ni hprP (fun P => P) (fun P => [26, 23, 25, 24]) rfl) 1).trans ((sv_n _ (fun h9 => (ni hprP (fun P => P) (fun P => [23]) rfl) (List.mem_singleton.2 h9.1))).trans ((sv_n _ (fun h9 => (ni hprP (fun P => P) (fun P => [23]) rfl) (List.mem_singleton.2 h9.1))).trans (hs_487.trans ((F_476.1 P (ni hprP (fun P => P) (fun P => [24]) rfl) 1).trans ((F_324.1 P (ni hprP (fun P => P) (fun P => [24]) rfl) 1).trans ((sv_n _ (fun h9 => (ni hprP (fun P => P) (fun P => [23]) rfl) (List.mem_singleton.2 h9.1))).trans (F_11.1 P (ni hprP (fun P => P) (fun P => [26]) rfl) 1))))))))
      have e_542 : μ510.1 (P + 2) 3 = μ.1 (P + 2) 3 := ((F_511.1 (P + 2) (ni hprP (fun P => P + 2) (fun P => [26, 23, 25, 24]) rfl) 3).trans ((sv_n _ (fun h9 => (ni hprP (fun P => P + 2) (fun P => [23]) rfl) (List.mem_singleton.2 h9.1))).trans ((sv_n _ (fun h9 => (ni hprP (fun P => P + 2) (fun P => [23]) rfl) (List.mem_singleton.2 h9.1))).trans ((F_483.1 (P + 2) (ni hprP (fun P => P + 2) (fun P => [P + 6, P + 7, P]) rfl) 3).trans ((F_476.1 (P + 2) (ni hprP (fun P => P + 2) (fun P => [24]) rfl) 3).trans ((F_324.1 (P + 2) (ni hprP (fun P => P + 2) (fun P => [24]) rfl) 3).trans ((sv_n _ (fun h9 => (ni hprP (fun P => P + 2) (fun P => [23]) rfl) (List.mem_singleton.2 h9.1))).trans (F_11.1 (P + 2) (ni hprP (fun P => P + 2) (fun P => [26]) rfl) 3))))))))
      have e_543 : μ510.1 P 1 = μ.1 P 1 := ((F_511.1 P (ni hprP (fun P => P) (fun P => [26, 23, 25, 24]) rfl) 1).trans ((sv_n _ (fun h9 => (ni hprP (fun P => P) (fun P => [23]) rfl) (List.mem_singleton.2 h9.1))).trans ((sv_n _ (fun h9 => (ni hprP (fun P => P) (fun P => [23]) rfl) (List.mem_singleton.2 h9.1))).trans (hs_487.trans ((F_476.1 P (ni hprP (fun P => P) (fun P => [24]) rfl) 1).trans ((F_324.1 P (ni hprP (fun P => P) (fun P => [24]) rfl) 1).trans ((sv_n _ (fun h9 => (ni hprP (fun P => P) (fun P => [23]) rfl) (List.mem_singleton.2 h9.1))).trans (F_11.1 P (ni hprP (fun P => P) (fun P => [26]) rfl) 1))))))))
      have e_544 : μ510.1 (P + 2) 3 = μ.1 (P + 2) 3 := ((F_511.1 (P + 2) (ni hprP (fun P => P + 2) (fun P => [26, 23, 25, 24]) rfl) 3).trans ((sv_n _ (fun h9 => (ni hprP (fun P => P + 2) (fun P => [23]) rfl) (List.mem_singleton.2 h9.1))).trans ((sv_n _ (fun h9 => (ni hprP (fun P => P + 2) (fun P => [23]) rfl) (List.mem_singleton.2 h9.1))).trans ((F_483.1 (P + 2) (ni hprP (fun P => P + 2) (fun P => [P + 6, P + 7, P]) rfl) 3).trans ((F_476.1 (P + 2) (ni hprP (fun P => P + 2) (fun P => [24]) rfl) 3).trans ((F_324.1 (P + 2) (ni hprP (fun P => P + 2) (fun P => [24]) rfl) 3).trans ((sv_n _ (fun h9 => (ni hprP (fun P => P + 2) (fun P => [23]) rfl) (List.mem_singleton.2 h9.1))).trans (F_11.1 (P + 2) (ni hprP (fun P => P + 2) (fun P => [26]) rfl) 3))))))))
      have e_545 : μ510.1 23 9 = μ.1 23 9 := (hs_517.trans ((sv_n _ (by decide)).trans ((sv_n _ (by decide)).trans ((F_483.1 23 (ni hprP (fun P => 23) (fun P => [P + 6, P + 7, P]) rfl) 9).trans ((F_476.1 23 (by decide) 9).trans ((F_324.1 23 (by decide) 9).trans ((sv_n _ (by decide)).trans (F_11.1 23 (by decide) 9))))))))
      have e_546 : μ510.1 23 2 = P := (hs_522.trans ((sv_n _ (by decide)).trans ((sv_n _ (by decide)).trans ((F_483.1 23 (ni hprP (fun P => 23) (fun P => [P + 6, P + 7, P]) rfl) 2).trans ((F_476.1 23 (by decide) 2).trans ((F_324.1 23 (by decide) 2).trans ((sv_n _ (by decide)).trans ((F_11.1 23 (by decide) 2).trans hP.symm))))))))
      have e_547 : μ510.1 23 7 = (μ.1 23 7) + 1 := (hs_523.trans ((sv_n _ (by decide)).trans ((sv_n _ (by decide)).trans ((F_483.1 23 (ni hprP (fun P => 23) (fun P => [P + 6, P + 7, P]) rfl) 7).trans ((F_476.1 23 (by decide) 7).trans ((F_324.1 23 (by decide) 7).trans (sv_s _ _ _ _)))))))
      have e_548 : μ510.1 23 8 = tt := (hs_524.trans ((sv_n _ (by decide)).trans ((sv_n _ (by decide)).trans ((F_483.1 23 (ni hprP (fun P => 23) (fun P => [P + 6, P + 7, P]) rfl) 8).trans ((F_476.1 23 (by decide) 8).trans ((F_324.1 23 (by decide) 8).trans ((sv_n _ (by decide)).trans ((F_11.1 23 (by decide) 8).trans htt.symm))))))))
      have e_549 : μ510.1 23 9 = μ.1 23 9 := (hs_517.trans ((sv_n _ (by decide)).trans ((sv_n _ (by decide)).trans ((F_483.1 23 (ni hprP (fun P => 23) (fun P => [P + 6, P + 7, P]) rfl) 9).trans ((F_476.1 23 (by decide) 9).trans ((F_324.1 23 (by decide) 9).trans ((sv_n _ (by decide)).trans (F_11.1 23 (by decide) 9))))))))
      have e_550 : μ510.1 26 6 = μ.1 26 6 := (hs_518.trans ((sv_n _ (fun h9 => absurd h9.1 (by decide))).trans ((sv_n _ (fun h9 => absurd h9.1 (by decide))).trans ((F_483.1 26 (ni hprP (fun P => 26) (fun P => [P + 6, P + 7, P]) rfl) 6).trans ((F_476.1 26 (by decide) 6).trans ((F_324.1 26 (by decide) 6).trans ((sv_n _ (fun h9 => absurd h9.1 (by decide))).trans hs_16)))))))
      have e_551 : μ510.1 P 7 = μ482.1 P 7 := ((F_511.1 P (ni hprP (fun P => P) (fun P => [26, 23, 25, 24]) rfl) 7).trans ((sv_n _ (fun h9 => (ni hprP (fun P => P) (fun P => [23]) rfl) (List.mem_singleton.2 h9.1))).trans (sv_n _ (fun h9 => (ni hprP (fun P => P) (fun P => [23]) rfl) (List.mem_singleton.2 h9.1)))))
      refine xc_vV G (b := 23) (rest := []) (As := []) (c_X7_block_a ω l μ510 P tt hI_512 (by omega) (by omega) hp_513 (by omega) (by omega) (by omega) (by omega) hhc_531) (wm 3 218 rfl rfl) (wm 3 220 rfl rfl) (wm 0 19 rfl rfl) rfl rfl (by decide) rfl (wm 1 12 rfl rfl) (wm 3 221 rfl rfl) (by decide) hR (by decide) (n := 0) rfl rfl (Nat.le_of_ble_eq_true rfl) hl.1 dX7_function_103 (fun μ552 ρ d0 H locs hp G => ?_)
      obtain ⟨F_553, hI_554, hp_555, hp_556, hp_557, hp_558, hp_559, hp_560, hp_561, hs_562, hs_563, hs_564, hs_565, hs_566, hs_567⟩ := hp
      have hn_568 : -1 ≤ μ552.1 26 10 ∧ μ552.1 26 10 ≤ 3000 := hI_554.nm.2.2.2.2.2.2.2.2.2.2.2.2
      have hk_569 := hI_554.pr (p := P) hprP
      unfold pk at hk_569
      have hc_570 : 16 ≤ μ552.2.1 (P + 1) ∧ μ552.2.1 (P + 1) ≤ 73024 := hI_554.rm.1 _ hprP.cap
      have hk_571 := hI_554.row (r := P + 2) (hprP.row)
      unfold rk at hk_571
      have htb_572 := hp_555.b
      replace hp_560 := fun _ : Unit => hp_560
      have hXP_573 : ∀ _ : Unit, μ552.1 26 11 = 0 → PG μ552 P tt := fun _ h0 => ((htP_530 ()) (by have h9 : μ510.1 26 11 = μ510.1 26 11 := rfl; have h8 : μ552.1 26 11 = μ552.1 26 11 := rfl; omega)).ex ((hp_560 ()) h0) (by have h9 : μ510.1 23 9 = μ.1 23 9 := (hs_517.trans ((sv_n _ (by decide)).trans ((sv_n _ (by decide)).trans ((F_483.1 23 (ni hprP (fun P => 23) (fun P => [P + 6, P + 7, P]) rfl) 9).trans ((F_476.1 23 (by decide) 9).trans ((F_324.1 23 (by decide) 9).trans ((sv_n _ (by decide)).trans (F_11.1 23 (by decide) 9)))))))); omega) (by rw [show μ552.1 P 7 = μ482.1 P 7 from (hs_567.trans ((F_511.1 P (ni hprP (fun P => P) (fun P => [26, 23, 25, 24]) rfl) 7).trans ((sv_n _ (fun h9 => (ni hprP (fun P => P) (fun P => [23]) rfl) (List.mem_singleton.2 h9.1))).trans (sv_n _ (fun h9 => (ni hprP (fun P => P) (fun P => [23]) rfl) (List.mem_singleton.2 h9.1)))))), show μ510.1 P 7 = μ482.1 P 7 from ((F_511.1 P (ni hprP (fun P => P) (fun P => [26, 23, 25, 24]) rfl) 7).trans ((sv_n _ (fun h9 => (ni hprP (fun P => P) (fun P => [23]) rfl) (List.mem_singleton.2 h9.1))).trans (sv_n _ (fun h9 => (ni hprP (fun P => P) (fun P => [23]) rfl) (List.mem_singleton.2 h9.1)))))]) (fun j => F_553.1 (P + 7) (ni hprP (fun P => P + 7) (fun P => [2, 3, 4, 23, 24, 25, 26, P, P + 1, P + 2, (P + 2) + 1, (P + 2) + 2, (P + 2) + 3]) rfl) j)
      refine lv_aload_n hx hb dX7_function_106 rfl (lv_at hl 4 rfl) ?_
      refine lv_iconst (v := iv 3) hx hb dX7_function_107 rfl ?_
      refine lv_iconst (v := iv 0) hx hb dX7_function_108 rfl ?_
      refine lv_iconst (v := iv 0) hx hb dX7_function_109 rfl ?_
      have e_574 : μ552.1 23 2 = P := (hs_562.trans (hs_522.trans ((sv_n _ (by decide)).trans ((sv_n _ (by decide)).trans ((F_483.1 23 (ni hprP (fun P => 23) (fun P => [P + 6, P + 7, P]) rfl) 2).trans ((F_476.1 23 (by decide) 2).trans ((F_324.1 23 (by decide) 2).trans ((sv_n _ (by decide)).trans ((F_11.1 23 (by decide) 2).trans hP.symm)))))))))
      have e_575 : μ552.1 P 7 = μ482.1 P 7 := (hs_567.trans ((F_511.1 P (ni hprP (fun P => P) (fun P => [26, 23, 25, 24]) rfl) 7).trans ((sv_n _ (fun h9 => (ni hprP (fun P => P) (fun P => [23]) rfl) (List.mem_singleton.2 h9.1))).trans (sv_n _ (fun h9 => (ni hprP (fun P => P) (fun P => [23]) rfl) (List.mem_singleton.2 h9.1))))))
      refine xc_iV G (b := 23) (rest := []) (As := [.int (iv 3), .int (iv 0), .int (iv 0)]) (c_X7_add ω l μ552 3 0 0 P (by unfold ir; omega) (by unfold ir; omega) (by unfold ir; omega) hI_554 (by omega) (by omega)) (wm 3 226 rfl rfl) (wm 3 228 rfl rfl) (wm 0 21 rfl rfl) rfl rfl (by decide) rfl (wm 1 12 rfl rfl) (wm 3 229 rfl rfl) (by decide) hR (by decide) (n := 3) rfl rfl (Nat.le_of_ble_eq_true rfl) hl.1 dX7_function_110 (fun r_577 μ576 ρ d0 H locs hr_r_577 hp G => ?_)
      have hr_r_577 : -2147483648 ≤ r_577 ∧ r_577 ≤ 2147483647 := hr_r_577
      obtain ⟨F_578, hI_579, hp_580, hp_581, hs_582, hs_583⟩ := hp
      refine lv_pop hx hb dX7_function_113 rfl ?_
      refine lv_aload_n hx hb dX7_function_114 rfl (lv_at hl 4 rfl) ?_
      refine lv_bipush (v := iv 21) hx hb dX7_function_115 rfl ?_
      refine lv_iconst (v := iv 0) hx hb dX7_function_117 rfl ?_
      refine lv_iconst (v := iv 0) hx hb dX7_function_118 rfl ?_
      have e_584 : μ576.1 23 2 = P := ((F_578.1 23 (ni hprP (fun P => 23) (fun P => [P, P + 1]) rfl) 2).trans (hs_562.trans (hs_522.trans ((sv_n _ (by decide)).trans ((sv_n _ (by decide)).trans ((F_483.1 23 (ni hprP (fun P => 23) (fun P => [P + 6, P + 7, P]) rfl) 2).trans ((F_476.1 23 (by decide) 2).trans ((F_324.1 23 (by decide) 2).trans ((sv_n _ (by decide)).trans ((F_11.1 23 (by decide) 2).trans hP.symm))))))))))
      have e_585 : μ576.1 P 1 = μ552.1 P 1 + 1 := hs_582
      have e_586 : μ576.1 P 1 = μ552.1 P 1 + 1 := hs_582
      have e_587 : μ576.1 P 1 = μ552.1 P 1 + 1 := hs_582
      have e_588 : μ576.1 P 7 = μ482.1 P 7 := (hs_583.trans (hs_567.trans ((F_511.1 P (ni hprP (fun P => P) (fun P => [26, 23, 25, 24]) rfl) 7).trans ((sv_n _ (fun h9 => (ni hprP (fun P => P) (fun P => [23]) rfl) (List.mem_singleton.2 h9.1))).trans (sv_n _ (fun h9 => (ni hprP (fun P => P) (fun P => [23]) rfl) (List.mem_singleton.2 h9.1)))))))
      refine xc_iV G (b := 23) (rest := []) (As := [.int (iv 21), .int (iv 0), .int (iv 0)]) (c_X7_add ω l μ576 21 0 0 P (by unfold ir; omega) (by unfold ir; omega) (by unfold ir; omega) hI_579 (by omega) (by omega)) (wm 3 226 rfl rfl) (wm 3 228 rfl rfl) (wm 0 21 rfl rfl) rfl rfl (by decide) rfl (wm 1 12 rfl rfl) (wm 3 229 rfl rfl) (by decide) hR (by decide) (n := 3) rfl rfl (Nat.le_of_ble_eq_true rfl) hl.1 dX7_function_119 (fun r_590 μ589 ρ d0 H locs hr_r_590 hp G => ?_)
      have hr_r_590 : -2147483648 ≤ r_590 ∧ r_590 ≤ 2147483647 := hr_r_590
      obtain ⟨F_591, hI_592, hp_593, hp_594, hs_595, hs_596⟩ := hp
      have hX_597 : ∀ _ : Unit, μ589.1 26 11 = 0 → PG μ589 P tt := by
        intro _ h0
        have hp := (hXP_573 ()) (by have h9 : μ552.1 26 11 = μ552.1 26 11 := rfl; have h8 : μ589.1 26 11 = μ552.1 26 11 := ((F_591.1 26 (ni hprP (fun P => 26) (fun P => [P, P + 1]) rfl) 11).trans (F_578.1 26 (ni hprP (fun P => 26) (fun P => [P, P + 1]) rfl) 11)); omega)
        have hh := hp.hc
        have e1 := EX.pl (t := tt) hp_581 hh.1 (by unfold plain; omega) (e := 1) rfl (by rw [hh.2.1]; decide)
        have hh2 := e1.h
        rw [hh.2.1] at hh2
        have e2 := EX.pl (t := tt) hp_594 (by have := e1.1.1; have := hh.1; omega) (by unfold plain; omega) (e := -1) rfl (by omega)
        exact hp.ex ((e1.tr e2).e rfl) (by decide) (by rw [show μ589.1 P 7 = μ482.1 P 7 from (hs_596.trans (hs_583.trans (hs_567.trans ((F_511.1 P (ni hprP (fun P => P) (fun P => [26, 23, 25, 24]) rfl) 7).trans ((sv_n _ (fun h9 => (ni hprP (fun P => P) (fun P => [23]) rfl) (List.mem_singleton.2 h9.1))).trans (sv_n _ (fun h9 => (ni hprP (fun P => P) (fun P => [23]) rfl) (List.mem_singleton.2 h9.1)))))))), show μ552.1 P 7 = μ482.1 P 7 from (hs_567.trans ((F_511.1 P (ni hprP (fun P => P) (fun P => [26, 23, 25, 24]) rfl) 7).trans ((sv_n _ (fun h9 => (ni hprP (fun P => P) (fun P => [23]) rfl) (List.mem_singleton.2 h9.1))).trans (sv_n _ (fun h9 => (ni hprP (fun P => P) (fun P => [23]) rfl) (List.mem_singleton.2 h9.1))))))]) (fun j => ((show Fr [P, P + 1] μ552 μ589 from (Fr.tr (Fr.tr Fr.rf F_578 (si hprP (fun P => [P, P + 1]) (fun P => [P, P + 1]) rfl)) F_591 (si hprP (fun P => [P, P + 1]) (fun P => [P, P + 1]) rfl)))).1 (P + 7) (ni hprP (fun P => P + 7) (fun P => [P, P + 1]) rfl) j)
      refine lv_pop hx hb dX7_function_122 rfl ?_
      refine lv_aload_n hx hb dX7_function_123 rfl (lv_at hl 4 rfl) ?_
      refine xa_getr G fd_X7 (a := 23) (x := P) 2 rfl (by decide) rfl (wm 2 19 rfl rfl) ⟨rfl, rfl, rfl⟩ dX7_function_124 rfl ((F_591.1 23 (ni hprP (fun P => 23) (fun P => [P, P + 1]) rfl) 2).trans ((F_578.1 23 (ni hprP (fun P => 23) (fun P => [P, P + 1]) rfl) 2).trans (hs_562.trans (hs_522.trans ((sv_n _ (by decide)).trans ((sv_n _ (by decide)).trans ((F_483.1 23 (ni hprP (fun P => 23) (fun P => [P + 6, P + 7, P]) rfl) 2).trans ((F_476.1 23 (by decide) 2).trans ((F_324.1 23 (by decide) 2).trans ((sv_n _ (by decide)).trans ((F_11.1 23 (by decide) 2).trans hP.symm))))))))))) (by omega) (hprP.hq ω ρ) ?_
      refine lv_iload hx hb dX7_function_127 (lv_at hl 1 rfl) ?_
      refine lv_iload hx hb dX7_function_129 (lv_at hl 0 rfl) ?_
      have hn_598 : 0 ≤ μ552.1 23 5 ∧ μ552.1 23 5 ≤ 1000 := hI_554.nm.2.2.2.2.2.2.2.2.1
      refine lv_aload_n hx hb dX7_function_131 rfl (lv_at hl 4 rfl) ?_
      refine xa_geti G fd_X7 (a := 23) (x := μ552.1 23 5) 5 rfl (by decide) rfl (wm 2 22 rfl rfl) ⟨rfl, rfl, rfl⟩ dX7_function_132 rfl ((F_591.1 23 (ni hprP (fun P => 23) (fun P => [P, P + 1]) rfl) 5).trans (F_578.1 23 (ni hprP (fun P => 23) (fun P => [P, P + 1]) rfl) 5)) ?_
      have hr_599 : -2147483648 ≤ μ552.1 23 5 ∧ μ552.1 23 5 ≤ 2147483647 := by have h9 := G.hr (a := 23) (k := 5) rfl; rw [show μ589.1 23 5 = μ552.1 23 5 from ((F_591.1 23 (ni hprP (fun P => 23) (fun P => [P, P + 1]) rfl) 5).trans (F_578.1 23 (ni hprP (fun P => 23) (fun P => [P, P + 1]) rfl) 5))] at h9; exact h9
      have hvr_600 : vrk μ589 := vrk.fP (P := P) (L := fun P => [P, P + 1, 2, 3, 4, 23, 24, 25, 26, P + 2, (P + 2) + 1, (P + 2) + 2, (P + 2) + 3, P + 6, P + 7]) hprP rfl (Fr.tr (Fr.tr (Fr.tr (Fr.tr (Fr.put (Fr.put (Fr.tr (Fr.tr (Fr.tr (Fr.put (Fr.tr Fr.rf F_11 (si hprP (fun P => [26]) (fun P => [P, P + 1, 2, 3, 4, 23, 24, 25, 26, P + 2, (P + 2) + 1, (P + 2) + 2, (P + 2) + 3, P + 6, P + 7]) rfl)) (si hprP (fun P => [23]) (fun P => [P, P + 1, 2, 3, 4, 23, 24, 25, 26, P + 2, (P + 2) + 1, (P + 2) + 2, (P + 2) + 3, P + 6, P + 7]) rfl 23 (List.mem_singleton.2 rfl))) F_324 (si hprP (fun P => [24]) (fun P => [P, P + 1, 2, 3, 4, 23, 24, 25, 26, P + 2, (P + 2) + 1, (P + 2) + 2, (P + 2) + 3, P + 6, P + 7]) rfl)) F_476 (si hprP (fun P => [24]) (fun P => [P, P + 1, 2, 3, 4, 23, 24, 25, 26, P + 2, (P + 2) + 1, (P + 2) + 2, (P + 2) + 3, P + 6, P + 7]) rfl)) F_483 (si hprP (fun P => [P + 6, P + 7, P]) (fun P => [P, P + 1, 2, 3, 4, 23, 24, 25, 26, P + 2, (P + 2) + 1, (P + 2) + 2, (P + 2) + 3, P + 6, P + 7]) rfl)) (si hprP (fun P => [23]) (fun P => [P, P + 1, 2, 3, 4, 23, 24, 25, 26, P + 2, (P + 2) + 1, (P + 2) + 2, (P + 2) + 3, P + 6, P + 7]) rfl 23 (List.mem_singleton.2 rfl))) (si hprP (fun P => [23]) (fun P => [P, P + 1, 2, 3, 4, 23, 24, 25, 26, P + 2, (P + 2) + 1, (P + 2) + 2, (P + 2) + 3, P + 6, P + 7]) rfl 23 (List.mem_singleton.2 rfl))) F_511 (si hprP (fun P => [26, 23, 25, 24]) (fun P => [P, P + 1, 2, 3, 4, 23, 24, 25, 26, P + 2, (P + 2) + 1, (P + 2) + 2, (P + 2) + 3, P + 6, P + 7]) rfl)) F_553 (si hprP (fun P => [2, 3, 4, 23, 24, 25, 26, P, P + 1, P + 2, (P + 2) + 1, (P + 2) + 2, (P + 2) + 3]) (fun P => [P, P + 1, 2, 3, 4, 23, 24, 25, 26, P + 2, (P + 2) + 1, (P + 2) + 2, (P + 2) + 3, P + 6, P + 7]) rfl)) F_578 (si hprP (fun P => [P, P + 1]) (fun P => [P, P + 1, 2, 3, 4, 23, 24, 25, 26, P + 2, (P + 2) + 1, (P + 2) + 2, (P + 2) + 3, P + 6, P + 7]) rfl)) F_591 (si hprP (fun P => [P, P + 1]) (fun P => [P, P + 1, 2, 3, 4, 23, 24, 25, 26, P + 2, (P + 2) + 1, (P + 2) + 2, (P + 2) + 3, P + 6, P + 7]) rfl)) hv9
      have e_601 : μ589.1 P 1 = μ576.1 P 1 + 1 := hs_595
      have e_602 : μ589.1 P 7 = μ482.1 P 7 := (hs_596.trans (hs_583.trans (hs_567.trans ((F_511.1 P (ni hprP (fun P => P) (fun P => [26, 23, 25, 24]) rfl) 7).trans ((sv_n _ (fun h9 => (ni hprP (fun P => P) (fun P => [23]) rfl) (List.mem_singleton.2 h9.1))).trans (sv_n _ (fun h9 => (ni hprP (fun P => P) (fun P => [23]) rfl) (List.mem_singleton.2 h9.1))))))))
      refine xc_vV G (b := P) (rest := []) (As := [.int (iv (r_492 - 1)), .int (iv (μ510.1 23 6)), .int (iv (μ552.1 23 5))]) (c_X8_setCounts_b ω l μ589 P (r_492 - 1) (μ510.1 23 6) (μ552.1 23 5) hprP (by unfold ir; omega) (by unfold ir; omega) (by unfold ir; omega) hI_592 hvr_600 (by omega) (by omega)) (wm 4 187 rfl rfl) (wm 4 188 rfl rfl) (wm 4 189 rfl rfl) hprP.ly rfl (by decide) (hprP.hq ω ρ) (wm 1 9 rfl rfl) (wm 4 190 rfl rfl) (by decide) hR (by decide) (n := 3) rfl rfl (Nat.le_of_ble_eq_true rfl) hl.1 dX7_function_135 (fun μ603 ρ d0 H locs hp G => ?_)
      obtain ⟨F_604, hI_605, hp_606, hs_607, hs_608⟩ := hp
      clear hk_1 hc_2 hk_488 hc_489 hk_535 hk_569 hc_570 hk_571
      have e_609 : μ603.1 26 11 = μ552.1 26 11 := ((F_604.1 26 (ni hprP (fun P => 26) (fun P => [P + 8, P + 9]) rfl) 11).trans ((F_591.1 26 (ni hprP (fun P => 26) (fun P => [P, P + 1]) rfl) 11).trans (F_578.1 26 (ni hprP (fun P => 26) (fun P => [P, P + 1]) rfl) 11)))
      have htP_610 : ∀ _ : Unit, μ603.1 26 11 = 0 → PG μ603 P tt := fun _ h0 => PG.fr (K := [P + 8, P + 9]) (hX_597 () (by have h9 : μ589.1 26 11 = μ552.1 26 11 := ((F_591.1 26 (ni hprP (fun P => 26) (fun P => [P, P + 1]) rfl) 11).trans (F_578.1 26 (ni hprP (fun P => 26) (fun P => [P, P + 1]) rfl) 11)); have h8 : μ603.1 26 11 = μ552.1 26 11 := ((F_604.1 26 (ni hprP (fun P => 26) (fun P => [P + 8, P + 9]) rfl) 11).trans ((F_591.1 26 (ni hprP (fun P => 26) (fun P => [P, P + 1]) rfl) 11).trans (F_578.1 26 (ni hprP (fun P => 26) (fun P => [P, P + 1]) rfl) 11))); omega)) (Fr.tr Fr.rf F_604 (si hprP (fun P => [P + 8, P + 9]) (fun P => [P + 8, P + 9]) rfl)) (ni hprP (fun P => P) (fun P => [P + 8, P + 9]) rfl) (ni hprP (fun P => P + 1) (fun P => [P + 8, P + 9]) rfl) (ni hprP (fun P => P + 7) (fun P => [P + 8, P + 9]) rfl)
      have htk_611 : TK μ603 := hp_555.fr (K := [P + 8, P + 9, P, P + 1]) (Fr.tr (Fr.tr (Fr.tr Fr.rf F_578 (si hprP (fun P => [P, P + 1]) (fun P => [P + 8, P + 9, P, P + 1]) rfl)) F_591 (si hprP (fun P => [P, P + 1]) (fun P => [P + 8, P + 9, P, P + 1]) rfl)) F_604 (si hprP (fun P => [P + 8, P + 9]) (fun P => [P + 8, P + 9, P, P + 1]) rfl)) (ni hprP (fun P => 26) (fun P => [P + 8, P + 9, P, P + 1]) rfl) (ni hprP (fun P => 28) (fun P => [P + 8, P + 9, P, P + 1]) rfl) (ni hprP (fun P => 29) (fun P => [P + 8, P + 9, P, P + 1]) rfl)
      have e_612 : μ603.1 26 11 = μ552.1 26 11 := ((F_604.1 26 (ni hprP (fun P => 26) (fun P => [P + 8, P + 9]) rfl) 11).trans ((F_591.1 26 (ni hprP (fun P => 26) (fun P => [P, P + 1]) rfl) 11).trans (F_578.1 26 (ni hprP (fun P => 26) (fun P => [P, P + 1]) rfl) 11)))
      have e_613 : μ603.1 26 10 = μ552.1 26 10 := ((F_604.1 26 (ni hprP (fun P => 26) (fun P => [P + 8, P + 9]) rfl) 10).trans ((F_591.1 26 (ni hprP (fun P => 26) (fun P => [P, P + 1]) rfl) 10).trans (F_578.1 26 (ni hprP (fun P => 26) (fun P => [P, P + 1]) rfl) 10)))
      have e_614 : μ603.1 P 1 = μ576.1 P 1 + 1 := (hs_607.trans hs_595)
      have e_615 : μ603.1 26 10 = μ552.1 26 10 := ((F_604.1 26 (ni hprP (fun P => 26) (fun P => [P + 8, P + 9]) rfl) 10).trans ((F_591.1 26 (ni hprP (fun P => 26) (fun P => [P, P + 1]) rfl) 10).trans (F_578.1 26 (ni hprP (fun P => 26) (fun P => [P, P + 1]) rfl) 10)))
      have e_616 : μ603.1 26 11 = μ552.1 26 11 := ((F_604.1 26 (ni hprP (fun P => 26) (fun P => [P + 8, P + 9]) rfl) 11).trans ((F_591.1 26 (ni hprP (fun P => 26) (fun P => [P, P + 1]) rfl) 11).trans (F_578.1 26 (ni hprP (fun P => 26) (fun P => [P, P + 1]) rfl) 11)))
      have e_617 : μ603.1 (P + 2) 3 = μ552.1 (P + 2) 3 := ((F_604.1 (P + 2) (ni hprP (fun P => P + 2) (fun P => [P + 8, P + 9]) rfl) 3).trans ((F_591.1 (P + 2) (ni hprP (fun P => P + 2) (fun P => [P, P + 1]) rfl) 3).trans (F_578.1 (P + 2) (ni hprP (fun P => P + 2) (fun P => [P, P + 1]) rfl) 3)))
      have e_618 : μ603.1 P 1 = μ576.1 P 1 + 1 := (hs_607.trans hs_595)
      have e_619 : μ603.1 23 7 = (μ.1 23 7) + 1 := ((F_604.1 23 (ni hprP (fun P => 23) (fun P => [P + 8, P + 9]) rfl) 7).trans ((F_591.1 23 (ni hprP (fun P => 23) (fun P => [P, P + 1]) rfl) 7).trans ((F_578.1 23 (ni hprP (fun P => 23) (fun P => [P, P + 1]) rfl) 7).trans (hs_563.trans (hs_523.trans ((sv_n _ (by decide)).trans ((sv_n _ (by decide)).trans ((F_483.1 23 (ni hprP (fun P => 23) (fun P => [P + 6, P + 7, P]) rfl) 7).trans ((F_476.1 23 (by decide) 7).trans ((F_324.1 23 (by decide) 7).trans (sv_s _ _ _ _)))))))))))
      have e_620 : μ603.1 23 9 = μ.1 23 9 := ((F_604.1 23 (ni hprP (fun P => 23) (fun P => [P + 8, P + 9]) rfl) 9).trans ((F_591.1 23 (ni hprP (fun P => 23) (fun P => [P, P + 1]) rfl) 9).trans ((F_578.1 23 (ni hprP (fun P => 23) (fun P => [P, P + 1]) rfl) 9).trans (hs_565.trans (hs_517.trans ((sv_n _ (by decide)).trans ((sv_n _ (by decide)).trans ((F_483.1 23 (ni hprP (fun P => 23) (fun P => [P + 6, P + 7, P]) rfl) 9).trans ((F_476.1 23 (by decide) 9).trans ((F_324.1 23 (by decide) 9).trans ((sv_n _ (by decide)).trans (F_11.1 23 (by decide) 9))))))))))))
      have e_621 : μ603.1 23 2 = P := ((F_604.1 23 (ni hprP (fun P => 23) (fun P => [P + 8, P + 9]) rfl) 2).trans ((F_591.1 23 (ni hprP (fun P => 23) (fun P => [P, P + 1]) rfl) 2).trans ((F_578.1 23 (ni hprP (fun P => 23) (fun P => [P, P + 1]) rfl) 2).trans (hs_562.trans (hs_522.trans ((sv_n _ (by decide)).trans ((sv_n _ (by decide)).trans ((F_483.1 23 (ni hprP (fun P => 23) (fun P => [P + 6, P + 7, P]) rfl) 2).trans ((F_476.1 23 (by decide) 2).trans ((F_324.1 23 (by decide) 2).trans ((sv_n _ (by decide)).trans ((F_11.1 23 (by decide) 2).trans hP.symm))))))))))))
      have e_622 : μ603.1 23 8 = tt := ((F_604.1 23 (ni hprP (fun P => 23) (fun P => [P + 8, P + 9]) rfl) 8).trans ((F_591.1 23 (ni hprP (fun P => 23) (fun P => [P, P + 1]) rfl) 8).trans ((F_578.1 23 (ni hprP (fun P => 23) (fun P => [P, P + 1]) rfl) 8).trans (hs_564.trans (hs_524.trans ((sv_n _ (by decide)).trans ((sv_n _ (by decide)).trans ((F_483.1 23 (ni hprP (fun P => 23) (fun P => [P + 6, P + 7, P]) rfl) 8).trans ((F_476.1 23 (by decide) 8).trans ((F_324.1 23 (by decide) 8).trans ((sv_n _ (by decide)).trans ((F_11.1 23 (by decide) 8).trans htt.symm))))))))))))
      exact xr_v G hret hlk dX7_function_138 ⟨(Fr.tr (Fr.tr (Fr.tr (Fr.tr (Fr.tr (Fr.put (Fr.put (Fr.tr (Fr.tr (Fr.tr (Fr.put (Fr.tr Fr.rf F_11 (si hprP (fun P => [26]) (fun P => [2, 3, 4, 23, 24, 25, 26, P, P + 1, P + 2, (P + 2) + 1, (P + 2) + 2, (P + 2) + 3, P + 6, P + 7, P + 8, P + 9]) rfl)) (si hprP (fun P => [23]) (fun P => [2, 3, 4, 23, 24, 25, 26, P, P + 1, P + 2, (P + 2) + 1, (P + 2) + 2, (P + 2) + 3, P + 6, P + 7, P + 8, P + 9]) rfl 23 (List.mem_singleton.2 rfl))) F_324 (si hprP (fun P => [24]) (fun P => [2, 3, 4, 23, 24, 25, 26, P, P + 1, P + 2, (P + 2) + 1, (P + 2) + 2, (P + 2) + 3, P + 6, P + 7, P + 8, P + 9]) rfl)) F_476 (si hprP (fun P => [24]) (fun P => [2, 3, 4, 23, 24, 25, 26, P, P + 1, P + 2, (P + 2) + 1, (P + 2) + 2, (P + 2) + 3, P + 6, P + 7, P + 8, P + 9]) rfl)) F_483 (si hprP (fun P => [P + 6, P + 7, P]) (fun P => [2, 3, 4, 23, 24, 25, 26, P, P + 1, P + 2, (P + 2) + 1, (P + 2) + 2, (P + 2) + 3, P + 6, P + 7, P + 8, P + 9]) rfl)) (si hprP (fun P => [23]) (fun P => [2, 3, 4, 23, 24, 25, 26, P, P + 1, P + 2, (P + 2) + 1, (P + 2) + 2, (P + 2) + 3, P + 6, P + 7, P + 8, P + 9]) rfl 23 (List.mem_singleton.2 rfl))) (si hprP (fun P => [23]) (fun P => [2, 3, 4, 23, 24, 25, 26, P, P + 1, P + 2, (P + 2) + 1, (P + 2) + 2, (P + 2) + 3, P + 6, P + 7, P + 8, P + 9]) rfl 23 (List.mem_singleton.2 rfl))) F_511 (si hprP (fun P => [26, 23, 25, 24]) (fun P => [2, 3, 4, 23, 24, 25, 26, P, P + 1, P + 2, (P + 2) + 1, (P + 2) + 2, (P + 2) + 3, P + 6, P + 7, P + 8, P + 9]) rfl)) F_553 (si hprP (fun P => [2, 3, 4, 23, 24, 25, 26, P, P + 1, P + 2, (P + 2) + 1, (P + 2) + 2, (P + 2) + 3]) (fun P => [2, 3, 4, 23, 24, 25, 26, P, P + 1, P + 2, (P + 2) + 1, (P + 2) + 2, (P + 2) + 3, P + 6, P + 7, P + 8, P + 9]) rfl)) F_578 (si hprP (fun P => [P, P + 1]) (fun P => [2, 3, 4, 23, 24, 25, 26, P, P + 1, P + 2, (P + 2) + 1, (P + 2) + 2, (P + 2) + 3, P + 6, P + 7, P + 8, P + 9]) rfl)) F_591 (si hprP (fun P => [P, P + 1]) (fun P => [2, 3, 4, 23, 24, 25, 26, P, P + 1, P + 2, (P + 2) + 1, (P + 2) + 2, (P + 2) + 3, P + 6, P + 7, P + 8, P + 9]) rfl)) F_604 (si hprP (fun P => [P + 8, P + 9]) (fun P => [2, 3, 4, 23, 24, 25, 26, P, P + 1, P + 2, (P + 2) + 1, (P + 2) + 2, (P + 2) + 3, P + 6, P + 7, P + 8, P + 9]) rfl)), hI_605, htk_611, (by omega), (by omega), (by omega), (by omega), (by omega), hp_606, (fun _ => (htP_610 ())), (by omega), (by omega)⟩

set_option maxHeartbeats 4000000 in
set_option maxRecDepth 100000 in
theorem c_X8_clear_b (ω : Om) (l : Launch) (μ : M3) (pq : Int) (hpr : isPr pq) (hI : IC μ) : CtV ω l yX8_clear cX8_clear 1 3 125 [.ref (oP ω pq)] μ (fun (μ' : M3) => (Fr [pq, pq + 2, (pq + 2) + 1, (pq + 2) + 2, (pq + 2) + 3] μ μ') ∧ (IC μ') ∧ (μ'.1 pq 1 = 0) ∧ (μ'.1 pq 7 = 0) ∧ (μ'.1 (pq + 2) 3 = 0)) := by
  refine CtV.go (by decide) (Nat.le_of_ble_eq_true rfl) (fun ρ p e s m below meth c R ls G hR hret hlk hl => ?_)
  have hx := G.1.1
  have hb := G.1.2.1
  have hl : lv_has ls 1 [(0, .ref (oP ω pq))] := hl
  generalize s.drawn = d0 at G ⊢
  have hpr_d : pq = 13 ∨ pq = 71 ∨ pq = 81 ∨ pq = 91 ∨ pq = 101 := hpr
  have hk_1 := hI.pr (p := pq) hpr
  unfold pk at hk_1
  have hc_2 : 16 ≤ μ.2.1 (pq + 1) ∧ μ.2.1 (pq + 1) ≤ 73024 := hI.rm.1 _ hpr.cap
  have hbr9 := hpr.br
  refine lv_aload_n hx hb dX8_clear_0 rfl (lv_at hl 0 rfl) ?_
  refine lv_iconst (v := iv 0) hx hb dX8_clear_1 rfl ?_
  refine xa_puti G fd_X8 (a := pq) (x := 0) 1 (kz := 1) rfl hpr.ly (by decide) rfl (by unfold ir; omega) (wm 1 165 rfl rfl) ⟨rfl, rfl, rfl, rfl⟩ rfl dX8_clear_2 (hpr.hq ω ρ) (fun H locs G => ?_)
  refine lv_aload_n hx hb dX8_clear_5 rfl (lv_at hl 0 rfl) ?_
  refine lv_iconst (v := iv 0) hx hb dX8_clear_6 rfl ?_
  refine xa_puti G fd_X8 (a := pq) (x := 0) 7 (kz := 7) rfl hpr.ly (by decide) rfl (by unfold ir; omega) (wm 1 171 rfl rfl) ⟨rfl, rfl, rfl, rfl⟩ rfl dX8_clear_7 (hpr.hq ω ρ) (fun H locs G => ?_)
  refine lv_aload_n hx hb dX8_clear_10 rfl (lv_at hl 0 rfl) ?_
  refine xa_getr G fd_X8 (a := pq) (x := pq + 2) 2 hpr.ly (by decide) rfl (wm 1 166 rfl rfl) ⟨rfl, rfl, rfl⟩ dX8_clear_11 (hpr.hq ω ρ) (G.sr hpr.s2) (by omega) ((hpr.row).hq ω ρ) ?_
  refine lv_iconst (v := iv 0) hx hb dX8_clear_14 rfl ?_
  have hI_3 : IC (sv (sv μ pq 1 0) pq 7 0) := (IC.pf (IC.pl hI hpr (by have h9 : μ.2.1 (pq + 1) = μ.2.1 (pq + 1) := rfl; omega)) hpr (by omega))
  have hbr_4 : BR (pq + 2) = 9000 := hpr.br
  refine xc_vV G (b := pq + 2) (rest := []) (As := [.int (iv 0)]) (c_X9_resize ω l (sv (sv μ pq 1 0) pq 7 0) (pq + 2) 0 (hpr.row) (by unfold ir; omega) hI_3 (by omega)) (wm 3 14 rfl rfl) (wm 3 15 rfl rfl) (wm 3 16 rfl rfl) (hpr.row).ly rfl (by decide) ((hpr.row).hq ω ρ) (wm 1 10 rfl rfl) (wm 3 17 rfl rfl) (by decide) hR (by decide) (n := 1) rfl rfl (Nat.le_of_ble_eq_true rfl) hl.1 dX8_clear_15 (fun μ5 ρ d0 H locs hp G => ?_)
  obtain ⟨F_6, hI_7, hs_8⟩ := hp
  have e_9 : μ5.1 pq 1 = 0 := ((F_6.1 pq (by simp <;> omega) 1).trans ((sv_n _ (fun h9 => absurd h9.2 (by decide))).trans (sv_s _ _ _ _)))
  have e_10 : μ5.1 pq 7 = 0 := ((F_6.1 pq (by simp <;> omega) 7).trans (sv_s _ _ _ _))
  have e_11 : μ5.1 (pq + 2) 3 = max 0 0 := hs_8
  exact xr_v G hret hlk dX8_clear_18 ⟨(Fr.tr (Fr.put (Fr.put Fr.rf (by simp)) (by simp)) F_6 (by simp)), hI_7, (by omega), (by omega), (by omega)⟩

set_option maxHeartbeats 4000000 in
set_option maxRecDepth 100000 in
theorem c_X7_parse (ω : Om) (l : Launch) (μ : M3) (x1 : Int) (x2 : Int) (P : Int) (hx1 : ir x1) (hx2 : ir x2) (hprP : isPr P) (hI : IC μ) (h0n : 0 ≤ x2) (ht3 : 0 ≤ x1 ∧ x1 ≤ 3) (hv9 : vrk μ) : CtV ω l yX7_parse cX7_parse 5 252 7146 [.ref (oP ω 23), .int (iv x1), .int (iv x2), .ref (oP ω P)] μ (fun (μ' : M3) => (Fr [23, P, P + 2, (P + 2) + 1, (P + 2) + 2, (P + 2) + 3, 24, 26, 28, 29, 30, 31, 2, 25, 3, 4, P + 1, P + 6, P + 7, P + 8, P + 9] μ μ') ∧ (IC μ') ∧ (vrk μ') ∧ (0 ≤ μ'.1 24 1 ∨ PG μ' P x1) ∧ (μ'.1 P 1 ≤ 8000)) := by
  refine CtV.go (by decide) (Nat.le_of_ble_eq_true rfl) (fun ρ p e s m below meth c R ls G hR hret hlk hl => ?_)
  have hx := G.1.1
  have hb := G.1.2.1
  have hl : lv_has ls 5 [(0, .ref (oP ω 23)), (1, .int (iv x1)), (2, .int (iv x2)), (3, .ref (oP ω P))] := hl
  generalize s.drawn = d0 at G ⊢
  have hr_x1 : -2147483648 ≤ x1 ∧ x1 ≤ 2147483647 := hx1
  have hr_x2 : -2147483648 ≤ x2 ∧ x2 ≤ 2147483647 := hx2
  have hprP_d : P = 13 ∨ P = 71 ∨ P = 81 ∨ P = 91 ∨ P = 101 := hprP
  have hprP_d : 13 ≤ P ∧ P ≤ 101 := by rcases hprP with h9 | h9 | h9 | h9 | h9 <;> omega
  have hk_1 := hI.pr (p := P) hprP
  unfold pk at hk_1
  have hc_2 : 16 ≤ μ.2.1 (P + 1) ∧ μ.2.1 (P + 1) ≤ 73024 := hI.rm.1 _ hprP.cap
  refine lv_aload_n hx hb dX7_parse_0 rfl (lv_at hl 0 rfl) ?_
  refine lv_aload_n hx hb dX7_parse_1 rfl (lv_at hl 3 rfl) ?_
  refine xa_putr G fd_X7 (a := 23) (x := P) 2 (kz := 2) rfl rfl (by decide) rfl hprP (Or.inr (Or.inr ⟨rfl, rfl⟩)) (wm 2 19 rfl rfl) ⟨rfl, rfl, rfl, rfl⟩ rfl dX7_parse_2 rfl (hprP.hq ω ρ) (fun H locs G => ?_)
  refine lv_aload_n hx hb dX7_parse_5 rfl (lv_at hl 0 rfl) ?_
  refine xa_getr G fd_X7 (a := 23) (x := P) 2 rfl (by decide) rfl (wm 2 19 rfl rfl) ⟨rfl, rfl, rfl⟩ dX7_parse_6 rfl (sv_s _ _ _ _) (by omega) (hprP.hq ω ρ) ?_
  have hI_3 : IC (sv μ 23 2 P) := (IC.put hI (by decide +kernel))
  refine xc_vV G (b := P) (rest := []) (As := []) (c_X8_clear_b ω l (sv μ 23 2 P) P hprP hI_3) (wm 3 10 rfl rfl) (wm 3 11 rfl rfl) (wm 3 12 rfl rfl) hprP.ly rfl (by decide) (hprP.hq ω ρ) (wm 1 9 rfl rfl) (wm 3 13 rfl rfl) (by decide) hR (by decide) (n := 0) rfl rfl (Nat.le_of_ble_eq_true rfl) hl.1 dX7_parse_9 (fun μ4 ρ d0 H locs hp G => ?_)
  obtain ⟨F_5, hI_6, hs_7, hs_8, hp_9⟩ := hp
  have hk_10 := hI_6.row (r := P + 2) (hprP.row)
  unfold rk at hk_10
  refine lv_aload_n hx hb dX7_parse_12 rfl (lv_at hl 0 rfl) ?_
  refine lv_iload_n hx hb dX7_parse_13 rfl (lv_at hl 1 rfl) ?_
  refine xa_puti G fd_X7 (a := 23) (x := x1) 8 (kz := 8) rfl rfl (by decide) rfl (by unfold ir; omega) (wm 2 25 rfl rfl) ⟨rfl, rfl, rfl, rfl⟩ rfl dX7_parse_14 rfl (fun H locs G => ?_)
  refine lv_aload_n hx hb dX7_parse_17 rfl (lv_at hl 0 rfl) ?_
  refine lv_iconst (v := iv 0) hx hb dX7_parse_18 rfl ?_
  refine xa_puti G fd_X7 (a := 23) (x := 0) 9 (kz := 9) rfl rfl (by decide) rfl (by unfold ir; omega) (wm 2 26 rfl rfl) ⟨rfl, rfl, rfl, rfl⟩ rfl dX7_parse_19 rfl (fun H locs G => ?_)
  refine lv_aload_n hx hb dX7_parse_22 rfl (lv_at hl 0 rfl) ?_
  refine lv_iconst (v := iv 0) hx hb dX7_parse_23 rfl ?_
  refine xa_puti G fd_X7 (a := 23) (x := 0) 7 (kz := 7) rfl rfl (by decide) rfl (by unfold ir; omega) (wm 2 24 rfl rfl) ⟨rfl, rfl, rfl, rfl⟩ rfl dX7_parse_24 rfl (fun H locs G => ?_)
  refine lv_aload_n hx hb dX7_parse_27 rfl (lv_at hl 0 rfl) ?_
  refine xa_getr G fd_X7 (a := 23) (x := 24) 3 rfl (by decide) rfl (wm 2 20 rfl rfl) ⟨rfl, rfl, rfl⟩ dX7_parse_28 rfl (G.sk 25 rfl) (by decide) rfl ?_
  refine lv_iconst (v := iv (-1)) hx hb dX7_parse_31 rfl ?_
  have hI_11 : IC (sv (sv (sv μ4 23 8 x1) 23 9 0) 23 7 0) := (IC.put (IC.put (IC.put hI_6 (by decide +kernel)) (by decide +kernel)) (by decide +kernel))
  refine xc_vS G (rest := []) (As := [.ref (oP ω 24), .int (iv (-1))]) (c_J7_fill_53178 ω l (sv (sv (sv μ4 23 8 x1) 23 9 0) 23 7 0) (-1) (by unfold ir; omega) hI_11) (wm 3 48 rfl rfl) (wm 1 113 rfl rfl) (wm 1 8 rfl rfl) (wm 1 114 rfl rfl) (by decide) hR (by decide) (n := 2) rfl rfl (Nat.le_of_ble_eq_true rfl) hl.1 dX7_parse_32 (fun μ12 ρ d0 H locs hp G => ?_)
  obtain ⟨F_13, hI_14, hp_15⟩ := hp
  replace hp_15 := fun _ : Unit => hp_15
  refine lv_aload_n hx hb dX7_parse_35 rfl (lv_at hl 0 rfl) ?_
  refine xa_getr G fd_X7 (a := 23) (x := 26) 0 rfl (by decide) rfl (wm 2 17 rfl rfl) ⟨rfl, rfl, rfl⟩ dX7_parse_36 rfl (G.sk 23 rfl) (by decide) rfl ?_
  refine lv_iload_n hx hb dX7_parse_39 rfl (lv_at hl 1 rfl) ?_
  refine lv_iload_n hx hb dX7_parse_40 rfl (lv_at hl 2 rfl) ?_
  refine xc_vV G (b := 26) (rest := []) (As := [.int (iv x1), .int (iv x2)]) (c_X10_begin ω l μ12 x1 x2 (by unfold ir; omega) (by unfold ir; omega) hI_14 (by omega)) (wm 3 49 rfl rfl) (wm 3 50 rfl rfl) (wm 3 51 rfl rfl) rfl rfl (by decide) rfl (wm 1 13 rfl rfl) (wm 3 52 rfl rfl) (by decide) hR (by decide) (n := 2) rfl rfl (Nat.le_of_ble_eq_true rfl) hl.1 dX7_parse_41 (fun μ16 ρ d0 H locs hp G => ?_)
  obtain ⟨F_17, hI_18, hp_19, hp_20⟩ := hp
  have htb_21 := hp_19.b
  have hX0_ : ∀ _ : Unit, μ16.1 26 11 = 0 → PG μ16 P x1 := fun _ _ => PG.nil ((F_17.1 P (ni hprP (fun P => P) (fun P => [26, 28, 29, 30, 31]) rfl) 1).trans ((F_13.1 P (ni hprP (fun P => P) (fun P => [24]) rfl) 1).trans ((sv_n _ (fun h9 => (ni hprP (fun P => P) (fun P => [23]) rfl) (List.mem_singleton.2 h9.1))).trans ((sv_n _ (fun h9 => (ni hprP (fun P => P) (fun P => [23]) rfl) (List.mem_singleton.2 h9.1))).trans ((sv_n _ (fun h9 => (ni hprP (fun P => P) (fun P => [23]) rfl) (List.mem_singleton.2 h9.1))).trans hs_7))))) ((F_17.1 P (ni hprP (fun P => P) (fun P => [26, 28, 29, 30, 31]) rfl) 7).trans ((F_13.1 P (ni hprP (fun P => P) (fun P => [24]) rfl) 7).trans ((sv_n _ (fun h9 => (ni hprP (fun P => P) (fun P => [23]) rfl) (List.mem_singleton.2 h9.1))).trans ((sv_n _ (fun h9 => (ni hprP (fun P => P) (fun P => [23]) rfl) (List.mem_singleton.2 h9.1))).trans ((sv_n _ (fun h9 => (ni hprP (fun P => P) (fun P => [23]) rfl) (List.mem_singleton.2 h9.1))).trans hs_8)))))
  refine lv_iconst (v := iv 0) hx hb dX7_parse_44 rfl ?_
  refine lv_istore (lv' := [(4, .int (iv 0)), (0, .ref (oP ω 23)), (1, .int (iv x1)), (2, .int (iv x2)), (3, .ref (oP ω P))]) hx hb dX7_parse_45 hl (by decide) rfl (fun ls hl => ?_)
  have e_22 : μ16.1 P 1 = 0 := ((F_17.1 P (ni hprP (fun P => P) (fun P => [26, 28, 29, 30, 31]) rfl) 1).trans ((F_13.1 P (ni hprP (fun P => P) (fun P => [24]) rfl) 1).trans ((sv_n _ (fun h9 => (ni hprP (fun P => P) (fun P => [23]) rfl) (List.mem_singleton.2 h9.1))).trans ((sv_n _ (fun h9 => (ni hprP (fun P => P) (fun P => [23]) rfl) (List.mem_singleton.2 h9.1))).trans ((sv_n _ (fun h9 => (ni hprP (fun P => P) (fun P => [23]) rfl) (List.mem_singleton.2 h9.1))).trans hs_7)))))
  have e_23 : μ16.1 (P + 2) 3 = μ4.1 (P + 2) 3 := ((F_17.1 (P + 2) (ni hprP (fun P => P + 2) (fun P => [26, 28, 29, 30, 31]) rfl) 3).trans ((F_13.1 (P + 2) (ni hprP (fun P => P + 2) (fun P => [24]) rfl) 3).trans ((sv_n _ (fun h9 => (ni hprP (fun P => P + 2) (fun P => [23]) rfl) (List.mem_singleton.2 h9.1))).trans ((sv_n _ (fun h9 => (ni hprP (fun P => P + 2) (fun P => [23]) rfl) (List.mem_singleton.2 h9.1))).trans (sv_n _ (fun h9 => (ni hprP (fun P => P + 2) (fun P => [23]) rfl) (List.mem_singleton.2 h9.1)))))))
  have e_24 : μ16.1 P 1 = 0 := ((F_17.1 P (ni hprP (fun P => P) (fun P => [26, 28, 29, 30, 31]) rfl) 1).trans ((F_13.1 P (ni hprP (fun P => P) (fun P => [24]) rfl) 1).trans ((sv_n _ (fun h9 => (ni hprP (fun P => P) (fun P => [23]) rfl) (List.mem_singleton.2 h9.1))).trans ((sv_n _ (fun h9 => (ni hprP (fun P => P) (fun P => [23]) rfl) (List.mem_singleton.2 h9.1))).trans ((sv_n _ (fun h9 => (ni hprP (fun P => P) (fun P => [23]) rfl) (List.mem_singleton.2 h9.1))).trans hs_7)))))
  have e_25 : μ16.1 23 9 = 0 := ((F_17.1 23 (by decide) 9).trans ((F_13.1 23 (by decide) 9).trans ((sv_n _ (by decide)).trans (sv_s _ _ _ _))))
  have e_26 : μ16.1 23 7 = 0 := ((F_17.1 23 (by decide) 7).trans ((F_13.1 23 (by decide) 7).trans (sv_s _ _ _ _)))
  have e_27 : μ16.1 23 7 = 0 := ((F_17.1 23 (by decide) 7).trans ((F_13.1 23 (by decide) 7).trans (sv_s _ _ _ _)))
  have hvr_28 : vrk μ16 := vrk.fP (P := P) (L := fun P => [26, 28, 29, 30, 31, 24, 23, P, P + 2, (P + 2) + 1, (P + 2) + 2, (P + 2) + 3]) hprP rfl (Fr.tr (Fr.tr (Fr.put (Fr.put (Fr.put (Fr.tr (Fr.put Fr.rf (si hprP (fun P => [23]) (fun P => [26, 28, 29, 30, 31, 24, 23, P, P + 2, (P + 2) + 1, (P + 2) + 2, (P + 2) + 3]) rfl 23 (List.mem_singleton.2 rfl))) F_5 (si hprP (fun P => [P, P + 2, (P + 2) + 1, (P + 2) + 2, (P + 2) + 3]) (fun P => [26, 28, 29, 30, 31, 24, 23, P, P + 2, (P + 2) + 1, (P + 2) + 2, (P + 2) + 3]) rfl)) (si hprP (fun P => [23]) (fun P => [26, 28, 29, 30, 31, 24, 23, P, P + 2, (P + 2) + 1, (P + 2) + 2, (P + 2) + 3]) rfl 23 (List.mem_singleton.2 rfl))) (si hprP (fun P => [23]) (fun P => [26, 28, 29, 30, 31, 24, 23, P, P + 2, (P + 2) + 1, (P + 2) + 2, (P + 2) + 3]) rfl 23 (List.mem_singleton.2 rfl))) (si hprP (fun P => [23]) (fun P => [26, 28, 29, 30, 31, 24, 23, P, P + 2, (P + 2) + 1, (P + 2) + 2, (P + 2) + 3]) rfl 23 (List.mem_singleton.2 rfl))) F_13 (si hprP (fun P => [24]) (fun P => [26, 28, 29, 30, 31, 24, 23, P, P + 2, (P + 2) + 1, (P + 2) + 2, (P + 2) + 3]) rfl)) F_17 (si hprP (fun P => [26, 28, 29, 30, 31]) (fun P => [26, 28, 29, 30, 31, 24, 23, P, P + 2, (P + 2) + 1, (P + 2) + 2, (P + 2) + 3]) rfl)) hv9
  refine xl (fun n_9 μ' ls => ∃ (i9 : Int), (Fr [(P + 2) + 1, (P + 2) + 2, (P + 2) + 3, 2, 23, 24, 25, 26, 3, 4, P, P + 1, P + 2, P + 6, P + 7, P + 8, P + 9] μ16 μ') ∧ (-2147483648 ≤ i9 ∧ i9 ≤ 2147483647) ∧ (0 ≤ i9) ∧ (i9 ≤ 3000) ∧ (TK μ') ∧ (2 * μ'.1 P 1 ≤ 5 * μ'.1 26 10 + 90 + 80 * μ'.1 26 11) ∧ (μ'.1 (P + 2) 3 ≤ μ'.1 P 1) ∧ (μ'.1 23 9 = 0) ∧ (0 ≤ μ'.1 23 7 ∧ μ'.1 23 7 ≤ i9) ∧ (vrk μ') ∧ (∀ _ : Unit, μ'.1 26 11 = 0 → PG μ' P x1) ∧ (μ'.1 23 2 = P) ∧ (μ'.1 23 8 = x1) ∧ (IC μ') ∧ n_9 = Int.toNat (3000 - i9) ∧ lv_has ls 5 [(4, .int (iv i9)), (0, .ref (oP ω 23)), (1, .int (iv x1)), (2, .int (iv x2)), (3, .ref (oP ω P))]) (fun n_9 ρ μL29 d0 H locs ls hI_l G ih => ?_) _ _ _ _ _ _ _ ⟨0, Fr.rf, (by omega), (by omega), (by omega), hp_19, (by omega), (by omega), (by omega), (by omega), hvr_28, (fun _ => (hX0_ ())), ((F_17.1 23 (by decide) 2).trans ((F_13.1 23 (by decide) 2).trans ((sv_n _ (by decide)).trans ((sv_n _ (by decide)).trans ((sv_n _ (by decide)).trans ((F_5.1 23 (ni hprP (fun P => 23) (fun P => [P, P + 2, (P + 2) + 1, (P + 2) + 2, (P + 2) + 3]) rfl) 2).trans (sv_s _ _ _ _))))))), ((F_17.1 23 (by decide) 8).trans ((F_13.1 23 (by decide) 8).trans ((sv_n _ (by decide)).trans ((sv_n _ (by decide)).trans (sv_s _ _ _ _))))), hI_18, rfl, lv_sub hl [0, 1, 2, 3, 4] rfl⟩ G
  obtain ⟨i9, FL30, hi_32, hi_33, hi_34, hi_35, hi_36, hi_37, hi_38, hi_39, hi_40, hi_41, hi_42, hi_43, hi_44, hn31, hl⟩ := hI_l
  have htb_45 := hi_35.b
  refine lv_iload hx hb dX7_parse_47 (lv_at hl 0 rfl) ?_
  refine lv_sipush (v := iv 3000) hx hb dX7_parse_49 rfl ?_
  refine xb_icmp_ge (tgt := 130) hx hb (by unfold ir; omega) (by unfold ir; omega) dX7_parse_52 (by decide) (fun c_52 => ?_) (fun c_52 => ?_)
  · refine lv_aload_n hx hb dX7_parse_130 rfl (lv_at hl 1 rfl) ?_
    refine xa_getr G fd_X7 (a := 23) (x := 26) 0 rfl (by decide) rfl (wm 2 17 rfl rfl) ⟨rfl, rfl, rfl⟩ dX7_parse_131 rfl (G.sk 23 rfl) (by decide) rfl ?_
    refine xa_getN G fd_X10 (host := "FourTongues") (a := 26) 12 rfl (by decide) (by decide) ⟨rfl, rfl, rfl⟩ dX7_parse_134 rfl (v := .int (iv (μL29.1 26 12))) (by rw [show μL29.1 26 12 = μL29.1 26 12 from rfl]; rfl) ?_
    have hr_46 : -2147483648 ≤ μL29.1 26 12 ∧ μL29.1 26 12 ≤ 2147483647 := by have h9 := G.hr (a := 26) (k := 12) rfl; exact h9
    refine lv_iconst (v := iv 3) hx hb dX7_parse_137 rfl ?_
    refine xb_icmp_ne (tgt := 154) hx hb (by unfold ir; omega) (by unfold ir; omega) dX7_parse_138 (by decide) (fun c_138 => ?_) (fun c_138 => ?_)
    · clear hk_1 hc_2 hk_10
      exact xr_v G hret hlk dX7_parse_154 ⟨(Fr.tr (Fr.tr (Fr.tr (Fr.put (Fr.put (Fr.put (Fr.tr (Fr.put Fr.rf (si hprP (fun P => [23]) (fun P => [23, P, P + 2, (P + 2) + 1, (P + 2) + 2, (P + 2) + 3, 24, 26, 28, 29, 30, 31, 2, 25, 3, 4, P + 1, P + 6, P + 7, P + 8, P + 9]) rfl 23 (List.mem_singleton.2 rfl))) F_5 (si hprP (fun P => [P, P + 2, (P + 2) + 1, (P + 2) + 2, (P + 2) + 3]) (fun P => [23, P, P + 2, (P + 2) + 1, (P + 2) + 2, (P + 2) + 3, 24, 26, 28, 29, 30, 31, 2, 25, 3, 4, P + 1, P + 6, P + 7, P + 8, P + 9]) rfl)) (si hprP (fun P => [23]) (fun P => [23, P, P + 2, (P + 2) + 1, (P + 2) + 2, (P + 2) + 3, 24, 26, 28, 29, 30, 31, 2, 25, 3, 4, P + 1, P + 6, P + 7, P + 8, P + 9]) rfl 23 (List.mem_singleton.2 rfl))) (si hprP (fun P => [23]) (fun P => [23, P, P + 2, (P + 2) + 1, (P + 2) + 2, (P + 2) + 3, 24, 26, 28, 29, 30, 31, 2, 25, 3, 4, P + 1, P + 6, P + 7, P + 8, P + 9]) rfl 23 (List.mem_singleton.2 rfl))) (si hprP (fun P => [23]) (fun P => [23, P, P + 2, (P + 2) + 1, (P + 2) + 2, (P + 2) + 3, 24, 26, 28, 29, 30, 31, 2, 25, 3, 4, P + 1, P + 6, P + 7, P + 8, P + 9]) rfl 23 (List.mem_singleton.2 rfl))) F_13 (si hprP (fun P => [24]) (fun P => [23, P, P + 2, (P + 2) + 1, (P + 2) + 2, (P + 2) + 3, 24, 26, 28, 29, 30, 31, 2, 25, 3, 4, P + 1, P + 6, P + 7, P + 8, P + 9]) rfl)) F_17 (si hprP (fun P => [26, 28, 29, 30, 31]) (fun P => [23, P, P + 2, (P + 2) + 1, (P + 2) + 2, (P + 2) + 3, 24, 26, 28, 29, 30, 31, 2, 25, 3, 4, P + 1, P + 6, P + 7, P + 8, P + 9]) rfl)) FL30 (si hprP (fun P => [(P + 2) + 1, (P + 2) + 2, (P + 2) + 3, 2, 23, 24, 25, 26, 3, 4, P, P + 1, P + 2, P + 6, P + 7, P + 8, P + 9]) (fun P => [23, P, P + 2, (P + 2) + 1, (P + 2) + 2, (P + 2) + 3, 24, 26, 28, 29, 30, 31, 2, 25, 3, 4, P + 1, P + 6, P + 7, P + 8, P + 9]) rfl)), hi_44, hi_40, (Or.inr ((hi_41 ()) ((hi_35).k.resolve_right (by omega)))), (by omega)⟩
    · refine lv_aload_n hx hb dX7_parse_141 rfl (lv_at hl 1 rfl) ?_
      refine xa_getr G fd_X7 (a := 23) (x := 24) 3 rfl (by decide) rfl (wm 2 20 rfl rfl) ⟨rfl, rfl, rfl⟩ dX7_parse_142 rfl (G.sk 25 rfl) (by decide) rfl ?_
      refine lv_iconst (v := iv 1) hx hb dX7_parse_145 rfl ?_
      refine lv_aload_n hx hb dX7_parse_146 rfl (lv_at hl 1 rfl) ?_
      refine xa_getr G fd_X7 (a := 23) (x := 26) 0 rfl (by decide) rfl (wm 2 17 rfl rfl) ⟨rfl, rfl, rfl⟩ dX7_parse_147 rfl (G.sk 23 rfl) (by decide) rfl ?_
      refine xa_getN G fd_X10 (host := "FourTongues") (a := 26) 13 rfl (by decide) (by decide) ⟨rfl, rfl, rfl⟩ dX7_parse_150 rfl (v := .int (iv (μL29.1 26 13))) (by rw [show μL29.1 26 13 = μL29.1 26 13 from rfl]; rfl) ?_
      have hr_47 : -2147483648 ≤ μL29.1 26 13 ∧ μL29.1 26 13 ≤ 2147483647 := by have h9 := G.hr (a := 26) (k := 13) rfl; exact h9
      refine xa_iast G (a := 24) (i := 1) (x := μL29.1 26 13) rfl (by have h9 := G.lc (a := 24) (n := 4) 14 rfl; omega) (by unfold ir; omega) dX7_parse_153 rfl (fun H locs G => ?_)
      clear hk_1 hc_2 hk_10
      have hvr_48 : vrk (sv μL29 24 1 (μL29.1 26 13)) := vrk.fP (P := P) (L := fun P => [24]) hprP rfl (Fr.put Fr.rf (by decide)) hi_40
      have e_49 : (sv μL29 24 1 (μL29.1 26 13)).1 P 1 = μL29.1 P 1 := (sv_n _ (fun h9 => (ni hprP (fun P => P) (fun P => [24]) rfl) (List.mem_singleton.2 h9.1)))
      have e_50 : (sv μL29 24 1 (μL29.1 26 13)).1 26 10 = μL29.1 26 10 := (sv_n _ (fun h9 => absurd h9.1 (by decide)))
      have e_51 : (sv μL29 24 1 (μL29.1 26 13)).1 26 11 = μL29.1 26 11 := (sv_n _ (fun h9 => absurd h9.1 (by decide)))
      have hI_52 : IC (sv μL29 24 1 (μL29.1 26 13)) := (IC.pua hi_44 (by decide))
      have e_53 : (sv μL29 24 1 (μL29.1 26 13)).1 P 1 = μL29.1 P 1 := (sv_n _ (fun h9 => (ni hprP (fun P => P) (fun P => [24]) rfl) (List.mem_singleton.2 h9.1)))
      exact xr_v G hret hlk dX7_parse_154 ⟨(Fr.put (Fr.tr (Fr.tr (Fr.tr (Fr.put (Fr.put (Fr.put (Fr.tr (Fr.put Fr.rf (si hprP (fun P => [23]) (fun P => [23, P, P + 2, (P + 2) + 1, (P + 2) + 2, (P + 2) + 3, 24, 26, 28, 29, 30, 31, 2, 25, 3, 4, P + 1, P + 6, P + 7, P + 8, P + 9]) rfl 23 (List.mem_singleton.2 rfl))) F_5 (si hprP (fun P => [P, P + 2, (P + 2) + 1, (P + 2) + 2, (P + 2) + 3]) (fun P => [23, P, P + 2, (P + 2) + 1, (P + 2) + 2, (P + 2) + 3, 24, 26, 28, 29, 30, 31, 2, 25, 3, 4, P + 1, P + 6, P + 7, P + 8, P + 9]) rfl)) (si hprP (fun P => [23]) (fun P => [23, P, P + 2, (P + 2) + 1, (P + 2) + 2, (P + 2) + 3, 24, 26, 28, 29, 30, 31, 2, 25, 3, 4, P + 1, P + 6, P + 7, P + 8, P + 9]) rfl 23 (List.mem_singleton.2 rfl))) (si hprP (fun P => [23]) (fun P => [23, P, P + 2, (P + 2) + 1, (P + 2) + 2, (P + 2) + 3, 24, 26, 28, 29, 30, 31, 2, 25, 3, 4, P + 1, P + 6, P + 7, P + 8, P + 9]) rfl 23 (List.mem_singleton.2 rfl))) (si hprP (fun P => [23]) (fun P => [23, P, P + 2, (P + 2) + 1, (P + 2) + 2, (P + 2) + 3, 24, 26, 28, 29, 30, 31, 2, 25, 3, 4, P + 1, P + 6, P + 7, P + 8, P + 9]) rfl 23 (List.mem_singleton.2 rfl))) F_13 (si hprP (fun P => [24]) (fun P => [23, P, P + 2, (P + 2) + 1, (P + 2) + 2, (P + 2) + 3, 24, 26, 28, 29, 30, 31, 2, 25, 3, 4, P + 1, P + 6, P + 7, P + 8, P + 9]) rfl)) F_17 (si hprP (fun P => [26, 28, 29, 30, 31]) (fun P => [23, P, P + 2, (P + 2) + 1, (P + 2) + 2, (P + 2) + 3, 24, 26, 28, 29, 30, 31, 2, 25, 3, 4, P + 1, P + 6, P + 7, P + 8, P + 9]) rfl)) FL30 (si hprP (fun P => [(P + 2) + 1, (P + 2) + 2, (P + 2) + 3, 2, 23, 24, 25, 26, 3, 4, P, P + 1, P + 2, P + 6, P + 7, P + 8, P + 9]) (fun P => [23, P, P + 2, (P + 2) + 1, (P + 2) + 2, (P + 2) + 3, 24, 26, 28, 29, 30, 31, 2, 25, 3, 4, P + 1, P + 6, P + 7, P + 8, P + 9]) rfl)) (si hprP (fun P => [24]) (fun P => [23, P, P + 2, (P + 2) + 1, (P + 2) + 2, (P + 2) + 3, 24, 26, 28, 29, 30, 31, 2, 25, 3, 4, P + 1, P + 6, P + 7, P + 8, P + 9]) rfl 24 (List.mem_singleton.2 rfl))), hI_52, hvr_48, (Or.inl (by have h8 := (hi_35).pl; have h9 : (sv μL29 24 1 (μL29.1 26 13)).1 24 1 = μL29.1 26 13 := (sv_s _ _ _ _); omega)), (by omega)⟩
  · refine lv_aload_n hx hb dX7_parse_55 rfl (lv_at hl 1 rfl) ?_
    refine xa_getr G fd_X7 (a := 23) (x := 26) 0 rfl (by decide) rfl (wm 2 17 rfl rfl) ⟨rfl, rfl, rfl⟩ dX7_parse_56 rfl (G.sk 23 rfl) (by decide) rfl ?_
    refine xa_getN G fd_X10 (host := "FourTongues") (a := 26) 12 rfl (by decide) (by decide) ⟨rfl, rfl, rfl⟩ dX7_parse_59 rfl (v := .int (iv (μL29.1 26 12))) (by rw [show μL29.1 26 12 = μL29.1 26 12 from rfl]; rfl) ?_
    have hr_54 : -2147483648 ≤ μL29.1 26 12 ∧ μL29.1 26 12 ≤ 2147483647 := by have h9 := G.hr (a := 26) (k := 12) rfl; exact h9
    refine xb_if_eq (tgt := 130) hx hb (by unfold ir; omega) dX7_parse_62 (by decide) (fun c_62 => ?_) (fun c_62 => ?_)
    · refine lv_aload_n hx hb dX7_parse_130 rfl (lv_at hl 1 rfl) ?_
      refine xa_getr G fd_X7 (a := 23) (x := 26) 0 rfl (by decide) rfl (wm 2 17 rfl rfl) ⟨rfl, rfl, rfl⟩ dX7_parse_131 rfl (G.sk 23 rfl) (by decide) rfl ?_
      refine xa_getN G fd_X10 (host := "FourTongues") (a := 26) 12 rfl (by decide) (by decide) ⟨rfl, rfl, rfl⟩ dX7_parse_134 rfl (v := .int (iv (μL29.1 26 12))) (by rw [show μL29.1 26 12 = μL29.1 26 12 from rfl]; rfl) ?_
      refine lv_iconst (v := iv 3) hx hb dX7_parse_137 rfl ?_
      refine xb_icmp_ne (tgt := 154) hx hb (by unfold ir; omega) (by unfold ir; omega) dX7_parse_138 (by decide) (fun c_138 => ?_) (fun c_138 => ?_)
      · clear hk_1 hc_2 hk_10
        exact xr_v G hret hlk dX7_parse_154 ⟨(Fr.tr (Fr.tr (Fr.tr (Fr.put (Fr.put (Fr.put (Fr.tr (Fr.put Fr.rf (si hprP (fun P => [23]) (fun P => [23, P, P + 2, (P + 2) + 1, (P + 2) + 2, (P + 2) + 3, 24, 26, 28, 29, 30, 31, 2, 25, 3, 4, P + 1, P + 6, P + 7, P + 8, P + 9]) rfl 23 (List.mem_singleton.2 rfl))) F_5 (si hprP (fun P => [P, P + 2, (P + 2) + 1, (P + 2) + 2, (P + 2) + 3]) (fun P => [23, P, P + 2, (P + 2) + 1, (P + 2) + 2, (P + 2) + 3, 24, 26, 28, 29, 30, 31, 2, 25, 3, 4, P + 1, P + 6, P + 7, P + 8, P + 9]) rfl)) (si hprP (fun P => [23]) (fun P => [23, P, P + 2, (P + 2) + 1, (P + 2) + 2, (P + 2) + 3, 24, 26, 28, 29, 30, 31, 2, 25, 3, 4, P + 1, P + 6, P + 7, P + 8, P + 9]) rfl 23 (List.mem_singleton.2 rfl))) (si hprP (fun P => [23]) (fun P => [23, P, P + 2, (P + 2) + 1, (P + 2) + 2, (P + 2) + 3, 24, 26, 28, 29, 30, 31, 2, 25, 3, 4, P + 1, P + 6, P + 7, P + 8, P + 9]) rfl 23 (List.mem_singleton.2 rfl))) (si hprP (fun P => [23]) (fun P => [23, P, P + 2, (P + 2) + 1, (P + 2) + 2, (P + 2) + 3, 24, 26, 28, 29, 30, 31, 2, 25, 3, 4, P + 1, P + 6, P + 7, P + 8, P + 9]) rfl 23 (List.mem_singleton.2 rfl))) F_13 (si hprP (fun P => [24]) (fun P => [23, P, P + 2, (P + 2) + 1, (P + 2) + 2, (P + 2) + 3, 24, 26, 28, 29, 30, 31, 2, 25, 3, 4, P + 1, P + 6, P + 7, P + 8, P + 9]) rfl)) F_17 (si hprP (fun P => [26, 28, 29, 30, 31]) (fun P => [23, P, P + 2, (P + 2) + 1, (P + 2) + 2, (P + 2) + 3, 24, 26, 28, 29, 30, 31, 2, 25, 3, 4, P + 1, P + 6, P + 7, P + 8, P + 9]) rfl)) FL30 (si hprP (fun P => [(P + 2) + 1, (P + 2) + 2, (P + 2) + 3, 2, 23, 24, 25, 26, 3, 4, P, P + 1, P + 2, P + 6, P + 7, P + 8, P + 9]) (fun P => [23, P, P + 2, (P + 2) + 1, (P + 2) + 2, (P + 2) + 3, 24, 26, 28, 29, 30, 31, 2, 25, 3, 4, P + 1, P + 6, P + 7, P + 8, P + 9]) rfl)), hi_44, hi_40, (Or.inr ((hi_41 ()) ((hi_35).k.resolve_right (by omega)))), (by omega)⟩
      · refine lv_aload_n hx hb dX7_parse_141 rfl (lv_at hl 1 rfl) ?_
        refine xa_getr G fd_X7 (a := 23) (x := 24) 3 rfl (by decide) rfl (wm 2 20 rfl rfl) ⟨rfl, rfl, rfl⟩ dX7_parse_142 rfl (G.sk 25 rfl) (by decide) rfl ?_
        refine lv_iconst (v := iv 1) hx hb dX7_parse_145 rfl ?_
        refine lv_aload_n hx hb dX7_parse_146 rfl (lv_at hl 1 rfl) ?_
        refine xa_getr G fd_X7 (a := 23) (x := 26) 0 rfl (by decide) rfl (wm 2 17 rfl rfl) ⟨rfl, rfl, rfl⟩ dX7_parse_147 rfl (G.sk 23 rfl) (by decide) rfl ?_
        refine xa_getN G fd_X10 (host := "FourTongues") (a := 26) 13 rfl (by decide) (by decide) ⟨rfl, rfl, rfl⟩ dX7_parse_150 rfl (v := .int (iv (μL29.1 26 13))) (by rw [show μL29.1 26 13 = μL29.1 26 13 from rfl]; rfl) ?_
        have hr_55 : -2147483648 ≤ μL29.1 26 13 ∧ μL29.1 26 13 ≤ 2147483647 := by have h9 := G.hr (a := 26) (k := 13) rfl; exact h9
        refine xa_iast G (a := 24) (i := 1) (x := μL29.1 26 13) rfl (by have h9 := G.lc (a := 24) (n := 4) 14 rfl; omega) (by unfold ir; omega) dX7_parse_153 rfl (fun H locs G => ?_)
        clear hk_1 hc_2 hk_10
        have hvr_56 : vrk (sv μL29 24 1 (μL29.1 26 13)) := vrk.fP (P := P) (L := fun P => [24]) hprP rfl (Fr.put Fr.rf (by decide)) hi_40
        have e_57 : (sv μL29 24 1 (μL29.1 26 13)).1 P 1 = μL29.1 P 1 := (sv_n _ (fun h9 => (ni hprP (fun P => P) (fun P => [24]) rfl) (List.mem_singleton.2 h9.1)))
        have e_58 : (sv μL29 24 1 (μL29.1 26 13)).1 26 10 = μL29.1 26 10 := (sv_n _ (fun h9 => absurd h9.1 (by decide)))
        have e_59 : (sv μL29 24 1 (μL29.1 26 13)).1 26 11 = μL29.1 26 11 := (sv_n _ (fun h9 => absurd h9.1 (by decide)))
        have hI_60 : IC (sv μL29 24 1 (μL29.1 26 13)) := (IC.pua hi_44 (by decide))
        have e_61 : (sv μL29 24 1 (μL29.1 26 13)).1 P 1 = μL29.1 P 1 := (sv_n _ (fun h9 => (ni hprP (fun P => P) (fun P => [24]) rfl) (List.mem_singleton.2 h9.1)))
        exact xr_v G hret hlk dX7_parse_154 ⟨(Fr.put (Fr.tr (Fr.tr (Fr.tr (Fr.put (Fr.put (Fr.put (Fr.tr (Fr.put Fr.rf (si hprP (fun P => [23]) (fun P => [23, P, P + 2, (P + 2) + 1, (P + 2) + 2, (P + 2) + 3, 24, 26, 28, 29, 30, 31, 2, 25, 3, 4, P + 1, P + 6, P + 7, P + 8, P + 9]) rfl 23 (List.mem_singleton.2 rfl))) F_5 (si hprP (fun P => [P, P + 2, (P + 2) + 1, (P + 2) + 2, (P + 2) + 3]) (fun P => [23, P, P + 2, (P + 2) + 1, (P + 2) + 2, (P + 2) + 3, 24, 26, 28, 29, 30, 31, 2, 25, 3, 4, P + 1, P + 6, P + 7, P + 8, P + 9]) rfl)) (si hprP (fun P => [23]) (fun P => [23, P, P + 2, (P + 2) + 1, (P + 2) + 2, (P + 2) + 3, 24, 26, 28, 29, 30, 31, 2, 25, 3, 4, P + 1, P + 6, P + 7, P + 8, P + 9]) rfl 23 (List.mem_singleton.2 rfl))) (si hprP (fun P => [23]) (fun P => [23, P, P + 2, (P + 2) + 1, (P + 2) + 2, (P + 2) + 3, 24, 26, 28, 29, 30, 31, 2, 25, 3, 4, P + 1, P + 6, P + 7, P + 8, P + 9]) rfl 23 (List.mem_singleton.2 rfl))) (si hprP (fun P => [23]) (fun P => [23, P, P + 2, (P + 2) + 1, (P + 2) + 2, (P + 2) + 3, 24, 26, 28, 29, 30, 31, 2, 25, 3, 4, P + 1, P + 6, P + 7, P + 8, P + 9]) rfl 23 (List.mem_singleton.2 rfl))) F_13 (si hprP (fun P => [24]) (fun P => [23, P, P + 2, (P + 2) + 1, (P + 2) + 2, (P + 2) + 3, 24, 26, 28, 29, 30, 31, 2, 25, 3, 4, P + 1, P + 6, P + 7, P + 8, P + 9]) rfl)) F_17 (si hprP (fun P => [26, 28, 29, 30, 31]) (fun P => [23, P, P + 2, (P + 2) + 1, (P + 2) + 2, (P + 2) + 3, 24, 26, 28, 29, 30, 31, 2, 25, 3, 4, P + 1, P + 6, P + 7, P + 8, P + 9]) rfl)) FL30 (si hprP (fun P => [(P + 2) + 1, (P + 2) + 2, (P + 2) + 3, 2, 23, 24, 25, 26, 3, 4, P, P + 1, P + 2, P + 6, P + 7, P + 8, P + 9]) (fun P => [23, P, P + 2, (P + 2) + 1, (P + 2) + 2, (P + 2) + 3, 24, 26, 28, 29, 30, 31, 2, 25, 3, 4, P + 1, P + 6, P + 7, P + 8, P + 9]) rfl)) (si hprP (fun P => [24]) (fun P => [23, P, P + 2, (P + 2) + 1, (P + 2) + 2, (P + 2) + 3, 24, 26, 28, 29, 30, 31, 2, 25, 3, 4, P + 1, P + 6, P + 7, P + 8, P + 9]) rfl 24 (List.mem_singleton.2 rfl))), hI_60, hvr_56, (Or.inl (by have h8 := (hi_35).pl; have h9 : (sv μL29 24 1 (μL29.1 26 13)).1 24 1 = μL29.1 26 13 := (sv_s _ _ _ _); omega)), (by omega)⟩
    · refine lv_aload_n hx hb dX7_parse_65 rfl (lv_at hl 1 rfl) ?_
      refine xa_getr G fd_X7 (a := 23) (x := 26) 0 rfl (by decide) rfl (wm 2 17 rfl rfl) ⟨rfl, rfl, rfl⟩ dX7_parse_66 rfl (G.sk 23 rfl) (by decide) rfl ?_
      refine xa_getN G fd_X10 (host := "FourTongues") (a := 26) 12 rfl (by decide) (by decide) ⟨rfl, rfl, rfl⟩ dX7_parse_69 rfl (v := .int (iv (μL29.1 26 12))) (by rw [show μL29.1 26 12 = μL29.1 26 12 from rfl]; rfl) ?_
      refine lv_iconst (v := iv 3) hx hb dX7_parse_72 rfl ?_
      refine xb_icmp_eq (tgt := 130) hx hb (by unfold ir; omega) (by unfold ir; omega) dX7_parse_73 (by decide) (fun c_73 => ?_) (fun c_73 => ?_)
      · refine lv_aload_n hx hb dX7_parse_130 rfl (lv_at hl 1 rfl) ?_
        refine xa_getr G fd_X7 (a := 23) (x := 26) 0 rfl (by decide) rfl (wm 2 17 rfl rfl) ⟨rfl, rfl, rfl⟩ dX7_parse_131 rfl (G.sk 23 rfl) (by decide) rfl ?_
        refine xa_getN G fd_X10 (host := "FourTongues") (a := 26) 12 rfl (by decide) (by decide) ⟨rfl, rfl, rfl⟩ dX7_parse_134 rfl (v := .int (iv (μL29.1 26 12))) (by rw [show μL29.1 26 12 = μL29.1 26 12 from rfl]; rfl) ?_
        refine lv_iconst (v := iv 3) hx hb dX7_parse_137 rfl ?_
        refine xb_icmp_ne (tgt := 154) hx hb (by unfold ir; omega) (by unfold ir; omega) dX7_parse_138 (by decide) (fun c_138 => ?_) (fun c_138 => ?_)
        · clear hk_1 hc_2 hk_10
          exact xr_v G hret hlk dX7_parse_154 ⟨(Fr.tr (Fr.tr (Fr.tr (Fr.put (Fr.put (Fr.put (Fr.tr (Fr.put Fr.rf (si hprP (fun P => [23]) (fun P => [23, P, P + 2, (P + 2) + 1, (P + 2) + 2, (P + 2) + 3, 24, 26, 28, 29, 30, 31, 2, 25, 3, 4, P + 1, P + 6, P + 7, P + 8, P + 9]) rfl 23 (List.mem_singleton.2 rfl))) F_5 (si hprP (fun P => [P, P + 2, (P + 2) + 1, (P + 2) + 2, (P + 2) + 3]) (fun P => [23, P, P + 2, (P + 2) + 1, (P + 2) + 2, (P + 2) + 3, 24, 26, 28, 29, 30, 31, 2, 25, 3, 4, P + 1, P + 6, P + 7, P + 8, P + 9]) rfl)) (si hprP (fun P => [23]) (fun P => [23, P, P + 2, (P + 2) + 1, (P + 2) + 2, (P + 2) + 3, 24, 26, 28, 29, 30, 31, 2, 25, 3, 4, P + 1, P + 6, P + 7, P + 8, P + 9]) rfl 23 (List.mem_singleton.2 rfl))) (si hprP (fun P => [23]) (fun P => [23, P, P + 2, (P + 2) + 1, (P + 2) + 2, (P + 2) + 3, 24, 26, 28, 29, 30, 31, 2, 25, 3, 4, P + 1, P + 6, P + 7, P + 8, P + 9]) rfl 23 (List.mem_singleton.2 rfl))) (si hprP (fun P => [23]) (fun P => [23, P, P + 2, (P + 2) + 1, (P + 2) + 2, (P + 2) + 3, 24, 26, 28, 29, 30, 31, 2, 25, 3, 4, P + 1, P + 6, P + 7, P + 8, P + 9]) rfl 23 (List.mem_singleton.2 rfl))) F_13 (si hprP (fun P => [24]) (fun P => [23, P, P + 2, (P + 2) + 1, (P + 2) + 2, (P + 2) + 3, 24, 26, 28, 29, 30, 31, 2, 25, 3, 4, P + 1, P + 6, P + 7, P + 8, P + 9]) rfl)) F_17 (si hprP (fun P => [26, 28, 29, 30, 31]) (fun P => [23, P, P + 2, (P + 2) + 1, (P + 2) + 2, (P + 2) + 3, 24, 26, 28, 29, 30, 31, 2, 25, 3, 4, P + 1, P + 6, P + 7, P + 8, P + 9]) rfl)) FL30 (si hprP (fun P => [(P + 2) + 1, (P + 2) + 2, (P + 2) + 3, 2, 23, 24, 25, 26, 3, 4, P, P + 1, P + 2, P + 6, P + 7, P + 8, P + 9]) (fun P => [23, P, P + 2, (P + 2) + 1, (P + 2) + 2, (P + 2) + 3, 24, 26, 28, 29, 30, 31, 2, 25, 3, 4, P + 1, P + 6, P + 7, P + 8, P + 9]) rfl)), hi_44, hi_40, (Or.inr ((hi_41 ()) ((hi_35).k.resolve_right (by omega)))), (by omega)⟩
        · refine lv_aload_n hx hb dX7_parse_141 rfl (lv_at hl 1 rfl) ?_
          refine xa_getr G fd_X7 (a := 23) (x := 24) 3 rfl (by decide) rfl (wm 2 20 rfl rfl) ⟨rfl, rfl, rfl⟩ dX7_parse_142 rfl (G.sk 25 rfl) (by decide) rfl ?_
          refine lv_iconst (v := iv 1) hx hb dX7_parse_145 rfl ?_
          refine lv_aload_n hx hb dX7_parse_146 rfl (lv_at hl 1 rfl) ?_
          refine xa_getr G fd_X7 (a := 23) (x := 26) 0 rfl (by decide) rfl (wm 2 17 rfl rfl) ⟨rfl, rfl, rfl⟩ dX7_parse_147 rfl (G.sk 23 rfl) (by decide) rfl ?_
          refine xa_getN G fd_X10 (host := "FourTongues") (a := 26) 13 rfl (by decide) (by decide) ⟨rfl, rfl, rfl⟩ dX7_parse_150 rfl (v := .int (iv (μL29.1 26 13))) (by rw [show μL29.1 26 13 = μL29.1 26 13 from rfl]; rfl) ?_
          have hr_62 : -2147483648 ≤ μL29.1 26 13 ∧ μL29.1 26 13 ≤ 2147483647 := by have h9 := G.hr (a := 26) (k := 13) rfl; exact h9
          refine xa_iast G (a := 24) (i := 1) (x := μL29.1 26 13) rfl (by have h9 := G.lc (a := 24) (n := 4) 14 rfl; omega) (by unfold ir; omega) dX7_parse_153 rfl (fun H locs G => ?_)
          clear hk_1 hc_2 hk_10
          have hvr_63 : vrk (sv μL29 24 1 (μL29.1 26 13)) := vrk.fP (P := P) (L := fun P => [24]) hprP rfl (Fr.put Fr.rf (by decide)) hi_40
          have e_64 : (sv μL29 24 1 (μL29.1 26 13)).1 P 1 = μL29.1 P 1 := (sv_n _ (fun h9 => (ni hprP (fun P => P) (fun P => [24]) rfl) (List.mem_singleton.2 h9.1)))
          have e_65 : (sv μL29 24 1 (μL29.1 26 13)).1 26 10 = μL29.1 26 10 := (sv_n _ (fun h9 => absurd h9.1 (by decide)))
          have e_66 : (sv μL29 24 1 (μL29.1 26 13)).1 26 11 = μL29.1 26 11 := (sv_n _ (fun h9 => absurd h9.1 (by decide)))
          have hI_67 : IC (sv μL29 24 1 (μL29.1 26 13)) := (IC.pua hi_44 (by decide))
          have e_68 : (sv μL29 24 1 (μL29.1 26 13)).1 P 1 = μL29.1 P 1 := (sv_n _ (fun h9 => (ni hprP (fun P => P) (fun P => [24]) rfl) (List.mem_singleton.2 h9.1)))
          exact xr_v G hret hlk dX7_parse_154 ⟨(Fr.put (Fr.tr (Fr.tr (Fr.tr (Fr.put (Fr.put (Fr.put (Fr.tr (Fr.put Fr.rf (si hprP (fun P => [23]) (fun P => [23, P, P + 2, (P + 2) + 1, (P + 2) + 2, (P + 2) + 3, 24, 26, 28, 29, 30, 31, 2, 25, 3, 4, P + 1, P + 6, P + 7, P + 8, P + 9]) rfl 23 (List.mem_singleton.2 rfl))) F_5 (si hprP (fun P => [P, P + 2, (P + 2) + 1, (P + 2) + 2, (P + 2) + 3]) (fun P => [23, P, P + 2, (P + 2) + 1, (P + 2) + 2, (P + 2) + 3, 24, 26, 28, 29, 30, 31, 2, 25, 3, 4, P + 1, P + 6, P + 7, P + 8, P + 9]) rfl)) (si hprP (fun P => [23]) (fun P => [23, P, P + 2, (P + 2) + 1, (P + 2) + 2, (P + 2) + 3, 24, 26, 28, 29, 30, 31, 2, 25, 3, 4, P + 1, P + 6, P + 7, P + 8, P + 9]) rfl 23 (List.mem_singleton.2 rfl))) (si hprP (fun P => [23]) (fun P => [23, P, P + 2, (P + 2) + 1, (P + 2) + 2, (P + 2) + 3, 24, 26, 28, 29, 30, 31, 2, 25, 3, 4, P + 1, P + 6, P + 7, P + 8, P + 9]) rfl 23 (List.mem_singleton.2 rfl))) (si hprP (fun P => [23]) (fun P => [23, P, P + 2, (P + 2) + 1, (P + 2) + 2, (P + 2) + 3, 24, 26, 28, 29, 30, 31, 2, 25, 3, 4, P + 1, P + 6, P + 7, P + 8, P + 9]) rfl 23 (List.mem_singleton.2 rfl))) F_13 (si hprP (fun P => [24]) (fun P => [23, P, P + 2, (P + 2) + 1, (P + 2) + 2, (P + 2) + 3, 24, 26, 28, 29, 30, 31, 2, 25, 3, 4, P + 1, P + 6, P + 7, P + 8, P + 9]) rfl)) F_17 (si hprP (fun P => [26, 28, 29, 30, 31]) (fun P => [23, P, P + 2, (P + 2) + 1, (P + 2) + 2, (P + 2) + 3, 24, 26, 28, 29, 30, 31, 2, 25, 3, 4, P + 1, P + 6, P + 7, P + 8, P + 9]) rfl)) FL30 (si hprP (fun P => [(P + 2) + 1, (P + 2) + 2, (P + 2) + 3, 2, 23, 24, 25, 26, 3, 4, P, P + 1, P + 2, P + 6, P + 7, P + 8, P + 9]) (fun P => [23, P, P + 2, (P + 2) + 1, (P + 2) + 2, (P + 2) + 3, 24, 26, 28, 29, 30, 31, 2, 25, 3, 4, P + 1, P + 6, P + 7, P + 8, P + 9]) rfl)) (si hprP (fun P => [24]) (fun P => [23, P, P + 2, (P + 2) + 1, (P + 2) + 2, (P + 2) + 3, 24, 26, 28, 29, 30, 31, 2, 25, 3, 4, P + 1, P + 6, P + 7, P + 8, P + 9]) rfl 24 (List.mem_singleton.2 rfl))), hI_67, hvr_63, (Or.inl (by have h8 := (hi_35).pl; have h9 : (sv μL29 24 1 (μL29.1 26 13)).1 24 1 = μL29.1 26 13 := (sv_s _ _ _ _); omega)), (by omega)⟩
      · refine lv_aload_n hx hb dX7_parse_76 rfl (lv_at hl 1 rfl) ?_
        refine lv_sipush (v := iv 202) hx hb dX7_parse_77 rfl ?_
        have hn_69 : -1 ≤ μL29.1 26 10 ∧ μL29.1 26 10 ≤ 3000 := hi_44.nm.2.2.2.2.2.2.2.2.2.2.2.2
        have hn_70 : 0 ≤ μL29.1 26 6 ∧ μL29.1 26 6 ≤ 3001 := hi_44.nm.2.2.2.2.2.2.2.2.2.1
        have hn_71 : 0 ≤ μL29.1 26 7 ∧ μL29.1 26 7 ≤ 3000 := hi_44.nm.2.2.2.2.2.2.2.2.2.2.1
        have hn_72 : 0 ≤ μL29.1 26 9 ∧ μL29.1 26 9 ≤ 3000 := hi_44.nm.2.2.2.2.2.2.2.2.2.2.2.1
        refine xc_iV G (b := 23) (rest := []) (As := [.int (iv 202)]) (c_X7_took_b ω l μL29 202 (by unfold ir; omega) hi_44 hi_35 (by omega)) (wm 3 160 rfl rfl) (wm 3 162 rfl rfl) (wm 0 9 rfl rfl) rfl rfl (by decide) rfl (wm 1 12 rfl rfl) (wm 3 163 rfl rfl) (by decide) hR (by decide) (n := 1) rfl rfl (Nat.le_of_ble_eq_true rfl) hl.1 dX7_parse_80 (fun r_74 μ73 ρ d0 H locs hr_r_74 hp G => ?_)
        have hr_r_74 : -2147483648 ≤ r_74 ∧ r_74 ≤ 2147483647 := hr_r_74
        obtain ⟨F_75, hI_76, hp_77, hp_78, hp_79, hs_80, hs_81, hs_82, hs_83, hs_84⟩ := hp
        have hn_85 : -1 ≤ μ73.1 26 10 ∧ μ73.1 26 10 ≤ 3000 := hI_76.nm.2.2.2.2.2.2.2.2.2.2.2.2
        have htb_86 := hp_77.b
        refine xb_if_eq (tgt := 93) hx hb (by unfold ir; omega) dX7_parse_83 (by decide) (fun c_83 => ?_) (fun c_83 => ?_)
        · refine lv_aload_n hx hb dX7_parse_93 rfl (lv_at hl 1 rfl) ?_
          refine xa_geti G fd_X7 (a := 23) (x := x1) 8 rfl (by decide) rfl (wm 2 25 rfl rfl) ⟨rfl, rfl, rfl⟩ dX7_parse_94 rfl ((F_75.1 23 (by decide) 8).trans hi_43) ?_
          refine xb_if_ne (tgt := 117) hx hb (by unfold ir; omega) dX7_parse_97 (by decide) (fun c_97 => ?_) (fun c_97 => ?_)
          · refine lv_aload_n hx hb dX7_parse_117 rfl (lv_at hl 1 rfl) ?_
            refine xa_getr G fd_X7 (a := 23) (x := 26) 0 rfl (by decide) rfl (wm 2 17 rfl rfl) ⟨rfl, rfl, rfl⟩ dX7_parse_118 rfl (G.sk 23 rfl) (by decide) rfl ?_
            have e_87 : μ73.1 26 6 = μL29.1 26 6 := hs_81
            have e_88 : μ73.1 26 7 = μL29.1 26 7 := hs_82
            have e_89 : μ73.1 26 8 = μL29.1 26 8 := hs_83
            have e_90 : μ73.1 26 9 = μL29.1 26 9 := hs_84
            refine xc_vV G (b := 26) (rest := []) (As := []) (c_X10_stop ω l μ73  hI_76) (wm 3 173 rfl rfl) (wm 3 174 rfl rfl) (wm 3 175 rfl rfl) rfl rfl (by decide) rfl (wm 1 13 rfl rfl) (wm 3 176 rfl rfl) (by decide) hR (by decide) (n := 0) rfl rfl (Nat.le_of_ble_eq_true rfl) hl.1 dX7_parse_121 (fun μ91 ρ d0 H locs hp G => ?_)
            obtain ⟨F_92, hI_93, hp_94, hp_95, hs_96, hs_97, hs_98, hs_99, hs_100, hs_101, hs_102⟩ := hp
            have htk_103 : TK μ91 := TK.st hp_77 F_92 hp_94 hp_95 (((hs_96.trans hs_81)).trans (hs_81).symm) hs_100 hs_101
            refine lv_iinc (v := iv (i9 + 1)) (lv' := [(4, .int (iv (i9 + 1))), (0, .ref (oP ω 23)), (1, .int (iv x1)), (2, .int (iv x2)), (3, .ref (oP ω P))]) hx hb dX7_parse_124 hl (k := 0) rfl (by rw [show Int32.ofInt 1 = iv 1 from rfl, iv_add]) (by decide) rfl (fun ls hl => ?_)
            refine lv_goto (tgt := 47) hx hb dX7_parse_127 (by decide) ?_
            have e_104 : μ91.1 P 1 = μL29.1 P 1 := ((F_92.1 P (ni hprP (fun P => P) (fun P => [26]) rfl) 1).trans (F_75.1 P (ni hprP (fun P => P) (fun P => [26]) rfl) 1))
            have e_105 : μ91.1 26 10 = μ73.1 26 10 := hs_100
            have e_106 : μ91.1 (P + 2) 3 = μL29.1 (P + 2) 3 := ((F_92.1 (P + 2) (ni hprP (fun P => P + 2) (fun P => [26]) rfl) 3).trans (F_75.1 (P + 2) (ni hprP (fun P => P + 2) (fun P => [26]) rfl) 3))
            have e_107 : μ91.1 P 1 = μL29.1 P 1 := ((F_92.1 P (ni hprP (fun P => P) (fun P => [26]) rfl) 1).trans (F_75.1 P (ni hprP (fun P => P) (fun P => [26]) rfl) 1))
            have e_108 : μ91.1 23 9 = μL29.1 23 9 := ((F_92.1 23 (by decide) 9).trans (F_75.1 23 (by decide) 9))
            have e_109 : μ91.1 23 7 = μL29.1 23 7 := ((F_92.1 23 (by decide) 7).trans (F_75.1 23 (by decide) 7))
            have e_110 : μ91.1 23 7 = μL29.1 23 7 := ((F_92.1 23 (by decide) 7).trans (F_75.1 23 (by decide) 7))
            have hvr_111 : vrk μ91 := vrk.fP (P := P) (L := fun P => [26]) hprP rfl (Fr.tr (Fr.tr Fr.rf F_75 (by decide)) F_92 (by decide)) hi_40
            have htP_112 : ∀ _ : Unit, μ91.1 26 11 = 0 → PG μ91 P x1 := fun _ h0 => PG.fr (K := [26]) (hi_41 () (by have h9 : μL29.1 26 11 = μL29.1 26 11 := rfl; have h8 : μ91.1 26 11 = μ91.1 26 11 := rfl; omega)) (Fr.tr (Fr.tr Fr.rf F_75 (by decide)) F_92 (by decide)) (ni hprP (fun P => P) (fun P => [26]) rfl) (ni hprP (fun P => P + 1) (fun P => [26]) rfl) (ni hprP (fun P => P + 7) (fun P => [26]) rfl)
            exact ih _ _ _ _ _ _ _ (by omega) ⟨i9 + 1, (Fr.tr (Fr.tr FL30 F_75 (si hprP (fun P => [26]) (fun P => [(P + 2) + 1, (P + 2) + 2, (P + 2) + 3, 2, 23, 24, 25, 26, 3, 4, P, P + 1, P + 2, P + 6, P + 7, P + 8, P + 9]) rfl)) F_92 (si hprP (fun P => [26]) (fun P => [(P + 2) + 1, (P + 2) + 2, (P + 2) + 3, 2, 23, 24, 25, 26, 3, 4, P, P + 1, P + 2, P + 6, P + 7, P + 8, P + 9]) rfl)), (by omega), (by omega), (by omega), htk_103, (by omega), (by omega), (by omega), (by omega), hvr_111, (fun _ => (htP_112 ())), ((F_92.1 23 (by decide) 2).trans ((F_75.1 23 (by decide) 2).trans hi_42)), ((F_92.1 23 (by decide) 8).trans ((F_75.1 23 (by decide) 8).trans hi_43)), hI_93, rfl, lv_sub hl [0, 1, 2, 3, 4] rfl⟩ G
          · refine lv_aload_n hx hb dX7_parse_100 rfl (lv_at hl 1 rfl) ?_
            refine lv_sipush (v := iv 200) hx hb dX7_parse_101 rfl ?_
            have e_113 : μ73.1 26 11 = μL29.1 26 11 := hs_80
            have e_114 : μ73.1 26 11 = μL29.1 26 11 := hs_80
            have e_115 : μ73.1 26 6 = μL29.1 26 6 := hs_81
            have e_116 : μ73.1 26 7 = μL29.1 26 7 := hs_82
            have e_117 : μ73.1 26 8 = μL29.1 26 8 := hs_83
            have e_118 : μ73.1 26 9 = μL29.1 26 9 := hs_84
            refine xc_iV G (b := 23) (rest := []) (As := [.int (iv 200)]) (c_X7_took_b ω l μ73 200 (by unfold ir; omega) hI_76 hp_77 (by omega)) (wm 3 160 rfl rfl) (wm 3 162 rfl rfl) (wm 0 9 rfl rfl) rfl rfl (by decide) rfl (wm 1 12 rfl rfl) (wm 3 163 rfl rfl) (by decide) hR (by decide) (n := 1) rfl rfl (Nat.le_of_ble_eq_true rfl) hl.1 dX7_parse_104 (fun r_120 μ119 ρ d0 H locs hr_r_120 hp G => ?_)
            have hr_r_120 : -2147483648 ≤ r_120 ∧ r_120 ≤ 2147483647 := hr_r_120
            obtain ⟨F_121, hI_122, hp_123, hp_124, hp_125, hs_126, hs_127, hs_128, hs_129, hs_130⟩ := hp
            have hn_131 : -1 ≤ μ119.1 26 10 ∧ μ119.1 26 10 ≤ 3000 := hI_122.nm.2.2.2.2.2.2.2.2.2.2.2.2
            have htb_132 := hp_123.b
            refine xb_if_eq (tgt := 117) hx hb (by unfold ir; omega) dX7_parse_107 (by decide) (fun c_107 => ?_) (fun c_107 => ?_)
            · refine lv_aload_n hx hb dX7_parse_117 rfl (lv_at hl 1 rfl) ?_
              refine xa_getr G fd_X7 (a := 23) (x := 26) 0 rfl (by decide) rfl (wm 2 17 rfl rfl) ⟨rfl, rfl, rfl⟩ dX7_parse_118 rfl (G.sk 23 rfl) (by decide) rfl ?_
              have e_133 : μ119.1 26 6 = μL29.1 26 6 := (hs_127.trans hs_81)
              have e_134 : μ119.1 26 7 = μL29.1 26 7 := (hs_128.trans hs_82)
              have e_135 : μ119.1 26 8 = μL29.1 26 8 := (hs_129.trans hs_83)
              have e_136 : μ119.1 26 9 = μL29.1 26 9 := (hs_130.trans hs_84)
              refine xc_vV G (b := 26) (rest := []) (As := []) (c_X10_stop ω l μ119  hI_122) (wm 3 173 rfl rfl) (wm 3 174 rfl rfl) (wm 3 175 rfl rfl) rfl rfl (by decide) rfl (wm 1 13 rfl rfl) (wm 3 176 rfl rfl) (by decide) hR (by decide) (n := 0) rfl rfl (Nat.le_of_ble_eq_true rfl) hl.1 dX7_parse_121 (fun μ137 ρ d0 H locs hp G => ?_)
              obtain ⟨F_138, hI_139, hp_140, hp_141, hs_142, hs_143, hs_144, hs_145, hs_146, hs_147, hs_148⟩ := hp
              have htk_149 : TK μ137 := TK.st hp_123 F_138 hp_140 hp_141 (((hs_142.trans (hs_127.trans hs_81))).trans ((hs_127.trans hs_81)).symm) hs_146 hs_147
              refine lv_iinc (v := iv (i9 + 1)) (lv' := [(4, .int (iv (i9 + 1))), (0, .ref (oP ω 23)), (1, .int (iv x1)), (2, .int (iv x2)), (3, .ref (oP ω P))]) hx hb dX7_parse_124 hl (k := 0) rfl (by rw [show Int32.ofInt 1 = iv 1 from rfl, iv_add]) (by decide) rfl (fun ls hl => ?_)
              refine lv_goto (tgt := 47) hx hb dX7_parse_127 (by decide) ?_
              have e_150 : μ137.1 P 1 = μL29.1 P 1 := ((F_138.1 P (ni hprP (fun P => P) (fun P => [26]) rfl) 1).trans ((F_121.1 P (ni hprP (fun P => P) (fun P => [26]) rfl) 1).trans (F_75.1 P (ni hprP (fun P => P) (fun P => [26]) rfl) 1)))
              have e_151 : μ137.1 26 10 = μ119.1 26 10 := hs_146
              have e_152 : μ137.1 (P + 2) 3 = μL29.1 (P + 2) 3 := ((F_138.1 (P + 2) (ni hprP (fun P => P + 2) (fun P => [26]) rfl) 3).trans ((F_121.1 (P + 2) (ni hprP (fun P => P + 2) (fun P => [26]) rfl) 3).trans (F_75.1 (P + 2) (ni hprP (fun P => P + 2) (fun P => [26]) rfl) 3)))
              have e_153 : μ137.1 P 1 = μL29.1 P 1 := ((F_138.1 P (ni hprP (fun P => P) (fun P => [26]) rfl) 1).trans ((F_121.1 P (ni hprP (fun P => P) (fun P => [26]) rfl) 1).trans (F_75.1 P (ni hprP (fun P => P) (fun P => [26]) rfl) 1)))
              have e_154 : μ137.1 23 9 = μL29.1 23 9 := ((F_138.1 23 (by decide) 9).trans ((F_121.1 23 (by decide) 9).trans (F_75.1 23 (by decide) 9)))
              have e_155 : μ137.1 23 7 = μL29.1 23 7 := ((F_138.1 23 (by decide) 7).trans ((F_121.1 23 (by decide) 7).trans (F_75.1 23 (by decide) 7)))
              have e_156 : μ137.1 23 7 = μL29.1 23 7 := ((F_138.1 23 (by decide) 7).trans ((F_121.1 23 (by decide) 7).trans (F_75.1 23 (by decide) 7)))
              have hvr_157 : vrk μ137 := vrk.fP (P := P) (L := fun P => [26]) hprP rfl (Fr.tr (Fr.tr (Fr.tr Fr.rf F_75 (by decide)) F_121 (by decide)) F_138 (by decide)) hi_40
              have htP_158 : ∀ _ : Unit, μ137.1 26 11 = 0 → PG μ137 P x1 := fun _ h0 => PG.fr (K := [26]) (hi_41 () (by have h9 : μL29.1 26 11 = μL29.1 26 11 := rfl; have h8 : μ137.1 26 11 = μ137.1 26 11 := rfl; omega)) (Fr.tr (Fr.tr (Fr.tr Fr.rf F_75 (by decide)) F_121 (by decide)) F_138 (by decide)) (ni hprP (fun P => P) (fun P => [26]) rfl) (ni hprP (fun P => P + 1) (fun P => [26]) rfl) (ni hprP (fun P => P + 7) (fun P => [26]) rfl)
              exact ih _ _ _ _ _ _ _ (by omega) ⟨i9 + 1, (Fr.tr (Fr.tr (Fr.tr FL30 F_75 (si hprP (fun P => [26]) (fun P => [(P + 2) + 1, (P + 2) + 2, (P + 2) + 3, 2, 23, 24, 25, 26, 3, 4, P, P + 1, P + 2, P + 6, P + 7, P + 8, P + 9]) rfl)) F_121 (si hprP (fun P => [26]) (fun P => [(P + 2) + 1, (P + 2) + 2, (P + 2) + 3, 2, 23, 24, 25, 26, 3, 4, P, P + 1, P + 2, P + 6, P + 7, P + 8, P + 9]) rfl)) F_138 (si hprP (fun P => [26]) (fun P => [(P + 2) + 1, (P + 2) + 2, (P + 2) + 3, 2, 23, 24, 25, 26, 3, 4, P, P + 1, P + 2, P + 6, P + 7, P + 8, P + 9]) rfl)), (by omega), (by omega), (by omega), htk_149, (by omega), (by omega), (by omega), (by omega), hvr_157, (fun _ => (htP_158 ())), ((F_138.1 23 (by decide) 2).trans ((F_121.1 23 (by decide) 2).trans ((F_75.1 23 (by decide) 2).trans hi_42))), ((F_138.1 23 (by decide) 8).trans ((F_121.1 23 (by decide) 8).trans ((F_75.1 23 (by decide) 8).trans hi_43))), hI_139, rfl, lv_sub hl [0, 1, 2, 3, 4] rfl⟩ G
            · refine lv_aload_n hx hb dX7_parse_110 rfl (lv_at hl 1 rfl) ?_
              have e_159 : μ119.1 26 11 = μL29.1 26 11 := (hs_126.trans hs_80)
              have e_160 : μ119.1 26 6 = μL29.1 26 6 := (hs_127.trans hs_81)
              have e_161 : μ119.1 26 7 = μL29.1 26 7 := (hs_128.trans hs_82)
              have e_162 : μ119.1 26 8 = μL29.1 26 8 := (hs_129.trans hs_83)
              have e_163 : μ119.1 26 9 = μL29.1 26 9 := (hs_130.trans hs_84)
              have hn_164 : 0 ≤ μL29.1 2 4 ∧ μL29.1 2 4 ≤ 51 := hi_44.nm.2.2.1
              have e_165 : μ119.1 2 4 = μL29.1 2 4 := ((F_121.1 2 (by decide) 4).trans (F_75.1 2 (by decide) 4))
              refine xc_vV G (b := 23) (rest := []) (As := []) (c_X7_kindUnder ω l μ119  hI_122 hp_123) (wm 4 191 rfl rfl) (wm 4 193 rfl rfl) (wm 0 59 rfl rfl) rfl rfl (by decide) rfl (wm 1 12 rfl rfl) (wm 4 194 rfl rfl) (by decide) hR (by decide) (n := 0) rfl rfl (Nat.le_of_ble_eq_true rfl) hl.1 dX7_parse_111 (fun μ166 ρ d0 H locs hp G => ?_)
              obtain ⟨F_167, hI_168, hp_169, hp_170, hp_171, hs_172, hs_173, hs_174, hs_175, hs_176⟩ := hp
              have hn_177 : -1 ≤ μ166.1 26 10 ∧ μ166.1 26 10 ≤ 3000 := hI_168.nm.2.2.2.2.2.2.2.2.2.2.2.2
              have htb_178 := hp_169.b
              refine lv_goto (tgt := 124) hx hb dX7_parse_114 (by decide) ?_
              refine lv_iinc (v := iv (i9 + 1)) (lv' := [(4, .int (iv (i9 + 1))), (0, .ref (oP ω 23)), (1, .int (iv x1)), (2, .int (iv x2)), (3, .ref (oP ω P))]) hx hb dX7_parse_124 hl (k := 0) rfl (by rw [show Int32.ofInt 1 = iv 1 from rfl, iv_add]) (by decide) rfl (fun ls hl => ?_)
              refine lv_goto (tgt := 47) hx hb dX7_parse_127 (by decide) ?_
              have e_179 : μ166.1 P 1 = μL29.1 P 1 := ((F_167.1 P (ni hprP (fun P => P) (fun P => [26, 2, 3, 4, 24]) rfl) 1).trans ((F_121.1 P (ni hprP (fun P => P) (fun P => [26]) rfl) 1).trans (F_75.1 P (ni hprP (fun P => P) (fun P => [26]) rfl) 1)))
              have e_180 : μ166.1 (P + 2) 3 = μL29.1 (P + 2) 3 := ((F_167.1 (P + 2) (ni hprP (fun P => P + 2) (fun P => [26, 2, 3, 4, 24]) rfl) 3).trans ((F_121.1 (P + 2) (ni hprP (fun P => P + 2) (fun P => [26]) rfl) 3).trans (F_75.1 (P + 2) (ni hprP (fun P => P + 2) (fun P => [26]) rfl) 3)))
              have e_181 : μ166.1 P 1 = μL29.1 P 1 := ((F_167.1 P (ni hprP (fun P => P) (fun P => [26, 2, 3, 4, 24]) rfl) 1).trans ((F_121.1 P (ni hprP (fun P => P) (fun P => [26]) rfl) 1).trans (F_75.1 P (ni hprP (fun P => P) (fun P => [26]) rfl) 1)))
              have e_182 : μ166.1 23 9 = μL29.1 23 9 := ((F_167.1 23 (by decide) 9).trans ((F_121.1 23 (by decide) 9).trans (F_75.1 23 (by decide) 9)))
              have e_183 : μ166.1 23 7 = μL29.1 23 7 := ((F_167.1 23 (by decide) 7).trans ((F_121.1 23 (by decide) 7).trans (F_75.1 23 (by decide) 7)))
              have e_184 : μ166.1 23 7 = μL29.1 23 7 := ((F_167.1 23 (by decide) 7).trans ((F_121.1 23 (by decide) 7).trans (F_75.1 23 (by decide) 7)))
              have hvr_185 : vrk μ166 := vrk.fP (P := P) (L := fun P => [26, 2, 3, 4, 24]) hprP rfl (Fr.tr (Fr.tr (Fr.tr Fr.rf F_75 (by decide)) F_121 (by decide)) F_167 (by decide)) hi_40
              have htP_186 : ∀ _ : Unit, μ166.1 26 11 = 0 → PG μ166 P x1 := fun _ h0 => PG.fr (K := [26, 2, 3, 4, 24]) (hi_41 () (by have h9 : μL29.1 26 11 = μL29.1 26 11 := rfl; have h8 : μ166.1 26 11 = μ166.1 26 11 := rfl; omega)) (Fr.tr (Fr.tr (Fr.tr Fr.rf F_75 (by decide)) F_121 (by decide)) F_167 (by decide)) (ni hprP (fun P => P) (fun P => [26, 2, 3, 4, 24]) rfl) (ni hprP (fun P => P + 1) (fun P => [26, 2, 3, 4, 24]) rfl) (ni hprP (fun P => P + 7) (fun P => [26, 2, 3, 4, 24]) rfl)
              exact ih _ _ _ _ _ _ _ (by omega) ⟨i9 + 1, (Fr.tr (Fr.tr (Fr.tr FL30 F_75 (si hprP (fun P => [26]) (fun P => [(P + 2) + 1, (P + 2) + 2, (P + 2) + 3, 2, 23, 24, 25, 26, 3, 4, P, P + 1, P + 2, P + 6, P + 7, P + 8, P + 9]) rfl)) F_121 (si hprP (fun P => [26]) (fun P => [(P + 2) + 1, (P + 2) + 2, (P + 2) + 3, 2, 23, 24, 25, 26, 3, 4, P, P + 1, P + 2, P + 6, P + 7, P + 8, P + 9]) rfl)) F_167 (si hprP (fun P => [26, 2, 3, 4, 24]) (fun P => [(P + 2) + 1, (P + 2) + 2, (P + 2) + 3, 2, 23, 24, 25, 26, 3, 4, P, P + 1, P + 2, P + 6, P + 7, P + 8, P + 9]) rfl)), (by omega), (by omega), (by omega), hp_169, (by omega), (by omega), (by omega), (by omega), hvr_185, (fun _ => (htP_186 ())), ((F_167.1 23 (by decide) 2).trans ((F_121.1 23 (by decide) 2).trans ((F_75.1 23 (by decide) 2).trans hi_42))), ((F_167.1 23 (by decide) 8).trans ((F_121.1 23 (by decide) 8).trans ((F_75.1 23 (by decide) 8).trans hi_43))), hI_168, rfl, lv_sub hl [0, 1, 2, 3, 4] rfl⟩ G
        · refine lv_aload_n hx hb dX7_parse_86 rfl (lv_at hl 1 rfl) ?_
          have htP_187 : ∀ _ : Unit, μ73.1 26 11 = 0 → PG μ73 P x1 := fun _ h0 => PG.fr (K := [26]) (hi_41 () (by have h9 : μL29.1 26 11 = μL29.1 26 11 := rfl; have h8 : μ73.1 26 11 = μL29.1 26 11 := hs_80; omega)) (Fr.tr Fr.rf F_75 (by decide)) (ni hprP (fun P => P) (fun P => [26]) rfl) (ni hprP (fun P => P + 1) (fun P => [26]) rfl) (ni hprP (fun P => P + 7) (fun P => [26]) rfl)
          have hvr_188 : vrk μ73 := vrk.fP (P := P) (L := fun P => [26]) hprP rfl (Fr.tr Fr.rf F_75 (by decide)) hi_40
          have e_189 : μ73.1 23 2 = P := ((F_75.1 23 (by decide) 2).trans hi_42)
          have e_190 : μ73.1 23 8 = x1 := ((F_75.1 23 (by decide) 8).trans hi_43)
          have hk_191 := hi_44.pr (p := P) hprP
          unfold pk at hk_191
          have hc_192 : 16 ≤ μL29.2.1 (P + 1) ∧ μL29.2.1 (P + 1) ≤ 73024 := hi_44.rm.1 _ hprP.cap
          have e_193 : μ73.1 P 1 = μL29.1 P 1 := (F_75.1 P (ni hprP (fun P => P) (fun P => [26]) rfl) 1)
          have e_194 : μ73.1 26 11 = μL29.1 26 11 := hs_80
          have hk_195 := hi_44.row (r := P + 2) (hprP.row)
          unfold rk at hk_195
          have e_196 : μ73.1 (P + 2) 3 = μL29.1 (P + 2) 3 := (F_75.1 (P + 2) (ni hprP (fun P => P + 2) (fun P => [26]) rfl) 3)
          have e_197 : μ73.1 P 1 = μL29.1 P 1 := (F_75.1 P (ni hprP (fun P => P) (fun P => [26]) rfl) 1)
          have e_198 : μ73.1 23 9 = μL29.1 23 9 := (F_75.1 23 (by decide) 9)
          have e_199 : μ73.1 23 7 = μL29.1 23 7 := (F_75.1 23 (by decide) 7)
          have e_200 : μ73.1 23 7 = μL29.1 23 7 := (F_75.1 23 (by decide) 7)
          have e_201 : μ73.1 26 11 = μL29.1 26 11 := hs_80
          have e_202 : μ73.1 P 1 = μL29.1 P 1 := (F_75.1 P (ni hprP (fun P => P) (fun P => [26]) rfl) 1)
          have e_203 : μ73.1 23 7 = μL29.1 23 7 := (F_75.1 23 (by decide) 7)
          have e_204 : μ73.1 23 2 = P := ((F_75.1 23 (by decide) 2).trans hi_42)
          have e_205 : μ73.1 23 8 = x1 := ((F_75.1 23 (by decide) 8).trans hi_43)
          refine xc_vV G (b := 23) (rest := []) (As := []) (c_X7_function ω l μ73 P x1 hI_76 (by omega) (by omega) hp_77 (by omega) (by omega) (by omega) (by omega) (by omega) hvr_188 (fun _ => (htP_187 ())) (by omega)) (wm 3 165 rfl rfl) (wm 3 167 rfl rfl) (wm 0 10 rfl rfl) rfl rfl (by decide) rfl (wm 1 12 rfl rfl) (wm 3 168 rfl rfl) (by decide) hR (by decide) (n := 0) rfl rfl (Nat.le_of_ble_eq_true rfl) hl.1 dX7_parse_87 (fun μ206 ρ d0 H locs hp G => ?_)
          obtain ⟨F_207, hI_208, hp_209, hp_210, hp_211, hp_212, hp_213, hp_214, hp_215, hp_216, hs_217, hs_218⟩ := hp
          have hn_219 : -1 ≤ μ206.1 26 10 ∧ μ206.1 26 10 ≤ 3000 := hI_208.nm.2.2.2.2.2.2.2.2.2.2.2.2
          have hk_220 := hI_208.pr (p := P) hprP
          unfold pk at hk_220
          have hc_221 : 16 ≤ μ206.2.1 (P + 1) ∧ μ206.2.1 (P + 1) ≤ 73024 := hI_208.rm.1 _ hprP.cap
          have hk_222 := hI_208.row (r := P + 2) (hprP.row)
          unfold rk at hk_222
          have htb_223 := hp_209.b
          refine lv_goto (tgt := 124) hx hb dX7_parse_90 (by decide) ?_
          refine lv_iinc (v := iv (i9 + 1)) (lv' := [(4, .int (iv (i9 + 1))), (0, .ref (oP ω 23)), (1, .int (iv x1)), (2, .int (iv x2)), (3, .ref (oP ω P))]) hx hb dX7_parse_124 hl (k := 0) rfl (by rw [show Int32.ofInt 1 = iv 1 from rfl, iv_add]) (by decide) rfl (fun ls hl => ?_)
          refine lv_goto (tgt := 47) hx hb dX7_parse_127 (by decide) ?_
          exact ih _ _ _ _ _ _ _ (by omega) ⟨i9 + 1, (Fr.tr (Fr.tr FL30 F_75 (si hprP (fun P => [26]) (fun P => [(P + 2) + 1, (P + 2) + 2, (P + 2) + 3, 2, 23, 24, 25, 26, 3, 4, P, P + 1, P + 2, P + 6, P + 7, P + 8, P + 9]) rfl)) F_207 (si hprP (fun P => [2, 3, 4, 23, 24, 25, 26, P, P + 1, P + 2, (P + 2) + 1, (P + 2) + 2, (P + 2) + 3, P + 6, P + 7, P + 8, P + 9]) (fun P => [(P + 2) + 1, (P + 2) + 2, (P + 2) + 3, 2, 23, 24, 25, 26, 3, 4, P, P + 1, P + 2, P + 6, P + 7, P + 8, P + 9]) rfl)), (by omega), (by omega), (by omega), hp_209, (by omega), (by omega), (by omega), (by omega), hp_215, (fun _ => (hp_216 ())), (hs_217.trans ((F_75.1 23 (by decide) 2).trans hi_42)), (hs_218.trans ((F_75.1 23 (by decide) 8).trans hi_43)), hI_208, rfl, lv_sub hl [0, 1, 2, 3, 4] rfl⟩ G

set_option maxHeartbeats 4000000 in
set_option maxRecDepth 100000 in
theorem c_X7_faultKind (ω : Om) (l : Launch) (μ : M3) (hI : IC μ) : CtI ω l yX7_faultKind cX7_faultKind 2 .int 0 0 [.ref (oP ω 23)] μ (fun (r : Int) (μ' : M3) => (μ' = μ) ∧ (0 ≤ r ∧ r ≤ 3) ∧ (∀ _ : Unit, r = 0 → μ.1 24 1 < 0)) := by
  refine CtI.go (by decide) (Nat.le_of_ble_eq_true rfl) (fun ρ p e s m below meth c R ls G hR hret hlk hl => ?_)
  have hx := G.1.1
  have hb := G.1.2.1
  have hl : lv_has ls 2 [(0, .ref (oP ω 23))] := hl
  generalize s.drawn = d0 at G ⊢
  refine lv_iconst (v := iv 1) hx hb dX7_faultKind_0 rfl ?_
  refine lv_istore_n (lv' := [(1, .int (iv 1)), (0, .ref (oP ω 23))]) hx hb dX7_faultKind_1 rfl hl (by decide) rfl (fun ls hl => ?_)
  refine xl (fun n_9 μ' ls => ∃ (i9 : Int), (μ' = μ) ∧ (-2147483648 ≤ i9 ∧ i9 ≤ 2147483647) ∧ (1 ≤ i9) ∧ (i9 ≤ 4) ∧ (∀ _ : Unit, 2 ≤ i9 → μ.1 24 1 < 0) ∧ n_9 = Int.toNat (4 - i9) ∧ lv_has ls 2 [(1, .int (iv i9)), (0, .ref (oP ω 23))]) (fun n_9 ρ μL1 d0 H locs ls hI_l G ih => ?_) _ _ _ _ _ _ _ ⟨1, rfl, (by omega), (by omega), (by omega), (fun _ h9 => absurd h9 (by decide)), rfl, lv_sub hl [0, 1] rfl⟩ G
  obtain ⟨i9, FL2, hi_4, hi_5, hi_6, hi_7, hn3, hl⟩ := hI_l
  have FL2 := Eq.symm FL2
  subst FL2
  refine lv_iload_n hx hb dX7_faultKind_2 rfl (lv_at hl 0 rfl) ?_
  refine lv_iconst (v := iv 3) hx hb dX7_faultKind_3 rfl ?_
  refine xb_icmp_gt (tgt := 24) hx hb (by unfold ir; omega) (by unfold ir; omega) dX7_faultKind_4 (by decide) (fun c_4 => ?_) (fun c_4 => ?_)
  · refine lv_iconst (v := iv 0) hx hb dX7_faultKind_24 rfl ?_
    exact xr_i G (x := 0) hret hlk (by unfold ir; omega) rfl dX7_faultKind_25 ⟨rfl, (by omega), (fun _ h9 => hi_7 () (by omega))⟩
  · refine lv_aload_n hx hb dX7_faultKind_7 rfl (lv_at hl 1 rfl) ?_
    refine xa_getr G fd_X7 (a := 23) (x := 24) 3 rfl (by decide) rfl (wm 2 20 rfl rfl) ⟨rfl, rfl, rfl⟩ dX7_faultKind_8 rfl (G.sk 25 rfl) (by decide) rfl ?_
    refine lv_iload_n hx hb dX7_faultKind_11 rfl (lv_at hl 0 rfl) ?_
    refine xa_iald G (a := 24) (i := i9) rfl (by have h9 := G.lc (a := 24) (n := 4) 14 rfl; omega) dX7_faultKind_12 rfl ?_
    have hr_8 : -2147483648 ≤ μ.1 24 i9 ∧ μ.1 24 i9 ≤ 2147483647 := by have h9 := G.hr (a := 24) (k := i9) rfl; exact h9
    refine xb_if_lt (tgt := 18) hx hb (by unfold ir; omega) dX7_faultKind_13 (by decide) (fun c_13 => ?_) (fun c_13 => ?_)
    · refine lv_iinc (v := iv (i9 + 1)) (lv' := [(1, .int (iv (i9 + 1))), (0, .ref (oP ω 23))]) hx hb dX7_faultKind_18 hl (k := 0) rfl (by rw [show Int32.ofInt 1 = iv 1 from rfl, iv_add]) (by decide) rfl (fun ls hl => ?_)
      refine lv_goto (tgt := 2) hx hb dX7_faultKind_21 (by decide) ?_
      exact ih _ _ _ _ _ _ _ (by omega) ⟨i9 + 1, rfl, (by omega), (by omega), (by omega), (fun _ _ => (Classical.em (i9 = 1)).elim (fun h9 => by have h8 : μ.1 24 i9 < 0 := (by omega); rw [h9] at h8; exact h8) (fun h9 => hi_7 () (by omega))), rfl, lv_sub hl [0, 1] rfl⟩ G
    · refine lv_iload_n hx hb dX7_faultKind_16 rfl (lv_at hl 0 rfl) ?_
      exact xr_i G (x := i9) hret hlk (by unfold ir; omega) rfl dX7_faultKind_17 ⟨rfl, (by omega), (fun _ h9 => absurd h9 (by omega))⟩

set_option maxHeartbeats 4000000 in
set_option maxRecDepth 100000 in
theorem c_X7_faultPlace (ω : Om) (l : Launch) (μ : M3) (hI : IC μ) : CtI ω l yX7_faultPlace cX7_faultPlace 1 .int 1 24 [.ref (oP ω 23)] μ (fun (r : Int) (μ' : M3) => (μ' = μ)) := by
  refine CtI.go (by decide) (Nat.le_of_ble_eq_true rfl) (fun ρ p e s m below meth c R ls G hR hret hlk hl => ?_)
  have hx := G.1.1
  have hb := G.1.2.1
  have hl : lv_has ls 1 [(0, .ref (oP ω 23))] := hl
  generalize s.drawn = d0 at G ⊢
  refine lv_aload_n hx hb dX7_faultPlace_0 rfl (lv_at hl 0 rfl) ?_
  refine xa_getr G fd_X7 (a := 23) (x := 24) 3 rfl (by decide) rfl (wm 2 20 rfl rfl) ⟨rfl, rfl, rfl⟩ dX7_faultPlace_1 rfl (G.sk 25 rfl) (by decide) rfl ?_
  refine lv_aload_n hx hb dX7_faultPlace_4 rfl (lv_at hl 0 rfl) ?_
  refine xc_iV G (b := 23) (rest := [.ref (oP ω 24)]) (As := []) (c_X7_faultKind ω l μ  hI) (wm 4 219 rfl rfl) (wm 4 208 rfl rfl) (wm 4 209 rfl rfl) rfl rfl (by decide) rfl (wm 1 12 rfl rfl) (wm 4 210 rfl rfl) (by decide) hR (by decide) (n := 0) rfl rfl (Nat.le_of_ble_eq_true rfl) hl.1 dX7_faultPlace_5 (fun r_2 μ1 ρ d0 H locs hr_r_2 hp G => ?_)
  have hr_r_2 : -2147483648 ≤ r_2 ∧ r_2 ≤ 2147483647 := hr_r_2
  obtain ⟨hsm_3, hp_4, hp_5⟩ := hp
  have hsm_3 := Eq.symm hsm_3
  subst hsm_3
  refine xa_iald G (a := 24) (i := r_2) rfl (by have h9 := G.lc (a := 24) (n := 4) 14 rfl; omega) dX7_faultPlace_8 rfl ?_
  have hr_6 : -2147483648 ≤ μ.1 24 r_2 ∧ μ.1 24 r_2 ≤ 2147483647 := by have h9 := G.hr (a := 24) (k := r_2) rfl; exact h9
  refine lv_iconst (v := iv 0) hx hb dX7_faultPlace_9 rfl ?_
  refine xm_max G (x := μ.1 24 r_2) (y := 0) (wm 3 213 rfl rfl) (wm 1 148 rfl rfl) (wm 1 11 rfl rfl) (wm 1 149 rfl rfl) hR (by decide) (Nat.le_of_ble_eq_true rfl) hl.1 (by unfold ir; omega) (by unfold ir; omega) dX7_faultPlace_10 ?_
  exact xr_i G (x := max (μ.1 24 r_2) 0) hret hlk (by unfold ir; omega) rfl dX7_faultPlace_13 rfl
