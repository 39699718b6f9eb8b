abbrev cX10_begin : ByteArray := prog_12_method_2_code
def yX10_begin : MethodName := ⟨RX10, "begin", "(II)V"⟩
abbrev cX10_next : ByteArray := prog_12_method_3_code
def yX10_next : MethodName := ⟨RX10, "next", "()V"⟩
abbrev cX10_readToken : ByteArray := prog_12_method_5_code
def yX10_readToken : MethodName := ⟨RX10, "readToken", "()V"⟩
theorem dX10_begin_0 : decode cX10_begin 0 = .ok (.aload_n 0, 1) := by decide +kernel
theorem dX10_begin_1 : decode cX10_begin 1 = .ok (.iload_n 1, 1) := by decide +kernel
theorem dX10_begin_2 : decode cX10_begin 2 = .ok (.putfield 36, 3) := by decide +kernel
theorem dX10_begin_5 : decode cX10_begin 5 = .ok (.aload_n 0, 1) := by decide +kernel
theorem dX10_begin_6 : decode cX10_begin 6 = .ok (.iload_n 2, 1) := by decide +kernel
theorem dX10_begin_7 : decode cX10_begin 7 = .ok (.aload_n 0, 1) := by decide +kernel
theorem dX10_begin_8 : decode cX10_begin 8 = .ok (.getfield 63, 3) := by decide +kernel
theorem dX10_begin_11 : decode cX10_begin 11 = .ok (.arraylength, 1) := by decide +kernel
theorem dX10_begin_12 : decode cX10_begin 12 = .ok (.invokestatic 78, 3) := by decide +kernel
theorem dX10_begin_15 : decode cX10_begin 15 = .ok (.putfield 33, 3) := by decide +kernel
theorem dX10_begin_18 : decode cX10_begin 18 = .ok (.aload_n 0, 1) := by decide +kernel
theorem dX10_begin_19 : decode cX10_begin 19 = .ok (.iconst 0, 1) := by decide +kernel
theorem dX10_begin_20 : decode cX10_begin 20 = .ok (.putfield 39, 3) := by decide +kernel
theorem dX10_begin_23 : decode cX10_begin 23 = .ok (.aload_n 0, 1) := by decide +kernel
theorem dX10_begin_24 : decode cX10_begin 24 = .ok (.iconst 0, 1) := by decide +kernel
theorem dX10_begin_25 : decode cX10_begin 25 = .ok (.putfield 29, 3) := by decide +kernel
theorem dX10_begin_28 : decode cX10_begin 28 = .ok (.aload_n 0, 1) := by decide +kernel
theorem dX10_begin_29 : decode cX10_begin 29 = .ok (.iconst 1, 1) := by decide +kernel
theorem dX10_begin_30 : decode cX10_begin 30 = .ok (.putfield 49, 3) := by decide +kernel
theorem dX10_begin_33 : decode cX10_begin 33 = .ok (.aload_n 0, 1) := by decide +kernel
theorem dX10_begin_34 : decode cX10_begin 34 = .ok (.getfield 29, 3) := by decide +kernel
theorem dX10_begin_37 : decode cX10_begin 37 = .ok (.sipush 3000, 3) := by decide +kernel
theorem dX10_begin_40 : decode cX10_begin 40 = .ok (.if_icmp .gt 87, 3) := by decide +kernel
theorem dX10_begin_43 : decode cX10_begin 43 = .ok (.aload_n 0, 1) := by decide +kernel
theorem dX10_begin_44 : decode cX10_begin 44 = .ok (.getfield 49, 3) := by decide +kernel
theorem dX10_begin_47 : decode cX10_begin 47 = .ok (.ifCond .eq 80, 3) := by decide +kernel
theorem dX10_begin_50 : decode cX10_begin 50 = .ok (.aload_n 0, 1) := by decide +kernel
theorem dX10_begin_51 : decode cX10_begin 51 = .ok (.getfield 49, 3) := by decide +kernel
theorem dX10_begin_54 : decode cX10_begin 54 = .ok (.iconst 3, 1) := by decide +kernel
theorem dX10_begin_55 : decode cX10_begin 55 = .ok (.if_icmp .eq 72, 3) := by decide +kernel
theorem dX10_begin_58 : decode cX10_begin 58 = .ok (.aload_n 0, 1) := by decide +kernel
theorem dX10_begin_59 : decode cX10_begin 59 = .ok (.invokevirtual 84, 3) := by decide +kernel
theorem dX10_begin_62 : decode cX10_begin 62 = .ok (.aload_n 0, 1) := by decide +kernel
theorem dX10_begin_63 : decode cX10_begin 63 = .ok (.getfield 15, 3) := by decide +kernel
theorem dX10_begin_66 : decode cX10_begin 66 = .ok (.aload_n 0, 1) := by decide +kernel
theorem dX10_begin_67 : decode cX10_begin 67 = .ok (.getfield 29, 3) := by decide +kernel
theorem dX10_begin_70 : decode cX10_begin 70 = .ok (.aload_n 0, 1) := by decide +kernel
theorem dX10_begin_71 : decode cX10_begin 71 = .ok (.getfield 49, 3) := by decide +kernel
theorem dX10_begin_74 : decode cX10_begin 74 = .ok (.iastore, 1) := by decide +kernel
theorem dX10_begin_75 : decode cX10_begin 75 = .ok (.aload_n 0, 1) := by decide +kernel
theorem dX10_begin_76 : decode cX10_begin 76 = .ok (.getfield 19, 3) := by decide +kernel
theorem dX10_begin_79 : decode cX10_begin 79 = .ok (.aload_n 0, 1) := by decide +kernel
theorem dX10_begin_80 : decode cX10_begin 80 = .ok (.getfield 29, 3) := by decide +kernel
theorem dX10_begin_83 : decode cX10_begin 83 = .ok (.aload_n 0, 1) := by decide +kernel
theorem dX10_begin_84 : decode cX10_begin 84 = .ok (.getfield 52, 3) := by decide +kernel
theorem dX10_begin_87 : decode cX10_begin 87 = .ok (.iastore, 1) := by decide +kernel
theorem dX10_begin_88 : decode cX10_begin 88 = .ok (.aload_n 0, 1) := by decide +kernel
theorem dX10_begin_89 : decode cX10_begin 89 = .ok (.getfield 22, 3) := by decide +kernel
theorem dX10_begin_92 : decode cX10_begin 92 = .ok (.aload_n 0, 1) := by decide +kernel
theorem dX10_begin_93 : decode cX10_begin 93 = .ok (.getfield 29, 3) := by decide +kernel
theorem dX10_begin_96 : decode cX10_begin 96 = .ok (.aload_n 0, 1) := by decide +kernel
theorem dX10_begin_97 : decode cX10_begin 97 = .ok (.getfield 55, 3) := by decide +kernel
theorem dX10_begin_100 : decode cX10_begin 100 = .ok (.lastore, 1) := by decide +kernel
theorem dX10_begin_101 : decode cX10_begin 101 = .ok (.aload_n 0, 1) := by decide +kernel
theorem dX10_begin_102 : decode cX10_begin 102 = .ok (.getfield 25, 3) := by decide +kernel
theorem dX10_begin_105 : decode cX10_begin 105 = .ok (.aload_n 0, 1) := by decide +kernel
theorem dX10_begin_106 : decode cX10_begin 106 = .ok (.getfield 29, 3) := by decide +kernel
theorem dX10_begin_109 : decode cX10_begin 109 = .ok (.aload_n 0, 1) := by decide +kernel
theorem dX10_begin_110 : decode cX10_begin 110 = .ok (.getfield 59, 3) := by decide +kernel
theorem dX10_begin_113 : decode cX10_begin 113 = .ok (.dastore, 1) := by decide +kernel
theorem dX10_begin_114 : decode cX10_begin 114 = .ok (.aload_n 0, 1) := by decide +kernel
theorem dX10_begin_115 : decode cX10_begin 115 = .ok (.dup, 1) := by decide +kernel
theorem dX10_begin_116 : decode cX10_begin 116 = .ok (.getfield 29, 3) := by decide +kernel
theorem dX10_begin_119 : decode cX10_begin 119 = .ok (.iconst 1, 1) := by decide +kernel
theorem dX10_begin_120 : decode cX10_begin 120 = .ok (.iadd, 1) := by decide +kernel
theorem dX10_begin_121 : decode cX10_begin 121 = .ok (.putfield 29, 3) := by decide +kernel
theorem dX10_begin_124 : decode cX10_begin 124 = .ok (.goto (-91), 3) := by decide +kernel
theorem dX10_begin_127 : decode cX10_begin 127 = .ok (.aload_n 0, 1) := by decide +kernel
theorem dX10_begin_128 : decode cX10_begin 128 = .ok (.iconst 0, 1) := by decide +kernel
theorem dX10_begin_129 : decode cX10_begin 129 = .ok (.putfield 45, 3) := by decide +kernel
theorem dX10_begin_132 : decode cX10_begin 132 = .ok (.aload_n 0, 1) := by decide +kernel
theorem dX10_begin_133 : decode cX10_begin 133 = .ok (.iconst (-1), 1) := by decide +kernel
theorem dX10_begin_134 : decode cX10_begin 134 = .ok (.putfield 42, 3) := by decide +kernel
theorem dX10_begin_137 : decode cX10_begin 137 = .ok (.aload_n 0, 1) := by decide +kernel
theorem dX10_begin_138 : decode cX10_begin 138 = .ok (.invokevirtual 87, 3) := by decide +kernel
theorem dX10_begin_141 : decode cX10_begin 141 = .ok (.return_, 1) := by decide +kernel
theorem dX10_next_0 : decode cX10_next 0 = .ok (.aload_n 0, 1) := by decide +kernel
theorem dX10_next_1 : decode cX10_next 1 = .ok (.getfield 45, 3) := by decide +kernel
theorem dX10_next_4 : decode cX10_next 4 = .ok (.ifCond .eq 4, 3) := by decide +kernel
theorem dX10_next_7 : decode cX10_next 7 = .ok (.return_, 1) := by decide +kernel
theorem dX10_next_8 : decode cX10_next 8 = .ok (.aload_n 0, 1) := by decide +kernel
theorem dX10_next_9 : decode cX10_next 9 = .ok (.getfield 42, 3) := by decide +kernel
theorem dX10_next_12 : decode cX10_next 12 = .ok (.aload_n 0, 1) := by decide +kernel
theorem dX10_next_13 : decode cX10_next 13 = .ok (.getfield 29, 3) := by decide +kernel
theorem dX10_next_16 : decode cX10_next 16 = .ok (.iconst 1, 1) := by decide +kernel
theorem dX10_next_17 : decode cX10_next 17 = .ok (.isub, 1) := by decide +kernel
theorem dX10_next_18 : decode cX10_next 18 = .ok (.if_icmp .ge 13, 3) := by decide +kernel
theorem dX10_next_21 : decode cX10_next 21 = .ok (.aload_n 0, 1) := by decide +kernel
theorem dX10_next_22 : decode cX10_next 22 = .ok (.dup, 1) := by decide +kernel
theorem dX10_next_23 : decode cX10_next 23 = .ok (.getfield 42, 3) := by decide +kernel
theorem dX10_next_26 : decode cX10_next 26 = .ok (.iconst 1, 1) := by decide +kernel
theorem dX10_next_27 : decode cX10_next 27 = .ok (.iadd, 1) := by decide +kernel
theorem dX10_next_28 : decode cX10_next 28 = .ok (.putfield 42, 3) := by decide +kernel
theorem dX10_next_31 : decode cX10_next 31 = .ok (.aload_n 0, 1) := by decide +kernel
theorem dX10_next_32 : decode cX10_next 32 = .ok (.aload_n 0, 1) := by decide +kernel
theorem dX10_next_33 : decode cX10_next 33 = .ok (.getfield 15, 3) := by decide +kernel
theorem dX10_next_36 : decode cX10_next 36 = .ok (.aload_n 0, 1) := by decide +kernel
theorem dX10_next_37 : decode cX10_next 37 = .ok (.getfield 42, 3) := by decide +kernel
theorem dX10_next_40 : decode cX10_next 40 = .ok (.iaload, 1) := by decide +kernel
theorem dX10_next_41 : decode cX10_next 41 = .ok (.putfield 49, 3) := by decide +kernel
theorem dX10_next_44 : decode cX10_next 44 = .ok (.aload_n 0, 1) := by decide +kernel
theorem dX10_next_45 : decode cX10_next 45 = .ok (.aload_n 0, 1) := by decide +kernel
theorem dX10_next_46 : decode cX10_next 46 = .ok (.getfield 19, 3) := by decide +kernel
theorem dX10_next_49 : decode cX10_next 49 = .ok (.aload_n 0, 1) := by decide +kernel
theorem dX10_next_50 : decode cX10_next 50 = .ok (.getfield 42, 3) := by decide +kernel
theorem dX10_next_53 : decode cX10_next 53 = .ok (.iaload, 1) := by decide +kernel
theorem dX10_next_54 : decode cX10_next 54 = .ok (.putfield 52, 3) := by decide +kernel
theorem dX10_next_57 : decode cX10_next 57 = .ok (.aload_n 0, 1) := by decide +kernel
theorem dX10_next_58 : decode cX10_next 58 = .ok (.aload_n 0, 1) := by decide +kernel
theorem dX10_next_59 : decode cX10_next 59 = .ok (.getfield 22, 3) := by decide +kernel
theorem dX10_next_62 : decode cX10_next 62 = .ok (.aload_n 0, 1) := by decide +kernel
theorem dX10_next_63 : decode cX10_next 63 = .ok (.getfield 42, 3) := by decide +kernel
theorem dX10_next_66 : decode cX10_next 66 = .ok (.laload, 1) := by decide +kernel
theorem dX10_next_67 : decode cX10_next 67 = .ok (.putfield 55, 3) := by decide +kernel
theorem dX10_next_70 : decode cX10_next 70 = .ok (.aload_n 0, 1) := by decide +kernel
theorem dX10_next_71 : decode cX10_next 71 = .ok (.aload_n 0, 1) := by decide +kernel
theorem dX10_next_72 : decode cX10_next 72 = .ok (.getfield 25, 3) := by decide +kernel
theorem dX10_next_75 : decode cX10_next 75 = .ok (.aload_n 0, 1) := by decide +kernel
theorem dX10_next_76 : decode cX10_next 76 = .ok (.getfield 42, 3) := by decide +kernel
theorem dX10_next_79 : decode cX10_next 79 = .ok (.daload, 1) := by decide +kernel
theorem dX10_next_80 : decode cX10_next 80 = .ok (.putfield 59, 3) := by decide +kernel
theorem dX10_next_83 : decode cX10_next 83 = .ok (.return_, 1) := by decide +kernel
theorem dX10_readToken_0 : decode cX10_readToken 0 = .ok (.aload_n 0, 1) := by decide +kernel
theorem dX10_readToken_1 : decode cX10_readToken 1 = .ok (.getfield 39, 3) := by decide +kernel
theorem dX10_readToken_4 : decode cX10_readToken 4 = .ok (.aload_n 0, 1) := by decide +kernel
theorem dX10_readToken_5 : decode cX10_readToken 5 = .ok (.getfield 33, 3) := by decide +kernel
theorem dX10_readToken_8 : decode cX10_readToken 8 = .ok (.if_icmp .ge 42, 3) := by decide +kernel
theorem dX10_readToken_11 : decode cX10_readToken 11 = .ok (.aload_n 0, 1) := by decide +kernel
theorem dX10_readToken_12 : decode cX10_readToken 12 = .ok (.aload_n 0, 1) := by decide +kernel
theorem dX10_readToken_13 : decode cX10_readToken 13 = .ok (.getfield 39, 3) := by decide +kernel
theorem dX10_readToken_16 : decode cX10_readToken 16 = .ok (.invokevirtual 90, 3) := by decide +kernel
theorem dX10_readToken_19 : decode cX10_readToken 19 = .ok (.bipush 32, 2) := by decide +kernel
theorem dX10_readToken_21 : decode cX10_readToken 21 = .ok (.if_icmp .eq 16, 3) := by decide +kernel
theorem dX10_readToken_24 : decode cX10_readToken 24 = .ok (.aload_n 0, 1) := by decide +kernel
theorem dX10_readToken_25 : decode cX10_readToken 25 = .ok (.aload_n 0, 1) := by decide +kernel
theorem dX10_readToken_26 : decode cX10_readToken 26 = .ok (.getfield 39, 3) := by decide +kernel
theorem dX10_readToken_29 : decode cX10_readToken 29 = .ok (.invokevirtual 90, 3) := by decide +kernel
theorem dX10_readToken_32 : decode cX10_readToken 32 = .ok (.bipush 10, 2) := by decide +kernel
theorem dX10_readToken_34 : decode cX10_readToken 34 = .ok (.if_icmp .ne 16, 3) := by decide +kernel
theorem dX10_readToken_37 : decode cX10_readToken 37 = .ok (.aload_n 0, 1) := by decide +kernel
theorem dX10_readToken_38 : decode cX10_readToken 38 = .ok (.dup, 1) := by decide +kernel
theorem dX10_readToken_39 : decode cX10_readToken 39 = .ok (.getfield 39, 3) := by decide +kernel
theorem dX10_readToken_42 : decode cX10_readToken 42 = .ok (.iconst 1, 1) := by decide +kernel
theorem dX10_readToken_43 : decode cX10_readToken 43 = .ok (.iadd, 1) := by decide +kernel
theorem dX10_readToken_44 : decode cX10_readToken 44 = .ok (.putfield 39, 3) := by decide +kernel
theorem dX10_readToken_47 : decode cX10_readToken 47 = .ok (.goto (-47), 3) := by decide +kernel
theorem dX10_readToken_50 : decode cX10_readToken 50 = .ok (.aload_n 0, 1) := by decide +kernel
theorem dX10_readToken_51 : decode cX10_readToken 51 = .ok (.aload_n 0, 1) := by decide +kernel
theorem dX10_readToken_52 : decode cX10_readToken 52 = .ok (.getfield 39, 3) := by decide +kernel
theorem dX10_readToken_55 : decode cX10_readToken 55 = .ok (.putfield 52, 3) := by decide +kernel
theorem dX10_readToken_58 : decode cX10_readToken 58 = .ok (.aload_n 0, 1) := by decide +kernel
theorem dX10_readToken_59 : decode cX10_readToken 59 = .ok (.lconst 0, 1) := by decide +kernel
theorem dX10_readToken_60 : decode cX10_readToken 60 = .ok (.putfield 55, 3) := by decide +kernel
theorem dX10_readToken_63 : decode cX10_readToken 63 = .ok (.aload_n 0, 1) := by decide +kernel
theorem dX10_readToken_64 : decode cX10_readToken 64 = .ok (.aload_n 0, 1) := by decide +kernel
theorem dX10_readToken_65 : decode cX10_readToken 65 = .ok (.getfield 39, 3) := by decide +kernel
theorem dX10_readToken_68 : decode cX10_readToken 68 = .ok (.invokevirtual 90, 3) := by decide +kernel
theorem dX10_readToken_71 : decode cX10_readToken 71 = .ok (.istore_n 1, 1) := by decide +kernel
theorem dX10_readToken_72 : decode cX10_readToken 72 = .ok (.iload_n 1, 1) := by decide +kernel
theorem dX10_readToken_73 : decode cX10_readToken 73 = .ok (.ifCond .ge 11, 3) := by decide +kernel
theorem dX10_readToken_76 : decode cX10_readToken 76 = .ok (.aload_n 0, 1) := by decide +kernel
theorem dX10_readToken_77 : decode cX10_readToken 77 = .ok (.iconst 0, 1) := by decide +kernel
theorem dX10_readToken_78 : decode cX10_readToken 78 = .ok (.putfield 49, 3) := by decide +kernel
theorem dX10_readToken_81 : decode cX10_readToken 81 = .ok (.goto 36, 3) := by decide +kernel
theorem dX10_readToken_84 : decode cX10_readToken 84 = .ok (.iload_n 1, 1) := by decide +kernel
theorem dX10_readToken_85 : decode cX10_readToken 85 = .ok (.invokestatic 94, 3) := by decide +kernel
theorem dX10_readToken_88 : decode cX10_readToken 88 = .ok (.ifCond .eq 10, 3) := by decide +kernel
theorem dX10_readToken_91 : decode cX10_readToken 91 = .ok (.aload_n 0, 1) := by decide +kernel
theorem dX10_readToken_92 : decode cX10_readToken 92 = .ok (.invokevirtual 98, 3) := by decide +kernel
theorem dX10_readToken_95 : decode cX10_readToken 95 = .ok (.goto 22, 3) := by decide +kernel
theorem dX10_readToken_98 : decode cX10_readToken 98 = .ok (.iload_n 1, 1) := by decide +kernel
theorem dX10_readToken_99 : decode cX10_readToken 99 = .ok (.invokestatic 101, 3) := by decide +kernel
theorem dX10_readToken_102 : decode cX10_readToken 102 = .ok (.ifCond .eq 10, 3) := by decide +kernel
theorem dX10_readToken_105 : decode cX10_readToken 105 = .ok (.aload_n 0, 1) := by decide +kernel
theorem dX10_readToken_106 : decode cX10_readToken 106 = .ok (.invokevirtual 104, 3) := by decide +kernel
theorem dX10_readToken_109 : decode cX10_readToken 109 = .ok (.goto 8, 3) := by decide +kernel
theorem dX10_readToken_112 : decode cX10_readToken 112 = .ok (.aload_n 0, 1) := by decide +kernel
theorem dX10_readToken_113 : decode cX10_readToken 113 = .ok (.iload_n 1, 1) := by decide +kernel
theorem dX10_readToken_114 : decode cX10_readToken 114 = .ok (.invokevirtual 107, 3) := by decide +kernel
theorem dX10_readToken_117 : decode cX10_readToken 117 = .ok (.return_, 1) := by decide +kernel
set_option maxHeartbeats 4000000 in
set_option maxRecDepth 100000 in
theorem c_X10_readToken (ω : Om) (l : Launch) (μ : M3) (hI : IC μ) : CtV ω l yX10_readToken cX10_readToken 2 5 113 [.ref (oP ω 26)] μ (fun (μ' : M3) => (Fr [26] μ μ') ∧ (IC μ') ∧ (μ'.1 26 12 = 0 ∨ μ'.1 26 12 = 3 ∨ μ.1 26 9 < μ'.1 26 9) ∧ (μ.1 26 9 ≤ μ'.1 26 9) ∧ (0 ≤ μ'.1 26 13) ∧ (μ'.1 26 6 = μ.1 26 6) ∧ (μ'.1 26 7 = μ.1 26 7) ∧ (μ'.1 26 8 = μ.1 26 8) ∧ (μ'.1 26 10 = μ.1 26 10) ∧ (μ'.1 26 11 = μ.1 26 11)) := by
  refine CtV.go (by decide) (Nat.le_of_ble_eq_true rfl) (fun ρ p e s m below meth c R ls G hR hret hlk hl => ?_)
  have hx := G.1.1
  have hb := G.1.2.1
  have hl : lv_has ls 2 [(0, .ref (oP ω 26))] := hl
  generalize s.drawn = d0 at G ⊢
  have hn_1 : 0 ≤ μ.1 26 7 ∧ μ.1 26 7 ≤ 3000 := hI.nm.2.2.2.2.2.2.2.2.2.2.1
  have hn_2 : 0 ≤ μ.1 26 9 ∧ μ.1 26 9 ≤ 3000 := hI.nm.2.2.2.2.2.2.2.2.2.2.2.1
  refine xl (fun n_9 μ' ls => (Fr [26] μ μ') ∧ (μ.1 26 9 ≤ μ'.1 26 9) ∧ (μ'.1 26 6 = μ.1 26 6) ∧ (μ'.1 26 7 = μ.1 26 7) ∧ (μ'.1 26 8 = μ.1 26 8) ∧ (μ'.1 26 10 = μ.1 26 10) ∧ (μ'.1 26 11 = μ.1 26 11) ∧ (IC μ') ∧ n_9 = Int.toNat (3000 - μ'.1 26 9) ∧ lv_has ls 2 [(0, .ref (oP ω 26))]) (fun n_9 ρ μL3 d0 H locs ls hI_l G ih => ?_) _ _ _ _ _ _ _ ⟨Fr.rf, (by omega), rfl, rfl, rfl, rfl, rfl, hI, rfl, lv_sub hl [0] rfl⟩ G
  obtain ⟨FL4, hi_6, hi_7, hi_8, hi_9, hi_10, hi_11, hi_12, hn5, hl⟩ := hI_l
  have hn_13 : 0 ≤ μL3.1 26 9 ∧ μL3.1 26 9 ≤ 3000 := hi_12.nm.2.2.2.2.2.2.2.2.2.2.2.1
  refine lv_aload_n hx hb dX10_readToken_0 rfl (lv_at hl 0 rfl) ?_
  refine xa_geti G fd_X10 (a := 26) (x := μL3.1 26 9) 9 rfl (by decide) rfl (wm 1 213 rfl rfl) ⟨rfl, rfl, rfl⟩ dX10_readToken_1 rfl rfl ?_
  have hr_14 : -2147483648 ≤ μL3.1 26 9 ∧ μL3.1 26 9 ≤ 2147483647 := by have h9 := G.hr (a := 26) (k := 9) rfl; exact h9
  refine lv_aload_n hx hb dX10_readToken_4 rfl (lv_at hl 0 rfl) ?_
  refine xa_geti G fd_X10 (a := 26) (x := μ.1 26 7) 7 rfl (by decide) rfl (wm 1 211 rfl rfl) ⟨rfl, rfl, rfl⟩ dX10_readToken_5 rfl hi_8 ?_
  have hr_15 : -2147483648 ≤ μ.1 26 7 ∧ μ.1 26 7 ≤ 2147483647 := by have h9 := G.hr (a := 26) (k := 7) rfl; rw [show μL3.1 26 7 = μ.1 26 7 from hi_8] at h9; exact h9
  refine xb_icmp_ge (tgt := 50) hx hb (by unfold ir; omega) (by unfold ir; omega) dX10_readToken_8 (by decide) (fun c_8 => ?_) (fun c_8 => ?_)
  · refine lv_aload_n hx hb dX10_readToken_50 rfl (lv_at hl 0 rfl) ?_
    refine lv_aload_n hx hb dX10_readToken_51 rfl (lv_at hl 0 rfl) ?_
    refine xa_geti G fd_X10 (a := 26) (x := μL3.1 26 9) 9 rfl (by decide) rfl (wm 1 213 rfl rfl) ⟨rfl, rfl, rfl⟩ dX10_readToken_52 rfl rfl ?_
    refine xa_puti G fd_X10 (a := 26) (x := μL3.1 26 9) 13 (kz := 13) rfl rfl (by decide) rfl (by unfold ir; omega) (wm 1 218 rfl rfl) ⟨rfl, rfl, rfl, rfl⟩ rfl dX10_readToken_55 rfl (fun H locs G => ?_)
    refine lv_aload_n hx hb dX10_readToken_58 rfl (lv_at hl 0 rfl) ?_
    refine lv_lconst (v := jv 0) hx hb dX10_readToken_59 rfl ?_
    refine xa_putl G fd_X10 (a := 26) (x := 0) 14 (kz := 14) rfl rfl (by decide) rfl (by unfold jr; omega) (wm 1 220 rfl rfl) ⟨rfl, rfl, rfl, rfl⟩ rfl dX10_readToken_60 rfl (fun H locs G => ?_)
    refine lv_aload_n hx hb dX10_readToken_63 rfl (lv_at hl 0 rfl) ?_
    refine lv_aload_n hx hb dX10_readToken_64 rfl (lv_at hl 0 rfl) ?_
    refine xa_geti G fd_X10 (a := 26) (x := μL3.1 26 9) 9 rfl (by decide) rfl (wm 1 213 rfl rfl) ⟨rfl, rfl, rfl⟩ dX10_readToken_65 rfl ((sv_n _ (by decide)).trans (sv_n _ (by decide))) ?_
    have hI_16 : IC (sv (sv μL3 26 13 (μL3.1 26 9)) 26 14 0) := (IC.put (IC.put hi_12 (by decide +kernel)) (by decide +kernel))
    have e_17 : (sv (sv μL3 26 13 (μL3.1 26 9)) 26 14 0).1 26 7 = μ.1 26 7 := ((sv_n _ (by decide)).trans ((sv_n _ (by decide)).trans hi_8))
    refine xc_iV G (b := 26) (rest := []) (As := [.int (iv (μL3.1 26 9))]) (c_X10_byteAt ω l (sv (sv μL3 26 13 (μL3.1 26 9)) 26 14 0) (μL3.1 26 9) (by unfold ir; omega) hI_16) (wm 3 58 rfl rfl) (wm 3 60 rfl rfl) (wm 0 2 rfl rfl) rfl rfl (by decide) rfl (wm 1 13 rfl rfl) (wm 3 61 rfl rfl) (by decide) hR (by decide) (n := 1) rfl rfl (Nat.le_of_ble_eq_true rfl) hl.1 dX10_readToken_68 (fun r_19 μ18 ρ d0 H locs hr_r_19 hp G => ?_)
    have hr_r_19 : -2147483648 ≤ r_19 ∧ r_19 ≤ 2147483647 := hr_r_19
    obtain ⟨hsm_20, hp_21, hp_22⟩ := hp
    have hsm_20 := Eq.symm hsm_20
    subst hsm_20
    refine lv_istore_n (lv' := [(1, .int (iv r_19)), (0, .ref (oP ω 26))]) hx hb dX10_readToken_71 rfl hl (by decide) rfl (fun ls hl => ?_)
    refine lv_iload_n hx hb dX10_readToken_72 rfl (lv_at hl 0 rfl) ?_
    refine xb_if_ge (tgt := 84) hx hb (by unfold ir; omega) dX10_readToken_73 (by decide) (fun c_73 => ?_) (fun c_73 => ?_)
    · refine lv_iload_n hx hb dX10_readToken_84 rfl (lv_at hl 0 rfl) ?_
      refine xc_iS G (rest := []) (As := [.int (iv r_19)]) (c_X10_isLetter ω l (sv (sv μL3 26 13 (μL3.1 26 9)) 26 14 0) r_19 (by unfold ir; omega)) (wm 3 62 rfl rfl) (wm 3 63 rfl rfl) (wm 1 13 rfl rfl) (wm 3 64 rfl rfl) (by decide) hR (by decide) (n := 1) rfl rfl (Nat.le_of_ble_eq_true rfl) hl.1 dX10_readToken_85 (fun r_24 μ23 ρ d0 H locs hr_r_24 hp G => ?_)
      have hr_r_24 : -2147483648 ≤ r_24 ∧ r_24 ≤ 2147483647 := hr_r_24
      obtain ⟨hsm_25, hp_26⟩ := hp
      have hsm_25 := Eq.symm hsm_25
      subst hsm_25
      refine xb_if_eq (tgt := 98) hx hb (by unfold ir; omega) dX10_readToken_88 (by decide) (fun c_88 => ?_) (fun c_88 => ?_)
      · refine lv_iload_n hx hb dX10_readToken_98 rfl (lv_at hl 0 rfl) ?_
        refine xc_iS G (rest := []) (As := [.int (iv r_19)]) (c_X10_isDigit ω l (sv (sv μL3 26 13 (μL3.1 26 9)) 26 14 0) r_19 (by unfold ir; omega)) (wm 3 69 rfl rfl) (wm 3 70 rfl rfl) (wm 1 13 rfl rfl) (wm 3 71 rfl rfl) (by decide) hR (by decide) (n := 1) rfl rfl (Nat.le_of_ble_eq_true rfl) hl.1 dX10_readToken_99 (fun r_28 μ27 ρ d0 H locs hr_r_28 hp G => ?_)
        have hr_r_28 : -2147483648 ≤ r_28 ∧ r_28 ≤ 2147483647 := hr_r_28
        obtain ⟨hsm_29, hp_30⟩ := hp
        have hsm_29 := Eq.symm hsm_29
        subst hsm_29
        refine xb_if_eq (tgt := 112) hx hb (by unfold ir; omega) dX10_readToken_102 (by decide) (fun c_102 => ?_) (fun c_102 => ?_)
        · refine lv_aload_n hx hb dX10_readToken_112 rfl (lv_at hl 1 rfl) ?_
          refine lv_iload_n hx hb dX10_readToken_113 rfl (lv_at hl 0 rfl) ?_
          have e_31 : (sv (sv μL3 26 13 (μL3.1 26 9)) 26 14 0).1 26 9 = μL3.1 26 9 := ((sv_n _ (by decide)).trans (sv_n _ (by decide)))
          have e_32 : (sv (sv μL3 26 13 (μL3.1 26 9)) 26 14 0).1 26 7 = μ.1 26 7 := ((sv_n _ (by decide)).trans ((sv_n _ (by decide)).trans hi_8))
          have e_33 : (sv (sv μL3 26 13 (μL3.1 26 9)) 26 14 0).1 26 9 = μL3.1 26 9 := ((sv_n _ (by decide)).trans (sv_n _ (by decide)))
          have e_34 : (sv (sv μL3 26 13 (μL3.1 26 9)) 26 14 0).1 26 9 = μL3.1 26 9 := ((sv_n _ (by decide)).trans (sv_n _ (by decide)))
          have hn_35 : 0 ≤ μ.1 26 6 ∧ μ.1 26 6 ≤ 3001 := hI.nm.2.2.2.2.2.2.2.2.2.1
          have e_36 : (sv (sv μL3 26 13 (μL3.1 26 9)) 26 14 0).1 26 6 = μ.1 26 6 := ((sv_n _ (by decide)).trans ((sv_n _ (by decide)).trans hi_7))
          have e_37 : (sv (sv μL3 26 13 (μL3.1 26 9)) 26 14 0).1 26 7 = μ.1 26 7 := ((sv_n _ (by decide)).trans ((sv_n _ (by decide)).trans hi_8))
          have e_38 : (sv (sv μL3 26 13 (μL3.1 26 9)) 26 14 0).1 26 8 = μ.1 26 8 := ((sv_n _ (by decide)).trans ((sv_n _ (by decide)).trans hi_9))
          have hn_39 : -1 ≤ μ.1 26 10 ∧ μ.1 26 10 ≤ 3000 := hI.nm.2.2.2.2.2.2.2.2.2.2.2.2
          have e_40 : (sv (sv μL3 26 13 (μL3.1 26 9)) 26 14 0).1 26 10 = μ.1 26 10 := ((sv_n _ (by decide)).trans ((sv_n _ (by decide)).trans hi_10))
          have e_41 : (sv (sv μL3 26 13 (μL3.1 26 9)) 26 14 0).1 26 11 = μ.1 26 11 := ((sv_n _ (by decide)).trans ((sv_n _ (by decide)).trans hi_11))
          have e_42 : (sv (sv μL3 26 13 (μL3.1 26 9)) 26 14 0).1 26 13 = μL3.1 26 9 := ((sv_n _ (by decide)).trans (sv_s _ _ _ _))
          have e_43 : (sv (sv μL3 26 13 (μL3.1 26 9)) 26 14 0).1 26 14 = 0 := (sv_s _ _ _ _)
          refine xc_vV G (b := 26) (rest := []) (As := [.int (iv r_19)]) (c_X10_readSign ω l (sv (sv μL3 26 13 (μL3.1 26 9)) 26 14 0) r_19 (by unfold ir; omega) hI_16 (by omega) (by omega)) (wm 3 96 rfl rfl) (wm 3 98 rfl rfl) (wm 0 8 rfl rfl) rfl rfl (by decide) rfl (wm 1 13 rfl rfl) (wm 3 99 rfl rfl) (by decide) hR (by decide) (n := 1) rfl rfl (Nat.le_of_ble_eq_true rfl) hl.1 dX10_readToken_114 (fun μ44 ρ d0 H locs hp G => ?_)
          obtain ⟨F_45, hI_46, hp_47, hp_48, hs_49, hs_50, hs_51, hs_52, hs_53, hs_54, hs_55⟩ := hp
          have hn_56 : 0 ≤ μ44.1 26 9 ∧ μ44.1 26 9 ≤ 3000 := hI_46.nm.2.2.2.2.2.2.2.2.2.2.2.1
          have e_57 : μ44.1 26 13 = μL3.1 26 9 := (hs_54.trans ((sv_n _ (by decide)).trans (sv_s _ _ _ _)))
          have e_58 : μ44.1 26 6 = μ.1 26 6 := (hs_49.trans ((sv_n _ (by decide)).trans ((sv_n _ (by decide)).trans hi_7)))
          have e_59 : μ44.1 26 7 = μ.1 26 7 := (hs_50.trans ((sv_n _ (by decide)).trans ((sv_n _ (by decide)).trans hi_8)))
          have e_60 : μ44.1 26 8 = μ.1 26 8 := (hs_51.trans ((sv_n _ (by decide)).trans ((sv_n _ (by decide)).trans hi_9)))
          have e_61 : μ44.1 26 10 = μ.1 26 10 := (hs_52.trans ((sv_n _ (by decide)).trans ((sv_n _ (by decide)).trans hi_10)))
          have e_62 : μ44.1 26 11 = μ.1 26 11 := (hs_53.trans ((sv_n _ (by decide)).trans ((sv_n _ (by decide)).trans hi_11)))
          exact xr_v G hret hlk dX10_readToken_117 ⟨(Fr.tr (Fr.put (Fr.put (Fr.tr Fr.rf FL4 (by decide)) (by decide)) (by decide)) F_45 (by decide)), hI_46, (by rcases hp_47 with h9 | h9; exact Or.inr (Or.inl h9); exact Or.inr (Or.inr (by omega))), (by omega), (by omega), (by omega), (by omega), (by omega), (by omega), (by omega)⟩
        · refine lv_aload_n hx hb dX10_readToken_105 rfl (lv_at hl 1 rfl) ?_
          have e_63 : (sv (sv μL3 26 13 (μL3.1 26 9)) 26 14 0).1 26 9 = μL3.1 26 9 := ((sv_n _ (by decide)).trans (sv_n _ (by decide)))
          have e_64 : (sv (sv μL3 26 13 (μL3.1 26 9)) 26 14 0).1 26 9 = μL3.1 26 9 := ((sv_n _ (by decide)).trans (sv_n _ (by decide)))
          have hn_65 : 0 ≤ μ.1 26 6 ∧ μ.1 26 6 ≤ 3001 := hI.nm.2.2.2.2.2.2.2.2.2.1
          have e_66 : (sv (sv μL3 26 13 (μL3.1 26 9)) 26 14 0).1 26 6 = μ.1 26 6 := ((sv_n _ (by decide)).trans ((sv_n _ (by decide)).trans hi_7))
          have e_67 : (sv (sv μL3 26 13 (μL3.1 26 9)) 26 14 0).1 26 7 = μ.1 26 7 := ((sv_n _ (by decide)).trans ((sv_n _ (by decide)).trans hi_8))
          have e_68 : (sv (sv μL3 26 13 (μL3.1 26 9)) 26 14 0).1 26 8 = μ.1 26 8 := ((sv_n _ (by decide)).trans ((sv_n _ (by decide)).trans hi_9))
          have hn_69 : -1 ≤ μ.1 26 10 ∧ μ.1 26 10 ≤ 3000 := hI.nm.2.2.2.2.2.2.2.2.2.2.2.2
          have e_70 : (sv (sv μL3 26 13 (μL3.1 26 9)) 26 14 0).1 26 10 = μ.1 26 10 := ((sv_n _ (by decide)).trans ((sv_n _ (by decide)).trans hi_10))
          have e_71 : (sv (sv μL3 26 13 (μL3.1 26 9)) 26 14 0).1 26 11 = μ.1 26 11 := ((sv_n _ (by decide)).trans ((sv_n _ (by decide)).trans hi_11))
          have e_72 : (sv (sv μL3 26 13 (μL3.1 26 9)) 26 14 0).1 26 13 = μL3.1 26 9 := ((sv_n _ (by decide)).trans (sv_s _ _ _ _))
          refine xc_vV G (b := 26) (rest := []) (As := []) (c_X10_readNumber ω l (sv (sv μL3 26 13 (μL3.1 26 9)) 26 14 0)  hI_16 (by rw [show (sv (sv μL3 26 13 (μL3.1 26 9)) 26 14 0).1 26 9 = μL3.1 26 9 from ((sv_n _ (by decide)).trans (sv_n _ (by decide))), ← hp_21]; omega)) (wm 3 76 rfl rfl) (wm 3 78 rfl rfl) (wm 0 5 rfl rfl) rfl rfl (by decide) rfl (wm 1 13 rfl rfl) (wm 3 79 rfl rfl) (by decide) hR (by decide) (n := 0) rfl rfl (Nat.le_of_ble_eq_true rfl) hl.1 dX10_readToken_106 (fun μ73 ρ d0 H locs hp G => ?_)
          obtain ⟨F_74, hI_75, hp_76, hp_77, hs_78, hs_79, hs_80, hs_81, hs_82, hs_83⟩ := hp
          have hn_84 : 0 ≤ μ73.1 26 9 ∧ μ73.1 26 9 ≤ 3000 := hI_75.nm.2.2.2.2.2.2.2.2.2.2.2.1
          refine lv_goto (tgt := 117) hx hb dX10_readToken_109 (by decide) ?_
          have e_85 : μ73.1 26 13 = μL3.1 26 9 := (hs_83.trans ((sv_n _ (by decide)).trans (sv_s _ _ _ _)))
          have e_86 : μ73.1 26 6 = μ.1 26 6 := (hs_78.trans ((sv_n _ (by decide)).trans ((sv_n _ (by decide)).trans hi_7)))
          have e_87 : μ73.1 26 7 = μ.1 26 7 := (hs_79.trans ((sv_n _ (by decide)).trans ((sv_n _ (by decide)).trans hi_8)))
          have e_88 : μ73.1 26 8 = μ.1 26 8 := (hs_80.trans ((sv_n _ (by decide)).trans ((sv_n _ (by decide)).trans hi_9)))
          have e_89 : μ73.1 26 10 = μ.1 26 10 := (hs_81.trans ((sv_n _ (by decide)).trans ((sv_n _ (by decide)).trans hi_10)))
          have e_90 : μ73.1 26 11 = μ.1 26 11 := (hs_82.trans ((sv_n _ (by decide)).trans ((sv_n _ (by decide)).trans hi_11)))
          exact xr_v G hret hlk dX10_readToken_117 ⟨(Fr.tr (Fr.put (Fr.put (Fr.tr Fr.rf FL4 (by decide)) (by decide)) (by decide)) F_74 (by decide)), hI_75, (by rcases hp_76 with h9 | h9; exact Or.inr (Or.inl h9); exact Or.inr (Or.inr (by omega))), (by omega), (by omega), (by omega), (by omega), (by omega), (by omega), (by omega)⟩
      · refine lv_aload_n hx hb dX10_readToken_91 rfl (lv_at hl 1 rfl) ?_
        have e_91 : (sv (sv μL3 26 13 (μL3.1 26 9)) 26 14 0).1 26 9 = μL3.1 26 9 := ((sv_n _ (by decide)).trans (sv_n _ (by decide)))
        have e_92 : (sv (sv μL3 26 13 (μL3.1 26 9)) 26 14 0).1 26 9 = μL3.1 26 9 := ((sv_n _ (by decide)).trans (sv_n _ (by decide)))
        have hn_93 : 0 ≤ μ.1 26 6 ∧ μ.1 26 6 ≤ 3001 := hI.nm.2.2.2.2.2.2.2.2.2.1
        have e_94 : (sv (sv μL3 26 13 (μL3.1 26 9)) 26 14 0).1 26 6 = μ.1 26 6 := ((sv_n _ (by decide)).trans ((sv_n _ (by decide)).trans hi_7))
        have e_95 : (sv (sv μL3 26 13 (μL3.1 26 9)) 26 14 0).1 26 7 = μ.1 26 7 := ((sv_n _ (by decide)).trans ((sv_n _ (by decide)).trans hi_8))
        have e_96 : (sv (sv μL3 26 13 (μL3.1 26 9)) 26 14 0).1 26 8 = μ.1 26 8 := ((sv_n _ (by decide)).trans ((sv_n _ (by decide)).trans hi_9))
        have hn_97 : -1 ≤ μ.1 26 10 ∧ μ.1 26 10 ≤ 3000 := hI.nm.2.2.2.2.2.2.2.2.2.2.2.2
        have e_98 : (sv (sv μL3 26 13 (μL3.1 26 9)) 26 14 0).1 26 10 = μ.1 26 10 := ((sv_n _ (by decide)).trans ((sv_n _ (by decide)).trans hi_10))
        have e_99 : (sv (sv μL3 26 13 (μL3.1 26 9)) 26 14 0).1 26 11 = μ.1 26 11 := ((sv_n _ (by decide)).trans ((sv_n _ (by decide)).trans hi_11))
        have e_100 : (sv (sv μL3 26 13 (μL3.1 26 9)) 26 14 0).1 26 13 = μL3.1 26 9 := ((sv_n _ (by decide)).trans (sv_s _ _ _ _))
        refine xc_vV G (b := 26) (rest := []) (As := []) (c_X10_readName ω l (sv (sv μL3 26 13 (μL3.1 26 9)) 26 14 0)  hI_16 (by rw [show (sv (sv μL3 26 13 (μL3.1 26 9)) 26 14 0).1 26 9 = μL3.1 26 9 from ((sv_n _ (by decide)).trans (sv_n _ (by decide))), ← hp_21]; omega)) (wm 3 65 rfl rfl) (wm 3 67 rfl rfl) (wm 0 3 rfl rfl) rfl rfl (by decide) rfl (wm 1 13 rfl rfl) (wm 3 68 rfl rfl) (by decide) hR (by decide) (n := 0) rfl rfl (Nat.le_of_ble_eq_true rfl) hl.1 dX10_readToken_92 (fun μ101 ρ d0 H locs hp G => ?_)
        obtain ⟨F_102, hI_103, hp_104, hp_105, hs_106, hs_107, hs_108, hs_109, hs_110, hs_111⟩ := hp
        have hn_112 : 0 ≤ μ101.1 26 9 ∧ μ101.1 26 9 ≤ 3000 := hI_103.nm.2.2.2.2.2.2.2.2.2.2.2.1
        refine lv_goto (tgt := 117) hx hb dX10_readToken_95 (by decide) ?_
        have e_113 : μ101.1 26 13 = μL3.1 26 9 := (hs_111.trans ((sv_n _ (by decide)).trans (sv_s _ _ _ _)))
        have e_114 : μ101.1 26 6 = μ.1 26 6 := (hs_106.trans ((sv_n _ (by decide)).trans ((sv_n _ (by decide)).trans hi_7)))
        have e_115 : μ101.1 26 7 = μ.1 26 7 := (hs_107.trans ((sv_n _ (by decide)).trans ((sv_n _ (by decide)).trans hi_8)))
        have e_116 : μ101.1 26 8 = μ.1 26 8 := (hs_108.trans ((sv_n _ (by decide)).trans ((sv_n _ (by decide)).trans hi_9)))
        have e_117 : μ101.1 26 10 = μ.1 26 10 := (hs_109.trans ((sv_n _ (by decide)).trans ((sv_n _ (by decide)).trans hi_10)))
        have e_118 : μ101.1 26 11 = μ.1 26 11 := (hs_110.trans ((sv_n _ (by decide)).trans ((sv_n _ (by decide)).trans hi_11)))
        exact xr_v G hret hlk dX10_readToken_117 ⟨(Fr.tr (Fr.put (Fr.put (Fr.tr Fr.rf FL4 (by decide)) (by decide)) (by decide)) F_102 (by decide)), hI_103, (by rcases hp_104 with h9 | h9; exact Or.inr (Or.inl h9); exact Or.inr (Or.inr (by omega))), (by omega), (by omega), (by omega), (by omega), (by omega), (by omega), (by omega)⟩
    · refine lv_aload_n hx hb dX10_readToken_76 rfl (lv_at hl 1 rfl) ?_
      refine lv_iconst (v := iv 0) hx hb dX10_readToken_77 rfl ?_
      refine xa_puti G fd_X10 (a := 26) (x := 0) 12 (kz := 12) rfl rfl (by decide) rfl (by unfold ir; omega) (wm 1 216 rfl rfl) ⟨rfl, rfl, rfl, rfl⟩ rfl dX10_readToken_78 rfl (fun H locs G => ?_)
      refine lv_goto (tgt := 117) hx hb dX10_readToken_81 (by decide) ?_
      have e_119 : (sv (sv (sv μL3 26 13 (μL3.1 26 9)) 26 14 0) 26 12 0).1 26 9 = μL3.1 26 9 := ((sv_n _ (by decide)).trans ((sv_n _ (by decide)).trans (sv_n _ (by decide))))
      have e_120 : (sv (sv (sv μL3 26 13 (μL3.1 26 9)) 26 14 0) 26 12 0).1 26 12 = 0 := (sv_s _ _ _ _)
      have hI_121 : IC (sv (sv (sv μL3 26 13 (μL3.1 26 9)) 26 14 0) 26 12 0) := (IC.put hI_16 (by decide +kernel))
      have e_122 : (sv (sv (sv μL3 26 13 (μL3.1 26 9)) 26 14 0) 26 12 0).1 26 9 = μL3.1 26 9 := ((sv_n _ (by decide)).trans ((sv_n _ (by decide)).trans (sv_n _ (by decide))))
      have e_123 : (sv (sv (sv μL3 26 13 (μL3.1 26 9)) 26 14 0) 26 12 0).1 26 13 = μL3.1 26 9 := ((sv_n _ (by decide)).trans ((sv_n _ (by decide)).trans (sv_s _ _ _ _)))
      have e_124 : (sv (sv (sv μL3 26 13 (μL3.1 26 9)) 26 14 0) 26 12 0).1 26 6 = μ.1 26 6 := ((sv_n _ (by decide)).trans ((sv_n _ (by decide)).trans ((sv_n _ (by decide)).trans hi_7)))
      have e_125 : (sv (sv (sv μL3 26 13 (μL3.1 26 9)) 26 14 0) 26 12 0).1 26 7 = μ.1 26 7 := ((sv_n _ (by decide)).trans ((sv_n _ (by decide)).trans ((sv_n _ (by decide)).trans hi_8)))
      have e_126 : (sv (sv (sv μL3 26 13 (μL3.1 26 9)) 26 14 0) 26 12 0).1 26 8 = μ.1 26 8 := ((sv_n _ (by decide)).trans ((sv_n _ (by decide)).trans ((sv_n _ (by decide)).trans hi_9)))
      have e_127 : (sv (sv (sv μL3 26 13 (μL3.1 26 9)) 26 14 0) 26 12 0).1 26 10 = μ.1 26 10 := ((sv_n _ (by decide)).trans ((sv_n _ (by decide)).trans ((sv_n _ (by decide)).trans hi_10)))
      have e_128 : (sv (sv (sv μL3 26 13 (μL3.1 26 9)) 26 14 0) 26 12 0).1 26 11 = μ.1 26 11 := ((sv_n _ (by decide)).trans ((sv_n _ (by decide)).trans ((sv_n _ (by decide)).trans hi_11)))
      exact xr_v G hret hlk dX10_readToken_117 ⟨(Fr.put (Fr.put (Fr.put (Fr.tr Fr.rf FL4 (by decide)) (by decide)) (by decide)) (by decide)), hI_121, (Or.inl ((sv_s _ _ _ _))), (by omega), (by omega), (by omega), (by omega), (by omega), (by omega), (by omega)⟩
  · refine lv_aload_n hx hb dX10_readToken_11 rfl (lv_at hl 0 rfl) ?_
    refine lv_aload_n hx hb dX10_readToken_12 rfl (lv_at hl 0 rfl) ?_
    refine xa_geti G fd_X10 (a := 26) (x := μL3.1 26 9) 9 rfl (by decide) rfl (wm 1 213 rfl rfl) ⟨rfl, rfl, rfl⟩ dX10_readToken_13 rfl rfl ?_
    have e_129 : μL3.1 26 7 = μ.1 26 7 := hi_8
    refine xc_iV G (b := 26) (rest := []) (As := [.int (iv (μL3.1 26 9))]) (c_X10_byteAt ω l μL3 (μL3.1 26 9) (by unfold ir; omega) hi_12) (wm 3 58 rfl rfl) (wm 3 60 rfl rfl) (wm 0 2 rfl rfl) rfl rfl (by decide) rfl (wm 1 13 rfl rfl) (wm 3 61 rfl rfl) (by decide) hR (by decide) (n := 1) rfl rfl (Nat.le_of_ble_eq_true rfl) hl.1 dX10_readToken_16 (fun r_131 μ130 ρ d0 H locs hr_r_131 hp G => ?_)
    have hr_r_131 : -2147483648 ≤ r_131 ∧ r_131 ≤ 2147483647 := hr_r_131
    obtain ⟨hsm_132, hp_133, hp_134⟩ := hp
    have hsm_132 := Eq.symm hsm_132
    subst hsm_132
    refine lv_bipush (v := iv 32) hx hb dX10_readToken_19 rfl ?_
    refine xb_icmp_eq (tgt := 37) hx hb (by unfold ir; omega) (by unfold ir; omega) dX10_readToken_21 (by decide) (fun c_21 => ?_) (fun c_21 => ?_)
    · refine lv_aload_n hx hb dX10_readToken_37 rfl (lv_at hl 0 rfl) ?_
      refine lv_dup hx hb dX10_readToken_38 rfl ?_
      refine xa_geti G fd_X10 (a := 26) (x := μL3.1 26 9) 9 rfl (by decide) rfl (wm 1 213 rfl rfl) ⟨rfl, rfl, rfl⟩ dX10_readToken_39 rfl rfl ?_
      refine lv_iconst (v := iv 1) hx hb dX10_readToken_42 rfl ?_
      refine xb_iadd hx hb dX10_readToken_43 ?_
      refine xa_puti G fd_X10 (a := 26) (x := (μL3.1 26 9) + 1) 9 (kz := 9) rfl rfl (by decide) rfl (by unfold ir; omega) (wm 1 213 rfl rfl) ⟨rfl, rfl, rfl, rfl⟩ rfl dX10_readToken_44 rfl (fun H locs G => ?_)
      refine lv_goto (tgt := 0) hx hb dX10_readToken_47 (by decide) ?_
      have e_135 : (sv μL3 26 9 ((μL3.1 26 9) + 1)).1 26 9 = (μL3.1 26 9) + 1 := (sv_s _ _ _ _)
      have hI_136 : IC (sv μL3 26 9 ((μL3.1 26 9) + 1)) := (IC.n_26_9 hi_12 (by omega))
      exact ih _ _ _ _ _ _ _ (by omega) ⟨(Fr.put FL4 (by decide)), (by omega), ((sv_n _ (by decide)).trans hi_7), ((sv_n _ (by decide)).trans hi_8), ((sv_n _ (by decide)).trans hi_9), ((sv_n _ (by decide)).trans hi_10), ((sv_n _ (by decide)).trans hi_11), hI_136, rfl, lv_sub hl [0] rfl⟩ G
    · refine lv_aload_n hx hb dX10_readToken_24 rfl (lv_at hl 0 rfl) ?_
      refine lv_aload_n hx hb dX10_readToken_25 rfl (lv_at hl 0 rfl) ?_
      refine xa_geti G fd_X10 (a := 26) (x := μL3.1 26 9) 9 rfl (by decide) rfl (wm 1 213 rfl rfl) ⟨rfl, rfl, rfl⟩ dX10_readToken_26 rfl rfl ?_
      have e_137 : μL3.1 26 7 = μ.1 26 7 := hi_8
      refine xc_iV G (b := 26) (rest := []) (As := [.int (iv (μL3.1 26 9))]) (c_X10_byteAt ω l μL3 (μL3.1 26 9) (by unfold ir; omega) hi_12) (wm 3 58 rfl rfl) (wm 3 60 rfl rfl) (wm 0 2 rfl rfl) rfl rfl (by decide) rfl (wm 1 13 rfl rfl) (wm 3 61 rfl rfl) (by decide) hR (by decide) (n := 1) rfl rfl (Nat.le_of_ble_eq_true rfl) hl.1 dX10_readToken_29 (fun r_139 μ138 ρ d0 H locs hr_r_139 hp G => ?_)
      have hr_r_139 : -2147483648 ≤ r_139 ∧ r_139 ≤ 2147483647 := hr_r_139
      obtain ⟨hsm_140, hp_141, hp_142⟩ := hp
      have hsm_140 := Eq.symm hsm_140
      subst hsm_140
      refine lv_bipush (v := iv 10) hx hb dX10_readToken_32 rfl ?_
      refine xb_icmp_ne (tgt := 50) hx hb (by unfold ir; omega) (by unfold ir; omega) dX10_readToken_34 (by decide) (fun c_34 => ?_) (fun c_34 => ?_)
      · refine lv_aload_n hx hb dX10_readToken_50 rfl (lv_at hl 0 rfl) ?_
        refine lv_aload_n hx hb dX10_readToken_51 rfl (lv_at hl 0 rfl) ?_
        refine xa_geti G fd_X10 (a := 26) (x := μL3.1 26 9) 9 rfl (by decide) rfl (wm 1 213 rfl rfl) ⟨rfl, rfl, rfl⟩ dX10_readToken_52 rfl rfl ?_
        refine xa_puti G fd_X10 (a := 26) (x := μL3.1 26 9) 13 (kz := 13) rfl rfl (by decide) rfl (by unfold ir; omega) (wm 1 218 rfl rfl) ⟨rfl, rfl, rfl, rfl⟩ rfl dX10_readToken_55 rfl (fun H locs G => ?_)
        refine lv_aload_n hx hb dX10_readToken_58 rfl (lv_at hl 0 rfl) ?_
        refine lv_lconst (v := jv 0) hx hb dX10_readToken_59 rfl ?_
        refine xa_putl G fd_X10 (a := 26) (x := 0) 14 (kz := 14) rfl rfl (by decide) rfl (by unfold jr; omega) (wm 1 220 rfl rfl) ⟨rfl, rfl, rfl, rfl⟩ rfl dX10_readToken_60 rfl (fun H locs G => ?_)
        refine lv_aload_n hx hb dX10_readToken_63 rfl (lv_at hl 0 rfl) ?_
        refine lv_aload_n hx hb dX10_readToken_64 rfl (lv_at hl 0 rfl) ?_
        refine xa_geti G fd_X10 (a := 26) (x := μL3.1 26 9) 9 rfl (by decide) rfl (wm 1 213 rfl rfl) ⟨rfl, rfl, rfl⟩ dX10_readToken_65 rfl ((sv_n _ (by decide)).trans (sv_n _ (by decide))) ?_
        have hI_143 : IC (sv (sv μL3 26 13 (μL3.1 26 9)) 26 14 0) := (IC.put (IC.put hi_12 (by decide +kernel)) (by decide +kernel))
        have e_144 : (sv (sv μL3 26 13 (μL3.1 26 9)) 26 14 0).1 26 7 = μ.1 26 7 := ((sv_n _ (by decide)).trans ((sv_n _ (by decide)).trans hi_8))
        refine xc_iV G (b := 26) (rest := []) (As := [.int (iv (μL3.1 26 9))]) (c_X10_byteAt ω l (sv (sv μL3 26 13 (μL3.1 26 9)) 26 14 0) (μL3.1 26 9) (by unfold ir; omega) hI_143) (wm 3 58 rfl rfl) (wm 3 60 rfl rfl) (wm 0 2 rfl rfl) rfl rfl (by decide) rfl (wm 1 13 rfl rfl) (wm 3 61 rfl rfl) (by decide) hR (by decide) (n := 1) rfl rfl (Nat.le_of_ble_eq_true rfl) hl.1 dX10_readToken_68 (fun r_146 μ145 ρ d0 H locs hr_r_146 hp G => ?_)
        have hr_r_146 : -2147483648 ≤ r_146 ∧ r_146 ≤ 2147483647 := hr_r_146
        obtain ⟨hsm_147, hp_148, hp_149⟩ := hp
        have hsm_147 := Eq.symm hsm_147
        subst hsm_147
        refine lv_istore_n (lv' := [(1, .int (iv r_146)), (0, .ref (oP ω 26))]) hx hb dX10_readToken_71 rfl hl (by decide) rfl (fun ls hl => ?_)
        refine lv_iload_n hx hb dX10_readToken_72 rfl (lv_at hl 0 rfl) ?_
        refine xb_if_ge (tgt := 84) hx hb (by unfold ir; omega) dX10_readToken_73 (by decide) (fun c_73 => ?_) (fun c_73 => ?_)
        · refine lv_iload_n hx hb dX10_readToken_84 rfl (lv_at hl 0 rfl) ?_
          refine xc_iS G (rest := []) (As := [.int (iv r_146)]) (c_X10_isLetter ω l (sv (sv μL3 26 13 (μL3.1 26 9)) 26 14 0) r_146 (by unfold ir; omega)) (wm 3 62 rfl rfl) (wm 3 63 rfl rfl) (wm 1 13 rfl rfl) (wm 3 64 rfl rfl) (by decide) hR (by decide) (n := 1) rfl rfl (Nat.le_of_ble_eq_true rfl) hl.1 dX10_readToken_85 (fun r_151 μ150 ρ d0 H locs hr_r_151 hp G => ?_)
          have hr_r_151 : -2147483648 ≤ r_151 ∧ r_151 ≤ 2147483647 := hr_r_151
          obtain ⟨hsm_152, hp_153⟩ := hp
          have hsm_152 := Eq.symm hsm_152
          subst hsm_152
          refine xb_if_eq (tgt := 98) hx hb (by unfold ir; omega) dX10_readToken_88 (by decide) (fun c_88 => ?_) (fun c_88 => ?_)
          · refine lv_iload_n hx hb dX10_readToken_98 rfl (lv_at hl 0 rfl) ?_
            refine xc_iS G (rest := []) (As := [.int (iv r_146)]) (c_X10_isDigit ω l (sv (sv μL3 26 13 (μL3.1 26 9)) 26 14 0) r_146 (by unfold ir; omega)) (wm 3 69 rfl rfl) (wm 3 70 rfl rfl) (wm 1 13 rfl rfl) (wm 3 71 rfl rfl) (by decide) hR (by decide) (n := 1) rfl rfl (Nat.le_of_ble_eq_true rfl) hl.1 dX10_readToken_99 (fun r_155 μ154 ρ d0 H locs hr_r_155 hp G => ?_)
            have hr_r_155 : -2147483648 ≤ r_155 ∧ r_155 ≤ 2147483647 := hr_r_155
            obtain ⟨hsm_156, hp_157⟩ := hp
            have hsm_156 := Eq.symm hsm_156
            subst hsm_156
            refine xb_if_eq (tgt := 112) hx hb (by unfold ir; omega) dX10_readToken_102 (by decide) (fun c_102 => ?_) (fun c_102 => ?_)
            · refine lv_aload_n hx hb dX10_readToken_112 rfl (lv_at hl 1 rfl) ?_
              refine lv_iload_n hx hb dX10_readToken_113 rfl (lv_at hl 0 rfl) ?_
              have e_158 : (sv (sv μL3 26 13 (μL3.1 26 9)) 26 14 0).1 26 9 = μL3.1 26 9 := ((sv_n _ (by decide)).trans (sv_n _ (by decide)))
              have e_159 : (sv (sv μL3 26 13 (μL3.1 26 9)) 26 14 0).1 26 7 = μ.1 26 7 := ((sv_n _ (by decide)).trans ((sv_n _ (by decide)).trans hi_8))
              have e_160 : (sv (sv μL3 26 13 (μL3.1 26 9)) 26 14 0).1 26 9 = μL3.1 26 9 := ((sv_n _ (by decide)).trans (sv_n _ (by decide)))
              have e_161 : (sv (sv μL3 26 13 (μL3.1 26 9)) 26 14 0).1 26 9 = μL3.1 26 9 := ((sv_n _ (by decide)).trans (sv_n _ (by decide)))
              have hn_162 : 0 ≤ μ.1 26 6 ∧ μ.1 26 6 ≤ 3001 := hI.nm.2.2.2.2.2.2.2.2.2.1
              have e_163 : (sv (sv μL3 26 13 (μL3.1 26 9)) 26 14 0).1 26 6 = μ.1 26 6 := ((sv_n _ (by decide)).trans ((sv_n _ (by decide)).trans hi_7))
              have e_164 : (sv (sv μL3 26 13 (μL3.1 26 9)) 26 14 0).1 26 7 = μ.1 26 7 := ((sv_n _ (by decide)).trans ((sv_n _ (by decide)).trans hi_8))
              have e_165 : (sv (sv μL3 26 13 (μL3.1 26 9)) 26 14 0).1 26 8 = μ.1 26 8 := ((sv_n _ (by decide)).trans ((sv_n _ (by decide)).trans hi_9))
              have hn_166 : -1 ≤ μ.1 26 10 ∧ μ.1 26 10 ≤ 3000 := hI.nm.2.2.2.2.2.2.2.2.2.2.2.2
              have e_167 : (sv (sv μL3 26 13 (μL3.1 26 9)) 26 14 0).1 26 10 = μ.1 26 10 := ((sv_n _ (by decide)).trans ((sv_n _ (by decide)).trans hi_10))
              have e_168 : (sv (sv μL3 26 13 (μL3.1 26 9)) 26 14 0).1 26 11 = μ.1 26 11 := ((sv_n _ (by decide)).trans ((sv_n _ (by decide)).trans hi_11))
              have e_169 : (sv (sv μL3 26 13 (μL3.1 26 9)) 26 14 0).1 26 13 = μL3.1 26 9 := ((sv_n _ (by decide)).trans (sv_s _ _ _ _))
              have e_170 : (sv (sv μL3 26 13 (μL3.1 26 9)) 26 14 0).1 26 14 = 0 := (sv_s _ _ _ _)
              refine xc_vV G (b := 26) (rest := []) (As := [.int (iv r_146)]) (c_X10_readSign ω l (sv (sv μL3 26 13 (μL3.1 26 9)) 26 14 0) r_146 (by unfold ir; omega) hI_143 (by omega) (by omega)) (wm 3 96 rfl rfl) (wm 3 98 rfl rfl) (wm 0 8 rfl rfl) rfl rfl (by decide) rfl (wm 1 13 rfl rfl) (wm 3 99 rfl rfl) (by decide) hR (by decide) (n := 1) rfl rfl (Nat.le_of_ble_eq_true rfl) hl.1 dX10_readToken_114 (fun μ171 ρ d0 H locs hp G => ?_)
              obtain ⟨F_172, hI_173, hp_174, hp_175, hs_176, hs_177, hs_178, hs_179, hs_180, hs_181, hs_182⟩ := hp
              have hn_183 : 0 ≤ μ171.1 26 9 ∧ μ171.1 26 9 ≤ 3000 := hI_173.nm.2.2.2.2.2.2.2.2.2.2.2.1
              have e_184 : μ171.1 26 13 = μL3.1 26 9 := (hs_181.trans ((sv_n _ (by decide)).trans (sv_s _ _ _ _)))
              have e_185 : μ171.1 26 6 = μ.1 26 6 := (hs_176.trans ((sv_n _ (by decide)).trans ((sv_n _ (by decide)).trans hi_7)))
              have e_186 : μ171.1 26 7 = μ.1 26 7 := (hs_177.trans ((sv_n _ (by decide)).trans ((sv_n _ (by decide)).trans hi_8)))
              have e_187 : μ171.1 26 8 = μ.1 26 8 := (hs_178.trans ((sv_n _ (by decide)).trans ((sv_n _ (by decide)).trans hi_9)))
              have e_188 : μ171.1 26 10 = μ.1 26 10 := (hs_179.trans ((sv_n _ (by decide)).trans ((sv_n _ (by decide)).trans hi_10)))
              have e_189 : μ171.1 26 11 = μ.1 26 11 := (hs_180.trans ((sv_n _ (by decide)).trans ((sv_n _ (by decide)).trans hi_11)))
              exact xr_v G hret hlk dX10_readToken_117 ⟨(Fr.tr (Fr.put (Fr.put (Fr.tr Fr.rf FL4 (by decide)) (by decide)) (by decide)) F_172 (by decide)), hI_173, (by rcases hp_174 with h9 | h9; exact Or.inr (Or.inl h9); exact Or.inr (Or.inr (by omega))), (by omega), (by omega), (by omega), (by omega), (by omega), (by omega), (by omega)⟩
            · refine lv_aload_n hx hb dX10_readToken_105 rfl (lv_at hl 1 rfl) ?_
              have e_190 : (sv (sv μL3 26 13 (μL3.1 26 9)) 26 14 0).1 26 9 = μL3.1 26 9 := ((sv_n _ (by decide)).trans (sv_n _ (by decide)))
              have e_191 : (sv (sv μL3 26 13 (μL3.1 26 9)) 26 14 0).1 26 9 = μL3.1 26 9 := ((sv_n _ (by decide)).trans (sv_n _ (by decide)))
              have hn_192 : 0 ≤ μ.1 26 6 ∧ μ.1 26 6 ≤ 3001 := hI.nm.2.2.2.2.2.2.2.2.2.1
              have e_193 : (sv (sv μL3 26 13 (μL3.1 26 9)) 26 14 0).1 26 6 = μ.1 26 6 := ((sv_n _ (by decide)).trans ((sv_n _ (by decide)).trans hi_7))
              have e_194 : (sv (sv μL3 26 13 (μL3.1 26 9)) 26 14 0).1 26 7 = μ.1 26 7 := ((sv_n _ (by decide)).trans ((sv_n _ (by decide)).trans hi_8))
              have e_195 : (sv (sv μL3 26 13 (μL3.1 26 9)) 26 14 0).1 26 8 = μ.1 26 8 := ((sv_n _ (by decide)).trans ((sv_n _ (by decide)).trans hi_9))
              have hn_196 : -1 ≤ μ.1 26 10 ∧ μ.1 26 10 ≤ 3000 := hI.nm.2.2.2.2.2.2.2.2.2.2.2.2
              have e_197 : (sv (sv μL3 26 13 (μL3.1 26 9)) 26 14 0).1 26 10 = μ.1 26 10 := ((sv_n _ (by decide)).trans ((sv_n _ (by decide)).trans hi_10))
              have e_198 : (sv (sv μL3 26 13 (μL3.1 26 9)) 26 14 0).1 26 11 = μ.1 26 11 := ((sv_n _ (by decide)).trans ((sv_n _ (by decide)).trans hi_11))
              have e_199 : (sv (sv μL3 26 13 (μL3.1 26 9)) 26 14 0).1 26 13 = μL3.1 26 9 := ((sv_n _ (by decide)).trans (sv_s _ _ _ _))
              refine xc_vV G (b := 26) (rest := []) (As := []) (c_X10_readNumber ω l (sv (sv μL3 26 13 (μL3.1 26 9)) 26 14 0)  hI_143 (by rw [show (sv (sv μL3 26 13 (μL3.1 26 9)) 26 14 0).1 26 9 = μL3.1 26 9 from ((sv_n _ (by decide)).trans (sv_n _ (by decide))), ← hp_148]; omega)) (wm 3 76 rfl rfl) (wm 3 78 rfl rfl) (wm 0 5 rfl rfl) rfl rfl (by decide) rfl (wm 1 13 rfl rfl) (wm 3 79 rfl rfl) (by decide) hR (by decide) (n := 0) rfl rfl (Nat.le_of_ble_eq_true rfl) hl.1 dX10_readToken_106 (fun μ200 ρ d0 H locs hp G => ?_)
              obtain ⟨F_201, hI_202, hp_203, hp_204, hs_205, hs_206, hs_207, hs_208, hs_209, hs_210⟩ := hp
              have hn_211 : 0 ≤ μ200.1 26 9 ∧ μ200.1 26 9 ≤ 3000 := hI_202.nm.2.2.2.2.2.2.2.2.2.2.2.1
              refine lv_goto (tgt := 117) hx hb dX10_readToken_109 (by decide) ?_
              have e_212 : μ200.1 26 13 = μL3.1 26 9 := (hs_210.trans ((sv_n _ (by decide)).trans (sv_s _ _ _ _)))
              have e_213 : μ200.1 26 6 = μ.1 26 6 := (hs_205.trans ((sv_n _ (by decide)).trans ((sv_n _ (by decide)).trans hi_7)))
              have e_214 : μ200.1 26 7 = μ.1 26 7 := (hs_206.trans ((sv_n _ (by decide)).trans ((sv_n _ (by decide)).trans hi_8)))
              have e_215 : μ200.1 26 8 = μ.1 26 8 := (hs_207.trans ((sv_n _ (by decide)).trans ((sv_n _ (by decide)).trans hi_9)))
              have e_216 : μ200.1 26 10 = μ.1 26 10 := (hs_208.trans ((sv_n _ (by decide)).trans ((sv_n _ (by decide)).trans hi_10)))
              have e_217 : μ200.1 26 11 = μ.1 26 11 := (hs_209.trans ((sv_n _ (by decide)).trans ((sv_n _ (by decide)).trans hi_11)))
              exact xr_v G hret hlk dX10_readToken_117 ⟨(Fr.tr (Fr.put (Fr.put (Fr.tr Fr.rf FL4 (by decide)) (by decide)) (by decide)) F_201 (by decide)), hI_202, (by rcases hp_203 with h9 | h9; exact Or.inr (Or.inl h9); exact Or.inr (Or.inr (by omega))), (by omega), (by omega), (by omega), (by omega), (by omega), (by omega), (by omega)⟩
          · refine lv_aload_n hx hb dX10_readToken_91 rfl (lv_at hl 1 rfl) ?_
            have e_218 : (sv (sv μL3 26 13 (μL3.1 26 9)) 26 14 0).1 26 9 = μL3.1 26 9 := ((sv_n _ (by decide)).trans (sv_n _ (by decide)))
            have e_219 : (sv (sv μL3 26 13 (μL3.1 26 9)) 26 14 0).1 26 9 = μL3.1 26 9 := ((sv_n _ (by decide)).trans (sv_n _ (by decide)))
            have hn_220 : 0 ≤ μ.1 26 6 ∧ μ.1 26 6 ≤ 3001 := hI.nm.2.2.2.2.2.2.2.2.2.1
            have e_221 : (sv (sv μL3 26 13 (μL3.1 26 9)) 26 14 0).1 26 6 = μ.1 26 6 := ((sv_n _ (by decide)).trans ((sv_n _ (by decide)).trans hi_7))
            have e_222 : (sv (sv μL3 26 13 (μL3.1 26 9)) 26 14 0).1 26 7 = μ.1 26 7 := ((sv_n _ (by decide)).trans ((sv_n _ (by decide)).trans hi_8))
            have e_223 : (sv (sv μL3 26 13 (μL3.1 26 9)) 26 14 0).1 26 8 = μ.1 26 8 := ((sv_n _ (by decide)).trans ((sv_n _ (by decide)).trans hi_9))
            have hn_224 : -1 ≤ μ.1 26 10 ∧ μ.1 26 10 ≤ 3000 := hI.nm.2.2.2.2.2.2.2.2.2.2.2.2
            have e_225 : (sv (sv μL3 26 13 (μL3.1 26 9)) 26 14 0).1 26 10 = μ.1 26 10 := ((sv_n _ (by decide)).trans ((sv_n _ (by decide)).trans hi_10))
            have e_226 : (sv (sv μL3 26 13 (μL3.1 26 9)) 26 14 0).1 26 11 = μ.1 26 11 := ((sv_n _ (by decide)).trans ((sv_n _ (by decide)).trans hi_11))
            have e_227 : (sv (sv μL3 26 13 (μL3.1 26 9)) 26 14 0).1 26 13 = μL3.1 26 9 := ((sv_n _ (by decide)).trans (sv_s _ _ _ _))
            refine xc_vV G (b := 26) (rest := []) (As := []) (c_X10_readName ω l (sv (sv μL3 26 13 (μL3.1 26 9)) 26 14 0)  hI_143 (by rw [show (sv (sv μL3 26 13 (μL3.1 26 9)) 26 14 0).1 26 9 = μL3.1 26 9 from ((sv_n _ (by decide)).trans (sv_n _ (by decide))), ← hp_148]; omega)) (wm 3 65 rfl rfl) (wm 3 67 rfl rfl) (wm 0 3 rfl rfl) rfl rfl (by decide) rfl (wm 1 13 rfl rfl) (wm 3 68 rfl rfl) (by decide) hR (by decide) (n := 0) rfl rfl (Nat.le_of_ble_eq_true rfl) hl.1 dX10_readToken_92 (fun μ228 ρ d0 H locs hp G => ?_)
            obtain ⟨F_229, hI_230, hp_231, hp_232, hs_233, hs_234, hs_235, hs_236, hs_237, hs_238⟩ := hp
            have hn_239 : 0 ≤ μ228.1 26 9 ∧ μ228.1 26 9 ≤ 3000 := hI_230.nm.2.2.2.2.2.2.2.2.2.2.2.1
            refine lv_goto (tgt := 117) hx hb dX10_readToken_95 (by decide) ?_
            have e_240 : μ228.1 26 13 = μL3.1 26 9 := (hs_238.trans ((sv_n _ (by decide)).trans (sv_s _ _ _ _)))
            have e_241 : μ228.1 26 6 = μ.1 26 6 := (hs_233.trans ((sv_n _ (by decide)).trans ((sv_n _ (by decide)).trans hi_7)))
            have e_242 : μ228.1 26 7 = μ.1 26 7 := (hs_234.trans ((sv_n _ (by decide)).trans ((sv_n _ (by decide)).trans hi_8)))
            have e_243 : μ228.1 26 8 = μ.1 26 8 := (hs_235.trans ((sv_n _ (by decide)).trans ((sv_n _ (by decide)).trans hi_9)))
            have e_244 : μ228.1 26 10 = μ.1 26 10 := (hs_236.trans ((sv_n _ (by decide)).trans ((sv_n _ (by decide)).trans hi_10)))
            have e_245 : μ228.1 26 11 = μ.1 26 11 := (hs_237.trans ((sv_n _ (by decide)).trans ((sv_n _ (by decide)).trans hi_11)))
            exact xr_v G hret hlk dX10_readToken_117 ⟨(Fr.tr (Fr.put (Fr.put (Fr.tr Fr.rf FL4 (by decide)) (by decide)) (by decide)) F_229 (by decide)), hI_230, (by rcases hp_231 with h9 | h9; exact Or.inr (Or.inl h9); exact Or.inr (Or.inr (by omega))), (by omega), (by omega), (by omega), (by omega), (by omega), (by omega), (by omega)⟩
        · refine lv_aload_n hx hb dX10_readToken_76 rfl (lv_at hl 1 rfl) ?_
          refine lv_iconst (v := iv 0) hx hb dX10_readToken_77 rfl ?_
          refine xa_puti G fd_X10 (a := 26) (x := 0) 12 (kz := 12) rfl rfl (by decide) rfl (by unfold ir; omega) (wm 1 216 rfl rfl) ⟨rfl, rfl, rfl, rfl⟩ rfl dX10_readToken_78 rfl (fun H locs G => ?_)
          refine lv_goto (tgt := 117) hx hb dX10_readToken_81 (by decide) ?_
          have e_246 : (sv (sv (sv μL3 26 13 (μL3.1 26 9)) 26 14 0) 26 12 0).1 26 9 = μL3.1 26 9 := ((sv_n _ (by decide)).trans ((sv_n _ (by decide)).trans (sv_n _ (by decide))))
          have e_247 : (sv (sv (sv μL3 26 13 (μL3.1 26 9)) 26 14 0) 26 12 0).1 26 12 = 0 := (sv_s _ _ _ _)
          have hI_248 : IC (sv (sv (sv μL3 26 13 (μL3.1 26 9)) 26 14 0) 26 12 0) := (IC.put hI_143 (by decide +kernel))
          have e_249 : (sv (sv (sv μL3 26 13 (μL3.1 26 9)) 26 14 0) 26 12 0).1 26 9 = μL3.1 26 9 := ((sv_n _ (by decide)).trans ((sv_n _ (by decide)).trans (sv_n _ (by decide))))
          have e_250 : (sv (sv (sv μL3 26 13 (μL3.1 26 9)) 26 14 0) 26 12 0).1 26 13 = μL3.1 26 9 := ((sv_n _ (by decide)).trans ((sv_n _ (by decide)).trans (sv_s _ _ _ _)))
          have e_251 : (sv (sv (sv μL3 26 13 (μL3.1 26 9)) 26 14 0) 26 12 0).1 26 6 = μ.1 26 6 := ((sv_n _ (by decide)).trans ((sv_n _ (by decide)).trans ((sv_n _ (by decide)).trans hi_7)))
          have e_252 : (sv (sv (sv μL3 26 13 (μL3.1 26 9)) 26 14 0) 26 12 0).1 26 7 = μ.1 26 7 := ((sv_n _ (by decide)).trans ((sv_n _ (by decide)).trans ((sv_n _ (by decide)).trans hi_8)))
          have e_253 : (sv (sv (sv μL3 26 13 (μL3.1 26 9)) 26 14 0) 26 12 0).1 26 8 = μ.1 26 8 := ((sv_n _ (by decide)).trans ((sv_n _ (by decide)).trans ((sv_n _ (by decide)).trans hi_9)))
          have e_254 : (sv (sv (sv μL3 26 13 (μL3.1 26 9)) 26 14 0) 26 12 0).1 26 10 = μ.1 26 10 := ((sv_n _ (by decide)).trans ((sv_n _ (by decide)).trans ((sv_n _ (by decide)).trans hi_10)))
          have e_255 : (sv (sv (sv μL3 26 13 (μL3.1 26 9)) 26 14 0) 26 12 0).1 26 11 = μ.1 26 11 := ((sv_n _ (by decide)).trans ((sv_n _ (by decide)).trans ((sv_n _ (by decide)).trans hi_11)))
          exact xr_v G hret hlk dX10_readToken_117 ⟨(Fr.put (Fr.put (Fr.put (Fr.tr Fr.rf FL4 (by decide)) (by decide)) (by decide)) (by decide)), hI_248, (Or.inl ((sv_s _ _ _ _))), (by omega), (by omega), (by omega), (by omega), (by omega), (by omega), (by omega)⟩
      · refine lv_aload_n hx hb dX10_readToken_37 rfl (lv_at hl 0 rfl) ?_
        refine lv_dup hx hb dX10_readToken_38 rfl ?_
        refine xa_geti G fd_X10 (a := 26) (x := μL3.1 26 9) 9 rfl (by decide) rfl (wm 1 213 rfl rfl) ⟨rfl, rfl, rfl⟩ dX10_readToken_39 rfl rfl ?_
        refine lv_iconst (v := iv 1) hx hb dX10_readToken_42 rfl ?_
        refine xb_iadd hx hb dX10_readToken_43 ?_
        refine xa_puti G fd_X10 (a := 26) (x := (μL3.1 26 9) + 1) 9 (kz := 9) rfl rfl (by decide) rfl (by unfold ir; omega) (wm 1 213 rfl rfl) ⟨rfl, rfl, rfl, rfl⟩ rfl dX10_readToken_44 rfl (fun H locs G => ?_)
        refine lv_goto (tgt := 0) hx hb dX10_readToken_47 (by decide) ?_
        have e_256 : (sv μL3 26 9 ((μL3.1 26 9) + 1)).1 26 9 = (μL3.1 26 9) + 1 := (sv_s _ _ _ _)
        have hI_257 : IC (sv μL3 26 9 ((μL3.1 26 9) + 1)) := (IC.n_26_9 hi_12 (by omega))
        exact ih _ _ _ _ _ _ _ (by omega) ⟨(Fr.put FL4 (by decide)), (by omega), ((sv_n _ (by decide)).trans hi_7), ((sv_n _ (by decide)).trans hi_8), ((sv_n _ (by decide)).trans hi_9), ((sv_n _ (by decide)).trans hi_10), ((sv_n _ (by decide)).trans hi_11), hI_257, rfl, lv_sub hl [0] rfl⟩ G

set_option maxHeartbeats 4000000 in
set_option maxRecDepth 100000 in
theorem c_X10_next (ω : Om) (l : Launch) (μ : M3) (hI : IC μ) (hc1 : 1 ≤ μ.1 26 6) (hn3 : -1 ≤ μ.1 26 10) : CtV ω l yX10_next cX10_next 1 0 0 [.ref (oP ω 26)] μ (fun (μ' : M3) => (Fr [26] μ μ') ∧ (IC μ') ∧ ((μ.1 26 11 ≠ 0 ∧ μ'.1 26 10 = μ.1 26 10 ∧ μ'.1 26 12 = μ.1 26 12) ∨ (μ.1 26 11 = 0 ∧ μ'.1 26 12 = μ.1 28 (μ'.1 26 10) ∧ ((μ.1 26 10 < μ.1 26 6 - 1 ∧ μ'.1 26 10 = μ.1 26 10 + 1) ∨ (μ.1 26 6 - 1 ≤ μ.1 26 10 ∧ μ'.1 26 10 = μ.1 26 10)))) ∧ ((μ.1 26 11 ≠ 0 ∧ μ'.1 26 13 = μ.1 26 13) ∨ (μ.1 26 11 = 0 ∧ μ'.1 26 13 = μ.1 29 (μ'.1 26 10))) ∧ (μ'.1 26 11 = μ.1 26 11) ∧ (μ'.1 26 6 = μ.1 26 6) ∧ (μ'.1 26 7 = μ.1 26 7) ∧ (μ'.1 26 8 = μ.1 26 8) ∧ (μ'.1 26 9 = μ.1 26 9)) := by
  refine CtV.go (by decide) (Nat.le_of_ble_eq_true rfl) (fun ρ p e s m below meth c R ls G hR hret hlk hl => ?_)
  have hx := G.1.1
  have hb := G.1.2.1
  have hl : lv_has ls 1 [(0, .ref (oP ω 26))] := hl
  generalize s.drawn = d0 at G ⊢
  have hn_1 : 0 ≤ μ.1 26 6 ∧ μ.1 26 6 ≤ 3001 := hI.nm.2.2.2.2.2.2.2.2.2.1
  have hn_2 : -1 ≤ μ.1 26 10 ∧ μ.1 26 10 ≤ 3000 := hI.nm.2.2.2.2.2.2.2.2.2.2.2.2
  refine lv_aload_n hx hb dX10_next_0 rfl (lv_at hl 0 rfl) ?_
  refine xa_geti G fd_X10 (a := 26) (x := μ.1 26 11) 11 rfl (by decide) rfl (wm 1 215 rfl rfl) ⟨rfl, rfl, rfl⟩ dX10_next_1 rfl rfl ?_
  have hr_3 : -2147483648 ≤ μ.1 26 11 ∧ μ.1 26 11 ≤ 2147483647 := by have h9 := G.hr (a := 26) (k := 11) rfl; exact h9
  refine xb_if_eq (tgt := 8) hx hb (by unfold ir; omega) dX10_next_4 (by decide) (fun c_4 => ?_) (fun c_4 => ?_)
  · refine lv_aload_n hx hb dX10_next_8 rfl (lv_at hl 0 rfl) ?_
    refine xa_geti G fd_X10 (a := 26) (x := μ.1 26 10) 10 rfl (by decide) rfl (wm 1 214 rfl rfl) ⟨rfl, rfl, rfl⟩ dX10_next_9 rfl rfl ?_
    have hr_4 : -2147483648 ≤ μ.1 26 10 ∧ μ.1 26 10 ≤ 2147483647 := by have h9 := G.hr (a := 26) (k := 10) rfl; exact h9
    refine lv_aload_n hx hb dX10_next_12 rfl (lv_at hl 0 rfl) ?_
    refine xa_geti G fd_X10 (a := 26) (x := μ.1 26 6) 6 rfl (by decide) rfl (wm 1 210 rfl rfl) ⟨rfl, rfl, rfl⟩ dX10_next_13 rfl rfl ?_
    have hr_5 : -2147483648 ≤ μ.1 26 6 ∧ μ.1 26 6 ≤ 2147483647 := by have h9 := G.hr (a := 26) (k := 6) rfl; exact h9
    refine lv_iconst (v := iv 1) hx hb dX10_next_16 rfl ?_
    refine xb_isub hx hb dX10_next_17 ?_
    refine xb_icmp_ge (tgt := 31) hx hb (by unfold ir; omega) (by unfold ir; omega) dX10_next_18 (by decide) (fun c_18 => ?_) (fun c_18 => ?_)
    · refine lv_aload_n hx hb dX10_next_31 rfl (lv_at hl 0 rfl) ?_
      refine lv_aload_n hx hb dX10_next_32 rfl (lv_at hl 0 rfl) ?_
      refine xa_getr G fd_X10 (a := 26) (x := 28) 2 rfl (by decide) rfl (wm 1 206 rfl rfl) ⟨rfl, rfl, rfl⟩ dX10_next_33 rfl (G.sk 29 rfl) (by decide) rfl ?_
      refine lv_aload_n hx hb dX10_next_36 rfl (lv_at hl 0 rfl) ?_
      refine xa_geti G fd_X10 (a := 26) (x := μ.1 26 10) 10 rfl (by decide) rfl (wm 1 214 rfl rfl) ⟨rfl, rfl, rfl⟩ dX10_next_37 rfl rfl ?_
      refine xa_iald G (a := 28) (i := μ.1 26 10) rfl (by have h9 := G.lc (a := 28) (n := 3001) 17 rfl; omega) dX10_next_40 rfl ?_
      have hr_6 : -2147483648 ≤ μ.1 28 (μ.1 26 10) ∧ μ.1 28 (μ.1 26 10) ≤ 2147483647 := by have h9 := G.hr (a := 28) (k := μ.1 26 10) rfl; exact h9
      refine xa_puti G fd_X10 (a := 26) (x := μ.1 28 (μ.1 26 10)) 12 (kz := 12) rfl rfl (by decide) rfl (by unfold ir; omega) (wm 1 216 rfl rfl) ⟨rfl, rfl, rfl, rfl⟩ rfl dX10_next_41 rfl (fun H locs G => ?_)
      refine lv_aload_n hx hb dX10_next_44 rfl (lv_at hl 0 rfl) ?_
      refine lv_aload_n hx hb dX10_next_45 rfl (lv_at hl 0 rfl) ?_
      refine xa_getr G fd_X10 (a := 26) (x := 29) 3 rfl (by decide) rfl (wm 1 207 rfl rfl) ⟨rfl, rfl, rfl⟩ dX10_next_46 rfl (G.sk 30 rfl) (by decide) rfl ?_
      refine lv_aload_n hx hb dX10_next_49 rfl (lv_at hl 0 rfl) ?_
      refine xa_geti G fd_X10 (a := 26) (x := μ.1 26 10) 10 rfl (by decide) rfl (wm 1 214 rfl rfl) ⟨rfl, rfl, rfl⟩ dX10_next_50 rfl (sv_n _ (by decide)) ?_
      refine xa_iald G (a := 29) (i := μ.1 26 10) rfl (by have h9 := G.lc (a := 29) (n := 3001) 18 rfl; omega) dX10_next_53 rfl ?_
      refine xb_ti (y := μ.1 29 (μ.1 26 10)) (sv_n _ (fun h9 => absurd h9.1 (by decide))) ?_
      have hr_7 : -2147483648 ≤ μ.1 29 (μ.1 26 10) ∧ μ.1 29 (μ.1 26 10) ≤ 2147483647 := by have h9 := G.hr (a := 29) (k := μ.1 26 10) rfl; rw [(sv_n _ (fun h9 => absurd h9.1 (by decide)))] at h9; exact h9
      refine xa_puti G fd_X10 (a := 26) (x := μ.1 29 (μ.1 26 10)) 13 (kz := 13) rfl rfl (by decide) rfl (by unfold ir; omega) (wm 1 218 rfl rfl) ⟨rfl, rfl, rfl, rfl⟩ rfl dX10_next_54 rfl (fun H locs G => ?_)
      refine lv_aload_n hx hb dX10_next_57 rfl (lv_at hl 0 rfl) ?_
      refine lv_aload_n hx hb dX10_next_58 rfl (lv_at hl 0 rfl) ?_
      refine xa_getr G fd_X10 (a := 26) (x := 30) 4 rfl (by decide) rfl (wm 1 208 rfl rfl) ⟨rfl, rfl, rfl⟩ dX10_next_59 rfl (G.sk 31 rfl) (by decide) rfl ?_
      refine lv_aload_n hx hb dX10_next_62 rfl (lv_at hl 0 rfl) ?_
      refine xa_geti G fd_X10 (a := 26) (x := μ.1 26 10) 10 rfl (by decide) rfl (wm 1 214 rfl rfl) ⟨rfl, rfl, rfl⟩ dX10_next_63 rfl ((sv_n _ (by decide)).trans (sv_n _ (by decide))) ?_
      refine xa_lald G (a := 30) (i := μ.1 26 10) rfl (by have h9 := G.lc (a := 30) (n := 3001) 19 rfl; omega) dX10_next_66 rfl ?_
      refine xb_tl (y := μ.1 30 (μ.1 26 10)) ((sv_n _ (fun h9 => absurd h9.1 (by decide))).trans (sv_n _ (fun h9 => absurd h9.1 (by decide)))) ?_
      have hj_8 : jr (μ.1 30 (μ.1 26 10)) := (by have h9 := G.hj (a := 30) (k := μ.1 26 10) rfl; rw [((sv_n _ (fun h9 => absurd h9.1 (by decide))).trans (sv_n _ (fun h9 => absurd h9.1 (by decide))))] at h9; exact h9)
      refine xa_putl G fd_X10 (a := 26) (x := μ.1 30 (μ.1 26 10)) 14 (kz := 14) rfl rfl (by decide) rfl hj_8 (wm 1 220 rfl rfl) ⟨rfl, rfl, rfl, rfl⟩ rfl dX10_next_67 rfl (fun H locs G => ?_)
      refine lv_aload_n hx hb dX10_next_70 rfl (lv_at hl 0 rfl) ?_
      refine lv_aload_n hx hb dX10_next_71 rfl (lv_at hl 0 rfl) ?_
      refine xa_getr G fd_X10 (a := 26) (x := 31) 5 rfl (by decide) rfl (wm 1 209 rfl rfl) ⟨rfl, rfl, rfl⟩ dX10_next_72 rfl (G.sk 32 rfl) (by decide) rfl ?_
      refine lv_aload_n hx hb dX10_next_75 rfl (lv_at hl 0 rfl) ?_
      refine xa_geti G fd_X10 (a := 26) (x := μ.1 26 10) 10 rfl (by decide) rfl (wm 1 214 rfl rfl) ⟨rfl, rfl, rfl⟩ dX10_next_76 rfl ((sv_n _ (by decide)).trans ((sv_n _ (by decide)).trans (sv_n _ (by decide)))) ?_
      refine xa_dald G (a := 31) (i := μ.1 26 10) rfl (by have h9 := G.lc (a := 31) (n := 3001) 20 rfl; omega) dX10_next_79 rfl ?_
      refine xa_putd G fd_X10 (a := 26) (x := ((sv (sv (sv μ 26 12 (μ.1 28 (μ.1 26 10))) 26 13 (μ.1 29 (μ.1 26 10))) 26 14 (μ.1 30 (μ.1 26 10))).1 31 (μ.1 26 10))) 15 (kz := 15) rfl rfl (by decide) rfl  (wm 1 222 rfl rfl) ⟨rfl, rfl, rfl, rfl⟩ rfl dX10_next_80 rfl (fun H locs G => ?_)
      have e_9 : (sv (sv (sv (sv μ 26 12 (μ.1 28 (μ.1 26 10))) 26 13 (μ.1 29 (μ.1 26 10))) 26 14 (μ.1 30 (μ.1 26 10))) 26 15 ((sv (sv (sv μ 26 12 (μ.1 28 (μ.1 26 10))) 26 13 (μ.1 29 (μ.1 26 10))) 26 14 (μ.1 30 (μ.1 26 10))).1 31 (μ.1 26 10))).1 26 10 = μ.1 26 10 := ((sv_n _ (by decide)).trans ((sv_n _ (by decide)).trans ((sv_n _ (by decide)).trans (sv_n _ (by decide)))))
      have e_10 : (sv (sv (sv (sv μ 26 12 (μ.1 28 (μ.1 26 10))) 26 13 (μ.1 29 (μ.1 26 10))) 26 14 (μ.1 30 (μ.1 26 10))) 26 15 ((sv (sv (sv μ 26 12 (μ.1 28 (μ.1 26 10))) 26 13 (μ.1 29 (μ.1 26 10))) 26 14 (μ.1 30 (μ.1 26 10))).1 31 (μ.1 26 10))).1 26 12 = μ.1 28 (μ.1 26 10) := ((sv_n _ (by decide)).trans ((sv_n _ (by decide)).trans ((sv_n _ (by decide)).trans (sv_s _ _ _ _))))
      have hI_11 : IC (sv (sv (sv (sv μ 26 12 (μ.1 28 (μ.1 26 10))) 26 13 (μ.1 29 (μ.1 26 10))) 26 14 (μ.1 30 (μ.1 26 10))) 26 15 ((sv (sv (sv μ 26 12 (μ.1 28 (μ.1 26 10))) 26 13 (μ.1 29 (μ.1 26 10))) 26 14 (μ.1 30 (μ.1 26 10))).1 31 (μ.1 26 10))) := (IC.put (IC.put (IC.put (IC.put hI (by decide +kernel)) (by decide +kernel)) (by decide +kernel)) (by decide +kernel))
      have e_12 : (sv (sv (sv (sv μ 26 12 (μ.1 28 (μ.1 26 10))) 26 13 (μ.1 29 (μ.1 26 10))) 26 14 (μ.1 30 (μ.1 26 10))) 26 15 ((sv (sv (sv μ 26 12 (μ.1 28 (μ.1 26 10))) 26 13 (μ.1 29 (μ.1 26 10))) 26 14 (μ.1 30 (μ.1 26 10))).1 31 (μ.1 26 10))).1 26 11 = μ.1 26 11 := ((sv_n _ (by decide)).trans ((sv_n _ (by decide)).trans ((sv_n _ (by decide)).trans (sv_n _ (by decide)))))
      have e_13 : (sv (sv (sv (sv μ 26 12 (μ.1 28 (μ.1 26 10))) 26 13 (μ.1 29 (μ.1 26 10))) 26 14 (μ.1 30 (μ.1 26 10))) 26 15 ((sv (sv (sv μ 26 12 (μ.1 28 (μ.1 26 10))) 26 13 (μ.1 29 (μ.1 26 10))) 26 14 (μ.1 30 (μ.1 26 10))).1 31 (μ.1 26 10))).1 26 6 = μ.1 26 6 := ((sv_n _ (by decide)).trans ((sv_n _ (by decide)).trans ((sv_n _ (by decide)).trans (sv_n _ (by decide)))))
      have e_14 : (sv (sv (sv (sv μ 26 12 (μ.1 28 (μ.1 26 10))) 26 13 (μ.1 29 (μ.1 26 10))) 26 14 (μ.1 30 (μ.1 26 10))) 26 15 ((sv (sv (sv μ 26 12 (μ.1 28 (μ.1 26 10))) 26 13 (μ.1 29 (μ.1 26 10))) 26 14 (μ.1 30 (μ.1 26 10))).1 31 (μ.1 26 10))).1 26 7 = μ.1 26 7 := ((sv_n _ (by decide)).trans ((sv_n _ (by decide)).trans ((sv_n _ (by decide)).trans (sv_n _ (by decide)))))
      have e_15 : (sv (sv (sv (sv μ 26 12 (μ.1 28 (μ.1 26 10))) 26 13 (μ.1 29 (μ.1 26 10))) 26 14 (μ.1 30 (μ.1 26 10))) 26 15 ((sv (sv (sv μ 26 12 (μ.1 28 (μ.1 26 10))) 26 13 (μ.1 29 (μ.1 26 10))) 26 14 (μ.1 30 (μ.1 26 10))).1 31 (μ.1 26 10))).1 26 8 = μ.1 26 8 := ((sv_n _ (by decide)).trans ((sv_n _ (by decide)).trans ((sv_n _ (by decide)).trans (sv_n _ (by decide)))))
      have e_16 : (sv (sv (sv (sv μ 26 12 (μ.1 28 (μ.1 26 10))) 26 13 (μ.1 29 (μ.1 26 10))) 26 14 (μ.1 30 (μ.1 26 10))) 26 15 ((sv (sv (sv μ 26 12 (μ.1 28 (μ.1 26 10))) 26 13 (μ.1 29 (μ.1 26 10))) 26 14 (μ.1 30 (μ.1 26 10))).1 31 (μ.1 26 10))).1 26 9 = μ.1 26 9 := ((sv_n _ (by decide)).trans ((sv_n _ (by decide)).trans ((sv_n _ (by decide)).trans (sv_n _ (by decide)))))
      exact xr_v G hret hlk dX10_next_83 ⟨(Fr.put (Fr.put (Fr.put (Fr.put Fr.rf (by decide)) (by decide)) (by decide)) (by decide)), hI_11, (Or.inr ⟨by omega, by rw [show (sv (sv (sv (sv μ 26 12 (μ.1 28 (μ.1 26 10))) 26 13 (μ.1 29 (μ.1 26 10))) 26 14 (μ.1 30 (μ.1 26 10))) 26 15 ((sv (sv (sv μ 26 12 (μ.1 28 (μ.1 26 10))) 26 13 (μ.1 29 (μ.1 26 10))) 26 14 (μ.1 30 (μ.1 26 10))).1 31 (μ.1 26 10))).1 26 10 = μ.1 26 10 from ((sv_n _ (by decide)).trans ((sv_n _ (by decide)).trans ((sv_n _ (by decide)).trans (sv_n _ (by decide)))))]; exact ((sv_n _ (by decide)).trans ((sv_n _ (by decide)).trans ((sv_n _ (by decide)).trans (sv_s _ _ _ _)))), Or.inr ⟨by omega, by omega⟩⟩), (Or.inr ⟨by omega, by rw [show (sv (sv (sv (sv μ 26 12 (μ.1 28 (μ.1 26 10))) 26 13 (μ.1 29 (μ.1 26 10))) 26 14 (μ.1 30 (μ.1 26 10))) 26 15 ((sv (sv (sv μ 26 12 (μ.1 28 (μ.1 26 10))) 26 13 (μ.1 29 (μ.1 26 10))) 26 14 (μ.1 30 (μ.1 26 10))).1 31 (μ.1 26 10))).1 26 10 = μ.1 26 10 from ((sv_n _ (by decide)).trans ((sv_n _ (by decide)).trans ((sv_n _ (by decide)).trans (sv_n _ (by decide)))))]; exact ((sv_n _ (by decide)).trans ((sv_n _ (by decide)).trans (sv_s _ _ _ _)))⟩), (by omega), (by omega), (by omega), (by omega), (by omega)⟩
    · refine lv_aload_n hx hb dX10_next_21 rfl (lv_at hl 0 rfl) ?_
      refine lv_dup hx hb dX10_next_22 rfl ?_
      refine xa_geti G fd_X10 (a := 26) (x := μ.1 26 10) 10 rfl (by decide) rfl (wm 1 214 rfl rfl) ⟨rfl, rfl, rfl⟩ dX10_next_23 rfl rfl ?_
      refine lv_iconst (v := iv 1) hx hb dX10_next_26 rfl ?_
      refine xb_iadd hx hb dX10_next_27 ?_
      refine xa_puti G fd_X10 (a := 26) (x := (μ.1 26 10) + 1) 10 (kz := 10) rfl rfl (by decide) rfl (by unfold ir; omega) (wm 1 214 rfl rfl) ⟨rfl, rfl, rfl, rfl⟩ rfl dX10_next_28 rfl (fun H locs G => ?_)
      refine lv_aload_n hx hb dX10_next_31 rfl (lv_at hl 0 rfl) ?_
      refine lv_aload_n hx hb dX10_next_32 rfl (lv_at hl 0 rfl) ?_
      refine xa_getr G fd_X10 (a := 26) (x := 28) 2 rfl (by decide) rfl (wm 1 206 rfl rfl) ⟨rfl, rfl, rfl⟩ dX10_next_33 rfl (G.sk 29 rfl) (by decide) rfl ?_
      refine lv_aload_n hx hb dX10_next_36 rfl (lv_at hl 0 rfl) ?_
      refine xa_geti G fd_X10 (a := 26) (x := (μ.1 26 10) + 1) 10 rfl (by decide) rfl (wm 1 214 rfl rfl) ⟨rfl, rfl, rfl⟩ dX10_next_37 rfl (sv_s _ _ _ _) ?_
      have hr_17 : -2147483648 ≤ (μ.1 26 10) + 1 ∧ (μ.1 26 10) + 1 ≤ 2147483647 := by have h9 := G.hr (a := 26) (k := 10) rfl; rw [show (sv μ 26 10 ((μ.1 26 10) + 1)).1 26 10 = (μ.1 26 10) + 1 from (sv_s _ _ _ _)] at h9; exact h9
      refine xa_iald G (a := 28) (i := (μ.1 26 10) + 1) rfl (by have h9 := G.lc (a := 28) (n := 3001) 17 rfl; omega) dX10_next_40 rfl ?_
      refine xb_ti (y := μ.1 28 (μ.1 26 10 + 1)) (sv_n _ (fun h9 => absurd h9.1 (by decide))) ?_
      have hr_18 : -2147483648 ≤ μ.1 28 (μ.1 26 10 + 1) ∧ μ.1 28 (μ.1 26 10 + 1) ≤ 2147483647 := by have h9 := G.hr (a := 28) (k := (μ.1 26 10) + 1) rfl; rw [(sv_n _ (fun h9 => absurd h9.1 (by decide)))] at h9; exact h9
      refine xa_puti G fd_X10 (a := 26) (x := μ.1 28 (μ.1 26 10 + 1)) 12 (kz := 12) rfl rfl (by decide) rfl (by unfold ir; omega) (wm 1 216 rfl rfl) ⟨rfl, rfl, rfl, rfl⟩ rfl dX10_next_41 rfl (fun H locs G => ?_)
      refine lv_aload_n hx hb dX10_next_44 rfl (lv_at hl 0 rfl) ?_
      refine lv_aload_n hx hb dX10_next_45 rfl (lv_at hl 0 rfl) ?_
      refine xa_getr G fd_X10 (a := 26) (x := 29) 3 rfl (by decide) rfl (wm 1 207 rfl rfl) ⟨rfl, rfl, rfl⟩ dX10_next_46 rfl (G.sk 30 rfl) (by decide) rfl ?_
      refine lv_aload_n hx hb dX10_next_49 rfl (lv_at hl 0 rfl) ?_
      refine xa_geti G fd_X10 (a := 26) (x := (μ.1 26 10) + 1) 10 rfl (by decide) rfl (wm 1 214 rfl rfl) ⟨rfl, rfl, rfl⟩ dX10_next_50 rfl ((sv_n _ (by decide)).trans (sv_s _ _ _ _)) ?_
      refine xa_iald G (a := 29) (i := (μ.1 26 10) + 1) rfl (by have h9 := G.lc (a := 29) (n := 3001) 18 rfl; omega) dX10_next_53 rfl ?_
      refine xb_ti (y := μ.1 29 (μ.1 26 10 + 1)) ((sv_n _ (fun h9 => absurd h9.1 (by decide))).trans (sv_n _ (fun h9 => absurd h9.1 (by decide)))) ?_
      have hr_19 : -2147483648 ≤ μ.1 29 (μ.1 26 10 + 1) ∧ μ.1 29 (μ.1 26 10 + 1) ≤ 2147483647 := by have h9 := G.hr (a := 29) (k := (μ.1 26 10) + 1) rfl; rw [((sv_n _ (fun h9 => absurd h9.1 (by decide))).trans (sv_n _ (fun h9 => absurd h9.1 (by decide))))] at h9; exact h9
      refine xa_puti G fd_X10 (a := 26) (x := μ.1 29 (μ.1 26 10 + 1)) 13 (kz := 13) rfl rfl (by decide) rfl (by unfold ir; omega) (wm 1 218 rfl rfl) ⟨rfl, rfl, rfl, rfl⟩ rfl dX10_next_54 rfl (fun H locs G => ?_)
      refine lv_aload_n hx hb dX10_next_57 rfl (lv_at hl 0 rfl) ?_
      refine lv_aload_n hx hb dX10_next_58 rfl (lv_at hl 0 rfl) ?_
      refine xa_getr G fd_X10 (a := 26) (x := 30) 4 rfl (by decide) rfl (wm 1 208 rfl rfl) ⟨rfl, rfl, rfl⟩ dX10_next_59 rfl (G.sk 31 rfl) (by decide) rfl ?_
      refine lv_aload_n hx hb dX10_next_62 rfl (lv_at hl 0 rfl) ?_
      refine xa_geti G fd_X10 (a := 26) (x := (μ.1 26 10) + 1) 10 rfl (by decide) rfl (wm 1 214 rfl rfl) ⟨rfl, rfl, rfl⟩ dX10_next_63 rfl ((sv_n _ (by decide)).trans ((sv_n _ (by decide)).trans (sv_s _ _ _ _))) ?_
      refine xa_lald G (a := 30) (i := (μ.1 26 10) + 1) rfl (by have h9 := G.lc (a := 30) (n := 3001) 19 rfl; omega) dX10_next_66 rfl ?_
      refine xb_tl (y := μ.1 30 (μ.1 26 10 + 1)) ((sv_n _ (fun h9 => absurd h9.1 (by decide))).trans ((sv_n _ (fun h9 => absurd h9.1 (by decide))).trans (sv_n _ (fun h9 => absurd h9.1 (by decide))))) ?_
      have hj_20 : jr (μ.1 30 (μ.1 26 10 + 1)) := (by have h9 := G.hj (a := 30) (k := (μ.1 26 10) + 1) rfl; rw [((sv_n _ (fun h9 => absurd h9.1 (by decide))).trans ((sv_n _ (fun h9 => absurd h9.1 (by decide))).trans (sv_n _ (fun h9 => absurd h9.1 (by decide)))))] at h9; exact h9)
      refine xa_putl G fd_X10 (a := 26) (x := μ.1 30 (μ.1 26 10 + 1)) 14 (kz := 14) rfl rfl (by decide) rfl hj_20 (wm 1 220 rfl rfl) ⟨rfl, rfl, rfl, rfl⟩ rfl dX10_next_67 rfl (fun H locs G => ?_)
      refine lv_aload_n hx hb dX10_next_70 rfl (lv_at hl 0 rfl) ?_
      refine lv_aload_n hx hb dX10_next_71 rfl (lv_at hl 0 rfl) ?_
      refine xa_getr G fd_X10 (a := 26) (x := 31) 5 rfl (by decide) rfl (wm 1 209 rfl rfl) ⟨rfl, rfl, rfl⟩ dX10_next_72 rfl (G.sk 32 rfl) (by decide) rfl ?_
      refine lv_aload_n hx hb dX10_next_75 rfl (lv_at hl 0 rfl) ?_
      refine xa_geti G fd_X10 (a := 26) (x := (μ.1 26 10) + 1) 10 rfl (by decide) rfl (wm 1 214 rfl rfl) ⟨rfl, rfl, rfl⟩ dX10_next_76 rfl ((sv_n _ (by decide)).trans ((sv_n _ (by decide)).trans ((sv_n _ (by decide)).trans (sv_s _ _ _ _)))) ?_
      refine xa_dald G (a := 31) (i := (μ.1 26 10) + 1) rfl (by have h9 := G.lc (a := 31) (n := 3001) 20 rfl; omega) dX10_next_79 rfl ?_
      refine xa_putd G fd_X10 (a := 26) (x := ((sv (sv (sv (sv μ 26 10 ((μ.1 26 10) + 1)) 26 12 (μ.1 28 (μ.1 26 10 + 1))) 26 13 (μ.1 29 (μ.1 26 10 + 1))) 26 14 (μ.1 30 (μ.1 26 10 + 1))).1 31 ((μ.1 26 10) + 1))) 15 (kz := 15) rfl rfl (by decide) rfl  (wm 1 222 rfl rfl) ⟨rfl, rfl, rfl, rfl⟩ rfl dX10_next_80 rfl (fun H locs G => ?_)
      have e_21 : (sv (sv (sv (sv (sv μ 26 10 ((μ.1 26 10) + 1)) 26 12 (μ.1 28 (μ.1 26 10 + 1))) 26 13 (μ.1 29 (μ.1 26 10 + 1))) 26 14 (μ.1 30 (μ.1 26 10 + 1))) 26 15 ((sv (sv (sv (sv μ 26 10 ((μ.1 26 10) + 1)) 26 12 (μ.1 28 (μ.1 26 10 + 1))) 26 13 (μ.1 29 (μ.1 26 10 + 1))) 26 14 (μ.1 30 (μ.1 26 10 + 1))).1 31 ((μ.1 26 10) + 1))).1 26 10 = (μ.1 26 10) + 1 := ((sv_n _ (by decide)).trans ((sv_n _ (by decide)).trans ((sv_n _ (by decide)).trans ((sv_n _ (by decide)).trans (sv_s _ _ _ _)))))
      have e_22 : (sv (sv (sv (sv (sv μ 26 10 ((μ.1 26 10) + 1)) 26 12 (μ.1 28 (μ.1 26 10 + 1))) 26 13 (μ.1 29 (μ.1 26 10 + 1))) 26 14 (μ.1 30 (μ.1 26 10 + 1))) 26 15 ((sv (sv (sv (sv μ 26 10 ((μ.1 26 10) + 1)) 26 12 (μ.1 28 (μ.1 26 10 + 1))) 26 13 (μ.1 29 (μ.1 26 10 + 1))) 26 14 (μ.1 30 (μ.1 26 10 + 1))).1 31 ((μ.1 26 10) + 1))).1 26 12 = μ.1 28 (μ.1 26 10 + 1) := ((sv_n _ (by decide)).trans ((sv_n _ (by decide)).trans ((sv_n _ (by decide)).trans (sv_s _ _ _ _))))
      have hI_23 : IC (sv (sv (sv (sv (sv μ 26 10 ((μ.1 26 10) + 1)) 26 12 (μ.1 28 (μ.1 26 10 + 1))) 26 13 (μ.1 29 (μ.1 26 10 + 1))) 26 14 (μ.1 30 (μ.1 26 10 + 1))) 26 15 ((sv (sv (sv (sv μ 26 10 ((μ.1 26 10) + 1)) 26 12 (μ.1 28 (μ.1 26 10 + 1))) 26 13 (μ.1 29 (μ.1 26 10 + 1))) 26 14 (μ.1 30 (μ.1 26 10 + 1))).1 31 ((μ.1 26 10) + 1))) := (IC.put (IC.put (IC.put (IC.put (IC.n_26_10 hI (by omega)) (by decide +kernel)) (by decide +kernel)) (by decide +kernel)) (by decide +kernel))
      have e_24 : (sv (sv (sv (sv (sv μ 26 10 ((μ.1 26 10) + 1)) 26 12 (μ.1 28 (μ.1 26 10 + 1))) 26 13 (μ.1 29 (μ.1 26 10 + 1))) 26 14 (μ.1 30 (μ.1 26 10 + 1))) 26 15 ((sv (sv (sv (sv μ 26 10 ((μ.1 26 10) + 1)) 26 12 (μ.1 28 (μ.1 26 10 + 1))) 26 13 (μ.1 29 (μ.1 26 10 + 1))) 26 14 (μ.1 30 (μ.1 26 10 + 1))).1 31 ((μ.1 26 10) + 1))).1 26 11 = μ.1 26 11 := ((sv_n _ (by decide)).trans ((sv_n _ (by decide)).trans ((sv_n _ (by decide)).trans ((sv_n _ (by decide)).trans (sv_n _ (by decide))))))
      have e_25 : (sv (sv (sv (sv (sv μ 26 10 ((μ.1 26 10) + 1)) 26 12 (μ.1 28 (μ.1 26 10 + 1))) 26 13 (μ.1 29 (μ.1 26 10 + 1))) 26 14 (μ.1 30 (μ.1 26 10 + 1))) 26 15 ((sv (sv (sv (sv μ 26 10 ((μ.1 26 10) + 1)) 26 12 (μ.1 28 (μ.1 26 10 + 1))) 26 13 (μ.1 29 (μ.1 26 10 + 1))) 26 14 (μ.1 30 (μ.1 26 10 + 1))).1 31 ((μ.1 26 10) + 1))).1 26 6 = μ.1 26 6 := ((sv_n _ (by decide)).trans ((sv_n _ (by decide)).trans ((sv_n _ (by decide)).trans ((sv_n _ (by decide)).trans (sv_n _ (by decide))))))
      have e_26 : (sv (sv (sv (sv (sv μ 26 10 ((μ.1 26 10) + 1)) 26 12 (μ.1 28 (μ.1 26 10 + 1))) 26 13 (μ.1 29 (μ.1 26 10 + 1))) 26 14 (μ.1 30 (μ.1 26 10 + 1))) 26 15 ((sv (sv (sv (sv μ 26 10 ((μ.1 26 10) + 1)) 26 12 (μ.1 28 (μ.1 26 10 + 1))) 26 13 (μ.1 29 (μ.1 26 10 + 1))) 26 14 (μ.1 30 (μ.1 26 10 + 1))).1 31 ((μ.1 26 10) + 1))).1 26 7 = μ.1 26 7 := ((sv_n _ (by decide)).trans ((sv_n _ (by decide)).trans ((sv_n _ (by decide)).trans ((sv_n _ (by decide)).trans (sv_n _ (by decide))))))
      have e_27 : (sv (sv (sv (sv (sv μ 26 10 ((μ.1 26 10) + 1)) 26 12 (μ.1 28 (μ.1 26 10 + 1))) 26 13 (μ.1 29 (μ.1 26 10 + 1))) 26 14 (μ.1 30 (μ.1 26 10 + 1))) 26 15 ((sv (sv (sv (sv μ 26 10 ((μ.1 26 10) + 1)) 26 12 (μ.1 28 (μ.1 26 10 + 1))) 26 13 (μ.1 29 (μ.1 26 10 + 1))) 26 14 (μ.1 30 (μ.1 26 10 + 1))).1 31 ((μ.1 26 10) + 1))).1 26 8 = μ.1 26 8 := ((sv_n _ (by decide)).trans ((sv_n _ (by decide)).trans ((sv_n _ (by decide)).trans ((sv_n _ (by decide)).trans (sv_n _ (by decide))))))
      have e_28 : (sv (sv (sv (sv (sv μ 26 10 ((μ.1 26 10) + 1)) 26 12 (μ.1 28 (μ.1 26 10 + 1))) 26 13 (μ.1 29 (μ.1 26 10 + 1))) 26 14 (μ.1 30 (μ.1 26 10 + 1))) 26 15 ((sv (sv (sv (sv μ 26 10 ((μ.1 26 10) + 1)) 26 12 (μ.1 28 (μ.1 26 10 + 1))) 26 13 (μ.1 29 (μ.1 26 10 + 1))) 26 14 (μ.1 30 (μ.1 26 10 + 1))).1 31 ((μ.1 26 10) + 1))).1 26 9 = μ.1 26 9 := ((sv_n _ (by decide)).trans ((sv_n _ (by decide)).trans ((sv_n _ (by decide)).trans ((sv_n _ (by decide)).trans (sv_n _ (by decide))))))
      exact xr_v G hret hlk dX10_next_83 ⟨(Fr.put (Fr.put (Fr.put (Fr.put (Fr.put Fr.rf (by decide)) (by decide)) (by decide)) (by decide)) (by decide)), hI_23, (Or.inr ⟨by omega, by rw [show (sv (sv (sv (sv (sv μ 26 10 ((μ.1 26 10) + 1)) 26 12 (μ.1 28 (μ.1 26 10 + 1))) 26 13 (μ.1 29 (μ.1 26 10 + 1))) 26 14 (μ.1 30 (μ.1 26 10 + 1))) 26 15 ((sv (sv (sv (sv μ 26 10 ((μ.1 26 10) + 1)) 26 12 (μ.1 28 (μ.1 26 10 + 1))) 26 13 (μ.1 29 (μ.1 26 10 + 1))) 26 14 (μ.1 30 (μ.1 26 10 + 1))).1 31 ((μ.1 26 10) + 1))).1 26 10 = (μ.1 26 10) + 1 from ((sv_n _ (by decide)).trans ((sv_n _ (by decide)).trans ((sv_n _ (by decide)).trans ((sv_n _ (by decide)).trans (sv_s _ _ _ _)))))]; exact ((sv_n _ (by decide)).trans ((sv_n _ (by decide)).trans ((sv_n _ (by decide)).trans (sv_s _ _ _ _)))), Or.inl ⟨by omega, by omega⟩⟩), (Or.inr ⟨by omega, by rw [show (sv (sv (sv (sv (sv μ 26 10 ((μ.1 26 10) + 1)) 26 12 (μ.1 28 (μ.1 26 10 + 1))) 26 13 (μ.1 29 (μ.1 26 10 + 1))) 26 14 (μ.1 30 (μ.1 26 10 + 1))) 26 15 ((sv (sv (sv (sv μ 26 10 ((μ.1 26 10) + 1)) 26 12 (μ.1 28 (μ.1 26 10 + 1))) 26 13 (μ.1 29 (μ.1 26 10 + 1))) 26 14 (μ.1 30 (μ.1 26 10 + 1))).1 31 ((μ.1 26 10) + 1))).1 26 10 = (μ.1 26 10) + 1 from ((sv_n _ (by decide)).trans ((sv_n _ (by decide)).trans ((sv_n _ (by decide)).trans ((sv_n _ (by decide)).trans (sv_s _ _ _ _)))))]; exact ((sv_n _ (by decide)).trans ((sv_n _ (by decide)).trans (sv_s _ _ _ _)))⟩), (by omega), (by omega), (by omega), (by omega), (by omega)⟩
  · exact xr_v G hret hlk dX10_next_7 ⟨Fr.rf, hI, (Or.inl ⟨by omega, by omega, by omega⟩), (Or.inl ⟨by omega, rfl⟩), (by omega), (by omega), (by omega), (by omega), (by omega)⟩

set_option maxHeartbeats 4000000 in
set_option maxRecDepth 100000 in
theorem c_X10_begin (ω : Om) (l : Launch) (μ : M3) (x1 : Int) (x2 : Int) (hx1 : ir x1) (hx2 : ir x2) (hI : IC μ) (h2 : 0 ≤ x2) : CtV ω l yX10_begin cX10_begin 3 6 134 [.ref (oP ω 26), .int (iv x1), .int (iv x2)] μ (fun (μ' : M3) => (Fr [26, 28, 29, 30, 31] μ μ') ∧ (IC μ') ∧ (TK μ') ∧ (μ'.1 26 11 = 0)) := by
  refine CtV.go (by decide) (Nat.le_of_ble_eq_true rfl) (fun ρ p e s m below meth c R ls G hR hret hlk hl => ?_)
  have hx := G.1.1
  have hb := G.1.2.1
  have hl : lv_has ls 3 [(0, .ref (oP ω 26)), (1, .int (iv x1)), (2, .int (iv x2))] := hl
  generalize s.drawn = d0 at G ⊢
  have hr_x1 : -2147483648 ≤ x1 ∧ x1 ≤ 2147483647 := hx1
  have hr_x2 : -2147483648 ≤ x2 ∧ x2 ≤ 2147483647 := hx2
  refine lv_aload_n hx hb dX10_begin_0 rfl (lv_at hl 0 rfl) ?_
  refine lv_iload_n hx hb dX10_begin_1 rfl (lv_at hl 1 rfl) ?_
  refine xa_puti G fd_X10 (a := 26) (x := x1) 8 (kz := 8) rfl rfl (by decide) rfl (by unfold ir; omega) (wm 1 212 rfl rfl) ⟨rfl, rfl, rfl, rfl⟩ rfl dX10_begin_2 rfl (fun H locs G => ?_)
  refine lv_aload_n hx hb dX10_begin_5 rfl (lv_at hl 0 rfl) ?_
  refine lv_iload_n hx hb dX10_begin_6 rfl (lv_at hl 2 rfl) ?_
  refine lv_aload_n hx hb dX10_begin_7 rfl (lv_at hl 0 rfl) ?_
  refine xa_getr G fd_X10 (a := 26) (x := 1) 0 rfl (by decide) rfl (wm 1 204 rfl rfl) ⟨rfl, rfl, rfl⟩ dX10_begin_8 rfl (G.sk 27 rfl) (by decide) rfl ?_
  refine xa_alen G (a := 1) (t := 3) rfl (by decide) dX10_begin_11 rfl ?_
  refine xb_ti (y := 3000) (G.lc 0 rfl) ?_
  refine xm_min G (x := x2) (y := 3000) (wm 3 53 rfl rfl) (wm 3 29 rfl rfl) (wm 1 11 rfl rfl) (wm 3 30 rfl rfl) hR (by decide) (Nat.le_of_ble_eq_true rfl) hl.1 (by unfold ir; omega) (by unfold ir; omega) dX10_begin_12 ?_
  refine xa_puti G fd_X10 (a := 26) (x := min x2 3000) 7 (kz := 7) rfl rfl (by decide) rfl (by unfold ir; omega) (wm 1 211 rfl rfl) ⟨rfl, rfl, rfl, rfl⟩ rfl dX10_begin_15 rfl (fun H locs G => ?_)
  refine lv_aload_n hx hb dX10_begin_18 rfl (lv_at hl 0 rfl) ?_
  refine lv_iconst (v := iv 0) hx hb dX10_begin_19 rfl ?_
  refine xa_puti G fd_X10 (a := 26) (x := 0) 9 (kz := 9) rfl rfl (by decide) rfl (by unfold ir; omega) (wm 1 213 rfl rfl) ⟨rfl, rfl, rfl, rfl⟩ rfl dX10_begin_20 rfl (fun H locs G => ?_)
  refine lv_aload_n hx hb dX10_begin_23 rfl (lv_at hl 0 rfl) ?_
  refine lv_iconst (v := iv 0) hx hb dX10_begin_24 rfl ?_
  refine xa_puti G fd_X10 (a := 26) (x := 0) 6 (kz := 6) rfl rfl (by decide) rfl (by unfold ir; omega) (wm 1 210 rfl rfl) ⟨rfl, rfl, rfl, rfl⟩ rfl dX10_begin_25 rfl (fun H locs G => ?_)
  refine lv_aload_n hx hb dX10_begin_28 rfl (lv_at hl 0 rfl) ?_
  refine lv_iconst (v := iv 1) hx hb dX10_begin_29 rfl ?_
  refine xa_puti G fd_X10 (a := 26) (x := 1) 12 (kz := 12) rfl rfl (by decide) rfl (by unfold ir; omega) (wm 1 216 rfl rfl) ⟨rfl, rfl, rfl, rfl⟩ rfl dX10_begin_30 rfl (fun H locs G => ?_)
  have e_1 : (sv (sv (sv (sv (sv μ 26 8 x1) 26 7 (min x2 3000)) 26 9 0) 26 6 0) 26 12 1).1 26 6 = 0 := ((sv_n _ (by decide)).trans (sv_s _ _ _ _))
  have e_2 : (sv (sv (sv (sv (sv μ 26 8 x1) 26 7 (min x2 3000)) 26 9 0) 26 6 0) 26 12 1).1 26 12 = 1 := (sv_s _ _ _ _)
  have e_3 : (sv (sv (sv (sv (sv μ 26 8 x1) 26 7 (min x2 3000)) 26 9 0) 26 6 0) 26 12 1).1 26 9 = 0 := ((sv_n _ (by decide)).trans ((sv_n _ (by decide)).trans (sv_s _ _ _ _)))
  have e_4 : (sv (sv (sv (sv (sv μ 26 8 x1) 26 7 (min x2 3000)) 26 9 0) 26 6 0) 26 12 1).1 26 6 = 0 := ((sv_n _ (by decide)).trans (sv_s _ _ _ _))
  have e_5 : (sv (sv (sv (sv (sv μ 26 8 x1) 26 7 (min x2 3000)) 26 9 0) 26 6 0) 26 12 1).1 26 12 = 1 := (sv_s _ _ _ _)
  have hI_6 : IC (sv (sv (sv (sv (sv μ 26 8 x1) 26 7 (min x2 3000)) 26 9 0) 26 6 0) 26 12 1) := (IC.put (IC.n_26_6 (IC.n_26_9 (IC.n_26_7 (IC.put hI (by decide +kernel)) (by omega)) (by omega)) (by omega)) (by decide +kernel))
  refine xl (fun n_9 μ' ls => (Fr [26, 28, 29, 30, 31] (sv (sv (sv (sv (sv μ 26 8 x1) 26 7 (min x2 3000)) 26 9 0) 26 6 0) 26 12 1) μ') ∧ (μ'.1 26 12 = 0 ∨ μ'.1 26 12 = 3 ∨ μ'.1 26 6 ≤ μ'.1 26 9) ∧ (μ'.1 26 6 = 0 ∨ μ'.1 28 (μ'.1 26 6 - 1) = μ'.1 26 12) ∧ (1 ≤ μ'.1 26 6 ∨ μ'.1 26 12 = 1) ∧ (∀ j, 0 ≤ j → j < μ'.1 26 6 → 0 ≤ μ'.1 29 j) ∧ (IC μ') ∧ n_9 = Int.toNat (3001 - μ'.1 26 6) ∧ lv_has ls 3 [(0, .ref (oP ω 26)), (1, .int (iv x1)), (2, .int (iv x2))]) (fun n_9 ρ μL7 d0 H locs ls hI_l G ih => ?_) _ _ _ _ _ _ _ ⟨Fr.rf, (Or.inr (Or.inr (by omega))), (Or.inl (((sv_n _ (by decide)).trans (sv_s _ _ _ _)))), (by omega), (fun j h1 h2 => absurd h2 (by have h9 : (sv (sv (sv (sv (sv μ 26 8 x1) 26 7 (min x2 3000)) 26 9 0) 26 6 0) 26 12 1).1 26 6 = 0 := ((sv_n _ (by decide)).trans (sv_s _ _ _ _)); omega)), hI_6, rfl, lv_sub hl [0, 1, 2] rfl⟩ G
  obtain ⟨FL8, hi_10, hi_11, hi_12, hi_13, hi_14, hn9, hl⟩ := hI_l
  have hn_15 : 0 ≤ μL7.1 26 6 ∧ μL7.1 26 6 ≤ 3001 := hi_14.nm.2.2.2.2.2.2.2.2.2.1
  have hn_16 : 0 ≤ μL7.1 26 9 ∧ μL7.1 26 9 ≤ 3000 := hi_14.nm.2.2.2.2.2.2.2.2.2.2.2.1
  refine lv_aload_n hx hb dX10_begin_33 rfl (lv_at hl 0 rfl) ?_
  refine xa_geti G fd_X10 (a := 26) (x := μL7.1 26 6) 6 rfl (by decide) rfl (wm 1 210 rfl rfl) ⟨rfl, rfl, rfl⟩ dX10_begin_34 rfl rfl ?_
  have hr_17 : -2147483648 ≤ μL7.1 26 6 ∧ μL7.1 26 6 ≤ 2147483647 := by have h9 := G.hr (a := 26) (k := 6) rfl; exact h9
  refine lv_sipush (v := iv 3000) hx hb dX10_begin_37 rfl ?_
  refine xb_icmp_gt (tgt := 127) hx hb (by unfold ir; omega) (by unfold ir; omega) dX10_begin_40 (by decide) (fun c_40 => ?_) (fun c_40 => ?_)
  · refine lv_aload_n hx hb dX10_begin_127 rfl (lv_at hl 0 rfl) ?_
    refine lv_iconst (v := iv 0) hx hb dX10_begin_128 rfl ?_
    refine xa_putz G fd_X10 (a := 26) (x := 0) 11 (kz := 11) rfl rfl (by decide) rfl (by omega) (wm 1 215 rfl rfl) ⟨rfl, rfl, rfl, rfl⟩ rfl dX10_begin_129 rfl (fun H locs G => ?_)
    refine lv_aload_n hx hb dX10_begin_132 rfl (lv_at hl 0 rfl) ?_
    refine lv_iconst (v := iv (-1)) hx hb dX10_begin_133 rfl ?_
    refine xa_puti G fd_X10 (a := 26) (x := (-1)) 10 (kz := 10) rfl rfl (by decide) rfl (by unfold ir; omega) (wm 1 214 rfl rfl) ⟨rfl, rfl, rfl, rfl⟩ rfl dX10_begin_134 rfl (fun H locs G => ?_)
    refine lv_aload_n hx hb dX10_begin_137 rfl (lv_at hl 0 rfl) ?_
    have hcn : 1 ≤ μL7.1 26 6 ∧ (μL7.1 26 12 = 0 ∨ μL7.1 26 12 = 3) := ⟨by omega, by omega⟩
    have hlast : μL7.1 28 (μL7.1 26 6 - 1) = μL7.1 26 12 := (hi_11).resolve_left (by omega)
    have hI_18 : IC (sv (sv μL7 26 11 0) 26 10 (-1)) := (IC.n_26_10 (IC.put hi_14 (by decide +kernel)) (by omega))
    have e_19 : (sv (sv μL7 26 11 0) 26 10 (-1)).1 26 6 = μL7.1 26 6 := ((sv_n _ (by decide)).trans (sv_n _ (by decide)))
    have e_20 : (sv (sv μL7 26 11 0) 26 10 (-1)).1 26 10 = (-1) := (sv_s _ _ _ _)
    have e_21 : (sv (sv μL7 26 11 0) 26 10 (-1)).1 26 11 = 0 := ((sv_n _ (by decide)).trans (sv_s _ _ _ _))
    have e_22 : (sv (sv μL7 26 11 0) 26 10 (-1)).1 26 10 = (-1) := (sv_s _ _ _ _)
    have e_23 : (sv (sv μL7 26 11 0) 26 10 (-1)).1 26 12 = μL7.1 26 12 := ((sv_n _ (by decide)).trans (sv_n _ (by decide)))
    have e_24 : (sv (sv μL7 26 11 0) 26 10 (-1)).1 26 11 = 0 := ((sv_n _ (by decide)).trans (sv_s _ _ _ _))
    have e_25 : (sv (sv μL7 26 11 0) 26 10 (-1)).1 26 10 = (-1) := (sv_s _ _ _ _)
    have e_26 : (sv (sv μL7 26 11 0) 26 10 (-1)).1 26 6 = μL7.1 26 6 := ((sv_n _ (by decide)).trans (sv_n _ (by decide)))
    have e_27 : (sv (sv μL7 26 11 0) 26 10 (-1)).1 26 10 = (-1) := (sv_s _ _ _ _)
    have e_28 : (sv (sv μL7 26 11 0) 26 10 (-1)).1 26 6 = μL7.1 26 6 := ((sv_n _ (by decide)).trans (sv_n _ (by decide)))
    have e_29 : (sv (sv μL7 26 11 0) 26 10 (-1)).1 26 10 = (-1) := (sv_s _ _ _ _)
    have e_30 : (sv (sv μL7 26 11 0) 26 10 (-1)).1 26 10 = (-1) := (sv_s _ _ _ _)
    have e_31 : (sv (sv μL7 26 11 0) 26 10 (-1)).1 26 11 = 0 := ((sv_n _ (by decide)).trans (sv_s _ _ _ _))
    have e_32 : (sv (sv μL7 26 11 0) 26 10 (-1)).1 26 13 = μL7.1 26 13 := ((sv_n _ (by decide)).trans (sv_n _ (by decide)))
    have e_33 : (sv (sv μL7 26 11 0) 26 10 (-1)).1 26 11 = 0 := ((sv_n _ (by decide)).trans (sv_s _ _ _ _))
    have e_34 : (sv (sv μL7 26 11 0) 26 10 (-1)).1 26 11 = 0 := ((sv_n _ (by decide)).trans (sv_s _ _ _ _))
    have e_35 : (sv (sv μL7 26 11 0) 26 10 (-1)).1 26 6 = μL7.1 26 6 := ((sv_n _ (by decide)).trans (sv_n _ (by decide)))
    have hn_36 : 0 ≤ μL7.1 26 7 ∧ μL7.1 26 7 ≤ 3000 := hi_14.nm.2.2.2.2.2.2.2.2.2.2.1
    have e_37 : (sv (sv μL7 26 11 0) 26 10 (-1)).1 26 7 = μL7.1 26 7 := ((sv_n _ (by decide)).trans (sv_n _ (by decide)))
    have e_38 : (sv (sv μL7 26 11 0) 26 10 (-1)).1 26 8 = μL7.1 26 8 := ((sv_n _ (by decide)).trans (sv_n _ (by decide)))
    have e_39 : (sv (sv μL7 26 11 0) 26 10 (-1)).1 26 9 = μL7.1 26 9 := ((sv_n _ (by decide)).trans (sv_n _ (by decide)))
    refine xc_vV G (b := 26) (rest := []) (As := []) (c_X10_next ω l (sv (sv μL7 26 11 0) 26 10 (-1))  hI_18 (by omega) (by omega)) (wm 3 156 rfl rfl) (wm 3 157 rfl rfl) (wm 3 158 rfl rfl) rfl rfl (by decide) rfl (wm 1 13 rfl rfl) (wm 3 159 rfl rfl) (by decide) hR (by decide) (n := 0) rfl rfl (Nat.le_of_ble_eq_true rfl) hl.1 dX10_begin_138 (fun μ40 ρ d0 H locs hp G => ?_)
    obtain ⟨F_41, hI_42, hp_43, hp_44, hs_45, hs_46, hs_47, hs_48, hs_49⟩ := hp
    have hn_50 : -1 ≤ μ40.1 26 10 ∧ μ40.1 26 10 ≤ 3000 := hI_42.nm.2.2.2.2.2.2.2.2.2.2.2.2
    have e_51 : μ40.1 26 6 = μL7.1 26 6 := (hs_46.trans ((sv_n _ (by decide)).trans (sv_n _ (by decide))))
    have e_52 : μ40.1 26 11 = 0 := (hs_45.trans ((sv_n _ (by decide)).trans (sv_s _ _ _ _)))
    have e6_ : μ40.1 26 6 = μL7.1 26 6 := (hs_46.trans ((sv_n _ (by decide)).trans (sv_n _ (by decide))))
    have e28_ : ∀ j, μ40.1 28 j = μL7.1 28 j := fun j => ((F_41.1 28 (by decide) j).trans ((sv_n _ (by omega)).trans (sv_n _ (by omega))))
    have e28o : ∀ j, (sv (sv μL7 26 11 0) 26 10 (-1)).1 28 j = μL7.1 28 j := fun j => ((sv_n _ (by omega)).trans (sv_n _ (by omega)))
    have e29_ : ∀ j, μ40.1 29 j = μL7.1 29 j := fun j => ((F_41.1 29 (by decide) j).trans ((sv_n _ (by omega)).trans (sv_n _ (by omega))))
    have e29o : ∀ j, (sv (sv μL7 26 11 0) 26 10 (-1)).1 29 j = μL7.1 29 j := fun j => ((sv_n _ (by omega)).trans (sv_n _ (by omega)))
    have htk : TK μ40 := by
      refine ⟨?_, ?_, ?_, ?_, ?_⟩
      · rcases hp_43 with ⟨q1, q2, q3⟩ | ⟨q1, q2, ⟨q3, q4⟩ | ⟨q3, q4⟩⟩ <;> omega
      · rw [e28_, e6_, hlast]; exact hcn.2
      · refine Or.inl ⟨by omega, ?_⟩
        rcases hp_43 with ⟨q1, q2, q3⟩ | ⟨q1, q2, q3⟩
        · exfalso; omega
        · rw [q2, e28_, e28o]
      · rcases hp_44 with ⟨q1, q2⟩ | ⟨q1, q2⟩
        · exfalso; omega
        · rw [q2, e29o]; exact hi_13 _ (by rcases hp_43 with ⟨q1, q2, q3⟩ | ⟨q1, q2, ⟨q3, q4⟩ | ⟨q3, q4⟩⟩ <;> omega) (by rcases hp_43 with ⟨q1, q2, q3⟩ | ⟨q1, q2, ⟨q3, q4⟩ | ⟨q3, q4⟩⟩ <;> omega)
      · intro j h1 h2; rw [e29_]; exact hi_13 j h1 (by omega)
    have e_53 : μ40.1 26 11 = 0 := (hs_45.trans ((sv_n _ (by decide)).trans (sv_s _ _ _ _)))
    exact xr_v G hret hlk dX10_begin_141 ⟨(Fr.tr (Fr.put (Fr.put (Fr.tr (Fr.put (Fr.put (Fr.put (Fr.put (Fr.put Fr.rf (by decide)) (by decide)) (by decide)) (by decide)) (by decide)) FL8 (by decide)) (by decide)) (by decide)) F_41 (by decide)), hI_42, htk, (by omega)⟩
  · refine lv_aload_n hx hb dX10_begin_43 rfl (lv_at hl 0 rfl) ?_
    refine xa_geti G fd_X10 (a := 26) (x := μL7.1 26 12) 12 rfl (by decide) rfl (wm 1 216 rfl rfl) ⟨rfl, rfl, rfl⟩ dX10_begin_44 rfl rfl ?_
    have hr_54 : -2147483648 ≤ μL7.1 26 12 ∧ μL7.1 26 12 ≤ 2147483647 := by have h9 := G.hr (a := 26) (k := 12) rfl; exact h9
    refine xb_if_eq (tgt := 127) hx hb (by unfold ir; omega) dX10_begin_47 (by decide) (fun c_47 => ?_) (fun c_47 => ?_)
    · refine lv_aload_n hx hb dX10_begin_127 rfl (lv_at hl 0 rfl) ?_
      refine lv_iconst (v := iv 0) hx hb dX10_begin_128 rfl ?_
      refine xa_putz G fd_X10 (a := 26) (x := 0) 11 (kz := 11) rfl rfl (by decide) rfl (by omega) (wm 1 215 rfl rfl) ⟨rfl, rfl, rfl, rfl⟩ rfl dX10_begin_129 rfl (fun H locs G => ?_)
      refine lv_aload_n hx hb dX10_begin_132 rfl (lv_at hl 0 rfl) ?_
      refine lv_iconst (v := iv (-1)) hx hb dX10_begin_133 rfl ?_
      refine xa_puti G fd_X10 (a := 26) (x := (-1)) 10 (kz := 10) rfl rfl (by decide) rfl (by unfold ir; omega) (wm 1 214 rfl rfl) ⟨rfl, rfl, rfl, rfl⟩ rfl dX10_begin_134 rfl (fun H locs G => ?_)
      refine lv_aload_n hx hb dX10_begin_137 rfl (lv_at hl 0 rfl) ?_
      have hcn : 1 ≤ μL7.1 26 6 ∧ (μL7.1 26 12 = 0 ∨ μL7.1 26 12 = 3) := ⟨by omega, by omega⟩
      have hlast : μL7.1 28 (μL7.1 26 6 - 1) = μL7.1 26 12 := (hi_11).resolve_left (by omega)
      have hI_55 : IC (sv (sv μL7 26 11 0) 26 10 (-1)) := (IC.n_26_10 (IC.put hi_14 (by decide +kernel)) (by omega))
      have e_56 : (sv (sv μL7 26 11 0) 26 10 (-1)).1 26 6 = μL7.1 26 6 := ((sv_n _ (by decide)).trans (sv_n _ (by decide)))
      have e_57 : (sv (sv μL7 26 11 0) 26 10 (-1)).1 26 10 = (-1) := (sv_s _ _ _ _)
      have e_58 : (sv (sv μL7 26 11 0) 26 10 (-1)).1 26 11 = 0 := ((sv_n _ (by decide)).trans (sv_s _ _ _ _))
      have e_59 : (sv (sv μL7 26 11 0) 26 10 (-1)).1 26 10 = (-1) := (sv_s _ _ _ _)
      have e_60 : (sv (sv μL7 26 11 0) 26 10 (-1)).1 26 12 = μL7.1 26 12 := ((sv_n _ (by decide)).trans (sv_n _ (by decide)))
      have e_61 : (sv (sv μL7 26 11 0) 26 10 (-1)).1 26 11 = 0 := ((sv_n _ (by decide)).trans (sv_s _ _ _ _))
      have e_62 : (sv (sv μL7 26 11 0) 26 10 (-1)).1 26 10 = (-1) := (sv_s _ _ _ _)
      have e_63 : (sv (sv μL7 26 11 0) 26 10 (-1)).1 26 6 = μL7.1 26 6 := ((sv_n _ (by decide)).trans (sv_n _ (by decide)))
      have e_64 : (sv (sv μL7 26 11 0) 26 10 (-1)).1 26 10 = (-1) := (sv_s _ _ _ _)
      have e_65 : (sv (sv μL7 26 11 0) 26 10 (-1)).1 26 6 = μL7.1 26 6 := ((sv_n _ (by decide)).trans (sv_n _ (by decide)))
      have e_66 : (sv (sv μL7 26 11 0) 26 10 (-1)).1 26 10 = (-1) := (sv_s _ _ _ _)
      have e_67 : (sv (sv μL7 26 11 0) 26 10 (-1)).1 26 10 = (-1) := (sv_s _ _ _ _)
      have e_68 : (sv (sv μL7 26 11 0) 26 10 (-1)).1 26 11 = 0 := ((sv_n _ (by decide)).trans (sv_s _ _ _ _))
      have e_69 : (sv (sv μL7 26 11 0) 26 10 (-1)).1 26 13 = μL7.1 26 13 := ((sv_n _ (by decide)).trans (sv_n _ (by decide)))
      have e_70 : (sv (sv μL7 26 11 0) 26 10 (-1)).1 26 11 = 0 := ((sv_n _ (by decide)).trans (sv_s _ _ _ _))
      have e_71 : (sv (sv μL7 26 11 0) 26 10 (-1)).1 26 11 = 0 := ((sv_n _ (by decide)).trans (sv_s _ _ _ _))
      have e_72 : (sv (sv μL7 26 11 0) 26 10 (-1)).1 26 6 = μL7.1 26 6 := ((sv_n _ (by decide)).trans (sv_n _ (by decide)))
      have hn_73 : 0 ≤ μL7.1 26 7 ∧ μL7.1 26 7 ≤ 3000 := hi_14.nm.2.2.2.2.2.2.2.2.2.2.1
      have e_74 : (sv (sv μL7 26 11 0) 26 10 (-1)).1 26 7 = μL7.1 26 7 := ((sv_n _ (by decide)).trans (sv_n _ (by decide)))
      have e_75 : (sv (sv μL7 26 11 0) 26 10 (-1)).1 26 8 = μL7.1 26 8 := ((sv_n _ (by decide)).trans (sv_n _ (by decide)))
      have e_76 : (sv (sv μL7 26 11 0) 26 10 (-1)).1 26 9 = μL7.1 26 9 := ((sv_n _ (by decide)).trans (sv_n _ (by decide)))
      refine xc_vV G (b := 26) (rest := []) (As := []) (c_X10_next ω l (sv (sv μL7 26 11 0) 26 10 (-1))  hI_55 (by omega) (by omega)) (wm 3 156 rfl rfl) (wm 3 157 rfl rfl) (wm 3 158 rfl rfl) rfl rfl (by decide) rfl (wm 1 13 rfl rfl) (wm 3 159 rfl rfl) (by decide) hR (by decide) (n := 0) rfl rfl (Nat.le_of_ble_eq_true rfl) hl.1 dX10_begin_138 (fun μ77 ρ d0 H locs hp G => ?_)
      obtain ⟨F_78, hI_79, hp_80, hp_81, hs_82, hs_83, hs_84, hs_85, hs_86⟩ := hp
      have hn_87 : -1 ≤ μ77.1 26 10 ∧ μ77.1 26 10 ≤ 3000 := hI_79.nm.2.2.2.2.2.2.2.2.2.2.2.2
      have e_88 : μ77.1 26 6 = μL7.1 26 6 := (hs_83.trans ((sv_n _ (by decide)).trans (sv_n _ (by decide))))
      have e_89 : μ77.1 26 11 = 0 := (hs_82.trans ((sv_n _ (by decide)).trans (sv_s _ _ _ _)))
      have e6_ : μ77.1 26 6 = μL7.1 26 6 := (hs_83.trans ((sv_n _ (by decide)).trans (sv_n _ (by decide))))
      have e28_ : ∀ j, μ77.1 28 j = μL7.1 28 j := fun j => ((F_78.1 28 (by decide) j).trans ((sv_n _ (by omega)).trans (sv_n _ (by omega))))
      have e28o : ∀ j, (sv (sv μL7 26 11 0) 26 10 (-1)).1 28 j = μL7.1 28 j := fun j => ((sv_n _ (by omega)).trans (sv_n _ (by omega)))
      have e29_ : ∀ j, μ77.1 29 j = μL7.1 29 j := fun j => ((F_78.1 29 (by decide) j).trans ((sv_n _ (by omega)).trans (sv_n _ (by omega))))
      have e29o : ∀ j, (sv (sv μL7 26 11 0) 26 10 (-1)).1 29 j = μL7.1 29 j := fun j => ((sv_n _ (by omega)).trans (sv_n _ (by omega)))
      have htk : TK μ77 := by
        refine ⟨?_, ?_, ?_, ?_, ?_⟩
        · rcases hp_80 with ⟨q1, q2, q3⟩ | ⟨q1, q2, ⟨q3, q4⟩ | ⟨q3, q4⟩⟩ <;> omega
        · rw [e28_, e6_, hlast]; exact hcn.2
        · refine Or.inl ⟨by omega, ?_⟩
          rcases hp_80 with ⟨q1, q2, q3⟩ | ⟨q1, q2, q3⟩
          · exfalso; omega
          · rw [q2, e28_, e28o]
        · rcases hp_81 with ⟨q1, q2⟩ | ⟨q1, q2⟩
          · exfalso; omega
          · rw [q2, e29o]; exact hi_13 _ (by rcases hp_80 with ⟨q1, q2, q3⟩ | ⟨q1, q2, ⟨q3, q4⟩ | ⟨q3, q4⟩⟩ <;> omega) (by rcases hp_80 with ⟨q1, q2, q3⟩ | ⟨q1, q2, ⟨q3, q4⟩ | ⟨q3, q4⟩⟩ <;> omega)
        · intro j h1 h2; rw [e29_]; exact hi_13 j h1 (by omega)
      have e_90 : μ77.1 26 11 = 0 := (hs_82.trans ((sv_n _ (by decide)).trans (sv_s _ _ _ _)))
      exact xr_v G hret hlk dX10_begin_141 ⟨(Fr.tr (Fr.put (Fr.put (Fr.tr (Fr.put (Fr.put (Fr.put (Fr.put (Fr.put Fr.rf (by decide)) (by decide)) (by decide)) (by decide)) (by decide)) FL8 (by decide)) (by decide)) (by decide)) F_78 (by decide)), hI_79, htk, (by omega)⟩
    · refine lv_aload_n hx hb dX10_begin_50 rfl (lv_at hl 0 rfl) ?_
      refine xa_geti G fd_X10 (a := 26) (x := μL7.1 26 12) 12 rfl (by decide) rfl (wm 1 216 rfl rfl) ⟨rfl, rfl, rfl⟩ dX10_begin_51 rfl rfl ?_
      refine lv_iconst (v := iv 3) hx hb dX10_begin_54 rfl ?_
      refine xb_icmp_eq (tgt := 127) hx hb (by unfold ir; omega) (by unfold ir; omega) dX10_begin_55 (by decide) (fun c_55 => ?_) (fun c_55 => ?_)
      · refine lv_aload_n hx hb dX10_begin_127 rfl (lv_at hl 0 rfl) ?_
        refine lv_iconst (v := iv 0) hx hb dX10_begin_128 rfl ?_
        refine xa_putz G fd_X10 (a := 26) (x := 0) 11 (kz := 11) rfl rfl (by decide) rfl (by omega) (wm 1 215 rfl rfl) ⟨rfl, rfl, rfl, rfl⟩ rfl dX10_begin_129 rfl (fun H locs G => ?_)
        refine lv_aload_n hx hb dX10_begin_132 rfl (lv_at hl 0 rfl) ?_
        refine lv_iconst (v := iv (-1)) hx hb dX10_begin_133 rfl ?_
        refine xa_puti G fd_X10 (a := 26) (x := (-1)) 10 (kz := 10) rfl rfl (by decide) rfl (by unfold ir; omega) (wm 1 214 rfl rfl) ⟨rfl, rfl, rfl, rfl⟩ rfl dX10_begin_134 rfl (fun H locs G => ?_)
        refine lv_aload_n hx hb dX10_begin_137 rfl (lv_at hl 0 rfl) ?_
        have hcn : 1 ≤ μL7.1 26 6 ∧ (μL7.1 26 12 = 0 ∨ μL7.1 26 12 = 3) := ⟨by omega, by omega⟩
        have hlast : μL7.1 28 (μL7.1 26 6 - 1) = μL7.1 26 12 := (hi_11).resolve_left (by omega)
        have hI_91 : IC (sv (sv μL7 26 11 0) 26 10 (-1)) := (IC.n_26_10 (IC.put hi_14 (by decide +kernel)) (by omega))
        have e_92 : (sv (sv μL7 26 11 0) 26 10 (-1)).1 26 6 = μL7.1 26 6 := ((sv_n _ (by decide)).trans (sv_n _ (by decide)))
        have e_93 : (sv (sv μL7 26 11 0) 26 10 (-1)).1 26 10 = (-1) := (sv_s _ _ _ _)
        have e_94 : (sv (sv μL7 26 11 0) 26 10 (-1)).1 26 11 = 0 := ((sv_n _ (by decide)).trans (sv_s _ _ _ _))
        have e_95 : (sv (sv μL7 26 11 0) 26 10 (-1)).1 26 10 = (-1) := (sv_s _ _ _ _)
        have e_96 : (sv (sv μL7 26 11 0) 26 10 (-1)).1 26 12 = μL7.1 26 12 := ((sv_n _ (by decide)).trans (sv_n _ (by decide)))
        have e_97 : (sv (sv μL7 26 11 0) 26 10 (-1)).1 26 11 = 0 := ((sv_n _ (by decide)).trans (sv_s _ _ _ _))
        have e_98 : (sv (sv μL7 26 11 0) 26 10 (-1)).1 26 10 = (-1) := (sv_s _ _ _ _)
        have e_99 : (sv (sv μL7 26 11 0) 26 10 (-1)).1 26 6 = μL7.1 26 6 := ((sv_n _ (by decide)).trans (sv_n _ (by decide)))
        have e_100 : (sv (sv μL7 26 11 0) 26 10 (-1)).1 26 10 = (-1) := (sv_s _ _ _ _)
        have e_101 : (sv (sv μL7 26 11 0) 26 10 (-1)).1 26 6 = μL7.1 26 6 := ((sv_n _ (by decide)).trans (sv_n _ (by decide)))
        have e_102 : (sv (sv μL7 26 11 0) 26 10 (-1)).1 26 10 = (-1) := (sv_s _ _ _ _)
        have e_103 : (sv (sv μL7 26 11 0) 26 10 (-1)).1 26 10 = (-1) := (sv_s _ _ _ _)
        have e_104 : (sv (sv μL7 26 11 0) 26 10 (-1)).1 26 11 = 0 := ((sv_n _ (by decide)).trans (sv_s _ _ _ _))
        have e_105 : (sv (sv μL7 26 11 0) 26 10 (-1)).1 26 13 = μL7.1 26 13 := ((sv_n _ (by decide)).trans (sv_n _ (by decide)))
        have e_106 : (sv (sv μL7 26 11 0) 26 10 (-1)).1 26 11 = 0 := ((sv_n _ (by decide)).trans (sv_s _ _ _ _))
        have e_107 : (sv (sv μL7 26 11 0) 26 10 (-1)).1 26 11 = 0 := ((sv_n _ (by decide)).trans (sv_s _ _ _ _))
        have e_108 : (sv (sv μL7 26 11 0) 26 10 (-1)).1 26 6 = μL7.1 26 6 := ((sv_n _ (by decide)).trans (sv_n _ (by decide)))
        have hn_109 : 0 ≤ μL7.1 26 7 ∧ μL7.1 26 7 ≤ 3000 := hi_14.nm.2.2.2.2.2.2.2.2.2.2.1
        have e_110 : (sv (sv μL7 26 11 0) 26 10 (-1)).1 26 7 = μL7.1 26 7 := ((sv_n _ (by decide)).trans (sv_n _ (by decide)))
        have e_111 : (sv (sv μL7 26 11 0) 26 10 (-1)).1 26 8 = μL7.1 26 8 := ((sv_n _ (by decide)).trans (sv_n _ (by decide)))
        have e_112 : (sv (sv μL7 26 11 0) 26 10 (-1)).1 26 9 = μL7.1 26 9 := ((sv_n _ (by decide)).trans (sv_n _ (by decide)))
        refine xc_vV G (b := 26) (rest := []) (As := []) (c_X10_next ω l (sv (sv μL7 26 11 0) 26 10 (-1))  hI_91 (by omega) (by omega)) (wm 3 156 rfl rfl) (wm 3 157 rfl rfl) (wm 3 158 rfl rfl) rfl rfl (by decide) rfl (wm 1 13 rfl rfl) (wm 3 159 rfl rfl) (by decide) hR (by decide) (n := 0) rfl rfl (Nat.le_of_ble_eq_true rfl) hl.1 dX10_begin_138 (fun μ113 ρ d0 H locs hp G => ?_)
        obtain ⟨F_114, hI_115, hp_116, hp_117, hs_118, hs_119, hs_120, hs_121, hs_122⟩ := hp
        have hn_123 : -1 ≤ μ113.1 26 10 ∧ μ113.1 26 10 ≤ 3000 := hI_115.nm.2.2.2.2.2.2.2.2.2.2.2.2
        have e_124 : μ113.1 26 6 = μL7.1 26 6 := (hs_119.trans ((sv_n _ (by decide)).trans (sv_n _ (by decide))))
        have e_125 : μ113.1 26 11 = 0 := (hs_118.trans ((sv_n _ (by decide)).trans (sv_s _ _ _ _)))
        have e6_ : μ113.1 26 6 = μL7.1 26 6 := (hs_119.trans ((sv_n _ (by decide)).trans (sv_n _ (by decide))))
        have e28_ : ∀ j, μ113.1 28 j = μL7.1 28 j := fun j => ((F_114.1 28 (by decide) j).trans ((sv_n _ (by omega)).trans (sv_n _ (by omega))))
        have e28o : ∀ j, (sv (sv μL7 26 11 0) 26 10 (-1)).1 28 j = μL7.1 28 j := fun j => ((sv_n _ (by omega)).trans (sv_n _ (by omega)))
        have e29_ : ∀ j, μ113.1 29 j = μL7.1 29 j := fun j => ((F_114.1 29 (by decide) j).trans ((sv_n _ (by omega)).trans (sv_n _ (by omega))))
        have e29o : ∀ j, (sv (sv μL7 26 11 0) 26 10 (-1)).1 29 j = μL7.1 29 j := fun j => ((sv_n _ (by omega)).trans (sv_n _ (by omega)))
        have htk : TK μ113 := by
          refine ⟨?_, ?_, ?_, ?_, ?_⟩
          · rcases hp_116 with ⟨q1, q2, q3⟩ | ⟨q1, q2, ⟨q3, q4⟩ | ⟨q3, q4⟩⟩ <;> omega
          · rw [e28_, e6_, hlast]; exact hcn.2
          · refine Or.inl ⟨by omega, ?_⟩
            rcases hp_116 with ⟨q1, q2, q3⟩ | ⟨q1, q2, q3⟩
            · exfalso; omega
            · rw [q2, e28_, e28o]
          · rcases hp_117 with ⟨q1, q2⟩ | ⟨q1, q2⟩
            · exfalso; omega
            · rw [q2, e29o]; exact hi_13 _ (by rcases hp_116 with ⟨q1, q2, q3⟩ | ⟨q1, q2, ⟨q3, q4⟩ | ⟨q3, q4⟩⟩ <;> omega) (by rcases hp_116 with ⟨q1, q2, q3⟩ | ⟨q1, q2, ⟨q3, q4⟩ | ⟨q3, q4⟩⟩ <;> omega)
          · intro j h1 h2; rw [e29_]; exact hi_13 j h1 (by omega)
        have e_126 : μ113.1 26 11 = 0 := (hs_118.trans ((sv_n _ (by decide)).trans (sv_s _ _ _ _)))
        exact xr_v G hret hlk dX10_begin_141 ⟨(Fr.tr (Fr.put (Fr.put (Fr.tr (Fr.put (Fr.put (Fr.put (Fr.put (Fr.put Fr.rf (by decide)) (by decide)) (by decide)) (by decide)) (by decide)) FL8 (by decide)) (by decide)) (by decide)) F_114 (by decide)), hI_115, htk, (by omega)⟩
      · refine lv_aload_n hx hb dX10_begin_58 rfl (lv_at hl 0 rfl) ?_
        have hn_127 : 0 ≤ μL7.1 26 7 ∧ μL7.1 26 7 ≤ 3000 := hi_14.nm.2.2.2.2.2.2.2.2.2.2.1
        have hn_128 : -1 ≤ μL7.1 26 10 ∧ μL7.1 26 10 ≤ 3000 := hi_14.nm.2.2.2.2.2.2.2.2.2.2.2.2
        refine xc_vV G (b := 26) (rest := []) (As := []) (c_X10_readToken ω l μL7  hi_14) (wm 3 54 rfl rfl) (wm 3 56 rfl rfl) (wm 0 1 rfl rfl) rfl rfl (by decide) rfl (wm 1 13 rfl rfl) (wm 3 57 rfl rfl) (by decide) hR (by decide) (n := 0) rfl rfl (Nat.le_of_ble_eq_true rfl) hl.1 dX10_begin_59 (fun μ129 ρ d0 H locs hp G => ?_)
        obtain ⟨F_130, hI_131, hp_132, hp_133, hp_134, hs_135, hs_136, hs_137, hs_138, hs_139⟩ := hp
        have hn_140 : 0 ≤ μ129.1 26 9 ∧ μ129.1 26 9 ≤ 3000 := hI_131.nm.2.2.2.2.2.2.2.2.2.2.2.1
        refine lv_aload_n hx hb dX10_begin_62 rfl (lv_at hl 0 rfl) ?_
        refine xa_getr G fd_X10 (a := 26) (x := 28) 2 rfl (by decide) rfl (wm 1 206 rfl rfl) ⟨rfl, rfl, rfl⟩ dX10_begin_63 rfl (G.sk 29 rfl) (by decide) rfl ?_
        refine lv_aload_n hx hb dX10_begin_66 rfl (lv_at hl 0 rfl) ?_
        refine xa_geti G fd_X10 (a := 26) (x := μL7.1 26 6) 6 rfl (by decide) rfl (wm 1 210 rfl rfl) ⟨rfl, rfl, rfl⟩ dX10_begin_67 rfl hs_135 ?_
        refine lv_aload_n hx hb dX10_begin_70 rfl (lv_at hl 0 rfl) ?_
        refine xa_geti G fd_X10 (a := 26) (x := μ129.1 26 12) 12 rfl (by decide) rfl (wm 1 216 rfl rfl) ⟨rfl, rfl, rfl⟩ dX10_begin_71 rfl rfl ?_
        have hr_141 : -2147483648 ≤ μ129.1 26 12 ∧ μ129.1 26 12 ≤ 2147483647 := by have h9 := G.hr (a := 26) (k := 12) rfl; exact h9
        refine xa_iast G (a := 28) (i := μL7.1 26 6) (x := μ129.1 26 12) rfl (by have h9 := G.lc (a := 28) (n := 3001) 17 rfl; omega) (by unfold ir; omega) dX10_begin_74 rfl (fun H locs G => ?_)
        refine lv_aload_n hx hb dX10_begin_75 rfl (lv_at hl 0 rfl) ?_
        refine xa_getr G fd_X10 (a := 26) (x := 29) 3 rfl (by decide) rfl (wm 1 207 rfl rfl) ⟨rfl, rfl, rfl⟩ dX10_begin_76 rfl (G.sk 30 rfl) (by decide) rfl ?_
        refine lv_aload_n hx hb dX10_begin_79 rfl (lv_at hl 0 rfl) ?_
        refine xa_geti G fd_X10 (a := 26) (x := μL7.1 26 6) 6 rfl (by decide) rfl (wm 1 210 rfl rfl) ⟨rfl, rfl, rfl⟩ dX10_begin_80 rfl ((sv_n _ (fun h9 => absurd h9.1 (by decide))).trans hs_135) ?_
        refine lv_aload_n hx hb dX10_begin_83 rfl (lv_at hl 0 rfl) ?_
        refine xa_geti G fd_X10 (a := 26) (x := μ129.1 26 13) 13 rfl (by decide) rfl (wm 1 218 rfl rfl) ⟨rfl, rfl, rfl⟩ dX10_begin_84 rfl (sv_n _ (fun h9 => absurd h9.1 (by decide))) ?_
        have hr_142 : -2147483648 ≤ μ129.1 26 13 ∧ μ129.1 26 13 ≤ 2147483647 := by have h9 := G.hr (a := 26) (k := 13) rfl; rw [show (sv μ129 28 (μL7.1 26 6) (μ129.1 26 12)).1 26 13 = μ129.1 26 13 from (sv_n _ (fun h9 => absurd h9.1 (by decide)))] at h9; exact h9
        refine xa_iast G (a := 29) (i := μL7.1 26 6) (x := μ129.1 26 13) rfl (by have h9 := G.lc (a := 29) (n := 3001) 18 rfl; omega) (by unfold ir; omega) dX10_begin_87 rfl (fun H locs G => ?_)
        refine lv_aload_n hx hb dX10_begin_88 rfl (lv_at hl 0 rfl) ?_
        refine xa_getr G fd_X10 (a := 26) (x := 30) 4 rfl (by decide) rfl (wm 1 208 rfl rfl) ⟨rfl, rfl, rfl⟩ dX10_begin_89 rfl (G.sk 31 rfl) (by decide) rfl ?_
        refine lv_aload_n hx hb dX10_begin_92 rfl (lv_at hl 0 rfl) ?_
        refine xa_geti G fd_X10 (a := 26) (x := μL7.1 26 6) 6 rfl (by decide) rfl (wm 1 210 rfl rfl) ⟨rfl, rfl, rfl⟩ dX10_begin_93 rfl ((sv_n _ (fun h9 => absurd h9.1 (by decide))).trans ((sv_n _ (fun h9 => absurd h9.1 (by decide))).trans hs_135)) ?_
        refine lv_aload_n hx hb dX10_begin_96 rfl (lv_at hl 0 rfl) ?_
        refine xa_getl G fd_X10 (a := 26) (x := μ129.1 26 14) 14 rfl (by decide) rfl (wm 1 220 rfl rfl) ⟨rfl, rfl, rfl⟩ dX10_begin_97 rfl ((sv_n _ (fun h9 => absurd h9.1 (by decide))).trans (sv_n _ (fun h9 => absurd h9.1 (by decide)))) ?_
        have hj_143 : jr (μ129.1 26 14) := by have h9 := G.hj (a := 26) (k := 14) rfl; rw [show (sv (sv μ129 28 (μL7.1 26 6) (μ129.1 26 12)) 29 (μL7.1 26 6) (μ129.1 26 13)).1 26 14 = μ129.1 26 14 from ((sv_n _ (fun h9 => absurd h9.1 (by decide))).trans (sv_n _ (fun h9 => absurd h9.1 (by decide))))] at h9; exact h9
        refine xa_last G (a := 30) (i := μL7.1 26 6) (x := μ129.1 26 14) rfl (by have h9 := G.lc (a := 30) (n := 3001) 19 rfl; omega) hj_143 dX10_begin_100 rfl (fun H locs G => ?_)
        refine lv_aload_n hx hb dX10_begin_101 rfl (lv_at hl 0 rfl) ?_
        refine xa_getr G fd_X10 (a := 26) (x := 31) 5 rfl (by decide) rfl (wm 1 209 rfl rfl) ⟨rfl, rfl, rfl⟩ dX10_begin_102 rfl (G.sk 32 rfl) (by decide) rfl ?_
        refine lv_aload_n hx hb dX10_begin_105 rfl (lv_at hl 0 rfl) ?_
        refine xa_geti G fd_X10 (a := 26) (x := μL7.1 26 6) 6 rfl (by decide) rfl (wm 1 210 rfl rfl) ⟨rfl, rfl, rfl⟩ dX10_begin_106 rfl ((sv_n _ (fun h9 => absurd h9.1 (by decide))).trans ((sv_n _ (fun h9 => absurd h9.1 (by decide))).trans ((sv_n _ (fun h9 => absurd h9.1 (by decide))).trans hs_135))) ?_
        refine lv_aload_n hx hb dX10_begin_109 rfl (lv_at hl 0 rfl) ?_
        refine xa_getd G fd_X10 (a := 26) (x := μ129.1 26 15) 15 rfl (by decide) rfl (wm 1 222 rfl rfl) ⟨rfl, rfl, rfl⟩ dX10_begin_110 rfl ((sv_n _ (fun h9 => absurd h9.1 (by decide))).trans ((sv_n _ (fun h9 => absurd h9.1 (by decide))).trans (sv_n _ (fun h9 => absurd h9.1 (by decide))))) ?_
        refine xa_dast G (a := 31) (i := μL7.1 26 6) (x := (μ129.1 26 15)) rfl (by have h9 := G.lc (a := 31) (n := 3001) 20 rfl; omega) trivial dX10_begin_113 rfl (fun H locs G => ?_)
        refine lv_aload_n hx hb dX10_begin_114 rfl (lv_at hl 0 rfl) ?_
        refine lv_dup hx hb dX10_begin_115 rfl ?_
        refine xa_geti G fd_X10 (a := 26) (x := μL7.1 26 6) 6 rfl (by decide) rfl (wm 1 210 rfl rfl) ⟨rfl, rfl, rfl⟩ dX10_begin_116 rfl ((sv_n _ (fun h9 => absurd h9.1 (by decide))).trans ((sv_n _ (fun h9 => absurd h9.1 (by decide))).trans ((sv_n _ (fun h9 => absurd h9.1 (by decide))).trans ((sv_n _ (fun h9 => absurd h9.1 (by decide))).trans hs_135)))) ?_
        refine lv_iconst (v := iv 1) hx hb dX10_begin_119 rfl ?_
        refine xb_iadd hx hb dX10_begin_120 ?_
        refine xa_puti G fd_X10 (a := 26) (x := (μL7.1 26 6) + 1) 6 (kz := 6) rfl rfl (by decide) rfl (by unfold ir; omega) (wm 1 210 rfl rfl) ⟨rfl, rfl, rfl, rfl⟩ rfl dX10_begin_121 rfl (fun H locs G => ?_)
        refine lv_goto (tgt := 33) hx hb dX10_begin_124 (by decide) ?_
        have e_144 : (sv (sv (sv (sv (sv μ129 28 (μL7.1 26 6) (μ129.1 26 12)) 29 (μL7.1 26 6) (μ129.1 26 13)) 30 (μL7.1 26 6) (μ129.1 26 14)) 31 (μL7.1 26 6) (μ129.1 26 15)) 26 6 ((μL7.1 26 6) + 1)).1 26 6 = (μL7.1 26 6) + 1 := (sv_s _ _ _ _)
        have e_145 : (sv (sv (sv (sv (sv μ129 28 (μL7.1 26 6) (μ129.1 26 12)) 29 (μL7.1 26 6) (μ129.1 26 13)) 30 (μL7.1 26 6) (μ129.1 26 14)) 31 (μL7.1 26 6) (μ129.1 26 15)) 26 6 ((μL7.1 26 6) + 1)).1 26 12 = μ129.1 26 12 := ((sv_n _ (by decide)).trans ((sv_n _ (fun h9 => absurd h9.1 (by decide))).trans ((sv_n _ (fun h9 => absurd h9.1 (by decide))).trans ((sv_n _ (fun h9 => absurd h9.1 (by decide))).trans (sv_n _ (fun h9 => absurd h9.1 (by decide)))))))
        have e_146 : (sv (sv (sv (sv (sv μ129 28 (μL7.1 26 6) (μ129.1 26 12)) 29 (μL7.1 26 6) (μ129.1 26 13)) 30 (μL7.1 26 6) (μ129.1 26 14)) 31 (μL7.1 26 6) (μ129.1 26 15)) 26 6 ((μL7.1 26 6) + 1)).1 26 9 = μ129.1 26 9 := ((sv_n _ (by decide)).trans ((sv_n _ (fun h9 => absurd h9.1 (by decide))).trans ((sv_n _ (fun h9 => absurd h9.1 (by decide))).trans ((sv_n _ (fun h9 => absurd h9.1 (by decide))).trans (sv_n _ (fun h9 => absurd h9.1 (by decide)))))))
        have e_147 : (sv (sv (sv (sv (sv μ129 28 (μL7.1 26 6) (μ129.1 26 12)) 29 (μL7.1 26 6) (μ129.1 26 13)) 30 (μL7.1 26 6) (μ129.1 26 14)) 31 (μL7.1 26 6) (μ129.1 26 15)) 26 6 ((μL7.1 26 6) + 1)).1 26 6 = (μL7.1 26 6) + 1 := (sv_s _ _ _ _)
        have e_148 : (sv (sv (sv (sv (sv μ129 28 (μL7.1 26 6) (μ129.1 26 12)) 29 (μL7.1 26 6) (μ129.1 26 13)) 30 (μL7.1 26 6) (μ129.1 26 14)) 31 (μL7.1 26 6) (μ129.1 26 15)) 26 6 ((μL7.1 26 6) + 1)).1 26 12 = μ129.1 26 12 := ((sv_n _ (by decide)).trans ((sv_n _ (fun h9 => absurd h9.1 (by decide))).trans ((sv_n _ (fun h9 => absurd h9.1 (by decide))).trans ((sv_n _ (fun h9 => absurd h9.1 (by decide))).trans (sv_n _ (fun h9 => absurd h9.1 (by decide)))))))
        have hI_149 : IC (sv (sv (sv (sv (sv μ129 28 (μL7.1 26 6) (μ129.1 26 12)) 29 (μL7.1 26 6) (μ129.1 26 13)) 30 (μL7.1 26 6) (μ129.1 26 14)) 31 (μL7.1 26 6) (μ129.1 26 15)) 26 6 ((μL7.1 26 6) + 1)) := (IC.n_26_6 (IC.pua (IC.pua (IC.pua (IC.pua hI_131 (by decide)) (by decide)) (by decide)) (by decide)) (by omega))
        exact ih _ _ _ _ _ _ _ (by omega) ⟨(Fr.put (Fr.put (Fr.put (Fr.put (Fr.put (Fr.tr FL8 F_130 (by decide)) (by decide)) (by decide)) (by decide)) (by decide)) (by decide)), (by rcases hp_132 with h9 | h9 | h9; exact Or.inl (by omega); exact Or.inr (Or.inl (by omega)); exact Or.inr (Or.inr (by omega))), (Or.inr (by rw [show (sv (sv (sv (sv (sv μ129 28 (μL7.1 26 6) (μ129.1 26 12)) 29 (μL7.1 26 6) (μ129.1 26 13)) 30 (μL7.1 26 6) (μ129.1 26 14)) 31 (μL7.1 26 6) (μ129.1 26 15)) 26 6 ((μL7.1 26 6) + 1)).1 26 6 - 1 = μL7.1 26 6 by have h9 : (sv (sv (sv (sv (sv μ129 28 (μL7.1 26 6) (μ129.1 26 12)) 29 (μL7.1 26 6) (μ129.1 26 13)) 30 (μL7.1 26 6) (μ129.1 26 14)) 31 (μL7.1 26 6) (μ129.1 26 15)) 26 6 ((μL7.1 26 6) + 1)).1 26 6 = (μL7.1 26 6) + 1 := (sv_s _ _ _ _); omega]; exact (show (sv (sv (sv (sv (sv μ129 28 (μL7.1 26 6) (μ129.1 26 12)) 29 (μL7.1 26 6) (μ129.1 26 13)) 30 (μL7.1 26 6) (μ129.1 26 14)) 31 (μL7.1 26 6) (μ129.1 26 15)) 26 6 ((μL7.1 26 6) + 1)).1 28 (μL7.1 26 6) = μ129.1 26 12 from ((sv_n _ (fun h9 => absurd h9.1 (by decide))).trans ((sv_n _ (fun h9 => absurd h9.1 (by decide))).trans ((sv_n _ (fun h9 => absurd h9.1 (by decide))).trans ((sv_n _ (fun h9 => absurd h9.1 (by decide))).trans (sv_s _ _ _ _)))))).trans (show (sv (sv (sv (sv (sv μ129 28 (μL7.1 26 6) (μ129.1 26 12)) 29 (μL7.1 26 6) (μ129.1 26 13)) 30 (μL7.1 26 6) (μ129.1 26 14)) 31 (μL7.1 26 6) (μ129.1 26 15)) 26 6 ((μL7.1 26 6) + 1)).1 26 12 = μ129.1 26 12 from ((sv_n _ (by decide)).trans ((sv_n _ (fun h9 => absurd h9.1 (by decide))).trans ((sv_n _ (fun h9 => absurd h9.1 (by decide))).trans ((sv_n _ (fun h9 => absurd h9.1 (by decide))).trans (sv_n _ (fun h9 => absurd h9.1 (by decide)))))))).symm)), (by omega), (fun j h1 h2 => (Classical.em (j = μL7.1 26 6)).elim (fun he => by rw [he, show (sv (sv (sv (sv (sv μ129 28 (μL7.1 26 6) (μ129.1 26 12)) 29 (μL7.1 26 6) (μ129.1 26 13)) 30 (μL7.1 26 6) (μ129.1 26 14)) 31 (μL7.1 26 6) (μ129.1 26 15)) 26 6 ((μL7.1 26 6) + 1)).1 29 (μL7.1 26 6) = μ129.1 26 13 from ((sv_n _ (fun h9 => absurd h9.1 (by decide))).trans ((sv_n _ (fun h9 => absurd h9.1 (by decide))).trans ((sv_n _ (fun h9 => absurd h9.1 (by decide))).trans (sv_s _ _ _ _))))]; omega) (fun he => by rw [show (sv (sv (sv (sv (sv μ129 28 (μL7.1 26 6) (μ129.1 26 12)) 29 (μL7.1 26 6) (μ129.1 26 13)) 30 (μL7.1 26 6) (μ129.1 26 14)) 31 (μL7.1 26 6) (μ129.1 26 15)) 26 6 ((μL7.1 26 6) + 1)).1 29 j = μL7.1 29 j from ((sv_n _ (by omega)).trans ((sv_n _ (by omega)).trans ((sv_n _ (by omega)).trans ((sv_n _ (by omega)).trans ((sv_n _ (by omega)).trans (F_130.1 29 (by decide) j))))))]; exact hi_13 j h1 (by have h9 : (sv (sv (sv (sv (sv μ129 28 (μL7.1 26 6) (μ129.1 26 12)) 29 (μL7.1 26 6) (μ129.1 26 13)) 30 (μL7.1 26 6) (μ129.1 26 14)) 31 (μL7.1 26 6) (μ129.1 26 15)) 26 6 ((μL7.1 26 6) + 1)).1 26 6 = (μL7.1 26 6) + 1 := (sv_s _ _ _ _); omega))), hI_149, rfl, lv_sub hl [0, 1, 2] rfl⟩ G
