abbrev cX12_block : ByteArray := prog_14_method_42_code
def yX12_block : MethodName := ⟨RX12, "block", "()V"⟩
abbrev cX12_plain : ByteArray := prog_14_method_44_code
def yX12_plain : MethodName := ⟨RX12, "plain", "()V"⟩
abbrev cX12_cleans : ByteArray := prog_14_method_48_code
def yX12_cleans : MethodName := ⟨RX12, "cleans", "()V"⟩
abbrev cX12_lets : ByteArray := prog_14_method_50_code
def yX12_lets : MethodName := ⟨RX12, "lets", "()V"⟩
abbrev cX12_ifs : ByteArray := prog_14_method_51_code
def yX12_ifs : MethodName := ⟨RX12, "ifs", "()V"⟩
abbrev cX12_whiles : ByteArray := prog_14_method_52_code
def yX12_whiles : MethodName := ⟨RX12, "whiles", "(I)V"⟩
theorem dX12_plain_0 : decode cX12_plain 0 = .ok (.aload_n 0, 1) := by decide +kernel
theorem dX12_plain_1 : decode cX12_plain 1 = .ok (.invokevirtual 402, 3) := by decide +kernel
theorem dX12_plain_4 : decode cX12_plain 4 = .ok (.aload_n 0, 1) := by decide +kernel
theorem dX12_plain_5 : decode cX12_plain 5 = .ok (.bipush 59, 2) := by decide +kernel
theorem dX12_plain_7 : decode cX12_plain 7 = .ok (.invokevirtual 313, 3) := by decide +kernel
theorem dX12_plain_10 : decode cX12_plain 10 = .ok (.aload_n 0, 1) := by decide +kernel
theorem dX12_plain_11 : decode cX12_plain 11 = .ok (.bipush 6, 2) := by decide +kernel
theorem dX12_plain_13 : decode cX12_plain 13 = .ok (.lconst 0, 1) := by decide +kernel
theorem dX12_plain_14 : decode cX12_plain 14 = .ok (.iconst 0, 1) := by decide +kernel
theorem dX12_plain_15 : decode cX12_plain 15 = .ok (.invokevirtual 374, 3) := by decide +kernel
theorem dX12_plain_18 : decode cX12_plain 18 = .ok (.pop, 1) := by decide +kernel
theorem dX12_plain_19 : decode cX12_plain 19 = .ok (.return_, 1) := by decide +kernel
theorem dX12_cleans_0 : decode cX12_cleans 0 = .ok (.aload_n 0, 1) := by decide +kernel
theorem dX12_cleans_1 : decode cX12_cleans 1 = .ok (.invokevirtual 295, 3) := by decide +kernel
theorem dX12_cleans_4 : decode cX12_cleans 4 = .ok (.aload_n 0, 1) := by decide +kernel
theorem dX12_cleans_5 : decode cX12_cleans 5 = .ok (.bipush 14, 2) := by decide +kernel
theorem dX12_cleans_7 : decode cX12_cleans 7 = .ok (.lconst 0, 1) := by decide +kernel
theorem dX12_cleans_8 : decode cX12_cleans 8 = .ok (.iconst 0, 1) := by decide +kernel
theorem dX12_cleans_9 : decode cX12_cleans 9 = .ok (.invokevirtual 374, 3) := by decide +kernel
theorem dX12_cleans_12 : decode cX12_cleans 12 = .ok (.istore_n 1, 1) := by decide +kernel
theorem dX12_cleans_13 : decode cX12_cleans 13 = .ok (.aload_n 0, 1) := by decide +kernel
theorem dX12_cleans_14 : decode cX12_cleans 14 = .ok (.bipush 8, 2) := by decide +kernel
theorem dX12_cleans_16 : decode cX12_cleans 16 = .ok (.lconst 0, 1) := by decide +kernel
theorem dX12_cleans_17 : decode cX12_cleans 17 = .ok (.iconst 0, 1) := by decide +kernel
theorem dX12_cleans_18 : decode cX12_cleans 18 = .ok (.invokevirtual 374, 3) := by decide +kernel
theorem dX12_cleans_21 : decode cX12_cleans 21 = .ok (.istore_n 2, 1) := by decide +kernel
theorem dX12_cleans_22 : decode cX12_cleans 22 = .ok (.aload_n 0, 1) := by decide +kernel
theorem dX12_cleans_23 : decode cX12_cleans 23 = .ok (.iload_n 1, 1) := by decide +kernel
theorem dX12_cleans_24 : decode cX12_cleans 24 = .ok (.invokevirtual 421, 3) := by decide +kernel
theorem dX12_cleans_27 : decode cX12_cleans 27 = .ok (.aload_n 0, 1) := by decide +kernel
theorem dX12_cleans_28 : decode cX12_cleans 28 = .ok (.invokevirtual 371, 3) := by decide +kernel
theorem dX12_cleans_31 : decode cX12_cleans 31 = .ok (.aload_n 0, 1) := by decide +kernel
theorem dX12_cleans_32 : decode cX12_cleans 32 = .ok (.bipush 17, 2) := by decide +kernel
theorem dX12_cleans_34 : decode cX12_cleans 34 = .ok (.lconst 0, 1) := by decide +kernel
theorem dX12_cleans_35 : decode cX12_cleans 35 = .ok (.iconst 0, 1) := by decide +kernel
theorem dX12_cleans_36 : decode cX12_cleans 36 = .ok (.invokevirtual 374, 3) := by decide +kernel
theorem dX12_cleans_39 : decode cX12_cleans 39 = .ok (.pop, 1) := by decide +kernel
theorem dX12_cleans_40 : decode cX12_cleans 40 = .ok (.aload_n 0, 1) := by decide +kernel
theorem dX12_cleans_41 : decode cX12_cleans 41 = .ok (.bipush 8, 2) := by decide +kernel
theorem dX12_cleans_43 : decode cX12_cleans 43 = .ok (.lconst 0, 1) := by decide +kernel
theorem dX12_cleans_44 : decode cX12_cleans 44 = .ok (.iconst 0, 1) := by decide +kernel
theorem dX12_cleans_45 : decode cX12_cleans 45 = .ok (.invokevirtual 374, 3) := by decide +kernel
theorem dX12_cleans_48 : decode cX12_cleans 48 = .ok (.istore_n 3, 1) := by decide +kernel
theorem dX12_cleans_49 : decode cX12_cleans 49 = .ok (.aload_n 0, 1) := by decide +kernel
theorem dX12_cleans_50 : decode cX12_cleans 50 = .ok (.bipush 22, 2) := by decide +kernel
theorem dX12_cleans_52 : decode cX12_cleans 52 = .ok (.invokevirtual 349, 3) := by decide +kernel
theorem dX12_cleans_55 : decode cX12_cleans 55 = .ok (.aload_n 0, 1) := by decide +kernel
theorem dX12_cleans_56 : decode cX12_cleans 56 = .ok (.iload_n 2, 1) := by decide +kernel
theorem dX12_cleans_57 : decode cX12_cleans 57 = .ok (.invokevirtual 421, 3) := by decide +kernel
theorem dX12_cleans_60 : decode cX12_cleans 60 = .ok (.aload_n 0, 1) := by decide +kernel
theorem dX12_cleans_61 : decode cX12_cleans 61 = .ok (.invokevirtual 371, 3) := by decide +kernel
theorem dX12_cleans_64 : decode cX12_cleans 64 = .ok (.aload_n 0, 1) := by decide +kernel
theorem dX12_cleans_65 : decode cX12_cleans 65 = .ok (.bipush 16, 2) := by decide +kernel
theorem dX12_cleans_67 : decode cX12_cleans 67 = .ok (.lconst 0, 1) := by decide +kernel
theorem dX12_cleans_68 : decode cX12_cleans 68 = .ok (.iconst 0, 1) := by decide +kernel
theorem dX12_cleans_69 : decode cX12_cleans 69 = .ok (.invokevirtual 374, 3) := by decide +kernel
theorem dX12_cleans_72 : decode cX12_cleans 72 = .ok (.pop, 1) := by decide +kernel
theorem dX12_cleans_73 : decode cX12_cleans 73 = .ok (.aload_n 0, 1) := by decide +kernel
theorem dX12_cleans_74 : decode cX12_cleans 74 = .ok (.iload_n 3, 1) := by decide +kernel
theorem dX12_cleans_75 : decode cX12_cleans 75 = .ok (.invokevirtual 421, 3) := by decide +kernel
theorem dX12_cleans_78 : decode cX12_cleans 78 = .ok (.return_, 1) := by decide +kernel
theorem dX12_lets_0 : decode cX12_lets 0 = .ok (.aload_n 0, 1) := by decide +kernel
theorem dX12_lets_1 : decode cX12_lets 1 = .ok (.invokevirtual 295, 3) := by decide +kernel
theorem dX12_lets_4 : decode cX12_lets 4 = .ok (.aload_n 0, 1) := by decide +kernel
theorem dX12_lets_5 : decode cX12_lets 5 = .ok (.getfield 222, 3) := by decide +kernel
theorem dX12_lets_8 : decode cX12_lets 8 = .ok (.istore_n 1, 1) := by decide +kernel
theorem dX12_lets_9 : decode cX12_lets 9 = .ok (.aload_n 0, 1) := by decide +kernel
theorem dX12_lets_10 : decode cX12_lets 10 = .ok (.invokevirtual 329, 3) := by decide +kernel
theorem dX12_lets_13 : decode cX12_lets 13 = .ok (.lstore_n 2, 1) := by decide +kernel
theorem dX12_lets_14 : decode cX12_lets 14 = .ok (.aload_n 0, 1) := by decide +kernel
theorem dX12_lets_15 : decode cX12_lets 15 = .ok (.invokevirtual 215, 3) := by decide +kernel
theorem dX12_lets_18 : decode cX12_lets 18 = .ok (.ifCond .eq 4, 3) := by decide +kernel
theorem dX12_lets_21 : decode cX12_lets 21 = .ok (.return_, 1) := by decide +kernel
theorem dX12_lets_22 : decode cX12_lets 22 = .ok (.aload_n 0, 1) := by decide +kernel
theorem dX12_lets_23 : decode cX12_lets 23 = .ok (.lload_n 2, 1) := by decide +kernel
theorem dX12_lets_24 : decode cX12_lets 24 = .ok (.invokevirtual 381, 3) := by decide +kernel
theorem dX12_lets_27 : decode cX12_lets 27 = .ok (.istore 4, 2) := by decide +kernel
theorem dX12_lets_29 : decode cX12_lets 29 = .ok (.iload 4, 2) := by decide +kernel
theorem dX12_lets_31 : decode cX12_lets 31 = .ok (.iconst (-1), 1) := by decide +kernel
theorem dX12_lets_32 : decode cX12_lets 32 = .ok (.if_icmp .ne 34, 3) := by decide +kernel
theorem dX12_lets_35 : decode cX12_lets 35 = .ok (.aload_n 0, 1) := by decide +kernel
theorem dX12_lets_36 : decode cX12_lets 36 = .ok (.getfield 365, 3) := by decide +kernel
theorem dX12_lets_39 : decode cX12_lets 39 = .ok (.bipush 12, 2) := by decide +kernel
theorem dX12_lets_41 : decode cX12_lets 41 = .ok (.if_icmp .ne 8, 3) := by decide +kernel
theorem dX12_lets_44 : decode cX12_lets 44 = .ok (.aload_n 0, 1) := by decide +kernel
theorem dX12_lets_45 : decode cX12_lets 45 = .ok (.iload_n 1, 1) := by decide +kernel
theorem dX12_lets_46 : decode cX12_lets 46 = .ok (.invokevirtual 359, 3) := by decide +kernel
theorem dX12_lets_49 : decode cX12_lets 49 = .ok (.aload_n 0, 1) := by decide +kernel
theorem dX12_lets_50 : decode cX12_lets 50 = .ok (.dup, 1) := by decide +kernel
theorem dX12_lets_51 : decode cX12_lets 51 = .ok (.getfield 365, 3) := by decide +kernel
theorem dX12_lets_54 : decode cX12_lets 54 = .ok (.iconst 1, 1) := by decide +kernel
theorem dX12_lets_55 : decode cX12_lets 55 = .ok (.iadd, 1) := by decide +kernel
theorem dX12_lets_56 : decode cX12_lets 56 = .ok (.putfield 365, 3) := by decide +kernel
theorem dX12_lets_59 : decode cX12_lets 59 = .ok (.aload_n 0, 1) := by decide +kernel
theorem dX12_lets_60 : decode cX12_lets 60 = .ok (.lload_n 2, 1) := by decide +kernel
theorem dX12_lets_61 : decode cX12_lets 61 = .ok (.invokevirtual 424, 3) := by decide +kernel
theorem dX12_lets_64 : decode cX12_lets 64 = .ok (.istore 4, 2) := by decide +kernel
theorem dX12_lets_66 : decode cX12_lets 66 = .ok (.aload_n 0, 1) := by decide +kernel
theorem dX12_lets_67 : decode cX12_lets 67 = .ok (.bipush 61, 2) := by decide +kernel
theorem dX12_lets_69 : decode cX12_lets 69 = .ok (.invokevirtual 313, 3) := by decide +kernel
theorem dX12_lets_72 : decode cX12_lets 72 = .ok (.aload_n 0, 1) := by decide +kernel
theorem dX12_lets_73 : decode cX12_lets 73 = .ok (.invokevirtual 402, 3) := by decide +kernel
theorem dX12_lets_76 : decode cX12_lets 76 = .ok (.aload_n 0, 1) := by decide +kernel
theorem dX12_lets_77 : decode cX12_lets 77 = .ok (.bipush 59, 2) := by decide +kernel
theorem dX12_lets_79 : decode cX12_lets 79 = .ok (.invokevirtual 313, 3) := by decide +kernel
theorem dX12_lets_82 : decode cX12_lets 82 = .ok (.aload_n 0, 1) := by decide +kernel
theorem dX12_lets_83 : decode cX12_lets 83 = .ok (.iconst 4, 1) := by decide +kernel
theorem dX12_lets_84 : decode cX12_lets 84 = .ok (.iload 4, 2) := by decide +kernel
theorem dX12_lets_86 : decode cX12_lets 86 = .ok (.i2l, 1) := by decide +kernel
theorem dX12_lets_87 : decode cX12_lets 87 = .ok (.iconst 0, 1) := by decide +kernel
theorem dX12_lets_88 : decode cX12_lets 88 = .ok (.invokevirtual 374, 3) := by decide +kernel
theorem dX12_lets_91 : decode cX12_lets 91 = .ok (.pop, 1) := by decide +kernel
theorem dX12_lets_92 : decode cX12_lets 92 = .ok (.return_, 1) := by decide +kernel
theorem dX12_ifs_0 : decode cX12_ifs 0 = .ok (.aload_n 0, 1) := by decide +kernel
theorem dX12_ifs_1 : decode cX12_ifs 1 = .ok (.invokevirtual 295, 3) := by decide +kernel
theorem dX12_ifs_4 : decode cX12_ifs 4 = .ok (.aload_n 0, 1) := by decide +kernel
theorem dX12_ifs_5 : decode cX12_ifs 5 = .ok (.bipush 40, 2) := by decide +kernel
theorem dX12_ifs_7 : decode cX12_ifs 7 = .ok (.invokevirtual 378, 3) := by decide +kernel
theorem dX12_ifs_10 : decode cX12_ifs 10 = .ok (.aload_n 0, 1) := by decide +kernel
theorem dX12_ifs_11 : decode cX12_ifs 11 = .ok (.invokevirtual 402, 3) := by decide +kernel
theorem dX12_ifs_14 : decode cX12_ifs 14 = .ok (.aload_n 0, 1) := by decide +kernel
theorem dX12_ifs_15 : decode cX12_ifs 15 = .ok (.bipush 41, 2) := by decide +kernel
theorem dX12_ifs_17 : decode cX12_ifs 17 = .ok (.invokevirtual 387, 3) := by decide +kernel
theorem dX12_ifs_20 : decode cX12_ifs 20 = .ok (.aload_n 0, 1) := by decide +kernel
theorem dX12_ifs_21 : decode cX12_ifs 21 = .ok (.bipush 7, 2) := by decide +kernel
theorem dX12_ifs_23 : decode cX12_ifs 23 = .ok (.lconst 0, 1) := by decide +kernel
theorem dX12_ifs_24 : decode cX12_ifs 24 = .ok (.iconst 0, 1) := by decide +kernel
theorem dX12_ifs_25 : decode cX12_ifs 25 = .ok (.invokevirtual 374, 3) := by decide +kernel
theorem dX12_ifs_28 : decode cX12_ifs 28 = .ok (.istore_n 1, 1) := by decide +kernel
theorem dX12_ifs_29 : decode cX12_ifs 29 = .ok (.aload_n 0, 1) := by decide +kernel
theorem dX12_ifs_30 : decode cX12_ifs 30 = .ok (.invokevirtual 371, 3) := by decide +kernel
theorem dX12_ifs_33 : decode cX12_ifs 33 = .ok (.aload_n 0, 1) := by decide +kernel
theorem dX12_ifs_34 : decode cX12_ifs 34 = .ok (.iconst 5, 1) := by decide +kernel
theorem dX12_ifs_35 : decode cX12_ifs 35 = .ok (.invokevirtual 298, 3) := by decide +kernel
theorem dX12_ifs_38 : decode cX12_ifs 38 = .ok (.ifCond .ne 9, 3) := by decide +kernel
theorem dX12_ifs_41 : decode cX12_ifs 41 = .ok (.aload_n 0, 1) := by decide +kernel
theorem dX12_ifs_42 : decode cX12_ifs 42 = .ok (.iload_n 1, 1) := by decide +kernel
theorem dX12_ifs_43 : decode cX12_ifs 43 = .ok (.invokevirtual 421, 3) := by decide +kernel
theorem dX12_ifs_46 : decode cX12_ifs 46 = .ok (.return_, 1) := by decide +kernel
theorem dX12_ifs_47 : decode cX12_ifs 47 = .ok (.aload_n 0, 1) := by decide +kernel
theorem dX12_ifs_48 : decode cX12_ifs 48 = .ok (.invokevirtual 295, 3) := by decide +kernel
theorem dX12_ifs_51 : decode cX12_ifs 51 = .ok (.aload_n 0, 1) := by decide +kernel
theorem dX12_ifs_52 : decode cX12_ifs 52 = .ok (.bipush 8, 2) := by decide +kernel
theorem dX12_ifs_54 : decode cX12_ifs 54 = .ok (.lconst 0, 1) := by decide +kernel
theorem dX12_ifs_55 : decode cX12_ifs 55 = .ok (.iconst 0, 1) := by decide +kernel
theorem dX12_ifs_56 : decode cX12_ifs 56 = .ok (.invokevirtual 374, 3) := by decide +kernel
theorem dX12_ifs_59 : decode cX12_ifs 59 = .ok (.istore_n 2, 1) := by decide +kernel
theorem dX12_ifs_60 : decode cX12_ifs 60 = .ok (.aload_n 0, 1) := by decide +kernel
theorem dX12_ifs_61 : decode cX12_ifs 61 = .ok (.iload_n 1, 1) := by decide +kernel
theorem dX12_ifs_62 : decode cX12_ifs 62 = .ok (.invokevirtual 421, 3) := by decide +kernel
theorem dX12_ifs_65 : decode cX12_ifs 65 = .ok (.aload_n 0, 1) := by decide +kernel
theorem dX12_ifs_66 : decode cX12_ifs 66 = .ok (.invokevirtual 371, 3) := by decide +kernel
theorem dX12_ifs_69 : decode cX12_ifs 69 = .ok (.aload_n 0, 1) := by decide +kernel
theorem dX12_ifs_70 : decode cX12_ifs 70 = .ok (.iload_n 2, 1) := by decide +kernel
theorem dX12_ifs_71 : decode cX12_ifs 71 = .ok (.invokevirtual 421, 3) := by decide +kernel
theorem dX12_ifs_74 : decode cX12_ifs 74 = .ok (.return_, 1) := by decide +kernel
theorem dX12_whiles_0 : decode cX12_whiles 0 = .ok (.aload_n 0, 1) := by decide +kernel
theorem dX12_whiles_1 : decode cX12_whiles 1 = .ok (.invokevirtual 295, 3) := by decide +kernel
theorem dX12_whiles_4 : decode cX12_whiles 4 = .ok (.aload_n 0, 1) := by decide +kernel
theorem dX12_whiles_5 : decode cX12_whiles 5 = .ok (.getfield 317, 3) := by decide +kernel
theorem dX12_whiles_8 : decode cX12_whiles 8 = .ok (.istore_n 2, 1) := by decide +kernel
theorem dX12_whiles_9 : decode cX12_whiles 9 = .ok (.aload_n 0, 1) := by decide +kernel
theorem dX12_whiles_10 : decode cX12_whiles 10 = .ok (.bipush 40, 2) := by decide +kernel
theorem dX12_whiles_12 : decode cX12_whiles 12 = .ok (.invokevirtual 378, 3) := by decide +kernel
theorem dX12_whiles_15 : decode cX12_whiles 15 = .ok (.aload_n 0, 1) := by decide +kernel
theorem dX12_whiles_16 : decode cX12_whiles 16 = .ok (.invokevirtual 402, 3) := by decide +kernel
theorem dX12_whiles_19 : decode cX12_whiles 19 = .ok (.aload_n 0, 1) := by decide +kernel
theorem dX12_whiles_20 : decode cX12_whiles 20 = .ok (.bipush 41, 2) := by decide +kernel
theorem dX12_whiles_22 : decode cX12_whiles 22 = .ok (.invokevirtual 387, 3) := by decide +kernel
theorem dX12_whiles_25 : decode cX12_whiles 25 = .ok (.aload_n 0, 1) := by decide +kernel
theorem dX12_whiles_26 : decode cX12_whiles 26 = .ok (.bipush 7, 2) := by decide +kernel
theorem dX12_whiles_28 : decode cX12_whiles 28 = .ok (.lconst 0, 1) := by decide +kernel
theorem dX12_whiles_29 : decode cX12_whiles 29 = .ok (.iconst 0, 1) := by decide +kernel
theorem dX12_whiles_30 : decode cX12_whiles 30 = .ok (.invokevirtual 374, 3) := by decide +kernel
theorem dX12_whiles_33 : decode cX12_whiles 33 = .ok (.istore_n 3, 1) := by decide +kernel
theorem dX12_whiles_34 : decode cX12_whiles 34 = .ok (.aload_n 0, 1) := by decide +kernel
theorem dX12_whiles_35 : decode cX12_whiles 35 = .ok (.invokevirtual 371, 3) := by decide +kernel
theorem dX12_whiles_38 : decode cX12_whiles 38 = .ok (.aload_n 0, 1) := by decide +kernel
theorem dX12_whiles_39 : decode cX12_whiles 39 = .ok (.iconst 0, 1) := by decide +kernel
theorem dX12_whiles_40 : decode cX12_whiles 40 = .ok (.iload_n 1, 1) := by decide +kernel
theorem dX12_whiles_41 : decode cX12_whiles 41 = .ok (.i2l, 1) := by decide +kernel
theorem dX12_whiles_42 : decode cX12_whiles 42 = .ok (.iconst 0, 1) := by decide +kernel
theorem dX12_whiles_43 : decode cX12_whiles 43 = .ok (.invokevirtual 374, 3) := by decide +kernel
theorem dX12_whiles_46 : decode cX12_whiles 46 = .ok (.pop, 1) := by decide +kernel
theorem dX12_whiles_47 : decode cX12_whiles 47 = .ok (.aload_n 0, 1) := by decide +kernel
theorem dX12_whiles_48 : decode cX12_whiles 48 = .ok (.bipush 8, 2) := by decide +kernel
theorem dX12_whiles_50 : decode cX12_whiles 50 = .ok (.iload_n 2, 1) := by decide +kernel
theorem dX12_whiles_51 : decode cX12_whiles 51 = .ok (.i2l, 1) := by decide +kernel
theorem dX12_whiles_52 : decode cX12_whiles 52 = .ok (.iconst 0, 1) := by decide +kernel
theorem dX12_whiles_53 : decode cX12_whiles 53 = .ok (.invokevirtual 374, 3) := by decide +kernel
theorem dX12_whiles_56 : decode cX12_whiles 56 = .ok (.pop, 1) := by decide +kernel
theorem dX12_whiles_57 : decode cX12_whiles 57 = .ok (.aload_n 0, 1) := by decide +kernel
theorem dX12_whiles_58 : decode cX12_whiles 58 = .ok (.iload_n 3, 1) := by decide +kernel
theorem dX12_whiles_59 : decode cX12_whiles 59 = .ok (.invokevirtual 421, 3) := by decide +kernel
theorem dX12_whiles_62 : decode cX12_whiles 62 = .ok (.return_, 1) := by decide +kernel
/-- the height at the end -/
def mHt (μ : M3) (h : Int) : Prop := 0 ≤ μ.1 111 22 ∧ mh μ cR (μ.1 111 22) = h
theorem mHt.qm {μ ν : M3} {h : Int} (k : mHt μ h) (g : q0m μ ν) : mHt ν h := by
  have z := g.1.fo (t := 0) _ (Int.le_refl _)
  unfold mHt at *
  rw [g.2, z.1]; exact k
theorem mHt.ad {μ ν : M3} {h h2 o f s : Int} (k : mHt μ h) (g : mAD μ ν o f s) (he : h + eem o s = h2) : mHt ν h2 := by
  have z := g.1.fo (t := 0) _ (Int.le_refl _)
  have h0 := k.1
  refine ⟨by rw [g.2.1]; omega, ?_⟩
  rw [g.2.1, mh_s h0, z.1, k.2, g.2.2.1, g.2.2.2.2]; exact he
theorem mHt.ex {μ ν : M3} {t h h2 e M H : Int} (k : mHt μ h) (g : mEX μ ν t e M H) (he : h + e = h2) : mHt ν h2 := ⟨g.h1.1, by rw [g.h, k.2]; exact he⟩
theorem mHt.mf {μ ν : M3} {h q T : Int} (k : mHt μ h) (l : mMF μ ν q T) : mHt ν h := by
  have z := l.fo (t := 0) _ (Int.le_refl _)
  unfold mHt at *
  rw [l.1, z.1]; exact k
theorem mHt.ey {μ ν : M3} {t M h : Int} (k : mHt μ h) (g : mEY μ ν t M) : mHt ν h := k.ex g.1 (by omega)
theorem mHt.p {μ : M3} {h : Int} (k : mHt μ h) (h0 : 0 ≤ h) : mH0 μ := ⟨k.1, by rw [k.2]; exact h0⟩
theorem mEY.mn {μ ν : M3} {t M M2 : Int} (k : mEY μ ν t M) (h : M ≤ M2) : mEY μ ν t M2 := ⟨k.1.mn h (Int.le_refl _), k.2⟩
theorem mEY.e {μ ν : M3} {t M M2 : Int} (k : mEY μ ν t M) (h : M = M2) : mEY μ ν t M2 := by rw [← h]; exact k
theorem mEY.ql {μ ν π : M3} {t M : Int} (g : q0m μ ν) (h : mEY ν π t M) : mEY μ π t M := ⟨mEX.ql g h.1, h.2⟩
theorem mEY.qm {μ ν π : M3} {t M : Int} (h : mEY μ ν t M) (g : q0m ν π) : mEY μ π t M := ⟨h.1.qm g, by rw [g.2, (g.1.fo (t := t) _ (Int.le_refl _)).2.1]; exact h.2⟩
/-- an expression and the op that takes it -/
theorem as_one {μ μ1 ν : M3} {t M o f s H1 : Int} (a : mS0 μ) (k : mEX μ μ1 t 1 0 H1) (hH : H1 ≤ 101) (hM : 0 ≤ M) (g : mAD μ1 ν o f s) (ho : mpl o) (he : eem o s = -1) (hc : cem t o (mc μ1 cR t (μ1.1 111 22)) = 0) (hl : mh ν cR (μ1.1 111 22) = 1 → lcq0 ν cR t (nS ν) (μ1.1 111 22) (μ.1 111 22) (ν.1 111 22) o f s) : mEY μ ν t M := by
  have w0 := mWS.nil (t := t) (M := M) a hM
  have w1 := w0.ex k (by omega) (Int.le_refl _) (by omega) (fun _ _ => rfl)
  have p1 := w1.2.2.1
  have w2 := mWS.ado (h2 := 0) (c2 := 0) w1 g ((p1.pl g (Or.inl ho)).e (by rw [he]; rfl) hc rfl (fun _ _ => rfl)) (by decide) ⟨Int.le_refl _, by omega⟩ (fun _ _ => rfl) (fun x _ => hl (x.2.1.trans rfl))
  exact w2.end
/-- x [ i ] = E -/
theorem as_setc {μ μ1 μ2 μ3 ν : M3} {t M f s3 H1 H2 : Int} (a : mS0 μ) (g : mAD μ μ1 3 f s3) (hf : 0 ≤ f ∧ f < 320) (hf2 : f < μ.1 111 31) (k : mEX μ1 μ2 t 1 0 H1) (k2 : mEX μ2 μ3 t 1 0 H2) (hH : H1 ≤ 99) (hH2 : H2 ≤ 99) (hM : 0 ≤ M) (g5 : mAD μ3 ν 5 0 0) : mEY μ ν t M := by
  have w0 := mWS.nil (t := t) (M := M) a hM
  have p0 := w0.2.2.1
  have w1 := mWS.ado (h2 := 1) (c2 := 0) w0 g (p0.pl g (Or.inl (by unfold mpl; omega))) (by decide) ⟨Int.le_refl _, by omega⟩ (fun _ _ => rfl) (fun _ _ => ⟨fun q => absurd q (by decide), ⟨fun _ => hf, fun _ => Int.lt_of_lt_of_le hf2 g.1.2.1.2⟩, fun q => absurd q (by decide), fun q => absurd q (by decide), fun q => absurd q (by decide), fun q => absurd q (by decide), fun q => absurd q (by decide), fun q => absurd q (by decide), fun q => absurd q (by decide), fun q => absurd q (by decide), fun q => absurd q (by decide), fun q => absurd q (by decide), fun q => absurd q (by decide), fun q => absurd q (by decide), fun q => absurd q (by decide), fun q => absurd q (by decide), fun q => absurd q (by decide), fun q => absurd q (by decide), fun q => absurd q (by decide), fun q => absurd q (by decide), fun q => absurd q (by decide), ⟨fun q => absurd q (by decide), fun q => absurd q (by decide), fun q => absurd q (by decide)⟩, ⟨by decide, by decide⟩⟩)
  have w2 := w1.ex0 k (by omega) (Int.le_refl _) (by omega) (fun _ _ => rfl)
  have w3 := w2.ex0 k2 (by omega) (Int.le_refl _) (by omega) (fun _ _ => rfl)
  have p3 := w3.2.2.1
  have w4 := mWS.ado (h2 := 0) (c2 := 0) w3 g5 (p3.pl g5 (Or.inl (by unfold mpl; omega))) (by decide) ⟨Int.le_refl _, by omega⟩ (fun _ _ => rfl) (fun x _ => ⟨fun q => absurd q (by decide), ⟨fun q => absurd q (by decide), fun q => absurd q (by decide)⟩, fun q => absurd q (by decide), fun _ => by rw [x.2.1]; omega, fun q => absurd q (by decide), fun q => absurd q (by decide), fun q => absurd q (by decide), fun q => absurd q (by decide), fun q => absurd q (by decide), fun q => absurd q (by decide), fun q => absurd q (by decide), fun q => absurd q (by decide), fun q => absurd q (by decide), fun q => absurd q (by decide), fun q => absurd q (by decide), fun q => absurd q (by decide), fun q => absurd q (by decide), fun q => absurd q (by decide), fun q => absurd q (by decide), fun q => absurd q (by decide), fun q => absurd q (by decide), ⟨fun q => absurd q (by decide), fun q => absurd q (by decide), fun q => absurd q (by decide)⟩, ⟨by decide, by decide⟩⟩)
  exact w4.end
/-- what was added is taken away -/
theorem q0m.back {μ ν π : M3} (h : mEXT μ ν) (hc : π.1 111 22 = μ.1 111 22) (hn : nle (nS ν) (nS π)) (k0' : ∀ j, π.1 115 j = ν.1 115 j) (k1' : ∀ j, π.1 116 j = ν.1 116 j) (k2' : ∀ j, π.1 117 j = ν.1 117 j) : q0m μ π := by
  refine ⟨⟨by omega, NS.tr h.2.1 hn, fun i k hk hi => ?_⟩, hc⟩
  rw [← h.2.2 i k hk hi]
  unfold cdm
  rw [k0', k1', k2']
theorem bd_z {μ ν : M3} (h : bd μ ≤ bd ν) (h0 : bd ν = 0) : bd μ = 0 := by
  have := wr_r (μ := μ); omega
theorem bd_1 {ν : M3} (h : bd ν = 1) (μ : M3) : bd μ ≤ bd ν := by
  have := wr_r (μ := μ); omega
theorem sf_t {r : Int} {a b c x : Prop} (h : (r = 1 ∧ a ∧ b ∧ c) ∨ (r = 0 ∧ x)) (hr : r ≠ 0) : a ∧ b ∧ c := by
  rcases h with h | h
  · exact h.2
  · exact absurd h.1 hr
theorem sf_r {r : Int} {a x : Prop} (h : (r = 1 ∧ a) ∨ (r = 0 ∧ x)) : 0 ≤ r ∧ r ≤ 1 := by
  rcases h with h | h
  · have := h.1; omega
  · have := h.1; omega
theorem mDO.e {μo μ : M3} {t M q r : Int} (h : mDO μo μ t M q) (e : q = r) : mDO μo μ t M r := by rw [← e]; exact h
theorem mS1.h {μ : M3} {t : Int} (h : mS1 μ t) : mHt μ 0 := ⟨h.1, h.2.1⟩
theorem mS0.ht {μ : M3} (h : mS0 μ) : mHt μ 0 := h
theorem mHt.s {μ : M3} (h : mHt μ 0) : mS0 μ := h
set_option maxHeartbeats 4000000 in
set_option maxRecDepth 100000 in
theorem c_X12_plain (ω : Om) (l : Launch) (μ : M3) (F : Nat) (Lo : Nat) (kf : Int) (tt : Int) (htt : tt = μ.1 111 14) (hF : 200 ≤ F) (hLo : 6000 ≤ Lo) (hK : ∀ (μ : M3) (tt : Int) (htt : tt = μ.1 111 14) (hPM : PM μ) (hnn : 0 ≤ nn μ ∧ nn μ ≤ 9 ∧ 9 * wr μ ≤ nn μ) (hn8 : nn μ ≤ 8 + wr μ) (hcd : 0 ≤ μ.1 111 22 ∧ μ.1 111 22 ≤ 2 * μ.1 111 9 + 8 * nn μ + 60) (hW : 0 ≤ μ.1 111 39 ∧ μ.1 111 39 ≤ μ.1 111 22) (hsl : 0 ≤ μ.1 111 31 ∧ μ.1 111 31 ≤ 300) (hvr : 0 ≤ μ.1 111 32 ∧ μ.1 111 32 ≤ μ.1 111 9) (hfu : 0 ≤ (kf - 1) ∧ 8 ≤ nn μ + (kf - 1)) (hS0 : ∀ _ : Unit, bd μ = 0 → mS0 μ), CtV ω l yX12_block cX12_block 1 (F + 0) (Lo + 0) [.ref (oP ω 111)] μ (fun (μ' : M3) => (FrM [111, 113, 115, 116, 117, 123, 124, 126] μ μ') ∧ (∀ j, j ∉ ([6, 8, 9, 10, 11, 12, 13, 15, 16, 17, 18, 22, 29, 31, 32, 34, 35, 36, 37, 39] : List Int) → μ'.1 111 j = μ.1 111 j) ∧ (PM μ') ∧ (μ.1 111 22 ≤ μ'.1 111 22 ∧ μ'.1 111 22 ≤ μ.1 111 22 + 2 * (μ'.1 111 9 - μ.1 111 9) + 8 * (nn μ' - nn μ) + (- 4 - 4 * wr μ' + 8 * wr μ)) ∧ (μ.1 111 9 + 1 ≤ μ'.1 111 9 + wr μ') ∧ (μ.1 111 29 ≤ μ'.1 111 29) ∧ (wr μ ≤ wr μ' ∧ bd μ ≤ bd μ') ∧ (nn μ ≤ nn μ' ∧ nn μ' ≤ nn μ + 9 * wr μ' ∧ nn μ' ≤ 9 ∧ 9 * wr μ' ≤ nn μ') ∧ (μ'.1 111 39 = μ.1 111 39) ∧ (∀ j, j < μ.1 111 39 → μ'.1 126 j = μ.1 126 j) ∧ (μ.1 111 31 ≤ μ'.1 111 31 ∧ μ'.1 111 31 ≤ 300) ∧ (0 ≤ μ'.1 111 32 ∧ μ'.1 111 32 ≤ μ'.1 111 9) ∧ (∀ _ : Unit, bd μ' = 0 → mEX μ μ' tt 0 (2 * (8 - nn μ)) 101) ∧ (mEXT μ μ'))) (hPM : PM μ) (hnn : 0 ≤ nn μ ∧ nn μ ≤ 9 ∧ 9 * wr μ ≤ nn μ) (hn8 : nn μ ≤ 8 + wr μ) (hcd : 0 ≤ μ.1 111 22 ∧ μ.1 111 22 ≤ 2 * μ.1 111 9 + 8 * nn μ + 54) (hW : 0 ≤ μ.1 111 39 ∧ μ.1 111 39 ≤ μ.1 111 22) (hsl : 0 ≤ μ.1 111 31 ∧ μ.1 111 31 ≤ 300) (hvr : 0 ≤ μ.1 111 32 ∧ μ.1 111 32 ≤ μ.1 111 9) (hw0 : wr μ = 0) (hfu : 1 ≤ kf ∧ 9 ≤ nn μ + kf) (hS1 : ∀ _ : Unit, bd μ = 0 → mS1 μ tt) : CtV ω l yX12_plain cX12_plain 1 (F + 0) (Lo + 0) [.ref (oP ω 111)] μ (fun (μ' : M3) => (FrM [111, 113, 115, 116, 117, 123, 124, 126] μ μ') ∧ (∀ j, j ∉ ([6, 8, 9, 10, 11, 12, 13, 15, 16, 17, 18, 22, 29, 31, 32, 34, 35, 36, 37, 39] : List Int) → μ'.1 111 j = μ.1 111 j) ∧ (PM μ') ∧ (μ.1 111 22 ≤ μ'.1 111 22 ∧ μ'.1 111 22 ≤ μ.1 111 22 + 2 * (μ'.1 111 9 - μ.1 111 9) + 8 * (nn μ' - nn μ) + (- 1)) ∧ (μ.1 111 9 + 1 ≤ μ'.1 111 9 + wr μ') ∧ (μ.1 111 29 ≤ μ'.1 111 29) ∧ (wr μ ≤ wr μ' ∧ bd μ ≤ bd μ') ∧ (nn μ ≤ nn μ' ∧ nn μ' ≤ nn μ + 9 * wr μ' ∧ nn μ' ≤ 9 ∧ 9 * wr μ' ≤ nn μ') ∧ (μ'.1 111 39 = μ.1 111 39) ∧ (∀ j, j < μ.1 111 39 → μ'.1 126 j = μ.1 126 j) ∧ (μ.1 111 31 ≤ μ'.1 111 31 ∧ μ'.1 111 31 ≤ 300) ∧ (0 ≤ μ'.1 111 32 ∧ μ'.1 111 32 ≤ μ'.1 111 9) ∧ (∀ _ : Unit, bd μ' = 0 → mEY μ μ' tt ((2 * (9 - nn μ)))) ∧ (mEXT μ μ')) := by
  refine CtV.go (by decide) (Nat.le_of_ble_eq_true rfl) (fun ρ p e s m below meth c R ls G hR hret hlk hl => ?_)
  have hx := G.1.1
  have hb := G.1.2.1
  have hl : lv_has ls 1 [(0, .ref (oP ω 111))] := hl
  generalize s.drawn = d0 at G ⊢
  have hw_0 := wr_r (μ := μ)
  have hpp_ := hPM.1.2.1
  have hpn_ := hPM.2.1
  have hpt_ := hPM.1.2.2.2.1
  have hpw_ := hPM.1.2.2.2.2.1
  have hpa_ := hPM.1.1
  have hht_0 : ∀ _ : Unit, bd μ = 0 → mHt μ 0 := fun _ h0 => (hS1 () h0).h
  refine lv_aload_n hx hb dX12_plain_0 rfl (lv_at hl 0 rfl) ?_
  have e_1 : μ.1 111 14 = tt := htt.symm
  refine xc_vV G (b := 111) (rest := []) (As := []) (c_X12_expr_a ω l μ tt (by (repeat' apply And.intro) <;> omega) hPM (by (repeat' apply And.intro) <;> omega) (by (repeat' apply And.intro) <;> omega) (by (repeat' apply And.intro) <;> omega) (by (repeat' apply And.intro) <;> omega) (by (repeat' apply And.intro) <;> omega) (fun _ h0 => (hht_0 () h0).p (by decide))) (wm 9 139 rfl rfl) (wm 9 141 rfl rfl) (wm 0 147 rfl rfl) rfl rfl (by decide) rfl (wm 1 18 rfl rfl) (wm 9 142 rfl rfl) (by decide) hR ⟨nfB hF (by decide), nlB hLo (by decide)⟩ (n := 0) rfl rfl (Nat.le_of_ble_eq_true rfl) hl.1 dX12_plain_1 (fun μ2 ρ d0 H locs hp G => ?_)
  obtain ⟨F_3, hp_4, hp_5, hp_6, hp_7, hp_8, hp_9, hp_10, hp_11, hp_12, hp_13, hp_14⟩ := hp
  have hpl_15 := hp_5.pl
  have hw_16 := wr_r (μ := μ2)
  have hxt_17 : mEXT μ μ2 := (mEXT.rf (μ := μ)).tr hp_14
  have hwk_18 : ∀ j, j < μ.1 111 39 → μ2.1 126 j = μ.1 126 j := fun j hj => hp_12 j (by omega)
  have hex_19 : ∀ _ : Unit, bd μ2 = 0 → mEX μ μ2 tt 1 0 99 := fun _ h0 => (hp_13 () h0).mn (Int.le_refl _) (by omega)
  have hht_20 : ∀ _ : Unit, bd μ2 = 0 → mHt μ2 1 := fun _ h0 => (hht_0 () (bd_z (hp_9.2) h0)).ex (hex_19 () h0) rfl
  have vl_21 := hp_6
  replace hp_6 := fun _ : Unit => hp_6
  have vl_22 := hp_7
  replace hp_7 := fun _ : Unit => hp_7
  have vl_23 := hp_8
  replace hp_8 := fun _ : Unit => hp_8
  have vl_24 := hp_9
  replace hp_9 := fun _ : Unit => hp_9
  have vl_25 := hp_10
  replace hp_10 := fun _ : Unit => hp_10
  have vl_26 := hp_11
  replace hp_11 := fun _ : Unit => hp_11
  have h39_27 : μ2.1 111 39 = μ.1 111 39 := by omega
  obtain ⟨hv_30, hv_31, hv_32, hv_33, hv_34, hv_35, hv_36, hv_37, hv_38, hv_39, hv_40, hv_41, hv_42, hv_43, hv_44, hv_45, hv_46, hv_47⟩ : μ.1 111 22 ≤ μ2.1 111 22 ∧ μ2.1 111 22 ≤ μ.1 111 22 + 2 * (μ2.1 111 9 - μ.1 111 9) + 8 * (nn μ2 - nn μ) - 1 + -5 * wr μ2 ∧ μ.1 111 9 + 0 ≤ μ2.1 111 9 ∧ nn μ + 0 ≤ nn μ2 ∧ nn μ2 ≤ nn μ + 0 + 9 * wr μ2 ∧ nn μ2 ≤ 8 + wr μ2 ∧ 9 * wr μ2 ≤ nn μ2 ∧ nn μ2 ≤ 9 ∧ wr μ ≤ wr μ2 ∧ wr μ2 ≤ 1 ∧ wr μ2 ≤ bd μ2 ∧ bd μ2 ≤ 1 ∧ μ.1 111 29 ≤ μ2.1 111 29 ∧ μ.1 111 31 ≤ μ.1 111 31 ∧ μ.1 111 31 ≤ 300 ∧ 0 ≤ μ.1 111 32 ∧ μ.1 111 32 ≤ μ2.1 111 9 ∧ μ2.1 111 9 ≤ 3000 := by (repeat' apply And.intro) <;> omega
  clear e_1 hpl_15 hw_16 vl_21 vl_22 vl_23 vl_24 vl_25 vl_26
  refine lv_aload_n hx hb dX12_plain_4 rfl (lv_at hl 0 rfl) ?_
  refine lv_bipush (v := iv 59) hx hb dX12_plain_5 rfl ?_
  have hw_48 := wr_r (μ := μ2)
  refine xc_vV G (b := 111) (rest := []) (As := [.int (iv 59)]) (c_X12_wantsSign ω l μ2 59 (by unfold ir; decide) hp_5 (by (repeat' apply And.intro) <;> omega)) (wm 9 114 rfl rfl) (wm 9 116 rfl rfl) (wm 0 141 rfl rfl) rfl rfl (by decide) rfl (wm 1 18 rfl rfl) (wm 9 117 rfl rfl) (by decide) hR ⟨nfB hF (by decide), nlB hLo (by decide)⟩ (n := 1) rfl rfl (Nat.le_of_ble_eq_true rfl) hl.1 dX12_plain_7 (fun μ49 ρ d0 H locs hp G => ?_)
  obtain ⟨F_50, hp_51, hp_52, hp_53, hp_54, hp_55, hp_56⟩ := hp
  have hpl_57 := hp_52.pl
  have hw_58 := wr_r (μ := μ49)
  have vl_59 := hp_53
  replace hp_53 := fun _ : Unit => hp_53
  have vl_60 := hp_54
  replace hp_54 := fun _ : Unit => hp_54
  have vl_61 := hp_55
  replace hp_55 := fun _ : Unit => hp_55
  have vl_62 := hp_56
  replace hp_56 := fun _ : Unit => hp_56
  obtain ⟨hv_65, hv_66, hv_67, hv_68, hv_69, hv_70, hv_71, hv_72, hv_73, hv_74, hv_75, hv_76, hv_77, hv_78, hv_79, hv_80, hv_81, hv_82, hv_83⟩ : μ.1 111 22 ≤ μ2.1 111 22 ∧ μ2.1 111 22 ≤ μ.1 111 22 + 2 * (μ49.1 111 9 - μ.1 111 9) + 8 * (nn μ49 - nn μ) - 3 + -3 * wr μ49 ∧ μ.1 111 9 + 0 ≤ μ49.1 111 9 ∧ μ.1 111 9 + 1 ≤ μ49.1 111 9 + wr μ49 ∧ nn μ + 0 ≤ nn μ49 ∧ nn μ49 ≤ nn μ + 0 + 9 * wr μ49 ∧ nn μ49 ≤ 8 + wr μ49 ∧ 9 * wr μ49 ≤ nn μ49 ∧ nn μ49 ≤ 9 ∧ wr μ ≤ wr μ49 ∧ wr μ49 ≤ 1 ∧ wr μ49 ≤ bd μ49 ∧ bd μ49 ≤ 1 ∧ μ.1 111 29 ≤ μ2.1 111 29 ∧ μ.1 111 31 ≤ μ.1 111 31 ∧ μ.1 111 31 ≤ 300 ∧ 0 ≤ μ.1 111 32 ∧ μ.1 111 32 ≤ μ49.1 111 9 ∧ μ49.1 111 9 ≤ 3000 := by (repeat' apply And.intro) <;> omega
  clear hv_30 hv_31 hv_32 hv_33 hv_34 hv_35 hv_36 hv_37 hv_38 hv_39 hv_40 hv_41 hv_42 hv_43 hv_44 hv_45 hv_46 hv_47 hw_48 hpl_57 hw_58 vl_59 vl_60 vl_61 vl_62
  refine lv_aload_n hx hb dX12_plain_10 rfl (lv_at hl 0 rfl) ?_
  refine lv_bipush (v := iv 6) hx hb dX12_plain_11 rfl ?_
  refine lv_lconst (v := jv 0) hx hb dX12_plain_13 rfl ?_
  refine lv_iconst (v := iv 0) hx hb dX12_plain_14 rfl ?_
  have hq_84 : ∀ _ : Unit, q0m μ2 μ49 := fun _ => (q0m.fr (K := [111]) (FrM.tr FrM.rf F_50 (by decide)) (by decide) (by decide) (by decide) (hp_51 22 (by decide)) (nS.le (Int.le_of_eq (hp_51 29 (by decide)).symm) (Int.le_of_eq (hp_51 31 (by decide)).symm)))
  have hw_85 := wr_r (μ := μ49)
  have hht_86 : ∀ _ : Unit, bd μ49 = 0 → mHt μ49 1 := fun _ h0 => (hht_20 () (bd_z ((hp_55 ()).2) h0)).qm (hq_84 ())
  have e_87 : μ49.1 111 29 = μ2.1 111 29 := (hp_51 29 (by decide))
  have hxt_88 : mEXT μ μ49 := hxt_17.tr (q0m.fr (K := [111]) (FrM.tr FrM.rf F_50 (by decide)) (by decide) (by decide) (by decide) (hp_51 22 (by decide)) (nS.le (Int.le_of_eq (hp_51 29 (by decide)).symm) (Int.le_of_eq (hp_51 31 (by decide)).symm))).1
  have e_89 : μ49.1 111 22 = μ2.1 111 22 := (hp_51 22 (by decide))
  refine xc_iV G (b := 111) (rest := []) (As := [.int (iv 6), .long (jv 0), .int (iv 0)]) (c_X12_emit ω l μ49 6 0 0 (by unfold ir; decide) (by unfold jr; omega) (by unfold ir; decide) (by (repeat' apply And.intro) <;> omega)) (wm 9 126 rfl rfl) (wm 9 128 rfl rfl) (wm 0 144 rfl rfl) rfl rfl (by decide) rfl (wm 1 18 rfl rfl) (wm 9 129 rfl rfl) (by decide) hR ⟨nfB hF (by decide), nlB hLo (by decide)⟩ (n := 3) rfl rfl (Nat.le_of_ble_eq_true rfl) hl.1 dX12_plain_15 (fun r_94 μ93 ρ d0 H locs hr_r_94 hp G => ?_)
  have hr_r_94 : -2147483648 ≤ r_94 ∧ r_94 ≤ 2147483647 := hr_r_94
  obtain ⟨F_95, hp_96, hp_97, hp_98, hp_99⟩ := hp
  have hxt_100 : mEXT μ μ93 := hxt_88.tr hp_97.1
  have hht_101 : ∀ _ : Unit, bd μ93 = 0 → mHt μ93 0 := fun _ h0 => (hht_86 () (bd_z (Int.le_of_eq (bd_cg (hp_96 15 (by decide)) (hp_96 16 (by decide)) (hp_96 17 (by decide))).symm) h0)).ad hp_97 rfl
  have vl_102 := hp_99
  replace hp_99 := fun _ : Unit => hp_99
  obtain ⟨hv_105, hv_106, hv_107, hv_108, hv_109, hv_110, hv_111, hv_112, hv_113, hv_114, hv_115, hv_116, hv_117, hv_118, hv_119, hv_120, hv_121, hv_122, hv_123⟩ : μ.1 111 22 ≤ μ93.1 111 22 ∧ μ93.1 111 22 ≤ μ.1 111 22 + 2 * (μ49.1 111 9 - μ.1 111 9) + 8 * (nn μ49 - nn μ) - 2 + -3 * wr μ49 ∧ μ.1 111 9 + 0 ≤ μ49.1 111 9 ∧ μ.1 111 9 + 1 ≤ μ49.1 111 9 + wr μ49 ∧ nn μ + 0 ≤ nn μ49 ∧ nn μ49 ≤ nn μ + 0 + 9 * wr μ49 ∧ nn μ49 ≤ 8 + wr μ49 ∧ 9 * wr μ49 ≤ nn μ49 ∧ nn μ49 ≤ 9 ∧ wr μ ≤ wr μ49 ∧ wr μ49 ≤ 1 ∧ wr μ49 ≤ bd μ49 ∧ bd μ49 ≤ 1 ∧ μ.1 111 29 ≤ μ2.1 111 29 ∧ μ.1 111 31 ≤ μ.1 111 31 ∧ μ.1 111 31 ≤ 300 ∧ 0 ≤ μ.1 111 32 ∧ μ.1 111 32 ≤ μ49.1 111 9 ∧ μ49.1 111 9 ≤ 3000 := by (repeat' apply And.intro) <;> omega
  clear hv_65 hv_66 hv_67 hv_68 hv_69 hv_70 hv_71 hv_72 hv_73 hv_74 hv_75 hv_76 hv_77 hv_78 hv_79 hv_80 hv_81 hv_82 hv_83 hw_85 e_87 e_89 vl_102
  refine lv_pop hx hb dX12_plain_18 rfl ?_
  have e_124 : μ93.1 111 9 = μ49.1 111 9 := (hp_96 9 (by decide))
  have e_125 : μ93.1 111 29 = μ2.1 111 29 := ((hp_96 29 (by decide)).trans (hp_51 29 (by decide)))
  have e_126 : μ93.1 111 39 = μ2.1 111 39 := ((hp_96 39 (by decide)).trans (hp_51 39 (by decide)))
  have e_127 : μ93.1 111 31 = μ.1 111 31 := ((hp_96 31 (by decide)).trans ((hp_51 31 (by decide)).trans (hp_4 31 (by decide))))
  have e_128 : μ93.1 111 32 = μ.1 111 32 := ((hp_96 32 (by decide)).trans ((hp_51 32 (by decide)).trans (hp_4 32 (by decide))))
  have e_129 : μ93.1 111 6 = μ49.1 111 6 := (hp_96 6 (by decide))
  have e_130 : wr μ93 = wr μ49 := (wr_cg (hp_96 15 (by decide)))
  have hw_131 := wr_r (μ := μ49)
  have e_132 : bd μ93 = bd μ49 := (bd_cg (hp_96 15 (by decide)) (hp_96 16 (by decide)) (hp_96 17 (by decide)))
  have e_133 : nn μ93 = nn μ49 := (nn_cg (hp_96 15 (by decide)) (hp_96 18 (by decide)))
  have hPM_134 : PM μ93 := hp_52.cg ((((hp_96 4 (by decide)).trans ((hp_51 4 (by decide)).trans (hp_4 4 (by decide))))).trans (((hp_51 4 (by decide)).trans (hp_4 4 (by decide)))).symm) (hp_96 6 (by decide)) ((((hp_96 7 (by decide)).trans ((hp_51 7 (by decide)).trans (hp_4 7 (by decide))))).trans (((hp_51 7 (by decide)).trans (hp_4 7 (by decide)))).symm) (hp_96 8 (by decide)) (hp_96 9 (by decide)) (hp_96 11 (by decide)) (hp_96 12 (by decide)) ((((hp_96 14 (by decide)).trans ((hp_51 14 (by decide)).trans ((hp_4 14 (by decide)).trans htt.symm)))).trans (((hp_51 14 (by decide)).trans ((hp_4 14 (by decide)).trans htt.symm))).symm) (hp_96 15 (by decide)) ((((hp_96 29 (by decide)).trans (hp_51 29 (by decide)))).trans ((hp_51 29 (by decide))).symm) (fun j => (F_95.1 123 (by decide) j))
  exact xr_v G hret hlk dX12_plain_19 ⟨(FrM.tr (FrM.tr (FrM.tr FrM.rf F_3 (by decide)) F_50 (by decide)) F_95 (by decide)), (fun j hj => ((hp_96 j (fun h9 => hj ((by decide : ∀ x ∈ ([22] : List Int), x ∈ ([6, 8, 9, 10, 11, 12, 13, 15, 16, 17, 18, 22, 29, 31, 32, 34, 35, 36, 37, 39] : List Int)) j h9))).trans ((hp_51 j (fun h9 => hj ((by decide : ∀ x ∈ ([6, 8, 9, 10, 11, 12, 13, 15] : List Int), x ∈ ([6, 8, 9, 10, 11, 12, 13, 15, 16, 17, 18, 22, 29, 31, 32, 34, 35, 36, 37, 39] : List Int)) j h9))).trans (hp_4 j (fun h9 => hj ((by decide : ∀ x ∈ ([6, 8, 9, 10, 11, 12, 13, 15, 16, 17, 18, 22, 29, 39] : List Int), x ∈ ([6, 8, 9, 10, 11, 12, 13, 15, 16, 17, 18, 22, 29, 31, 32, 34, 35, 36, 37, 39] : List Int)) j h9)))))), hPM_134, (by (repeat' apply And.intro) <;> omega), (by (repeat' apply And.intro) <;> omega), (by (repeat' apply And.intro) <;> omega), ⟨by omega, (Int.le_trans (Int.le_trans ((hp_9 ()).2) ((hp_55 ()).2)) (Int.le_of_eq (bd_cg (hp_96 15 (by decide)) (hp_96 16 (by decide)) (hp_96 17 (by decide))).symm))⟩, (by (repeat' apply And.intro) <;> omega), (by (repeat' apply And.intro) <;> omega), (fun j hj => ((F_95.1 126 (by decide) j).trans ((F_50.1 126 (by decide) j).trans (hwk_18 j (by omega))))), (by (repeat' apply And.intro) <;> omega), (by (repeat' apply And.intro) <;> omega), (fun _ h0 => as_one (M := (2 * (9 - nn μ))) (hS1 () (bd_z (Int.le_trans (Int.le_trans ((hp_9 ()).2) ((hp_55 ()).2)) (Int.le_of_eq (bd_cg (hp_96 15 (by decide)) (hp_96 16 (by decide)) (hp_96 17 (by decide))).symm)) h0)).s ((hex_19 () (bd_z (Int.le_trans ((hp_55 ()).2) (Int.le_of_eq (bd_cg (hp_96 15 (by decide)) (hp_96 16 (by decide)) (hp_96 17 (by decide))).symm)) h0)).qm (hq_84 ())) (by omega) (by omega) hp_97 (by unfold mpl; omega) rfl rfl (fun h1 => ⟨fun q => absurd q (by decide), ⟨fun q => absurd q (by decide), fun q => absurd q (by decide)⟩, fun _ => by omega, fun q => absurd q (by decide), fun q => absurd q (by decide), fun q => absurd q (by decide), fun q => absurd q (by decide), fun q => absurd q (by decide), fun q => absurd q (by decide), fun q => absurd q (by decide), fun q => absurd q (by decide), fun q => absurd q (by decide), fun q => absurd q (by decide), fun q => absurd q (by decide), fun q => absurd q (by decide), fun q => absurd q (by decide), fun q => absurd q (by decide), fun q => absurd q (by decide), fun q => absurd q (by decide), fun q => absurd q (by decide), fun q => absurd q (by decide), ⟨fun q => absurd q (by decide), fun q => absurd q (by decide), fun q => absurd q (by decide)⟩, ⟨by decide, by decide⟩⟩)), hxt_100⟩

set_option maxHeartbeats 4000000 in
set_option maxRecDepth 100000 in
theorem c_X12_lets (ω : Om) (l : Launch) (μ : M3) (F : Nat) (Lo : Nat) (kf : Int) (tt : Int) (htt : tt = μ.1 111 14) (hF : 200 ≤ F) (hLo : 6000 ≤ Lo) (hK : ∀ (μ : M3) (tt : Int) (htt : tt = μ.1 111 14) (hPM : PM μ) (hnn : 0 ≤ nn μ ∧ nn μ ≤ 9 ∧ 9 * wr μ ≤ nn μ) (hn8 : nn μ ≤ 8 + wr μ) (hcd : 0 ≤ μ.1 111 22 ∧ μ.1 111 22 ≤ 2 * μ.1 111 9 + 8 * nn μ + 60) (hW : 0 ≤ μ.1 111 39 ∧ μ.1 111 39 ≤ μ.1 111 22) (hsl : 0 ≤ μ.1 111 31 ∧ μ.1 111 31 ≤ 300) (hvr : 0 ≤ μ.1 111 32 ∧ μ.1 111 32 ≤ μ.1 111 9) (hfu : 0 ≤ (kf - 1) ∧ 8 ≤ nn μ + (kf - 1)) (hS0 : ∀ _ : Unit, bd μ = 0 → mS0 μ), CtV ω l yX12_block cX12_block 1 (F + 0) (Lo + 0) [.ref (oP ω 111)] μ (fun (μ' : M3) => (FrM [111, 113, 115, 116, 117, 123, 124, 126] μ μ') ∧ (∀ j, j ∉ ([6, 8, 9, 10, 11, 12, 13, 15, 16, 17, 18, 22, 29, 31, 32, 34, 35, 36, 37, 39] : List Int) → μ'.1 111 j = μ.1 111 j) ∧ (PM μ') ∧ (μ.1 111 22 ≤ μ'.1 111 22 ∧ μ'.1 111 22 ≤ μ.1 111 22 + 2 * (μ'.1 111 9 - μ.1 111 9) + 8 * (nn μ' - nn μ) + (- 4 - 4 * wr μ' + 8 * wr μ)) ∧ (μ.1 111 9 + 1 ≤ μ'.1 111 9 + wr μ') ∧ (μ.1 111 29 ≤ μ'.1 111 29) ∧ (wr μ ≤ wr μ' ∧ bd μ ≤ bd μ') ∧ (nn μ ≤ nn μ' ∧ nn μ' ≤ nn μ + 9 * wr μ' ∧ nn μ' ≤ 9 ∧ 9 * wr μ' ≤ nn μ') ∧ (μ'.1 111 39 = μ.1 111 39) ∧ (∀ j, j < μ.1 111 39 → μ'.1 126 j = μ.1 126 j) ∧ (μ.1 111 31 ≤ μ'.1 111 31 ∧ μ'.1 111 31 ≤ 300) ∧ (0 ≤ μ'.1 111 32 ∧ μ'.1 111 32 ≤ μ'.1 111 9) ∧ (∀ _ : Unit, bd μ' = 0 → mEX μ μ' tt 0 (2 * (8 - nn μ)) 101) ∧ (mEXT μ μ'))) (hPM : PM μ) (hnn : 0 ≤ nn μ ∧ nn μ ≤ 9 ∧ 9 * wr μ ≤ nn μ) (hn8 : nn μ ≤ 8 + wr μ) (hcd : 0 ≤ μ.1 111 22 ∧ μ.1 111 22 ≤ 2 * μ.1 111 9 + 8 * nn μ + 54) (hW : 0 ≤ μ.1 111 39 ∧ μ.1 111 39 ≤ μ.1 111 22) (hsl : 0 ≤ μ.1 111 31 ∧ μ.1 111 31 ≤ 300) (hvr : 0 ≤ μ.1 111 32 ∧ μ.1 111 32 ≤ μ.1 111 9) (hw0 : wr μ = 0) (hfu : 1 ≤ kf ∧ 9 ≤ nn μ + kf) (hS1 : ∀ _ : Unit, bd μ = 0 → mS1 μ tt) (hst : μ.1 111 8 ≠ 4) : CtV ω l yX12_lets cX12_lets 5 (F + 0) (Lo + 0) [.ref (oP ω 111)] μ (fun (μ' : M3) => (FrM [111, 113, 115, 116, 117, 123, 124, 126] μ μ') ∧ (∀ j, j ∉ ([6, 8, 9, 10, 11, 12, 13, 15, 16, 17, 18, 22, 29, 31, 32, 34, 35, 36, 37, 39] : List Int) → μ'.1 111 j = μ.1 111 j) ∧ (PM μ') ∧ (μ.1 111 22 ≤ μ'.1 111 22 ∧ μ'.1 111 22 ≤ μ.1 111 22 + 2 * (μ'.1 111 9 - μ.1 111 9) + 8 * (nn μ' - nn μ) + (- 1)) ∧ (μ.1 111 9 + 1 ≤ μ'.1 111 9 + wr μ') ∧ (μ.1 111 29 ≤ μ'.1 111 29) ∧ (wr μ ≤ wr μ' ∧ bd μ ≤ bd μ') ∧ (nn μ ≤ nn μ' ∧ nn μ' ≤ nn μ + 9 * wr μ' ∧ nn μ' ≤ 9 ∧ 9 * wr μ' ≤ nn μ') ∧ (μ'.1 111 39 = μ.1 111 39) ∧ (∀ j, j < μ.1 111 39 → μ'.1 126 j = μ.1 126 j) ∧ (μ.1 111 31 ≤ μ'.1 111 31 ∧ μ'.1 111 31 ≤ 300) ∧ (0 ≤ μ'.1 111 32 ∧ μ'.1 111 32 ≤ μ'.1 111 9) ∧ (∀ _ : Unit, bd μ' = 0 → mEY μ μ' tt ((2 * (9 - nn μ)))) ∧ (mEXT μ μ')) := by
  refine CtV.go (by decide) (Nat.le_of_ble_eq_true rfl) (fun ρ p e s m below meth c R ls G hR hret hlk hl => ?_)
  have hx := G.1.1
  have hb := G.1.2.1
  have hl : lv_has ls 5 [(0, .ref (oP ω 111))] := hl
  generalize s.drawn = d0 at G ⊢
  have hw_0 := wr_r (μ := μ)
  have hpp_ := hPM.1.2.1
  have hpn_ := hPM.2.1
  have hpt_ := hPM.1.2.2.2.1
  have hpw_ := hPM.1.2.2.2.2.1
  have hpa_ := hPM.1.1
  have hht_0 : ∀ _ : Unit, bd μ = 0 → mHt μ 0 := fun _ h0 => (hS1 () h0).h
  refine lv_aload_n hx hb dX12_lets_0 rfl (lv_at hl 0 rfl) ?_
  refine xc_vV G (b := 111) (rest := []) (As := []) (c_X12_next ω l μ  hPM (by (repeat' apply And.intro) <;> omega) (by (repeat' apply And.intro) <;> omega)) (wm 9 0 rfl rfl) (wm 9 2 rfl rfl) (wm 0 119 rfl rfl) rfl rfl (by decide) rfl (wm 1 18 rfl rfl) (wm 9 3 rfl rfl) (by decide) hR ⟨nfB hF (by decide), nlB hLo (by decide)⟩ (n := 0) rfl rfl (Nat.le_of_ble_eq_true rfl) hl.1 dX12_lets_1 (fun μ1 ρ d0 H locs hp G => ?_)
  obtain ⟨F_2, hp_3, hp_4, hp_5, hp_6, hp_7⟩ := hp
  have hpl_8 := hp_4.pl
  have hw_9 := wr_r (μ := μ1)
  have vl_10 := hp_5
  replace hp_5 := fun _ : Unit => hp_5
  have vl_11 := hp_6
  replace hp_6 := fun _ : Unit => hp_6
  have vl_12 := hp_7
  replace hp_7 := fun _ : Unit => hp_7
  obtain ⟨hv_15, hv_16, hv_17, hv_18, hv_19, hv_20, hv_21, hv_22, hv_23, hv_24, hv_25, hv_26, hv_27, hv_28, hv_29, hv_30, hv_31, hv_32⟩ : μ.1 111 22 ≤ μ.1 111 22 ∧ μ.1 111 22 ≤ μ.1 111 22 + 2 * (μ1.1 111 9 - μ.1 111 9) + 8 * (nn μ1 - nn μ) - 2 + -6 * wr μ1 ∧ μ.1 111 9 + 1 ≤ μ1.1 111 9 ∧ nn μ + 0 ≤ nn μ1 ∧ nn μ1 ≤ nn μ + 0 + 9 * wr μ1 ∧ nn μ1 ≤ 8 + wr μ1 ∧ 9 * wr μ1 ≤ nn μ1 ∧ nn μ1 ≤ 9 ∧ wr μ ≤ wr μ1 ∧ wr μ1 ≤ 1 ∧ wr μ1 ≤ bd μ1 ∧ bd μ1 ≤ 1 ∧ μ.1 111 29 ≤ μ.1 111 29 ∧ μ.1 111 31 ≤ μ.1 111 31 ∧ μ.1 111 31 ≤ 300 ∧ 0 ≤ μ.1 111 32 ∧ μ.1 111 32 ≤ μ1.1 111 9 ∧ μ1.1 111 9 ≤ 3000 := by (repeat' apply And.intro) <;> omega
  clear hpl_8 hw_9 vl_10 vl_11 vl_12
  refine lv_aload_n hx hb dX12_lets_4 rfl (lv_at hl 0 rfl) ?_
  refine xa_geti G fd_X12 (a := 111) (x := μ1.1 111 9) 9 rfl (by decide) rfl (wm 7 158 rfl rfl) ⟨rfl, rfl, rfl⟩ dX12_lets_5 rfl rfl ?_
  have hr_33 : -2147483648 ≤ μ1.1 111 9 ∧ μ1.1 111 9 ≤ 2147483647 := by have h9 := G.hr (a := 111) (k := 9) rfl; exact h9
  have hpg_34 : 0 ≤ μ1.1 111 9 := by omega
  refine lv_istore_n (lv' := [(1, .int (iv (μ1.1 111 9))), (0, .ref (oP ω 111))]) hx hb dX12_lets_8 rfl hl (by decide) rfl (fun ls hl => ?_)
  refine lv_aload_n hx hb dX12_lets_9 rfl (lv_at hl 1 rfl) ?_
  have hw_35 := wr_r (μ := μ1)
  refine xc_lV G (b := 111) (rest := []) (As := []) (c_X12_takesName ω l μ1  hp_4 (by (repeat' apply And.intro) <;> omega)) (wm 9 70 rfl rfl) (wm 9 72 rfl rfl) (wm 0 130 rfl rfl) rfl rfl (by decide) rfl (wm 1 18 rfl rfl) (wm 9 73 rfl rfl) (by decide) hR ⟨nfB hF (by decide), nlB hLo (by decide)⟩ (n := 0) rfl rfl (Nat.le_of_ble_eq_true rfl) hl.1 dX12_lets_10 (fun r_37 μ36 ρ d0 H locs hr_r_37 hp G => ?_)
  obtain ⟨F_38, hp_39, hp_40, hp_41, hp_42, hp_43, hp_44⟩ := hp
  have hpl_45 := hp_40.pl
  have hw_46 := wr_r (μ := μ36)
  have vl_47 := hp_41
  replace hp_41 := fun _ : Unit => hp_41
  have vl_48 := hp_42
  replace hp_42 := fun _ : Unit => hp_42
  have vl_49 := hp_43
  replace hp_43 := fun _ : Unit => hp_43
  have vl_50 := hp_44
  replace hp_44 := fun _ : Unit => hp_44
  obtain ⟨hv_53, hv_54, hv_55, hv_56, hv_57, hv_58, hv_59, hv_60, hv_61, hv_62, hv_63, hv_64, hv_65, hv_66, hv_67, hv_68, hv_69, hv_70⟩ : μ.1 111 22 ≤ μ.1 111 22 ∧ μ.1 111 22 ≤ μ.1 111 22 + 2 * (μ36.1 111 9 - μ.1 111 9) + 8 * (nn μ36 - nn μ) - 4 + -4 * wr μ36 ∧ μ.1 111 9 + 1 ≤ μ36.1 111 9 ∧ nn μ + 0 ≤ nn μ36 ∧ nn μ36 ≤ nn μ + 0 + 9 * wr μ36 ∧ nn μ36 ≤ 8 + wr μ36 ∧ 9 * wr μ36 ≤ nn μ36 ∧ nn μ36 ≤ 9 ∧ wr μ ≤ wr μ36 ∧ wr μ36 ≤ 1 ∧ wr μ36 ≤ bd μ36 ∧ bd μ36 ≤ 1 ∧ μ.1 111 29 ≤ μ.1 111 29 ∧ μ.1 111 31 ≤ μ.1 111 31 ∧ μ.1 111 31 ≤ 300 ∧ 0 ≤ μ.1 111 32 ∧ μ.1 111 32 ≤ μ36.1 111 9 ∧ μ36.1 111 9 ≤ 3000 := by (repeat' apply And.intro) <;> omega
  clear hv_15 hv_16 hv_17 hv_18 hv_19 hv_20 hv_21 hv_22 hv_23 hv_24 hv_25 hv_26 hv_27 hv_28 hv_29 hv_30 hv_31 hv_32 hw_35 hpl_45 hw_46 vl_47 vl_48 vl_49 vl_50
  refine lv_lstore_n (lv' := [(2, .long (jv r_37)), (1, .int (iv (μ1.1 111 9))), (0, .ref (oP ω 111))]) hx hb dX12_lets_13 rfl hl (by decide) rfl (fun ls hl => ?_)
  refine lv_aload_n hx hb dX12_lets_14 rfl (lv_at hl 2 rfl) ?_
  have hw_71 := wr_r (μ := μ36)
  refine xc_iV G (b := 111) (rest := []) (As := []) (c_X12_isWrong ω l μ36  ) (wm 9 4 rfl rfl) (wm 9 6 rfl rfl) (wm 0 120 rfl rfl) rfl rfl (by decide) rfl (wm 1 18 rfl rfl) (wm 9 7 rfl rfl) (by decide) hR ⟨nfB hF (by decide), nlB hLo (by decide)⟩ (n := 0) rfl rfl (Nat.le_of_ble_eq_true rfl) hl.1 dX12_lets_15 (fun r_73 μ72 ρ d0 H locs hr_r_73 hp G => ?_)
  have hr_r_73 : -2147483648 ≤ r_73 ∧ r_73 ≤ 2147483647 := hr_r_73
  obtain ⟨hsm_74, hp_75⟩ := hp
  have hsm_74 := Eq.symm hsm_74
  subst hsm_74
  refine xb_if_eq (tgt := 22) hx hb (by unfold ir; exact ⟨by omega, by omega⟩) dX12_lets_18 (by decide) (fun c_18 => ?_) (fun c_18 => ?_)
  · refine lv_aload_n hx hb dX12_lets_22 rfl (lv_at hl 2 rfl) ?_
    refine lv_lload_n hx hb dX12_lets_23 rfl (lv_at hl 0 rfl) ?_
    have e_76 : μ36.1 111 31 = μ.1 111 31 := ((hp_39 31 (by decide)).trans (hp_3 31 (by decide)))
    refine xc_iV G (b := 111) (rest := []) (As := [.long (jv r_37)]) (c_X12_slotOf ω l μ36 r_37 hr_r_37 (by (repeat' apply And.intro) <;> omega)) (wm 9 98 rfl rfl) (wm 9 100 rfl rfl) (wm 0 137 rfl rfl) rfl rfl (by decide) rfl (wm 1 18 rfl rfl) (wm 9 101 rfl rfl) (by decide) hR ⟨nfB hF (by decide), nlB hLo (by decide)⟩ (n := 1) rfl rfl (Nat.le_of_ble_eq_true rfl) hl.1 dX12_lets_24 (fun r_80 μ79 ρ d0 H locs hr_r_80 hp G => ?_)
    have hr_r_80 : -2147483648 ≤ r_80 ∧ r_80 ≤ 2147483647 := hr_r_80
    obtain ⟨hsm_81, hp_82⟩ := hp
    have hsm_81 := Eq.symm hsm_81
    subst hsm_81
    have hrg_r_80 : r_80 < 300 := by omega
    refine lv_istore (lv' := [(4, .int (iv r_80)), (2, .long (jv r_37)), (1, .int (iv (μ1.1 111 9))), (0, .ref (oP ω 111))]) hx hb dX12_lets_27 hl (by decide) rfl (fun ls hl => ?_)
    refine lv_iload hx hb dX12_lets_29 (lv_at hl 0 rfl) ?_
    refine lv_iconst (v := iv (-1)) hx hb dX12_lets_31 rfl ?_
    refine xb_icmp_ne (tgt := 66) hx hb (by unfold ir; exact ⟨by omega, by omega⟩) (by unfold ir; exact ⟨by omega, by omega⟩) dX12_lets_32 (by decide) (fun c_32 => ?_) (fun c_32 => ?_)
    · have hb1_83 : 0 ≤ r_80 := by omega
      replace c_32 := fun _ : Unit => c_32
      refine lv_aload_n hx hb dX12_lets_66 rfl (lv_at hl 3 rfl) ?_
      refine lv_bipush (v := iv 61) hx hb dX12_lets_67 rfl ?_
      refine xc_vV G (b := 111) (rest := []) (As := [.int (iv 61)]) (c_X12_wantsSign ω l μ36 61 (by unfold ir; decide) hp_40 (by (repeat' apply And.intro) <;> omega)) (wm 9 114 rfl rfl) (wm 9 116 rfl rfl) (wm 0 141 rfl rfl) rfl rfl (by decide) rfl (wm 1 18 rfl rfl) (wm 9 117 rfl rfl) (by decide) hR ⟨nfB hF (by decide), nlB hLo (by decide)⟩ (n := 1) rfl rfl (Nat.le_of_ble_eq_true rfl) hl.1 dX12_lets_69 (fun μ84 ρ d0 H locs hp G => ?_)
      obtain ⟨F_85, hp_86, hp_87, hp_88, hp_89, hp_90, hp_91⟩ := hp
      have hpl_92 := hp_87.pl
      have hw_93 := wr_r (μ := μ84)
      have vl_94 := hp_88
      replace hp_88 := fun _ : Unit => hp_88
      have vl_95 := hp_89
      replace hp_89 := fun _ : Unit => hp_89
      have vl_96 := hp_90
      replace hp_90 := fun _ : Unit => hp_90
      have vl_97 := hp_91
      replace hp_91 := fun _ : Unit => hp_91
      obtain ⟨hv_100, hv_101, hv_102, hv_103, hv_104, hv_105, hv_106, hv_107, hv_108, hv_109, hv_110, hv_111, hv_112, hv_113, hv_114, hv_115, hv_116, hv_117⟩ : μ.1 111 22 ≤ μ.1 111 22 ∧ μ.1 111 22 ≤ μ.1 111 22 + 2 * (μ84.1 111 9 - μ.1 111 9) + 8 * (nn μ84 - nn μ) - 6 + -2 * wr μ84 ∧ μ.1 111 9 + 1 ≤ μ84.1 111 9 ∧ nn μ + 0 ≤ nn μ84 ∧ nn μ84 ≤ nn μ + 0 + 9 * wr μ84 ∧ nn μ84 ≤ 8 + wr μ84 ∧ 9 * wr μ84 ≤ nn μ84 ∧ nn μ84 ≤ 9 ∧ wr μ ≤ wr μ84 ∧ wr μ84 ≤ 1 ∧ wr μ84 ≤ bd μ84 ∧ bd μ84 ≤ 1 ∧ μ.1 111 29 ≤ μ.1 111 29 ∧ μ.1 111 31 ≤ μ.1 111 31 ∧ μ.1 111 31 ≤ 300 ∧ 0 ≤ μ.1 111 32 ∧ μ.1 111 32 ≤ μ84.1 111 9 ∧ μ84.1 111 9 ≤ 3000 := by (repeat' apply And.intro) <;> omega
      clear hv_53 hv_54 hv_55 hv_56 hv_57 hv_58 hv_59 hv_60 hv_61 hv_62 hv_63 hv_64 hv_65 hv_66 hv_67 hv_68 hv_69 hv_70 hw_71 e_76 hpl_92 hw_93 vl_94 vl_95 vl_96 vl_97
      refine lv_aload_n hx hb dX12_lets_72 rfl (lv_at hl 3 rfl) ?_
      have hq_118 : ∀ _ : Unit, q0m μ μ84 := fun _ => (q0m.fr (K := [111]) (FrM.tr (FrM.tr (FrM.tr FrM.rf F_2 (by decide)) F_38 (by decide)) F_85 (by decide)) (by decide) (by decide) (by decide) ((hp_86 22 (by decide)).trans ((hp_39 22 (by decide)).trans (hp_3 22 (by decide)))) (nS.le (Int.le_trans (Int.le_trans (Int.le_of_eq (hp_3 29 (by decide)).symm) (Int.le_of_eq (hp_39 29 (by decide)).symm)) (Int.le_of_eq (hp_86 29 (by decide)).symm)) (Int.le_trans (Int.le_trans (Int.le_of_eq (hp_3 31 (by decide)).symm) (Int.le_of_eq (hp_39 31 (by decide)).symm)) (Int.le_of_eq (hp_86 31 (by decide)).symm))))
      have hw_119 := wr_r (μ := μ84)
      have hht_120 : ∀ _ : Unit, bd μ84 = 0 → mHt μ84 0 := fun _ h0 => (hht_0 () (bd_z (Int.le_trans (Int.le_trans ((hp_6 ()).2) ((hp_43 ()).2)) ((hp_90 ()).2)) h0)).qm (hq_118 ())
      have e_121 : μ84.1 111 29 = μ.1 111 29 := ((hp_86 29 (by decide)).trans ((hp_39 29 (by decide)).trans (hp_3 29 (by decide))))
      have hxt_122 : mEXT μ μ84 := (q0m.fr (K := [111]) (FrM.tr (FrM.tr (FrM.tr FrM.rf F_2 (by decide)) F_38 (by decide)) F_85 (by decide)) (by decide) (by decide) (by decide) ((hp_86 22 (by decide)).trans ((hp_39 22 (by decide)).trans (hp_3 22 (by decide)))) (nS.le (Int.le_trans (Int.le_trans (Int.le_of_eq (hp_3 29 (by decide)).symm) (Int.le_of_eq (hp_39 29 (by decide)).symm)) (Int.le_of_eq (hp_86 29 (by decide)).symm)) (Int.le_trans (Int.le_trans (Int.le_of_eq (hp_3 31 (by decide)).symm) (Int.le_of_eq (hp_39 31 (by decide)).symm)) (Int.le_of_eq (hp_86 31 (by decide)).symm)))).1
      have e_123 : μ84.1 111 14 = tt := ((hp_86 14 (by decide)).trans ((hp_39 14 (by decide)).trans ((hp_3 14 (by decide)).trans htt.symm)))
      have e_124 : μ84.1 111 22 = μ.1 111 22 := ((hp_86 22 (by decide)).trans ((hp_39 22 (by decide)).trans (hp_3 22 (by decide))))
      have e_126 : μ84.1 111 39 = μ.1 111 39 := ((hp_86 39 (by decide)).trans ((hp_39 39 (by decide)).trans (hp_3 39 (by decide))))
      have e_129 : μ84.1 111 31 = μ.1 111 31 := ((hp_86 31 (by decide)).trans ((hp_39 31 (by decide)).trans (hp_3 31 (by decide))))
      refine xc_vV G (b := 111) (rest := []) (As := []) (c_X12_expr_a ω l μ84 tt (by (repeat' apply And.intro) <;> omega) hp_87 (by (repeat' apply And.intro) <;> omega) (by (repeat' apply And.intro) <;> omega) (by (repeat' apply And.intro) <;> omega) (by (repeat' apply And.intro) <;> omega) (by (repeat' apply And.intro) <;> omega) (fun _ h0 => (hht_120 () h0).p (by decide))) (wm 9 139 rfl rfl) (wm 9 141 rfl rfl) (wm 0 147 rfl rfl) rfl rfl (by decide) rfl (wm 1 18 rfl rfl) (wm 9 142 rfl rfl) (by decide) hR ⟨nfB hF (by decide), nlB hLo (by decide)⟩ (n := 0) rfl rfl (Nat.le_of_ble_eq_true rfl) hl.1 dX12_lets_73 (fun μ135 ρ d0 H locs hp G => ?_)
      obtain ⟨F_136, hp_137, hp_138, hp_139, hp_140, hp_141, hp_142, hp_143, hp_144, hp_145, hp_146, hp_147⟩ := hp
      have hpl_148 := hp_138.pl
      have hw_149 := wr_r (μ := μ135)
      have hxt_150 : mEXT μ μ135 := hxt_122.tr hp_147
      have hwk_151 : ∀ j, j < μ.1 111 39 → μ135.1 126 j = μ84.1 126 j := fun j hj => hp_145 j (by omega)
      have hex_152 : ∀ _ : Unit, bd μ135 = 0 → mEX μ84 μ135 tt 1 0 99 := fun _ h0 => (hp_146 () h0).mn (Int.le_refl _) (by omega)
      have hht_153 : ∀ _ : Unit, bd μ135 = 0 → mHt μ135 1 := fun _ h0 => (hht_120 () (bd_z (hp_142.2) h0)).ex (hex_152 () h0) rfl
      have vl_154 := hp_139
      replace hp_139 := fun _ : Unit => hp_139
      have vl_155 := hp_140
      replace hp_140 := fun _ : Unit => hp_140
      have vl_156 := hp_141
      replace hp_141 := fun _ : Unit => hp_141
      have vl_157 := hp_142
      replace hp_142 := fun _ : Unit => hp_142
      have vl_158 := hp_143
      replace hp_143 := fun _ : Unit => hp_143
      have vl_159 := hp_144
      replace hp_144 := fun _ : Unit => hp_144
      have h39_160 : μ135.1 111 39 = μ.1 111 39 := by omega
      obtain ⟨hv_163, hv_164, hv_165, hv_166, hv_167, hv_168, hv_169, hv_170, hv_171, hv_172, hv_173, hv_174, hv_175, hv_176, hv_177, hv_178, hv_179, hv_180⟩ : μ.1 111 22 ≤ μ135.1 111 22 ∧ μ135.1 111 22 ≤ μ.1 111 22 + 2 * (μ135.1 111 9 - μ.1 111 9) + 8 * (nn μ135 - nn μ) - 7 + -1 * wr μ135 ∧ μ.1 111 9 + 1 ≤ μ135.1 111 9 ∧ nn μ + 0 ≤ nn μ135 ∧ nn μ135 ≤ nn μ + 0 + 9 * wr μ135 ∧ nn μ135 ≤ 8 + wr μ135 ∧ 9 * wr μ135 ≤ nn μ135 ∧ nn μ135 ≤ 9 ∧ wr μ ≤ wr μ135 ∧ wr μ135 ≤ 1 ∧ wr μ135 ≤ bd μ135 ∧ bd μ135 ≤ 1 ∧ μ.1 111 29 ≤ μ135.1 111 29 ∧ μ.1 111 31 ≤ μ.1 111 31 ∧ μ.1 111 31 ≤ 300 ∧ 0 ≤ μ.1 111 32 ∧ μ.1 111 32 ≤ μ135.1 111 9 ∧ μ135.1 111 9 ≤ 3000 := by (repeat' apply And.intro) <;> omega
      clear hv_100 hv_101 hv_102 hv_103 hv_104 hv_105 hv_106 hv_107 hv_108 hv_109 hv_110 hv_111 hv_112 hv_113 hv_114 hv_115 hv_116 hv_117 hw_119 e_121 e_123 e_124 e_126 e_129 hpl_148 hw_149 vl_154 vl_155 vl_156 vl_157 vl_158 vl_159
      refine lv_aload_n hx hb dX12_lets_76 rfl (lv_at hl 3 rfl) ?_
      refine lv_bipush (v := iv 59) hx hb dX12_lets_77 rfl ?_
      have hw_181 := wr_r (μ := μ135)
      refine xc_vV G (b := 111) (rest := []) (As := [.int (iv 59)]) (c_X12_wantsSign ω l μ135 59 (by unfold ir; decide) hp_138 (by (repeat' apply And.intro) <;> omega)) (wm 9 114 rfl rfl) (wm 9 116 rfl rfl) (wm 0 141 rfl rfl) rfl rfl (by decide) rfl (wm 1 18 rfl rfl) (wm 9 117 rfl rfl) (by decide) hR ⟨nfB hF (by decide), nlB hLo (by decide)⟩ (n := 1) rfl rfl (Nat.le_of_ble_eq_true rfl) hl.1 dX12_lets_79 (fun μ182 ρ d0 H locs hp G => ?_)
      obtain ⟨F_183, hp_184, hp_185, hp_186, hp_187, hp_188, hp_189⟩ := hp
      have hpl_190 := hp_185.pl
      have hw_191 := wr_r (μ := μ182)
      have vl_192 := hp_186
      replace hp_186 := fun _ : Unit => hp_186
      have vl_193 := hp_187
      replace hp_187 := fun _ : Unit => hp_187
      have vl_194 := hp_188
      replace hp_188 := fun _ : Unit => hp_188
      have vl_195 := hp_189
      replace hp_189 := fun _ : Unit => hp_189
      obtain ⟨hv_198, hv_199, hv_200, hv_201, hv_202, hv_203, hv_204, hv_205, hv_206, hv_207, hv_208, hv_209, hv_210, hv_211, hv_212, hv_213, hv_214, hv_215⟩ : μ.1 111 22 ≤ μ135.1 111 22 ∧ μ135.1 111 22 ≤ μ.1 111 22 + 2 * (μ182.1 111 9 - μ.1 111 9) + 8 * (nn μ182 - nn μ) - 9 + 1 * wr μ182 ∧ μ.1 111 9 + 1 ≤ μ182.1 111 9 ∧ nn μ + 0 ≤ nn μ182 ∧ nn μ182 ≤ nn μ + 0 + 9 * wr μ182 ∧ nn μ182 ≤ 8 + wr μ182 ∧ 9 * wr μ182 ≤ nn μ182 ∧ nn μ182 ≤ 9 ∧ wr μ ≤ wr μ182 ∧ wr μ182 ≤ 1 ∧ wr μ182 ≤ bd μ182 ∧ bd μ182 ≤ 1 ∧ μ.1 111 29 ≤ μ135.1 111 29 ∧ μ.1 111 31 ≤ μ.1 111 31 ∧ μ.1 111 31 ≤ 300 ∧ 0 ≤ μ.1 111 32 ∧ μ.1 111 32 ≤ μ182.1 111 9 ∧ μ182.1 111 9 ≤ 3000 := by (repeat' apply And.intro) <;> omega
      clear hv_163 hv_164 hv_165 hv_166 hv_167 hv_168 hv_169 hv_170 hv_171 hv_172 hv_173 hv_174 hv_175 hv_176 hv_177 hv_178 hv_179 hv_180 hw_181 hpl_190 hw_191 vl_192 vl_193 vl_194 vl_195
      refine lv_aload_n hx hb dX12_lets_82 rfl (lv_at hl 3 rfl) ?_
      refine lv_iconst (v := iv 4) hx hb dX12_lets_83 rfl ?_
      refine lv_iload hx hb dX12_lets_84 (lv_at hl 0 rfl) ?_
      refine xb_i2l hx hb (by unfold ir; exact ⟨by omega, by omega⟩) dX12_lets_86 ?_
      refine lv_iconst (v := iv 0) hx hb dX12_lets_87 rfl ?_
      have hq_216 : ∀ _ : Unit, q0m μ135 μ182 := fun _ => (q0m.fr (K := [111]) (FrM.tr FrM.rf F_183 (by decide)) (by decide) (by decide) (by decide) (hp_184 22 (by decide)) (nS.le (Int.le_of_eq (hp_184 29 (by decide)).symm) (Int.le_of_eq (hp_184 31 (by decide)).symm)))
      have hw_217 := wr_r (μ := μ182)
      have hht_218 : ∀ _ : Unit, bd μ182 = 0 → mHt μ182 1 := fun _ h0 => (hht_153 () (bd_z ((hp_188 ()).2) h0)).qm (hq_216 ())
      have e_219 : μ182.1 111 29 = μ135.1 111 29 := (hp_184 29 (by decide))
      have hxt_220 : mEXT μ μ182 := hxt_150.tr (q0m.fr (K := [111]) (FrM.tr FrM.rf F_183 (by decide)) (by decide) (by decide) (by decide) (hp_184 22 (by decide)) (nS.le (Int.le_of_eq (hp_184 29 (by decide)).symm) (Int.le_of_eq (hp_184 31 (by decide)).symm))).1
      have e_221 : μ182.1 111 22 = μ135.1 111 22 := (hp_184 22 (by decide))
      refine xc_iV G (b := 111) (rest := []) (As := [.int (iv 4), .long (jv r_80), .int (iv 0)]) (c_X12_emit ω l μ182 4 r_80 0 (by unfold ir; decide) (by unfold jr; omega) (by unfold ir; decide) (by (repeat' apply And.intro) <;> omega)) (wm 9 126 rfl rfl) (wm 9 128 rfl rfl) (wm 0 144 rfl rfl) rfl rfl (by decide) rfl (wm 1 18 rfl rfl) (wm 9 129 rfl rfl) (by decide) hR ⟨nfB hF (by decide), nlB hLo (by decide)⟩ (n := 3) rfl rfl (Nat.le_of_ble_eq_true rfl) hl.1 dX12_lets_88 (fun r_226 μ225 ρ d0 H locs hr_r_226 hp G => ?_)
      have hr_r_226 : -2147483648 ≤ r_226 ∧ r_226 ≤ 2147483647 := hr_r_226
      obtain ⟨F_227, hp_228, hp_229, hp_230, hp_231⟩ := hp
      have hxt_232 : mEXT μ μ225 := hxt_220.tr hp_229.1
      have hht_233 : ∀ _ : Unit, bd μ225 = 0 → mHt μ225 0 := fun _ h0 => (hht_218 () (bd_z (Int.le_of_eq (bd_cg (hp_228 15 (by decide)) (hp_228 16 (by decide)) (hp_228 17 (by decide))).symm) h0)).ad hp_229 rfl
      have vl_234 := hp_231
      replace hp_231 := fun _ : Unit => hp_231
      obtain ⟨hv_237, hv_238, hv_239, hv_240, hv_241, hv_242, hv_243, hv_244, hv_245, hv_246, hv_247, hv_248, hv_249, hv_250, hv_251, hv_252, hv_253, hv_254⟩ : μ.1 111 22 ≤ μ225.1 111 22 ∧ μ225.1 111 22 ≤ μ.1 111 22 + 2 * (μ182.1 111 9 - μ.1 111 9) + 8 * (nn μ182 - nn μ) - 8 + 1 * wr μ182 ∧ μ.1 111 9 + 1 ≤ μ182.1 111 9 ∧ nn μ + 0 ≤ nn μ182 ∧ nn μ182 ≤ nn μ + 0 + 9 * wr μ182 ∧ nn μ182 ≤ 8 + wr μ182 ∧ 9 * wr μ182 ≤ nn μ182 ∧ nn μ182 ≤ 9 ∧ wr μ ≤ wr μ182 ∧ wr μ182 ≤ 1 ∧ wr μ182 ≤ bd μ182 ∧ bd μ182 ≤ 1 ∧ μ.1 111 29 ≤ μ135.1 111 29 ∧ μ.1 111 31 ≤ μ.1 111 31 ∧ μ.1 111 31 ≤ 300 ∧ 0 ≤ μ.1 111 32 ∧ μ.1 111 32 ≤ μ182.1 111 9 ∧ μ182.1 111 9 ≤ 3000 := by (repeat' apply And.intro) <;> omega
      clear hv_198 hv_199 hv_200 hv_201 hv_202 hv_203 hv_204 hv_205 hv_206 hv_207 hv_208 hv_209 hv_210 hv_211 hv_212 hv_213 hv_214 hv_215 hw_217 e_219 e_221 vl_234
      refine lv_pop hx hb dX12_lets_91 rfl ?_
      have e_255 : μ225.1 111 9 = μ182.1 111 9 := (hp_228 9 (by decide))
      have e_256 : μ225.1 111 29 = μ135.1 111 29 := ((hp_228 29 (by decide)).trans (hp_184 29 (by decide)))
      have e_257 : μ225.1 111 39 = μ135.1 111 39 := ((hp_228 39 (by decide)).trans (hp_184 39 (by decide)))
      have e_258 : μ225.1 111 31 = μ.1 111 31 := ((hp_228 31 (by decide)).trans ((hp_184 31 (by decide)).trans ((hp_137 31 (by decide)).trans ((hp_86 31 (by decide)).trans ((hp_39 31 (by decide)).trans (hp_3 31 (by decide)))))))
      have e_259 : μ225.1 111 32 = μ.1 111 32 := ((hp_228 32 (by decide)).trans ((hp_184 32 (by decide)).trans ((hp_137 32 (by decide)).trans ((hp_86 32 (by decide)).trans ((hp_39 32 (by decide)).trans (hp_3 32 (by decide)))))))
      have e_260 : μ225.1 111 6 = μ182.1 111 6 := (hp_228 6 (by decide))
      have e_261 : wr μ225 = wr μ182 := (wr_cg (hp_228 15 (by decide)))
      have hw_262 := wr_r (μ := μ182)
      have e_263 : bd μ225 = bd μ182 := (bd_cg (hp_228 15 (by decide)) (hp_228 16 (by decide)) (hp_228 17 (by decide)))
      have e_264 : nn μ225 = nn μ182 := (nn_cg (hp_228 15 (by decide)) (hp_228 18 (by decide)))
      have hPM_265 : PM μ225 := hp_185.cg ((((hp_228 4 (by decide)).trans ((hp_184 4 (by decide)).trans ((hp_137 4 (by decide)).trans ((hp_86 4 (by decide)).trans ((hp_39 4 (by decide)).trans (hp_3 4 (by decide)))))))).trans (((hp_184 4 (by decide)).trans ((hp_137 4 (by decide)).trans ((hp_86 4 (by decide)).trans ((hp_39 4 (by decide)).trans (hp_3 4 (by decide))))))).symm) (hp_228 6 (by decide)) ((((hp_228 7 (by decide)).trans ((hp_184 7 (by decide)).trans ((hp_137 7 (by decide)).trans ((hp_86 7 (by decide)).trans ((hp_39 7 (by decide)).trans (hp_3 7 (by decide)))))))).trans (((hp_184 7 (by decide)).trans ((hp_137 7 (by decide)).trans ((hp_86 7 (by decide)).trans ((hp_39 7 (by decide)).trans (hp_3 7 (by decide))))))).symm) (hp_228 8 (by decide)) (hp_228 9 (by decide)) (hp_228 11 (by decide)) (hp_228 12 (by decide)) ((((hp_228 14 (by decide)).trans ((hp_184 14 (by decide)).trans ((hp_137 14 (by decide)).trans ((hp_86 14 (by decide)).trans ((hp_39 14 (by decide)).trans ((hp_3 14 (by decide)).trans htt.symm))))))).trans (((hp_184 14 (by decide)).trans ((hp_137 14 (by decide)).trans ((hp_86 14 (by decide)).trans ((hp_39 14 (by decide)).trans ((hp_3 14 (by decide)).trans htt.symm)))))).symm) (hp_228 15 (by decide)) ((((hp_228 29 (by decide)).trans (hp_184 29 (by decide)))).trans ((hp_184 29 (by decide))).symm) (fun j => (F_227.1 123 (by decide) j))
      exact xr_v G hret hlk dX12_lets_92 ⟨(FrM.tr (FrM.tr (FrM.tr (FrM.tr (FrM.tr (FrM.tr FrM.rf F_2 (by decide)) F_38 (by decide)) F_85 (by decide)) F_136 (by decide)) F_183 (by decide)) F_227 (by decide)), (fun j hj => ((hp_228 j (fun h9 => hj ((by decide : ∀ x ∈ ([22] : List Int), x ∈ ([6, 8, 9, 10, 11, 12, 13, 15, 16, 17, 18, 22, 29, 31, 32, 34, 35, 36, 37, 39] : List Int)) j h9))).trans ((hp_184 j (fun h9 => hj ((by decide : ∀ x ∈ ([6, 8, 9, 10, 11, 12, 13, 15] : List Int), x ∈ ([6, 8, 9, 10, 11, 12, 13, 15, 16, 17, 18, 22, 29, 31, 32, 34, 35, 36, 37, 39] : List Int)) j h9))).trans ((hp_137 j (fun h9 => hj ((by decide : ∀ x ∈ ([6, 8, 9, 10, 11, 12, 13, 15, 16, 17, 18, 22, 29, 39] : List Int), x ∈ ([6, 8, 9, 10, 11, 12, 13, 15, 16, 17, 18, 22, 29, 31, 32, 34, 35, 36, 37, 39] : List Int)) j h9))).trans ((hp_86 j (fun h9 => hj ((by decide : ∀ x ∈ ([6, 8, 9, 10, 11, 12, 13, 15] : List Int), x ∈ ([6, 8, 9, 10, 11, 12, 13, 15, 16, 17, 18, 22, 29, 31, 32, 34, 35, 36, 37, 39] : List Int)) j h9))).trans ((hp_39 j (fun h9 => hj ((by decide : ∀ x ∈ ([6, 8, 9, 10, 11, 12, 13, 15] : List Int), x ∈ ([6, 8, 9, 10, 11, 12, 13, 15, 16, 17, 18, 22, 29, 31, 32, 34, 35, 36, 37, 39] : List Int)) j h9))).trans (hp_3 j (fun h9 => hj ((by decide : ∀ x ∈ ([6, 8, 9, 10, 11, 12, 13, 15] : List Int), x ∈ ([6, 8, 9, 10, 11, 12, 13, 15, 16, 17, 18, 22, 29, 31, 32, 34, 35, 36, 37, 39] : List Int)) j h9))))))))), hPM_265, (by (repeat' apply And.intro) <;> omega), (by (repeat' apply And.intro) <;> omega), (by (repeat' apply And.intro) <;> omega), ⟨by omega, (Int.le_trans (Int.le_trans (Int.le_trans (Int.le_trans (Int.le_trans ((hp_6 ()).2) ((hp_43 ()).2)) ((hp_90 ()).2)) ((hp_142 ()).2)) ((hp_188 ()).2)) (Int.le_of_eq (bd_cg (hp_228 15 (by decide)) (hp_228 16 (by decide)) (hp_228 17 (by decide))).symm))⟩, (by (repeat' apply And.intro) <;> omega), (by (repeat' apply And.intro) <;> omega), (fun j hj => ((F_227.1 126 (by decide) j).trans ((F_183.1 126 (by decide) j).trans ((hwk_151 j (by omega)).trans ((F_85.1 126 (by decide) j).trans ((F_38.1 126 (by decide) j).trans (F_2.1 126 (by decide) j))))))), (by (repeat' apply And.intro) <;> omega), (by (repeat' apply And.intro) <;> omega), (fun _ h0 => mEY.ql (hq_118 ()) (as_one (M := (2 * (9 - nn μ))) ((hS1 () (bd_z (Int.le_trans (Int.le_trans (Int.le_trans (Int.le_trans (Int.le_trans ((hp_6 ()).2) ((hp_43 ()).2)) ((hp_90 ()).2)) ((hp_142 ()).2)) ((hp_188 ()).2)) (Int.le_of_eq (bd_cg (hp_228 15 (by decide)) (hp_228 16 (by decide)) (hp_228 17 (by decide))).symm)) h0)).qm (hq_118 ())).s ((hex_152 () (bd_z (Int.le_trans ((hp_188 ()).2) (Int.le_of_eq (bd_cg (hp_228 15 (by decide)) (hp_228 16 (by decide)) (hp_228 17 (by decide))).symm)) h0)).qm (hq_216 ())) (by omega) (by omega) hp_229 (by unfold mpl; omega) rfl rfl (fun h1 => ⟨fun q => absurd q (by decide), ⟨fun _ => by omega, fun q => absurd q (by decide)⟩, fun _ => by omega, fun q => absurd q (by decide), fun q => absurd q (by decide), fun q => absurd q (by decide), fun q => absurd q (by decide), fun q => absurd q (by decide), fun q => absurd q (by decide), fun q => absurd q (by decide), fun q => absurd q (by decide), fun q => absurd q (by decide), fun q => absurd q (by decide), fun q => absurd q (by decide), fun q => absurd q (by decide), fun q => absurd q (by decide), fun q => absurd q (by decide), fun q => absurd q (by decide), fun q => absurd q (by decide), fun q => absurd q (by decide), fun q => absurd q (by decide), ⟨fun q => absurd q (by decide), fun q => absurd q (by decide), fun q => absurd q (by decide)⟩, ⟨by decide, by decide⟩⟩))), hxt_232⟩
    · refine lv_aload_n hx hb dX12_lets_35 rfl (lv_at hl 3 rfl) ?_
      refine xa_geti G fd_X12 (a := 111) (x := μ.1 111 32) 32 rfl (by decide) rfl (wm 7 181 rfl rfl) ⟨rfl, rfl, rfl⟩ dX12_lets_36 rfl ((hp_39 32 (by decide)).trans (hp_3 32 (by decide))) ?_
      have hr_279 : -2147483648 ≤ μ.1 111 32 ∧ μ.1 111 32 ≤ 2147483647 := by have h9 := G.hr (a := 111) (k := 32) rfl; rw [show μ36.1 111 32 = μ.1 111 32 from ((hp_39 32 (by decide)).trans (hp_3 32 (by decide)))] at h9; exact h9
      refine lv_bipush (v := iv 12) hx hb dX12_lets_39 rfl ?_
      refine xb_icmp_ne (tgt := 49) hx hb (by unfold ir; exact ⟨by omega, by omega⟩) (by unfold ir; exact ⟨by omega, by omega⟩) dX12_lets_41 (by decide) (fun c_41 => ?_) (fun c_41 => ?_)
      · replace c_41 := fun _ : Unit => c_41
        refine lv_aload_n hx hb dX12_lets_49 rfl (lv_at hl 3 rfl) ?_
        refine lv_dup hx hb dX12_lets_50 rfl ?_
        refine xa_geti G fd_X12 (a := 111) (x := μ.1 111 32) 32 rfl (by decide) rfl (wm 7 181 rfl rfl) ⟨rfl, rfl, rfl⟩ dX12_lets_51 rfl ((hp_39 32 (by decide)).trans (hp_3 32 (by decide))) ?_
        refine lv_iconst (v := iv 1) hx hb dX12_lets_54 rfl ?_
        refine xb_iadd hx hb dX12_lets_55 ?_
        refine xa_puti G fd_X12 (a := 111) (x := (μ.1 111 32) + 1) 32 (kz := 32) rfl rfl (by decide) rfl (by unfold ir; exact ⟨by omega, by omega⟩) (wm 7 181 rfl rfl) ⟨rfl, rfl, rfl, rfl⟩ rfl dX12_lets_56 rfl (fun H locs G => ?_)
        refine lv_aload_n hx hb dX12_lets_59 rfl (lv_at hl 3 rfl) ?_
        refine lv_lload_n hx hb dX12_lets_60 rfl (lv_at hl 1 rfl) ?_
        have e_280 : (sv μ36 111 32 ((μ.1 111 32) + 1)).1 111 31 = μ.1 111 31 := ((sv_n _ (by decide)).trans ((hp_39 31 (by decide)).trans (hp_3 31 (by decide))))
        refine xc_iV G (b := 111) (rest := []) (As := [.long (jv r_37)]) (c_X12_anySlot ω l (sv μ36 111 32 ((μ.1 111 32) + 1)) r_37 hr_r_37 (by (repeat' apply And.intro) <;> omega)) (wm 9 135 rfl rfl) (wm 9 137 rfl rfl) (wm 0 146 rfl rfl) rfl rfl (by decide) rfl (wm 1 18 rfl rfl) (wm 9 138 rfl rfl) (by decide) hR ⟨nfB hF (by decide), nlB hLo (by decide)⟩ (n := 1) rfl rfl (Nat.le_of_ble_eq_true rfl) hl.1 dX12_lets_61 (fun r_284 μ283 ρ d0 H locs hr_r_284 hp G => ?_)
        have hr_r_284 : -2147483648 ≤ r_284 ∧ r_284 ≤ 2147483647 := hr_r_284
        obtain ⟨F_285, hp_286, hp_287, hp_288⟩ := hp
        have vl_289 := hp_288
        replace hp_288 := fun _ : Unit => hp_288
        obtain ⟨hv_292, hv_293, hv_294, hv_295, hv_296, hv_297, hv_298, hv_299, hv_300, hv_301, hv_302, hv_303, hv_304, hv_305, hv_306, hv_307, hv_308, hv_309⟩ : μ.1 111 22 ≤ μ.1 111 22 ∧ μ.1 111 22 ≤ μ.1 111 22 + 2 * (μ36.1 111 9 - μ.1 111 9) + 8 * (nn μ36 - nn μ) - 4 + -4 * wr μ36 ∧ μ.1 111 9 + 1 ≤ μ36.1 111 9 ∧ nn μ + 0 ≤ nn μ36 ∧ nn μ36 ≤ nn μ + 0 + 9 * wr μ36 ∧ nn μ36 ≤ 8 + wr μ36 ∧ 9 * wr μ36 ≤ nn μ36 ∧ nn μ36 ≤ 9 ∧ wr μ ≤ wr μ36 ∧ wr μ36 ≤ 1 ∧ wr μ36 ≤ bd μ36 ∧ bd μ36 ≤ 1 ∧ μ.1 111 29 ≤ μ.1 111 29 ∧ μ.1 111 31 ≤ μ283.1 111 31 ∧ μ283.1 111 31 ≤ 300 ∧ 0 ≤ ((μ.1 111 32) + 1) ∧ ((μ.1 111 32) + 1) ≤ μ36.1 111 9 ∧ μ36.1 111 9 ≤ 3000 := by (repeat' apply And.intro) <;> omega
        clear hv_53 hv_54 hv_55 hv_56 hv_57 hv_58 hv_59 hv_60 hv_61 hv_62 hv_63 hv_64 hv_65 hv_66 hv_67 hv_68 hv_69 hv_70 hw_71 e_76 e_280 vl_289
        refine lv_istore (lv' := [(4, .int (iv r_284)), (2, .long (jv r_37)), (1, .int (iv (μ1.1 111 9))), (0, .ref (oP ω 111))]) hx hb dX12_lets_64 hl (by decide) rfl (fun ls hl => ?_)
        refine lv_aload_n hx hb dX12_lets_66 rfl (lv_at hl 3 rfl) ?_
        refine lv_bipush (v := iv 61) hx hb dX12_lets_67 rfl ?_
        have hPM_310 : PM μ283 := hp_40.cg ((((hp_286 4 (by decide)).trans ((sv_n _ (by decide)).trans ((hp_39 4 (by decide)).trans (hp_3 4 (by decide)))))).trans (((hp_39 4 (by decide)).trans (hp_3 4 (by decide)))).symm) ((hp_286 6 (by decide)).trans (sv_n _ (by decide))) ((((hp_286 7 (by decide)).trans ((sv_n _ (by decide)).trans ((hp_39 7 (by decide)).trans (hp_3 7 (by decide)))))).trans (((hp_39 7 (by decide)).trans (hp_3 7 (by decide)))).symm) ((hp_286 8 (by decide)).trans (sv_n _ (by decide))) ((hp_286 9 (by decide)).trans (sv_n _ (by decide))) ((hp_286 11 (by decide)).trans (sv_n _ (by decide))) ((hp_286 12 (by decide)).trans (sv_n _ (by decide))) ((((hp_286 14 (by decide)).trans ((sv_n _ (by decide)).trans ((hp_39 14 (by decide)).trans ((hp_3 14 (by decide)).trans htt.symm))))).trans (((hp_39 14 (by decide)).trans ((hp_3 14 (by decide)).trans htt.symm))).symm) ((hp_286 15 (by decide)).trans (sv_n _ (by decide))) ((((hp_286 29 (by decide)).trans ((sv_n _ (by decide)).trans ((hp_39 29 (by decide)).trans (hp_3 29 (by decide)))))).trans (((hp_39 29 (by decide)).trans (hp_3 29 (by decide)))).symm) (fun j => ((F_285.1 123 (by decide) j).trans (sv_n _ (by omega))))
        have e_311 : wr μ283 = wr μ36 := ((wr_cg (hp_286 15 (by decide))).trans (wr_cg (sv_n _ (by decide))))
        have hw_312 := wr_r (μ := μ36)
        have e_313 : nn μ283 = nn μ36 := ((nn_cg (hp_286 15 (by decide)) (hp_286 18 (by decide))).trans (nn_cg (sv_n _ (by decide)) (sv_n _ (by decide))))
        have e_314 : μ283.1 111 9 = μ36.1 111 9 := ((hp_286 9 (by decide)).trans (sv_n _ (by decide)))
        have e_317 : bd μ283 = bd μ36 := ((bd_cg (hp_286 15 (by decide)) (hp_286 16 (by decide)) (hp_286 17 (by decide))).trans (bd_cg (sv_n _ (by decide)) (sv_n _ (by decide)) (sv_n _ (by decide))))
        refine xc_vV G (b := 111) (rest := []) (As := [.int (iv 61)]) (c_X12_wantsSign ω l μ283 61 (by unfold ir; decide) hPM_310 (by (repeat' apply And.intro) <;> omega)) (wm 9 114 rfl rfl) (wm 9 116 rfl rfl) (wm 0 141 rfl rfl) rfl rfl (by decide) rfl (wm 1 18 rfl rfl) (wm 9 117 rfl rfl) (by decide) hR ⟨nfB hF (by decide), nlB hLo (by decide)⟩ (n := 1) rfl rfl (Nat.le_of_ble_eq_true rfl) hl.1 dX12_lets_69 (fun μ319 ρ d0 H locs hp G => ?_)
        obtain ⟨F_320, hp_321, hp_322, hp_323, hp_324, hp_325, hp_326⟩ := hp
        have hpl_327 := hp_322.pl
        have hw_328 := wr_r (μ := μ319)
        have hw_329 := wr_r (μ := μ283)
        have vl_330 := hp_323
        replace hp_323 := fun _ : Unit => hp_323
        have vl_331 := hp_324
        replace hp_324 := fun _ : Unit => hp_324
        have vl_332 := hp_325
        replace hp_325 := fun _ : Unit => hp_325
        have vl_333 := hp_326
        replace hp_326 := fun _ : Unit => hp_326
        obtain ⟨hv_336, hv_337, hv_338, hv_339, hv_340, hv_341, hv_342, hv_343, hv_344, hv_345, hv_346, hv_347, hv_348, hv_349, hv_350, hv_351, hv_352, hv_353⟩ : μ.1 111 22 ≤ μ.1 111 22 ∧ μ.1 111 22 ≤ μ.1 111 22 + 2 * (μ319.1 111 9 - μ.1 111 9) + 8 * (nn μ319 - nn μ) - 6 + -2 * wr μ319 ∧ μ.1 111 9 + 1 ≤ μ319.1 111 9 ∧ nn μ + 0 ≤ nn μ319 ∧ nn μ319 ≤ nn μ + 0 + 9 * wr μ319 ∧ nn μ319 ≤ 8 + wr μ319 ∧ 9 * wr μ319 ≤ nn μ319 ∧ nn μ319 ≤ 9 ∧ wr μ ≤ wr μ319 ∧ wr μ319 ≤ 1 ∧ wr μ319 ≤ bd μ319 ∧ bd μ319 ≤ 1 ∧ μ.1 111 29 ≤ μ.1 111 29 ∧ μ.1 111 31 ≤ μ283.1 111 31 ∧ μ283.1 111 31 ≤ 300 ∧ 0 ≤ ((μ.1 111 32) + 1) ∧ ((μ.1 111 32) + 1) ≤ μ319.1 111 9 ∧ μ319.1 111 9 ≤ 3000 := by (repeat' apply And.intro) <;> omega
        clear hv_292 hv_293 hv_294 hv_295 hv_296 hv_297 hv_298 hv_299 hv_300 hv_301 hv_302 hv_303 hv_304 hv_305 hv_306 hv_307 hv_308 hv_309 e_311 hw_312 e_313 e_314 e_317 hpl_327 hw_328 hw_329 vl_330 vl_331 vl_332 vl_333
        refine lv_aload_n hx hb dX12_lets_72 rfl (lv_at hl 3 rfl) ?_
        have hq_354 : ∀ _ : Unit, q0m μ μ319 := fun _ => (q0m.fr (K := [111, 124]) (FrM.tr (FrM.tr (FrM.put (FrM.tr (FrM.tr FrM.rf F_2 (by decide)) F_38 (by decide)) (by decide)) F_285 (by decide)) F_320 (by decide)) (by decide) (by decide) (by decide) ((hp_321 22 (by decide)).trans ((hp_286 22 (by decide)).trans ((sv_n _ (by decide)).trans ((hp_39 22 (by decide)).trans (hp_3 22 (by decide)))))) (nS.le (Int.le_trans (Int.le_trans (Int.le_trans (Int.le_trans (Int.le_of_eq (hp_3 29 (by decide)).symm) (Int.le_of_eq (hp_39 29 (by decide)).symm)) (Int.le_of_eq (sv_n _ (by decide)).symm)) (Int.le_of_eq (hp_286 29 (by decide)).symm)) (Int.le_of_eq (hp_321 29 (by decide)).symm)) (Int.le_trans (Int.le_trans (Int.le_trans (Int.le_trans (Int.le_of_eq (hp_3 31 (by decide)).symm) (Int.le_of_eq (hp_39 31 (by decide)).symm)) (Int.le_of_eq (sv_n _ (by decide)).symm)) ((hp_288 ()).1)) (Int.le_of_eq (hp_321 31 (by decide)).symm))))
        have hw_355 := wr_r (μ := μ319)
        have hht_356 : ∀ _ : Unit, bd μ319 = 0 → mHt μ319 0 := fun _ h0 => (hht_0 () (bd_z (Int.le_trans (Int.le_trans (Int.le_trans (Int.le_trans ((hp_6 ()).2) ((hp_43 ()).2)) (Int.le_of_eq (bd_cg (sv_n _ (by decide)) (sv_n _ (by decide)) (sv_n _ (by decide))).symm)) (Int.le_of_eq (bd_cg (hp_286 15 (by decide)) (hp_286 16 (by decide)) (hp_286 17 (by decide))).symm)) ((hp_325 ()).2)) h0)).qm (hq_354 ())
        have e_357 : μ319.1 111 29 = μ.1 111 29 := ((hp_321 29 (by decide)).trans ((hp_286 29 (by decide)).trans ((sv_n _ (by decide)).trans ((hp_39 29 (by decide)).trans (hp_3 29 (by decide))))))
        have hxt_358 : mEXT μ μ319 := (q0m.fr (K := [111, 124]) (FrM.tr (FrM.tr (FrM.put (FrM.tr (FrM.tr FrM.rf F_2 (by decide)) F_38 (by decide)) (by decide)) F_285 (by decide)) F_320 (by decide)) (by decide) (by decide) (by decide) ((hp_321 22 (by decide)).trans ((hp_286 22 (by decide)).trans ((sv_n _ (by decide)).trans ((hp_39 22 (by decide)).trans (hp_3 22 (by decide)))))) (nS.le (Int.le_trans (Int.le_trans (Int.le_trans (Int.le_trans (Int.le_of_eq (hp_3 29 (by decide)).symm) (Int.le_of_eq (hp_39 29 (by decide)).symm)) (Int.le_of_eq (sv_n _ (by decide)).symm)) (Int.le_of_eq (hp_286 29 (by decide)).symm)) (Int.le_of_eq (hp_321 29 (by decide)).symm)) (Int.le_trans (Int.le_trans (Int.le_trans (Int.le_trans (Int.le_of_eq (hp_3 31 (by decide)).symm) (Int.le_of_eq (hp_39 31 (by decide)).symm)) (Int.le_of_eq (sv_n _ (by decide)).symm)) ((hp_288 ()).1)) (Int.le_of_eq (hp_321 31 (by decide)).symm)))).1
        have e_359 : μ319.1 111 14 = tt := ((hp_321 14 (by decide)).trans ((hp_286 14 (by decide)).trans ((sv_n _ (by decide)).trans ((hp_39 14 (by decide)).trans ((hp_3 14 (by decide)).trans htt.symm)))))
        have e_360 : μ319.1 111 22 = μ.1 111 22 := ((hp_321 22 (by decide)).trans ((hp_286 22 (by decide)).trans ((sv_n _ (by decide)).trans ((hp_39 22 (by decide)).trans (hp_3 22 (by decide))))))
        have e_362 : μ319.1 111 39 = μ.1 111 39 := ((hp_321 39 (by decide)).trans ((hp_286 39 (by decide)).trans ((sv_n _ (by decide)).trans ((hp_39 39 (by decide)).trans (hp_3 39 (by decide))))))
        have e_365 : μ319.1 111 31 = μ283.1 111 31 := (hp_321 31 (by decide))
        refine xc_vV G (b := 111) (rest := []) (As := []) (c_X12_expr_a ω l μ319 tt (by (repeat' apply And.intro) <;> omega) hp_322 (by (repeat' apply And.intro) <;> omega) (by (repeat' apply And.intro) <;> omega) (by (repeat' apply And.intro) <;> omega) (by (repeat' apply And.intro) <;> omega) (by (repeat' apply And.intro) <;> omega) (fun _ h0 => (hht_356 () h0).p (by decide))) (wm 9 139 rfl rfl) (wm 9 141 rfl rfl) (wm 0 147 rfl rfl) rfl rfl (by decide) rfl (wm 1 18 rfl rfl) (wm 9 142 rfl rfl) (by decide) hR ⟨nfB hF (by decide), nlB hLo (by decide)⟩ (n := 0) rfl rfl (Nat.le_of_ble_eq_true rfl) hl.1 dX12_lets_73 (fun μ371 ρ d0 H locs hp G => ?_)
        obtain ⟨F_372, hp_373, hp_374, hp_375, hp_376, hp_377, hp_378, hp_379, hp_380, hp_381, hp_382, hp_383⟩ := hp
        have hpl_384 := hp_374.pl
        have hw_385 := wr_r (μ := μ371)
        have hxt_386 : mEXT μ μ371 := hxt_358.tr hp_383
        have hwk_387 : ∀ j, j < μ.1 111 39 → μ371.1 126 j = μ319.1 126 j := fun j hj => hp_381 j (by omega)
        have hex_388 : ∀ _ : Unit, bd μ371 = 0 → mEX μ319 μ371 tt 1 0 99 := fun _ h0 => (hp_382 () h0).mn (Int.le_refl _) (by omega)
        have hht_389 : ∀ _ : Unit, bd μ371 = 0 → mHt μ371 1 := fun _ h0 => (hht_356 () (bd_z (hp_378.2) h0)).ex (hex_388 () h0) rfl
        have vl_390 := hp_375
        replace hp_375 := fun _ : Unit => hp_375
        have vl_391 := hp_376
        replace hp_376 := fun _ : Unit => hp_376
        have vl_392 := hp_377
        replace hp_377 := fun _ : Unit => hp_377
        have vl_393 := hp_378
        replace hp_378 := fun _ : Unit => hp_378
        have vl_394 := hp_379
        replace hp_379 := fun _ : Unit => hp_379
        have vl_395 := hp_380
        replace hp_380 := fun _ : Unit => hp_380
        have h39_396 : μ371.1 111 39 = μ.1 111 39 := by omega
        obtain ⟨hv_399, hv_400, hv_401, hv_402, hv_403, hv_404, hv_405, hv_406, hv_407, hv_408, hv_409, hv_410, hv_411, hv_412, hv_413, hv_414, hv_415, hv_416⟩ : μ.1 111 22 ≤ μ371.1 111 22 ∧ μ371.1 111 22 ≤ μ.1 111 22 + 2 * (μ371.1 111 9 - μ.1 111 9) + 8 * (nn μ371 - nn μ) - 7 + -1 * wr μ371 ∧ μ.1 111 9 + 1 ≤ μ371.1 111 9 ∧ nn μ + 0 ≤ nn μ371 ∧ nn μ371 ≤ nn μ + 0 + 9 * wr μ371 ∧ nn μ371 ≤ 8 + wr μ371 ∧ 9 * wr μ371 ≤ nn μ371 ∧ nn μ371 ≤ 9 ∧ wr μ ≤ wr μ371 ∧ wr μ371 ≤ 1 ∧ wr μ371 ≤ bd μ371 ∧ bd μ371 ≤ 1 ∧ μ.1 111 29 ≤ μ371.1 111 29 ∧ μ.1 111 31 ≤ μ283.1 111 31 ∧ μ283.1 111 31 ≤ 300 ∧ 0 ≤ ((μ.1 111 32) + 1) ∧ ((μ.1 111 32) + 1) ≤ μ371.1 111 9 ∧ μ371.1 111 9 ≤ 3000 := by (repeat' apply And.intro) <;> omega
        clear hv_336 hv_337 hv_338 hv_339 hv_340 hv_341 hv_342 hv_343 hv_344 hv_345 hv_346 hv_347 hv_348 hv_349 hv_350 hv_351 hv_352 hv_353 hw_355 e_357 e_359 e_360 e_362 e_365 hpl_384 hw_385 vl_390 vl_391 vl_392 vl_393 vl_394 vl_395
        refine lv_aload_n hx hb dX12_lets_76 rfl (lv_at hl 3 rfl) ?_
        refine lv_bipush (v := iv 59) hx hb dX12_lets_77 rfl ?_
        have hw_417 := wr_r (μ := μ371)
        refine xc_vV G (b := 111) (rest := []) (As := [.int (iv 59)]) (c_X12_wantsSign ω l μ371 59 (by unfold ir; decide) hp_374 (by (repeat' apply And.intro) <;> omega)) (wm 9 114 rfl rfl) (wm 9 116 rfl rfl) (wm 0 141 rfl rfl) rfl rfl (by decide) rfl (wm 1 18 rfl rfl) (wm 9 117 rfl rfl) (by decide) hR ⟨nfB hF (by decide), nlB hLo (by decide)⟩ (n := 1) rfl rfl (Nat.le_of_ble_eq_true rfl) hl.1 dX12_lets_79 (fun μ418 ρ d0 H locs hp G => ?_)
        obtain ⟨F_419, hp_420, hp_421, hp_422, hp_423, hp_424, hp_425⟩ := hp
        have hpl_426 := hp_421.pl
        have hw_427 := wr_r (μ := μ418)
        have vl_428 := hp_422
        replace hp_422 := fun _ : Unit => hp_422
        have vl_429 := hp_423
        replace hp_423 := fun _ : Unit => hp_423
        have vl_430 := hp_424
        replace hp_424 := fun _ : Unit => hp_424
        have vl_431 := hp_425
        replace hp_425 := fun _ : Unit => hp_425
        obtain ⟨hv_434, hv_435, hv_436, hv_437, hv_438, hv_439, hv_440, hv_441, hv_442, hv_443, hv_444, hv_445, hv_446, hv_447, hv_448, hv_449, hv_450, hv_451⟩ : μ.1 111 22 ≤ μ371.1 111 22 ∧ μ371.1 111 22 ≤ μ.1 111 22 + 2 * (μ418.1 111 9 - μ.1 111 9) + 8 * (nn μ418 - nn μ) - 9 + 1 * wr μ418 ∧ μ.1 111 9 + 1 ≤ μ418.1 111 9 ∧ nn μ + 0 ≤ nn μ418 ∧ nn μ418 ≤ nn μ + 0 + 9 * wr μ418 ∧ nn μ418 ≤ 8 + wr μ418 ∧ 9 * wr μ418 ≤ nn μ418 ∧ nn μ418 ≤ 9 ∧ wr μ ≤ wr μ418 ∧ wr μ418 ≤ 1 ∧ wr μ418 ≤ bd μ418 ∧ bd μ418 ≤ 1 ∧ μ.1 111 29 ≤ μ371.1 111 29 ∧ μ.1 111 31 ≤ μ283.1 111 31 ∧ μ283.1 111 31 ≤ 300 ∧ 0 ≤ ((μ.1 111 32) + 1) ∧ ((μ.1 111 32) + 1) ≤ μ418.1 111 9 ∧ μ418.1 111 9 ≤ 3000 := by (repeat' apply And.intro) <;> omega
        clear hv_399 hv_400 hv_401 hv_402 hv_403 hv_404 hv_405 hv_406 hv_407 hv_408 hv_409 hv_410 hv_411 hv_412 hv_413 hv_414 hv_415 hv_416 hw_417 hpl_426 hw_427 vl_428 vl_429 vl_430 vl_431
        refine lv_aload_n hx hb dX12_lets_82 rfl (lv_at hl 3 rfl) ?_
        refine lv_iconst (v := iv 4) hx hb dX12_lets_83 rfl ?_
        refine lv_iload hx hb dX12_lets_84 (lv_at hl 0 rfl) ?_
        refine xb_i2l hx hb (by unfold ir; exact ⟨by omega, by omega⟩) dX12_lets_86 ?_
        refine lv_iconst (v := iv 0) hx hb dX12_lets_87 rfl ?_
        have hq_452 : ∀ _ : Unit, q0m μ371 μ418 := fun _ => (q0m.fr (K := [111]) (FrM.tr FrM.rf F_419 (by decide)) (by decide) (by decide) (by decide) (hp_420 22 (by decide)) (nS.le (Int.le_of_eq (hp_420 29 (by decide)).symm) (Int.le_of_eq (hp_420 31 (by decide)).symm)))
        have hw_453 := wr_r (μ := μ418)
        have hht_454 : ∀ _ : Unit, bd μ418 = 0 → mHt μ418 1 := fun _ h0 => (hht_389 () (bd_z ((hp_424 ()).2) h0)).qm (hq_452 ())
        have e_455 : μ418.1 111 29 = μ371.1 111 29 := (hp_420 29 (by decide))
        have hxt_456 : mEXT μ μ418 := hxt_386.tr (q0m.fr (K := [111]) (FrM.tr FrM.rf F_419 (by decide)) (by decide) (by decide) (by decide) (hp_420 22 (by decide)) (nS.le (Int.le_of_eq (hp_420 29 (by decide)).symm) (Int.le_of_eq (hp_420 31 (by decide)).symm))).1
        have e_457 : μ418.1 111 22 = μ371.1 111 22 := (hp_420 22 (by decide))
        refine xc_iV G (b := 111) (rest := []) (As := [.int (iv 4), .long (jv r_284), .int (iv 0)]) (c_X12_emit ω l μ418 4 r_284 0 (by unfold ir; decide) (by unfold jr; omega) (by unfold ir; decide) (by (repeat' apply And.intro) <;> omega)) (wm 9 126 rfl rfl) (wm 9 128 rfl rfl) (wm 0 144 rfl rfl) rfl rfl (by decide) rfl (wm 1 18 rfl rfl) (wm 9 129 rfl rfl) (by decide) hR ⟨nfB hF (by decide), nlB hLo (by decide)⟩ (n := 3) rfl rfl (Nat.le_of_ble_eq_true rfl) hl.1 dX12_lets_88 (fun r_462 μ461 ρ d0 H locs hr_r_462 hp G => ?_)
        have hr_r_462 : -2147483648 ≤ r_462 ∧ r_462 ≤ 2147483647 := hr_r_462
        obtain ⟨F_463, hp_464, hp_465, hp_466, hp_467⟩ := hp
        have hxt_468 : mEXT μ μ461 := hxt_456.tr hp_465.1
        have hht_469 : ∀ _ : Unit, bd μ461 = 0 → mHt μ461 0 := fun _ h0 => (hht_454 () (bd_z (Int.le_of_eq (bd_cg (hp_464 15 (by decide)) (hp_464 16 (by decide)) (hp_464 17 (by decide))).symm) h0)).ad hp_465 rfl
        have vl_470 := hp_467
        replace hp_467 := fun _ : Unit => hp_467
        obtain ⟨hv_473, hv_474, hv_475, hv_476, hv_477, hv_478, hv_479, hv_480, hv_481, hv_482, hv_483, hv_484, hv_485, hv_486, hv_487, hv_488, hv_489, hv_490⟩ : μ.1 111 22 ≤ μ461.1 111 22 ∧ μ461.1 111 22 ≤ μ.1 111 22 + 2 * (μ418.1 111 9 - μ.1 111 9) + 8 * (nn μ418 - nn μ) - 8 + 1 * wr μ418 ∧ μ.1 111 9 + 1 ≤ μ418.1 111 9 ∧ nn μ + 0 ≤ nn μ418 ∧ nn μ418 ≤ nn μ + 0 + 9 * wr μ418 ∧ nn μ418 ≤ 8 + wr μ418 ∧ 9 * wr μ418 ≤ nn μ418 ∧ nn μ418 ≤ 9 ∧ wr μ ≤ wr μ418 ∧ wr μ418 ≤ 1 ∧ wr μ418 ≤ bd μ418 ∧ bd μ418 ≤ 1 ∧ μ.1 111 29 ≤ μ371.1 111 29 ∧ μ.1 111 31 ≤ μ283.1 111 31 ∧ μ283.1 111 31 ≤ 300 ∧ 0 ≤ ((μ.1 111 32) + 1) ∧ ((μ.1 111 32) + 1) ≤ μ418.1 111 9 ∧ μ418.1 111 9 ≤ 3000 := by (repeat' apply And.intro) <;> omega
        clear hv_434 hv_435 hv_436 hv_437 hv_438 hv_439 hv_440 hv_441 hv_442 hv_443 hv_444 hv_445 hv_446 hv_447 hv_448 hv_449 hv_450 hv_451 hw_453 e_455 e_457 vl_470
        refine lv_pop hx hb dX12_lets_91 rfl ?_
        have e_491 : μ461.1 111 9 = μ418.1 111 9 := (hp_464 9 (by decide))
        have e_492 : μ461.1 111 29 = μ371.1 111 29 := ((hp_464 29 (by decide)).trans (hp_420 29 (by decide)))
        have e_493 : μ461.1 111 39 = μ371.1 111 39 := ((hp_464 39 (by decide)).trans (hp_420 39 (by decide)))
        have e_494 : μ461.1 111 31 = μ283.1 111 31 := ((hp_464 31 (by decide)).trans ((hp_420 31 (by decide)).trans ((hp_373 31 (by decide)).trans (hp_321 31 (by decide)))))
        have e_495 : μ461.1 111 32 = (μ.1 111 32) + 1 := ((hp_464 32 (by decide)).trans ((hp_420 32 (by decide)).trans ((hp_373 32 (by decide)).trans ((hp_321 32 (by decide)).trans ((hp_286 32 (by decide)).trans (sv_s _ _ _ _))))))
        have e_496 : μ461.1 111 6 = μ418.1 111 6 := (hp_464 6 (by decide))
        have e_497 : wr μ461 = wr μ418 := (wr_cg (hp_464 15 (by decide)))
        have hw_498 := wr_r (μ := μ418)
        have e_499 : bd μ461 = bd μ418 := (bd_cg (hp_464 15 (by decide)) (hp_464 16 (by decide)) (hp_464 17 (by decide)))
        have e_500 : nn μ461 = nn μ418 := (nn_cg (hp_464 15 (by decide)) (hp_464 18 (by decide)))
        have hPM_501 : PM μ461 := hp_421.cg ((((hp_464 4 (by decide)).trans ((hp_420 4 (by decide)).trans ((hp_373 4 (by decide)).trans ((hp_321 4 (by decide)).trans ((hp_286 4 (by decide)).trans ((sv_n _ (by decide)).trans ((hp_39 4 (by decide)).trans (hp_3 4 (by decide)))))))))).trans (((hp_420 4 (by decide)).trans ((hp_373 4 (by decide)).trans ((hp_321 4 (by decide)).trans ((hp_286 4 (by decide)).trans ((sv_n _ (by decide)).trans ((hp_39 4 (by decide)).trans (hp_3 4 (by decide))))))))).symm) (hp_464 6 (by decide)) ((((hp_464 7 (by decide)).trans ((hp_420 7 (by decide)).trans ((hp_373 7 (by decide)).trans ((hp_321 7 (by decide)).trans ((hp_286 7 (by decide)).trans ((sv_n _ (by decide)).trans ((hp_39 7 (by decide)).trans (hp_3 7 (by decide)))))))))).trans (((hp_420 7 (by decide)).trans ((hp_373 7 (by decide)).trans ((hp_321 7 (by decide)).trans ((hp_286 7 (by decide)).trans ((sv_n _ (by decide)).trans ((hp_39 7 (by decide)).trans (hp_3 7 (by decide))))))))).symm) (hp_464 8 (by decide)) (hp_464 9 (by decide)) (hp_464 11 (by decide)) (hp_464 12 (by decide)) ((((hp_464 14 (by decide)).trans ((hp_420 14 (by decide)).trans ((hp_373 14 (by decide)).trans ((hp_321 14 (by decide)).trans ((hp_286 14 (by decide)).trans ((sv_n _ (by decide)).trans ((hp_39 14 (by decide)).trans ((hp_3 14 (by decide)).trans htt.symm))))))))).trans (((hp_420 14 (by decide)).trans ((hp_373 14 (by decide)).trans ((hp_321 14 (by decide)).trans ((hp_286 14 (by decide)).trans ((sv_n _ (by decide)).trans ((hp_39 14 (by decide)).trans ((hp_3 14 (by decide)).trans htt.symm)))))))).symm) (hp_464 15 (by decide)) ((((hp_464 29 (by decide)).trans (hp_420 29 (by decide)))).trans ((hp_420 29 (by decide))).symm) (fun j => (F_463.1 123 (by decide) j))
        exact xr_v G hret hlk dX12_lets_92 ⟨(FrM.tr (FrM.tr (FrM.tr (FrM.tr (FrM.tr (FrM.put (FrM.tr (FrM.tr FrM.rf F_2 (by decide)) F_38 (by decide)) (by decide)) F_285 (by decide)) F_320 (by decide)) F_372 (by decide)) F_419 (by decide)) F_463 (by decide)), (fun j hj => ((hp_464 j (fun h9 => hj ((by decide : ∀ x ∈ ([22] : List Int), x ∈ ([6, 8, 9, 10, 11, 12, 13, 15, 16, 17, 18, 22, 29, 31, 32, 34, 35, 36, 37, 39] : List Int)) j h9))).trans ((hp_420 j (fun h9 => hj ((by decide : ∀ x ∈ ([6, 8, 9, 10, 11, 12, 13, 15] : List Int), x ∈ ([6, 8, 9, 10, 11, 12, 13, 15, 16, 17, 18, 22, 29, 31, 32, 34, 35, 36, 37, 39] : List Int)) j h9))).trans ((hp_373 j (fun h9 => hj ((by decide : ∀ x ∈ ([6, 8, 9, 10, 11, 12, 13, 15, 16, 17, 18, 22, 29, 39] : List Int), x ∈ ([6, 8, 9, 10, 11, 12, 13, 15, 16, 17, 18, 22, 29, 31, 32, 34, 35, 36, 37, 39] : List Int)) j h9))).trans ((hp_321 j (fun h9 => hj ((by decide : ∀ x ∈ ([6, 8, 9, 10, 11, 12, 13, 15] : List Int), x ∈ ([6, 8, 9, 10, 11, 12, 13, 15, 16, 17, 18, 22, 29, 31, 32, 34, 35, 36, 37, 39] : List Int)) j h9))).trans ((hp_286 j (fun h9 => hj ((by decide : ∀ x ∈ ([31] : List Int), x ∈ ([6, 8, 9, 10, 11, 12, 13, 15, 16, 17, 18, 22, 29, 31, 32, 34, 35, 36, 37, 39] : List Int)) j h9))).trans ((sv_n _ (fun h9 => hj (by rw [h9.2]; decide))).trans ((hp_39 j (fun h9 => hj ((by decide : ∀ x ∈ ([6, 8, 9, 10, 11, 12, 13, 15] : List Int), x ∈ ([6, 8, 9, 10, 11, 12, 13, 15, 16, 17, 18, 22, 29, 31, 32, 34, 35, 36, 37, 39] : List Int)) j h9))).trans (hp_3 j (fun h9 => hj ((by decide : ∀ x ∈ ([6, 8, 9, 10, 11, 12, 13, 15] : List Int), x ∈ ([6, 8, 9, 10, 11, 12, 13, 15, 16, 17, 18, 22, 29, 31, 32, 34, 35, 36, 37, 39] : List Int)) j h9))))))))))), hPM_501, (by (repeat' apply And.intro) <;> omega), (by (repeat' apply And.intro) <;> omega), (by (repeat' apply And.intro) <;> omega), ⟨by omega, (Int.le_trans (Int.le_trans (Int.le_trans (Int.le_trans (Int.le_trans (Int.le_trans (Int.le_trans ((hp_6 ()).2) ((hp_43 ()).2)) (Int.le_of_eq (bd_cg (sv_n _ (by decide)) (sv_n _ (by decide)) (sv_n _ (by decide))).symm)) (Int.le_of_eq (bd_cg (hp_286 15 (by decide)) (hp_286 16 (by decide)) (hp_286 17 (by decide))).symm)) ((hp_325 ()).2)) ((hp_378 ()).2)) ((hp_424 ()).2)) (Int.le_of_eq (bd_cg (hp_464 15 (by decide)) (hp_464 16 (by decide)) (hp_464 17 (by decide))).symm))⟩, (by (repeat' apply And.intro) <;> omega), (by (repeat' apply And.intro) <;> omega), (fun j hj => ((F_463.1 126 (by decide) j).trans ((F_419.1 126 (by decide) j).trans ((hwk_387 j (by omega)).trans ((F_320.1 126 (by decide) j).trans ((F_285.1 126 (by decide) j).trans ((sv_n _ (fun h9 => absurd h9.1 (by decide))).trans ((F_38.1 126 (by decide) j).trans (F_2.1 126 (by decide) j))))))))), (by (repeat' apply And.intro) <;> omega), (by (repeat' apply And.intro) <;> omega), (fun _ h0 => mEY.ql (hq_354 ()) (as_one (M := (2 * (9 - nn μ))) ((hS1 () (bd_z (Int.le_trans (Int.le_trans (Int.le_trans (Int.le_trans (Int.le_trans (Int.le_trans (Int.le_trans ((hp_6 ()).2) ((hp_43 ()).2)) (Int.le_of_eq (bd_cg (sv_n _ (by decide)) (sv_n _ (by decide)) (sv_n _ (by decide))).symm)) (Int.le_of_eq (bd_cg (hp_286 15 (by decide)) (hp_286 16 (by decide)) (hp_286 17 (by decide))).symm)) ((hp_325 ()).2)) ((hp_378 ()).2)) ((hp_424 ()).2)) (Int.le_of_eq (bd_cg (hp_464 15 (by decide)) (hp_464 16 (by decide)) (hp_464 17 (by decide))).symm)) h0)).qm (hq_354 ())).s ((hex_388 () (bd_z (Int.le_trans ((hp_424 ()).2) (Int.le_of_eq (bd_cg (hp_464 15 (by decide)) (hp_464 16 (by decide)) (hp_464 17 (by decide))).symm)) h0)).qm (hq_452 ())) (by omega) (by omega) hp_465 (by unfold mpl; omega) rfl rfl (fun h1 => ⟨fun q => absurd q (by decide), ⟨fun _ => by omega, fun q => absurd q (by decide)⟩, fun _ => by omega, fun q => absurd q (by decide), fun q => absurd q (by decide), fun q => absurd q (by decide), fun q => absurd q (by decide), fun q => absurd q (by decide), fun q => absurd q (by decide), fun q => absurd q (by decide), fun q => absurd q (by decide), fun q => absurd q (by decide), fun q => absurd q (by decide), fun q => absurd q (by decide), fun q => absurd q (by decide), fun q => absurd q (by decide), fun q => absurd q (by decide), fun q => absurd q (by decide), fun q => absurd q (by decide), fun q => absurd q (by decide), fun q => absurd q (by decide), ⟨fun q => absurd q (by decide), fun q => absurd q (by decide), fun q => absurd q (by decide)⟩, ⟨by decide, by decide⟩⟩))), hxt_468⟩
      · refine lv_aload_n hx hb dX12_lets_44 rfl (lv_at hl 3 rfl) ?_
        refine lv_iload_n hx hb dX12_lets_45 rfl (lv_at hl 2 rfl) ?_
        refine xc_vV G (b := 111) (rest := []) (As := [.int (iv (μ1.1 111 9))]) (c_X12_wrong2 ω l μ36 (μ1.1 111 9) (by unfold ir; exact ⟨by omega, by omega⟩) (by (repeat' apply And.intro) <;> omega)) (wm 9 78 rfl rfl) (wm 9 80 rfl rfl) (wm 0 132 rfl rfl) rfl rfl (by decide) rfl (wm 1 18 rfl rfl) (wm 9 81 rfl rfl) (by decide) hR ⟨nfB hF (by decide), nlB hLo (by decide)⟩ (n := 1) rfl rfl (Nat.le_of_ble_eq_true rfl) hl.1 dX12_lets_46 (fun μ515 ρ d0 H locs hp G => ?_)
        obtain ⟨F_516, hp_517, hp_518⟩ := hp
        have hw_519 := wr_r (μ := μ515)
        have hb9_μ515 := bd_1 hp_518.1
        have hwb_520 : bd μ515 = 1 := (hp_518).1
        have vl_521 := hp_518
        replace hp_518 := fun _ : Unit => hp_518
        obtain ⟨hv_524, hv_525, hv_526, hv_527, hv_528, hv_529, hv_530, hv_531, hv_532, hv_533, hv_534, hv_535, hv_536, hv_537, hv_538, hv_539, hv_540, hv_541⟩ : μ.1 111 22 ≤ μ.1 111 22 ∧ μ.1 111 22 ≤ μ.1 111 22 + 2 * (μ36.1 111 9 - μ.1 111 9) + 8 * (nn μ36 - nn μ) - 4 + -4 * wr μ36 ∧ μ.1 111 9 + 1 ≤ μ36.1 111 9 ∧ nn μ + 0 ≤ nn μ36 ∧ nn μ36 ≤ nn μ + 0 + 9 * wr μ36 ∧ nn μ36 ≤ 8 + wr μ36 ∧ 9 * wr μ36 ≤ nn μ36 ∧ nn μ36 ≤ 9 ∧ wr μ ≤ wr μ36 ∧ wr μ36 ≤ 1 ∧ wr μ36 ≤ bd μ515 ∧ bd μ515 ≤ 1 ∧ μ.1 111 29 ≤ μ.1 111 29 ∧ μ.1 111 31 ≤ μ.1 111 31 ∧ μ.1 111 31 ≤ 300 ∧ 0 ≤ μ.1 111 32 ∧ μ.1 111 32 ≤ μ36.1 111 9 ∧ μ36.1 111 9 ≤ 3000 := by (repeat' apply And.intro) <;> omega
        clear hv_53 hv_54 hv_55 hv_56 hv_57 hv_58 hv_59 hv_60 hv_61 hv_62 hv_63 hv_64 hv_65 hv_66 hv_67 hv_68 hv_69 hv_70 hw_71 e_76 hw_519 vl_521
        refine lv_aload_n hx hb dX12_lets_49 rfl (lv_at hl 3 rfl) ?_
        refine lv_dup hx hb dX12_lets_50 rfl ?_
        refine xa_geti G fd_X12 (a := 111) (x := μ.1 111 32) 32 rfl (by decide) rfl (wm 7 181 rfl rfl) ⟨rfl, rfl, rfl⟩ dX12_lets_51 rfl ((hp_517 32 (by decide)).trans ((hp_39 32 (by decide)).trans (hp_3 32 (by decide)))) ?_
        refine lv_iconst (v := iv 1) hx hb dX12_lets_54 rfl ?_
        refine xb_iadd hx hb dX12_lets_55 ?_
        refine xa_puti G fd_X12 (a := 111) (x := (μ.1 111 32) + 1) 32 (kz := 32) rfl rfl (by decide) rfl (by unfold ir; exact ⟨by omega, by omega⟩) (wm 7 181 rfl rfl) ⟨rfl, rfl, rfl, rfl⟩ rfl dX12_lets_56 rfl (fun H locs G => ?_)
        refine lv_aload_n hx hb dX12_lets_59 rfl (lv_at hl 3 rfl) ?_
        refine lv_lload_n hx hb dX12_lets_60 rfl (lv_at hl 1 rfl) ?_
        have e_542 : (sv μ515 111 32 ((μ.1 111 32) + 1)).1 111 31 = μ.1 111 31 := ((sv_n _ (by decide)).trans ((hp_517 31 (by decide)).trans ((hp_39 31 (by decide)).trans (hp_3 31 (by decide)))))
        refine xc_iV G (b := 111) (rest := []) (As := [.long (jv r_37)]) (c_X12_anySlot ω l (sv μ515 111 32 ((μ.1 111 32) + 1)) r_37 hr_r_37 (by (repeat' apply And.intro) <;> omega)) (wm 9 135 rfl rfl) (wm 9 137 rfl rfl) (wm 0 146 rfl rfl) rfl rfl (by decide) rfl (wm 1 18 rfl rfl) (wm 9 138 rfl rfl) (by decide) hR ⟨nfB hF (by decide), nlB hLo (by decide)⟩ (n := 1) rfl rfl (Nat.le_of_ble_eq_true rfl) hl.1 dX12_lets_61 (fun r_546 μ545 ρ d0 H locs hr_r_546 hp G => ?_)
        have hr_r_546 : -2147483648 ≤ r_546 ∧ r_546 ≤ 2147483647 := hr_r_546
        obtain ⟨F_547, hp_548, hp_549, hp_550⟩ := hp
        have vl_551 := hp_550
        replace hp_550 := fun _ : Unit => hp_550
        have hw_552 := wr_r (μ := μ36)
        have hw_553 := wr_r (μ := μ515)
        obtain ⟨hv_554, hv_555, hv_556, hv_557, hv_558, hv_559, hv_560, hv_561, hv_562, hv_563, hv_564, hv_565, hv_566, hv_567, hv_568, hv_569, hv_570, hv_571⟩ : μ.1 111 22 ≤ μ.1 111 22 ∧ μ.1 111 22 ≤ μ.1 111 22 + 2 * (μ36.1 111 9 - μ.1 111 9) + 8 * (nn μ36 - nn μ) - 4 + -4 * wr μ36 ∧ μ.1 111 9 + 1 ≤ μ36.1 111 9 ∧ nn μ + 0 ≤ nn μ36 ∧ nn μ36 ≤ nn μ + 0 + 9 * wr μ36 ∧ nn μ36 ≤ 8 + wr μ36 ∧ 9 * wr μ36 ≤ nn μ36 ∧ nn μ36 ≤ 9 ∧ wr μ ≤ wr μ36 ∧ wr μ36 ≤ 1 ∧ wr μ36 ≤ bd μ515 ∧ bd μ515 ≤ 1 ∧ μ.1 111 29 ≤ μ.1 111 29 ∧ μ.1 111 31 ≤ μ545.1 111 31 ∧ μ545.1 111 31 ≤ 300 ∧ 0 ≤ ((μ.1 111 32) + 1) ∧ ((μ.1 111 32) + 1) ≤ μ36.1 111 9 ∧ μ36.1 111 9 ≤ 3000 := by (repeat' apply And.intro) <;> omega
        clear hv_524 hv_525 hv_526 hv_527 hv_528 hv_529 hv_530 hv_531 hv_532 hv_533 hv_534 hv_535 hv_536 hv_537 hv_538 hv_539 hv_540 hv_541 e_542 vl_551 hw_552 hw_553
        refine lv_istore (lv' := [(4, .int (iv r_546)), (2, .long (jv r_37)), (1, .int (iv (μ1.1 111 9))), (0, .ref (oP ω 111))]) hx hb dX12_lets_64 hl (by decide) rfl (fun ls hl => ?_)
        refine lv_aload_n hx hb dX12_lets_66 rfl (lv_at hl 3 rfl) ?_
        refine lv_bipush (v := iv 61) hx hb dX12_lets_67 rfl ?_
        have hPM_572 : PM μ545 := hp_40.cg ((((hp_548 4 (by decide)).trans ((sv_n _ (by decide)).trans ((hp_517 4 (by decide)).trans ((hp_39 4 (by decide)).trans (hp_3 4 (by decide))))))).trans (((hp_39 4 (by decide)).trans (hp_3 4 (by decide)))).symm) ((hp_548 6 (by decide)).trans ((sv_n _ (by decide)).trans (hp_517 6 (by decide)))) ((((hp_548 7 (by decide)).trans ((sv_n _ (by decide)).trans ((hp_517 7 (by decide)).trans ((hp_39 7 (by decide)).trans (hp_3 7 (by decide))))))).trans (((hp_39 7 (by decide)).trans (hp_3 7 (by decide)))).symm) ((hp_548 8 (by decide)).trans ((sv_n _ (by decide)).trans (hp_517 8 (by decide)))) ((hp_548 9 (by decide)).trans ((sv_n _ (by decide)).trans (hp_517 9 (by decide)))) ((hp_548 11 (by decide)).trans ((sv_n _ (by decide)).trans (hp_517 11 (by decide)))) ((hp_548 12 (by decide)).trans ((sv_n _ (by decide)).trans (hp_517 12 (by decide)))) ((((hp_548 14 (by decide)).trans ((sv_n _ (by decide)).trans ((hp_517 14 (by decide)).trans ((hp_39 14 (by decide)).trans ((hp_3 14 (by decide)).trans htt.symm)))))).trans (((hp_39 14 (by decide)).trans ((hp_3 14 (by decide)).trans htt.symm))).symm) ((hp_548 15 (by decide)).trans ((sv_n _ (by decide)).trans (hp_517 15 (by decide)))) ((((hp_548 29 (by decide)).trans ((sv_n _ (by decide)).trans ((hp_517 29 (by decide)).trans ((hp_39 29 (by decide)).trans (hp_3 29 (by decide))))))).trans (((hp_39 29 (by decide)).trans (hp_3 29 (by decide)))).symm) (fun j => ((F_547.1 123 (by decide) j).trans ((sv_n _ (by omega)).trans (F_516.1 123 (by decide) j))))
        have e_573 : wr μ545 = wr μ36 := ((wr_cg (hp_548 15 (by decide))).trans ((wr_cg (sv_n _ (by decide))).trans (wr_cg (hp_517 15 (by decide)))))
        have hw_574 := wr_r (μ := μ36)
        have e_575 : nn μ545 = nn μ36 := ((nn_cg (hp_548 15 (by decide)) (hp_548 18 (by decide))).trans ((nn_cg (sv_n _ (by decide)) (sv_n _ (by decide))).trans (nn_cg (hp_517 15 (by decide)) (hp_517 18 (by decide)))))
        have e_576 : μ545.1 111 9 = μ36.1 111 9 := ((hp_548 9 (by decide)).trans ((sv_n _ (by decide)).trans (hp_517 9 (by decide))))
        have e_579 : bd μ545 = bd μ515 := ((bd_cg (hp_548 15 (by decide)) (hp_548 16 (by decide)) (hp_548 17 (by decide))).trans (bd_cg (sv_n _ (by decide)) (sv_n _ (by decide)) (sv_n _ (by decide))))
        have hw_580 := wr_r (μ := μ515)
        refine xc_vV G (b := 111) (rest := []) (As := [.int (iv 61)]) (c_X12_wantsSign ω l μ545 61 (by unfold ir; decide) hPM_572 (by (repeat' apply And.intro) <;> omega)) (wm 9 114 rfl rfl) (wm 9 116 rfl rfl) (wm 0 141 rfl rfl) rfl rfl (by decide) rfl (wm 1 18 rfl rfl) (wm 9 117 rfl rfl) (by decide) hR ⟨nfB hF (by decide), nlB hLo (by decide)⟩ (n := 1) rfl rfl (Nat.le_of_ble_eq_true rfl) hl.1 dX12_lets_69 (fun μ582 ρ d0 H locs hp G => ?_)
        obtain ⟨F_583, hp_584, hp_585, hp_586, hp_587, hp_588, hp_589⟩ := hp
        have hpl_590 := hp_585.pl
        have hw_591 := wr_r (μ := μ582)
        have hw_592 := wr_r (μ := μ545)
        have vl_593 := hp_586
        replace hp_586 := fun _ : Unit => hp_586
        have vl_594 := hp_587
        replace hp_587 := fun _ : Unit => hp_587
        have vl_595 := hp_588
        replace hp_588 := fun _ : Unit => hp_588
        have vl_596 := hp_589
        replace hp_589 := fun _ : Unit => hp_589
        obtain ⟨hv_599, hv_600, hv_601, hv_602, hv_603, hv_604, hv_605, hv_606, hv_607, hv_608, hv_609, hv_610, hv_611, hv_612, hv_613, hv_614, hv_615, hv_616⟩ : μ.1 111 22 ≤ μ.1 111 22 ∧ μ.1 111 22 ≤ μ.1 111 22 + 2 * (μ582.1 111 9 - μ.1 111 9) + 8 * (nn μ582 - nn μ) - 6 + -2 * wr μ582 ∧ μ.1 111 9 + 1 ≤ μ582.1 111 9 ∧ nn μ + 0 ≤ nn μ582 ∧ nn μ582 ≤ nn μ + 0 + 9 * wr μ582 ∧ nn μ582 ≤ 8 + wr μ582 ∧ 9 * wr μ582 ≤ nn μ582 ∧ nn μ582 ≤ 9 ∧ wr μ ≤ wr μ582 ∧ wr μ582 ≤ 1 ∧ wr μ582 ≤ bd μ582 ∧ bd μ582 ≤ 1 ∧ μ.1 111 29 ≤ μ.1 111 29 ∧ μ.1 111 31 ≤ μ545.1 111 31 ∧ μ545.1 111 31 ≤ 300 ∧ 0 ≤ ((μ.1 111 32) + 1) ∧ ((μ.1 111 32) + 1) ≤ μ582.1 111 9 ∧ μ582.1 111 9 ≤ 3000 := by (repeat' apply And.intro) <;> omega
        clear hv_554 hv_555 hv_556 hv_557 hv_558 hv_559 hv_560 hv_561 hv_562 hv_563 hv_564 hv_565 hv_566 hv_567 hv_568 hv_569 hv_570 hv_571 e_573 hw_574 e_575 e_576 e_579 hw_580 hpl_590 hw_591 hw_592 vl_593 vl_594 vl_595 vl_596
        refine lv_aload_n hx hb dX12_lets_72 rfl (lv_at hl 3 rfl) ?_
        have hq_617 : ∀ _ : Unit, q0m μ μ582 := fun _ => (q0m.fr (K := [111, 124]) (FrM.tr (FrM.tr (FrM.put (FrM.tr (FrM.tr (FrM.tr FrM.rf F_2 (by decide)) F_38 (by decide)) F_516 (by decide)) (by decide)) F_547 (by decide)) F_583 (by decide)) (by decide) (by decide) (by decide) ((hp_584 22 (by decide)).trans ((hp_548 22 (by decide)).trans ((sv_n _ (by decide)).trans ((hp_517 22 (by decide)).trans ((hp_39 22 (by decide)).trans (hp_3 22 (by decide))))))) (nS.le (Int.le_trans (Int.le_trans (Int.le_trans (Int.le_trans (Int.le_trans (Int.le_of_eq (hp_3 29 (by decide)).symm) (Int.le_of_eq (hp_39 29 (by decide)).symm)) (Int.le_of_eq (hp_517 29 (by decide)).symm)) (Int.le_of_eq (sv_n _ (by decide)).symm)) (Int.le_of_eq (hp_548 29 (by decide)).symm)) (Int.le_of_eq (hp_584 29 (by decide)).symm)) (Int.le_trans (Int.le_trans (Int.le_trans (Int.le_trans (Int.le_trans (Int.le_of_eq (hp_3 31 (by decide)).symm) (Int.le_of_eq (hp_39 31 (by decide)).symm)) (Int.le_of_eq (hp_517 31 (by decide)).symm)) (Int.le_of_eq (sv_n _ (by decide)).symm)) ((hp_550 ()).1)) (Int.le_of_eq (hp_584 31 (by decide)).symm))))
        have hw_618 := wr_r (μ := μ582)
        have hht_619 : ∀ _ : Unit, bd μ582 = 0 → mHt μ582 0 := fun _ h0 => (hht_0 () (bd_z (Int.le_trans (Int.le_trans (Int.le_trans (Int.le_trans (Int.le_trans ((hp_6 ()).2) ((hp_43 ()).2)) (hb9_μ515 _)) (Int.le_of_eq (bd_cg (sv_n _ (by decide)) (sv_n _ (by decide)) (sv_n _ (by decide))).symm)) (Int.le_of_eq (bd_cg (hp_548 15 (by decide)) (hp_548 16 (by decide)) (hp_548 17 (by decide))).symm)) ((hp_588 ()).2)) h0)).qm (hq_617 ())
        have e_620 : μ582.1 111 29 = μ.1 111 29 := ((hp_584 29 (by decide)).trans ((hp_548 29 (by decide)).trans ((sv_n _ (by decide)).trans ((hp_517 29 (by decide)).trans ((hp_39 29 (by decide)).trans (hp_3 29 (by decide)))))))
        have hxt_621 : mEXT μ μ582 := (q0m.fr (K := [111, 124]) (FrM.tr (FrM.tr (FrM.put (FrM.tr (FrM.tr (FrM.tr FrM.rf F_2 (by decide)) F_38 (by decide)) F_516 (by decide)) (by decide)) F_547 (by decide)) F_583 (by decide)) (by decide) (by decide) (by decide) ((hp_584 22 (by decide)).trans ((hp_548 22 (by decide)).trans ((sv_n _ (by decide)).trans ((hp_517 22 (by decide)).trans ((hp_39 22 (by decide)).trans (hp_3 22 (by decide))))))) (nS.le (Int.le_trans (Int.le_trans (Int.le_trans (Int.le_trans (Int.le_trans (Int.le_of_eq (hp_3 29 (by decide)).symm) (Int.le_of_eq (hp_39 29 (by decide)).symm)) (Int.le_of_eq (hp_517 29 (by decide)).symm)) (Int.le_of_eq (sv_n _ (by decide)).symm)) (Int.le_of_eq (hp_548 29 (by decide)).symm)) (Int.le_of_eq (hp_584 29 (by decide)).symm)) (Int.le_trans (Int.le_trans (Int.le_trans (Int.le_trans (Int.le_trans (Int.le_of_eq (hp_3 31 (by decide)).symm) (Int.le_of_eq (hp_39 31 (by decide)).symm)) (Int.le_of_eq (hp_517 31 (by decide)).symm)) (Int.le_of_eq (sv_n _ (by decide)).symm)) ((hp_550 ()).1)) (Int.le_of_eq (hp_584 31 (by decide)).symm)))).1
        have e_622 : μ582.1 111 14 = tt := ((hp_584 14 (by decide)).trans ((hp_548 14 (by decide)).trans ((sv_n _ (by decide)).trans ((hp_517 14 (by decide)).trans ((hp_39 14 (by decide)).trans ((hp_3 14 (by decide)).trans htt.symm))))))
        have e_623 : μ582.1 111 22 = μ.1 111 22 := ((hp_584 22 (by decide)).trans ((hp_548 22 (by decide)).trans ((sv_n _ (by decide)).trans ((hp_517 22 (by decide)).trans ((hp_39 22 (by decide)).trans (hp_3 22 (by decide)))))))
        have e_625 : μ582.1 111 39 = μ.1 111 39 := ((hp_584 39 (by decide)).trans ((hp_548 39 (by decide)).trans ((sv_n _ (by decide)).trans ((hp_517 39 (by decide)).trans ((hp_39 39 (by decide)).trans (hp_3 39 (by decide)))))))
        have e_628 : μ582.1 111 31 = μ545.1 111 31 := (hp_584 31 (by decide))
        refine xc_vV G (b := 111) (rest := []) (As := []) (c_X12_expr_a ω l μ582 tt (by (repeat' apply And.intro) <;> omega) hp_585 (by (repeat' apply And.intro) <;> omega) (by (repeat' apply And.intro) <;> omega) (by (repeat' apply And.intro) <;> omega) (by (repeat' apply And.intro) <;> omega) (by (repeat' apply And.intro) <;> omega) (fun _ h0 => (hht_619 () h0).p (by decide))) (wm 9 139 rfl rfl) (wm 9 141 rfl rfl) (wm 0 147 rfl rfl) rfl rfl (by decide) rfl (wm 1 18 rfl rfl) (wm 9 142 rfl rfl) (by decide) hR ⟨nfB hF (by decide), nlB hLo (by decide)⟩ (n := 0) rfl rfl (Nat.le_of_ble_eq_true rfl) hl.1 dX12_lets_73 (fun μ634 ρ d0 H locs hp G => ?_)
        obtain ⟨F_635, hp_636, hp_637, hp_638, hp_639, hp_640, hp_641, hp_642, hp_643, hp_644, hp_645, hp_646⟩ := hp
        have hpl_647 := hp_637.pl
        have hw_648 := wr_r (μ := μ634)
        have hxt_649 : mEXT μ μ634 := hxt_621.tr hp_646
        have hwk_650 : ∀ j, j < μ.1 111 39 → μ634.1 126 j = μ582.1 126 j := fun j hj => hp_644 j (by omega)
        have hex_651 : ∀ _ : Unit, bd μ634 = 0 → mEX μ582 μ634 tt 1 0 99 := fun _ h0 => (hp_645 () h0).mn (Int.le_refl _) (by omega)
        have hht_652 : ∀ _ : Unit, bd μ634 = 0 → mHt μ634 1 := fun _ h0 => (hht_619 () (bd_z (hp_641.2) h0)).ex (hex_651 () h0) rfl
        have vl_653 := hp_638
        replace hp_638 := fun _ : Unit => hp_638
        have vl_654 := hp_639
        replace hp_639 := fun _ : Unit => hp_639
        have vl_655 := hp_640
        replace hp_640 := fun _ : Unit => hp_640
        have vl_656 := hp_641
        replace hp_641 := fun _ : Unit => hp_641
        have vl_657 := hp_642
        replace hp_642 := fun _ : Unit => hp_642
        have vl_658 := hp_643
        replace hp_643 := fun _ : Unit => hp_643
        have h39_659 : μ634.1 111 39 = μ.1 111 39 := by omega
        obtain ⟨hv_662, hv_663, hv_664, hv_665, hv_666, hv_667, hv_668, hv_669, hv_670, hv_671, hv_672, hv_673, hv_674, hv_675, hv_676, hv_677, hv_678, hv_679⟩ : μ.1 111 22 ≤ μ634.1 111 22 ∧ μ634.1 111 22 ≤ μ.1 111 22 + 2 * (μ634.1 111 9 - μ.1 111 9) + 8 * (nn μ634 - nn μ) - 7 + -1 * wr μ634 ∧ μ.1 111 9 + 1 ≤ μ634.1 111 9 ∧ nn μ + 0 ≤ nn μ634 ∧ nn μ634 ≤ nn μ + 0 + 9 * wr μ634 ∧ nn μ634 ≤ 8 + wr μ634 ∧ 9 * wr μ634 ≤ nn μ634 ∧ nn μ634 ≤ 9 ∧ wr μ ≤ wr μ634 ∧ wr μ634 ≤ 1 ∧ wr μ634 ≤ bd μ634 ∧ bd μ634 ≤ 1 ∧ μ.1 111 29 ≤ μ634.1 111 29 ∧ μ.1 111 31 ≤ μ545.1 111 31 ∧ μ545.1 111 31 ≤ 300 ∧ 0 ≤ ((μ.1 111 32) + 1) ∧ ((μ.1 111 32) + 1) ≤ μ634.1 111 9 ∧ μ634.1 111 9 ≤ 3000 := by (repeat' apply And.intro) <;> omega
        clear hv_599 hv_600 hv_601 hv_602 hv_603 hv_604 hv_605 hv_606 hv_607 hv_608 hv_609 hv_610 hv_611 hv_612 hv_613 hv_614 hv_615 hv_616 hw_618 e_620 e_622 e_623 e_625 e_628 hpl_647 hw_648 vl_653 vl_654 vl_655 vl_656 vl_657 vl_658
        refine lv_aload_n hx hb dX12_lets_76 rfl (lv_at hl 3 rfl) ?_
        refine lv_bipush (v := iv 59) hx hb dX12_lets_77 rfl ?_
        have hw_680 := wr_r (μ := μ634)
        refine xc_vV G (b := 111) (rest := []) (As := [.int (iv 59)]) (c_X12_wantsSign ω l μ634 59 (by unfold ir; decide) hp_637 (by (repeat' apply And.intro) <;> omega)) (wm 9 114 rfl rfl) (wm 9 116 rfl rfl) (wm 0 141 rfl rfl) rfl rfl (by decide) rfl (wm 1 18 rfl rfl) (wm 9 117 rfl rfl) (by decide) hR ⟨nfB hF (by decide), nlB hLo (by decide)⟩ (n := 1) rfl rfl (Nat.le_of_ble_eq_true rfl) hl.1 dX12_lets_79 (fun μ681 ρ d0 H locs hp G => ?_)
        obtain ⟨F_682, hp_683, hp_684, hp_685, hp_686, hp_687, hp_688⟩ := hp
        have hpl_689 := hp_684.pl
        have hw_690 := wr_r (μ := μ681)
        have vl_691 := hp_685
        replace hp_685 := fun _ : Unit => hp_685
        have vl_692 := hp_686
        replace hp_686 := fun _ : Unit => hp_686
        have vl_693 := hp_687
        replace hp_687 := fun _ : Unit => hp_687
        have vl_694 := hp_688
        replace hp_688 := fun _ : Unit => hp_688
        obtain ⟨hv_697, hv_698, hv_699, hv_700, hv_701, hv_702, hv_703, hv_704, hv_705, hv_706, hv_707, hv_708, hv_709, hv_710, hv_711, hv_712, hv_713, hv_714⟩ : μ.1 111 22 ≤ μ634.1 111 22 ∧ μ634.1 111 22 ≤ μ.1 111 22 + 2 * (μ681.1 111 9 - μ.1 111 9) + 8 * (nn μ681 - nn μ) - 9 + 1 * wr μ681 ∧ μ.1 111 9 + 1 ≤ μ681.1 111 9 ∧ nn μ + 0 ≤ nn μ681 ∧ nn μ681 ≤ nn μ + 0 + 9 * wr μ681 ∧ nn μ681 ≤ 8 + wr μ681 ∧ 9 * wr μ681 ≤ nn μ681 ∧ nn μ681 ≤ 9 ∧ wr μ ≤ wr μ681 ∧ wr μ681 ≤ 1 ∧ wr μ681 ≤ bd μ681 ∧ bd μ681 ≤ 1 ∧ μ.1 111 29 ≤ μ634.1 111 29 ∧ μ.1 111 31 ≤ μ545.1 111 31 ∧ μ545.1 111 31 ≤ 300 ∧ 0 ≤ ((μ.1 111 32) + 1) ∧ ((μ.1 111 32) + 1) ≤ μ681.1 111 9 ∧ μ681.1 111 9 ≤ 3000 := by (repeat' apply And.intro) <;> omega
        clear hv_662 hv_663 hv_664 hv_665 hv_666 hv_667 hv_668 hv_669 hv_670 hv_671 hv_672 hv_673 hv_674 hv_675 hv_676 hv_677 hv_678 hv_679 hw_680 hpl_689 hw_690 vl_691 vl_692 vl_693 vl_694
        refine lv_aload_n hx hb dX12_lets_82 rfl (lv_at hl 3 rfl) ?_
        refine lv_iconst (v := iv 4) hx hb dX12_lets_83 rfl ?_
        refine lv_iload hx hb dX12_lets_84 (lv_at hl 0 rfl) ?_
        refine xb_i2l hx hb (by unfold ir; exact ⟨by omega, by omega⟩) dX12_lets_86 ?_
        refine lv_iconst (v := iv 0) hx hb dX12_lets_87 rfl ?_
        have hq_715 : ∀ _ : Unit, q0m μ634 μ681 := fun _ => (q0m.fr (K := [111]) (FrM.tr FrM.rf F_682 (by decide)) (by decide) (by decide) (by decide) (hp_683 22 (by decide)) (nS.le (Int.le_of_eq (hp_683 29 (by decide)).symm) (Int.le_of_eq (hp_683 31 (by decide)).symm)))
        have hw_716 := wr_r (μ := μ681)
        have hht_717 : ∀ _ : Unit, bd μ681 = 0 → mHt μ681 1 := fun _ h0 => (hht_652 () (bd_z ((hp_687 ()).2) h0)).qm (hq_715 ())
        have e_718 : μ681.1 111 29 = μ634.1 111 29 := (hp_683 29 (by decide))
        have hxt_719 : mEXT μ μ681 := hxt_649.tr (q0m.fr (K := [111]) (FrM.tr FrM.rf F_682 (by decide)) (by decide) (by decide) (by decide) (hp_683 22 (by decide)) (nS.le (Int.le_of_eq (hp_683 29 (by decide)).symm) (Int.le_of_eq (hp_683 31 (by decide)).symm))).1
        have e_720 : μ681.1 111 22 = μ634.1 111 22 := (hp_683 22 (by decide))
        refine xc_iV G (b := 111) (rest := []) (As := [.int (iv 4), .long (jv r_546), .int (iv 0)]) (c_X12_emit ω l μ681 4 r_546 0 (by unfold ir; decide) (by unfold jr; omega) (by unfold ir; decide) (by (repeat' apply And.intro) <;> omega)) (wm 9 126 rfl rfl) (wm 9 128 rfl rfl) (wm 0 144 rfl rfl) rfl rfl (by decide) rfl (wm 1 18 rfl rfl) (wm 9 129 rfl rfl) (by decide) hR ⟨nfB hF (by decide), nlB hLo (by decide)⟩ (n := 3) rfl rfl (Nat.le_of_ble_eq_true rfl) hl.1 dX12_lets_88 (fun r_725 μ724 ρ d0 H locs hr_r_725 hp G => ?_)
        have hr_r_725 : -2147483648 ≤ r_725 ∧ r_725 ≤ 2147483647 := hr_r_725
        obtain ⟨F_726, hp_727, hp_728, hp_729, hp_730⟩ := hp
        have hxt_731 : mEXT μ μ724 := hxt_719.tr hp_728.1
        have hht_732 : ∀ _ : Unit, bd μ724 = 0 → mHt μ724 0 := fun _ h0 => (hht_717 () (bd_z (Int.le_of_eq (bd_cg (hp_727 15 (by decide)) (hp_727 16 (by decide)) (hp_727 17 (by decide))).symm) h0)).ad hp_728 rfl
        have vl_733 := hp_730
        replace hp_730 := fun _ : Unit => hp_730
        obtain ⟨hv_736, hv_737, hv_738, hv_739, hv_740, hv_741, hv_742, hv_743, hv_744, hv_745, hv_746, hv_747, hv_748, hv_749, hv_750, hv_751, hv_752, hv_753⟩ : μ.1 111 22 ≤ μ724.1 111 22 ∧ μ724.1 111 22 ≤ μ.1 111 22 + 2 * (μ681.1 111 9 - μ.1 111 9) + 8 * (nn μ681 - nn μ) - 8 + 1 * wr μ681 ∧ μ.1 111 9 + 1 ≤ μ681.1 111 9 ∧ nn μ + 0 ≤ nn μ681 ∧ nn μ681 ≤ nn μ + 0 + 9 * wr μ681 ∧ nn μ681 ≤ 8 + wr μ681 ∧ 9 * wr μ681 ≤ nn μ681 ∧ nn μ681 ≤ 9 ∧ wr μ ≤ wr μ681 ∧ wr μ681 ≤ 1 ∧ wr μ681 ≤ bd μ681 ∧ bd μ681 ≤ 1 ∧ μ.1 111 29 ≤ μ634.1 111 29 ∧ μ.1 111 31 ≤ μ545.1 111 31 ∧ μ545.1 111 31 ≤ 300 ∧ 0 ≤ ((μ.1 111 32) + 1) ∧ ((μ.1 111 32) + 1) ≤ μ681.1 111 9 ∧ μ681.1 111 9 ≤ 3000 := by (repeat' apply And.intro) <;> omega
        clear hv_697 hv_698 hv_699 hv_700 hv_701 hv_702 hv_703 hv_704 hv_705 hv_706 hv_707 hv_708 hv_709 hv_710 hv_711 hv_712 hv_713 hv_714 hw_716 e_718 e_720 vl_733
        refine lv_pop hx hb dX12_lets_91 rfl ?_
        have e_754 : μ724.1 111 9 = μ681.1 111 9 := (hp_727 9 (by decide))
        have e_755 : μ724.1 111 29 = μ634.1 111 29 := ((hp_727 29 (by decide)).trans (hp_683 29 (by decide)))
        have e_756 : μ724.1 111 39 = μ634.1 111 39 := ((hp_727 39 (by decide)).trans (hp_683 39 (by decide)))
        have e_757 : μ724.1 111 31 = μ545.1 111 31 := ((hp_727 31 (by decide)).trans ((hp_683 31 (by decide)).trans ((hp_636 31 (by decide)).trans (hp_584 31 (by decide)))))
        have e_758 : μ724.1 111 32 = (μ.1 111 32) + 1 := ((hp_727 32 (by decide)).trans ((hp_683 32 (by decide)).trans ((hp_636 32 (by decide)).trans ((hp_584 32 (by decide)).trans ((hp_548 32 (by decide)).trans (sv_s _ _ _ _))))))
        have e_759 : μ724.1 111 6 = μ681.1 111 6 := (hp_727 6 (by decide))
        have e_760 : wr μ724 = wr μ681 := (wr_cg (hp_727 15 (by decide)))
        have hw_761 := wr_r (μ := μ681)
        have e_762 : bd μ724 = bd μ681 := (bd_cg (hp_727 15 (by decide)) (hp_727 16 (by decide)) (hp_727 17 (by decide)))
        have e_763 : nn μ724 = nn μ681 := (nn_cg (hp_727 15 (by decide)) (hp_727 18 (by decide)))
        have hPM_764 : PM μ724 := hp_684.cg ((((hp_727 4 (by decide)).trans ((hp_683 4 (by decide)).trans ((hp_636 4 (by decide)).trans ((hp_584 4 (by decide)).trans ((hp_548 4 (by decide)).trans ((sv_n _ (by decide)).trans ((hp_517 4 (by decide)).trans ((hp_39 4 (by decide)).trans (hp_3 4 (by decide))))))))))).trans (((hp_683 4 (by decide)).trans ((hp_636 4 (by decide)).trans ((hp_584 4 (by decide)).trans ((hp_548 4 (by decide)).trans ((sv_n _ (by decide)).trans ((hp_517 4 (by decide)).trans ((hp_39 4 (by decide)).trans (hp_3 4 (by decide)))))))))).symm) (hp_727 6 (by decide)) ((((hp_727 7 (by decide)).trans ((hp_683 7 (by decide)).trans ((hp_636 7 (by decide)).trans ((hp_584 7 (by decide)).trans ((hp_548 7 (by decide)).trans ((sv_n _ (by decide)).trans ((hp_517 7 (by decide)).trans ((hp_39 7 (by decide)).trans (hp_3 7 (by decide))))))))))).trans (((hp_683 7 (by decide)).trans ((hp_636 7 (by decide)).trans ((hp_584 7 (by decide)).trans ((hp_548 7 (by decide)).trans ((sv_n _ (by decide)).trans ((hp_517 7 (by decide)).trans ((hp_39 7 (by decide)).trans (hp_3 7 (by decide)))))))))).symm) (hp_727 8 (by decide)) (hp_727 9 (by decide)) (hp_727 11 (by decide)) (hp_727 12 (by decide)) ((((hp_727 14 (by decide)).trans ((hp_683 14 (by decide)).trans ((hp_636 14 (by decide)).trans ((hp_584 14 (by decide)).trans ((hp_548 14 (by decide)).trans ((sv_n _ (by decide)).trans ((hp_517 14 (by decide)).trans ((hp_39 14 (by decide)).trans ((hp_3 14 (by decide)).trans htt.symm)))))))))).trans (((hp_683 14 (by decide)).trans ((hp_636 14 (by decide)).trans ((hp_584 14 (by decide)).trans ((hp_548 14 (by decide)).trans ((sv_n _ (by decide)).trans ((hp_517 14 (by decide)).trans ((hp_39 14 (by decide)).trans ((hp_3 14 (by decide)).trans htt.symm))))))))).symm) (hp_727 15 (by decide)) ((((hp_727 29 (by decide)).trans (hp_683 29 (by decide)))).trans ((hp_683 29 (by decide))).symm) (fun j => (F_726.1 123 (by decide) j))
        exact xr_v G hret hlk dX12_lets_92 ⟨(FrM.tr (FrM.tr (FrM.tr (FrM.tr (FrM.tr (FrM.put (FrM.tr (FrM.tr (FrM.tr FrM.rf F_2 (by decide)) F_38 (by decide)) F_516 (by decide)) (by decide)) F_547 (by decide)) F_583 (by decide)) F_635 (by decide)) F_682 (by decide)) F_726 (by decide)), (fun j hj => ((hp_727 j (fun h9 => hj ((by decide : ∀ x ∈ ([22] : List Int), x ∈ ([6, 8, 9, 10, 11, 12, 13, 15, 16, 17, 18, 22, 29, 31, 32, 34, 35, 36, 37, 39] : List Int)) j h9))).trans ((hp_683 j (fun h9 => hj ((by decide : ∀ x ∈ ([6, 8, 9, 10, 11, 12, 13, 15] : List Int), x ∈ ([6, 8, 9, 10, 11, 12, 13, 15, 16, 17, 18, 22, 29, 31, 32, 34, 35, 36, 37, 39] : List Int)) j h9))).trans ((hp_636 j (fun h9 => hj ((by decide : ∀ x ∈ ([6, 8, 9, 10, 11, 12, 13, 15, 16, 17, 18, 22, 29, 39] : List Int), x ∈ ([6, 8, 9, 10, 11, 12, 13, 15, 16, 17, 18, 22, 29, 31, 32, 34, 35, 36, 37, 39] : List Int)) j h9))).trans ((hp_584 j (fun h9 => hj ((by decide : ∀ x ∈ ([6, 8, 9, 10, 11, 12, 13, 15] : List Int), x ∈ ([6, 8, 9, 10, 11, 12, 13, 15, 16, 17, 18, 22, 29, 31, 32, 34, 35, 36, 37, 39] : List Int)) j h9))).trans ((hp_548 j (fun h9 => hj ((by decide : ∀ x ∈ ([31] : List Int), x ∈ ([6, 8, 9, 10, 11, 12, 13, 15, 16, 17, 18, 22, 29, 31, 32, 34, 35, 36, 37, 39] : List Int)) j h9))).trans ((sv_n _ (fun h9 => hj (by rw [h9.2]; decide))).trans ((hp_517 j (fun h9 => hj ((by decide : ∀ x ∈ ([16] : List Int), x ∈ ([6, 8, 9, 10, 11, 12, 13, 15, 16, 17, 18, 22, 29, 31, 32, 34, 35, 36, 37, 39] : List Int)) j h9))).trans ((hp_39 j (fun h9 => hj ((by decide : ∀ x ∈ ([6, 8, 9, 10, 11, 12, 13, 15] : List Int), x ∈ ([6, 8, 9, 10, 11, 12, 13, 15, 16, 17, 18, 22, 29, 31, 32, 34, 35, 36, 37, 39] : List Int)) j h9))).trans (hp_3 j (fun h9 => hj ((by decide : ∀ x ∈ ([6, 8, 9, 10, 11, 12, 13, 15] : List Int), x ∈ ([6, 8, 9, 10, 11, 12, 13, 15, 16, 17, 18, 22, 29, 31, 32, 34, 35, 36, 37, 39] : List Int)) j h9)))))))))))), hPM_764, (by (repeat' apply And.intro) <;> omega), (by (repeat' apply And.intro) <;> omega), (by (repeat' apply And.intro) <;> omega), ⟨by omega, (Int.le_trans (Int.le_trans (Int.le_trans (Int.le_trans (Int.le_trans (Int.le_trans (Int.le_trans (Int.le_trans ((hp_6 ()).2) ((hp_43 ()).2)) (hb9_μ515 _)) (Int.le_of_eq (bd_cg (sv_n _ (by decide)) (sv_n _ (by decide)) (sv_n _ (by decide))).symm)) (Int.le_of_eq (bd_cg (hp_548 15 (by decide)) (hp_548 16 (by decide)) (hp_548 17 (by decide))).symm)) ((hp_588 ()).2)) ((hp_641 ()).2)) ((hp_687 ()).2)) (Int.le_of_eq (bd_cg (hp_727 15 (by decide)) (hp_727 16 (by decide)) (hp_727 17 (by decide))).symm))⟩, (by (repeat' apply And.intro) <;> omega), (by (repeat' apply And.intro) <;> omega), (fun j hj => ((F_726.1 126 (by decide) j).trans ((F_682.1 126 (by decide) j).trans ((hwk_650 j (by omega)).trans ((F_583.1 126 (by decide) j).trans ((F_547.1 126 (by decide) j).trans ((sv_n _ (fun h9 => absurd h9.1 (by decide))).trans ((F_516.1 126 (by decide) j).trans ((F_38.1 126 (by decide) j).trans (F_2.1 126 (by decide) j)))))))))), (by (repeat' apply And.intro) <;> omega), (by (repeat' apply And.intro) <;> omega), (fun _ h0 => mEY.ql (hq_617 ()) (as_one (M := (2 * (9 - nn μ))) ((hS1 () (bd_z (Int.le_trans (Int.le_trans (Int.le_trans (Int.le_trans (Int.le_trans (Int.le_trans (Int.le_trans (Int.le_trans ((hp_6 ()).2) ((hp_43 ()).2)) (hb9_μ515 _)) (Int.le_of_eq (bd_cg (sv_n _ (by decide)) (sv_n _ (by decide)) (sv_n _ (by decide))).symm)) (Int.le_of_eq (bd_cg (hp_548 15 (by decide)) (hp_548 16 (by decide)) (hp_548 17 (by decide))).symm)) ((hp_588 ()).2)) ((hp_641 ()).2)) ((hp_687 ()).2)) (Int.le_of_eq (bd_cg (hp_727 15 (by decide)) (hp_727 16 (by decide)) (hp_727 17 (by decide))).symm)) h0)).qm (hq_617 ())).s ((hex_651 () (bd_z (Int.le_trans ((hp_687 ()).2) (Int.le_of_eq (bd_cg (hp_727 15 (by decide)) (hp_727 16 (by decide)) (hp_727 17 (by decide))).symm)) h0)).qm (hq_715 ())) (by omega) (by omega) hp_728 (by unfold mpl; omega) rfl rfl (fun h1 => ⟨fun q => absurd q (by decide), ⟨fun _ => by omega, fun q => absurd q (by decide)⟩, fun _ => by omega, fun q => absurd q (by decide), fun q => absurd q (by decide), fun q => absurd q (by decide), fun q => absurd q (by decide), fun q => absurd q (by decide), fun q => absurd q (by decide), fun q => absurd q (by decide), fun q => absurd q (by decide), fun q => absurd q (by decide), fun q => absurd q (by decide), fun q => absurd q (by decide), fun q => absurd q (by decide), fun q => absurd q (by decide), fun q => absurd q (by decide), fun q => absurd q (by decide), fun q => absurd q (by decide), fun q => absurd q (by decide), fun q => absurd q (by decide), ⟨fun q => absurd q (by decide), fun q => absurd q (by decide), fun q => absurd q (by decide)⟩, ⟨by decide, by decide⟩⟩))), hxt_731⟩
  · have hb1_778 : r_73 = 1 := by omega
    replace c_18 := fun _ : Unit => c_18
    have e_779 : μ36.1 111 22 = μ.1 111 22 := ((hp_39 22 (by decide)).trans (hp_3 22 (by decide)))
    have e_780 : μ36.1 111 29 = μ.1 111 29 := ((hp_39 29 (by decide)).trans (hp_3 29 (by decide)))
    have e_781 : μ36.1 111 39 = μ.1 111 39 := ((hp_39 39 (by decide)).trans (hp_3 39 (by decide)))
    have e_782 : μ36.1 111 31 = μ.1 111 31 := ((hp_39 31 (by decide)).trans (hp_3 31 (by decide)))
    have e_783 : μ36.1 111 32 = μ.1 111 32 := ((hp_39 32 (by decide)).trans (hp_3 32 (by decide)))
    have hxt_784 : mEXT μ μ36 := (q0m.fr (K := [111]) (FrM.tr (FrM.tr FrM.rf F_2 (by decide)) F_38 (by decide)) (by decide) (by decide) (by decide) ((hp_39 22 (by decide)).trans (hp_3 22 (by decide))) (nS.le (Int.le_trans (Int.le_of_eq (hp_3 29 (by decide)).symm) (Int.le_of_eq (hp_39 29 (by decide)).symm)) (Int.le_trans (Int.le_of_eq (hp_3 31 (by decide)).symm) (Int.le_of_eq (hp_39 31 (by decide)).symm)))).1
    exact xr_v G hret hlk dX12_lets_21 ⟨(FrM.tr (FrM.tr FrM.rf F_2 (by decide)) F_38 (by decide)), (fun j hj => ((hp_39 j (fun h9 => hj ((by decide : ∀ x ∈ ([6, 8, 9, 10, 11, 12, 13, 15] : List Int), x ∈ ([6, 8, 9, 10, 11, 12, 13, 15, 16, 17, 18, 22, 29, 31, 32, 34, 35, 36, 37, 39] : List Int)) j h9))).trans (hp_3 j (fun h9 => hj ((by decide : ∀ x ∈ ([6, 8, 9, 10, 11, 12, 13, 15] : List Int), x ∈ ([6, 8, 9, 10, 11, 12, 13, 15, 16, 17, 18, 22, 29, 31, 32, 34, 35, 36, 37, 39] : List Int)) j h9))))), hp_40, (by (repeat' apply And.intro) <;> omega), (by (repeat' apply And.intro) <;> omega), (by (repeat' apply And.intro) <;> omega), ⟨by omega, (Int.le_trans ((hp_6 ()).2) ((hp_43 ()).2))⟩, (by (repeat' apply And.intro) <;> omega), (by (repeat' apply And.intro) <;> omega), (fun j hj => ((F_38.1 126 (by decide) j).trans (F_2.1 126 (by decide) j))), (by (repeat' apply And.intro) <;> omega), (by (repeat' apply And.intro) <;> omega), (fun _ h0 => (by exfalso; omega)), hxt_784⟩

set_option maxHeartbeats 4000000 in
set_option maxRecDepth 100000 in
theorem c_X12_ifs (ω : Om) (l : Launch) (μ : M3) (F : Nat) (Lo : Nat) (kf : Int) (tt : Int) (htt : tt = μ.1 111 14) (hF : 200 ≤ F) (hLo : 6000 ≤ Lo) (hK : ∀ (μ : M3) (tt : Int) (htt : tt = μ.1 111 14) (hPM : PM μ) (hnn : 0 ≤ nn μ ∧ nn μ ≤ 9 ∧ 9 * wr μ ≤ nn μ) (hn8 : nn μ ≤ 8 + wr μ) (hcd : 0 ≤ μ.1 111 22 ∧ μ.1 111 22 ≤ 2 * μ.1 111 9 + 8 * nn μ + 60) (hW : 0 ≤ μ.1 111 39 ∧ μ.1 111 39 ≤ μ.1 111 22) (hsl : 0 ≤ μ.1 111 31 ∧ μ.1 111 31 ≤ 300) (hvr : 0 ≤ μ.1 111 32 ∧ μ.1 111 32 ≤ μ.1 111 9) (hfu : 0 ≤ (kf - 1) ∧ 8 ≤ nn μ + (kf - 1)) (hS0 : ∀ _ : Unit, bd μ = 0 → mS0 μ), CtV ω l yX12_block cX12_block 1 (F + 0) (Lo + 0) [.ref (oP ω 111)] μ (fun (μ' : M3) => (FrM [111, 113, 115, 116, 117, 123, 124, 126] μ μ') ∧ (∀ j, j ∉ ([6, 8, 9, 10, 11, 12, 13, 15, 16, 17, 18, 22, 29, 31, 32, 34, 35, 36, 37, 39] : List Int) → μ'.1 111 j = μ.1 111 j) ∧ (PM μ') ∧ (μ.1 111 22 ≤ μ'.1 111 22 ∧ μ'.1 111 22 ≤ μ.1 111 22 + 2 * (μ'.1 111 9 - μ.1 111 9) + 8 * (nn μ' - nn μ) + (- 4 - 4 * wr μ' + 8 * wr μ)) ∧ (μ.1 111 9 + 1 ≤ μ'.1 111 9 + wr μ') ∧ (μ.1 111 29 ≤ μ'.1 111 29) ∧ (wr μ ≤ wr μ' ∧ bd μ ≤ bd μ') ∧ (nn μ ≤ nn μ' ∧ nn μ' ≤ nn μ + 9 * wr μ' ∧ nn μ' ≤ 9 ∧ 9 * wr μ' ≤ nn μ') ∧ (μ'.1 111 39 = μ.1 111 39) ∧ (∀ j, j < μ.1 111 39 → μ'.1 126 j = μ.1 126 j) ∧ (μ.1 111 31 ≤ μ'.1 111 31 ∧ μ'.1 111 31 ≤ 300) ∧ (0 ≤ μ'.1 111 32 ∧ μ'.1 111 32 ≤ μ'.1 111 9) ∧ (∀ _ : Unit, bd μ' = 0 → mEX μ μ' tt 0 (2 * (8 - nn μ)) 101) ∧ (mEXT μ μ'))) (hPM : PM μ) (hnn : 0 ≤ nn μ ∧ nn μ ≤ 9 ∧ 9 * wr μ ≤ nn μ) (hn8 : nn μ ≤ 8 + wr μ) (hcd : 0 ≤ μ.1 111 22 ∧ μ.1 111 22 ≤ 2 * μ.1 111 9 + 8 * nn μ + 54) (hW : 0 ≤ μ.1 111 39 ∧ μ.1 111 39 ≤ μ.1 111 22) (hsl : 0 ≤ μ.1 111 31 ∧ μ.1 111 31 ≤ 300) (hvr : 0 ≤ μ.1 111 32 ∧ μ.1 111 32 ≤ μ.1 111 9) (hw0 : wr μ = 0) (hfu : 1 ≤ kf ∧ 9 ≤ nn μ + kf) (hS1 : ∀ _ : Unit, bd μ = 0 → mS1 μ tt) (hst : μ.1 111 8 = 1) : CtV ω l yX12_ifs cX12_ifs 3 (F + 1) (Lo + 20) [.ref (oP ω 111)] μ (fun (μ' : M3) => (FrM [111, 113, 115, 116, 117, 123, 124, 126] μ μ') ∧ (∀ j, j ∉ ([6, 8, 9, 10, 11, 12, 13, 15, 16, 17, 18, 22, 29, 31, 32, 34, 35, 36, 37, 39] : List Int) → μ'.1 111 j = μ.1 111 j) ∧ (PM μ') ∧ (μ.1 111 22 ≤ μ'.1 111 22 ∧ μ'.1 111 22 ≤ μ.1 111 22 + 2 * (μ'.1 111 9 - μ.1 111 9) + 8 * (nn μ' - nn μ) + (- 1)) ∧ (μ.1 111 9 + 1 ≤ μ'.1 111 9 + wr μ') ∧ (μ.1 111 29 ≤ μ'.1 111 29) ∧ (wr μ ≤ wr μ' ∧ bd μ ≤ bd μ') ∧ (nn μ ≤ nn μ' ∧ nn μ' ≤ nn μ + 9 * wr μ' ∧ nn μ' ≤ 9 ∧ 9 * wr μ' ≤ nn μ') ∧ (μ'.1 111 39 = μ.1 111 39) ∧ (∀ j, j < μ.1 111 39 → μ'.1 126 j = μ.1 126 j) ∧ (μ.1 111 31 ≤ μ'.1 111 31 ∧ μ'.1 111 31 ≤ 300) ∧ (0 ≤ μ'.1 111 32 ∧ μ'.1 111 32 ≤ μ'.1 111 9) ∧ (∀ _ : Unit, bd μ' = 0 → mEY μ μ' tt ((2 * (9 - nn μ)))) ∧ (mEXT μ μ')) := by
  refine CtV.go (by decide) (Nat.le_of_ble_eq_true rfl) (fun ρ p e s m below meth c R ls G hR hret hlk hl => ?_)
  have hx := G.1.1
  have hb := G.1.2.1
  have hl : lv_has ls 3 [(0, .ref (oP ω 111))] := hl
  generalize s.drawn = d0 at G ⊢
  have hw_0 := wr_r (μ := μ)
  have hpp_ := hPM.1.2.1
  have hpn_ := hPM.2.1
  have hpt_ := hPM.1.2.2.2.1
  have hpw_ := hPM.1.2.2.2.2.1
  have hpa_ := hPM.1.1
  have hht_0 : ∀ _ : Unit, bd μ = 0 → mHt μ 0 := fun _ h0 => (hS1 () h0).h
  refine lv_aload_n hx hb dX12_ifs_0 rfl (lv_at hl 0 rfl) ?_
  refine xc_vV G (b := 111) (rest := []) (As := []) (c_X12_next ω l μ  hPM (by (repeat' apply And.intro) <;> omega) (by (repeat' apply And.intro) <;> omega)) (wm 9 0 rfl rfl) (wm 9 2 rfl rfl) (wm 0 119 rfl rfl) rfl rfl (by decide) rfl (wm 1 18 rfl rfl) (wm 9 3 rfl rfl) (by decide) hR ⟨nfB hF (by decide), nlB hLo (by decide)⟩ (n := 0) rfl rfl (Nat.le_of_ble_eq_true rfl) hl.1 dX12_ifs_1 (fun μ1 ρ d0 H locs hp G => ?_)
  obtain ⟨F_2, hp_3, hp_4, hp_5, hp_6, hp_7⟩ := hp
  have hpl_8 := hp_4.pl
  have hw_9 := wr_r (μ := μ1)
  have vl_10 := hp_5
  replace hp_5 := fun _ : Unit => hp_5
  have vl_11 := hp_6
  replace hp_6 := fun _ : Unit => hp_6
  have vl_12 := hp_7
  replace hp_7 := fun _ : Unit => hp_7
  obtain ⟨hv_15, hv_16, hv_17, hv_18, hv_19, hv_20, hv_21, hv_22, hv_23, hv_24, hv_25, hv_26, hv_27, hv_28, hv_29, hv_30, hv_31, hv_32⟩ : μ.1 111 22 ≤ μ.1 111 22 ∧ μ.1 111 22 ≤ μ.1 111 22 + 2 * (μ1.1 111 9 - μ.1 111 9) + 8 * (nn μ1 - nn μ) - 2 + -6 * wr μ1 ∧ μ.1 111 9 + 1 ≤ μ1.1 111 9 ∧ nn μ + 0 ≤ nn μ1 ∧ nn μ1 ≤ nn μ + 0 + 9 * wr μ1 ∧ nn μ1 ≤ 8 + wr μ1 ∧ 9 * wr μ1 ≤ nn μ1 ∧ nn μ1 ≤ 9 ∧ wr μ ≤ wr μ1 ∧ wr μ1 ≤ 1 ∧ wr μ1 ≤ bd μ1 ∧ bd μ1 ≤ 1 ∧ μ.1 111 29 ≤ μ.1 111 29 ∧ μ.1 111 31 ≤ μ.1 111 31 ∧ μ.1 111 31 ≤ 300 ∧ 0 ≤ μ.1 111 32 ∧ μ.1 111 32 ≤ μ1.1 111 9 ∧ μ1.1 111 9 ≤ 3000 := by (repeat' apply And.intro) <;> omega
  clear hpl_8 hw_9 vl_10 vl_11 vl_12
  refine lv_aload_n hx hb dX12_ifs_4 rfl (lv_at hl 0 rfl) ?_
  refine lv_bipush (v := iv 40) hx hb dX12_ifs_5 rfl ?_
  have hw_33 := wr_r (μ := μ1)
  refine xc_vV G (b := 111) (rest := []) (As := [.int (iv 40)]) (c_X12_opensWith ω l μ1 40 (by unfold ir; decide) hp_4 (by (repeat' apply And.intro) <;> omega) (by (repeat' apply And.intro) <;> omega)) (wm 9 86 rfl rfl) (wm 9 88 rfl rfl) (wm 0 134 rfl rfl) rfl rfl (by decide) rfl (wm 1 18 rfl rfl) (wm 9 89 rfl rfl) (by decide) hR ⟨nfB hF (by decide), nlB hLo (by decide)⟩ (n := 1) rfl rfl (Nat.le_of_ble_eq_true rfl) hl.1 dX12_ifs_7 (fun μ34 ρ d0 H locs hp G => ?_)
  obtain ⟨F_35, hp_36, hp_37, hp_38, hp_39, hp_40, hp_41⟩ := hp
  have hpl_42 := hp_37.pl
  have hw_43 := wr_r (μ := μ34)
  have vl_44 := hp_38
  replace hp_38 := fun _ : Unit => hp_38
  have vl_45 := hp_39
  replace hp_39 := fun _ : Unit => hp_39
  have vl_46 := hp_40
  replace hp_40 := fun _ : Unit => hp_40
  have vl_47 := hp_41
  replace hp_41 := fun _ : Unit => hp_41
  obtain ⟨hv_50, hv_51, hv_52, hv_53, hv_54, hv_55, hv_56, hv_57, hv_58, hv_59, hv_60, hv_61, hv_62, hv_63, hv_64, hv_65, hv_66, hv_67⟩ : μ.1 111 22 ≤ μ.1 111 22 ∧ μ.1 111 22 ≤ μ.1 111 22 + 2 * (μ34.1 111 9 - μ.1 111 9) + 8 * (nn μ34 - nn μ) - 12 + 4 * wr μ34 ∧ μ.1 111 9 + 1 ≤ μ34.1 111 9 ∧ nn μ + 1 ≤ nn μ34 ∧ nn μ34 ≤ nn μ + 1 + 9 * wr μ34 ∧ nn μ34 ≤ 8 + wr μ34 ∧ 9 * wr μ34 ≤ nn μ34 ∧ nn μ34 ≤ 9 ∧ wr μ ≤ wr μ34 ∧ wr μ34 ≤ 1 ∧ wr μ34 ≤ bd μ34 ∧ bd μ34 ≤ 1 ∧ μ.1 111 29 ≤ μ.1 111 29 ∧ μ.1 111 31 ≤ μ.1 111 31 ∧ μ.1 111 31 ≤ 300 ∧ 0 ≤ μ.1 111 32 ∧ μ.1 111 32 ≤ μ34.1 111 9 ∧ μ34.1 111 9 ≤ 3000 := by (repeat' apply And.intro) <;> omega
  clear hv_15 hv_16 hv_17 hv_18 hv_19 hv_20 hv_21 hv_22 hv_23 hv_24 hv_25 hv_26 hv_27 hv_28 hv_29 hv_30 hv_31 hv_32 hw_33 hpl_42 hw_43 vl_44 vl_45 vl_46 vl_47
  refine lv_aload_n hx hb dX12_ifs_10 rfl (lv_at hl 0 rfl) ?_
  have hq_68 : ∀ _ : Unit, q0m μ μ34 := fun _ => (q0m.fr (K := [111]) (FrM.tr (FrM.tr FrM.rf F_2 (by decide)) F_35 (by decide)) (by decide) (by decide) (by decide) ((hp_36 22 (by decide)).trans (hp_3 22 (by decide))) (nS.le (Int.le_trans (Int.le_of_eq (hp_3 29 (by decide)).symm) (Int.le_of_eq (hp_36 29 (by decide)).symm)) (Int.le_trans (Int.le_of_eq (hp_3 31 (by decide)).symm) (Int.le_of_eq (hp_36 31 (by decide)).symm))))
  have hw_69 := wr_r (μ := μ34)
  have hht_70 : ∀ _ : Unit, bd μ34 = 0 → mHt μ34 0 := fun _ h0 => (hht_0 () (bd_z (Int.le_trans ((hp_6 ()).2) ((hp_40 ()).2)) h0)).qm (hq_68 ())
  have e_71 : μ34.1 111 29 = μ.1 111 29 := ((hp_36 29 (by decide)).trans (hp_3 29 (by decide)))
  have hxt_72 : mEXT μ μ34 := (q0m.fr (K := [111]) (FrM.tr (FrM.tr FrM.rf F_2 (by decide)) F_35 (by decide)) (by decide) (by decide) (by decide) ((hp_36 22 (by decide)).trans (hp_3 22 (by decide))) (nS.le (Int.le_trans (Int.le_of_eq (hp_3 29 (by decide)).symm) (Int.le_of_eq (hp_36 29 (by decide)).symm)) (Int.le_trans (Int.le_of_eq (hp_3 31 (by decide)).symm) (Int.le_of_eq (hp_36 31 (by decide)).symm)))).1
  have e_73 : μ34.1 111 14 = tt := ((hp_36 14 (by decide)).trans ((hp_3 14 (by decide)).trans htt.symm))
  have e_74 : μ34.1 111 22 = μ.1 111 22 := ((hp_36 22 (by decide)).trans (hp_3 22 (by decide)))
  have e_76 : μ34.1 111 39 = μ.1 111 39 := ((hp_36 39 (by decide)).trans (hp_3 39 (by decide)))
  have e_79 : μ34.1 111 31 = μ.1 111 31 := ((hp_36 31 (by decide)).trans (hp_3 31 (by decide)))
  refine xc_vV G (b := 111) (rest := []) (As := []) (c_X12_expr_a ω l μ34 tt (by (repeat' apply And.intro) <;> omega) hp_37 (by (repeat' apply And.intro) <;> omega) (by (repeat' apply And.intro) <;> omega) (by (repeat' apply And.intro) <;> omega) (by (repeat' apply And.intro) <;> omega) (by (repeat' apply And.intro) <;> omega) (fun _ h0 => (hht_70 () h0).p (by decide))) (wm 9 139 rfl rfl) (wm 9 141 rfl rfl) (wm 0 147 rfl rfl) rfl rfl (by decide) rfl (wm 1 18 rfl rfl) (wm 9 142 rfl rfl) (by decide) hR ⟨nfB hF (by decide), nlB hLo (by decide)⟩ (n := 0) rfl rfl (Nat.le_of_ble_eq_true rfl) hl.1 dX12_ifs_11 (fun μ85 ρ d0 H locs hp G => ?_)
  obtain ⟨F_86, hp_87, hp_88, hp_89, hp_90, hp_91, hp_92, hp_93, hp_94, hp_95, hp_96, hp_97⟩ := hp
  have hpl_98 := hp_88.pl
  have hw_99 := wr_r (μ := μ85)
  have hxt_100 : mEXT μ μ85 := hxt_72.tr hp_97
  have hwk_101 : ∀ j, j < μ.1 111 39 → μ85.1 126 j = μ34.1 126 j := fun j hj => hp_95 j (by omega)
  have hex_102 : ∀ _ : Unit, bd μ85 = 0 → mEX μ34 μ85 tt 1 0 99 := fun _ h0 => (hp_96 () h0).mn (Int.le_refl _) (by omega)
  have hht_103 : ∀ _ : Unit, bd μ85 = 0 → mHt μ85 1 := fun _ h0 => (hht_70 () (bd_z (hp_92.2) h0)).ex (hex_102 () h0) rfl
  have vl_104 := hp_89
  replace hp_89 := fun _ : Unit => hp_89
  have vl_105 := hp_90
  replace hp_90 := fun _ : Unit => hp_90
  have vl_106 := hp_91
  replace hp_91 := fun _ : Unit => hp_91
  have vl_107 := hp_92
  replace hp_92 := fun _ : Unit => hp_92
  have vl_108 := hp_93
  replace hp_93 := fun _ : Unit => hp_93
  have vl_109 := hp_94
  replace hp_94 := fun _ : Unit => hp_94
  have h39_110 : μ85.1 111 39 = μ.1 111 39 := by omega
  obtain ⟨hv_113, hv_114, hv_115, hv_116, hv_117, hv_118, hv_119, hv_120, hv_121, hv_122, hv_123, hv_124, hv_125, hv_126, hv_127, hv_128, hv_129, hv_130⟩ : μ.1 111 22 ≤ μ85.1 111 22 ∧ μ85.1 111 22 ≤ μ.1 111 22 + 2 * (μ85.1 111 9 - μ.1 111 9) + 8 * (nn μ85 - nn μ) - 13 + 5 * wr μ85 ∧ μ.1 111 9 + 1 ≤ μ85.1 111 9 ∧ nn μ + 1 ≤ nn μ85 ∧ nn μ85 ≤ nn μ + 1 + 9 * wr μ85 ∧ nn μ85 ≤ 8 + wr μ85 ∧ 9 * wr μ85 ≤ nn μ85 ∧ nn μ85 ≤ 9 ∧ wr μ ≤ wr μ85 ∧ wr μ85 ≤ 1 ∧ wr μ85 ≤ bd μ85 ∧ bd μ85 ≤ 1 ∧ μ.1 111 29 ≤ μ85.1 111 29 ∧ μ.1 111 31 ≤ μ.1 111 31 ∧ μ.1 111 31 ≤ 300 ∧ 0 ≤ μ.1 111 32 ∧ μ.1 111 32 ≤ μ85.1 111 9 ∧ μ85.1 111 9 ≤ 3000 := by (repeat' apply And.intro) <;> omega
  clear hv_50 hv_51 hv_52 hv_53 hv_54 hv_55 hv_56 hv_57 hv_58 hv_59 hv_60 hv_61 hv_62 hv_63 hv_64 hv_65 hv_66 hv_67 hw_69 e_71 e_73 e_74 e_76 e_79 hpl_98 hw_99 vl_104 vl_105 vl_106 vl_107 vl_108 vl_109
  refine lv_aload_n hx hb dX12_ifs_14 rfl (lv_at hl 0 rfl) ?_
  refine lv_bipush (v := iv 41) hx hb dX12_ifs_15 rfl ?_
  have hw_131 := wr_r (μ := μ85)
  refine xc_vV G (b := 111) (rest := []) (As := [.int (iv 41)]) (c_X12_closesWith ω l μ85 41 (by unfold ir; decide) hp_88 (by (repeat' apply And.intro) <;> omega) (by (repeat' apply And.intro) <;> omega)) (wm 9 110 rfl rfl) (wm 9 112 rfl rfl) (wm 0 140 rfl rfl) rfl rfl (by decide) rfl (wm 1 18 rfl rfl) (wm 9 113 rfl rfl) (by decide) hR ⟨nfB hF (by decide), nlB hLo (by decide)⟩ (n := 1) rfl rfl (Nat.le_of_ble_eq_true rfl) hl.1 dX12_ifs_17 (fun μ132 ρ d0 H locs hp G => ?_)
  obtain ⟨F_133, hp_134, hp_135, hp_136, hp_137, hp_138, hp_139⟩ := hp
  have hpl_140 := hp_135.pl
  have hw_141 := wr_r (μ := μ132)
  have vl_142 := hp_136
  replace hp_136 := fun _ : Unit => hp_136
  have vl_143 := hp_137
  replace hp_137 := fun _ : Unit => hp_137
  have vl_144 := hp_138
  replace hp_138 := fun _ : Unit => hp_138
  have vl_145 := hp_139
  replace hp_139 := fun _ : Unit => hp_139
  obtain ⟨hv_148, hv_149, hv_150, hv_151, hv_152, hv_153, hv_154, hv_155, hv_156, hv_157, hv_158, hv_159, hv_160, hv_161, hv_162, hv_163, hv_164, hv_165⟩ : μ.1 111 22 ≤ μ85.1 111 22 ∧ μ85.1 111 22 ≤ μ.1 111 22 + 2 * (μ132.1 111 9 - μ.1 111 9) + 8 * (nn μ132 - nn μ) - 7 + -1 * wr μ132 ∧ μ.1 111 9 + 1 ≤ μ132.1 111 9 ∧ nn μ + 0 ≤ nn μ132 ∧ nn μ132 ≤ nn μ + 0 + 9 * wr μ132 ∧ nn μ132 ≤ 8 + wr μ132 ∧ 9 * wr μ132 ≤ nn μ132 ∧ nn μ132 ≤ 9 ∧ wr μ ≤ wr μ132 ∧ wr μ132 ≤ 1 ∧ wr μ132 ≤ bd μ132 ∧ bd μ132 ≤ 1 ∧ μ.1 111 29 ≤ μ85.1 111 29 ∧ μ.1 111 31 ≤ μ.1 111 31 ∧ μ.1 111 31 ≤ 300 ∧ 0 ≤ μ.1 111 32 ∧ μ.1 111 32 ≤ μ132.1 111 9 ∧ μ132.1 111 9 ≤ 3000 := by (repeat' apply And.intro) <;> omega
  clear hv_113 hv_114 hv_115 hv_116 hv_117 hv_118 hv_119 hv_120 hv_121 hv_122 hv_123 hv_124 hv_125 hv_126 hv_127 hv_128 hv_129 hv_130 hw_131 hpl_140 hw_141 vl_142 vl_143 vl_144 vl_145
  refine lv_aload_n hx hb dX12_ifs_20 rfl (lv_at hl 0 rfl) ?_
  refine lv_bipush (v := iv 7) hx hb dX12_ifs_21 rfl ?_
  refine lv_lconst (v := jv 0) hx hb dX12_ifs_23 rfl ?_
  refine lv_iconst (v := iv 0) hx hb dX12_ifs_24 rfl ?_
  have hq_166 : ∀ _ : Unit, q0m μ85 μ132 := fun _ => (q0m.fr (K := [111]) (FrM.tr FrM.rf F_133 (by decide)) (by decide) (by decide) (by decide) (hp_134 22 (by decide)) (nS.le (Int.le_of_eq (hp_134 29 (by decide)).symm) (Int.le_of_eq (hp_134 31 (by decide)).symm)))
  have hw_167 := wr_r (μ := μ132)
  have hht_168 : ∀ _ : Unit, bd μ132 = 0 → mHt μ132 1 := fun _ h0 => (hht_103 () (bd_z ((hp_138 ()).2) h0)).qm (hq_166 ())
  have e_169 : μ132.1 111 29 = μ85.1 111 29 := (hp_134 29 (by decide))
  have hxt_170 : mEXT μ μ132 := hxt_100.tr (q0m.fr (K := [111]) (FrM.tr FrM.rf F_133 (by decide)) (by decide) (by decide) (by decide) (hp_134 22 (by decide)) (nS.le (Int.le_of_eq (hp_134 29 (by decide)).symm) (Int.le_of_eq (hp_134 31 (by decide)).symm))).1
  have e_171 : μ132.1 111 22 = μ85.1 111 22 := (hp_134 22 (by decide))
  refine xc_iV G (b := 111) (rest := []) (As := [.int (iv 7), .long (jv 0), .int (iv 0)]) (c_X12_emit ω l μ132 7 0 0 (by unfold ir; decide) (by unfold jr; omega) (by unfold ir; decide) (by (repeat' apply And.intro) <;> omega)) (wm 9 126 rfl rfl) (wm 9 128 rfl rfl) (wm 0 144 rfl rfl) rfl rfl (by decide) rfl (wm 1 18 rfl rfl) (wm 9 129 rfl rfl) (by decide) hR ⟨nfB hF (by decide), nlB hLo (by decide)⟩ (n := 3) rfl rfl (Nat.le_of_ble_eq_true rfl) hl.1 dX12_ifs_25 (fun r_176 μ175 ρ d0 H locs hr_r_176 hp G => ?_)
  have hr_r_176 : -2147483648 ≤ r_176 ∧ r_176 ≤ 2147483647 := hr_r_176
  obtain ⟨F_177, hp_178, hp_179, hp_180, hp_181⟩ := hp
  have hxt_182 : mEXT μ μ175 := hxt_170.tr hp_179.1
  have hht_183 : ∀ _ : Unit, bd μ175 = 0 → mHt μ175 0 := fun _ h0 => (hht_168 () (bd_z (Int.le_of_eq (bd_cg (hp_178 15 (by decide)) (hp_178 16 (by decide)) (hp_178 17 (by decide))).symm) h0)).ad hp_179 rfl
  have hps_r_176 : μ.1 111 22 ≤ r_176 := by omega
  have vl_184 := hp_181
  replace hp_181 := fun _ : Unit => hp_181
  obtain ⟨hv_187, hv_188, hv_189, hv_190, hv_191, hv_192, hv_193, hv_194, hv_195, hv_196, hv_197, hv_198, hv_199, hv_200, hv_201, hv_202, hv_203, hv_204, hv_205⟩ : μ.1 111 22 ≤ μ175.1 111 22 ∧ μ175.1 111 22 ≤ μ.1 111 22 + 2 * (μ132.1 111 9 - μ.1 111 9) + 8 * (nn μ132 - nn μ) - 6 + -1 * wr μ132 ∧ μ.1 111 9 + 1 ≤ μ132.1 111 9 ∧ nn μ + 0 ≤ nn μ132 ∧ nn μ132 ≤ nn μ + 0 + 9 * wr μ132 ∧ nn μ132 ≤ 8 + wr μ132 ∧ 9 * wr μ132 ≤ nn μ132 ∧ nn μ132 ≤ 9 ∧ wr μ ≤ wr μ132 ∧ wr μ132 ≤ 1 ∧ wr μ132 ≤ bd μ132 ∧ bd μ132 ≤ 1 ∧ r_176 + 1 ≤ μ175.1 111 22 ∧ μ.1 111 29 ≤ μ85.1 111 29 ∧ μ.1 111 31 ≤ μ.1 111 31 ∧ μ.1 111 31 ≤ 300 ∧ 0 ≤ μ.1 111 32 ∧ μ.1 111 32 ≤ μ132.1 111 9 ∧ μ132.1 111 9 ≤ 3000 := by (repeat' apply And.intro) <;> omega
  clear hv_148 hv_149 hv_150 hv_151 hv_152 hv_153 hv_154 hv_155 hv_156 hv_157 hv_158 hv_159 hv_160 hv_161 hv_162 hv_163 hv_164 hv_165 hw_167 e_169 e_171 vl_184
  refine lv_istore_n (lv' := [(1, .int (iv r_176)), (0, .ref (oP ω 111))]) hx hb dX12_ifs_28 rfl hl (by decide) rfl (fun ls hl => ?_)
  refine lv_aload_n hx hb dX12_ifs_29 rfl (lv_at hl 1 rfl) ?_
  have e_206 : μ175.1 111 29 = μ85.1 111 29 := ((hp_178 29 (by decide)).trans (hp_134 29 (by decide)))
  have e_207 : μ175.1 111 14 = tt := ((hp_178 14 (by decide)).trans ((hp_134 14 (by decide)).trans ((hp_87 14 (by decide)).trans ((hp_36 14 (by decide)).trans ((hp_3 14 (by decide)).trans htt.symm)))))
  have hPM_208 : PM μ175 := hp_135.cg ((((hp_178 4 (by decide)).trans ((hp_134 4 (by decide)).trans ((hp_87 4 (by decide)).trans ((hp_36 4 (by decide)).trans (hp_3 4 (by decide))))))).trans (((hp_134 4 (by decide)).trans ((hp_87 4 (by decide)).trans ((hp_36 4 (by decide)).trans (hp_3 4 (by decide)))))).symm) (hp_178 6 (by decide)) ((((hp_178 7 (by decide)).trans ((hp_134 7 (by decide)).trans ((hp_87 7 (by decide)).trans ((hp_36 7 (by decide)).trans (hp_3 7 (by decide))))))).trans (((hp_134 7 (by decide)).trans ((hp_87 7 (by decide)).trans ((hp_36 7 (by decide)).trans (hp_3 7 (by decide)))))).symm) (hp_178 8 (by decide)) (hp_178 9 (by decide)) (hp_178 11 (by decide)) (hp_178 12 (by decide)) ((((hp_178 14 (by decide)).trans ((hp_134 14 (by decide)).trans ((hp_87 14 (by decide)).trans ((hp_36 14 (by decide)).trans ((hp_3 14 (by decide)).trans htt.symm)))))).trans (((hp_134 14 (by decide)).trans ((hp_87 14 (by decide)).trans ((hp_36 14 (by decide)).trans ((hp_3 14 (by decide)).trans htt.symm))))).symm) (hp_178 15 (by decide)) ((((hp_178 29 (by decide)).trans (hp_134 29 (by decide)))).trans ((hp_134 29 (by decide))).symm) (fun j => (F_177.1 123 (by decide) j))
  have e_209 : wr μ175 = wr μ132 := (wr_cg (hp_178 15 (by decide)))
  have hw_210 := wr_r (μ := μ132)
  have e_211 : nn μ175 = nn μ132 := (nn_cg (hp_178 15 (by decide)) (hp_178 18 (by decide)))
  have e_214 : μ175.1 111 9 = μ132.1 111 9 := (hp_178 9 (by decide))
  have e_216 : μ175.1 111 39 = μ85.1 111 39 := ((hp_178 39 (by decide)).trans (hp_134 39 (by decide)))
  have e_218 : μ175.1 111 31 = μ.1 111 31 := ((hp_178 31 (by decide)).trans ((hp_134 31 (by decide)).trans ((hp_87 31 (by decide)).trans ((hp_36 31 (by decide)).trans (hp_3 31 (by decide))))))
  have e_220 : μ175.1 111 32 = μ.1 111 32 := ((hp_178 32 (by decide)).trans ((hp_134 32 (by decide)).trans ((hp_87 32 (by decide)).trans ((hp_36 32 (by decide)).trans (hp_3 32 (by decide))))))
  have e_230 : bd μ175 = bd μ132 := (bd_cg (hp_178 15 (by decide)) (hp_178 16 (by decide)) (hp_178 17 (by decide)))
  refine xc_vV G (b := 111) (rest := []) (As := []) (((fun (_ : Om) (_ : Launch) => hK)) ω l μ175 tt (by (repeat' apply And.intro) <;> omega) hPM_208 (by (repeat' apply And.intro) <;> omega) (by (repeat' apply And.intro) <;> omega) (by (repeat' apply And.intro) <;> omega) (by (repeat' apply And.intro) <;> omega) (by (repeat' apply And.intro) <;> omega) (by (repeat' apply And.intro) <;> omega) (by (repeat' apply And.intro) <;> omega) (fun _ h0 => (hht_183 () h0).s)) (wm 9 118 rfl rfl) (wm 9 120 rfl rfl) (wm 0 142 rfl rfl) rfl rfl (by decide) rfl (wm 1 18 rfl rfl) (wm 9 121 rfl rfl) (by decide) hR ⟨sfr (F := F) (a := 0) (by decide), slo (L := Lo) (m := 1) (a := 0) (by decide)⟩ (n := 0) rfl rfl (Nat.le_of_ble_eq_true rfl) hl.1 dX12_ifs_30 (fun μ234 ρ d0 H locs hp G => ?_)
  obtain ⟨F_235, hp_236, hp_237, hp_238, hp_239, hp_240, hp_241, hp_242, hp_243, hp_244, hp_245, hp_246, hp_247, hp_248⟩ := hp
  have hpl_249 := hp_237.pl
  have hw_250 := wr_r (μ := μ234)
  have hw_251 := wr_r (μ := μ175)
  have hxt_252 : mEXT μ μ234 := hxt_182.tr hp_248
  have hwk_253 : ∀ j, j < μ.1 111 39 → μ234.1 126 j = μ175.1 126 j := fun j hj => hp_244 j (by omega)
  have hex_254 : ∀ _ : Unit, bd μ234 = 0 → mEX μ175 μ234 tt 0 (2 * (8 - nn μ)) 101 := fun _ h0 => (hp_247 () h0).mn (by omega) (Int.le_refl _)
  have hht_255 : ∀ _ : Unit, bd μ234 = 0 → mHt μ234 0 := fun _ h0 => (hht_183 () (bd_z (hp_241.2) h0)).ex (hex_254 () h0) rfl
  have vl_256 := hp_238
  replace hp_238 := fun _ : Unit => hp_238
  have vl_257 := hp_239
  replace hp_239 := fun _ : Unit => hp_239
  have vl_258 := hp_240
  replace hp_240 := fun _ : Unit => hp_240
  have vl_259 := hp_241
  replace hp_241 := fun _ : Unit => hp_241
  have vl_260 := hp_242
  replace hp_242 := fun _ : Unit => hp_242
  have vl_261 := hp_243
  replace hp_243 := fun _ : Unit => hp_243
  have vl_262 := hp_245
  replace hp_245 := fun _ : Unit => hp_245
  have vl_263 := hp_246
  replace hp_246 := fun _ : Unit => hp_246
  have h39_264 : μ234.1 111 39 = μ.1 111 39 := by omega
  obtain ⟨hv_267, hv_268, hv_269, hv_270, hv_271, hv_272, hv_273, hv_274, hv_275, hv_276, hv_277, hv_278, hv_279, hv_280, hv_281, hv_282, hv_283, hv_284, hv_285⟩ : μ.1 111 22 ≤ μ234.1 111 22 ∧ μ234.1 111 22 ≤ μ.1 111 22 + 2 * (μ234.1 111 9 - μ.1 111 9) + 8 * (nn μ234 - nn μ) - 10 + 3 * wr μ234 ∧ μ.1 111 9 + 1 ≤ μ234.1 111 9 ∧ nn μ + 0 ≤ nn μ234 ∧ nn μ234 ≤ nn μ + 0 + 9 * wr μ234 ∧ nn μ234 ≤ 8 + wr μ234 ∧ 9 * wr μ234 ≤ nn μ234 ∧ nn μ234 ≤ 9 ∧ wr μ ≤ wr μ234 ∧ wr μ234 ≤ 1 ∧ wr μ234 ≤ bd μ234 ∧ bd μ234 ≤ 1 ∧ r_176 + 1 ≤ μ234.1 111 22 ∧ μ.1 111 29 ≤ μ234.1 111 29 ∧ μ.1 111 31 ≤ μ234.1 111 31 ∧ μ234.1 111 31 ≤ 300 ∧ 0 ≤ μ234.1 111 32 ∧ μ234.1 111 32 ≤ μ234.1 111 9 ∧ μ234.1 111 9 ≤ 3000 := by (repeat' apply And.intro) <;> omega
  clear hv_187 hv_188 hv_189 hv_190 hv_191 hv_192 hv_193 hv_194 hv_195 hv_196 hv_197 hv_198 hv_199 hv_200 hv_201 hv_202 hv_203 hv_204 hv_205 e_206 e_207 e_209 hw_210 e_211 e_214 e_216 e_218 e_220 e_230 hpl_249 hw_250 hw_251 vl_256 vl_257 vl_258 vl_259 vl_260 vl_261 vl_262 vl_263
  refine lv_aload_n hx hb dX12_ifs_33 rfl (lv_at hl 1 rfl) ?_
  refine lv_iconst (v := iv 5) hx hb dX12_ifs_34 rfl ?_
  have hw_286 := wr_r (μ := μ234)
  refine xc_iV G (b := 111) (rest := []) (As := [.int (iv 5)]) (c_X12_isWord ω l μ234 5 (by unfold ir; decide)) (wm 9 62 rfl rfl) (wm 9 64 rfl rfl) (wm 0 128 rfl rfl) rfl rfl (by decide) rfl (wm 1 18 rfl rfl) (wm 9 65 rfl rfl) (by decide) hR ⟨nfB hF (by decide), nlB hLo (by decide)⟩ (n := 1) rfl rfl (Nat.le_of_ble_eq_true rfl) hl.1 dX12_ifs_35 (fun r_288 μ287 ρ d0 H locs hr_r_288 hp G => ?_)
  have hr_r_288 : -2147483648 ≤ r_288 ∧ r_288 ≤ 2147483647 := hr_r_288
  obtain ⟨hsm_289, hp_290⟩ := hp
  have hsm_289 := Eq.symm hsm_289
  subst hsm_289
  have hrb_r_288 : 0 ≤ r_288 ∧ r_288 ≤ 1 := sf_r hp_290
  replace hp_290 := fun _ : Unit => hp_290
  refine xb_if_ne (tgt := 47) hx hb (by unfold ir; exact ⟨by omega, by omega⟩) dX12_ifs_38 (by decide) (fun c_38 => ?_) (fun c_38 => ?_)
  · have hsg_291 := sf_t (hp_290 ()) c_38
    have hb1_292 : r_288 = 1 := by omega
    replace c_38 := fun _ : Unit => c_38
    refine lv_aload_n hx hb dX12_ifs_47 rfl (lv_at hl 1 rfl) ?_
    refine xc_vV G (b := 111) (rest := []) (As := []) (c_X12_next ω l μ234  hp_237 (by (repeat' apply And.intro) <;> omega) (by (repeat' apply And.intro) <;> omega)) (wm 9 0 rfl rfl) (wm 9 2 rfl rfl) (wm 0 119 rfl rfl) rfl rfl (by decide) rfl (wm 1 18 rfl rfl) (wm 9 3 rfl rfl) (by decide) hR ⟨nfB hF (by decide), nlB hLo (by decide)⟩ (n := 0) rfl rfl (Nat.le_of_ble_eq_true rfl) hl.1 dX12_ifs_48 (fun μ293 ρ d0 H locs hp G => ?_)
    obtain ⟨F_294, hp_295, hp_296, hp_297, hp_298, hp_299⟩ := hp
    have hpl_300 := hp_296.pl
    have hw_301 := wr_r (μ := μ293)
    have vl_302 := hp_297
    replace hp_297 := fun _ : Unit => hp_297
    have vl_303 := hp_298
    replace hp_298 := fun _ : Unit => hp_298
    have vl_304 := hp_299
    replace hp_299 := fun _ : Unit => hp_299
    obtain ⟨hv_307, hv_308, hv_309, hv_310, hv_311, hv_312, hv_313, hv_314, hv_315, hv_316, hv_317, hv_318, hv_319, hv_320, hv_321, hv_322, hv_323, hv_324, hv_325⟩ : μ.1 111 22 ≤ μ234.1 111 22 ∧ μ234.1 111 22 ≤ μ.1 111 22 + 2 * (μ293.1 111 9 - μ.1 111 9) + 8 * (nn μ293 - nn μ) - 12 + 5 * wr μ293 ∧ μ.1 111 9 + 1 ≤ μ293.1 111 9 ∧ nn μ + 0 ≤ nn μ293 ∧ nn μ293 ≤ nn μ + 0 + 9 * wr μ293 ∧ nn μ293 ≤ 8 + wr μ293 ∧ 9 * wr μ293 ≤ nn μ293 ∧ nn μ293 ≤ 9 ∧ wr μ ≤ wr μ293 ∧ wr μ293 ≤ 1 ∧ wr μ293 ≤ bd μ293 ∧ bd μ293 ≤ 1 ∧ r_176 + 1 ≤ μ234.1 111 22 ∧ μ.1 111 29 ≤ μ234.1 111 29 ∧ μ.1 111 31 ≤ μ234.1 111 31 ∧ μ234.1 111 31 ≤ 300 ∧ 0 ≤ μ234.1 111 32 ∧ μ234.1 111 32 ≤ μ293.1 111 9 ∧ μ293.1 111 9 ≤ 3000 := by (repeat' apply And.intro) <;> omega
    clear hv_267 hv_268 hv_269 hv_270 hv_271 hv_272 hv_273 hv_274 hv_275 hv_276 hv_277 hv_278 hv_279 hv_280 hv_281 hv_282 hv_283 hv_284 hv_285 hw_286 hpl_300 hw_301 vl_302 vl_303 vl_304
    refine lv_aload_n hx hb dX12_ifs_51 rfl (lv_at hl 1 rfl) ?_
    refine lv_bipush (v := iv 8) hx hb dX12_ifs_52 rfl ?_
    refine lv_lconst (v := jv 0) hx hb dX12_ifs_54 rfl ?_
    refine lv_iconst (v := iv 0) hx hb dX12_ifs_55 rfl ?_
    have hq_326 : ∀ _ : Unit, q0m μ234 μ293 := fun _ => (q0m.fr (K := [111]) (FrM.tr FrM.rf F_294 (by decide)) (by decide) (by decide) (by decide) (hp_295 22 (by decide)) (nS.le (Int.le_of_eq (hp_295 29 (by decide)).symm) (Int.le_of_eq (hp_295 31 (by decide)).symm)))
    have hw_327 := wr_r (μ := μ293)
    have hht_328 : ∀ _ : Unit, bd μ293 = 0 → mHt μ293 0 := fun _ h0 => (hht_255 () (bd_z ((hp_298 ()).2) h0)).qm (hq_326 ())
    have e_329 : μ293.1 111 29 = μ234.1 111 29 := (hp_295 29 (by decide))
    have hxt_330 : mEXT μ μ293 := hxt_252.tr (q0m.fr (K := [111]) (FrM.tr FrM.rf F_294 (by decide)) (by decide) (by decide) (by decide) (hp_295 22 (by decide)) (nS.le (Int.le_of_eq (hp_295 29 (by decide)).symm) (Int.le_of_eq (hp_295 31 (by decide)).symm))).1
    have e_331 : μ293.1 111 22 = μ234.1 111 22 := (hp_295 22 (by decide))
    refine xc_iV G (b := 111) (rest := []) (As := [.int (iv 8), .long (jv 0), .int (iv 0)]) (c_X12_emit ω l μ293 8 0 0 (by unfold ir; decide) (by unfold jr; omega) (by unfold ir; decide) (by (repeat' apply And.intro) <;> omega)) (wm 9 126 rfl rfl) (wm 9 128 rfl rfl) (wm 0 144 rfl rfl) rfl rfl (by decide) rfl (wm 1 18 rfl rfl) (wm 9 129 rfl rfl) (by decide) hR ⟨nfB hF (by decide), nlB hLo (by decide)⟩ (n := 3) rfl rfl (Nat.le_of_ble_eq_true rfl) hl.1 dX12_ifs_56 (fun r_336 μ335 ρ d0 H locs hr_r_336 hp G => ?_)
    have hr_r_336 : -2147483648 ≤ r_336 ∧ r_336 ≤ 2147483647 := hr_r_336
    obtain ⟨F_337, hp_338, hp_339, hp_340, hp_341⟩ := hp
    have hxt_342 : mEXT μ μ335 := hxt_330.tr hp_339.1
    have hht_343 : ∀ _ : Unit, bd μ335 = 0 → mHt μ335 0 := fun _ h0 => (hht_328 () (bd_z (Int.le_of_eq (bd_cg (hp_338 15 (by decide)) (hp_338 16 (by decide)) (hp_338 17 (by decide))).symm) h0)).ad hp_339 rfl
    have hps_r_336 : μ.1 111 22 ≤ r_336 := by omega
    have vl_344 := hp_341
    replace hp_341 := fun _ : Unit => hp_341
    obtain ⟨hv_347, hv_348, hv_349, hv_350, hv_351, hv_352, hv_353, hv_354, hv_355, hv_356, hv_357, hv_358, hv_359, hv_360, hv_361, hv_362, hv_363, hv_364, hv_365, hv_366⟩ : μ.1 111 22 ≤ μ335.1 111 22 ∧ μ335.1 111 22 ≤ μ.1 111 22 + 2 * (μ293.1 111 9 - μ.1 111 9) + 8 * (nn μ293 - nn μ) - 11 + 5 * wr μ293 ∧ μ.1 111 9 + 1 ≤ μ293.1 111 9 ∧ nn μ + 0 ≤ nn μ293 ∧ nn μ293 ≤ nn μ + 0 + 9 * wr μ293 ∧ nn μ293 ≤ 8 + wr μ293 ∧ 9 * wr μ293 ≤ nn μ293 ∧ nn μ293 ≤ 9 ∧ wr μ ≤ wr μ293 ∧ wr μ293 ≤ 1 ∧ wr μ293 ≤ bd μ293 ∧ bd μ293 ≤ 1 ∧ r_176 + 1 ≤ μ335.1 111 22 ∧ r_336 + 1 ≤ μ335.1 111 22 ∧ μ.1 111 29 ≤ μ234.1 111 29 ∧ μ.1 111 31 ≤ μ234.1 111 31 ∧ μ234.1 111 31 ≤ 300 ∧ 0 ≤ μ234.1 111 32 ∧ μ234.1 111 32 ≤ μ293.1 111 9 ∧ μ293.1 111 9 ≤ 3000 := by (repeat' apply And.intro) <;> omega
    clear hv_307 hv_308 hv_309 hv_310 hv_311 hv_312 hv_313 hv_314 hv_315 hv_316 hv_317 hv_318 hv_319 hv_320 hv_321 hv_322 hv_323 hv_324 hv_325 hw_327 e_329 e_331 vl_344
    refine lv_istore_n (lv' := [(2, .int (iv r_336)), (1, .int (iv r_176)), (0, .ref (oP ω 111))]) hx hb dX12_ifs_59 rfl hl (by decide) rfl (fun ls hl => ?_)
    refine lv_aload_n hx hb dX12_ifs_60 rfl (lv_at hl 2 rfl) ?_
    refine lv_iload_n hx hb dX12_ifs_61 rfl (lv_at hl 1 rfl) ?_
    have e_367 : μ335.1 111 29 = μ234.1 111 29 := ((hp_338 29 (by decide)).trans (hp_295 29 (by decide)))
    refine xc_vV G (b := 111) (rest := []) (As := [.int (iv r_176)]) (c_X12_lands ω l μ335 r_176 (by unfold ir; exact ⟨by omega, by omega⟩) (by (repeat' apply And.intro) <;> omega) (by (repeat' apply And.intro) <;> omega)) (wm 9 167 rfl rfl) (wm 9 169 rfl rfl) (wm 0 154 rfl rfl) rfl rfl (by decide) rfl (wm 1 18 rfl rfl) (wm 9 170 rfl rfl) (by decide) hR ⟨nfB hF (by decide), nlB hLo (by decide)⟩ (n := 1) rfl rfl (Nat.le_of_ble_eq_true rfl) hl.1 dX12_ifs_62 (fun μ368 ρ d0 H locs hp G => ?_)
    obtain ⟨F_369, hp_370⟩ := hp
    have hxt_371 : mEXT μ μ368 := hxt_342.mf hp_370 (by omega)
    have hht_372 : ∀ _ : Unit, bd μ368 = 0 → mHt μ368 0 := fun _ h0 => (hht_343 () (bd_z (Int.le_of_eq (bd_cg (F_369.1 111 (by decide) 15) (F_369.1 111 (by decide) 16) (F_369.1 111 (by decide) 17)).symm) h0)).mf hp_370
    have hw_373 := wr_r (μ := μ293)
    obtain ⟨hv_375, hv_376, hv_377, hv_378, hv_379, hv_380, hv_381, hv_382, hv_383, hv_384, hv_385, hv_386, hv_387, hv_388, hv_389, hv_390, hv_391, hv_392, hv_393, hv_394⟩ : μ.1 111 22 ≤ μ335.1 111 22 ∧ μ335.1 111 22 ≤ μ.1 111 22 + 2 * (μ293.1 111 9 - μ.1 111 9) + 8 * (nn μ293 - nn μ) - 11 + 5 * wr μ293 ∧ μ.1 111 9 + 1 ≤ μ293.1 111 9 ∧ nn μ + 0 ≤ nn μ293 ∧ nn μ293 ≤ nn μ + 0 + 9 * wr μ293 ∧ nn μ293 ≤ 8 + wr μ293 ∧ 9 * wr μ293 ≤ nn μ293 ∧ nn μ293 ≤ 9 ∧ wr μ ≤ wr μ293 ∧ wr μ293 ≤ 1 ∧ wr μ293 ≤ bd μ293 ∧ bd μ293 ≤ 1 ∧ r_176 + 1 ≤ μ335.1 111 22 ∧ r_336 + 1 ≤ μ335.1 111 22 ∧ μ.1 111 29 ≤ μ234.1 111 29 ∧ μ.1 111 31 ≤ μ234.1 111 31 ∧ μ234.1 111 31 ≤ 300 ∧ 0 ≤ μ234.1 111 32 ∧ μ234.1 111 32 ≤ μ293.1 111 9 ∧ μ293.1 111 9 ≤ 3000 := by (repeat' apply And.intro) <;> omega
    clear hv_347 hv_348 hv_349 hv_350 hv_351 hv_352 hv_353 hv_354 hv_355 hv_356 hv_357 hv_358 hv_359 hv_360 hv_361 hv_362 hv_363 hv_364 hv_365 hv_366 e_367 hw_373
    refine lv_aload_n hx hb dX12_ifs_65 rfl (lv_at hl 2 rfl) ?_
    have e_395 : μ368.1 111 29 = μ234.1 111 29 := ((F_369.1 111 (by decide) 29).trans ((hp_338 29 (by decide)).trans (hp_295 29 (by decide))))
    have e_396 : μ368.1 111 14 = tt := ((F_369.1 111 (by decide) 14).trans ((hp_338 14 (by decide)).trans ((hp_295 14 (by decide)).trans ((hp_236 14 (by decide)).trans ((hp_178 14 (by decide)).trans ((hp_134 14 (by decide)).trans ((hp_87 14 (by decide)).trans ((hp_36 14 (by decide)).trans ((hp_3 14 (by decide)).trans htt.symm)))))))))
    have hPM_397 : PM μ368 := hp_296.cg ((((F_369.1 111 (by decide) 4).trans ((hp_338 4 (by decide)).trans ((hp_295 4 (by decide)).trans ((hp_236 4 (by decide)).trans ((hp_178 4 (by decide)).trans ((hp_134 4 (by decide)).trans ((hp_87 4 (by decide)).trans ((hp_36 4 (by decide)).trans (hp_3 4 (by decide))))))))))).trans (((hp_295 4 (by decide)).trans ((hp_236 4 (by decide)).trans ((hp_178 4 (by decide)).trans ((hp_134 4 (by decide)).trans ((hp_87 4 (by decide)).trans ((hp_36 4 (by decide)).trans (hp_3 4 (by decide))))))))).symm) ((F_369.1 111 (by decide) 6).trans (hp_338 6 (by decide))) ((((F_369.1 111 (by decide) 7).trans ((hp_338 7 (by decide)).trans ((hp_295 7 (by decide)).trans ((hp_236 7 (by decide)).trans ((hp_178 7 (by decide)).trans ((hp_134 7 (by decide)).trans ((hp_87 7 (by decide)).trans ((hp_36 7 (by decide)).trans (hp_3 7 (by decide))))))))))).trans (((hp_295 7 (by decide)).trans ((hp_236 7 (by decide)).trans ((hp_178 7 (by decide)).trans ((hp_134 7 (by decide)).trans ((hp_87 7 (by decide)).trans ((hp_36 7 (by decide)).trans (hp_3 7 (by decide))))))))).symm) ((F_369.1 111 (by decide) 8).trans (hp_338 8 (by decide))) ((F_369.1 111 (by decide) 9).trans (hp_338 9 (by decide))) ((F_369.1 111 (by decide) 11).trans (hp_338 11 (by decide))) ((F_369.1 111 (by decide) 12).trans (hp_338 12 (by decide))) ((((F_369.1 111 (by decide) 14).trans ((hp_338 14 (by decide)).trans ((hp_295 14 (by decide)).trans ((hp_236 14 (by decide)).trans ((hp_178 14 (by decide)).trans ((hp_134 14 (by decide)).trans ((hp_87 14 (by decide)).trans ((hp_36 14 (by decide)).trans ((hp_3 14 (by decide)).trans htt.symm)))))))))).trans (((hp_295 14 (by decide)).trans ((hp_236 14 (by decide)).trans ((hp_178 14 (by decide)).trans ((hp_134 14 (by decide)).trans ((hp_87 14 (by decide)).trans ((hp_36 14 (by decide)).trans ((hp_3 14 (by decide)).trans htt.symm)))))))).symm) ((F_369.1 111 (by decide) 15).trans (hp_338 15 (by decide))) ((((F_369.1 111 (by decide) 29).trans ((hp_338 29 (by decide)).trans (hp_295 29 (by decide))))).trans ((hp_295 29 (by decide))).symm) (fun j => ((F_369.1 123 (by decide) j).trans (F_337.1 123 (by decide) j)))
    have e_398 : wr μ368 = wr μ293 := ((wr_cg (F_369.1 111 (by decide) 15)).trans (wr_cg (hp_338 15 (by decide))))
    have hw_399 := wr_r (μ := μ293)
    have e_400 : nn μ368 = nn μ293 := ((nn_cg (F_369.1 111 (by decide) 15) (F_369.1 111 (by decide) 18)).trans (nn_cg (hp_338 15 (by decide)) (hp_338 18 (by decide))))
    have e_403 : μ368.1 111 22 = μ335.1 111 22 := (F_369.1 111 (by decide) 22)
    have e_405 : μ368.1 111 9 = μ293.1 111 9 := ((F_369.1 111 (by decide) 9).trans (hp_338 9 (by decide)))
    have e_407 : μ368.1 111 39 = μ234.1 111 39 := ((F_369.1 111 (by decide) 39).trans ((hp_338 39 (by decide)).trans (hp_295 39 (by decide))))
    have e_410 : μ368.1 111 31 = μ234.1 111 31 := ((F_369.1 111 (by decide) 31).trans ((hp_338 31 (by decide)).trans (hp_295 31 (by decide))))
    have e_412 : μ368.1 111 32 = μ234.1 111 32 := ((F_369.1 111 (by decide) 32).trans ((hp_338 32 (by decide)).trans (hp_295 32 (by decide))))
    have e_424 : bd μ368 = bd μ293 := ((bd_cg (F_369.1 111 (by decide) 15) (F_369.1 111 (by decide) 16) (F_369.1 111 (by decide) 17)).trans (bd_cg (hp_338 15 (by decide)) (hp_338 16 (by decide)) (hp_338 17 (by decide))))
    refine xc_vV G (b := 111) (rest := []) (As := []) (((fun (_ : Om) (_ : Launch) => hK)) ω l μ368 tt (by (repeat' apply And.intro) <;> omega) hPM_397 (by (repeat' apply And.intro) <;> omega) (by (repeat' apply And.intro) <;> omega) (by (repeat' apply And.intro) <;> omega) (by (repeat' apply And.intro) <;> omega) (by (repeat' apply And.intro) <;> omega) (by (repeat' apply And.intro) <;> omega) (by (repeat' apply And.intro) <;> omega) (fun _ h0 => (hht_372 () h0).s)) (wm 9 118 rfl rfl) (wm 9 120 rfl rfl) (wm 0 142 rfl rfl) rfl rfl (by decide) rfl (wm 1 18 rfl rfl) (wm 9 121 rfl rfl) (by decide) hR ⟨sfr (F := F) (a := 0) (by decide), slo (L := Lo) (m := 1) (a := 0) (by decide)⟩ (n := 0) rfl rfl (Nat.le_of_ble_eq_true rfl) hl.1 dX12_ifs_66 (fun μ428 ρ d0 H locs hp G => ?_)
    obtain ⟨F_429, hp_430, hp_431, hp_432, hp_433, hp_434, hp_435, hp_436, hp_437, hp_438, hp_439, hp_440, hp_441, hp_442⟩ := hp
    have hpl_443 := hp_431.pl
    have hw_444 := wr_r (μ := μ428)
    have hw_445 := wr_r (μ := μ368)
    have hxt_446 : mEXT μ μ428 := hxt_371.tr hp_442
    have hwk_447 : ∀ j, j < μ.1 111 39 → μ428.1 126 j = μ368.1 126 j := fun j hj => hp_438 j (by omega)
    have hex_448 : ∀ _ : Unit, bd μ428 = 0 → mEX μ368 μ428 tt 0 (2 * (8 - nn μ)) 101 := fun _ h0 => (hp_441 () h0).mn (by omega) (Int.le_refl _)
    have hht_449 : ∀ _ : Unit, bd μ428 = 0 → mHt μ428 0 := fun _ h0 => (hht_372 () (bd_z (hp_435.2) h0)).ex (hex_448 () h0) rfl
    have vl_450 := hp_432
    replace hp_432 := fun _ : Unit => hp_432
    have vl_451 := hp_433
    replace hp_433 := fun _ : Unit => hp_433
    have vl_452 := hp_434
    replace hp_434 := fun _ : Unit => hp_434
    have vl_453 := hp_435
    replace hp_435 := fun _ : Unit => hp_435
    have vl_454 := hp_436
    replace hp_436 := fun _ : Unit => hp_436
    have vl_455 := hp_437
    replace hp_437 := fun _ : Unit => hp_437
    have vl_456 := hp_439
    replace hp_439 := fun _ : Unit => hp_439
    have vl_457 := hp_440
    replace hp_440 := fun _ : Unit => hp_440
    have h39_458 : μ428.1 111 39 = μ.1 111 39 := by omega
    obtain ⟨hv_461, hv_462, hv_463, hv_464, hv_465, hv_466, hv_467, hv_468, hv_469, hv_470, hv_471, hv_472, hv_473, hv_474, hv_475, hv_476, hv_477, hv_478, hv_479, hv_480⟩ : μ.1 111 22 ≤ μ428.1 111 22 ∧ μ428.1 111 22 ≤ μ.1 111 22 + 2 * (μ428.1 111 9 - μ.1 111 9) + 8 * (nn μ428 - nn μ) - 15 + 9 * wr μ428 ∧ μ.1 111 9 + 1 ≤ μ428.1 111 9 ∧ nn μ + 0 ≤ nn μ428 ∧ nn μ428 ≤ nn μ + 0 + 9 * wr μ428 ∧ nn μ428 ≤ 8 + wr μ428 ∧ 9 * wr μ428 ≤ nn μ428 ∧ nn μ428 ≤ 9 ∧ wr μ ≤ wr μ428 ∧ wr μ428 ≤ 1 ∧ wr μ428 ≤ bd μ428 ∧ bd μ428 ≤ 1 ∧ r_176 + 1 ≤ μ428.1 111 22 ∧ r_336 + 1 ≤ μ428.1 111 22 ∧ μ.1 111 29 ≤ μ428.1 111 29 ∧ μ.1 111 31 ≤ μ428.1 111 31 ∧ μ428.1 111 31 ≤ 300 ∧ 0 ≤ μ428.1 111 32 ∧ μ428.1 111 32 ≤ μ428.1 111 9 ∧ μ428.1 111 9 ≤ 3000 := by (repeat' apply And.intro) <;> omega
    clear hv_375 hv_376 hv_377 hv_378 hv_379 hv_380 hv_381 hv_382 hv_383 hv_384 hv_385 hv_386 hv_387 hv_388 hv_389 hv_390 hv_391 hv_392 hv_393 hv_394 e_395 e_396 e_398 hw_399 e_400 e_403 e_405 e_407 e_410 e_412 e_424 hpl_443 hw_444 hw_445 vl_450 vl_451 vl_452 vl_453 vl_454 vl_455 vl_456 vl_457
    refine lv_aload_n hx hb dX12_ifs_69 rfl (lv_at hl 2 rfl) ?_
    refine lv_iload_n hx hb dX12_ifs_70 rfl (lv_at hl 0 rfl) ?_
    refine xc_vV G (b := 111) (rest := []) (As := [.int (iv r_336)]) (c_X12_lands ω l μ428 r_336 (by unfold ir; exact ⟨by omega, by omega⟩) (by (repeat' apply And.intro) <;> omega) (by (repeat' apply And.intro) <;> omega)) (wm 9 167 rfl rfl) (wm 9 169 rfl rfl) (wm 0 154 rfl rfl) rfl rfl (by decide) rfl (wm 1 18 rfl rfl) (wm 9 170 rfl rfl) (by decide) hR ⟨nfB hF (by decide), nlB hLo (by decide)⟩ (n := 1) rfl rfl (Nat.le_of_ble_eq_true rfl) hl.1 dX12_ifs_71 (fun μ481 ρ d0 H locs hp G => ?_)
    obtain ⟨F_482, hp_483⟩ := hp
    have hxt_484 : mEXT μ μ481 := hxt_446.mf hp_483 (by omega)
    have hht_485 : ∀ _ : Unit, bd μ481 = 0 → mHt μ481 0 := fun _ h0 => (hht_449 () (bd_z (Int.le_of_eq (bd_cg (F_482.1 111 (by decide) 15) (F_482.1 111 (by decide) 16) (F_482.1 111 (by decide) 17)).symm) h0)).mf hp_483
    have hw_486 := wr_r (μ := μ428)
    obtain ⟨hv_488, hv_489, hv_490, hv_491, hv_492, hv_493, hv_494, hv_495, hv_496, hv_497, hv_498, hv_499, hv_500, hv_501, hv_502, hv_503, hv_504, hv_505, hv_506, hv_507⟩ : μ.1 111 22 ≤ μ428.1 111 22 ∧ μ428.1 111 22 ≤ μ.1 111 22 + 2 * (μ428.1 111 9 - μ.1 111 9) + 8 * (nn μ428 - nn μ) - 15 + 9 * wr μ428 ∧ μ.1 111 9 + 1 ≤ μ428.1 111 9 ∧ nn μ + 0 ≤ nn μ428 ∧ nn μ428 ≤ nn μ + 0 + 9 * wr μ428 ∧ nn μ428 ≤ 8 + wr μ428 ∧ 9 * wr μ428 ≤ nn μ428 ∧ nn μ428 ≤ 9 ∧ wr μ ≤ wr μ428 ∧ wr μ428 ≤ 1 ∧ wr μ428 ≤ bd μ428 ∧ bd μ428 ≤ 1 ∧ r_176 + 1 ≤ μ428.1 111 22 ∧ r_336 + 1 ≤ μ428.1 111 22 ∧ μ.1 111 29 ≤ μ428.1 111 29 ∧ μ.1 111 31 ≤ μ428.1 111 31 ∧ μ428.1 111 31 ≤ 300 ∧ 0 ≤ μ428.1 111 32 ∧ μ428.1 111 32 ≤ μ428.1 111 9 ∧ μ428.1 111 9 ≤ 3000 := by (repeat' apply And.intro) <;> omega
    clear hv_461 hv_462 hv_463 hv_464 hv_465 hv_466 hv_467 hv_468 hv_469 hv_470 hv_471 hv_472 hv_473 hv_474 hv_475 hv_476 hv_477 hv_478 hv_479 hv_480 hw_486
    have e_508 : μ481.1 111 22 = μ428.1 111 22 := (F_482.1 111 (by decide) 22)
    have e_509 : μ481.1 111 9 = μ428.1 111 9 := (F_482.1 111 (by decide) 9)
    have e_510 : μ481.1 111 29 = μ428.1 111 29 := (F_482.1 111 (by decide) 29)
    have e_511 : μ481.1 111 39 = μ428.1 111 39 := (F_482.1 111 (by decide) 39)
    have e_512 : μ481.1 111 31 = μ428.1 111 31 := (F_482.1 111 (by decide) 31)
    have e_513 : μ481.1 111 32 = μ428.1 111 32 := (F_482.1 111 (by decide) 32)
    have e_514 : μ481.1 111 6 = μ428.1 111 6 := (F_482.1 111 (by decide) 6)
    have e_515 : wr μ481 = wr μ428 := (wr_cg (F_482.1 111 (by decide) 15))
    have hw_516 := wr_r (μ := μ428)
    have e_517 : bd μ481 = bd μ428 := (bd_cg (F_482.1 111 (by decide) 15) (F_482.1 111 (by decide) 16) (F_482.1 111 (by decide) 17))
    have e_518 : nn μ481 = nn μ428 := (nn_cg (F_482.1 111 (by decide) 15) (F_482.1 111 (by decide) 18))
    have hPM_519 : PM μ481 := hp_431.cg ((((F_482.1 111 (by decide) 4).trans ((hp_430 4 (by decide)).trans ((F_369.1 111 (by decide) 4).trans ((hp_338 4 (by decide)).trans ((hp_295 4 (by decide)).trans ((hp_236 4 (by decide)).trans ((hp_178 4 (by decide)).trans ((hp_134 4 (by decide)).trans ((hp_87 4 (by decide)).trans ((hp_36 4 (by decide)).trans (hp_3 4 (by decide))))))))))))).trans (((hp_430 4 (by decide)).trans ((F_369.1 111 (by decide) 4).trans ((hp_338 4 (by decide)).trans ((hp_295 4 (by decide)).trans ((hp_236 4 (by decide)).trans ((hp_178 4 (by decide)).trans ((hp_134 4 (by decide)).trans ((hp_87 4 (by decide)).trans ((hp_36 4 (by decide)).trans (hp_3 4 (by decide)))))))))))).symm) (F_482.1 111 (by decide) 6) ((((F_482.1 111 (by decide) 7).trans ((hp_430 7 (by decide)).trans ((F_369.1 111 (by decide) 7).trans ((hp_338 7 (by decide)).trans ((hp_295 7 (by decide)).trans ((hp_236 7 (by decide)).trans ((hp_178 7 (by decide)).trans ((hp_134 7 (by decide)).trans ((hp_87 7 (by decide)).trans ((hp_36 7 (by decide)).trans (hp_3 7 (by decide))))))))))))).trans (((hp_430 7 (by decide)).trans ((F_369.1 111 (by decide) 7).trans ((hp_338 7 (by decide)).trans ((hp_295 7 (by decide)).trans ((hp_236 7 (by decide)).trans ((hp_178 7 (by decide)).trans ((hp_134 7 (by decide)).trans ((hp_87 7 (by decide)).trans ((hp_36 7 (by decide)).trans (hp_3 7 (by decide)))))))))))).symm) (F_482.1 111 (by decide) 8) (F_482.1 111 (by decide) 9) (F_482.1 111 (by decide) 11) (F_482.1 111 (by decide) 12) ((((F_482.1 111 (by decide) 14).trans ((hp_430 14 (by decide)).trans ((F_369.1 111 (by decide) 14).trans ((hp_338 14 (by decide)).trans ((hp_295 14 (by decide)).trans ((hp_236 14 (by decide)).trans ((hp_178 14 (by decide)).trans ((hp_134 14 (by decide)).trans ((hp_87 14 (by decide)).trans ((hp_36 14 (by decide)).trans ((hp_3 14 (by decide)).trans htt.symm)))))))))))).trans (((hp_430 14 (by decide)).trans ((F_369.1 111 (by decide) 14).trans ((hp_338 14 (by decide)).trans ((hp_295 14 (by decide)).trans ((hp_236 14 (by decide)).trans ((hp_178 14 (by decide)).trans ((hp_134 14 (by decide)).trans ((hp_87 14 (by decide)).trans ((hp_36 14 (by decide)).trans ((hp_3 14 (by decide)).trans htt.symm))))))))))).symm) (F_482.1 111 (by decide) 15) (F_482.1 111 (by decide) 29) (fun j => (F_482.1 123 (by decide) j))
    exact xr_v G hret hlk dX12_ifs_74 ⟨(FrM.tr (FrM.tr (FrM.tr (FrM.tr (FrM.tr (FrM.tr (FrM.tr (FrM.tr (FrM.tr (FrM.tr (FrM.tr FrM.rf F_2 (by decide)) F_35 (by decide)) F_86 (by decide)) F_133 (by decide)) F_177 (by decide)) F_235 (by decide)) F_294 (by decide)) F_337 (by decide)) F_369 (by decide)) F_429 (by decide)) F_482 (by decide)), (fun j hj => ((F_482.1 111 (by decide) j).trans ((hp_430 j (fun h9 => hj ((by decide : ∀ x ∈ ([6, 8, 9, 10, 11, 12, 13, 15, 16, 17, 18, 22, 29, 31, 32, 34, 35, 36, 37, 39] : List Int), x ∈ ([6, 8, 9, 10, 11, 12, 13, 15, 16, 17, 18, 22, 29, 31, 32, 34, 35, 36, 37, 39] : List Int)) j h9))).trans ((F_369.1 111 (by decide) j).trans ((hp_338 j (fun h9 => hj ((by decide : ∀ x ∈ ([22] : List Int), x ∈ ([6, 8, 9, 10, 11, 12, 13, 15, 16, 17, 18, 22, 29, 31, 32, 34, 35, 36, 37, 39] : List Int)) j h9))).trans ((hp_295 j (fun h9 => hj ((by decide : ∀ x ∈ ([6, 8, 9, 10, 11, 12, 13, 15] : List Int), x ∈ ([6, 8, 9, 10, 11, 12, 13, 15, 16, 17, 18, 22, 29, 31, 32, 34, 35, 36, 37, 39] : List Int)) j h9))).trans ((hp_236 j (fun h9 => hj ((by decide : ∀ x ∈ ([6, 8, 9, 10, 11, 12, 13, 15, 16, 17, 18, 22, 29, 31, 32, 34, 35, 36, 37, 39] : List Int), x ∈ ([6, 8, 9, 10, 11, 12, 13, 15, 16, 17, 18, 22, 29, 31, 32, 34, 35, 36, 37, 39] : List Int)) j h9))).trans ((hp_178 j (fun h9 => hj ((by decide : ∀ x ∈ ([22] : List Int), x ∈ ([6, 8, 9, 10, 11, 12, 13, 15, 16, 17, 18, 22, 29, 31, 32, 34, 35, 36, 37, 39] : List Int)) j h9))).trans ((hp_134 j (fun h9 => hj ((by decide : ∀ x ∈ ([6, 8, 9, 10, 11, 12, 13, 15, 18] : List Int), x ∈ ([6, 8, 9, 10, 11, 12, 13, 15, 16, 17, 18, 22, 29, 31, 32, 34, 35, 36, 37, 39] : List Int)) j h9))).trans ((hp_87 j (fun h9 => hj ((by decide : ∀ x ∈ ([6, 8, 9, 10, 11, 12, 13, 15, 16, 17, 18, 22, 29, 39] : List Int), x ∈ ([6, 8, 9, 10, 11, 12, 13, 15, 16, 17, 18, 22, 29, 31, 32, 34, 35, 36, 37, 39] : List Int)) j h9))).trans ((hp_36 j (fun h9 => hj ((by decide : ∀ x ∈ ([6, 8, 9, 10, 11, 12, 13, 15, 18] : List Int), x ∈ ([6, 8, 9, 10, 11, 12, 13, 15, 16, 17, 18, 22, 29, 31, 32, 34, 35, 36, 37, 39] : List Int)) j h9))).trans (hp_3 j (fun h9 => hj ((by decide : ∀ x ∈ ([6, 8, 9, 10, 11, 12, 13, 15] : List Int), x ∈ ([6, 8, 9, 10, 11, 12, 13, 15, 16, 17, 18, 22, 29, 31, 32, 34, 35, 36, 37, 39] : List Int)) j h9)))))))))))))), hPM_519, (by (repeat' apply And.intro) <;> omega), (by (repeat' apply And.intro) <;> omega), (by (repeat' apply And.intro) <;> omega), ⟨by omega, (Int.le_trans (Int.le_trans (Int.le_trans (Int.le_trans (Int.le_trans (Int.le_trans (Int.le_trans (Int.le_trans (Int.le_trans (Int.le_trans ((hp_6 ()).2) ((hp_40 ()).2)) ((hp_92 ()).2)) ((hp_138 ()).2)) (Int.le_of_eq (bd_cg (hp_178 15 (by decide)) (hp_178 16 (by decide)) (hp_178 17 (by decide))).symm)) ((hp_241 ()).2)) ((hp_298 ()).2)) (Int.le_of_eq (bd_cg (hp_338 15 (by decide)) (hp_338 16 (by decide)) (hp_338 17 (by decide))).symm)) (Int.le_of_eq (bd_cg (F_369.1 111 (by decide) 15) (F_369.1 111 (by decide) 16) (F_369.1 111 (by decide) 17)).symm)) ((hp_435 ()).2)) (Int.le_of_eq (bd_cg (F_482.1 111 (by decide) 15) (F_482.1 111 (by decide) 16) (F_482.1 111 (by decide) 17)).symm))⟩, (by (repeat' apply And.intro) <;> omega), (by (repeat' apply And.intro) <;> omega), (fun j hj => ((F_482.1 126 (by decide) j).trans ((hwk_447 j (by omega)).trans ((F_369.1 126 (by decide) j).trans ((F_337.1 126 (by decide) j).trans ((F_294.1 126 (by decide) j).trans ((hwk_253 j (by omega)).trans ((F_177.1 126 (by decide) j).trans ((F_133.1 126 (by decide) j).trans ((hwk_101 j (by omega)).trans ((F_35.1 126 (by decide) j).trans (F_2.1 126 (by decide) j)))))))))))), (by (repeat' apply And.intro) <;> omega), (by (repeat' apply And.intro) <;> omega), (fun _ h0 => (mEY.ql (hq_68 ()) (as_mife (M := 2 * (8 - nn μ)) ((hS1 () (bd_z (Int.le_trans (Int.le_trans (Int.le_trans (Int.le_trans (Int.le_trans (Int.le_trans (Int.le_trans (Int.le_trans (Int.le_trans (Int.le_trans ((hp_6 ()).2) ((hp_40 ()).2)) ((hp_92 ()).2)) ((hp_138 ()).2)) (Int.le_of_eq (bd_cg (hp_178 15 (by decide)) (hp_178 16 (by decide)) (hp_178 17 (by decide))).symm)) ((hp_241 ()).2)) ((hp_298 ()).2)) (Int.le_of_eq (bd_cg (hp_338 15 (by decide)) (hp_338 16 (by decide)) (hp_338 17 (by decide))).symm)) (Int.le_of_eq (bd_cg (F_369.1 111 (by decide) 15) (F_369.1 111 (by decide) 16) (F_369.1 111 (by decide) 17)).symm)) ((hp_435 ()).2)) (Int.le_of_eq (bd_cg (F_482.1 111 (by decide) 15) (F_482.1 111 (by decide) 16) (F_482.1 111 (by decide) 17)).symm)) h0)).qm (hq_68 ())).s ((hex_102 () (bd_z (Int.le_trans (Int.le_trans (Int.le_trans (Int.le_trans (Int.le_trans (Int.le_trans (Int.le_trans ((hp_138 ()).2) (Int.le_of_eq (bd_cg (hp_178 15 (by decide)) (hp_178 16 (by decide)) (hp_178 17 (by decide))).symm)) ((hp_241 ()).2)) ((hp_298 ()).2)) (Int.le_of_eq (bd_cg (hp_338 15 (by decide)) (hp_338 16 (by decide)) (hp_338 17 (by decide))).symm)) (Int.le_of_eq (bd_cg (F_369.1 111 (by decide) 15) (F_369.1 111 (by decide) 16) (F_369.1 111 (by decide) 17)).symm)) ((hp_435 ()).2)) (Int.le_of_eq (bd_cg (F_482.1 111 (by decide) 15) (F_482.1 111 (by decide) 16) (F_482.1 111 (by decide) 17)).symm)) h0)).qm (hq_166 ())) hp_179 ((hex_254 () (bd_z (Int.le_trans (Int.le_trans (Int.le_trans (Int.le_trans ((hp_298 ()).2) (Int.le_of_eq (bd_cg (hp_338 15 (by decide)) (hp_338 16 (by decide)) (hp_338 17 (by decide))).symm)) (Int.le_of_eq (bd_cg (F_369.1 111 (by decide) 15) (F_369.1 111 (by decide) 16) (F_369.1 111 (by decide) 17)).symm)) ((hp_435 ()).2)) (Int.le_of_eq (bd_cg (F_482.1 111 (by decide) 15) (F_482.1 111 (by decide) 16) (F_482.1 111 (by decide) 17)).symm)) h0)).qm (hq_326 ())) hp_339 hp_370 (hex_448 () (bd_z (Int.le_of_eq (bd_cg (F_482.1 111 (by decide) 15) (F_482.1 111 (by decide) 16) (F_482.1 111 (by decide) 17)).symm) h0)) hp_483 (by omega) (by omega) rfl rfl (by omega) (by omega))).mn (by omega)), hxt_484⟩
  · refine lv_aload_n hx hb dX12_ifs_41 rfl (lv_at hl 1 rfl) ?_
    refine lv_iload_n hx hb dX12_ifs_42 rfl (lv_at hl 0 rfl) ?_
    refine xc_vV G (b := 111) (rest := []) (As := [.int (iv r_176)]) (c_X12_lands ω l μ234 r_176 (by unfold ir; exact ⟨by omega, by omega⟩) (by (repeat' apply And.intro) <;> omega) (by (repeat' apply And.intro) <;> omega)) (wm 9 167 rfl rfl) (wm 9 169 rfl rfl) (wm 0 154 rfl rfl) rfl rfl (by decide) rfl (wm 1 18 rfl rfl) (wm 9 170 rfl rfl) (by decide) hR ⟨nfB hF (by decide), nlB hLo (by decide)⟩ (n := 1) rfl rfl (Nat.le_of_ble_eq_true rfl) hl.1 dX12_ifs_43 (fun μ535 ρ d0 H locs hp G => ?_)
    obtain ⟨F_536, hp_537⟩ := hp
    have hxt_538 : mEXT μ μ535 := hxt_252.mf hp_537 (by omega)
    have hht_539 : ∀ _ : Unit, bd μ535 = 0 → mHt μ535 0 := fun _ h0 => (hht_255 () (bd_z (Int.le_of_eq (bd_cg (F_536.1 111 (by decide) 15) (F_536.1 111 (by decide) 16) (F_536.1 111 (by decide) 17)).symm) h0)).mf hp_537
    obtain ⟨hv_542, hv_543, hv_544, hv_545, hv_546, hv_547, hv_548, hv_549, hv_550, hv_551, hv_552, hv_553, hv_554, hv_555, hv_556, hv_557, hv_558, hv_559, hv_560⟩ : μ.1 111 22 ≤ μ234.1 111 22 ∧ μ234.1 111 22 ≤ μ.1 111 22 + 2 * (μ234.1 111 9 - μ.1 111 9) + 8 * (nn μ234 - nn μ) - 10 + 3 * wr μ234 ∧ μ.1 111 9 + 1 ≤ μ234.1 111 9 ∧ nn μ + 0 ≤ nn μ234 ∧ nn μ234 ≤ nn μ + 0 + 9 * wr μ234 ∧ nn μ234 ≤ 8 + wr μ234 ∧ 9 * wr μ234 ≤ nn μ234 ∧ nn μ234 ≤ 9 ∧ wr μ ≤ wr μ234 ∧ wr μ234 ≤ 1 ∧ wr μ234 ≤ bd μ234 ∧ bd μ234 ≤ 1 ∧ r_176 + 1 ≤ μ234.1 111 22 ∧ μ.1 111 29 ≤ μ234.1 111 29 ∧ μ.1 111 31 ≤ μ234.1 111 31 ∧ μ234.1 111 31 ≤ 300 ∧ 0 ≤ μ234.1 111 32 ∧ μ234.1 111 32 ≤ μ234.1 111 9 ∧ μ234.1 111 9 ≤ 3000 := by (repeat' apply And.intro) <;> omega
    clear hv_267 hv_268 hv_269 hv_270 hv_271 hv_272 hv_273 hv_274 hv_275 hv_276 hv_277 hv_278 hv_279 hv_280 hv_281 hv_282 hv_283 hv_284 hv_285 hw_286
    have e_561 : μ535.1 111 22 = μ234.1 111 22 := (F_536.1 111 (by decide) 22)
    have e_562 : μ535.1 111 9 = μ234.1 111 9 := (F_536.1 111 (by decide) 9)
    have e_563 : μ535.1 111 29 = μ234.1 111 29 := (F_536.1 111 (by decide) 29)
    have e_564 : μ535.1 111 39 = μ234.1 111 39 := (F_536.1 111 (by decide) 39)
    have e_565 : μ535.1 111 31 = μ234.1 111 31 := (F_536.1 111 (by decide) 31)
    have e_566 : μ535.1 111 32 = μ234.1 111 32 := (F_536.1 111 (by decide) 32)
    have e_567 : μ535.1 111 6 = μ234.1 111 6 := (F_536.1 111 (by decide) 6)
    have e_568 : wr μ535 = wr μ234 := (wr_cg (F_536.1 111 (by decide) 15))
    have hw_569 := wr_r (μ := μ234)
    have e_570 : bd μ535 = bd μ234 := (bd_cg (F_536.1 111 (by decide) 15) (F_536.1 111 (by decide) 16) (F_536.1 111 (by decide) 17))
    have e_571 : nn μ535 = nn μ234 := (nn_cg (F_536.1 111 (by decide) 15) (F_536.1 111 (by decide) 18))
    have hPM_572 : PM μ535 := hp_237.cg ((((F_536.1 111 (by decide) 4).trans ((hp_236 4 (by decide)).trans ((hp_178 4 (by decide)).trans ((hp_134 4 (by decide)).trans ((hp_87 4 (by decide)).trans ((hp_36 4 (by decide)).trans (hp_3 4 (by decide))))))))).trans (((hp_236 4 (by decide)).trans ((hp_178 4 (by decide)).trans ((hp_134 4 (by decide)).trans ((hp_87 4 (by decide)).trans ((hp_36 4 (by decide)).trans (hp_3 4 (by decide)))))))).symm) (F_536.1 111 (by decide) 6) ((((F_536.1 111 (by decide) 7).trans ((hp_236 7 (by decide)).trans ((hp_178 7 (by decide)).trans ((hp_134 7 (by decide)).trans ((hp_87 7 (by decide)).trans ((hp_36 7 (by decide)).trans (hp_3 7 (by decide))))))))).trans (((hp_236 7 (by decide)).trans ((hp_178 7 (by decide)).trans ((hp_134 7 (by decide)).trans ((hp_87 7 (by decide)).trans ((hp_36 7 (by decide)).trans (hp_3 7 (by decide)))))))).symm) (F_536.1 111 (by decide) 8) (F_536.1 111 (by decide) 9) (F_536.1 111 (by decide) 11) (F_536.1 111 (by decide) 12) ((((F_536.1 111 (by decide) 14).trans ((hp_236 14 (by decide)).trans ((hp_178 14 (by decide)).trans ((hp_134 14 (by decide)).trans ((hp_87 14 (by decide)).trans ((hp_36 14 (by decide)).trans ((hp_3 14 (by decide)).trans htt.symm)))))))).trans (((hp_236 14 (by decide)).trans ((hp_178 14 (by decide)).trans ((hp_134 14 (by decide)).trans ((hp_87 14 (by decide)).trans ((hp_36 14 (by decide)).trans ((hp_3 14 (by decide)).trans htt.symm))))))).symm) (F_536.1 111 (by decide) 15) (F_536.1 111 (by decide) 29) (fun j => (F_536.1 123 (by decide) j))
    exact xr_v G hret hlk dX12_ifs_46 ⟨(FrM.tr (FrM.tr (FrM.tr (FrM.tr (FrM.tr (FrM.tr (FrM.tr FrM.rf F_2 (by decide)) F_35 (by decide)) F_86 (by decide)) F_133 (by decide)) F_177 (by decide)) F_235 (by decide)) F_536 (by decide)), (fun j hj => ((F_536.1 111 (by decide) j).trans ((hp_236 j (fun h9 => hj ((by decide : ∀ x ∈ ([6, 8, 9, 10, 11, 12, 13, 15, 16, 17, 18, 22, 29, 31, 32, 34, 35, 36, 37, 39] : List Int), x ∈ ([6, 8, 9, 10, 11, 12, 13, 15, 16, 17, 18, 22, 29, 31, 32, 34, 35, 36, 37, 39] : List Int)) j h9))).trans ((hp_178 j (fun h9 => hj ((by decide : ∀ x ∈ ([22] : List Int), x ∈ ([6, 8, 9, 10, 11, 12, 13, 15, 16, 17, 18, 22, 29, 31, 32, 34, 35, 36, 37, 39] : List Int)) j h9))).trans ((hp_134 j (fun h9 => hj ((by decide : ∀ x ∈ ([6, 8, 9, 10, 11, 12, 13, 15, 18] : List Int), x ∈ ([6, 8, 9, 10, 11, 12, 13, 15, 16, 17, 18, 22, 29, 31, 32, 34, 35, 36, 37, 39] : List Int)) j h9))).trans ((hp_87 j (fun h9 => hj ((by decide : ∀ x ∈ ([6, 8, 9, 10, 11, 12, 13, 15, 16, 17, 18, 22, 29, 39] : List Int), x ∈ ([6, 8, 9, 10, 11, 12, 13, 15, 16, 17, 18, 22, 29, 31, 32, 34, 35, 36, 37, 39] : List Int)) j h9))).trans ((hp_36 j (fun h9 => hj ((by decide : ∀ x ∈ ([6, 8, 9, 10, 11, 12, 13, 15, 18] : List Int), x ∈ ([6, 8, 9, 10, 11, 12, 13, 15, 16, 17, 18, 22, 29, 31, 32, 34, 35, 36, 37, 39] : List Int)) j h9))).trans (hp_3 j (fun h9 => hj ((by decide : ∀ x ∈ ([6, 8, 9, 10, 11, 12, 13, 15] : List Int), x ∈ ([6, 8, 9, 10, 11, 12, 13, 15, 16, 17, 18, 22, 29, 31, 32, 34, 35, 36, 37, 39] : List Int)) j h9)))))))))), hPM_572, (by (repeat' apply And.intro) <;> omega), (by (repeat' apply And.intro) <;> omega), (by (repeat' apply And.intro) <;> omega), ⟨by omega, (Int.le_trans (Int.le_trans (Int.le_trans (Int.le_trans (Int.le_trans (Int.le_trans ((hp_6 ()).2) ((hp_40 ()).2)) ((hp_92 ()).2)) ((hp_138 ()).2)) (Int.le_of_eq (bd_cg (hp_178 15 (by decide)) (hp_178 16 (by decide)) (hp_178 17 (by decide))).symm)) ((hp_241 ()).2)) (Int.le_of_eq (bd_cg (F_536.1 111 (by decide) 15) (F_536.1 111 (by decide) 16) (F_536.1 111 (by decide) 17)).symm))⟩, (by (repeat' apply And.intro) <;> omega), (by (repeat' apply And.intro) <;> omega), (fun j hj => ((F_536.1 126 (by decide) j).trans ((hwk_253 j (by omega)).trans ((F_177.1 126 (by decide) j).trans ((F_133.1 126 (by decide) j).trans ((hwk_101 j (by omega)).trans ((F_35.1 126 (by decide) j).trans (F_2.1 126 (by decide) j)))))))), (by (repeat' apply And.intro) <;> omega), (by (repeat' apply And.intro) <;> omega), (fun _ h0 => (mEY.ql (hq_68 ()) (as_mifq (M := 2 * (8 - nn μ)) ((hS1 () (bd_z (Int.le_trans (Int.le_trans (Int.le_trans (Int.le_trans (Int.le_trans (Int.le_trans ((hp_6 ()).2) ((hp_40 ()).2)) ((hp_92 ()).2)) ((hp_138 ()).2)) (Int.le_of_eq (bd_cg (hp_178 15 (by decide)) (hp_178 16 (by decide)) (hp_178 17 (by decide))).symm)) ((hp_241 ()).2)) (Int.le_of_eq (bd_cg (F_536.1 111 (by decide) 15) (F_536.1 111 (by decide) 16) (F_536.1 111 (by decide) 17)).symm)) h0)).qm (hq_68 ())).s ((hex_102 () (bd_z (Int.le_trans (Int.le_trans (Int.le_trans ((hp_138 ()).2) (Int.le_of_eq (bd_cg (hp_178 15 (by decide)) (hp_178 16 (by decide)) (hp_178 17 (by decide))).symm)) ((hp_241 ()).2)) (Int.le_of_eq (bd_cg (F_536.1 111 (by decide) 15) (F_536.1 111 (by decide) 16) (F_536.1 111 (by decide) 17)).symm)) h0)).qm (hq_166 ())) hp_179 (hex_254 () (bd_z (Int.le_of_eq (bd_cg (F_536.1 111 (by decide) 15) (F_536.1 111 (by decide) 16) (F_536.1 111 (by decide) 17)).symm) h0)) hp_537 (by omega) rfl (by omega) (by omega))).mn (by omega)), hxt_538⟩

set_option maxHeartbeats 4000000 in
set_option maxRecDepth 100000 in
theorem c_X12_whiles (ω : Om) (l : Launch) (μ : M3) (x1 : Int) (F : Nat) (Lo : Nat) (kf : Int) (tt : Int) (hx1 : ir x1) (htt : tt = μ.1 111 14) (hF : 200 ≤ F) (hLo : 6000 ≤ Lo) (hK : ∀ (μ : M3) (tt : Int) (htt : tt = μ.1 111 14) (hPM : PM μ) (hnn : 0 ≤ nn μ ∧ nn μ ≤ 9 ∧ 9 * wr μ ≤ nn μ) (hn8 : nn μ ≤ 8 + wr μ) (hcd : 0 ≤ μ.1 111 22 ∧ μ.1 111 22 ≤ 2 * μ.1 111 9 + 8 * nn μ + 60) (hW : 0 ≤ μ.1 111 39 ∧ μ.1 111 39 ≤ μ.1 111 22) (hsl : 0 ≤ μ.1 111 31 ∧ μ.1 111 31 ≤ 300) (hvr : 0 ≤ μ.1 111 32 ∧ μ.1 111 32 ≤ μ.1 111 9) (hfu : 0 ≤ (kf - 1) ∧ 8 ≤ nn μ + (kf - 1)) (hS0 : ∀ _ : Unit, bd μ = 0 → mS0 μ), CtV ω l yX12_block cX12_block 1 (F + 0) (Lo + 0) [.ref (oP ω 111)] μ (fun (μ' : M3) => (FrM [111, 113, 115, 116, 117, 123, 124, 126] μ μ') ∧ (∀ j, j ∉ ([6, 8, 9, 10, 11, 12, 13, 15, 16, 17, 18, 22, 29, 31, 32, 34, 35, 36, 37, 39] : List Int) → μ'.1 111 j = μ.1 111 j) ∧ (PM μ') ∧ (μ.1 111 22 ≤ μ'.1 111 22 ∧ μ'.1 111 22 ≤ μ.1 111 22 + 2 * (μ'.1 111 9 - μ.1 111 9) + 8 * (nn μ' - nn μ) + (- 4 - 4 * wr μ' + 8 * wr μ)) ∧ (μ.1 111 9 + 1 ≤ μ'.1 111 9 + wr μ') ∧ (μ.1 111 29 ≤ μ'.1 111 29) ∧ (wr μ ≤ wr μ' ∧ bd μ ≤ bd μ') ∧ (nn μ ≤ nn μ' ∧ nn μ' ≤ nn μ + 9 * wr μ' ∧ nn μ' ≤ 9 ∧ 9 * wr μ' ≤ nn μ') ∧ (μ'.1 111 39 = μ.1 111 39) ∧ (∀ j, j < μ.1 111 39 → μ'.1 126 j = μ.1 126 j) ∧ (μ.1 111 31 ≤ μ'.1 111 31 ∧ μ'.1 111 31 ≤ 300) ∧ (0 ≤ μ'.1 111 32 ∧ μ'.1 111 32 ≤ μ'.1 111 9) ∧ (∀ _ : Unit, bd μ' = 0 → mEX μ μ' tt 0 (2 * (8 - nn μ)) 101) ∧ (mEXT μ μ'))) (hPM : PM μ) (hnn : 0 ≤ nn μ ∧ nn μ ≤ 9 ∧ 9 * wr μ ≤ nn μ) (hn8 : nn μ ≤ 8 + wr μ) (hcd : 0 ≤ μ.1 111 22 ∧ μ.1 111 22 ≤ 2 * μ.1 111 9 + 8 * nn μ + 54) (hW : 0 ≤ μ.1 111 39 ∧ μ.1 111 39 ≤ μ.1 111 22) (hsl : 0 ≤ μ.1 111 31 ∧ μ.1 111 31 ≤ 300) (hvr : 0 ≤ μ.1 111 32 ∧ μ.1 111 32 ≤ μ.1 111 9) (hw0 : wr μ = 0) (hfu : 1 ≤ kf ∧ 9 ≤ nn μ + kf) (hS1 : ∀ _ : Unit, bd μ = 0 → mS1 μ tt) (hst : μ.1 111 8 = 1) (hx1n : 0 ≤ x1) : CtV ω l yX12_whiles cX12_whiles 4 (F + 1) (Lo + 20) [.ref (oP ω 111), .int (iv x1)] μ (fun (μ' : M3) => (FrM [111, 113, 115, 116, 117, 123, 124, 126] μ μ') ∧ (∀ j, j ∉ ([6, 8, 9, 10, 11, 12, 13, 15, 16, 17, 18, 22, 29, 31, 32, 34, 35, 36, 37, 39] : List Int) → μ'.1 111 j = μ.1 111 j) ∧ (PM μ') ∧ (μ.1 111 22 ≤ μ'.1 111 22 ∧ μ'.1 111 22 ≤ μ.1 111 22 + 2 * (μ'.1 111 9 - μ.1 111 9) + 8 * (nn μ' - nn μ) + (- 1)) ∧ (μ.1 111 9 + 1 ≤ μ'.1 111 9 + wr μ') ∧ (μ.1 111 29 ≤ μ'.1 111 29) ∧ (wr μ ≤ wr μ' ∧ bd μ ≤ bd μ') ∧ (nn μ ≤ nn μ' ∧ nn μ' ≤ nn μ + 9 * wr μ' ∧ nn μ' ≤ 9 ∧ 9 * wr μ' ≤ nn μ') ∧ (μ'.1 111 39 = μ.1 111 39) ∧ (∀ j, j < μ.1 111 39 → μ'.1 126 j = μ.1 126 j) ∧ (μ.1 111 31 ≤ μ'.1 111 31 ∧ μ'.1 111 31 ≤ 300) ∧ (0 ≤ μ'.1 111 32 ∧ μ'.1 111 32 ≤ μ'.1 111 9) ∧ (∀ _ : Unit, bd μ' = 0 → mEY μ μ' tt ((2 * (9 - nn μ)))) ∧ (mEXT μ μ')) := by
  refine CtV.go (by decide) (Nat.le_of_ble_eq_true rfl) (fun ρ p e s m below meth c R ls G hR hret hlk hl => ?_)
  have hx := G.1.1
  have hb := G.1.2.1
  have hl : lv_has ls 4 [(0, .ref (oP ω 111)), (1, .int (iv x1))] := hl
  generalize s.drawn = d0 at G ⊢
  have hr_x1 : -2147483648 ≤ x1 ∧ x1 ≤ 2147483647 := hx1
  have hw_0 := wr_r (μ := μ)
  have hpp_ := hPM.1.2.1
  have hpn_ := hPM.2.1
  have hpt_ := hPM.1.2.2.2.1
  have hpw_ := hPM.1.2.2.2.2.1
  have hpa_ := hPM.1.1
  have hht_0 : ∀ _ : Unit, bd μ = 0 → mHt μ 0 := fun _ h0 => (hS1 () h0).h
  refine lv_aload_n hx hb dX12_whiles_0 rfl (lv_at hl 0 rfl) ?_
  refine xc_vV G (b := 111) (rest := []) (As := []) (c_X12_next ω l μ  hPM (by (repeat' apply And.intro) <;> omega) (by (repeat' apply And.intro) <;> omega)) (wm 9 0 rfl rfl) (wm 9 2 rfl rfl) (wm 0 119 rfl rfl) rfl rfl (by decide) rfl (wm 1 18 rfl rfl) (wm 9 3 rfl rfl) (by decide) hR ⟨nfB hF (by decide), nlB hLo (by decide)⟩ (n := 0) rfl rfl (Nat.le_of_ble_eq_true rfl) hl.1 dX12_whiles_1 (fun μ1 ρ d0 H locs hp G => ?_)
  obtain ⟨F_2, hp_3, hp_4, hp_5, hp_6, hp_7⟩ := hp
  have hpl_8 := hp_4.pl
  have hw_9 := wr_r (μ := μ1)
  have vl_10 := hp_5
  replace hp_5 := fun _ : Unit => hp_5
  have vl_11 := hp_6
  replace hp_6 := fun _ : Unit => hp_6
  have vl_12 := hp_7
  replace hp_7 := fun _ : Unit => hp_7
  obtain ⟨hv_15, hv_16, hv_17, hv_18, hv_19, hv_20, hv_21, hv_22, hv_23, hv_24, hv_25, hv_26, hv_27, hv_28, hv_29, hv_30, hv_31, hv_32⟩ : μ.1 111 22 ≤ μ.1 111 22 ∧ μ.1 111 22 ≤ μ.1 111 22 + 2 * (μ1.1 111 9 - μ.1 111 9) + 8 * (nn μ1 - nn μ) - 2 + -6 * wr μ1 ∧ μ.1 111 9 + 1 ≤ μ1.1 111 9 ∧ nn μ + 0 ≤ nn μ1 ∧ nn μ1 ≤ nn μ + 0 + 9 * wr μ1 ∧ nn μ1 ≤ 8 + wr μ1 ∧ 9 * wr μ1 ≤ nn μ1 ∧ nn μ1 ≤ 9 ∧ wr μ ≤ wr μ1 ∧ wr μ1 ≤ 1 ∧ wr μ1 ≤ bd μ1 ∧ bd μ1 ≤ 1 ∧ μ.1 111 29 ≤ μ.1 111 29 ∧ μ.1 111 31 ≤ μ.1 111 31 ∧ μ.1 111 31 ≤ 300 ∧ 0 ≤ μ.1 111 32 ∧ μ.1 111 32 ≤ μ1.1 111 9 ∧ μ1.1 111 9 ≤ 3000 := by (repeat' apply And.intro) <;> omega
  clear hpl_8 hw_9 vl_10 vl_11 vl_12
  refine lv_aload_n hx hb dX12_whiles_4 rfl (lv_at hl 0 rfl) ?_
  refine xa_geti G fd_X12 (a := 111) (x := μ.1 111 22) 22 rfl (by decide) rfl (wm 7 171 rfl rfl) ⟨rfl, rfl, rfl⟩ dX12_whiles_5 rfl (hp_3 22 (by decide)) ?_
  have hr_33 : -2147483648 ≤ μ.1 111 22 ∧ μ.1 111 22 ≤ 2147483647 := by have h9 := G.hr (a := 111) (k := 22) rfl; rw [show μ1.1 111 22 = μ.1 111 22 from (hp_3 22 (by decide))] at h9; exact h9
  refine lv_istore_n (lv' := [(2, .int (iv (μ.1 111 22))), (0, .ref (oP ω 111)), (1, .int (iv x1))]) hx hb dX12_whiles_8 rfl hl (by decide) rfl (fun ls hl => ?_)
  refine lv_aload_n hx hb dX12_whiles_9 rfl (lv_at hl 1 rfl) ?_
  refine lv_bipush (v := iv 40) hx hb dX12_whiles_10 rfl ?_
  have hw_34 := wr_r (μ := μ1)
  refine xc_vV G (b := 111) (rest := []) (As := [.int (iv 40)]) (c_X12_opensWith ω l μ1 40 (by unfold ir; decide) hp_4 (by (repeat' apply And.intro) <;> omega) (by (repeat' apply And.intro) <;> omega)) (wm 9 86 rfl rfl) (wm 9 88 rfl rfl) (wm 0 134 rfl rfl) rfl rfl (by decide) rfl (wm 1 18 rfl rfl) (wm 9 89 rfl rfl) (by decide) hR ⟨nfB hF (by decide), nlB hLo (by decide)⟩ (n := 1) rfl rfl (Nat.le_of_ble_eq_true rfl) hl.1 dX12_whiles_12 (fun μ35 ρ d0 H locs hp G => ?_)
  obtain ⟨F_36, hp_37, hp_38, hp_39, hp_40, hp_41, hp_42⟩ := hp
  have hpl_43 := hp_38.pl
  have hw_44 := wr_r (μ := μ35)
  have vl_45 := hp_39
  replace hp_39 := fun _ : Unit => hp_39
  have vl_46 := hp_40
  replace hp_40 := fun _ : Unit => hp_40
  have vl_47 := hp_41
  replace hp_41 := fun _ : Unit => hp_41
  have vl_48 := hp_42
  replace hp_42 := fun _ : Unit => hp_42
  obtain ⟨hv_51, hv_52, hv_53, hv_54, hv_55, hv_56, hv_57, hv_58, hv_59, hv_60, hv_61, hv_62, hv_63, hv_64, hv_65, hv_66, hv_67, hv_68⟩ : μ.1 111 22 ≤ μ.1 111 22 ∧ μ.1 111 22 ≤ μ.1 111 22 + 2 * (μ35.1 111 9 - μ.1 111 9) + 8 * (nn μ35 - nn μ) - 12 + 4 * wr μ35 ∧ μ.1 111 9 + 1 ≤ μ35.1 111 9 ∧ nn μ + 1 ≤ nn μ35 ∧ nn μ35 ≤ nn μ + 1 + 9 * wr μ35 ∧ nn μ35 ≤ 8 + wr μ35 ∧ 9 * wr μ35 ≤ nn μ35 ∧ nn μ35 ≤ 9 ∧ wr μ ≤ wr μ35 ∧ wr μ35 ≤ 1 ∧ wr μ35 ≤ bd μ35 ∧ bd μ35 ≤ 1 ∧ μ.1 111 29 ≤ μ.1 111 29 ∧ μ.1 111 31 ≤ μ.1 111 31 ∧ μ.1 111 31 ≤ 300 ∧ 0 ≤ μ.1 111 32 ∧ μ.1 111 32 ≤ μ35.1 111 9 ∧ μ35.1 111 9 ≤ 3000 := by (repeat' apply And.intro) <;> omega
  clear hv_15 hv_16 hv_17 hv_18 hv_19 hv_20 hv_21 hv_22 hv_23 hv_24 hv_25 hv_26 hv_27 hv_28 hv_29 hv_30 hv_31 hv_32 hw_34 hpl_43 hw_44 vl_45 vl_46 vl_47 vl_48
  refine lv_aload_n hx hb dX12_whiles_15 rfl (lv_at hl 1 rfl) ?_
  have hq_69 : ∀ _ : Unit, q0m μ μ35 := fun _ => (q0m.fr (K := [111]) (FrM.tr (FrM.tr FrM.rf F_2 (by decide)) F_36 (by decide)) (by decide) (by decide) (by decide) ((hp_37 22 (by decide)).trans (hp_3 22 (by decide))) (nS.le (Int.le_trans (Int.le_of_eq (hp_3 29 (by decide)).symm) (Int.le_of_eq (hp_37 29 (by decide)).symm)) (Int.le_trans (Int.le_of_eq (hp_3 31 (by decide)).symm) (Int.le_of_eq (hp_37 31 (by decide)).symm))))
  have hw_70 := wr_r (μ := μ35)
  have hht_71 : ∀ _ : Unit, bd μ35 = 0 → mHt μ35 0 := fun _ h0 => (hht_0 () (bd_z (Int.le_trans ((hp_6 ()).2) ((hp_41 ()).2)) h0)).qm (hq_69 ())
  have e_72 : μ35.1 111 29 = μ.1 111 29 := ((hp_37 29 (by decide)).trans (hp_3 29 (by decide)))
  have hxt_73 : mEXT μ μ35 := (q0m.fr (K := [111]) (FrM.tr (FrM.tr FrM.rf F_2 (by decide)) F_36 (by decide)) (by decide) (by decide) (by decide) ((hp_37 22 (by decide)).trans (hp_3 22 (by decide))) (nS.le (Int.le_trans (Int.le_of_eq (hp_3 29 (by decide)).symm) (Int.le_of_eq (hp_37 29 (by decide)).symm)) (Int.le_trans (Int.le_of_eq (hp_3 31 (by decide)).symm) (Int.le_of_eq (hp_37 31 (by decide)).symm)))).1
  have e_74 : μ35.1 111 14 = tt := ((hp_37 14 (by decide)).trans ((hp_3 14 (by decide)).trans htt.symm))
  have e_75 : μ35.1 111 22 = μ.1 111 22 := ((hp_37 22 (by decide)).trans (hp_3 22 (by decide)))
  have e_77 : μ35.1 111 39 = μ.1 111 39 := ((hp_37 39 (by decide)).trans (hp_3 39 (by decide)))
  have e_80 : μ35.1 111 31 = μ.1 111 31 := ((hp_37 31 (by decide)).trans (hp_3 31 (by decide)))
  refine xc_vV G (b := 111) (rest := []) (As := []) (c_X12_expr_a ω l μ35 tt (by (repeat' apply And.intro) <;> omega) hp_38 (by (repeat' apply And.intro) <;> omega) (by (repeat' apply And.intro) <;> omega) (by (repeat' apply And.intro) <;> omega) (by (repeat' apply And.intro) <;> omega) (by (repeat' apply And.intro) <;> omega) (fun _ h0 => (hht_71 () h0).p (by decide))) (wm 9 139 rfl rfl) (wm 9 141 rfl rfl) (wm 0 147 rfl rfl) rfl rfl (by decide) rfl (wm 1 18 rfl rfl) (wm 9 142 rfl rfl) (by decide) hR ⟨nfB hF (by decide), nlB hLo (by decide)⟩ (n := 0) rfl rfl (Nat.le_of_ble_eq_true rfl) hl.1 dX12_whiles_16 (fun μ86 ρ d0 H locs hp G => ?_)
  obtain ⟨F_87, hp_88, hp_89, hp_90, hp_91, hp_92, hp_93, hp_94, hp_95, hp_96, hp_97, hp_98⟩ := hp
  have hpl_99 := hp_89.pl
  have hw_100 := wr_r (μ := μ86)
  have hxt_101 : mEXT μ μ86 := hxt_73.tr hp_98
  have hwk_102 : ∀ j, j < μ.1 111 39 → μ86.1 126 j = μ35.1 126 j := fun j hj => hp_96 j (by omega)
  have hex_103 : ∀ _ : Unit, bd μ86 = 0 → mEX μ35 μ86 tt 1 0 99 := fun _ h0 => (hp_97 () h0).mn (Int.le_refl _) (by omega)
  have hht_104 : ∀ _ : Unit, bd μ86 = 0 → mHt μ86 1 := fun _ h0 => (hht_71 () (bd_z (hp_93.2) h0)).ex (hex_103 () h0) rfl
  have vl_105 := hp_90
  replace hp_90 := fun _ : Unit => hp_90
  have vl_106 := hp_91
  replace hp_91 := fun _ : Unit => hp_91
  have vl_107 := hp_92
  replace hp_92 := fun _ : Unit => hp_92
  have vl_108 := hp_93
  replace hp_93 := fun _ : Unit => hp_93
  have vl_109 := hp_94
  replace hp_94 := fun _ : Unit => hp_94
  have vl_110 := hp_95
  replace hp_95 := fun _ : Unit => hp_95
  have h39_111 : μ86.1 111 39 = μ.1 111 39 := by omega
  obtain ⟨hv_114, hv_115, hv_116, hv_117, hv_118, hv_119, hv_120, hv_121, hv_122, hv_123, hv_124, hv_125, hv_126, hv_127, hv_128, hv_129, hv_130, hv_131⟩ : μ.1 111 22 ≤ μ86.1 111 22 ∧ μ86.1 111 22 ≤ μ.1 111 22 + 2 * (μ86.1 111 9 - μ.1 111 9) + 8 * (nn μ86 - nn μ) - 13 + 5 * wr μ86 ∧ μ.1 111 9 + 1 ≤ μ86.1 111 9 ∧ nn μ + 1 ≤ nn μ86 ∧ nn μ86 ≤ nn μ + 1 + 9 * wr μ86 ∧ nn μ86 ≤ 8 + wr μ86 ∧ 9 * wr μ86 ≤ nn μ86 ∧ nn μ86 ≤ 9 ∧ wr μ ≤ wr μ86 ∧ wr μ86 ≤ 1 ∧ wr μ86 ≤ bd μ86 ∧ bd μ86 ≤ 1 ∧ μ.1 111 29 ≤ μ86.1 111 29 ∧ μ.1 111 31 ≤ μ.1 111 31 ∧ μ.1 111 31 ≤ 300 ∧ 0 ≤ μ.1 111 32 ∧ μ.1 111 32 ≤ μ86.1 111 9 ∧ μ86.1 111 9 ≤ 3000 := by (repeat' apply And.intro) <;> omega
  clear hv_51 hv_52 hv_53 hv_54 hv_55 hv_56 hv_57 hv_58 hv_59 hv_60 hv_61 hv_62 hv_63 hv_64 hv_65 hv_66 hv_67 hv_68 hw_70 e_72 e_74 e_75 e_77 e_80 hpl_99 hw_100 vl_105 vl_106 vl_107 vl_108 vl_109 vl_110
  refine lv_aload_n hx hb dX12_whiles_19 rfl (lv_at hl 1 rfl) ?_
  refine lv_bipush (v := iv 41) hx hb dX12_whiles_20 rfl ?_
  have hw_132 := wr_r (μ := μ86)
  refine xc_vV G (b := 111) (rest := []) (As := [.int (iv 41)]) (c_X12_closesWith ω l μ86 41 (by unfold ir; decide) hp_89 (by (repeat' apply And.intro) <;> omega) (by (repeat' apply And.intro) <;> omega)) (wm 9 110 rfl rfl) (wm 9 112 rfl rfl) (wm 0 140 rfl rfl) rfl rfl (by decide) rfl (wm 1 18 rfl rfl) (wm 9 113 rfl rfl) (by decide) hR ⟨nfB hF (by decide), nlB hLo (by decide)⟩ (n := 1) rfl rfl (Nat.le_of_ble_eq_true rfl) hl.1 dX12_whiles_22 (fun μ133 ρ d0 H locs hp G => ?_)
  obtain ⟨F_134, hp_135, hp_136, hp_137, hp_138, hp_139, hp_140⟩ := hp
  have hpl_141 := hp_136.pl
  have hw_142 := wr_r (μ := μ133)
  have vl_143 := hp_137
  replace hp_137 := fun _ : Unit => hp_137
  have vl_144 := hp_138
  replace hp_138 := fun _ : Unit => hp_138
  have vl_145 := hp_139
  replace hp_139 := fun _ : Unit => hp_139
  have vl_146 := hp_140
  replace hp_140 := fun _ : Unit => hp_140
  obtain ⟨hv_149, hv_150, hv_151, hv_152, hv_153, hv_154, hv_155, hv_156, hv_157, hv_158, hv_159, hv_160, hv_161, hv_162, hv_163, hv_164, hv_165, hv_166⟩ : μ.1 111 22 ≤ μ86.1 111 22 ∧ μ86.1 111 22 ≤ μ.1 111 22 + 2 * (μ133.1 111 9 - μ.1 111 9) + 8 * (nn μ133 - nn μ) - 7 + -1 * wr μ133 ∧ μ.1 111 9 + 1 ≤ μ133.1 111 9 ∧ nn μ + 0 ≤ nn μ133 ∧ nn μ133 ≤ nn μ + 0 + 9 * wr μ133 ∧ nn μ133 ≤ 8 + wr μ133 ∧ 9 * wr μ133 ≤ nn μ133 ∧ nn μ133 ≤ 9 ∧ wr μ ≤ wr μ133 ∧ wr μ133 ≤ 1 ∧ wr μ133 ≤ bd μ133 ∧ bd μ133 ≤ 1 ∧ μ.1 111 29 ≤ μ86.1 111 29 ∧ μ.1 111 31 ≤ μ.1 111 31 ∧ μ.1 111 31 ≤ 300 ∧ 0 ≤ μ.1 111 32 ∧ μ.1 111 32 ≤ μ133.1 111 9 ∧ μ133.1 111 9 ≤ 3000 := by (repeat' apply And.intro) <;> omega
  clear hv_114 hv_115 hv_116 hv_117 hv_118 hv_119 hv_120 hv_121 hv_122 hv_123 hv_124 hv_125 hv_126 hv_127 hv_128 hv_129 hv_130 hv_131 hw_132 hpl_141 hw_142 vl_143 vl_144 vl_145 vl_146
  refine lv_aload_n hx hb dX12_whiles_25 rfl (lv_at hl 1 rfl) ?_
  refine lv_bipush (v := iv 7) hx hb dX12_whiles_26 rfl ?_
  refine lv_lconst (v := jv 0) hx hb dX12_whiles_28 rfl ?_
  refine lv_iconst (v := iv 0) hx hb dX12_whiles_29 rfl ?_
  have hq_167 : ∀ _ : Unit, q0m μ86 μ133 := fun _ => (q0m.fr (K := [111]) (FrM.tr FrM.rf F_134 (by decide)) (by decide) (by decide) (by decide) (hp_135 22 (by decide)) (nS.le (Int.le_of_eq (hp_135 29 (by decide)).symm) (Int.le_of_eq (hp_135 31 (by decide)).symm)))
  have hw_168 := wr_r (μ := μ133)
  have hht_169 : ∀ _ : Unit, bd μ133 = 0 → mHt μ133 1 := fun _ h0 => (hht_104 () (bd_z ((hp_139 ()).2) h0)).qm (hq_167 ())
  have e_170 : μ133.1 111 29 = μ86.1 111 29 := (hp_135 29 (by decide))
  have hxt_171 : mEXT μ μ133 := hxt_101.tr (q0m.fr (K := [111]) (FrM.tr FrM.rf F_134 (by decide)) (by decide) (by decide) (by decide) (hp_135 22 (by decide)) (nS.le (Int.le_of_eq (hp_135 29 (by decide)).symm) (Int.le_of_eq (hp_135 31 (by decide)).symm))).1
  have e_172 : μ133.1 111 22 = μ86.1 111 22 := (hp_135 22 (by decide))
  refine xc_iV G (b := 111) (rest := []) (As := [.int (iv 7), .long (jv 0), .int (iv 0)]) (c_X12_emit ω l μ133 7 0 0 (by unfold ir; decide) (by unfold jr; omega) (by unfold ir; decide) (by (repeat' apply And.intro) <;> omega)) (wm 9 126 rfl rfl) (wm 9 128 rfl rfl) (wm 0 144 rfl rfl) rfl rfl (by decide) rfl (wm 1 18 rfl rfl) (wm 9 129 rfl rfl) (by decide) hR ⟨nfB hF (by decide), nlB hLo (by decide)⟩ (n := 3) rfl rfl (Nat.le_of_ble_eq_true rfl) hl.1 dX12_whiles_30 (fun r_177 μ176 ρ d0 H locs hr_r_177 hp G => ?_)
  have hr_r_177 : -2147483648 ≤ r_177 ∧ r_177 ≤ 2147483647 := hr_r_177
  obtain ⟨F_178, hp_179, hp_180, hp_181, hp_182⟩ := hp
  have hxt_183 : mEXT μ μ176 := hxt_171.tr hp_180.1
  have hht_184 : ∀ _ : Unit, bd μ176 = 0 → mHt μ176 0 := fun _ h0 => (hht_169 () (bd_z (Int.le_of_eq (bd_cg (hp_179 15 (by decide)) (hp_179 16 (by decide)) (hp_179 17 (by decide))).symm) h0)).ad hp_180 rfl
  have hps_r_177 : μ.1 111 22 ≤ r_177 := by omega
  have vl_185 := hp_182
  replace hp_182 := fun _ : Unit => hp_182
  obtain ⟨hv_188, hv_189, hv_190, hv_191, hv_192, hv_193, hv_194, hv_195, hv_196, hv_197, hv_198, hv_199, hv_200, hv_201, hv_202, hv_203, hv_204, hv_205, hv_206⟩ : μ.1 111 22 ≤ μ176.1 111 22 ∧ μ176.1 111 22 ≤ μ.1 111 22 + 2 * (μ133.1 111 9 - μ.1 111 9) + 8 * (nn μ133 - nn μ) - 6 + -1 * wr μ133 ∧ μ.1 111 9 + 1 ≤ μ133.1 111 9 ∧ nn μ + 0 ≤ nn μ133 ∧ nn μ133 ≤ nn μ + 0 + 9 * wr μ133 ∧ nn μ133 ≤ 8 + wr μ133 ∧ 9 * wr μ133 ≤ nn μ133 ∧ nn μ133 ≤ 9 ∧ wr μ ≤ wr μ133 ∧ wr μ133 ≤ 1 ∧ wr μ133 ≤ bd μ133 ∧ bd μ133 ≤ 1 ∧ r_177 + 1 ≤ μ176.1 111 22 ∧ μ.1 111 29 ≤ μ86.1 111 29 ∧ μ.1 111 31 ≤ μ.1 111 31 ∧ μ.1 111 31 ≤ 300 ∧ 0 ≤ μ.1 111 32 ∧ μ.1 111 32 ≤ μ133.1 111 9 ∧ μ133.1 111 9 ≤ 3000 := by (repeat' apply And.intro) <;> omega
  clear hv_149 hv_150 hv_151 hv_152 hv_153 hv_154 hv_155 hv_156 hv_157 hv_158 hv_159 hv_160 hv_161 hv_162 hv_163 hv_164 hv_165 hv_166 hw_168 e_170 e_172 vl_185
  refine lv_istore_n (lv' := [(3, .int (iv r_177)), (2, .int (iv (μ.1 111 22))), (0, .ref (oP ω 111)), (1, .int (iv x1))]) hx hb dX12_whiles_33 rfl hl (by decide) rfl (fun ls hl => ?_)
  refine lv_aload_n hx hb dX12_whiles_34 rfl (lv_at hl 2 rfl) ?_
  have e_207 : μ176.1 111 29 = μ86.1 111 29 := ((hp_179 29 (by decide)).trans (hp_135 29 (by decide)))
  have e_208 : μ176.1 111 14 = tt := ((hp_179 14 (by decide)).trans ((hp_135 14 (by decide)).trans ((hp_88 14 (by decide)).trans ((hp_37 14 (by decide)).trans ((hp_3 14 (by decide)).trans htt.symm)))))
  have hPM_209 : PM μ176 := hp_136.cg ((((hp_179 4 (by decide)).trans ((hp_135 4 (by decide)).trans ((hp_88 4 (by decide)).trans ((hp_37 4 (by decide)).trans (hp_3 4 (by decide))))))).trans (((hp_135 4 (by decide)).trans ((hp_88 4 (by decide)).trans ((hp_37 4 (by decide)).trans (hp_3 4 (by decide)))))).symm) (hp_179 6 (by decide)) ((((hp_179 7 (by decide)).trans ((hp_135 7 (by decide)).trans ((hp_88 7 (by decide)).trans ((hp_37 7 (by decide)).trans (hp_3 7 (by decide))))))).trans (((hp_135 7 (by decide)).trans ((hp_88 7 (by decide)).trans ((hp_37 7 (by decide)).trans (hp_3 7 (by decide)))))).symm) (hp_179 8 (by decide)) (hp_179 9 (by decide)) (hp_179 11 (by decide)) (hp_179 12 (by decide)) ((((hp_179 14 (by decide)).trans ((hp_135 14 (by decide)).trans ((hp_88 14 (by decide)).trans ((hp_37 14 (by decide)).trans ((hp_3 14 (by decide)).trans htt.symm)))))).trans (((hp_135 14 (by decide)).trans ((hp_88 14 (by decide)).trans ((hp_37 14 (by decide)).trans ((hp_3 14 (by decide)).trans htt.symm))))).symm) (hp_179 15 (by decide)) ((((hp_179 29 (by decide)).trans (hp_135 29 (by decide)))).trans ((hp_135 29 (by decide))).symm) (fun j => (F_178.1 123 (by decide) j))
  have e_210 : wr μ176 = wr μ133 := (wr_cg (hp_179 15 (by decide)))
  have hw_211 := wr_r (μ := μ133)
  have e_212 : nn μ176 = nn μ133 := (nn_cg (hp_179 15 (by decide)) (hp_179 18 (by decide)))
  have e_215 : μ176.1 111 9 = μ133.1 111 9 := (hp_179 9 (by decide))
  have e_217 : μ176.1 111 39 = μ86.1 111 39 := ((hp_179 39 (by decide)).trans (hp_135 39 (by decide)))
  have e_219 : μ176.1 111 31 = μ.1 111 31 := ((hp_179 31 (by decide)).trans ((hp_135 31 (by decide)).trans ((hp_88 31 (by decide)).trans ((hp_37 31 (by decide)).trans (hp_3 31 (by decide))))))
  have e_221 : μ176.1 111 32 = μ.1 111 32 := ((hp_179 32 (by decide)).trans ((hp_135 32 (by decide)).trans ((hp_88 32 (by decide)).trans ((hp_37 32 (by decide)).trans (hp_3 32 (by decide))))))
  have e_231 : bd μ176 = bd μ133 := (bd_cg (hp_179 15 (by decide)) (hp_179 16 (by decide)) (hp_179 17 (by decide)))
  refine xc_vV G (b := 111) (rest := []) (As := []) (((fun (_ : Om) (_ : Launch) => hK)) ω l μ176 tt (by (repeat' apply And.intro) <;> omega) hPM_209 (by (repeat' apply And.intro) <;> omega) (by (repeat' apply And.intro) <;> omega) (by (repeat' apply And.intro) <;> omega) (by (repeat' apply And.intro) <;> omega) (by (repeat' apply And.intro) <;> omega) (by (repeat' apply And.intro) <;> omega) (by (repeat' apply And.intro) <;> omega) (fun _ h0 => (hht_184 () h0).s)) (wm 9 118 rfl rfl) (wm 9 120 rfl rfl) (wm 0 142 rfl rfl) rfl rfl (by decide) rfl (wm 1 18 rfl rfl) (wm 9 121 rfl rfl) (by decide) hR ⟨sfr (F := F) (a := 0) (by decide), slo (L := Lo) (m := 1) (a := 0) (by decide)⟩ (n := 0) rfl rfl (Nat.le_of_ble_eq_true rfl) hl.1 dX12_whiles_35 (fun μ235 ρ d0 H locs hp G => ?_)
  obtain ⟨F_236, hp_237, hp_238, hp_239, hp_240, hp_241, hp_242, hp_243, hp_244, hp_245, hp_246, hp_247, hp_248, hp_249⟩ := hp
  have hpl_250 := hp_238.pl
  have hw_251 := wr_r (μ := μ235)
  have hw_252 := wr_r (μ := μ176)
  have hxt_253 : mEXT μ μ235 := hxt_183.tr hp_249
  have hwk_254 : ∀ j, j < μ.1 111 39 → μ235.1 126 j = μ176.1 126 j := fun j hj => hp_245 j (by omega)
  have hex_255 : ∀ _ : Unit, bd μ235 = 0 → mEX μ176 μ235 tt 0 (2 * (8 - nn μ)) 101 := fun _ h0 => (hp_248 () h0).mn (by omega) (Int.le_refl _)
  have hht_256 : ∀ _ : Unit, bd μ235 = 0 → mHt μ235 0 := fun _ h0 => (hht_184 () (bd_z (hp_242.2) h0)).ex (hex_255 () h0) rfl
  have vl_257 := hp_239
  replace hp_239 := fun _ : Unit => hp_239
  have vl_258 := hp_240
  replace hp_240 := fun _ : Unit => hp_240
  have vl_259 := hp_241
  replace hp_241 := fun _ : Unit => hp_241
  have vl_260 := hp_242
  replace hp_242 := fun _ : Unit => hp_242
  have vl_261 := hp_243
  replace hp_243 := fun _ : Unit => hp_243
  have vl_262 := hp_244
  replace hp_244 := fun _ : Unit => hp_244
  have vl_263 := hp_246
  replace hp_246 := fun _ : Unit => hp_246
  have vl_264 := hp_247
  replace hp_247 := fun _ : Unit => hp_247
  have h39_265 : μ235.1 111 39 = μ.1 111 39 := by omega
  obtain ⟨hv_268, hv_269, hv_270, hv_271, hv_272, hv_273, hv_274, hv_275, hv_276, hv_277, hv_278, hv_279, hv_280, hv_281, hv_282, hv_283, hv_284, hv_285, hv_286⟩ : μ.1 111 22 ≤ μ235.1 111 22 ∧ μ235.1 111 22 ≤ μ.1 111 22 + 2 * (μ235.1 111 9 - μ.1 111 9) + 8 * (nn μ235 - nn μ) - 10 + 3 * wr μ235 ∧ μ.1 111 9 + 1 ≤ μ235.1 111 9 ∧ nn μ + 0 ≤ nn μ235 ∧ nn μ235 ≤ nn μ + 0 + 9 * wr μ235 ∧ nn μ235 ≤ 8 + wr μ235 ∧ 9 * wr μ235 ≤ nn μ235 ∧ nn μ235 ≤ 9 ∧ wr μ ≤ wr μ235 ∧ wr μ235 ≤ 1 ∧ wr μ235 ≤ bd μ235 ∧ bd μ235 ≤ 1 ∧ r_177 + 1 ≤ μ235.1 111 22 ∧ μ.1 111 29 ≤ μ235.1 111 29 ∧ μ.1 111 31 ≤ μ235.1 111 31 ∧ μ235.1 111 31 ≤ 300 ∧ 0 ≤ μ235.1 111 32 ∧ μ235.1 111 32 ≤ μ235.1 111 9 ∧ μ235.1 111 9 ≤ 3000 := by (repeat' apply And.intro) <;> omega
  clear hv_188 hv_189 hv_190 hv_191 hv_192 hv_193 hv_194 hv_195 hv_196 hv_197 hv_198 hv_199 hv_200 hv_201 hv_202 hv_203 hv_204 hv_205 hv_206 e_207 e_208 e_210 hw_211 e_212 e_215 e_217 e_219 e_221 e_231 hpl_250 hw_251 hw_252 vl_257 vl_258 vl_259 vl_260 vl_261 vl_262 vl_263 vl_264
  refine lv_aload_n hx hb dX12_whiles_38 rfl (lv_at hl 2 rfl) ?_
  refine lv_iconst (v := iv 0) hx hb dX12_whiles_39 rfl ?_
  refine lv_iload_n hx hb dX12_whiles_40 rfl (lv_at hl 3 rfl) ?_
  refine xb_i2l hx hb (by unfold ir; exact ⟨by omega, by omega⟩) dX12_whiles_41 ?_
  refine lv_iconst (v := iv 0) hx hb dX12_whiles_42 rfl ?_
  refine xc_iV G (b := 111) (rest := []) (As := [.int (iv 0), .long (jv x1), .int (iv 0)]) (c_X12_emit ω l μ235 0 x1 0 (by unfold ir; decide) (by unfold jr; omega) (by unfold ir; decide) (by (repeat' apply And.intro) <;> omega)) (wm 9 126 rfl rfl) (wm 9 128 rfl rfl) (wm 0 144 rfl rfl) rfl rfl (by decide) rfl (wm 1 18 rfl rfl) (wm 9 129 rfl rfl) (by decide) hR ⟨nfB hF (by decide), nlB hLo (by decide)⟩ (n := 3) rfl rfl (Nat.le_of_ble_eq_true rfl) hl.1 dX12_whiles_43 (fun r_288 μ287 ρ d0 H locs hr_r_288 hp G => ?_)
  have hr_r_288 : -2147483648 ≤ r_288 ∧ r_288 ≤ 2147483647 := hr_r_288
  obtain ⟨F_289, hp_290, hp_291, hp_292, hp_293⟩ := hp
  have hxt_294 : mEXT μ μ287 := hxt_253.tr hp_291.1
  have hht_295 : ∀ _ : Unit, bd μ287 = 0 → mHt μ287 0 := fun _ h0 => (hht_256 () (bd_z (Int.le_of_eq (bd_cg (hp_290 15 (by decide)) (hp_290 16 (by decide)) (hp_290 17 (by decide))).symm) h0)).ad hp_291 rfl
  have vl_296 := hp_293
  replace hp_293 := fun _ : Unit => hp_293
  have hw_297 := wr_r (μ := μ235)
  obtain ⟨hv_299, hv_300, hv_301, hv_302, hv_303, hv_304, hv_305, hv_306, hv_307, hv_308, hv_309, hv_310, hv_311, hv_312, hv_313, hv_314, hv_315, hv_316, hv_317⟩ : μ.1 111 22 ≤ μ287.1 111 22 ∧ μ287.1 111 22 ≤ μ.1 111 22 + 2 * (μ235.1 111 9 - μ.1 111 9) + 8 * (nn μ235 - nn μ) - 9 + 3 * wr μ235 ∧ μ.1 111 9 + 1 ≤ μ235.1 111 9 ∧ nn μ + 0 ≤ nn μ235 ∧ nn μ235 ≤ nn μ + 0 + 9 * wr μ235 ∧ nn μ235 ≤ 8 + wr μ235 ∧ 9 * wr μ235 ≤ nn μ235 ∧ nn μ235 ≤ 9 ∧ wr μ ≤ wr μ235 ∧ wr μ235 ≤ 1 ∧ wr μ235 ≤ bd μ235 ∧ bd μ235 ≤ 1 ∧ r_177 + 1 ≤ μ287.1 111 22 ∧ μ.1 111 29 ≤ μ235.1 111 29 ∧ μ.1 111 31 ≤ μ235.1 111 31 ∧ μ235.1 111 31 ≤ 300 ∧ 0 ≤ μ235.1 111 32 ∧ μ235.1 111 32 ≤ μ235.1 111 9 ∧ μ235.1 111 9 ≤ 3000 := by (repeat' apply And.intro) <;> omega
  clear hv_268 hv_269 hv_270 hv_271 hv_272 hv_273 hv_274 hv_275 hv_276 hv_277 hv_278 hv_279 hv_280 hv_281 hv_282 hv_283 hv_284 hv_285 hv_286 vl_296 hw_297
  refine lv_pop hx hb dX12_whiles_46 rfl ?_
  refine lv_aload_n hx hb dX12_whiles_47 rfl (lv_at hl 2 rfl) ?_
  refine lv_bipush (v := iv 8) hx hb dX12_whiles_48 rfl ?_
  refine lv_iload_n hx hb dX12_whiles_50 rfl (lv_at hl 1 rfl) ?_
  refine xb_i2l hx hb (by unfold ir; exact ⟨by omega, by omega⟩) dX12_whiles_51 ?_
  refine lv_iconst (v := iv 0) hx hb dX12_whiles_52 rfl ?_
  have e_318 : μ287.1 111 29 = μ235.1 111 29 := (hp_290 29 (by decide))
  refine xc_iV G (b := 111) (rest := []) (As := [.int (iv 8), .long (jv (μ.1 111 22)), .int (iv 0)]) (c_X12_emit ω l μ287 8 (μ.1 111 22) 0 (by unfold ir; decide) (by unfold jr; omega) (by unfold ir; decide) (by (repeat' apply And.intro) <;> omega)) (wm 9 126 rfl rfl) (wm 9 128 rfl rfl) (wm 0 144 rfl rfl) rfl rfl (by decide) rfl (wm 1 18 rfl rfl) (wm 9 129 rfl rfl) (by decide) hR ⟨nfB hF (by decide), nlB hLo (by decide)⟩ (n := 3) rfl rfl (Nat.le_of_ble_eq_true rfl) hl.1 dX12_whiles_53 (fun r_320 μ319 ρ d0 H locs hr_r_320 hp G => ?_)
  have hr_r_320 : -2147483648 ≤ r_320 ∧ r_320 ≤ 2147483647 := hr_r_320
  obtain ⟨F_321, hp_322, hp_323, hp_324, hp_325⟩ := hp
  have hxt_326 : mEXT μ μ319 := hxt_294.tr hp_323.1
  have hht_327 : ∀ _ : Unit, bd μ319 = 0 → mHt μ319 0 := fun _ h0 => (hht_295 () (bd_z (Int.le_of_eq (bd_cg (hp_322 15 (by decide)) (hp_322 16 (by decide)) (hp_322 17 (by decide))).symm) h0)).ad hp_323 rfl
  have vl_328 := hp_325
  replace hp_325 := fun _ : Unit => hp_325
  have hw_329 := wr_r (μ := μ235)
  obtain ⟨hv_331, hv_332, hv_333, hv_334, hv_335, hv_336, hv_337, hv_338, hv_339, hv_340, hv_341, hv_342, hv_343, hv_344, hv_345, hv_346, hv_347, hv_348, hv_349⟩ : μ.1 111 22 ≤ μ319.1 111 22 ∧ μ319.1 111 22 ≤ μ.1 111 22 + 2 * (μ235.1 111 9 - μ.1 111 9) + 8 * (nn μ235 - nn μ) - 8 + 3 * wr μ235 ∧ μ.1 111 9 + 1 ≤ μ235.1 111 9 ∧ nn μ + 0 ≤ nn μ235 ∧ nn μ235 ≤ nn μ + 0 + 9 * wr μ235 ∧ nn μ235 ≤ 8 + wr μ235 ∧ 9 * wr μ235 ≤ nn μ235 ∧ nn μ235 ≤ 9 ∧ wr μ ≤ wr μ235 ∧ wr μ235 ≤ 1 ∧ wr μ235 ≤ bd μ235 ∧ bd μ235 ≤ 1 ∧ r_177 + 1 ≤ μ319.1 111 22 ∧ μ.1 111 29 ≤ μ235.1 111 29 ∧ μ.1 111 31 ≤ μ235.1 111 31 ∧ μ235.1 111 31 ≤ 300 ∧ 0 ≤ μ235.1 111 32 ∧ μ235.1 111 32 ≤ μ235.1 111 9 ∧ μ235.1 111 9 ≤ 3000 := by (repeat' apply And.intro) <;> omega
  clear hv_299 hv_300 hv_301 hv_302 hv_303 hv_304 hv_305 hv_306 hv_307 hv_308 hv_309 hv_310 hv_311 hv_312 hv_313 hv_314 hv_315 hv_316 hv_317 e_318 vl_328 hw_329
  refine lv_pop hx hb dX12_whiles_56 rfl ?_
  refine lv_aload_n hx hb dX12_whiles_57 rfl (lv_at hl 2 rfl) ?_
  refine lv_iload_n hx hb dX12_whiles_58 rfl (lv_at hl 0 rfl) ?_
  have e_350 : μ319.1 111 29 = μ235.1 111 29 := ((hp_322 29 (by decide)).trans (hp_290 29 (by decide)))
  refine xc_vV G (b := 111) (rest := []) (As := [.int (iv r_177)]) (c_X12_lands ω l μ319 r_177 (by unfold ir; exact ⟨by omega, by omega⟩) (by (repeat' apply And.intro) <;> omega) (by (repeat' apply And.intro) <;> omega)) (wm 9 167 rfl rfl) (wm 9 169 rfl rfl) (wm 0 154 rfl rfl) rfl rfl (by decide) rfl (wm 1 18 rfl rfl) (wm 9 170 rfl rfl) (by decide) hR ⟨nfB hF (by decide), nlB hLo (by decide)⟩ (n := 1) rfl rfl (Nat.le_of_ble_eq_true rfl) hl.1 dX12_whiles_59 (fun μ351 ρ d0 H locs hp G => ?_)
  obtain ⟨F_352, hp_353⟩ := hp
  have hxt_354 : mEXT μ μ351 := hxt_326.mf hp_353 (by omega)
  have hht_355 : ∀ _ : Unit, bd μ351 = 0 → mHt μ351 0 := fun _ h0 => (hht_327 () (bd_z (Int.le_of_eq (bd_cg (F_352.1 111 (by decide) 15) (F_352.1 111 (by decide) 16) (F_352.1 111 (by decide) 17)).symm) h0)).mf hp_353
  have hw_356 := wr_r (μ := μ235)
  obtain ⟨hv_358, hv_359, hv_360, hv_361, hv_362, hv_363, hv_364, hv_365, hv_366, hv_367, hv_368, hv_369, hv_370, hv_371, hv_372, hv_373, hv_374, hv_375, hv_376⟩ : μ.1 111 22 ≤ μ319.1 111 22 ∧ μ319.1 111 22 ≤ μ.1 111 22 + 2 * (μ235.1 111 9 - μ.1 111 9) + 8 * (nn μ235 - nn μ) - 8 + 3 * wr μ235 ∧ μ.1 111 9 + 1 ≤ μ235.1 111 9 ∧ nn μ + 0 ≤ nn μ235 ∧ nn μ235 ≤ nn μ + 0 + 9 * wr μ235 ∧ nn μ235 ≤ 8 + wr μ235 ∧ 9 * wr μ235 ≤ nn μ235 ∧ nn μ235 ≤ 9 ∧ wr μ ≤ wr μ235 ∧ wr μ235 ≤ 1 ∧ wr μ235 ≤ bd μ235 ∧ bd μ235 ≤ 1 ∧ r_177 + 1 ≤ μ319.1 111 22 ∧ μ.1 111 29 ≤ μ235.1 111 29 ∧ μ.1 111 31 ≤ μ235.1 111 31 ∧ μ235.1 111 31 ≤ 300 ∧ 0 ≤ μ235.1 111 32 ∧ μ235.1 111 32 ≤ μ235.1 111 9 ∧ μ235.1 111 9 ≤ 3000 := by (repeat' apply And.intro) <;> omega
  clear hv_331 hv_332 hv_333 hv_334 hv_335 hv_336 hv_337 hv_338 hv_339 hv_340 hv_341 hv_342 hv_343 hv_344 hv_345 hv_346 hv_347 hv_348 hv_349 e_350 hw_356
  have e_377 : μ351.1 111 22 = μ319.1 111 22 := (F_352.1 111 (by decide) 22)
  have e_378 : μ351.1 111 9 = μ235.1 111 9 := ((F_352.1 111 (by decide) 9).trans ((hp_322 9 (by decide)).trans (hp_290 9 (by decide))))
  have e_379 : μ351.1 111 29 = μ235.1 111 29 := ((F_352.1 111 (by decide) 29).trans ((hp_322 29 (by decide)).trans (hp_290 29 (by decide))))
  have e_380 : μ351.1 111 39 = μ235.1 111 39 := ((F_352.1 111 (by decide) 39).trans ((hp_322 39 (by decide)).trans (hp_290 39 (by decide))))
  have e_381 : μ351.1 111 31 = μ235.1 111 31 := ((F_352.1 111 (by decide) 31).trans ((hp_322 31 (by decide)).trans (hp_290 31 (by decide))))
  have e_382 : μ351.1 111 32 = μ235.1 111 32 := ((F_352.1 111 (by decide) 32).trans ((hp_322 32 (by decide)).trans (hp_290 32 (by decide))))
  have e_383 : μ351.1 111 6 = μ235.1 111 6 := ((F_352.1 111 (by decide) 6).trans ((hp_322 6 (by decide)).trans (hp_290 6 (by decide))))
  have e_384 : wr μ351 = wr μ235 := ((wr_cg (F_352.1 111 (by decide) 15)).trans ((wr_cg (hp_322 15 (by decide))).trans (wr_cg (hp_290 15 (by decide)))))
  have hw_385 := wr_r (μ := μ235)
  have e_386 : bd μ351 = bd μ235 := ((bd_cg (F_352.1 111 (by decide) 15) (F_352.1 111 (by decide) 16) (F_352.1 111 (by decide) 17)).trans ((bd_cg (hp_322 15 (by decide)) (hp_322 16 (by decide)) (hp_322 17 (by decide))).trans (bd_cg (hp_290 15 (by decide)) (hp_290 16 (by decide)) (hp_290 17 (by decide)))))
  have e_387 : nn μ351 = nn μ235 := ((nn_cg (F_352.1 111 (by decide) 15) (F_352.1 111 (by decide) 18)).trans ((nn_cg (hp_322 15 (by decide)) (hp_322 18 (by decide))).trans (nn_cg (hp_290 15 (by decide)) (hp_290 18 (by decide)))))
  have hPM_388 : PM μ351 := hp_238.cg ((((F_352.1 111 (by decide) 4).trans ((hp_322 4 (by decide)).trans ((hp_290 4 (by decide)).trans ((hp_237 4 (by decide)).trans ((hp_179 4 (by decide)).trans ((hp_135 4 (by decide)).trans ((hp_88 4 (by decide)).trans ((hp_37 4 (by decide)).trans (hp_3 4 (by decide))))))))))).trans (((hp_237 4 (by decide)).trans ((hp_179 4 (by decide)).trans ((hp_135 4 (by decide)).trans ((hp_88 4 (by decide)).trans ((hp_37 4 (by decide)).trans (hp_3 4 (by decide)))))))).symm) ((F_352.1 111 (by decide) 6).trans ((hp_322 6 (by decide)).trans (hp_290 6 (by decide)))) ((((F_352.1 111 (by decide) 7).trans ((hp_322 7 (by decide)).trans ((hp_290 7 (by decide)).trans ((hp_237 7 (by decide)).trans ((hp_179 7 (by decide)).trans ((hp_135 7 (by decide)).trans ((hp_88 7 (by decide)).trans ((hp_37 7 (by decide)).trans (hp_3 7 (by decide))))))))))).trans (((hp_237 7 (by decide)).trans ((hp_179 7 (by decide)).trans ((hp_135 7 (by decide)).trans ((hp_88 7 (by decide)).trans ((hp_37 7 (by decide)).trans (hp_3 7 (by decide)))))))).symm) ((F_352.1 111 (by decide) 8).trans ((hp_322 8 (by decide)).trans (hp_290 8 (by decide)))) ((F_352.1 111 (by decide) 9).trans ((hp_322 9 (by decide)).trans (hp_290 9 (by decide)))) ((F_352.1 111 (by decide) 11).trans ((hp_322 11 (by decide)).trans (hp_290 11 (by decide)))) ((F_352.1 111 (by decide) 12).trans ((hp_322 12 (by decide)).trans (hp_290 12 (by decide)))) ((((F_352.1 111 (by decide) 14).trans ((hp_322 14 (by decide)).trans ((hp_290 14 (by decide)).trans ((hp_237 14 (by decide)).trans ((hp_179 14 (by decide)).trans ((hp_135 14 (by decide)).trans ((hp_88 14 (by decide)).trans ((hp_37 14 (by decide)).trans ((hp_3 14 (by decide)).trans htt.symm)))))))))).trans (((hp_237 14 (by decide)).trans ((hp_179 14 (by decide)).trans ((hp_135 14 (by decide)).trans ((hp_88 14 (by decide)).trans ((hp_37 14 (by decide)).trans ((hp_3 14 (by decide)).trans htt.symm))))))).symm) ((F_352.1 111 (by decide) 15).trans ((hp_322 15 (by decide)).trans (hp_290 15 (by decide)))) ((F_352.1 111 (by decide) 29).trans ((hp_322 29 (by decide)).trans (hp_290 29 (by decide)))) (fun j => ((F_352.1 123 (by decide) j).trans ((F_321.1 123 (by decide) j).trans (F_289.1 123 (by decide) j))))
  exact xr_v G hret hlk dX12_whiles_62 ⟨(FrM.tr (FrM.tr (FrM.tr (FrM.tr (FrM.tr (FrM.tr (FrM.tr (FrM.tr (FrM.tr FrM.rf F_2 (by decide)) F_36 (by decide)) F_87 (by decide)) F_134 (by decide)) F_178 (by decide)) F_236 (by decide)) F_289 (by decide)) F_321 (by decide)) F_352 (by decide)), (fun j hj => ((F_352.1 111 (by decide) j).trans ((hp_322 j (fun h9 => hj ((by decide : ∀ x ∈ ([22] : List Int), x ∈ ([6, 8, 9, 10, 11, 12, 13, 15, 16, 17, 18, 22, 29, 31, 32, 34, 35, 36, 37, 39] : List Int)) j h9))).trans ((hp_290 j (fun h9 => hj ((by decide : ∀ x ∈ ([22] : List Int), x ∈ ([6, 8, 9, 10, 11, 12, 13, 15, 16, 17, 18, 22, 29, 31, 32, 34, 35, 36, 37, 39] : List Int)) j h9))).trans ((hp_237 j (fun h9 => hj ((by decide : ∀ x ∈ ([6, 8, 9, 10, 11, 12, 13, 15, 16, 17, 18, 22, 29, 31, 32, 34, 35, 36, 37, 39] : List Int), x ∈ ([6, 8, 9, 10, 11, 12, 13, 15, 16, 17, 18, 22, 29, 31, 32, 34, 35, 36, 37, 39] : List Int)) j h9))).trans ((hp_179 j (fun h9 => hj ((by decide : ∀ x ∈ ([22] : List Int), x ∈ ([6, 8, 9, 10, 11, 12, 13, 15, 16, 17, 18, 22, 29, 31, 32, 34, 35, 36, 37, 39] : List Int)) j h9))).trans ((hp_135 j (fun h9 => hj ((by decide : ∀ x ∈ ([6, 8, 9, 10, 11, 12, 13, 15, 18] : List Int), x ∈ ([6, 8, 9, 10, 11, 12, 13, 15, 16, 17, 18, 22, 29, 31, 32, 34, 35, 36, 37, 39] : List Int)) j h9))).trans ((hp_88 j (fun h9 => hj ((by decide : ∀ x ∈ ([6, 8, 9, 10, 11, 12, 13, 15, 16, 17, 18, 22, 29, 39] : List Int), x ∈ ([6, 8, 9, 10, 11, 12, 13, 15, 16, 17, 18, 22, 29, 31, 32, 34, 35, 36, 37, 39] : List Int)) j h9))).trans ((hp_37 j (fun h9 => hj ((by decide : ∀ x ∈ ([6, 8, 9, 10, 11, 12, 13, 15, 18] : List Int), x ∈ ([6, 8, 9, 10, 11, 12, 13, 15, 16, 17, 18, 22, 29, 31, 32, 34, 35, 36, 37, 39] : List Int)) j h9))).trans (hp_3 j (fun h9 => hj ((by decide : ∀ x ∈ ([6, 8, 9, 10, 11, 12, 13, 15] : List Int), x ∈ ([6, 8, 9, 10, 11, 12, 13, 15, 16, 17, 18, 22, 29, 31, 32, 34, 35, 36, 37, 39] : List Int)) j h9)))))))))))), hPM_388, (by (repeat' apply And.intro) <;> omega), (by (repeat' apply And.intro) <;> omega), (by (repeat' apply And.intro) <;> omega), ⟨by omega, (Int.le_trans (Int.le_trans (Int.le_trans (Int.le_trans (Int.le_trans (Int.le_trans (Int.le_trans (Int.le_trans ((hp_6 ()).2) ((hp_41 ()).2)) ((hp_93 ()).2)) ((hp_139 ()).2)) (Int.le_of_eq (bd_cg (hp_179 15 (by decide)) (hp_179 16 (by decide)) (hp_179 17 (by decide))).symm)) ((hp_242 ()).2)) (Int.le_of_eq (bd_cg (hp_290 15 (by decide)) (hp_290 16 (by decide)) (hp_290 17 (by decide))).symm)) (Int.le_of_eq (bd_cg (hp_322 15 (by decide)) (hp_322 16 (by decide)) (hp_322 17 (by decide))).symm)) (Int.le_of_eq (bd_cg (F_352.1 111 (by decide) 15) (F_352.1 111 (by decide) 16) (F_352.1 111 (by decide) 17)).symm))⟩, (by (repeat' apply And.intro) <;> omega), (by (repeat' apply And.intro) <;> omega), (fun j hj => ((F_352.1 126 (by decide) j).trans ((F_321.1 126 (by decide) j).trans ((F_289.1 126 (by decide) j).trans ((hwk_254 j (by omega)).trans ((F_178.1 126 (by decide) j).trans ((F_134.1 126 (by decide) j).trans ((hwk_102 j (by omega)).trans ((F_36.1 126 (by decide) j).trans (F_2.1 126 (by decide) j)))))))))), (by (repeat' apply And.intro) <;> omega), (by (repeat' apply And.intro) <;> omega), (fun _ h0 => (mEY.ql (hq_69 ()) (as_mwhl (M := 2 * (8 - nn μ)) ((hS1 () (bd_z (Int.le_trans (Int.le_trans (Int.le_trans (Int.le_trans (Int.le_trans (Int.le_trans (Int.le_trans (Int.le_trans ((hp_6 ()).2) ((hp_41 ()).2)) ((hp_93 ()).2)) ((hp_139 ()).2)) (Int.le_of_eq (bd_cg (hp_179 15 (by decide)) (hp_179 16 (by decide)) (hp_179 17 (by decide))).symm)) ((hp_242 ()).2)) (Int.le_of_eq (bd_cg (hp_290 15 (by decide)) (hp_290 16 (by decide)) (hp_290 17 (by decide))).symm)) (Int.le_of_eq (bd_cg (hp_322 15 (by decide)) (hp_322 16 (by decide)) (hp_322 17 (by decide))).symm)) (Int.le_of_eq (bd_cg (F_352.1 111 (by decide) 15) (F_352.1 111 (by decide) 16) (F_352.1 111 (by decide) 17)).symm)) h0)).qm (hq_69 ())) ((hex_103 () (bd_z (Int.le_trans (Int.le_trans (Int.le_trans (Int.le_trans (Int.le_trans ((hp_139 ()).2) (Int.le_of_eq (bd_cg (hp_179 15 (by decide)) (hp_179 16 (by decide)) (hp_179 17 (by decide))).symm)) ((hp_242 ()).2)) (Int.le_of_eq (bd_cg (hp_290 15 (by decide)) (hp_290 16 (by decide)) (hp_290 17 (by decide))).symm)) (Int.le_of_eq (bd_cg (hp_322 15 (by decide)) (hp_322 16 (by decide)) (hp_322 17 (by decide))).symm)) (Int.le_of_eq (bd_cg (F_352.1 111 (by decide) 15) (F_352.1 111 (by decide) 16) (F_352.1 111 (by decide) 17)).symm)) h0)).qm (hq_167 ())) hp_180 (hex_255 () (bd_z (Int.le_trans (Int.le_trans (Int.le_of_eq (bd_cg (hp_290 15 (by decide)) (hp_290 16 (by decide)) (hp_290 17 (by decide))).symm) (Int.le_of_eq (bd_cg (hp_322 15 (by decide)) (hp_322 16 (by decide)) (hp_322 17 (by decide))).symm)) (Int.le_of_eq (bd_cg (F_352.1 111 (by decide) 15) (F_352.1 111 (by decide) 16) (F_352.1 111 (by decide) 17)).symm)) h0)) hp_291 hp_323 hp_353 (by omega) (by have h9 := (hq_69 ()).2; omega) rfl (by omega) (by omega))).mn (by omega)), hxt_354⟩

set_option maxHeartbeats 4000000 in
set_option maxRecDepth 100000 in
theorem c_X12_cleans (ω : Om) (l : Launch) (μ : M3) (F : Nat) (Lo : Nat) (kf : Int) (tt : Int) (htt : tt = μ.1 111 14) (hF : 200 ≤ F) (hLo : 6000 ≤ Lo) (hK : ∀ (μ : M3) (tt : Int) (htt : tt = μ.1 111 14) (hPM : PM μ) (hnn : 0 ≤ nn μ ∧ nn μ ≤ 9 ∧ 9 * wr μ ≤ nn μ) (hn8 : nn μ ≤ 8 + wr μ) (hcd : 0 ≤ μ.1 111 22 ∧ μ.1 111 22 ≤ 2 * μ.1 111 9 + 8 * nn μ + 60) (hW : 0 ≤ μ.1 111 39 ∧ μ.1 111 39 ≤ μ.1 111 22) (hsl : 0 ≤ μ.1 111 31 ∧ μ.1 111 31 ≤ 300) (hvr : 0 ≤ μ.1 111 32 ∧ μ.1 111 32 ≤ μ.1 111 9) (hfu : 0 ≤ (kf - 1) ∧ 8 ≤ nn μ + (kf - 1)) (hS0 : ∀ _ : Unit, bd μ = 0 → mS0 μ), CtV ω l yX12_block cX12_block 1 (F + 0) (Lo + 0) [.ref (oP ω 111)] μ (fun (μ' : M3) => (FrM [111, 113, 115, 116, 117, 123, 124, 126] μ μ') ∧ (∀ j, j ∉ ([6, 8, 9, 10, 11, 12, 13, 15, 16, 17, 18, 22, 29, 31, 32, 34, 35, 36, 37, 39] : List Int) → μ'.1 111 j = μ.1 111 j) ∧ (PM μ') ∧ (μ.1 111 22 ≤ μ'.1 111 22 ∧ μ'.1 111 22 ≤ μ.1 111 22 + 2 * (μ'.1 111 9 - μ.1 111 9) + 8 * (nn μ' - nn μ) + (- 4 - 4 * wr μ' + 8 * wr μ)) ∧ (μ.1 111 9 + 1 ≤ μ'.1 111 9 + wr μ') ∧ (μ.1 111 29 ≤ μ'.1 111 29) ∧ (wr μ ≤ wr μ' ∧ bd μ ≤ bd μ') ∧ (nn μ ≤ nn μ' ∧ nn μ' ≤ nn μ + 9 * wr μ' ∧ nn μ' ≤ 9 ∧ 9 * wr μ' ≤ nn μ') ∧ (μ'.1 111 39 = μ.1 111 39) ∧ (∀ j, j < μ.1 111 39 → μ'.1 126 j = μ.1 126 j) ∧ (μ.1 111 31 ≤ μ'.1 111 31 ∧ μ'.1 111 31 ≤ 300) ∧ (0 ≤ μ'.1 111 32 ∧ μ'.1 111 32 ≤ μ'.1 111 9) ∧ (∀ _ : Unit, bd μ' = 0 → mEX μ μ' tt 0 (2 * (8 - nn μ)) 101) ∧ (mEXT μ μ'))) (hPM : PM μ) (hnn : 0 ≤ nn μ ∧ nn μ ≤ 9 ∧ 9 * wr μ ≤ nn μ) (hn8 : nn μ ≤ 8 + wr μ) (hcd : 0 ≤ μ.1 111 22 ∧ μ.1 111 22 ≤ 2 * μ.1 111 9 + 8 * nn μ + 54) (hW : 0 ≤ μ.1 111 39 ∧ μ.1 111 39 ≤ μ.1 111 22) (hsl : 0 ≤ μ.1 111 31 ∧ μ.1 111 31 ≤ 300) (hvr : 0 ≤ μ.1 111 32 ∧ μ.1 111 32 ≤ μ.1 111 9) (hw0 : wr μ = 0) (hfu : 1 ≤ kf ∧ 9 ≤ nn μ + kf) (hS1 : ∀ _ : Unit, bd μ = 0 → mS1 μ tt) (hst : μ.1 111 8 = 1) (ht3 : tt = 3) : CtV ω l yX12_cleans cX12_cleans 4 (F + 1) (Lo + 20) [.ref (oP ω 111)] μ (fun (μ' : M3) => (FrM [111, 113, 115, 116, 117, 123, 124, 126] μ μ') ∧ (∀ j, j ∉ ([6, 8, 9, 10, 11, 12, 13, 15, 16, 17, 18, 22, 29, 31, 32, 34, 35, 36, 37, 39] : List Int) → μ'.1 111 j = μ.1 111 j) ∧ (PM μ') ∧ (μ.1 111 22 ≤ μ'.1 111 22 ∧ μ'.1 111 22 ≤ μ.1 111 22 + 2 * (μ'.1 111 9 - μ.1 111 9) + 8 * (nn μ' - nn μ) + (- 1)) ∧ (μ.1 111 9 + 1 ≤ μ'.1 111 9 + wr μ') ∧ (μ.1 111 29 ≤ μ'.1 111 29) ∧ (wr μ ≤ wr μ' ∧ bd μ ≤ bd μ') ∧ (nn μ ≤ nn μ' ∧ nn μ' ≤ nn μ + 9 * wr μ' ∧ nn μ' ≤ 9 ∧ 9 * wr μ' ≤ nn μ') ∧ (μ'.1 111 39 = μ.1 111 39) ∧ (∀ j, j < μ.1 111 39 → μ'.1 126 j = μ.1 126 j) ∧ (μ.1 111 31 ≤ μ'.1 111 31 ∧ μ'.1 111 31 ≤ 300) ∧ (0 ≤ μ'.1 111 32 ∧ μ'.1 111 32 ≤ μ'.1 111 9) ∧ (∀ _ : Unit, bd μ' = 0 → mEY μ μ' tt ((2 * (9 - nn μ)))) ∧ (mEXT μ μ')) := by
  refine CtV.go (by decide) (Nat.le_of_ble_eq_true rfl) (fun ρ p e s m below meth c R ls G hR hret hlk hl => ?_)
  have hx := G.1.1
  have hb := G.1.2.1
  have hl : lv_has ls 4 [(0, .ref (oP ω 111))] := hl
  generalize s.drawn = d0 at G ⊢
  have hw_0 := wr_r (μ := μ)
  have hpp_ := hPM.1.2.1
  have hpn_ := hPM.2.1
  have hpt_ := hPM.1.2.2.2.1
  have hpw_ := hPM.1.2.2.2.2.1
  have hpa_ := hPM.1.1
  have hht_0 : ∀ _ : Unit, bd μ = 0 → mHt μ 0 := fun _ h0 => (hS1 () h0).h
  refine lv_aload_n hx hb dX12_cleans_0 rfl (lv_at hl 0 rfl) ?_
  refine xc_vV G (b := 111) (rest := []) (As := []) (c_X12_next ω l μ  hPM (by (repeat' apply And.intro) <;> omega) (by (repeat' apply And.intro) <;> omega)) (wm 9 0 rfl rfl) (wm 9 2 rfl rfl) (wm 0 119 rfl rfl) rfl rfl (by decide) rfl (wm 1 18 rfl rfl) (wm 9 3 rfl rfl) (by decide) hR ⟨nfB hF (by decide), nlB hLo (by decide)⟩ (n := 0) rfl rfl (Nat.le_of_ble_eq_true rfl) hl.1 dX12_cleans_1 (fun μ1 ρ d0 H locs hp G => ?_)
  obtain ⟨F_2, hp_3, hp_4, hp_5, hp_6, hp_7⟩ := hp
  have hpl_8 := hp_4.pl
  have hw_9 := wr_r (μ := μ1)
  have vl_10 := hp_5
  replace hp_5 := fun _ : Unit => hp_5
  have vl_11 := hp_6
  replace hp_6 := fun _ : Unit => hp_6
  have vl_12 := hp_7
  replace hp_7 := fun _ : Unit => hp_7
  obtain ⟨hv_15, hv_16, hv_17, hv_18, hv_19, hv_20, hv_21, hv_22, hv_23, hv_24, hv_25, hv_26, hv_27, hv_28, hv_29, hv_30, hv_31, hv_32⟩ : μ.1 111 22 ≤ μ.1 111 22 ∧ μ.1 111 22 ≤ μ.1 111 22 + 2 * (μ1.1 111 9 - μ.1 111 9) + 8 * (nn μ1 - nn μ) - 2 + -6 * wr μ1 ∧ μ.1 111 9 + 1 ≤ μ1.1 111 9 ∧ nn μ + 0 ≤ nn μ1 ∧ nn μ1 ≤ nn μ + 0 + 9 * wr μ1 ∧ nn μ1 ≤ 8 + wr μ1 ∧ 9 * wr μ1 ≤ nn μ1 ∧ nn μ1 ≤ 9 ∧ wr μ ≤ wr μ1 ∧ wr μ1 ≤ 1 ∧ wr μ1 ≤ bd μ1 ∧ bd μ1 ≤ 1 ∧ μ.1 111 29 ≤ μ.1 111 29 ∧ μ.1 111 31 ≤ μ.1 111 31 ∧ μ.1 111 31 ≤ 300 ∧ 0 ≤ μ.1 111 32 ∧ μ.1 111 32 ≤ μ1.1 111 9 ∧ μ1.1 111 9 ≤ 3000 := by (repeat' apply And.intro) <;> omega
  clear hpl_8 hw_9 vl_10 vl_11 vl_12
  refine lv_aload_n hx hb dX12_cleans_4 rfl (lv_at hl 0 rfl) ?_
  refine lv_bipush (v := iv 14) hx hb dX12_cleans_5 rfl ?_
  refine lv_lconst (v := jv 0) hx hb dX12_cleans_7 rfl ?_
  refine lv_iconst (v := iv 0) hx hb dX12_cleans_8 rfl ?_
  have hq_33 : ∀ _ : Unit, q0m μ μ1 := fun _ => (q0m.fr (K := [111]) (FrM.tr FrM.rf F_2 (by decide)) (by decide) (by decide) (by decide) (hp_3 22 (by decide)) (nS.le (Int.le_of_eq (hp_3 29 (by decide)).symm) (Int.le_of_eq (hp_3 31 (by decide)).symm)))
  have hw_34 := wr_r (μ := μ1)
  have hht_35 : ∀ _ : Unit, bd μ1 = 0 → mHt μ1 0 := fun _ h0 => (hht_0 () (bd_z ((hp_6 ()).2) h0)).qm (hq_33 ())
  have e_36 : μ1.1 111 29 = μ.1 111 29 := (hp_3 29 (by decide))
  have hxt_37 : mEXT μ μ1 := (q0m.fr (K := [111]) (FrM.tr FrM.rf F_2 (by decide)) (by decide) (by decide) (by decide) (hp_3 22 (by decide)) (nS.le (Int.le_of_eq (hp_3 29 (by decide)).symm) (Int.le_of_eq (hp_3 31 (by decide)).symm))).1
  have e_38 : μ1.1 111 22 = μ.1 111 22 := (hp_3 22 (by decide))
  refine xc_iV G (b := 111) (rest := []) (As := [.int (iv 14), .long (jv 0), .int (iv 0)]) (c_X12_emit ω l μ1 14 0 0 (by unfold ir; decide) (by unfold jr; omega) (by unfold ir; decide) (by (repeat' apply And.intro) <;> omega)) (wm 9 126 rfl rfl) (wm 9 128 rfl rfl) (wm 0 144 rfl rfl) rfl rfl (by decide) rfl (wm 1 18 rfl rfl) (wm 9 129 rfl rfl) (by decide) hR ⟨nfB hF (by decide), nlB hLo (by decide)⟩ (n := 3) rfl rfl (Nat.le_of_ble_eq_true rfl) hl.1 dX12_cleans_9 (fun r_43 μ42 ρ d0 H locs hr_r_43 hp G => ?_)
  have hr_r_43 : -2147483648 ≤ r_43 ∧ r_43 ≤ 2147483647 := hr_r_43
  obtain ⟨F_44, hp_45, hp_46, hp_47, hp_48⟩ := hp
  have hxt_49 : mEXT μ μ42 := hxt_37.tr hp_46.1
  have hht_50 : ∀ _ : Unit, bd μ42 = 0 → mHt μ42 0 := fun _ h0 => (hht_35 () (bd_z (Int.le_of_eq (bd_cg (hp_45 15 (by decide)) (hp_45 16 (by decide)) (hp_45 17 (by decide))).symm) h0)).ad hp_46 rfl
  have hps_r_43 : μ.1 111 22 ≤ r_43 := by omega
  have vl_51 := hp_48
  replace hp_48 := fun _ : Unit => hp_48
  obtain ⟨hv_54, hv_55, hv_56, hv_57, hv_58, hv_59, hv_60, hv_61, hv_62, hv_63, hv_64, hv_65, hv_66, hv_67, hv_68, hv_69, hv_70, hv_71, hv_72⟩ : μ.1 111 22 ≤ μ42.1 111 22 ∧ μ42.1 111 22 ≤ μ.1 111 22 + 2 * (μ1.1 111 9 - μ.1 111 9) + 8 * (nn μ1 - nn μ) - 1 + -6 * wr μ1 ∧ μ.1 111 9 + 1 ≤ μ1.1 111 9 ∧ nn μ + 0 ≤ nn μ1 ∧ nn μ1 ≤ nn μ + 0 + 9 * wr μ1 ∧ nn μ1 ≤ 8 + wr μ1 ∧ 9 * wr μ1 ≤ nn μ1 ∧ nn μ1 ≤ 9 ∧ wr μ ≤ wr μ1 ∧ wr μ1 ≤ 1 ∧ wr μ1 ≤ bd μ1 ∧ bd μ1 ≤ 1 ∧ r_43 + 1 ≤ μ42.1 111 22 ∧ μ.1 111 29 ≤ μ.1 111 29 ∧ μ.1 111 31 ≤ μ.1 111 31 ∧ μ.1 111 31 ≤ 300 ∧ 0 ≤ μ.1 111 32 ∧ μ.1 111 32 ≤ μ1.1 111 9 ∧ μ1.1 111 9 ≤ 3000 := by (repeat' apply And.intro) <;> omega
  clear hv_15 hv_16 hv_17 hv_18 hv_19 hv_20 hv_21 hv_22 hv_23 hv_24 hv_25 hv_26 hv_27 hv_28 hv_29 hv_30 hv_31 hv_32 hw_34 e_36 e_38 vl_51
  refine lv_istore_n (lv' := [(1, .int (iv r_43)), (0, .ref (oP ω 111))]) hx hb dX12_cleans_12 rfl hl (by decide) rfl (fun ls hl => ?_)
  refine lv_aload_n hx hb dX12_cleans_13 rfl (lv_at hl 1 rfl) ?_
  refine lv_bipush (v := iv 8) hx hb dX12_cleans_14 rfl ?_
  refine lv_lconst (v := jv 0) hx hb dX12_cleans_16 rfl ?_
  refine lv_iconst (v := iv 0) hx hb dX12_cleans_17 rfl ?_
  have e_73 : μ42.1 111 29 = μ.1 111 29 := ((hp_45 29 (by decide)).trans (hp_3 29 (by decide)))
  refine xc_iV G (b := 111) (rest := []) (As := [.int (iv 8), .long (jv 0), .int (iv 0)]) (c_X12_emit ω l μ42 8 0 0 (by unfold ir; decide) (by unfold jr; omega) (by unfold ir; decide) (by (repeat' apply And.intro) <;> omega)) (wm 9 126 rfl rfl) (wm 9 128 rfl rfl) (wm 0 144 rfl rfl) rfl rfl (by decide) rfl (wm 1 18 rfl rfl) (wm 9 129 rfl rfl) (by decide) hR ⟨nfB hF (by decide), nlB hLo (by decide)⟩ (n := 3) rfl rfl (Nat.le_of_ble_eq_true rfl) hl.1 dX12_cleans_18 (fun r_75 μ74 ρ d0 H locs hr_r_75 hp G => ?_)
  have hr_r_75 : -2147483648 ≤ r_75 ∧ r_75 ≤ 2147483647 := hr_r_75
  obtain ⟨F_76, hp_77, hp_78, hp_79, hp_80⟩ := hp
  have hxt_81 : mEXT μ μ74 := hxt_49.tr hp_78.1
  have hht_82 : ∀ _ : Unit, bd μ74 = 0 → mHt μ74 0 := fun _ h0 => (hht_50 () (bd_z (Int.le_of_eq (bd_cg (hp_77 15 (by decide)) (hp_77 16 (by decide)) (hp_77 17 (by decide))).symm) h0)).ad hp_78 rfl
  have hps_r_75 : μ.1 111 22 ≤ r_75 := by omega
  have vl_83 := hp_80
  replace hp_80 := fun _ : Unit => hp_80
  have hw_84 := wr_r (μ := μ1)
  obtain ⟨hv_86, hv_87, hv_88, hv_89, hv_90, hv_91, hv_92, hv_93, hv_94, hv_95, hv_96, hv_97, hv_98, hv_99, hv_100, hv_101, hv_102, hv_103, hv_104, hv_105⟩ : μ.1 111 22 ≤ μ74.1 111 22 ∧ μ74.1 111 22 ≤ μ.1 111 22 + 2 * (μ1.1 111 9 - μ.1 111 9) + 8 * (nn μ1 - nn μ) + 0 + -6 * wr μ1 ∧ μ.1 111 9 + 1 ≤ μ1.1 111 9 ∧ nn μ + 0 ≤ nn μ1 ∧ nn μ1 ≤ nn μ + 0 + 9 * wr μ1 ∧ nn μ1 ≤ 8 + wr μ1 ∧ 9 * wr μ1 ≤ nn μ1 ∧ nn μ1 ≤ 9 ∧ wr μ ≤ wr μ1 ∧ wr μ1 ≤ 1 ∧ wr μ1 ≤ bd μ1 ∧ bd μ1 ≤ 1 ∧ r_43 + 1 ≤ μ74.1 111 22 ∧ r_75 + 1 ≤ μ74.1 111 22 ∧ μ.1 111 29 ≤ μ.1 111 29 ∧ μ.1 111 31 ≤ μ.1 111 31 ∧ μ.1 111 31 ≤ 300 ∧ 0 ≤ μ.1 111 32 ∧ μ.1 111 32 ≤ μ1.1 111 9 ∧ μ1.1 111 9 ≤ 3000 := by (repeat' apply And.intro) <;> omega
  clear hv_54 hv_55 hv_56 hv_57 hv_58 hv_59 hv_60 hv_61 hv_62 hv_63 hv_64 hv_65 hv_66 hv_67 hv_68 hv_69 hv_70 hv_71 hv_72 e_73 vl_83 hw_84
  refine lv_istore_n (lv' := [(2, .int (iv r_75)), (1, .int (iv r_43)), (0, .ref (oP ω 111))]) hx hb dX12_cleans_21 rfl hl (by decide) rfl (fun ls hl => ?_)
  refine lv_aload_n hx hb dX12_cleans_22 rfl (lv_at hl 2 rfl) ?_
  refine lv_iload_n hx hb dX12_cleans_23 rfl (lv_at hl 1 rfl) ?_
  have e_106 : μ74.1 111 29 = μ.1 111 29 := ((hp_77 29 (by decide)).trans ((hp_45 29 (by decide)).trans (hp_3 29 (by decide))))
  refine xc_vV G (b := 111) (rest := []) (As := [.int (iv r_43)]) (c_X12_lands ω l μ74 r_43 (by unfold ir; exact ⟨by omega, by omega⟩) (by (repeat' apply And.intro) <;> omega) (by (repeat' apply And.intro) <;> omega)) (wm 9 167 rfl rfl) (wm 9 169 rfl rfl) (wm 0 154 rfl rfl) rfl rfl (by decide) rfl (wm 1 18 rfl rfl) (wm 9 170 rfl rfl) (by decide) hR ⟨nfB hF (by decide), nlB hLo (by decide)⟩ (n := 1) rfl rfl (Nat.le_of_ble_eq_true rfl) hl.1 dX12_cleans_24 (fun μ107 ρ d0 H locs hp G => ?_)
  obtain ⟨F_108, hp_109⟩ := hp
  have hxt_110 : mEXT μ μ107 := hxt_81.mf hp_109 (by omega)
  have hht_111 : ∀ _ : Unit, bd μ107 = 0 → mHt μ107 0 := fun _ h0 => (hht_82 () (bd_z (Int.le_of_eq (bd_cg (F_108.1 111 (by decide) 15) (F_108.1 111 (by decide) 16) (F_108.1 111 (by decide) 17)).symm) h0)).mf hp_109
  have hw_112 := wr_r (μ := μ1)
  obtain ⟨hv_114, hv_115, hv_116, hv_117, hv_118, hv_119, hv_120, hv_121, hv_122, hv_123, hv_124, hv_125, hv_126, hv_127, hv_128, hv_129, hv_130, hv_131, hv_132, hv_133⟩ : μ.1 111 22 ≤ μ74.1 111 22 ∧ μ74.1 111 22 ≤ μ.1 111 22 + 2 * (μ1.1 111 9 - μ.1 111 9) + 8 * (nn μ1 - nn μ) + 0 + -6 * wr μ1 ∧ μ.1 111 9 + 1 ≤ μ1.1 111 9 ∧ nn μ + 0 ≤ nn μ1 ∧ nn μ1 ≤ nn μ + 0 + 9 * wr μ1 ∧ nn μ1 ≤ 8 + wr μ1 ∧ 9 * wr μ1 ≤ nn μ1 ∧ nn μ1 ≤ 9 ∧ wr μ ≤ wr μ1 ∧ wr μ1 ≤ 1 ∧ wr μ1 ≤ bd μ1 ∧ bd μ1 ≤ 1 ∧ r_43 + 1 ≤ μ74.1 111 22 ∧ r_75 + 1 ≤ μ74.1 111 22 ∧ μ.1 111 29 ≤ μ.1 111 29 ∧ μ.1 111 31 ≤ μ.1 111 31 ∧ μ.1 111 31 ≤ 300 ∧ 0 ≤ μ.1 111 32 ∧ μ.1 111 32 ≤ μ1.1 111 9 ∧ μ1.1 111 9 ≤ 3000 := by (repeat' apply And.intro) <;> omega
  clear hv_86 hv_87 hv_88 hv_89 hv_90 hv_91 hv_92 hv_93 hv_94 hv_95 hv_96 hv_97 hv_98 hv_99 hv_100 hv_101 hv_102 hv_103 hv_104 hv_105 e_106 hw_112
  refine lv_aload_n hx hb dX12_cleans_27 rfl (lv_at hl 2 rfl) ?_
  have e_134 : μ107.1 111 29 = μ.1 111 29 := ((F_108.1 111 (by decide) 29).trans ((hp_77 29 (by decide)).trans ((hp_45 29 (by decide)).trans (hp_3 29 (by decide)))))
  have e_135 : μ107.1 111 14 = tt := ((F_108.1 111 (by decide) 14).trans ((hp_77 14 (by decide)).trans ((hp_45 14 (by decide)).trans ((hp_3 14 (by decide)).trans htt.symm))))
  have hPM_136 : PM μ107 := hp_4.cg ((((F_108.1 111 (by decide) 4).trans ((hp_77 4 (by decide)).trans ((hp_45 4 (by decide)).trans (hp_3 4 (by decide)))))).trans ((hp_3 4 (by decide))).symm) ((F_108.1 111 (by decide) 6).trans ((hp_77 6 (by decide)).trans (hp_45 6 (by decide)))) ((((F_108.1 111 (by decide) 7).trans ((hp_77 7 (by decide)).trans ((hp_45 7 (by decide)).trans (hp_3 7 (by decide)))))).trans ((hp_3 7 (by decide))).symm) ((F_108.1 111 (by decide) 8).trans ((hp_77 8 (by decide)).trans (hp_45 8 (by decide)))) ((F_108.1 111 (by decide) 9).trans ((hp_77 9 (by decide)).trans (hp_45 9 (by decide)))) ((F_108.1 111 (by decide) 11).trans ((hp_77 11 (by decide)).trans (hp_45 11 (by decide)))) ((F_108.1 111 (by decide) 12).trans ((hp_77 12 (by decide)).trans (hp_45 12 (by decide)))) ((((F_108.1 111 (by decide) 14).trans ((hp_77 14 (by decide)).trans ((hp_45 14 (by decide)).trans ((hp_3 14 (by decide)).trans htt.symm))))).trans (((hp_3 14 (by decide)).trans htt.symm)).symm) ((F_108.1 111 (by decide) 15).trans ((hp_77 15 (by decide)).trans (hp_45 15 (by decide)))) ((((F_108.1 111 (by decide) 29).trans ((hp_77 29 (by decide)).trans ((hp_45 29 (by decide)).trans (hp_3 29 (by decide)))))).trans ((hp_3 29 (by decide))).symm) (fun j => ((F_108.1 123 (by decide) j).trans ((F_76.1 123 (by decide) j).trans (F_44.1 123 (by decide) j))))
  have e_137 : wr μ107 = wr μ1 := ((wr_cg (F_108.1 111 (by decide) 15)).trans ((wr_cg (hp_77 15 (by decide))).trans (wr_cg (hp_45 15 (by decide)))))
  have hw_138 := wr_r (μ := μ1)
  have e_139 : nn μ107 = nn μ1 := ((nn_cg (F_108.1 111 (by decide) 15) (F_108.1 111 (by decide) 18)).trans ((nn_cg (hp_77 15 (by decide)) (hp_77 18 (by decide))).trans (nn_cg (hp_45 15 (by decide)) (hp_45 18 (by decide)))))
  have e_142 : μ107.1 111 22 = μ74.1 111 22 := (F_108.1 111 (by decide) 22)
  have e_144 : μ107.1 111 9 = μ1.1 111 9 := ((F_108.1 111 (by decide) 9).trans ((hp_77 9 (by decide)).trans (hp_45 9 (by decide))))
  have e_146 : μ107.1 111 39 = μ.1 111 39 := ((F_108.1 111 (by decide) 39).trans ((hp_77 39 (by decide)).trans ((hp_45 39 (by decide)).trans (hp_3 39 (by decide)))))
  have e_149 : μ107.1 111 31 = μ.1 111 31 := ((F_108.1 111 (by decide) 31).trans ((hp_77 31 (by decide)).trans ((hp_45 31 (by decide)).trans (hp_3 31 (by decide)))))
  have e_151 : μ107.1 111 32 = μ.1 111 32 := ((F_108.1 111 (by decide) 32).trans ((hp_77 32 (by decide)).trans ((hp_45 32 (by decide)).trans (hp_3 32 (by decide)))))
  have e_163 : bd μ107 = bd μ1 := ((bd_cg (F_108.1 111 (by decide) 15) (F_108.1 111 (by decide) 16) (F_108.1 111 (by decide) 17)).trans ((bd_cg (hp_77 15 (by decide)) (hp_77 16 (by decide)) (hp_77 17 (by decide))).trans (bd_cg (hp_45 15 (by decide)) (hp_45 16 (by decide)) (hp_45 17 (by decide)))))
  refine xc_vV G (b := 111) (rest := []) (As := []) (((fun (_ : Om) (_ : Launch) => hK)) ω l μ107 tt (by (repeat' apply And.intro) <;> omega) hPM_136 (by (repeat' apply And.intro) <;> omega) (by (repeat' apply And.intro) <;> omega) (by (repeat' apply And.intro) <;> omega) (by (repeat' apply And.intro) <;> omega) (by (repeat' apply And.intro) <;> omega) (by (repeat' apply And.intro) <;> omega) (by (repeat' apply And.intro) <;> omega) (fun _ h0 => (hht_111 () h0).s)) (wm 9 118 rfl rfl) (wm 9 120 rfl rfl) (wm 0 142 rfl rfl) rfl rfl (by decide) rfl (wm 1 18 rfl rfl) (wm 9 121 rfl rfl) (by decide) hR ⟨sfr (F := F) (a := 0) (by decide), slo (L := Lo) (m := 1) (a := 0) (by decide)⟩ (n := 0) rfl rfl (Nat.le_of_ble_eq_true rfl) hl.1 dX12_cleans_28 (fun μ167 ρ d0 H locs hp G => ?_)
  obtain ⟨F_168, hp_169, hp_170, hp_171, hp_172, hp_173, hp_174, hp_175, hp_176, hp_177, hp_178, hp_179, hp_180, hp_181⟩ := hp
  have hpl_182 := hp_170.pl
  have hw_183 := wr_r (μ := μ167)
  have hw_184 := wr_r (μ := μ107)
  have hxt_185 : mEXT μ μ167 := hxt_110.tr hp_181
  have hwk_186 : ∀ j, j < μ.1 111 39 → μ167.1 126 j = μ107.1 126 j := fun j hj => hp_177 j (by omega)
  have hex_187 : ∀ _ : Unit, bd μ167 = 0 → mEX μ107 μ167 tt 0 (2 * (8 - nn μ)) 101 := fun _ h0 => (hp_180 () h0).mn (by omega) (Int.le_refl _)
  have hht_188 : ∀ _ : Unit, bd μ167 = 0 → mHt μ167 0 := fun _ h0 => (hht_111 () (bd_z (hp_174.2) h0)).ex (hex_187 () h0) rfl
  have vl_189 := hp_171
  replace hp_171 := fun _ : Unit => hp_171
  have vl_190 := hp_172
  replace hp_172 := fun _ : Unit => hp_172
  have vl_191 := hp_173
  replace hp_173 := fun _ : Unit => hp_173
  have vl_192 := hp_174
  replace hp_174 := fun _ : Unit => hp_174
  have vl_193 := hp_175
  replace hp_175 := fun _ : Unit => hp_175
  have vl_194 := hp_176
  replace hp_176 := fun _ : Unit => hp_176
  have vl_195 := hp_178
  replace hp_178 := fun _ : Unit => hp_178
  have vl_196 := hp_179
  replace hp_179 := fun _ : Unit => hp_179
  have h39_197 : μ167.1 111 39 = μ.1 111 39 := by omega
  obtain ⟨hv_200, hv_201, hv_202, hv_203, hv_204, hv_205, hv_206, hv_207, hv_208, hv_209, hv_210, hv_211, hv_212, hv_213, hv_214, hv_215, hv_216, hv_217, hv_218, hv_219⟩ : μ.1 111 22 ≤ μ167.1 111 22 ∧ μ167.1 111 22 ≤ μ.1 111 22 + 2 * (μ167.1 111 9 - μ.1 111 9) + 8 * (nn μ167 - nn μ) - 4 + -2 * wr μ167 ∧ μ.1 111 9 + 1 ≤ μ167.1 111 9 ∧ nn μ + 0 ≤ nn μ167 ∧ nn μ167 ≤ nn μ + 0 + 9 * wr μ167 ∧ nn μ167 ≤ 8 + wr μ167 ∧ 9 * wr μ167 ≤ nn μ167 ∧ nn μ167 ≤ 9 ∧ wr μ ≤ wr μ167 ∧ wr μ167 ≤ 1 ∧ wr μ167 ≤ bd μ167 ∧ bd μ167 ≤ 1 ∧ r_43 + 1 ≤ μ167.1 111 22 ∧ r_75 + 1 ≤ μ167.1 111 22 ∧ μ.1 111 29 ≤ μ167.1 111 29 ∧ μ.1 111 31 ≤ μ167.1 111 31 ∧ μ167.1 111 31 ≤ 300 ∧ 0 ≤ μ167.1 111 32 ∧ μ167.1 111 32 ≤ μ167.1 111 9 ∧ μ167.1 111 9 ≤ 3000 := by (repeat' apply And.intro) <;> omega
  clear hv_114 hv_115 hv_116 hv_117 hv_118 hv_119 hv_120 hv_121 hv_122 hv_123 hv_124 hv_125 hv_126 hv_127 hv_128 hv_129 hv_130 hv_131 hv_132 hv_133 e_134 e_135 e_137 hw_138 e_139 e_142 e_144 e_146 e_149 e_151 e_163 hpl_182 hw_183 hw_184 vl_189 vl_190 vl_191 vl_192 vl_193 vl_194 vl_195 vl_196
  refine lv_aload_n hx hb dX12_cleans_31 rfl (lv_at hl 2 rfl) ?_
  refine lv_bipush (v := iv 17) hx hb dX12_cleans_32 rfl ?_
  refine lv_lconst (v := jv 0) hx hb dX12_cleans_34 rfl ?_
  refine lv_iconst (v := iv 0) hx hb dX12_cleans_35 rfl ?_
  refine xc_iV G (b := 111) (rest := []) (As := [.int (iv 17), .long (jv 0), .int (iv 0)]) (c_X12_emit ω l μ167 17 0 0 (by unfold ir; decide) (by unfold jr; omega) (by unfold ir; decide) (by (repeat' apply And.intro) <;> omega)) (wm 9 126 rfl rfl) (wm 9 128 rfl rfl) (wm 0 144 rfl rfl) rfl rfl (by decide) rfl (wm 1 18 rfl rfl) (wm 9 129 rfl rfl) (by decide) hR ⟨nfB hF (by decide), nlB hLo (by decide)⟩ (n := 3) rfl rfl (Nat.le_of_ble_eq_true rfl) hl.1 dX12_cleans_36 (fun r_221 μ220 ρ d0 H locs hr_r_221 hp G => ?_)
  have hr_r_221 : -2147483648 ≤ r_221 ∧ r_221 ≤ 2147483647 := hr_r_221
  obtain ⟨F_222, hp_223, hp_224, hp_225, hp_226⟩ := hp
  have hxt_227 : mEXT μ μ220 := hxt_185.tr hp_224.1
  have hht_228 : ∀ _ : Unit, bd μ220 = 0 → mHt μ220 0 := fun _ h0 => (hht_188 () (bd_z (Int.le_of_eq (bd_cg (hp_223 15 (by decide)) (hp_223 16 (by decide)) (hp_223 17 (by decide))).symm) h0)).ad hp_224 rfl
  have vl_229 := hp_226
  replace hp_226 := fun _ : Unit => hp_226
  have hw_230 := wr_r (μ := μ167)
  obtain ⟨hv_232, hv_233, hv_234, hv_235, hv_236, hv_237, hv_238, hv_239, hv_240, hv_241, hv_242, hv_243, hv_244, hv_245, hv_246, hv_247, hv_248, hv_249, hv_250, hv_251⟩ : μ.1 111 22 ≤ μ220.1 111 22 ∧ μ220.1 111 22 ≤ μ.1 111 22 + 2 * (μ167.1 111 9 - μ.1 111 9) + 8 * (nn μ167 - nn μ) - 3 + -2 * wr μ167 ∧ μ.1 111 9 + 1 ≤ μ167.1 111 9 ∧ nn μ + 0 ≤ nn μ167 ∧ nn μ167 ≤ nn μ + 0 + 9 * wr μ167 ∧ nn μ167 ≤ 8 + wr μ167 ∧ 9 * wr μ167 ≤ nn μ167 ∧ nn μ167 ≤ 9 ∧ wr μ ≤ wr μ167 ∧ wr μ167 ≤ 1 ∧ wr μ167 ≤ bd μ167 ∧ bd μ167 ≤ 1 ∧ r_43 + 1 ≤ μ220.1 111 22 ∧ r_75 + 1 ≤ μ220.1 111 22 ∧ μ.1 111 29 ≤ μ167.1 111 29 ∧ μ.1 111 31 ≤ μ167.1 111 31 ∧ μ167.1 111 31 ≤ 300 ∧ 0 ≤ μ167.1 111 32 ∧ μ167.1 111 32 ≤ μ167.1 111 9 ∧ μ167.1 111 9 ≤ 3000 := by (repeat' apply And.intro) <;> omega
  clear hv_200 hv_201 hv_202 hv_203 hv_204 hv_205 hv_206 hv_207 hv_208 hv_209 hv_210 hv_211 hv_212 hv_213 hv_214 hv_215 hv_216 hv_217 hv_218 hv_219 vl_229 hw_230
  refine lv_pop hx hb dX12_cleans_39 rfl ?_
  refine lv_aload_n hx hb dX12_cleans_40 rfl (lv_at hl 2 rfl) ?_
  refine lv_bipush (v := iv 8) hx hb dX12_cleans_41 rfl ?_
  refine lv_lconst (v := jv 0) hx hb dX12_cleans_43 rfl ?_
  refine lv_iconst (v := iv 0) hx hb dX12_cleans_44 rfl ?_
  have e_252 : μ220.1 111 29 = μ167.1 111 29 := (hp_223 29 (by decide))
  refine xc_iV G (b := 111) (rest := []) (As := [.int (iv 8), .long (jv 0), .int (iv 0)]) (c_X12_emit ω l μ220 8 0 0 (by unfold ir; decide) (by unfold jr; omega) (by unfold ir; decide) (by (repeat' apply And.intro) <;> omega)) (wm 9 126 rfl rfl) (wm 9 128 rfl rfl) (wm 0 144 rfl rfl) rfl rfl (by decide) rfl (wm 1 18 rfl rfl) (wm 9 129 rfl rfl) (by decide) hR ⟨nfB hF (by decide), nlB hLo (by decide)⟩ (n := 3) rfl rfl (Nat.le_of_ble_eq_true rfl) hl.1 dX12_cleans_45 (fun r_254 μ253 ρ d0 H locs hr_r_254 hp G => ?_)
  have hr_r_254 : -2147483648 ≤ r_254 ∧ r_254 ≤ 2147483647 := hr_r_254
  obtain ⟨F_255, hp_256, hp_257, hp_258, hp_259⟩ := hp
  have hxt_260 : mEXT μ μ253 := hxt_227.tr hp_257.1
  have hht_261 : ∀ _ : Unit, bd μ253 = 0 → mHt μ253 0 := fun _ h0 => (hht_228 () (bd_z (Int.le_of_eq (bd_cg (hp_256 15 (by decide)) (hp_256 16 (by decide)) (hp_256 17 (by decide))).symm) h0)).ad hp_257 rfl
  have hps_r_254 : μ.1 111 22 ≤ r_254 := by omega
  have vl_262 := hp_259
  replace hp_259 := fun _ : Unit => hp_259
  have hw_263 := wr_r (μ := μ167)
  obtain ⟨hv_265, hv_266, hv_267, hv_268, hv_269, hv_270, hv_271, hv_272, hv_273, hv_274, hv_275, hv_276, hv_277, hv_278, hv_279, hv_280, hv_281, hv_282, hv_283, hv_284, hv_285⟩ : μ.1 111 22 ≤ μ253.1 111 22 ∧ μ253.1 111 22 ≤ μ.1 111 22 + 2 * (μ167.1 111 9 - μ.1 111 9) + 8 * (nn μ167 - nn μ) - 2 + -2 * wr μ167 ∧ μ.1 111 9 + 1 ≤ μ167.1 111 9 ∧ nn μ + 0 ≤ nn μ167 ∧ nn μ167 ≤ nn μ + 0 + 9 * wr μ167 ∧ nn μ167 ≤ 8 + wr μ167 ∧ 9 * wr μ167 ≤ nn μ167 ∧ nn μ167 ≤ 9 ∧ wr μ ≤ wr μ167 ∧ wr μ167 ≤ 1 ∧ wr μ167 ≤ bd μ167 ∧ bd μ167 ≤ 1 ∧ r_43 + 1 ≤ μ253.1 111 22 ∧ r_75 + 1 ≤ μ253.1 111 22 ∧ r_254 + 1 ≤ μ253.1 111 22 ∧ μ.1 111 29 ≤ μ167.1 111 29 ∧ μ.1 111 31 ≤ μ167.1 111 31 ∧ μ167.1 111 31 ≤ 300 ∧ 0 ≤ μ167.1 111 32 ∧ μ167.1 111 32 ≤ μ167.1 111 9 ∧ μ167.1 111 9 ≤ 3000 := by (repeat' apply And.intro) <;> omega
  clear hv_232 hv_233 hv_234 hv_235 hv_236 hv_237 hv_238 hv_239 hv_240 hv_241 hv_242 hv_243 hv_244 hv_245 hv_246 hv_247 hv_248 hv_249 hv_250 hv_251 e_252 vl_262 hw_263
  refine lv_istore_n (lv' := [(3, .int (iv r_254)), (2, .int (iv r_75)), (1, .int (iv r_43)), (0, .ref (oP ω 111))]) hx hb dX12_cleans_48 rfl hl (by decide) rfl (fun ls hl => ?_)
  refine lv_aload_n hx hb dX12_cleans_49 rfl (lv_at hl 3 rfl) ?_
  refine lv_bipush (v := iv 22) hx hb dX12_cleans_50 rfl ?_
  have hPM_286 : PM μ253 := hp_170.cg ((((hp_256 4 (by decide)).trans ((hp_223 4 (by decide)).trans ((hp_169 4 (by decide)).trans ((F_108.1 111 (by decide) 4).trans ((hp_77 4 (by decide)).trans ((hp_45 4 (by decide)).trans (hp_3 4 (by decide))))))))).trans (((hp_169 4 (by decide)).trans ((F_108.1 111 (by decide) 4).trans ((hp_77 4 (by decide)).trans ((hp_45 4 (by decide)).trans (hp_3 4 (by decide))))))).symm) ((hp_256 6 (by decide)).trans (hp_223 6 (by decide))) ((((hp_256 7 (by decide)).trans ((hp_223 7 (by decide)).trans ((hp_169 7 (by decide)).trans ((F_108.1 111 (by decide) 7).trans ((hp_77 7 (by decide)).trans ((hp_45 7 (by decide)).trans (hp_3 7 (by decide))))))))).trans (((hp_169 7 (by decide)).trans ((F_108.1 111 (by decide) 7).trans ((hp_77 7 (by decide)).trans ((hp_45 7 (by decide)).trans (hp_3 7 (by decide))))))).symm) ((hp_256 8 (by decide)).trans (hp_223 8 (by decide))) ((hp_256 9 (by decide)).trans (hp_223 9 (by decide))) ((hp_256 11 (by decide)).trans (hp_223 11 (by decide))) ((hp_256 12 (by decide)).trans (hp_223 12 (by decide))) ((((hp_256 14 (by decide)).trans ((hp_223 14 (by decide)).trans ((hp_169 14 (by decide)).trans ((F_108.1 111 (by decide) 14).trans ((hp_77 14 (by decide)).trans ((hp_45 14 (by decide)).trans ((hp_3 14 (by decide)).trans htt.symm)))))))).trans (((hp_169 14 (by decide)).trans ((F_108.1 111 (by decide) 14).trans ((hp_77 14 (by decide)).trans ((hp_45 14 (by decide)).trans ((hp_3 14 (by decide)).trans htt.symm)))))).symm) ((hp_256 15 (by decide)).trans (hp_223 15 (by decide))) ((hp_256 29 (by decide)).trans (hp_223 29 (by decide))) (fun j => ((F_255.1 123 (by decide) j).trans (F_222.1 123 (by decide) j)))
  have e_287 : wr μ253 = wr μ167 := ((wr_cg (hp_256 15 (by decide))).trans (wr_cg (hp_223 15 (by decide))))
  have hw_288 := wr_r (μ := μ167)
  have e_289 : nn μ253 = nn μ167 := ((nn_cg (hp_256 15 (by decide)) (hp_256 18 (by decide))).trans (nn_cg (hp_223 15 (by decide)) (hp_223 18 (by decide))))
  have e_290 : μ253.1 111 9 = μ167.1 111 9 := ((hp_256 9 (by decide)).trans (hp_223 9 (by decide)))
  have e_293 : bd μ253 = bd μ167 := ((bd_cg (hp_256 15 (by decide)) (hp_256 16 (by decide)) (hp_256 17 (by decide))).trans (bd_cg (hp_223 15 (by decide)) (hp_223 16 (by decide)) (hp_223 17 (by decide))))
  refine xc_vV G (b := 111) (rest := []) (As := [.int (iv 22)]) (c_X12_wantsWord ω l μ253 22 (by unfold ir; decide) hPM_286 (by (repeat' apply And.intro) <;> omega)) (wm 10 27 rfl rfl) (wm 10 29 rfl rfl) (wm 0 178 rfl rfl) rfl rfl (by decide) rfl (wm 1 18 rfl rfl) (wm 10 30 rfl rfl) (by decide) hR ⟨nfB hF (by decide), nlB hLo (by decide)⟩ (n := 1) rfl rfl (Nat.le_of_ble_eq_true rfl) hl.1 dX12_cleans_52 (fun μ295 ρ d0 H locs hp G => ?_)
  obtain ⟨F_296, hp_297, hp_298, hp_299, hp_300, hp_301, hp_302⟩ := hp
  have hpl_303 := hp_298.pl
  have hw_304 := wr_r (μ := μ295)
  have hw_305 := wr_r (μ := μ253)
  have vl_306 := hp_299
  replace hp_299 := fun _ : Unit => hp_299
  have vl_307 := hp_300
  replace hp_300 := fun _ : Unit => hp_300
  have vl_308 := hp_301
  replace hp_301 := fun _ : Unit => hp_301
  have vl_309 := hp_302
  replace hp_302 := fun _ : Unit => hp_302
  obtain ⟨hv_312, hv_313, hv_314, hv_315, hv_316, hv_317, hv_318, hv_319, hv_320, hv_321, hv_322, hv_323, hv_324, hv_325, hv_326, hv_327, hv_328, hv_329, hv_330, hv_331, hv_332⟩ : μ.1 111 22 ≤ μ253.1 111 22 ∧ μ253.1 111 22 ≤ μ.1 111 22 + 2 * (μ295.1 111 9 - μ.1 111 9) + 8 * (nn μ295 - nn μ) - 4 + 0 * wr μ295 ∧ μ.1 111 9 + 1 ≤ μ295.1 111 9 ∧ nn μ + 0 ≤ nn μ295 ∧ nn μ295 ≤ nn μ + 0 + 9 * wr μ295 ∧ nn μ295 ≤ 8 + wr μ295 ∧ 9 * wr μ295 ≤ nn μ295 ∧ nn μ295 ≤ 9 ∧ wr μ ≤ wr μ295 ∧ wr μ295 ≤ 1 ∧ wr μ295 ≤ bd μ295 ∧ bd μ295 ≤ 1 ∧ r_43 + 1 ≤ μ253.1 111 22 ∧ r_75 + 1 ≤ μ253.1 111 22 ∧ r_254 + 1 ≤ μ253.1 111 22 ∧ μ.1 111 29 ≤ μ167.1 111 29 ∧ μ.1 111 31 ≤ μ167.1 111 31 ∧ μ167.1 111 31 ≤ 300 ∧ 0 ≤ μ167.1 111 32 ∧ μ167.1 111 32 ≤ μ295.1 111 9 ∧ μ295.1 111 9 ≤ 3000 := by (repeat' apply And.intro) <;> omega
  clear hv_265 hv_266 hv_267 hv_268 hv_269 hv_270 hv_271 hv_272 hv_273 hv_274 hv_275 hv_276 hv_277 hv_278 hv_279 hv_280 hv_281 hv_282 hv_283 hv_284 hv_285 e_287 hw_288 e_289 e_290 e_293 hpl_303 hw_304 hw_305 vl_306 vl_307 vl_308 vl_309
  refine lv_aload_n hx hb dX12_cleans_55 rfl (lv_at hl 3 rfl) ?_
  refine lv_iload_n hx hb dX12_cleans_56 rfl (lv_at hl 1 rfl) ?_
  have hq_333 : ∀ _ : Unit, q0m μ253 μ295 := fun _ => (q0m.fr (K := [111]) (FrM.tr FrM.rf F_296 (by decide)) (by decide) (by decide) (by decide) (hp_297 22 (by decide)) (nS.le (Int.le_of_eq (hp_297 29 (by decide)).symm) (Int.le_of_eq (hp_297 31 (by decide)).symm)))
  have hw_334 := wr_r (μ := μ295)
  have hht_335 : ∀ _ : Unit, bd μ295 = 0 → mHt μ295 0 := fun _ h0 => (hht_261 () (bd_z ((hp_301 ()).2) h0)).qm (hq_333 ())
  have e_336 : μ295.1 111 29 = μ167.1 111 29 := ((hp_297 29 (by decide)).trans ((hp_256 29 (by decide)).trans (hp_223 29 (by decide))))
  have hxt_337 : mEXT μ μ295 := hxt_260.tr (q0m.fr (K := [111]) (FrM.tr FrM.rf F_296 (by decide)) (by decide) (by decide) (by decide) (hp_297 22 (by decide)) (nS.le (Int.le_of_eq (hp_297 29 (by decide)).symm) (Int.le_of_eq (hp_297 31 (by decide)).symm))).1
  have e_338 : μ295.1 111 22 = μ253.1 111 22 := (hp_297 22 (by decide))
  refine xc_vV G (b := 111) (rest := []) (As := [.int (iv r_75)]) (c_X12_lands ω l μ295 r_75 (by unfold ir; exact ⟨by omega, by omega⟩) (by (repeat' apply And.intro) <;> omega) (by (repeat' apply And.intro) <;> omega)) (wm 9 167 rfl rfl) (wm 9 169 rfl rfl) (wm 0 154 rfl rfl) rfl rfl (by decide) rfl (wm 1 18 rfl rfl) (wm 9 170 rfl rfl) (by decide) hR ⟨nfB hF (by decide), nlB hLo (by decide)⟩ (n := 1) rfl rfl (Nat.le_of_ble_eq_true rfl) hl.1 dX12_cleans_57 (fun μ342 ρ d0 H locs hp G => ?_)
  obtain ⟨F_343, hp_344⟩ := hp
  have hxt_345 : mEXT μ μ342 := hxt_337.mf hp_344 (by omega)
  have hht_346 : ∀ _ : Unit, bd μ342 = 0 → mHt μ342 0 := fun _ h0 => (hht_335 () (bd_z (Int.le_of_eq (bd_cg (F_343.1 111 (by decide) 15) (F_343.1 111 (by decide) 16) (F_343.1 111 (by decide) 17)).symm) h0)).mf hp_344
  obtain ⟨hv_349, hv_350, hv_351, hv_352, hv_353, hv_354, hv_355, hv_356, hv_357, hv_358, hv_359, hv_360, hv_361, hv_362, hv_363, hv_364, hv_365, hv_366, hv_367, hv_368, hv_369⟩ : μ.1 111 22 ≤ μ253.1 111 22 ∧ μ253.1 111 22 ≤ μ.1 111 22 + 2 * (μ295.1 111 9 - μ.1 111 9) + 8 * (nn μ295 - nn μ) - 4 + 0 * wr μ295 ∧ μ.1 111 9 + 1 ≤ μ295.1 111 9 ∧ nn μ + 0 ≤ nn μ295 ∧ nn μ295 ≤ nn μ + 0 + 9 * wr μ295 ∧ nn μ295 ≤ 8 + wr μ295 ∧ 9 * wr μ295 ≤ nn μ295 ∧ nn μ295 ≤ 9 ∧ wr μ ≤ wr μ295 ∧ wr μ295 ≤ 1 ∧ wr μ295 ≤ bd μ295 ∧ bd μ295 ≤ 1 ∧ r_43 + 1 ≤ μ253.1 111 22 ∧ r_75 + 1 ≤ μ253.1 111 22 ∧ r_254 + 1 ≤ μ253.1 111 22 ∧ μ.1 111 29 ≤ μ167.1 111 29 ∧ μ.1 111 31 ≤ μ167.1 111 31 ∧ μ167.1 111 31 ≤ 300 ∧ 0 ≤ μ167.1 111 32 ∧ μ167.1 111 32 ≤ μ295.1 111 9 ∧ μ295.1 111 9 ≤ 3000 := by (repeat' apply And.intro) <;> omega
  clear hv_312 hv_313 hv_314 hv_315 hv_316 hv_317 hv_318 hv_319 hv_320 hv_321 hv_322 hv_323 hv_324 hv_325 hv_326 hv_327 hv_328 hv_329 hv_330 hv_331 hv_332 hw_334 e_336 e_338
  refine lv_aload_n hx hb dX12_cleans_60 rfl (lv_at hl 3 rfl) ?_
  have e_370 : μ342.1 111 29 = μ167.1 111 29 := ((F_343.1 111 (by decide) 29).trans ((hp_297 29 (by decide)).trans ((hp_256 29 (by decide)).trans (hp_223 29 (by decide)))))
  have e_371 : μ342.1 111 14 = tt := ((F_343.1 111 (by decide) 14).trans ((hp_297 14 (by decide)).trans ((hp_256 14 (by decide)).trans ((hp_223 14 (by decide)).trans ((hp_169 14 (by decide)).trans ((F_108.1 111 (by decide) 14).trans ((hp_77 14 (by decide)).trans ((hp_45 14 (by decide)).trans ((hp_3 14 (by decide)).trans htt.symm)))))))))
  have hPM_372 : PM μ342 := hp_298.cg ((((F_343.1 111 (by decide) 4).trans ((hp_297 4 (by decide)).trans ((hp_256 4 (by decide)).trans ((hp_223 4 (by decide)).trans ((hp_169 4 (by decide)).trans ((F_108.1 111 (by decide) 4).trans ((hp_77 4 (by decide)).trans ((hp_45 4 (by decide)).trans (hp_3 4 (by decide))))))))))).trans (((hp_297 4 (by decide)).trans ((hp_256 4 (by decide)).trans ((hp_223 4 (by decide)).trans ((hp_169 4 (by decide)).trans ((F_108.1 111 (by decide) 4).trans ((hp_77 4 (by decide)).trans ((hp_45 4 (by decide)).trans (hp_3 4 (by decide)))))))))).symm) (F_343.1 111 (by decide) 6) ((((F_343.1 111 (by decide) 7).trans ((hp_297 7 (by decide)).trans ((hp_256 7 (by decide)).trans ((hp_223 7 (by decide)).trans ((hp_169 7 (by decide)).trans ((F_108.1 111 (by decide) 7).trans ((hp_77 7 (by decide)).trans ((hp_45 7 (by decide)).trans (hp_3 7 (by decide))))))))))).trans (((hp_297 7 (by decide)).trans ((hp_256 7 (by decide)).trans ((hp_223 7 (by decide)).trans ((hp_169 7 (by decide)).trans ((F_108.1 111 (by decide) 7).trans ((hp_77 7 (by decide)).trans ((hp_45 7 (by decide)).trans (hp_3 7 (by decide)))))))))).symm) (F_343.1 111 (by decide) 8) (F_343.1 111 (by decide) 9) (F_343.1 111 (by decide) 11) (F_343.1 111 (by decide) 12) ((((F_343.1 111 (by decide) 14).trans ((hp_297 14 (by decide)).trans ((hp_256 14 (by decide)).trans ((hp_223 14 (by decide)).trans ((hp_169 14 (by decide)).trans ((F_108.1 111 (by decide) 14).trans ((hp_77 14 (by decide)).trans ((hp_45 14 (by decide)).trans ((hp_3 14 (by decide)).trans htt.symm)))))))))).trans (((hp_297 14 (by decide)).trans ((hp_256 14 (by decide)).trans ((hp_223 14 (by decide)).trans ((hp_169 14 (by decide)).trans ((F_108.1 111 (by decide) 14).trans ((hp_77 14 (by decide)).trans ((hp_45 14 (by decide)).trans ((hp_3 14 (by decide)).trans htt.symm))))))))).symm) (F_343.1 111 (by decide) 15) ((((F_343.1 111 (by decide) 29).trans ((hp_297 29 (by decide)).trans ((hp_256 29 (by decide)).trans (hp_223 29 (by decide)))))).trans (((hp_297 29 (by decide)).trans ((hp_256 29 (by decide)).trans (hp_223 29 (by decide))))).symm) (fun j => (F_343.1 123 (by decide) j))
  have e_373 : wr μ342 = wr μ295 := (wr_cg (F_343.1 111 (by decide) 15))
  have hw_374 := wr_r (μ := μ295)
  have e_375 : nn μ342 = nn μ295 := (nn_cg (F_343.1 111 (by decide) 15) (F_343.1 111 (by decide) 18))
  have e_378 : μ342.1 111 22 = μ253.1 111 22 := ((F_343.1 111 (by decide) 22).trans (hp_297 22 (by decide)))
  have e_380 : μ342.1 111 9 = μ295.1 111 9 := (F_343.1 111 (by decide) 9)
  have e_382 : μ342.1 111 39 = μ167.1 111 39 := ((F_343.1 111 (by decide) 39).trans ((hp_297 39 (by decide)).trans ((hp_256 39 (by decide)).trans (hp_223 39 (by decide)))))
  have e_385 : μ342.1 111 31 = μ167.1 111 31 := ((F_343.1 111 (by decide) 31).trans ((hp_297 31 (by decide)).trans ((hp_256 31 (by decide)).trans (hp_223 31 (by decide)))))
  have e_387 : μ342.1 111 32 = μ167.1 111 32 := ((F_343.1 111 (by decide) 32).trans ((hp_297 32 (by decide)).trans ((hp_256 32 (by decide)).trans (hp_223 32 (by decide)))))
  have e_399 : bd μ342 = bd μ295 := (bd_cg (F_343.1 111 (by decide) 15) (F_343.1 111 (by decide) 16) (F_343.1 111 (by decide) 17))
  refine xc_vV G (b := 111) (rest := []) (As := []) (((fun (_ : Om) (_ : Launch) => hK)) ω l μ342 tt (by (repeat' apply And.intro) <;> omega) hPM_372 (by (repeat' apply And.intro) <;> omega) (by (repeat' apply And.intro) <;> omega) (by (repeat' apply And.intro) <;> omega) (by (repeat' apply And.intro) <;> omega) (by (repeat' apply And.intro) <;> omega) (by (repeat' apply And.intro) <;> omega) (by (repeat' apply And.intro) <;> omega) (fun _ h0 => (hht_346 () h0).s)) (wm 9 118 rfl rfl) (wm 9 120 rfl rfl) (wm 0 142 rfl rfl) rfl rfl (by decide) rfl (wm 1 18 rfl rfl) (wm 9 121 rfl rfl) (by decide) hR ⟨sfr (F := F) (a := 0) (by decide), slo (L := Lo) (m := 1) (a := 0) (by decide)⟩ (n := 0) rfl rfl (Nat.le_of_ble_eq_true rfl) hl.1 dX12_cleans_61 (fun μ403 ρ d0 H locs hp G => ?_)
  obtain ⟨F_404, hp_405, hp_406, hp_407, hp_408, hp_409, hp_410, hp_411, hp_412, hp_413, hp_414, hp_415, hp_416, hp_417⟩ := hp
  have hpl_418 := hp_406.pl
  have hw_419 := wr_r (μ := μ403)
  have hw_420 := wr_r (μ := μ342)
  have hxt_421 : mEXT μ μ403 := hxt_345.tr hp_417
  have hwk_422 : ∀ j, j < μ.1 111 39 → μ403.1 126 j = μ342.1 126 j := fun j hj => hp_413 j (by omega)
  have hex_423 : ∀ _ : Unit, bd μ403 = 0 → mEX μ342 μ403 tt 0 (2 * (8 - nn μ)) 101 := fun _ h0 => (hp_416 () h0).mn (by omega) (Int.le_refl _)
  have hht_424 : ∀ _ : Unit, bd μ403 = 0 → mHt μ403 0 := fun _ h0 => (hht_346 () (bd_z (hp_410.2) h0)).ex (hex_423 () h0) rfl
  have vl_425 := hp_407
  replace hp_407 := fun _ : Unit => hp_407
  have vl_426 := hp_408
  replace hp_408 := fun _ : Unit => hp_408
  have vl_427 := hp_409
  replace hp_409 := fun _ : Unit => hp_409
  have vl_428 := hp_410
  replace hp_410 := fun _ : Unit => hp_410
  have vl_429 := hp_411
  replace hp_411 := fun _ : Unit => hp_411
  have vl_430 := hp_412
  replace hp_412 := fun _ : Unit => hp_412
  have vl_431 := hp_414
  replace hp_414 := fun _ : Unit => hp_414
  have vl_432 := hp_415
  replace hp_415 := fun _ : Unit => hp_415
  have h39_433 : μ403.1 111 39 = μ.1 111 39 := by omega
  obtain ⟨hv_436, hv_437, hv_438, hv_439, hv_440, hv_441, hv_442, hv_443, hv_444, hv_445, hv_446, hv_447, hv_448, hv_449, hv_450, hv_451, hv_452, hv_453, hv_454, hv_455, hv_456⟩ : μ.1 111 22 ≤ μ403.1 111 22 ∧ μ403.1 111 22 ≤ μ.1 111 22 + 2 * (μ403.1 111 9 - μ.1 111 9) + 8 * (nn μ403 - nn μ) - 8 + 4 * wr μ403 ∧ μ.1 111 9 + 1 ≤ μ403.1 111 9 ∧ nn μ + 0 ≤ nn μ403 ∧ nn μ403 ≤ nn μ + 0 + 9 * wr μ403 ∧ nn μ403 ≤ 8 + wr μ403 ∧ 9 * wr μ403 ≤ nn μ403 ∧ nn μ403 ≤ 9 ∧ wr μ ≤ wr μ403 ∧ wr μ403 ≤ 1 ∧ wr μ403 ≤ bd μ403 ∧ bd μ403 ≤ 1 ∧ r_43 + 1 ≤ μ403.1 111 22 ∧ r_75 + 1 ≤ μ403.1 111 22 ∧ r_254 + 1 ≤ μ403.1 111 22 ∧ μ.1 111 29 ≤ μ403.1 111 29 ∧ μ.1 111 31 ≤ μ403.1 111 31 ∧ μ403.1 111 31 ≤ 300 ∧ 0 ≤ μ403.1 111 32 ∧ μ403.1 111 32 ≤ μ403.1 111 9 ∧ μ403.1 111 9 ≤ 3000 := by (repeat' apply And.intro) <;> omega
  clear hv_349 hv_350 hv_351 hv_352 hv_353 hv_354 hv_355 hv_356 hv_357 hv_358 hv_359 hv_360 hv_361 hv_362 hv_363 hv_364 hv_365 hv_366 hv_367 hv_368 hv_369 e_370 e_371 e_373 hw_374 e_375 e_378 e_380 e_382 e_385 e_387 e_399 hpl_418 hw_419 hw_420 vl_425 vl_426 vl_427 vl_428 vl_429 vl_430 vl_431 vl_432
  refine lv_aload_n hx hb dX12_cleans_64 rfl (lv_at hl 3 rfl) ?_
  refine lv_bipush (v := iv 16) hx hb dX12_cleans_65 rfl ?_
  refine lv_lconst (v := jv 0) hx hb dX12_cleans_67 rfl ?_
  refine lv_iconst (v := iv 0) hx hb dX12_cleans_68 rfl ?_
  refine xc_iV G (b := 111) (rest := []) (As := [.int (iv 16), .long (jv 0), .int (iv 0)]) (c_X12_emit ω l μ403 16 0 0 (by unfold ir; decide) (by unfold jr; omega) (by unfold ir; decide) (by (repeat' apply And.intro) <;> omega)) (wm 9 126 rfl rfl) (wm 9 128 rfl rfl) (wm 0 144 rfl rfl) rfl rfl (by decide) rfl (wm 1 18 rfl rfl) (wm 9 129 rfl rfl) (by decide) hR ⟨nfB hF (by decide), nlB hLo (by decide)⟩ (n := 3) rfl rfl (Nat.le_of_ble_eq_true rfl) hl.1 dX12_cleans_69 (fun r_458 μ457 ρ d0 H locs hr_r_458 hp G => ?_)
  have hr_r_458 : -2147483648 ≤ r_458 ∧ r_458 ≤ 2147483647 := hr_r_458
  obtain ⟨F_459, hp_460, hp_461, hp_462, hp_463⟩ := hp
  have hxt_464 : mEXT μ μ457 := hxt_421.tr hp_461.1
  have hht_465 : ∀ _ : Unit, bd μ457 = 0 → mHt μ457 0 := fun _ h0 => (hht_424 () (bd_z (Int.le_of_eq (bd_cg (hp_460 15 (by decide)) (hp_460 16 (by decide)) (hp_460 17 (by decide))).symm) h0)).ad hp_461 rfl
  have vl_466 := hp_463
  replace hp_463 := fun _ : Unit => hp_463
  have hw_467 := wr_r (μ := μ403)
  obtain ⟨hv_469, hv_470, hv_471, hv_472, hv_473, hv_474, hv_475, hv_476, hv_477, hv_478, hv_479, hv_480, hv_481, hv_482, hv_483, hv_484, hv_485, hv_486, hv_487, hv_488, hv_489⟩ : μ.1 111 22 ≤ μ457.1 111 22 ∧ μ457.1 111 22 ≤ μ.1 111 22 + 2 * (μ403.1 111 9 - μ.1 111 9) + 8 * (nn μ403 - nn μ) - 7 + 4 * wr μ403 ∧ μ.1 111 9 + 1 ≤ μ403.1 111 9 ∧ nn μ + 0 ≤ nn μ403 ∧ nn μ403 ≤ nn μ + 0 + 9 * wr μ403 ∧ nn μ403 ≤ 8 + wr μ403 ∧ 9 * wr μ403 ≤ nn μ403 ∧ nn μ403 ≤ 9 ∧ wr μ ≤ wr μ403 ∧ wr μ403 ≤ 1 ∧ wr μ403 ≤ bd μ403 ∧ bd μ403 ≤ 1 ∧ r_43 + 1 ≤ μ457.1 111 22 ∧ r_75 + 1 ≤ μ457.1 111 22 ∧ r_254 + 1 ≤ μ457.1 111 22 ∧ μ.1 111 29 ≤ μ403.1 111 29 ∧ μ.1 111 31 ≤ μ403.1 111 31 ∧ μ403.1 111 31 ≤ 300 ∧ 0 ≤ μ403.1 111 32 ∧ μ403.1 111 32 ≤ μ403.1 111 9 ∧ μ403.1 111 9 ≤ 3000 := by (repeat' apply And.intro) <;> omega
  clear hv_436 hv_437 hv_438 hv_439 hv_440 hv_441 hv_442 hv_443 hv_444 hv_445 hv_446 hv_447 hv_448 hv_449 hv_450 hv_451 hv_452 hv_453 hv_454 hv_455 hv_456 vl_466 hw_467
  refine lv_pop hx hb dX12_cleans_72 rfl ?_
  refine lv_aload_n hx hb dX12_cleans_73 rfl (lv_at hl 3 rfl) ?_
  refine lv_iload_n hx hb dX12_cleans_74 rfl (lv_at hl 0 rfl) ?_
  have e_490 : μ457.1 111 29 = μ403.1 111 29 := (hp_460 29 (by decide))
  refine xc_vV G (b := 111) (rest := []) (As := [.int (iv r_254)]) (c_X12_lands ω l μ457 r_254 (by unfold ir; exact ⟨by omega, by omega⟩) (by (repeat' apply And.intro) <;> omega) (by (repeat' apply And.intro) <;> omega)) (wm 9 167 rfl rfl) (wm 9 169 rfl rfl) (wm 0 154 rfl rfl) rfl rfl (by decide) rfl (wm 1 18 rfl rfl) (wm 9 170 rfl rfl) (by decide) hR ⟨nfB hF (by decide), nlB hLo (by decide)⟩ (n := 1) rfl rfl (Nat.le_of_ble_eq_true rfl) hl.1 dX12_cleans_75 (fun μ491 ρ d0 H locs hp G => ?_)
  obtain ⟨F_492, hp_493⟩ := hp
  have hxt_494 : mEXT μ μ491 := hxt_464.mf hp_493 (by omega)
  have hht_495 : ∀ _ : Unit, bd μ491 = 0 → mHt μ491 0 := fun _ h0 => (hht_465 () (bd_z (Int.le_of_eq (bd_cg (F_492.1 111 (by decide) 15) (F_492.1 111 (by decide) 16) (F_492.1 111 (by decide) 17)).symm) h0)).mf hp_493
  have hw_496 := wr_r (μ := μ403)
  obtain ⟨hv_498, hv_499, hv_500, hv_501, hv_502, hv_503, hv_504, hv_505, hv_506, hv_507, hv_508, hv_509, hv_510, hv_511, hv_512, hv_513, hv_514, hv_515, hv_516, hv_517, hv_518⟩ : μ.1 111 22 ≤ μ457.1 111 22 ∧ μ457.1 111 22 ≤ μ.1 111 22 + 2 * (μ403.1 111 9 - μ.1 111 9) + 8 * (nn μ403 - nn μ) - 7 + 4 * wr μ403 ∧ μ.1 111 9 + 1 ≤ μ403.1 111 9 ∧ nn μ + 0 ≤ nn μ403 ∧ nn μ403 ≤ nn μ + 0 + 9 * wr μ403 ∧ nn μ403 ≤ 8 + wr μ403 ∧ 9 * wr μ403 ≤ nn μ403 ∧ nn μ403 ≤ 9 ∧ wr μ ≤ wr μ403 ∧ wr μ403 ≤ 1 ∧ wr μ403 ≤ bd μ403 ∧ bd μ403 ≤ 1 ∧ r_43 + 1 ≤ μ457.1 111 22 ∧ r_75 + 1 ≤ μ457.1 111 22 ∧ r_254 + 1 ≤ μ457.1 111 22 ∧ μ.1 111 29 ≤ μ403.1 111 29 ∧ μ.1 111 31 ≤ μ403.1 111 31 ∧ μ403.1 111 31 ≤ 300 ∧ 0 ≤ μ403.1 111 32 ∧ μ403.1 111 32 ≤ μ403.1 111 9 ∧ μ403.1 111 9 ≤ 3000 := by (repeat' apply And.intro) <;> omega
  clear hv_469 hv_470 hv_471 hv_472 hv_473 hv_474 hv_475 hv_476 hv_477 hv_478 hv_479 hv_480 hv_481 hv_482 hv_483 hv_484 hv_485 hv_486 hv_487 hv_488 hv_489 e_490 hw_496
  have e_519 : μ491.1 111 22 = μ457.1 111 22 := (F_492.1 111 (by decide) 22)
  have e_520 : μ491.1 111 9 = μ403.1 111 9 := ((F_492.1 111 (by decide) 9).trans (hp_460 9 (by decide)))
  have e_521 : μ491.1 111 29 = μ403.1 111 29 := ((F_492.1 111 (by decide) 29).trans (hp_460 29 (by decide)))
  have e_522 : μ491.1 111 39 = μ403.1 111 39 := ((F_492.1 111 (by decide) 39).trans (hp_460 39 (by decide)))
  have e_523 : μ491.1 111 31 = μ403.1 111 31 := ((F_492.1 111 (by decide) 31).trans (hp_460 31 (by decide)))
  have e_524 : μ491.1 111 32 = μ403.1 111 32 := ((F_492.1 111 (by decide) 32).trans (hp_460 32 (by decide)))
  have e_525 : μ491.1 111 6 = μ403.1 111 6 := ((F_492.1 111 (by decide) 6).trans (hp_460 6 (by decide)))
  have e_526 : wr μ491 = wr μ403 := ((wr_cg (F_492.1 111 (by decide) 15)).trans (wr_cg (hp_460 15 (by decide))))
  have hw_527 := wr_r (μ := μ403)
  have e_528 : bd μ491 = bd μ403 := ((bd_cg (F_492.1 111 (by decide) 15) (F_492.1 111 (by decide) 16) (F_492.1 111 (by decide) 17)).trans (bd_cg (hp_460 15 (by decide)) (hp_460 16 (by decide)) (hp_460 17 (by decide))))
  have e_529 : nn μ491 = nn μ403 := ((nn_cg (F_492.1 111 (by decide) 15) (F_492.1 111 (by decide) 18)).trans (nn_cg (hp_460 15 (by decide)) (hp_460 18 (by decide))))
  have hPM_530 : PM μ491 := hp_406.cg ((((F_492.1 111 (by decide) 4).trans ((hp_460 4 (by decide)).trans ((hp_405 4 (by decide)).trans ((F_343.1 111 (by decide) 4).trans ((hp_297 4 (by decide)).trans ((hp_256 4 (by decide)).trans ((hp_223 4 (by decide)).trans ((hp_169 4 (by decide)).trans ((F_108.1 111 (by decide) 4).trans ((hp_77 4 (by decide)).trans ((hp_45 4 (by decide)).trans (hp_3 4 (by decide)))))))))))))).trans (((hp_405 4 (by decide)).trans ((F_343.1 111 (by decide) 4).trans ((hp_297 4 (by decide)).trans ((hp_256 4 (by decide)).trans ((hp_223 4 (by decide)).trans ((hp_169 4 (by decide)).trans ((F_108.1 111 (by decide) 4).trans ((hp_77 4 (by decide)).trans ((hp_45 4 (by decide)).trans (hp_3 4 (by decide)))))))))))).symm) ((F_492.1 111 (by decide) 6).trans (hp_460 6 (by decide))) ((((F_492.1 111 (by decide) 7).trans ((hp_460 7 (by decide)).trans ((hp_405 7 (by decide)).trans ((F_343.1 111 (by decide) 7).trans ((hp_297 7 (by decide)).trans ((hp_256 7 (by decide)).trans ((hp_223 7 (by decide)).trans ((hp_169 7 (by decide)).trans ((F_108.1 111 (by decide) 7).trans ((hp_77 7 (by decide)).trans ((hp_45 7 (by decide)).trans (hp_3 7 (by decide)))))))))))))).trans (((hp_405 7 (by decide)).trans ((F_343.1 111 (by decide) 7).trans ((hp_297 7 (by decide)).trans ((hp_256 7 (by decide)).trans ((hp_223 7 (by decide)).trans ((hp_169 7 (by decide)).trans ((F_108.1 111 (by decide) 7).trans ((hp_77 7 (by decide)).trans ((hp_45 7 (by decide)).trans (hp_3 7 (by decide)))))))))))).symm) ((F_492.1 111 (by decide) 8).trans (hp_460 8 (by decide))) ((F_492.1 111 (by decide) 9).trans (hp_460 9 (by decide))) ((F_492.1 111 (by decide) 11).trans (hp_460 11 (by decide))) ((F_492.1 111 (by decide) 12).trans (hp_460 12 (by decide))) ((((F_492.1 111 (by decide) 14).trans ((hp_460 14 (by decide)).trans ((hp_405 14 (by decide)).trans ((F_343.1 111 (by decide) 14).trans ((hp_297 14 (by decide)).trans ((hp_256 14 (by decide)).trans ((hp_223 14 (by decide)).trans ((hp_169 14 (by decide)).trans ((F_108.1 111 (by decide) 14).trans ((hp_77 14 (by decide)).trans ((hp_45 14 (by decide)).trans ((hp_3 14 (by decide)).trans htt.symm))))))))))))).trans (((hp_405 14 (by decide)).trans ((F_343.1 111 (by decide) 14).trans ((hp_297 14 (by decide)).trans ((hp_256 14 (by decide)).trans ((hp_223 14 (by decide)).trans ((hp_169 14 (by decide)).trans ((F_108.1 111 (by decide) 14).trans ((hp_77 14 (by decide)).trans ((hp_45 14 (by decide)).trans ((hp_3 14 (by decide)).trans htt.symm))))))))))).symm) ((F_492.1 111 (by decide) 15).trans (hp_460 15 (by decide))) ((F_492.1 111 (by decide) 29).trans (hp_460 29 (by decide))) (fun j => ((F_492.1 123 (by decide) j).trans (F_459.1 123 (by decide) j)))
  exact xr_v G hret hlk dX12_cleans_78 ⟨(FrM.tr (FrM.tr (FrM.tr (FrM.tr (FrM.tr (FrM.tr (FrM.tr (FrM.tr (FrM.tr (FrM.tr (FrM.tr (FrM.tr FrM.rf F_2 (by decide)) F_44 (by decide)) F_76 (by decide)) F_108 (by decide)) F_168 (by decide)) F_222 (by decide)) F_255 (by decide)) F_296 (by decide)) F_343 (by decide)) F_404 (by decide)) F_459 (by decide)) F_492 (by decide)), (fun j hj => ((F_492.1 111 (by decide) j).trans ((hp_460 j (fun h9 => hj ((by decide : ∀ x ∈ ([22] : List Int), x ∈ ([6, 8, 9, 10, 11, 12, 13, 15, 16, 17, 18, 22, 29, 31, 32, 34, 35, 36, 37, 39] : List Int)) j h9))).trans ((hp_405 j (fun h9 => hj ((by decide : ∀ x ∈ ([6, 8, 9, 10, 11, 12, 13, 15, 16, 17, 18, 22, 29, 31, 32, 34, 35, 36, 37, 39] : List Int), x ∈ ([6, 8, 9, 10, 11, 12, 13, 15, 16, 17, 18, 22, 29, 31, 32, 34, 35, 36, 37, 39] : List Int)) j h9))).trans ((F_343.1 111 (by decide) j).trans ((hp_297 j (fun h9 => hj ((by decide : ∀ x ∈ ([6, 8, 9, 10, 11, 12, 13, 15] : List Int), x ∈ ([6, 8, 9, 10, 11, 12, 13, 15, 16, 17, 18, 22, 29, 31, 32, 34, 35, 36, 37, 39] : List Int)) j h9))).trans ((hp_256 j (fun h9 => hj ((by decide : ∀ x ∈ ([22] : List Int), x ∈ ([6, 8, 9, 10, 11, 12, 13, 15, 16, 17, 18, 22, 29, 31, 32, 34, 35, 36, 37, 39] : List Int)) j h9))).trans ((hp_223 j (fun h9 => hj ((by decide : ∀ x ∈ ([22] : List Int), x ∈ ([6, 8, 9, 10, 11, 12, 13, 15, 16, 17, 18, 22, 29, 31, 32, 34, 35, 36, 37, 39] : List Int)) j h9))).trans ((hp_169 j (fun h9 => hj ((by decide : ∀ x ∈ ([6, 8, 9, 10, 11, 12, 13, 15, 16, 17, 18, 22, 29, 31, 32, 34, 35, 36, 37, 39] : List Int), x ∈ ([6, 8, 9, 10, 11, 12, 13, 15, 16, 17, 18, 22, 29, 31, 32, 34, 35, 36, 37, 39] : List Int)) j h9))).trans ((F_108.1 111 (by decide) j).trans ((hp_77 j (fun h9 => hj ((by decide : ∀ x ∈ ([22] : List Int), x ∈ ([6, 8, 9, 10, 11, 12, 13, 15, 16, 17, 18, 22, 29, 31, 32, 34, 35, 36, 37, 39] : List Int)) j h9))).trans ((hp_45 j (fun h9 => hj ((by decide : ∀ x ∈ ([22] : List Int), x ∈ ([6, 8, 9, 10, 11, 12, 13, 15, 16, 17, 18, 22, 29, 31, 32, 34, 35, 36, 37, 39] : List Int)) j h9))).trans (hp_3 j (fun h9 => hj ((by decide : ∀ x ∈ ([6, 8, 9, 10, 11, 12, 13, 15] : List Int), x ∈ ([6, 8, 9, 10, 11, 12, 13, 15, 16, 17, 18, 22, 29, 31, 32, 34, 35, 36, 37, 39] : List Int)) j h9))))))))))))))), hPM_530, (by (repeat' apply And.intro) <;> omega), (by (repeat' apply And.intro) <;> omega), (by (repeat' apply And.intro) <;> omega), ⟨by omega, (Int.le_trans (Int.le_trans (Int.le_trans (Int.le_trans (Int.le_trans (Int.le_trans (Int.le_trans (Int.le_trans (Int.le_trans (Int.le_trans (Int.le_trans ((hp_6 ()).2) (Int.le_of_eq (bd_cg (hp_45 15 (by decide)) (hp_45 16 (by decide)) (hp_45 17 (by decide))).symm)) (Int.le_of_eq (bd_cg (hp_77 15 (by decide)) (hp_77 16 (by decide)) (hp_77 17 (by decide))).symm)) (Int.le_of_eq (bd_cg (F_108.1 111 (by decide) 15) (F_108.1 111 (by decide) 16) (F_108.1 111 (by decide) 17)).symm)) ((hp_174 ()).2)) (Int.le_of_eq (bd_cg (hp_223 15 (by decide)) (hp_223 16 (by decide)) (hp_223 17 (by decide))).symm)) (Int.le_of_eq (bd_cg (hp_256 15 (by decide)) (hp_256 16 (by decide)) (hp_256 17 (by decide))).symm)) ((hp_301 ()).2)) (Int.le_of_eq (bd_cg (F_343.1 111 (by decide) 15) (F_343.1 111 (by decide) 16) (F_343.1 111 (by decide) 17)).symm)) ((hp_410 ()).2)) (Int.le_of_eq (bd_cg (hp_460 15 (by decide)) (hp_460 16 (by decide)) (hp_460 17 (by decide))).symm)) (Int.le_of_eq (bd_cg (F_492.1 111 (by decide) 15) (F_492.1 111 (by decide) 16) (F_492.1 111 (by decide) 17)).symm))⟩, (by (repeat' apply And.intro) <;> omega), (by (repeat' apply And.intro) <;> omega), (fun j hj => ((F_492.1 126 (by decide) j).trans ((F_459.1 126 (by decide) j).trans ((hwk_422 j (by omega)).trans ((F_343.1 126 (by decide) j).trans ((F_296.1 126 (by decide) j).trans ((F_255.1 126 (by decide) j).trans ((F_222.1 126 (by decide) j).trans ((hwk_186 j (by omega)).trans ((F_108.1 126 (by decide) j).trans ((F_76.1 126 (by decide) j).trans ((F_44.1 126 (by decide) j).trans (F_2.1 126 (by decide) j))))))))))))), (by (repeat' apply And.intro) <;> omega), (by (repeat' apply And.intro) <;> omega), (fun _ h0 => (mEY.ql (hq_33 ()) (as_mcln (M := 2 * (8 - nn μ)) ((hS1 () (bd_z (Int.le_trans (Int.le_trans (Int.le_trans (Int.le_trans (Int.le_trans (Int.le_trans (Int.le_trans (Int.le_trans (Int.le_trans (Int.le_trans (Int.le_trans ((hp_6 ()).2) (Int.le_of_eq (bd_cg (hp_45 15 (by decide)) (hp_45 16 (by decide)) (hp_45 17 (by decide))).symm)) (Int.le_of_eq (bd_cg (hp_77 15 (by decide)) (hp_77 16 (by decide)) (hp_77 17 (by decide))).symm)) (Int.le_of_eq (bd_cg (F_108.1 111 (by decide) 15) (F_108.1 111 (by decide) 16) (F_108.1 111 (by decide) 17)).symm)) ((hp_174 ()).2)) (Int.le_of_eq (bd_cg (hp_223 15 (by decide)) (hp_223 16 (by decide)) (hp_223 17 (by decide))).symm)) (Int.le_of_eq (bd_cg (hp_256 15 (by decide)) (hp_256 16 (by decide)) (hp_256 17 (by decide))).symm)) ((hp_301 ()).2)) (Int.le_of_eq (bd_cg (F_343.1 111 (by decide) 15) (F_343.1 111 (by decide) 16) (F_343.1 111 (by decide) 17)).symm)) ((hp_410 ()).2)) (Int.le_of_eq (bd_cg (hp_460 15 (by decide)) (hp_460 16 (by decide)) (hp_460 17 (by decide))).symm)) (Int.le_of_eq (bd_cg (F_492.1 111 (by decide) 15) (F_492.1 111 (by decide) 16) (F_492.1 111 (by decide) 17)).symm)) h0)).qm (hq_33 ())) (by omega) hp_46 hp_78 hp_109 (hex_187 () (bd_z (Int.le_trans (Int.le_trans (Int.le_trans (Int.le_trans (Int.le_trans (Int.le_trans (Int.le_of_eq (bd_cg (hp_223 15 (by decide)) (hp_223 16 (by decide)) (hp_223 17 (by decide))).symm) (Int.le_of_eq (bd_cg (hp_256 15 (by decide)) (hp_256 16 (by decide)) (hp_256 17 (by decide))).symm)) ((hp_301 ()).2)) (Int.le_of_eq (bd_cg (F_343.1 111 (by decide) 15) (F_343.1 111 (by decide) 16) (F_343.1 111 (by decide) 17)).symm)) ((hp_410 ()).2)) (Int.le_of_eq (bd_cg (hp_460 15 (by decide)) (hp_460 16 (by decide)) (hp_460 17 (by decide))).symm)) (Int.le_of_eq (bd_cg (F_492.1 111 (by decide) 15) (F_492.1 111 (by decide) 16) (F_492.1 111 (by decide) 17)).symm)) h0)) hp_224 (hp_257.qm (hq_333 ())) hp_344 (hex_423 () (bd_z (Int.le_trans (Int.le_of_eq (bd_cg (hp_460 15 (by decide)) (hp_460 16 (by decide)) (hp_460 17 (by decide))).symm) (Int.le_of_eq (bd_cg (F_492.1 111 (by decide) 15) (F_492.1 111 (by decide) 16) (F_492.1 111 (by decide) 17)).symm)) h0)) hp_461 hp_493 (by omega) (by omega) (by omega) rfl rfl rfl (by omega))).mn (by omega)), hxt_494⟩
