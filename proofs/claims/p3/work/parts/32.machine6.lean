abbrev cX4_backToCaller : ByteArray := prog_6_method_29_code
def yX4_backToCaller : MethodName := ⟨RX4, "backToCaller", "()V"⟩
abbrev cX4_turnFailure : ByteArray := prog_6_method_30_code
def yX4_turnFailure : MethodName := ⟨RX4, "turnFailure", "(I)V"⟩
abbrev cX4_endWithAnswer : ByteArray := prog_6_method_34_code
def yX4_endWithAnswer : MethodName := ⟨RX4, "endWithAnswer", "()V"⟩
abbrev cX4_finished : ByteArray := prog_6_method_35_code
def yX4_finished : MethodName := ⟨RX4, "finished", "(I)V"⟩
theorem dX4_backToCaller_0 : decode cX4_backToCaller 0 = .ok (.aload_n 0, 1) := by decide +kernel
theorem dX4_backToCaller_1 : decode cX4_backToCaller 1 = .ok (.aload_n 0, 1) := by decide +kernel
theorem dX4_backToCaller_2 : decode cX4_backToCaller 2 = .ok (.getfield 36, 3) := by decide +kernel
theorem dX4_backToCaller_5 : decode cX4_backToCaller 5 = .ok (.invokevirtual 347, 3) := by decide +kernel
theorem dX4_backToCaller_8 : decode cX4_backToCaller 8 = .ok (.putfield 51, 3) := by decide +kernel
theorem dX4_backToCaller_11 : decode cX4_backToCaller 11 = .ok (.aload_n 0, 1) := by decide +kernel
theorem dX4_backToCaller_12 : decode cX4_backToCaller 12 = .ok (.aload_n 0, 1) := by decide +kernel
theorem dX4_backToCaller_13 : decode cX4_backToCaller 13 = .ok (.getfield 51, 3) := by decide +kernel
theorem dX4_backToCaller_16 : decode cX4_backToCaller 16 = .ok (.iconst 1, 1) := by decide +kernel
theorem dX4_backToCaller_17 : decode cX4_backToCaller 17 = .ok (.iadd, 1) := by decide +kernel
theorem dX4_backToCaller_18 : decode cX4_backToCaller 18 = .ok (.putfield 55, 3) := by decide +kernel
theorem dX4_backToCaller_21 : decode cX4_backToCaller 21 = .ok (.aload_n 0, 1) := by decide +kernel
theorem dX4_backToCaller_22 : decode cX4_backToCaller 22 = .ok (.getfield 36, 3) := by decide +kernel
theorem dX4_backToCaller_25 : decode cX4_backToCaller 25 = .ok (.invokevirtual 350, 3) := by decide +kernel
theorem dX4_backToCaller_28 : decode cX4_backToCaller 28 = .ok (.aload_n 0, 1) := by decide +kernel
theorem dX4_backToCaller_29 : decode cX4_backToCaller 29 = .ok (.aload_n 0, 1) := by decide +kernel
theorem dX4_backToCaller_30 : decode cX4_backToCaller 30 = .ok (.getfield 71, 3) := by decide +kernel
theorem dX4_backToCaller_33 : decode cX4_backToCaller 33 = .ok (.aload_n 0, 1) := by decide +kernel
theorem dX4_backToCaller_34 : decode cX4_backToCaller 34 = .ok (.getfield 36, 3) := by decide +kernel
theorem dX4_backToCaller_37 : decode cX4_backToCaller 37 = .ok (.invokevirtual 268, 3) := by decide +kernel
theorem dX4_backToCaller_40 : decode cX4_backToCaller 40 = .ok (.iconst 3, 1) := by decide +kernel
theorem dX4_backToCaller_41 : decode cX4_backToCaller 41 = .ok (.iand, 1) := by decide +kernel
theorem dX4_backToCaller_42 : decode cX4_backToCaller 42 = .ok (.aaload, 1) := by decide +kernel
theorem dX4_backToCaller_43 : decode cX4_backToCaller 43 = .ok (.putfield 83, 3) := by decide +kernel
theorem dX4_backToCaller_46 : decode cX4_backToCaller 46 = .ok (.return_, 1) := by decide +kernel
theorem dX4_turnFailure_0 : decode cX4_turnFailure 0 = .ok (.aload_n 0, 1) := by decide +kernel
theorem dX4_turnFailure_1 : decode cX4_turnFailure 1 = .ok (.invokevirtual 171, 3) := by decide +kernel
theorem dX4_turnFailure_4 : decode cX4_turnFailure 4 = .ok (.ifCond .ne 4, 3) := by decide +kernel
theorem dX4_turnFailure_7 : decode cX4_turnFailure 7 = .ok (.return_, 1) := by decide +kernel
theorem dX4_turnFailure_8 : decode cX4_turnFailure 8 = .ok (.aload_n 0, 1) := by decide +kernel
theorem dX4_turnFailure_9 : decode cX4_turnFailure 9 = .ok (.getfield 47, 3) := by decide +kernel
theorem dX4_turnFailure_12 : decode cX4_turnFailure 12 = .ok (.bipush 6, 2) := by decide +kernel
theorem dX4_turnFailure_14 : decode cX4_turnFailure 14 = .ok (.dup2, 1) := by decide +kernel
theorem dX4_turnFailure_15 : decode cX4_turnFailure 15 = .ok (.iaload, 1) := by decide +kernel
theorem dX4_turnFailure_16 : decode cX4_turnFailure 16 = .ok (.iconst 1, 1) := by decide +kernel
theorem dX4_turnFailure_17 : decode cX4_turnFailure 17 = .ok (.iadd, 1) := by decide +kernel
theorem dX4_turnFailure_18 : decode cX4_turnFailure 18 = .ok (.iastore, 1) := by decide +kernel
theorem dX4_turnFailure_19 : decode cX4_turnFailure 19 = .ok (.aload_n 0, 1) := by decide +kernel
theorem dX4_turnFailure_20 : decode cX4_turnFailure 20 = .ok (.getfield 29, 3) := by decide +kernel
theorem dX4_turnFailure_23 : decode cX4_turnFailure 23 = .ok (.iload_n 1, 1) := by decide +kernel
theorem dX4_turnFailure_24 : decode cX4_turnFailure 24 = .ok (.iconst 0, 1) := by decide +kernel
theorem dX4_turnFailure_25 : decode cX4_turnFailure 25 = .ok (.invokevirtual 113, 3) := by decide +kernel
theorem dX4_turnFailure_28 : decode cX4_turnFailure 28 = .ok (.istore_n 2, 1) := by decide +kernel
theorem dX4_turnFailure_29 : decode cX4_turnFailure 29 = .ok (.aload_n 0, 1) := by decide +kernel
theorem dX4_turnFailure_30 : decode cX4_turnFailure 30 = .ok (.getfield 36, 3) := by decide +kernel
theorem dX4_turnFailure_33 : decode cX4_turnFailure 33 = .ok (.invokevirtual 268, 3) := by decide +kernel
theorem dX4_turnFailure_36 : decode cX4_turnFailure 36 = .ok (.istore_n 3, 1) := by decide +kernel
theorem dX4_turnFailure_37 : decode cX4_turnFailure 37 = .ok (.aload_n 0, 1) := by decide +kernel
theorem dX4_turnFailure_38 : decode cX4_turnFailure 38 = .ok (.getfield 79, 3) := by decide +kernel
theorem dX4_turnFailure_41 : decode cX4_turnFailure 41 = .ok (.iload_n 2, 1) := by decide +kernel
theorem dX4_turnFailure_42 : decode cX4_turnFailure 42 = .ok (.iload_n 3, 1) := by decide +kernel
theorem dX4_turnFailure_43 : decode cX4_turnFailure 43 = .ok (.aload_n 0, 1) := by decide +kernel
theorem dX4_turnFailure_44 : decode cX4_turnFailure 44 = .ok (.getfield 29, 3) := by decide +kernel
theorem dX4_turnFailure_47 : decode cX4_turnFailure 47 = .ok (.iload_n 1, 1) := by decide +kernel
theorem dX4_turnFailure_48 : decode cX4_turnFailure 48 = .ok (.iconst 1, 1) := by decide +kernel
theorem dX4_turnFailure_49 : decode cX4_turnFailure 49 = .ok (.invokevirtual 113, 3) := by decide +kernel
theorem dX4_turnFailure_52 : decode cX4_turnFailure 52 = .ok (.aload_n 0, 1) := by decide +kernel
theorem dX4_turnFailure_53 : decode cX4_turnFailure 53 = .ok (.getfield 75, 3) := by decide +kernel
theorem dX4_turnFailure_56 : decode cX4_turnFailure 56 = .ok (.invokevirtual 351, 3) := by decide +kernel
theorem dX4_turnFailure_59 : decode cX4_turnFailure 59 = .ok (.istore 4, 2) := by decide +kernel
theorem dX4_turnFailure_61 : decode cX4_turnFailure 61 = .ok (.aload_n 0, 1) := by decide +kernel
theorem dX4_turnFailure_62 : decode cX4_turnFailure 62 = .ok (.getfield 79, 3) := by decide +kernel
theorem dX4_turnFailure_65 : decode cX4_turnFailure 65 = .ok (.iload_n 2, 1) := by decide +kernel
theorem dX4_turnFailure_66 : decode cX4_turnFailure 66 = .ok (.iload_n 3, 1) := by decide +kernel
theorem dX4_turnFailure_67 : decode cX4_turnFailure 67 = .ok (.iload 4, 2) := by decide +kernel
theorem dX4_turnFailure_69 : decode cX4_turnFailure 69 = .ok (.invokevirtual 357, 3) := by decide +kernel
theorem dX4_turnFailure_72 : decode cX4_turnFailure 72 = .ok (.istore 5, 2) := by decide +kernel
theorem dX4_turnFailure_74 : decode cX4_turnFailure 74 = .ok (.aload_n 0, 1) := by decide +kernel
theorem dX4_turnFailure_75 : decode cX4_turnFailure 75 = .ok (.getfield 29, 3) := by decide +kernel
theorem dX4_turnFailure_78 : decode cX4_turnFailure 78 = .ok (.iload_n 3, 1) := by decide +kernel
theorem dX4_turnFailure_79 : decode cX4_turnFailure 79 = .ok (.iload 5, 2) := by decide +kernel
theorem dX4_turnFailure_81 : decode cX4_turnFailure 81 = .ok (.aload_n 0, 1) := by decide +kernel
theorem dX4_turnFailure_82 : decode cX4_turnFailure 82 = .ok (.getfield 83, 3) := by decide +kernel
theorem dX4_turnFailure_85 : decode cX4_turnFailure 85 = .ok (.aload_n 0, 1) := by decide +kernel
theorem dX4_turnFailure_86 : decode cX4_turnFailure 86 = .ok (.getfield 51, 3) := by decide +kernel
theorem dX4_turnFailure_89 : decode cX4_turnFailure 89 = .ok (.invokevirtual 271, 3) := by decide +kernel
theorem dX4_turnFailure_92 : decode cX4_turnFailure 92 = .ok (.iload 4, 2) := by decide +kernel
theorem dX4_turnFailure_94 : decode cX4_turnFailure 94 = .ok (.ifCond .lt 7, 3) := by decide +kernel
theorem dX4_turnFailure_97 : decode cX4_turnFailure 97 = .ok (.iconst 1, 1) := by decide +kernel
theorem dX4_turnFailure_98 : decode cX4_turnFailure 98 = .ok (.goto 4, 3) := by decide +kernel
theorem dX4_turnFailure_101 : decode cX4_turnFailure 101 = .ok (.iconst 2, 1) := by decide +kernel
theorem dX4_turnFailure_102 : decode cX4_turnFailure 102 = .ok (.aload_n 0, 1) := by decide +kernel
theorem dX4_turnFailure_103 : decode cX4_turnFailure 103 = .ok (.getfield 36, 3) := by decide +kernel
theorem dX4_turnFailure_106 : decode cX4_turnFailure 106 = .ok (.invokevirtual 274, 3) := by decide +kernel
theorem dX4_turnFailure_109 : decode cX4_turnFailure 109 = .ok (.iload_n 1, 1) := by decide +kernel
theorem dX4_turnFailure_110 : decode cX4_turnFailure 110 = .ok (.invokevirtual 277, 3) := by decide +kernel
theorem dX4_turnFailure_113 : decode cX4_turnFailure 113 = .ok (.istore 6, 2) := by decide +kernel
theorem dX4_turnFailure_115 : decode cX4_turnFailure 115 = .ok (.aload_n 0, 1) := by decide +kernel
theorem dX4_turnFailure_116 : decode cX4_turnFailure 116 = .ok (.getfield 29, 3) := by decide +kernel
theorem dX4_turnFailure_119 : decode cX4_turnFailure 119 = .ok (.invokevirtual 284, 3) := by decide +kernel
theorem dX4_turnFailure_122 : decode cX4_turnFailure 122 = .ok (.astore 7, 2) := by decide +kernel
theorem dX4_turnFailure_124 : decode cX4_turnFailure 124 = .ok (.aload 7, 2) := by decide +kernel
theorem dX4_turnFailure_126 : decode cX4_turnFailure 126 = .ok (.iload 6, 2) := by decide +kernel
theorem dX4_turnFailure_128 : decode cX4_turnFailure 128 = .ok (.aload 7, 2) := by decide +kernel
theorem dX4_turnFailure_130 : decode cX4_turnFailure 130 = .ok (.iload_n 1, 1) := by decide +kernel
theorem dX4_turnFailure_131 : decode cX4_turnFailure 131 = .ok (.invokevirtual 258, 3) := by decide +kernel
theorem dX4_turnFailure_134 : decode cX4_turnFailure 134 = .ok (.aload_n 0, 1) := by decide +kernel
theorem dX4_turnFailure_135 : decode cX4_turnFailure 135 = .ok (.getfield 79, 3) := by decide +kernel
theorem dX4_turnFailure_138 : decode cX4_turnFailure 138 = .ok (.aload 7, 2) := by decide +kernel
theorem dX4_turnFailure_140 : decode cX4_turnFailure 140 = .ok (.iload 6, 2) := by decide +kernel
theorem dX4_turnFailure_142 : decode cX4_turnFailure 142 = .ok (.iload_n 2, 1) := by decide +kernel
theorem dX4_turnFailure_143 : decode cX4_turnFailure 143 = .ok (.iload_n 3, 1) := by decide +kernel
theorem dX4_turnFailure_144 : decode cX4_turnFailure 144 = .ok (.invokevirtual 361, 3) := by decide +kernel
theorem dX4_turnFailure_147 : decode cX4_turnFailure 147 = .ok (.ifCond .ne 13, 3) := by decide +kernel
theorem dX4_turnFailure_150 : decode cX4_turnFailure 150 = .ok (.aload 7, 2) := by decide +kernel
theorem dX4_turnFailure_152 : decode cX4_turnFailure 152 = .ok (.iload 6, 2) := by decide +kernel
theorem dX4_turnFailure_154 : decode cX4_turnFailure 154 = .ok (.iconst 0, 1) := by decide +kernel
theorem dX4_turnFailure_155 : decode cX4_turnFailure 155 = .ok (.lconst 0, 1) := by decide +kernel
theorem dX4_turnFailure_156 : decode cX4_turnFailure 156 = .ok (.dconst 0, 1) := by decide +kernel
theorem dX4_turnFailure_157 : decode cX4_turnFailure 157 = .ok (.invokevirtual 365, 3) := by decide +kernel
theorem dX4_turnFailure_160 : decode cX4_turnFailure 160 = .ok (.aload_n 0, 1) := by decide +kernel
theorem dX4_turnFailure_161 : decode cX4_turnFailure 161 = .ok (.iload 6, 2) := by decide +kernel
theorem dX4_turnFailure_163 : decode cX4_turnFailure 163 = .ok (.invokevirtual 281, 3) := by decide +kernel
theorem dX4_turnFailure_166 : decode cX4_turnFailure 166 = .ok (.iload_n 3, 1) := by decide +kernel
theorem dX4_turnFailure_167 : decode cX4_turnFailure 167 = .ok (.iconst 1, 1) := by decide +kernel
theorem dX4_turnFailure_168 : decode cX4_turnFailure 168 = .ok (.if_icmp .ne 8, 3) := by decide +kernel
theorem dX4_turnFailure_171 : decode cX4_turnFailure 171 = .ok (.aload_n 0, 1) := by decide +kernel
theorem dX4_turnFailure_172 : decode cX4_turnFailure 172 = .ok (.iconst 2, 1) := by decide +kernel
theorem dX4_turnFailure_173 : decode cX4_turnFailure 173 = .ok (.putfield 58, 3) := by decide +kernel
theorem dX4_turnFailure_176 : decode cX4_turnFailure 176 = .ok (.return_, 1) := by decide +kernel
theorem dX4_endWithAnswer_0 : decode cX4_endWithAnswer 0 = .ok (.aload_n 0, 1) := by decide +kernel
theorem dX4_endWithAnswer_1 : decode cX4_endWithAnswer 1 = .ok (.getfield 14, 3) := by decide +kernel
theorem dX4_endWithAnswer_4 : decode cX4_endWithAnswer 4 = .ok (.invokevirtual 265, 3) := by decide +kernel
theorem dX4_endWithAnswer_7 : decode cX4_endWithAnswer 7 = .ok (.istore_n 1, 1) := by decide +kernel
theorem dX4_endWithAnswer_8 : decode cX4_endWithAnswer 8 = .ok (.aload_n 0, 1) := by decide +kernel
theorem dX4_endWithAnswer_9 : decode cX4_endWithAnswer 9 = .ok (.getfield 14, 3) := by decide +kernel
theorem dX4_endWithAnswer_12 : decode cX4_endWithAnswer 12 = .ok (.aload_n 0, 1) := by decide +kernel
theorem dX4_endWithAnswer_13 : decode cX4_endWithAnswer 13 = .ok (.invokevirtual 255, 3) := by decide +kernel
theorem dX4_endWithAnswer_16 : decode cX4_endWithAnswer 16 = .ok (.invokevirtual 101, 3) := by decide +kernel
theorem dX4_endWithAnswer_19 : decode cX4_endWithAnswer 19 = .ok (.lstore_n 2, 1) := by decide +kernel
theorem dX4_endWithAnswer_20 : decode cX4_endWithAnswer 20 = .ok (.iload_n 1, 1) := by decide +kernel
theorem dX4_endWithAnswer_21 : decode cX4_endWithAnswer 21 = .ok (.iconst 4, 1) := by decide +kernel
theorem dX4_endWithAnswer_22 : decode cX4_endWithAnswer 22 = .ok (.if_icmp .ne 15, 3) := by decide +kernel
theorem dX4_endWithAnswer_25 : decode cX4_endWithAnswer 25 = .ok (.aload_n 0, 1) := by decide +kernel
theorem dX4_endWithAnswer_26 : decode cX4_endWithAnswer 26 = .ok (.lload_n 2, 1) := by decide +kernel
theorem dX4_endWithAnswer_27 : decode cX4_endWithAnswer 27 = .ok (.l2i, 1) := by decide +kernel
theorem dX4_endWithAnswer_28 : decode cX4_endWithAnswer 28 = .ok (.putfield 64, 3) := by decide +kernel
theorem dX4_endWithAnswer_31 : decode cX4_endWithAnswer 31 = .ok (.aload_n 0, 1) := by decide +kernel
theorem dX4_endWithAnswer_32 : decode cX4_endWithAnswer 32 = .ok (.iconst 1, 1) := by decide +kernel
theorem dX4_endWithAnswer_33 : decode cX4_endWithAnswer 33 = .ok (.invokevirtual 158, 3) := by decide +kernel
theorem dX4_endWithAnswer_36 : decode cX4_endWithAnswer 36 = .ok (.return_, 1) := by decide +kernel
theorem dX4_endWithAnswer_37 : decode cX4_endWithAnswer 37 = .ok (.aload_n 0, 1) := by decide +kernel
theorem dX4_endWithAnswer_38 : decode cX4_endWithAnswer 38 = .ok (.getfield 47, 3) := by decide +kernel
theorem dX4_endWithAnswer_41 : decode cX4_endWithAnswer 41 = .ok (.iconst 1, 1) := by decide +kernel
theorem dX4_endWithAnswer_42 : decode cX4_endWithAnswer 42 = .ok (.iload_n 1, 1) := by decide +kernel
theorem dX4_endWithAnswer_43 : decode cX4_endWithAnswer 43 = .ok (.iastore, 1) := by decide +kernel
theorem dX4_endWithAnswer_44 : decode cX4_endWithAnswer 44 = .ok (.iload_n 1, 1) := by decide +kernel
theorem dX4_endWithAnswer_45 : decode cX4_endWithAnswer 45 = .ok (.iconst 2, 1) := by decide +kernel
theorem dX4_endWithAnswer_46 : decode cX4_endWithAnswer 46 = .ok (.if_icmp .ne 16, 3) := by decide +kernel
theorem dX4_endWithAnswer_49 : decode cX4_endWithAnswer 49 = .ok (.aload_n 0, 1) := by decide +kernel
theorem dX4_endWithAnswer_50 : decode cX4_endWithAnswer 50 = .ok (.aload_n 0, 1) := by decide +kernel
theorem dX4_endWithAnswer_51 : decode cX4_endWithAnswer 51 = .ok (.lload_n 2, 1) := by decide +kernel
theorem dX4_endWithAnswer_52 : decode cX4_endWithAnswer 52 = .ok (.invokevirtual 378, 3) := by decide +kernel
theorem dX4_endWithAnswer_55 : decode cX4_endWithAnswer 55 = .ok (.i2l, 1) := by decide +kernel
theorem dX4_endWithAnswer_56 : decode cX4_endWithAnswer 56 = .ok (.putfield 67, 3) := by decide +kernel
theorem dX4_endWithAnswer_59 : decode cX4_endWithAnswer 59 = .ok (.goto 45, 3) := by decide +kernel
theorem dX4_endWithAnswer_62 : decode cX4_endWithAnswer 62 = .ok (.iload_n 1, 1) := by decide +kernel
theorem dX4_endWithAnswer_63 : decode cX4_endWithAnswer 63 = .ok (.iconst 1, 1) := by decide +kernel
theorem dX4_endWithAnswer_64 : decode cX4_endWithAnswer 64 = .ok (.if_icmp .ne 35, 3) := by decide +kernel
theorem dX4_endWithAnswer_67 : decode cX4_endWithAnswer 67 = .ok (.aload_n 0, 1) := by decide +kernel
theorem dX4_endWithAnswer_68 : decode cX4_endWithAnswer 68 = .ok (.getfield 36, 3) := by decide +kernel
theorem dX4_endWithAnswer_71 : decode cX4_endWithAnswer 71 = .ok (.invokevirtual 268, 3) := by decide +kernel
theorem dX4_endWithAnswer_74 : decode cX4_endWithAnswer 74 = .ok (.iconst 3, 1) := by decide +kernel
theorem dX4_endWithAnswer_75 : decode cX4_endWithAnswer 75 = .ok (.if_icmp .ne 24, 3) := by decide +kernel
theorem dX4_endWithAnswer_78 : decode cX4_endWithAnswer 78 = .ok (.aload_n 0, 1) := by decide +kernel
theorem dX4_endWithAnswer_79 : decode cX4_endWithAnswer 79 = .ok (.aload_n 0, 1) := by decide +kernel
theorem dX4_endWithAnswer_80 : decode cX4_endWithAnswer 80 = .ok (.getfield 14, 3) := by decide +kernel
theorem dX4_endWithAnswer_83 : decode cX4_endWithAnswer 83 = .ok (.aload_n 0, 1) := by decide +kernel
theorem dX4_endWithAnswer_84 : decode cX4_endWithAnswer 84 = .ok (.invokevirtual 255, 3) := by decide +kernel
theorem dX4_endWithAnswer_87 : decode cX4_endWithAnswer 87 = .ok (.invokevirtual 91, 3) := by decide +kernel
theorem dX4_endWithAnswer_90 : decode cX4_endWithAnswer 90 = .ok (.invokestatic 95, 3) := by decide +kernel
theorem dX4_endWithAnswer_93 : decode cX4_endWithAnswer 93 = .ok (.putfield 67, 3) := by decide +kernel
theorem dX4_endWithAnswer_96 : decode cX4_endWithAnswer 96 = .ok (.goto 8, 3) := by decide +kernel
theorem dX4_endWithAnswer_99 : decode cX4_endWithAnswer 99 = .ok (.aload_n 0, 1) := by decide +kernel
theorem dX4_endWithAnswer_100 : decode cX4_endWithAnswer 100 = .ok (.lload_n 2, 1) := by decide +kernel
theorem dX4_endWithAnswer_101 : decode cX4_endWithAnswer 101 = .ok (.putfield 67, 3) := by decide +kernel
theorem dX4_endWithAnswer_104 : decode cX4_endWithAnswer 104 = .ok (.aload_n 0, 1) := by decide +kernel
theorem dX4_endWithAnswer_105 : decode cX4_endWithAnswer 105 = .ok (.iconst 0, 1) := by decide +kernel
theorem dX4_endWithAnswer_106 : decode cX4_endWithAnswer 106 = .ok (.invokevirtual 158, 3) := by decide +kernel
theorem dX4_endWithAnswer_109 : decode cX4_endWithAnswer 109 = .ok (.return_, 1) := by decide +kernel
theorem dX4_finished_0 : decode cX4_finished 0 = .ok (.aload_n 0, 1) := by decide +kernel
theorem dX4_finished_1 : decode cX4_finished 1 = .ok (.getfield 43, 3) := by decide +kernel
theorem dX4_finished_4 : decode cX4_finished 4 = .ok (.invokevirtual 382, 3) := by decide +kernel
theorem dX4_finished_7 : decode cX4_finished 7 = .ok (.istore_n 2, 1) := by decide +kernel
theorem dX4_finished_8 : decode cX4_finished 8 = .ok (.iload_n 2, 1) := by decide +kernel
theorem dX4_finished_9 : decode cX4_finished 9 = .ok (.iconst 1, 1) := by decide +kernel
theorem dX4_finished_10 : decode cX4_finished 10 = .ok (.if_icmp .ne 34, 3) := by decide +kernel
theorem dX4_finished_13 : decode cX4_finished 13 = .ok (.aload_n 0, 1) := by decide +kernel
theorem dX4_finished_14 : decode cX4_finished 14 = .ok (.getfield 14, 3) := by decide +kernel
theorem dX4_finished_17 : decode cX4_finished 17 = .ok (.aload_n 0, 1) := by decide +kernel
theorem dX4_finished_18 : decode cX4_finished 18 = .ok (.getfield 43, 3) := by decide +kernel
theorem dX4_finished_21 : decode cX4_finished 21 = .ok (.invokevirtual 385, 3) := by decide +kernel
theorem dX4_finished_24 : decode cX4_finished 24 = .ok (.aload_n 0, 1) := by decide +kernel
theorem dX4_finished_25 : decode cX4_finished 25 = .ok (.getfield 43, 3) := by decide +kernel
theorem dX4_finished_28 : decode cX4_finished 28 = .ok (.invokevirtual 304, 3) := by decide +kernel
theorem dX4_finished_31 : decode cX4_finished 31 = .ok (.iconst 1, 1) := by decide +kernel
theorem dX4_finished_32 : decode cX4_finished 32 = .ok (.isub, 1) := by decide +kernel
theorem dX4_finished_33 : decode cX4_finished 33 = .ok (.invokevirtual 179, 3) := by decide +kernel
theorem dX4_finished_36 : decode cX4_finished 36 = .ok (.aload_n 0, 1) := by decide +kernel
theorem dX4_finished_37 : decode cX4_finished 37 = .ok (.iconst 3, 1) := by decide +kernel
theorem dX4_finished_38 : decode cX4_finished 38 = .ok (.putfield 58, 3) := by decide +kernel
theorem dX4_finished_41 : decode cX4_finished 41 = .ok (.goto 32, 3) := by decide +kernel
theorem dX4_finished_44 : decode cX4_finished 44 = .ok (.iload_n 2, 1) := by decide +kernel
theorem dX4_finished_45 : decode cX4_finished 45 = .ok (.iconst 2, 1) := by decide +kernel
theorem dX4_finished_46 : decode cX4_finished 46 = .ok (.if_icmp .ne 22, 3) := by decide +kernel
theorem dX4_finished_49 : decode cX4_finished 49 = .ok (.aload_n 0, 1) := by decide +kernel
theorem dX4_finished_50 : decode cX4_finished 50 = .ok (.aload_n 0, 1) := by decide +kernel
theorem dX4_finished_51 : decode cX4_finished 51 = .ok (.getfield 43, 3) := by decide +kernel
theorem dX4_finished_54 : decode cX4_finished 54 = .ok (.invokevirtual 316, 3) := by decide +kernel
theorem dX4_finished_57 : decode cX4_finished 57 = .ok (.putfield 61, 3) := by decide +kernel
theorem dX4_finished_60 : decode cX4_finished 60 = .ok (.aload_n 0, 1) := by decide +kernel
theorem dX4_finished_61 : decode cX4_finished 61 = .ok (.iconst 1, 1) := by decide +kernel
theorem dX4_finished_62 : decode cX4_finished 62 = .ok (.putfield 58, 3) := by decide +kernel
theorem dX4_finished_65 : decode cX4_finished 65 = .ok (.goto 8, 3) := by decide +kernel
theorem dX4_finished_68 : decode cX4_finished 68 = .ok (.aload_n 0, 1) := by decide +kernel
theorem dX4_finished_69 : decode cX4_finished 69 = .ok (.iload_n 1, 1) := by decide +kernel
theorem dX4_finished_70 : decode cX4_finished 70 = .ok (.putfield 55, 3) := by decide +kernel
theorem dX4_finished_73 : decode cX4_finished 73 = .ok (.aload_n 0, 1) := by decide +kernel
theorem dX4_finished_74 : decode cX4_finished 74 = .ok (.getfield 43, 3) := by decide +kernel
theorem dX4_finished_77 : decode cX4_finished 77 = .ok (.invokevirtual 246, 3) := by decide +kernel
theorem dX4_finished_80 : decode cX4_finished 80 = .ok (.return_, 1) := by decide +kernel
set_option maxHeartbeats 4000000 in
set_option maxRecDepth 100000 in
theorem c_X4_backToCaller (ω : Om) (l : Launch) (μ : M3) (S : Int) (n : Int) (hI : IC μ) (hS : S = μ.1 33 3) (hn : n = μ.1 52 7) (h29 : 2 ≤ n) (htr : 0 ≤ μ.1 53 (n - 2) ∧ μ.1 53 (n - 2) ≤ 3) (hca : 0 ≤ μ.1 58 (n - 1) ∧ μ.1 58 (n - 1) ≤ 100000000) : CtV ω l yX4_backToCaller cX4_backToCaller 1 2 41 [.ref (oP ω 32)] μ (fun (μ' : M3) => (Fr [32, 52] μ μ') ∧ (IC μ') ∧ (μ'.1 52 7 = n - 1) ∧ (μ'.1 32 11 = μ.1 58 (n - 1) ∧ μ'.1 32 12 = μ.1 58 (n - 1) + 1) ∧ (μ'.1 32 10 = μ.1 12 (μ.1 53 (n - 2))) ∧ (μ'.1 32 13 = μ.1 32 13) ∧ (μ'.1 32 14 = μ.1 32 14) ∧ (μ'.1 32 15 = μ.1 32 15) ∧ (μ'.1 32 16 = μ.1 32 16)) := by
  refine CtV.go (by decide) (Nat.le_of_ble_eq_true rfl) (fun ρ p e s m below meth c R ls G hR hret hlk hl => ?_)
  have hx := G.1.1
  have hb := G.1.2.1
  have hl : lv_has ls 1 [(0, .ref (oP ω 32))] := hl
  generalize s.drawn = d0 at G ⊢
  have hk_1 := hI.row (r := 33) (by unfold isRow; decide)
  unfold rk at hk_1
  simp only [Int.reduceAdd] at hk_1
  have hbr_33 : BR 33 = 240100 := rfl
  have hn_2 : 0 ≤ μ.1 52 7 ∧ μ.1 52 7 ≤ 24 := hI.nm.2.2.2.2.1
  have hk_3 := hI.row (r := 37) (by unfold isRow; decide)
  unfold rk at hk_3
  simp only [Int.reduceAdd] at hk_3
  have hbr_37 : BR 37 = 20410 := rfl
  have hSr0 : Sr μ := G.sr0
  have hof := ofF_at (μ := μ) (b := 58) hn.symm (by omega)
  refine lv_aload_n hx hb dX4_backToCaller_0 rfl (lv_at hl 0 rfl) ?_
  refine lv_aload_n hx hb dX4_backToCaller_1 rfl (lv_at hl 0 rfl) ?_
  refine xa_getr G fd_X4 (a := 32) (x := 52) 7 rfl (by decide) rfl (wm 2 151 rfl rfl) ⟨rfl, rfl, rfl⟩ dX4_backToCaller_2 rfl (G.sk 40 rfl) (by decide) rfl ?_
  refine xc_iV G (b := 52) (rest := [.ref (oP ω 32)]) (As := []) (c_X2_calledAt ω l μ  hI) (wm 5 230 rfl rfl) (wm 5 231 rfl rfl) (wm 5 232 rfl rfl) rfl rfl (by decide) rfl (wm 1 16 rfl rfl) (wm 5 233 rfl rfl) (by decide) hR (by decide) (n := 0) rfl rfl (Nat.le_of_ble_eq_true rfl) hl.1 dX4_backToCaller_5 (fun r_5 μ4 ρ d0 H locs hr_r_5 hp G => ?_)
  have hr_r_5 : -2147483648 ≤ r_5 ∧ r_5 ≤ 2147483647 := hr_r_5
  obtain ⟨hsm_6, hp_7⟩ := hp
  have hsm_6 := Eq.symm hsm_6
  subst hsm_6
  refine xa_puti G fd_X4 (a := 32) (x := r_5) 11 (kz := 11) rfl rfl (by decide) rfl (by unfold ir; omega) (wm 2 155 rfl rfl) ⟨rfl, rfl, rfl, rfl⟩ rfl dX4_backToCaller_8 rfl (fun H locs G => ?_)
  refine lv_aload_n hx hb dX4_backToCaller_11 rfl (lv_at hl 0 rfl) ?_
  refine lv_aload_n hx hb dX4_backToCaller_12 rfl (lv_at hl 0 rfl) ?_
  refine xa_geti G fd_X4 (a := 32) (x := r_5) 11 rfl (by decide) rfl (wm 2 155 rfl rfl) ⟨rfl, rfl, rfl⟩ dX4_backToCaller_13 rfl (sv_s _ _ _ _) ?_
  refine lv_iconst (v := iv 1) hx hb dX4_backToCaller_16 rfl ?_
  refine xb_iadd hx hb dX4_backToCaller_17 ?_
  refine xa_puti G fd_X4 (a := 32) (x := r_5 + 1) 12 (kz := 12) rfl rfl (by decide) rfl (by unfold ir; omega) (wm 2 156 rfl rfl) ⟨rfl, rfl, rfl, rfl⟩ rfl dX4_backToCaller_18 rfl (fun H locs G => ?_)
  refine lv_aload_n hx hb dX4_backToCaller_21 rfl (lv_at hl 0 rfl) ?_
  refine xa_getr G fd_X4 (a := 32) (x := 52) 7 rfl (by decide) rfl (wm 2 151 rfl rfl) ⟨rfl, rfl, rfl⟩ dX4_backToCaller_22 rfl (G.sk 40 rfl) (by decide) rfl ?_
  have hI_8 : IC (sv (sv μ 32 11 r_5) 32 12 (r_5 + 1)) := (IC.put (IC.put hI (by decide +kernel)) (by decide +kernel))
  have e_9 : (sv (sv μ 32 11 r_5) 32 12 (r_5 + 1)).1 52 7 = n := ((sv_n _ (fun h9 => absurd h9.1 (by decide))).trans ((sv_n _ (fun h9 => absurd h9.1 (by decide))).trans hn.symm))
  refine xc_vV G (b := 52) (rest := []) (As := []) (c_X2_pop ω l (sv (sv μ 32 11 r_5) 32 12 (r_5 + 1))  hI_8) (wm 5 234 rfl rfl) (wm 5 235 rfl rfl) (wm 5 236 rfl rfl) rfl rfl (by decide) rfl (wm 1 16 rfl rfl) (wm 5 237 rfl rfl) (by decide) hR (by decide) (n := 0) rfl rfl (Nat.le_of_ble_eq_true rfl) hl.1 dX4_backToCaller_25 (fun μ10 ρ d0 H locs hp G => ?_)
  obtain ⟨F_11, hI_12, hp_13⟩ := hp
  have hn_14 : 0 ≤ μ10.1 52 7 ∧ μ10.1 52 7 ≤ 24 := hI_12.nm.2.2.2.2.1
  refine lv_aload_n hx hb dX4_backToCaller_28 rfl (lv_at hl 0 rfl) ?_
  refine lv_aload_n hx hb dX4_backToCaller_29 rfl (lv_at hl 0 rfl) ?_
  refine xa_getr G fd_X4 (a := 32) (x := 12) 0 rfl (by decide) rfl (wm 2 144 rfl rfl) ⟨rfl, rfl, rfl⟩ dX4_backToCaller_30 rfl (G.sk 33 rfl) (by decide) rfl ?_
  refine lv_aload_n hx hb dX4_backToCaller_33 rfl (lv_at hl 0 rfl) ?_
  refine xa_getr G fd_X4 (a := 32) (x := 52) 7 rfl (by decide) rfl (wm 2 151 rfl rfl) ⟨rfl, rfl, rfl⟩ dX4_backToCaller_34 rfl (G.sk 40 rfl) (by decide) rfl ?_
  refine xc_iV G (b := 52) (rest := [.ref (oP ω 12), .ref (oP ω 32)]) (As := []) (c_X2_tongue ω l μ10  hI_12) (wm 5 218 rfl rfl) (wm 5 219 rfl rfl) (wm 5 220 rfl rfl) rfl rfl (by decide) rfl (wm 1 16 rfl rfl) (wm 5 221 rfl rfl) (by decide) hR (by decide) (n := 0) rfl rfl (Nat.le_of_ble_eq_true rfl) hl.1 dX4_backToCaller_37 (fun r_16 μ15 ρ d0 H locs hr_r_16 hp G => ?_)
  have hr_r_16 : -2147483648 ≤ r_16 ∧ r_16 ≤ 2147483647 := hr_r_16
  obtain ⟨hsm_17, hp_18⟩ := hp
  have hsm_17 := Eq.symm hsm_17
  subst hsm_17
  have hof2 := ofF_at (μ := μ10) (b := 53) (k := n - 1) (by have h9 : μ10.1 52 7 = μ10.1 52 7 := rfl; omega) (by omega)
  have hrt9 : r_16 = μ.1 53 (n - 2) := by have h9 : μ10.1 53 (n - 2) = μ.1 53 (n - 2) := ((F_11.1 53 (by decide) (n - 2)).trans ((sv_n _ (fun h9 => absurd h9.1 (by decide))).trans (sv_n _ (fun h9 => absurd h9.1 (by decide))))); have h8 : n - 1 - 1 = n - 2 := (by omega); rw [h8] at hof2; omega
  refine lv_iconst (v := iv 3) hx hb dX4_backToCaller_40 rfl ?_
  refine lv_iand hx hb dX4_backToCaller_41 ?_
  refine xb_topi (fun y_19 hr_y_19 he_y_19 => ?_)
  have hr_y_19 : -2147483648 ≤ y_19 ∧ y_19 ≤ 2147483647 := hr_y_19
  have hm_y_19 := and_mask r_16 (k := 3) (by omega) he_y_19 hr_y_19
  have hm3_y_19 : 0 ≤ r_16 ∧ r_16 ≤ 3 → y_19 = r_16 := and3 he_y_19 hr_y_19
  refine xb_ti (y := r_16) (hm3_y_19 (by omega)) ?_
  obtain ⟨pd20, he_pd20, hd_pd20⟩ : ∃ z : Int, μ.1 12 r_16 = z ∧ isPr z := ⟨_, rfl, by have h9 := G.sr0.2.2.1 r_16; rw [show μ10.1 12 r_16 = μ.1 12 r_16 from ((F_11.1 12 (by decide) r_16).trans ((sv_n _ (fun h9 => absurd h9.1 (by decide))).trans (sv_n _ (fun h9 => absurd h9.1 (by decide)))))] at h9; exact h9⟩
  have hd_pd20_d : pd20 = 13 ∨ pd20 = 71 ∨ pd20 = 81 ∨ pd20 = 91 ∨ pd20 = 101 := hd_pd20
  refine xa_aald G (a := 12) (i := r_16) (b := pd20) rfl (by have h9 := G.lc (a := 12) (n := 4) 9 rfl; omega) (Eq.trans ((F_11.1 12 (by decide) r_16).trans ((sv_n _ (fun h9 => absurd h9.1 (by decide))).trans (sv_n _ (fun h9 => absurd h9.1 (by decide))))) he_pd20) (by omega) dX4_backToCaller_42 rfl (hd_pd20.hq ω ρ) ?_
  refine xa_putr G fd_X4 (a := 32) (x := pd20) 10 (kz := 10) rfl rfl (by decide) rfl hd_pd20 (Or.inr (Or.inl ⟨rfl, rfl⟩)) (wm 2 154 rfl rfl) ⟨rfl, rfl, rfl, rfl⟩ rfl dX4_backToCaller_43 rfl (hd_pd20.hq ω ρ) (fun H locs G => ?_)
  have hI_21 : IC (sv μ10 32 10 pd20) := (IC.put hI_12 (by decide +kernel))
  have e_22 : (sv μ10 32 10 pd20).1 52 7 = μ10.1 52 7 := (sv_n _ (fun h9 => absurd h9.1 (by decide)))
  have e_23 : (sv μ10 32 10 pd20).1 32 11 = r_5 := ((sv_n _ (by decide)).trans ((F_11.1 32 (by decide) 11).trans ((sv_n _ (by decide)).trans (sv_s _ _ _ _))))
  have e_24 : (sv μ10 32 10 pd20).1 32 12 = r_5 + 1 := ((sv_n _ (by decide)).trans ((F_11.1 32 (by decide) 12).trans (sv_s _ _ _ _)))
  have e_25 : (sv μ10 32 10 pd20).1 32 13 = μ.1 32 13 := ((sv_n _ (by decide)).trans ((F_11.1 32 (by decide) 13).trans ((sv_n _ (by decide)).trans (sv_n _ (by decide)))))
  have e_26 : (sv μ10 32 10 pd20).1 32 14 = μ.1 32 14 := ((sv_n _ (by decide)).trans ((F_11.1 32 (by decide) 14).trans ((sv_n _ (by decide)).trans (sv_n _ (by decide)))))
  have e_27 : (sv μ10 32 10 pd20).1 32 15 = μ.1 32 15 := ((sv_n _ (by decide)).trans ((F_11.1 32 (by decide) 15).trans ((sv_n _ (by decide)).trans (sv_n _ (by decide)))))
  have e_28 : (sv μ10 32 10 pd20).1 32 16 = μ.1 32 16 := ((sv_n _ (by decide)).trans ((F_11.1 32 (by decide) 16).trans ((sv_n _ (by decide)).trans (sv_n _ (by decide)))))
  exact xr_v G hret hlk dX4_backToCaller_46 ⟨(Fr.put (Fr.tr (Fr.put (Fr.put Fr.rf (by decide)) (by decide)) F_11 (by decide)) (by decide)), hI_21, (by omega), (by omega), (by have h9 : (sv μ10 32 10 pd20).1 32 10 = pd20 := (sv_s _ _ _ _); rw [h9, ← hrt9]; omega), (by omega), (by omega), (by omega), (by omega)⟩

set_option maxHeartbeats 4000000 in
set_option maxRecDepth 100000 in
theorem c_X4_turnFailure (ω : Om) (l : Launch) (μ : M3) (x1 : Int) (S : Int) (hx1 : ir x1) (hI : IC μ) (hS : S = μ.1 33 3) (hSb : S < 240099) (hst : 0 ≤ μ.1 70 2 ∧ μ.1 70 2 ≤ 5000 ∧ 0 ≤ μ.1 70 8 ∧ μ.1 70 8 ≤ 80000 ∧ μ.1 45 1 ≤ μ.1 70 2) (h0s : μ.1 32 13 = 0) : CtV ω l yX4_turnFailure cX4_turnFailure 8 5 172 [.ref (oP ω 32), .int (iv x1)] μ (fun (μ' : M3) => (Fr [70, 32, 45, 46, 47, 48, 49, 50, 33, 34, 35, 36] μ μ') ∧ (IC μ') ∧ ((μ'.1 33 3 = S + 1 ∧ μ'.1 32 13 = 0) ∨ (μ'.1 33 3 = S ∧ (μ'.1 32 13 = 1 ∨ μ'.1 32 13 = 2 ∨ μ'.1 32 13 = 4))) ∧ (μ.1 70 2 ≤ μ'.1 70 2 ∧ μ'.1 70 2 ≤ 5000 ∧ 0 ≤ μ'.1 70 8 ∧ μ'.1 70 8 ≤ 80000 ∧ μ'.1 45 1 ≤ μ'.1 70 2) ∧ (μ'.1 32 13 ≠ 2 ∨ ofF μ 53 = 1) ∧ (μ'.1 70 1 = μ.1 70 1) ∧ (μ'.1 70 3 = μ.1 70 3) ∧ (μ'.1 70 4 = μ.1 70 4) ∧ (μ'.1 70 5 = μ.1 70 5) ∧ (μ'.1 70 7 = μ.1 70 7) ∧ (μ'.1 32 10 = μ.1 32 10) ∧ (μ'.1 32 11 = μ.1 32 11) ∧ (μ'.1 32 12 = μ.1 32 12) ∧ (μ'.1 32 15 = μ.1 32 15) ∧ (μ'.1 32 16 = μ.1 32 16) ∧ (μ'.1 45 4 = μ.1 45 4)) := by
  refine CtV.go (by decide) (Nat.le_of_ble_eq_true rfl) (fun ρ p e s m below meth c R ls G hR hret hlk hl => ?_)
  have hx := G.1.1
  have hb := G.1.2.1
  have hl : lv_has ls 8 [(0, .ref (oP ω 32)), (1, .int (iv x1))] := hl
  generalize s.drawn = d0 at G ⊢
  have hr_x1 : -2147483648 ≤ x1 ∧ x1 ≤ 2147483647 := hx1
  have hk_1 := hI.row (r := 33) (by unfold isRow; decide)
  unfold rk at hk_1
  simp only [Int.reduceAdd] at hk_1
  have hbr_33 : BR 33 = 240100 := rfl
  have hk_2 := hI.row (r := 37) (by unfold isRow; decide)
  unfold rk at hk_2
  simp only [Int.reduceAdd] at hk_2
  have hbr_37 : BR 37 = 20410 := rfl
  refine lv_aload_n hx hb dX4_turnFailure_0 rfl (lv_at hl 0 rfl) ?_
  have hn_3 : 0 ≤ μ.1 45 1 ∧ 9 * μ.1 45 1 ≤ μ.2.1 46 := hI.nm.2.2.2.2.2.2.1
  refine xc_iV G (b := 32) (rest := []) (As := []) (c_X4_step ω l μ  hI (by omega)) (wm 6 2 rfl rfl) (wm 6 4 rfl rfl) (wm 0 75 rfl rfl) rfl rfl (by decide) rfl (wm 1 14 rfl rfl) (wm 6 5 rfl rfl) (by decide) hR (by decide) (n := 0) rfl rfl (Nat.le_of_ble_eq_true rfl) hl.1 dX4_turnFailure_1 (fun r_5 μ4 ρ d0 H locs hr_r_5 hp G => ?_)
  have hr_r_5 : -2147483648 ≤ r_5 ∧ r_5 ≤ 2147483647 := hr_r_5
  obtain ⟨F_6, hI_7, hp_8, hs_9, hs_10, hs_11, hs_12, hs_13, hs_14, hs_15, hs_16, hs_17, hs_18, hs_19, hs_20, hs_21⟩ := hp
  refine xb_if_ne (tgt := 8) hx hb (by unfold ir; omega) dX4_turnFailure_4 (by decide) (fun c_4 => ?_) (fun c_4 => ?_)
  · refine lv_aload_n hx hb dX4_turnFailure_8 rfl (lv_at hl 0 rfl) ?_
    refine xa_getr G fd_X4 (a := 32) (x := 70) 9 rfl (by decide) rfl (wm 2 153 rfl rfl) ⟨rfl, rfl, rfl⟩ dX4_turnFailure_9 rfl (G.sk 42 rfl) (by decide) rfl ?_
    refine lv_bipush (v := iv 6) hx hb dX4_turnFailure_12 rfl ?_
    refine lv_dup2_11 hx hb dX4_turnFailure_14 rfl rfl ?_
    refine xa_iald G (a := 70) (i := 6) rfl (by have h9 := G.lc (a := 70) (n := 10) 33 rfl; omega) dX4_turnFailure_15 rfl ?_
    refine xb_ti (y := μ.1 70 6) hs_13 ?_
    have hr_22 : -2147483648 ≤ μ.1 70 6 ∧ μ.1 70 6 ≤ 2147483647 := by have h9 := G.hr (a := 70) (k := 6) rfl; rw [hs_13] at h9; exact h9
    refine lv_iconst (v := iv 1) hx hb dX4_turnFailure_16 rfl ?_
    refine xb_iadd hx hb dX4_turnFailure_17 ?_
    refine xb_topi (fun y_23 hr_y_23 he_y_23 => ?_)
    have hr_y_23 : -2147483648 ≤ y_23 ∧ y_23 ≤ 2147483647 := hr_y_23
    refine xa_iast G (a := 70) (i := 6) (x := y_23) rfl (by have h9 := G.lc (a := 70) (n := 10) 33 rfl; omega) (by unfold ir; omega) dX4_turnFailure_18 rfl (fun H locs G => ?_)
    refine lv_aload_n hx hb dX4_turnFailure_19 rfl (lv_at hl 0 rfl) ?_
    refine xa_getr G fd_X4 (a := 32) (x := 45) 6 rfl (by decide) rfl (wm 2 150 rfl rfl) ⟨rfl, rfl, rfl⟩ dX4_turnFailure_20 rfl (G.sk 39 rfl) (by decide) rfl ?_
    refine lv_iload_n hx hb dX4_turnFailure_23 rfl (lv_at hl 1 rfl) ?_
    refine lv_iconst (v := iv 0) hx hb dX4_turnFailure_24 rfl ?_
    have hI_24 : IC (sv μ4 70 6 y_23) := (IC.pua hI_7 (by decide))
    have e_25 : (sv μ4 70 6 y_23).1 45 1 = μ.1 45 1 := ((sv_n _ (fun h9 => absurd h9.1 (by decide))).trans (F_6.1 45 (by decide) 1))
    have e_26 : (sv μ4 70 6 y_23).1 45 1 = μ.1 45 1 := ((sv_n _ (fun h9 => absurd h9.1 (by decide))).trans (F_6.1 45 (by decide) 1))
    have hn_27 : 0 ≤ μ.1 45 4 ∧ 2 * μ.1 45 4 ≤ μ.2.1 51 := hI.nm.2.2.2.2.2.2.2.1
    have e_28 : (sv μ4 70 6 y_23).1 45 4 = μ.1 45 4 := ((sv_n _ (fun h9 => absurd h9.1 (by decide))).trans (F_6.1 45 (by decide) 4))
    have e_29 : (sv μ4 70 6 y_23).1 45 4 = μ.1 45 4 := ((sv_n _ (fun h9 => absurd h9.1 (by decide))).trans (F_6.1 45 (by decide) 4))
    refine xc_iV G (b := 45) (rest := []) (As := [.int (iv x1), .int (iv 0)]) (c_X1_fact ω l (sv μ4 70 6 y_23) x1 0 (μ.1 45 1) (μ.1 45 4) (by unfold ir; omega) (by unfold ir; omega) hI_24 (by omega) (by omega)) (wm 5 168 rfl rfl) (wm 5 169 rfl rfl) (wm 5 170 rfl rfl) rfl rfl (by decide) rfl (wm 1 15 rfl rfl) (wm 5 171 rfl rfl) (by decide) hR (by decide) (n := 2) rfl rfl (Nat.le_of_ble_eq_true rfl) hl.1 dX4_turnFailure_25 (fun r_31 μ30 ρ d0 H locs hr_r_31 hp G => ?_)
    have hr_r_31 : -2147483648 ≤ r_31 ∧ r_31 ≤ 2147483647 := hr_r_31
    have hsm_32 := hp
    have hsm_32 := Eq.symm hsm_32
    subst hsm_32
    refine lv_istore_n (lv' := [(2, .int (iv r_31)), (0, .ref (oP ω 32)), (1, .int (iv x1))]) hx hb dX4_turnFailure_28 rfl hl (by decide) rfl (fun ls hl => ?_)
    refine lv_aload_n hx hb dX4_turnFailure_29 rfl (lv_at hl 1 rfl) ?_
    refine xa_getr G fd_X4 (a := 32) (x := 52) 7 rfl (by decide) rfl (wm 2 151 rfl rfl) ⟨rfl, rfl, rfl⟩ dX4_turnFailure_30 rfl (G.sk 40 rfl) (by decide) rfl ?_
    have e_33 : ofF (sv μ4 70 6 y_23) 53 = ofF μ 53 := ((ofF_sv μ4 (by decide) (by decide)).trans (ofF_fr F_6 (by decide) (by decide)))
    refine xc_iV G (b := 52) (rest := []) (As := []) (c_X2_tongue ω l (sv μ4 70 6 y_23)  hI_24) (wm 5 218 rfl rfl) (wm 5 219 rfl rfl) (wm 5 220 rfl rfl) rfl rfl (by decide) rfl (wm 1 16 rfl rfl) (wm 5 221 rfl rfl) (by decide) hR (by decide) (n := 0) rfl rfl (Nat.le_of_ble_eq_true rfl) hl.1 dX4_turnFailure_33 (fun r_35 μ34 ρ d0 H locs hr_r_35 hp G => ?_)
    have hr_r_35 : -2147483648 ≤ r_35 ∧ r_35 ≤ 2147483647 := hr_r_35
    obtain ⟨hsm_36, hp_37⟩ := hp
    have hsm_36 := Eq.symm hsm_36
    subst hsm_36
    refine lv_istore_n (lv' := [(3, .int (iv r_35)), (2, .int (iv r_31)), (0, .ref (oP ω 32)), (1, .int (iv x1))]) hx hb dX4_turnFailure_36 rfl hl (by decide) rfl (fun ls hl => ?_)
    refine lv_aload_n hx hb dX4_turnFailure_37 rfl (lv_at hl 2 rfl) ?_
    refine xa_getr G fd_X4 (a := 32) (x := 6) 2 rfl (by decide) rfl (wm 2 146 rfl rfl) ⟨rfl, rfl, rfl⟩ dX4_turnFailure_38 rfl (G.sk 35 rfl) (by decide) rfl ?_
    refine lv_iload_n hx hb dX4_turnFailure_41 rfl (lv_at hl 1 rfl) ?_
    refine lv_iload_n hx hb dX4_turnFailure_42 rfl (lv_at hl 0 rfl) ?_
    refine lv_aload_n hx hb dX4_turnFailure_43 rfl (lv_at hl 2 rfl) ?_
    refine xa_getr G fd_X4 (a := 32) (x := 45) 6 rfl (by decide) rfl (wm 2 150 rfl rfl) ⟨rfl, rfl, rfl⟩ dX4_turnFailure_44 rfl (G.sk 39 rfl) (by decide) rfl ?_
    refine lv_iload_n hx hb dX4_turnFailure_47 rfl (lv_at hl 3 rfl) ?_
    refine lv_iconst (v := iv 1) hx hb dX4_turnFailure_48 rfl ?_
    have e_38 : (sv μ4 70 6 y_23).1 45 1 = μ.1 45 1 := ((sv_n _ (fun h9 => absurd h9.1 (by decide))).trans (F_6.1 45 (by decide) 1))
    have e_39 : (sv μ4 70 6 y_23).1 45 1 = μ.1 45 1 := ((sv_n _ (fun h9 => absurd h9.1 (by decide))).trans (F_6.1 45 (by decide) 1))
    have e_40 : (sv μ4 70 6 y_23).1 45 4 = μ.1 45 4 := ((sv_n _ (fun h9 => absurd h9.1 (by decide))).trans (F_6.1 45 (by decide) 4))
    have e_41 : (sv μ4 70 6 y_23).1 45 4 = μ.1 45 4 := ((sv_n _ (fun h9 => absurd h9.1 (by decide))).trans (F_6.1 45 (by decide) 4))
    refine xc_iV G (b := 45) (rest := [.int (iv r_35), .int (iv r_31), .ref (oP ω 6)]) (As := [.int (iv x1), .int (iv 1)]) (c_X1_fact ω l (sv μ4 70 6 y_23) x1 1 (μ.1 45 1) (μ.1 45 4) (by unfold ir; omega) (by unfold ir; omega) hI_24 (by omega) (by omega)) (wm 5 168 rfl rfl) (wm 5 169 rfl rfl) (wm 5 170 rfl rfl) rfl rfl (by decide) rfl (wm 1 15 rfl rfl) (wm 5 171 rfl rfl) (by decide) hR (by decide) (n := 2) rfl rfl (Nat.le_of_ble_eq_true rfl) hl.1 dX4_turnFailure_49 (fun r_43 μ42 ρ d0 H locs hr_r_43 hp G => ?_)
    have hr_r_43 : -2147483648 ≤ r_43 ∧ r_43 ≤ 2147483647 := hr_r_43
    have hsm_44 := hp
    have hsm_44 := Eq.symm hsm_44
    subst hsm_44
    refine lv_aload_n hx hb dX4_turnFailure_52 rfl (lv_at hl 2 rfl) ?_
    refine xa_getr G fd_X4 (a := 32) (x := 2) 1 rfl (by decide) rfl (wm 2 145 rfl rfl) ⟨rfl, rfl, rfl⟩ dX4_turnFailure_53 rfl (G.sk 34 rfl) (by decide) rfl ?_
    refine xc_iV G (b := 6) (rest := []) (As := [.int (iv r_31), .int (iv r_35), .int (iv r_43), .ref (oP ω 2)]) (c_X0_entryFor ω l (sv μ4 70 6 y_23) r_31 r_35 r_43 (by unfold ir; omega) (by unfold ir; omega) (by unfold ir; omega) hI_24) (wm 6 7 rfl rfl) (wm 6 8 rfl rfl) (wm 6 9 rfl rfl) rfl rfl (by decide) rfl (wm 1 7 rfl rfl) (wm 6 10 rfl rfl) (by decide) hR (by decide) (n := 4) rfl rfl (Nat.le_of_ble_eq_true rfl) hl.1 dX4_turnFailure_56 (fun r_46 μ45 ρ d0 H locs hr_r_46 hp G => ?_)
    have hr_r_46 : -2147483648 ≤ r_46 ∧ r_46 ≤ 2147483647 := hr_r_46
    have hsm_47 := hp
    have hsm_47 := Eq.symm hsm_47
    subst hsm_47
    refine lv_istore (lv' := [(4, .int (iv r_46)), (3, .int (iv r_35)), (2, .int (iv r_31)), (0, .ref (oP ω 32)), (1, .int (iv x1))]) hx hb dX4_turnFailure_59 hl (by decide) rfl (fun ls hl => ?_)
    refine lv_aload_n hx hb dX4_turnFailure_61 rfl (lv_at hl 3 rfl) ?_
    refine xa_getr G fd_X4 (a := 32) (x := 6) 2 rfl (by decide) rfl (wm 2 146 rfl rfl) ⟨rfl, rfl, rfl⟩ dX4_turnFailure_62 rfl (G.sk 35 rfl) (by decide) rfl ?_
    refine lv_iload_n hx hb dX4_turnFailure_65 rfl (lv_at hl 2 rfl) ?_
    refine lv_iload_n hx hb dX4_turnFailure_66 rfl (lv_at hl 1 rfl) ?_
    refine lv_iload hx hb dX4_turnFailure_67 (lv_at hl 0 rfl) ?_
    refine xc_iV G (b := 6) (rest := []) (As := [.int (iv r_31), .int (iv r_35), .int (iv r_46)]) (c_X0_becomes ω l (sv μ4 70 6 y_23) r_31 r_35 r_46 (by unfold ir; omega) (by unfold ir; omega) (by unfold ir; omega) hI_24) (wm 6 12 rfl rfl) (wm 6 13 rfl rfl) (wm 6 14 rfl rfl) rfl rfl (by decide) rfl (wm 1 7 rfl rfl) (wm 6 15 rfl rfl) (by decide) hR (by decide) (n := 3) rfl rfl (Nat.le_of_ble_eq_true rfl) hl.1 dX4_turnFailure_69 (fun r_49 μ48 ρ d0 H locs hr_r_49 hp G => ?_)
    have hr_r_49 : -2147483648 ≤ r_49 ∧ r_49 ≤ 2147483647 := hr_r_49
    have hsm_50 := hp
    have hsm_50 := Eq.symm hsm_50
    subst hsm_50
    refine lv_istore (lv' := [(5, .int (iv r_49)), (4, .int (iv r_46)), (3, .int (iv r_35)), (2, .int (iv r_31)), (0, .ref (oP ω 32)), (1, .int (iv x1))]) hx hb dX4_turnFailure_72 hl (by decide) rfl (fun ls hl => ?_)
    refine lv_aload_n hx hb dX4_turnFailure_74 rfl (lv_at hl 4 rfl) ?_
    refine xa_getr G fd_X4 (a := 32) (x := 45) 6 rfl (by decide) rfl (wm 2 150 rfl rfl) ⟨rfl, rfl, rfl⟩ dX4_turnFailure_75 rfl (G.sk 39 rfl) (by decide) rfl ?_
    refine lv_iload_n hx hb dX4_turnFailure_78 rfl (lv_at hl 2 rfl) ?_
    refine lv_iload hx hb dX4_turnFailure_79 (lv_at hl 0 rfl) ?_
    refine lv_aload_n hx hb dX4_turnFailure_81 rfl (lv_at hl 4 rfl) ?_
    obtain ⟨pd51, he_pd51, hd_pd51⟩ : ∃ z : Int, μ.1 32 10 = z ∧ isPr z := ⟨_, rfl, by have h9 := G.sr0.2.2.2.2.1; rw [show (sv μ4 70 6 y_23).1 32 10 = μ.1 32 10 from ((sv_n _ (fun h9 => absurd h9.1 (by decide))).trans hs_16)] at h9; exact h9⟩
    have hd_pd51_d : pd51 = 13 ∨ pd51 = 71 ∨ pd51 = 81 ∨ pd51 = 91 ∨ pd51 = 101 := hd_pd51
    refine xa_getr G fd_X4 (a := 32) (x := pd51) 10 rfl (by decide) rfl (wm 2 154 rfl rfl) ⟨rfl, rfl, rfl⟩ dX4_turnFailure_82 rfl (Eq.trans ((sv_n _ (fun h9 => absurd h9.1 (by decide))).trans hs_16) he_pd51) (by omega) (hd_pd51.hq ω ρ) ?_
    refine lv_aload_n hx hb dX4_turnFailure_85 rfl (lv_at hl 4 rfl) ?_
    refine xa_geti G fd_X4 (a := 32) (x := μ.1 32 11) 11 rfl (by decide) rfl (wm 2 155 rfl rfl) ⟨rfl, rfl, rfl⟩ dX4_turnFailure_86 rfl ((sv_n _ (fun h9 => absurd h9.1 (by decide))).trans hs_17) ?_
    have hr_52 : -2147483648 ≤ μ.1 32 11 ∧ μ.1 32 11 ≤ 2147483647 := by have h9 := G.hr (a := 32) (k := 11) rfl; rw [show (sv μ4 70 6 y_23).1 32 11 = μ.1 32 11 from ((sv_n _ (fun h9 => absurd h9.1 (by decide))).trans hs_17)] at h9; exact h9
    have e_53 : (sv μ4 70 6 y_23).1 32 11 = μ.1 32 11 := ((sv_n _ (fun h9 => absurd h9.1 (by decide))).trans hs_17)
    refine xc_iV G (b := pd51) (rest := [.int (iv r_49), .int (iv r_35), .ref (oP ω 45)]) (As := [.int (iv (μ.1 32 11))]) (c_X8_place ω l (sv μ4 70 6 y_23) pd51 (μ.1 32 11) hd_pd51 (by unfold ir; omega) hI_24) (wm 6 16 rfl rfl) (wm 6 17 rfl rfl) (wm 6 18 rfl rfl) hd_pd51.ly rfl (by decide) (hd_pd51.hq ω ρ) (wm 1 9 rfl rfl) (wm 6 19 rfl rfl) (by decide) hR (by decide) (n := 1) rfl rfl (Nat.le_of_ble_eq_true rfl) hl.1 dX4_turnFailure_89 (fun r_55 μ54 ρ d0 H locs hr_r_55 hp G => ?_)
    have hr_r_55 : -2147483648 ≤ r_55 ∧ r_55 ≤ 2147483647 := hr_r_55
    obtain ⟨hsm_56, hp_57⟩ := hp
    have hsm_56 := Eq.symm hsm_56
    subst hsm_56
    refine lv_iload hx hb dX4_turnFailure_92 (lv_at hl 1 rfl) ?_
    refine xb_if_lt (tgt := 101) hx hb (by unfold ir; omega) dX4_turnFailure_94 (by decide) (fun c_94 => ?_) (fun c_94 => ?_)
    · refine lv_iconst (v := iv 2) hx hb dX4_turnFailure_101 rfl ?_
      refine lv_aload_n hx hb dX4_turnFailure_102 rfl (lv_at hl 4 rfl) ?_
      refine xa_getr G fd_X4 (a := 32) (x := 52) 7 rfl (by decide) rfl (wm 2 151 rfl rfl) ⟨rfl, rfl, rfl⟩ dX4_turnFailure_103 rfl (G.sk 40 rfl) (by decide) rfl ?_
      have e_58 : ofF (sv μ4 70 6 y_23) 54 = ofF μ 54 := ((ofF_sv μ4 (by decide) (by decide)).trans (ofF_fr F_6 (by decide) (by decide)))
      refine xc_iV G (b := 52) (rest := [.int (iv 2), .int (iv r_55), .int (iv r_49), .int (iv r_35), .ref (oP ω 45)]) (As := []) (c_X2_function ω l (sv μ4 70 6 y_23)  hI_24) (wm 6 20 rfl rfl) (wm 6 21 rfl rfl) (wm 6 22 rfl rfl) rfl rfl (by decide) rfl (wm 1 16 rfl rfl) (wm 6 23 rfl rfl) (by decide) hR (by decide) (n := 0) rfl rfl (Nat.le_of_ble_eq_true rfl) hl.1 dX4_turnFailure_106 (fun r_60 μ59 ρ d0 H locs hr_r_60 hp G => ?_)
      have hr_r_60 : -2147483648 ≤ r_60 ∧ r_60 ≤ 2147483647 := hr_r_60
      obtain ⟨hsm_61, hp_62⟩ := hp
      have hsm_61 := Eq.symm hsm_61
      subst hsm_61
      refine lv_iload_n hx hb dX4_turnFailure_109 rfl (lv_at hl 5 rfl) ?_
      have e_63 : (sv μ4 70 6 y_23).1 45 1 = μ.1 45 1 := ((sv_n _ (fun h9 => absurd h9.1 (by decide))).trans (F_6.1 45 (by decide) 1))
      have e_64 : (sv μ4 70 6 y_23).1 45 1 = μ.1 45 1 := ((sv_n _ (fun h9 => absurd h9.1 (by decide))).trans (F_6.1 45 (by decide) 1))
      have e_65 : (sv μ4 70 6 y_23).1 45 4 = μ.1 45 4 := ((sv_n _ (fun h9 => absurd h9.1 (by decide))).trans (F_6.1 45 (by decide) 4))
      have e_66 : (sv μ4 70 6 y_23).1 45 4 = μ.1 45 4 := ((sv_n _ (fun h9 => absurd h9.1 (by decide))).trans (F_6.1 45 (by decide) 4))
      have e_67 : (sv μ4 70 6 y_23).1 45 1 = μ.1 45 1 := ((sv_n _ (fun h9 => absurd h9.1 (by decide))).trans (F_6.1 45 (by decide) 1))
      have e_68 : (sv μ4 70 6 y_23).1 45 1 = μ.1 45 1 := ((sv_n _ (fun h9 => absurd h9.1 (by decide))).trans (F_6.1 45 (by decide) 1))
      have e_69 : (sv μ4 70 6 y_23).1 45 1 = μ.1 45 1 := ((sv_n _ (fun h9 => absurd h9.1 (by decide))).trans (F_6.1 45 (by decide) 1))
      have e_70 : (sv μ4 70 6 y_23).1 45 4 = μ.1 45 4 := ((sv_n _ (fun h9 => absurd h9.1 (by decide))).trans (F_6.1 45 (by decide) 4))
      have e_71 : (sv μ4 70 6 y_23).1 45 4 = μ.1 45 4 := ((sv_n _ (fun h9 => absurd h9.1 (by decide))).trans (F_6.1 45 (by decide) 4))
      refine xc_iV G (b := 45) (rest := []) (As := [.int (iv r_35), .int (iv r_49), .int (iv r_55), .int (iv 2), .int (iv r_60), .int (iv x1)]) (c_X1_add ω l (sv μ4 70 6 y_23) r_35 r_49 r_55 2 r_60 x1 (μ.1 45 1) (μ.1 45 4) (by unfold ir; omega) (by unfold ir; omega) (by unfold ir; omega) (by unfold ir; omega) (by unfold ir; omega) (by unfold ir; omega) hI_24 (by omega) (by omega) (by omega)) (wm 6 24 rfl rfl) (wm 6 25 rfl rfl) (wm 6 26 rfl rfl) rfl rfl (by decide) rfl (wm 1 15 rfl rfl) (wm 6 27 rfl rfl) (by decide) hR (by decide) (n := 6) rfl rfl (Nat.le_of_ble_eq_true rfl) hl.1 dX4_turnFailure_110 (fun r_73 μ72 ρ d0 H locs hr_r_73 hp G => ?_)
      have hr_r_73 : -2147483648 ≤ r_73 ∧ r_73 ≤ 2147483647 := hr_r_73
      obtain ⟨F_74, hI_75, hp_76, hp_77, hp_78, hs_79⟩ := hp
      have hn_80 : 0 ≤ μ72.1 45 1 ∧ 9 * μ72.1 45 1 ≤ μ72.2.1 46 := hI_75.nm.2.2.2.2.2.2.1
      have hn_81 : 0 ≤ μ72.1 45 4 ∧ 2 * μ72.1 45 4 ≤ μ72.2.1 51 := hI_75.nm.2.2.2.2.2.2.2.1
      refine lv_istore (lv' := [(6, .int (iv r_73)), (5, .int (iv r_49)), (4, .int (iv r_46)), (3, .int (iv r_35)), (2, .int (iv r_31)), (0, .ref (oP ω 32)), (1, .int (iv x1))]) hx hb dX4_turnFailure_113 hl (by decide) rfl (fun ls hl => ?_)
      refine lv_aload_n hx hb dX4_turnFailure_115 rfl (lv_at hl 5 rfl) ?_
      refine xa_getr G fd_X4 (a := 32) (x := 45) 6 rfl (by decide) rfl (wm 2 150 rfl rfl) ⟨rfl, rfl, rfl⟩ dX4_turnFailure_116 rfl (G.sk 39 rfl) (by decide) rfl ?_
      refine xc_rV G (b := 45) (rest := []) (As := []) (c_X1_values ω l μ72  hI_75) (wm 5 196 rfl rfl) (wm 5 197 rfl rfl) (wm 5 198 rfl rfl) rfl rfl (by decide) rfl (wm 1 15 rfl rfl) (wm 5 199 rfl rfl) (by decide) hR (by decide) (n := 0) rfl rfl (Nat.le_of_ble_eq_true rfl) hl.1 dX4_turnFailure_119 (fun r_83 μ82 ρ d0 H locs hp G => ?_)
      obtain ⟨hsm_84, hp_85⟩ := hp
      have hsm_84 := Eq.symm hsm_84
      subst hsm_84
      subst hp_85
      refine lv_astore (lv' := [(7, .ref (oP ω 47)), (6, .int (iv r_73)), (5, .int (iv r_49)), (4, .int (iv r_46)), (3, .int (iv r_35)), (2, .int (iv r_31)), (0, .ref (oP ω 32)), (1, .int (iv x1))]) hx hb dX4_turnFailure_122 hl (by decide) rfl (fun ls hl => ?_)
      refine lv_aload hx hb dX4_turnFailure_124 (lv_at hl 0 rfl) ?_
      refine lv_iload hx hb dX4_turnFailure_126 (lv_at hl 1 rfl) ?_
      refine lv_aload hx hb dX4_turnFailure_128 (lv_at hl 0 rfl) ?_
      refine lv_iload_n hx hb dX4_turnFailure_130 rfl (lv_at hl 7 rfl) ?_
      refine xc_vV G (b := 47) (rest := []) (As := [.int (iv r_73), .ref (oP ω 47), .int (iv x1)]) (c_X9_copy ω l μ72 47 r_73 47 x1 (by unfold isRow; decide) (by unfold ir; omega) (by unfold isRow; decide) (by unfold ir; omega) hI_75) (wm 6 28 rfl rfl) (wm 6 29 rfl rfl) (wm 6 30 rfl rfl) rfl rfl (by decide) rfl (wm 1 10 rfl rfl) (wm 6 31 rfl rfl) (by decide) hR (by decide) (n := 3) rfl rfl (Nat.le_of_ble_eq_true rfl) hl.1 dX4_turnFailure_131 (fun μ86 ρ d0 H locs hp G => ?_)
      obtain ⟨F_87, hI_88, hp_89⟩ := hp
      refine lv_aload_n hx hb dX4_turnFailure_134 rfl (lv_at hl 6 rfl) ?_
      refine xa_getr G fd_X4 (a := 32) (x := 6) 2 rfl (by decide) rfl (wm 2 146 rfl rfl) ⟨rfl, rfl, rfl⟩ dX4_turnFailure_135 rfl (G.sk 35 rfl) (by decide) rfl ?_
      refine lv_aload hx hb dX4_turnFailure_138 (lv_at hl 0 rfl) ?_
      refine lv_iload hx hb dX4_turnFailure_140 (lv_at hl 1 rfl) ?_
      refine lv_iload_n hx hb dX4_turnFailure_142 rfl (lv_at hl 5 rfl) ?_
      refine lv_iload_n hx hb dX4_turnFailure_143 rfl (lv_at hl 4 rfl) ?_
      have hk_90 := hI_75.row (r := 47) (by unfold isRow; decide)
      unfold rk at hk_90
      simp only [Int.reduceAdd] at hk_90
      have hbr_47 : BR 47 = 5010 := rfl
      have e_91 : μ86.1 47 3 = μ72.1 47 3 := (F_87.1 47 (by decide) 3)
      refine xc_iV G (b := 6) (rest := []) (As := [.ref (oP ω 47), .int (iv r_73), .int (iv r_31), .int (iv r_35)]) (c_X0_turn ω l μ86 47 r_73 r_31 r_35 (by unfold isRow; decide) (by unfold ir; omega) (by unfold ir; omega) (by unfold ir; omega) hI_88) (wm 6 32 rfl rfl) (wm 6 33 rfl rfl) (wm 6 34 rfl rfl) rfl rfl (by decide) rfl (wm 1 7 rfl rfl) (wm 6 35 rfl rfl) (by decide) hR (by decide) (n := 4) rfl rfl (Nat.le_of_ble_eq_true rfl) hl.1 dX4_turnFailure_144 (fun r_93 μ92 ρ d0 H locs hr_r_93 hp G => ?_)
      have hr_r_93 : -2147483648 ≤ r_93 ∧ r_93 ≤ 2147483647 := hr_r_93
      obtain ⟨F_94, hI_95, hp_96, hp_97, hs_98⟩ := hp
      refine xb_if_ne (tgt := 160) hx hb (by unfold ir; omega) dX4_turnFailure_147 (by decide) (fun c_147 => ?_) (fun c_147 => ?_)
      · refine lv_aload_n hx hb dX4_turnFailure_160 rfl (lv_at hl 6 rfl) ?_
        refine lv_iload hx hb dX4_turnFailure_161 (lv_at hl 1 rfl) ?_
        have e_99 : μ92.1 33 3 = S := ((F_94.1 33 (by decide) 3).trans ((F_87.1 33 (by decide) 3).trans ((F_74.1 33 (by decide) 3).trans ((sv_n _ (fun h9 => absurd h9.1 (by decide))).trans ((F_6.1 33 (by decide) 3).trans hS.symm)))))
        have e_100 : μ92.1 32 13 = μ4.1 32 13 := ((F_94.1 32 (by decide) 13).trans ((F_87.1 32 (by decide) 13).trans ((F_74.1 32 (by decide) 13).trans (sv_n _ (fun h9 => absurd h9.1 (by decide))))))
        have e_101 : ofF μ92 53 = ofF μ 53 := ((ofF_fr F_94 (by decide) (by decide)).trans ((ofF_fr F_87 (by decide) (by decide)).trans ((ofF_fr F_74 (by decide) (by decide)).trans ((ofF_sv μ4 (by decide) (by decide)).trans (ofF_fr F_6 (by decide) (by decide))))))
        have e_102 : ofF μ92 53 = ofF μ 53 := ((ofF_fr F_94 (by decide) (by decide)).trans ((ofF_fr F_87 (by decide) (by decide)).trans ((ofF_fr F_74 (by decide) (by decide)).trans ((ofF_sv μ4 (by decide) (by decide)).trans (ofF_fr F_6 (by decide) (by decide))))))
        have e_103 : μ92.1 32 10 = μ.1 32 10 := ((F_94.1 32 (by decide) 10).trans ((F_87.1 32 (by decide) 10).trans ((F_74.1 32 (by decide) 10).trans ((sv_n _ (fun h9 => absurd h9.1 (by decide))).trans hs_16))))
        have e_104 : μ92.1 32 11 = μ.1 32 11 := ((F_94.1 32 (by decide) 11).trans ((F_87.1 32 (by decide) 11).trans ((F_74.1 32 (by decide) 11).trans ((sv_n _ (fun h9 => absurd h9.1 (by decide))).trans hs_17))))
        have e_105 : μ92.1 32 12 = μ.1 32 12 := ((F_94.1 32 (by decide) 12).trans ((F_87.1 32 (by decide) 12).trans ((F_74.1 32 (by decide) 12).trans ((sv_n _ (fun h9 => absurd h9.1 (by decide))).trans hs_18))))
        have e_106 : μ92.1 32 15 = μ.1 32 15 := ((F_94.1 32 (by decide) 15).trans ((F_87.1 32 (by decide) 15).trans ((F_74.1 32 (by decide) 15).trans ((sv_n _ (fun h9 => absurd h9.1 (by decide))).trans hs_20))))
        have e_107 : μ92.1 32 16 = μ.1 32 16 := ((F_94.1 32 (by decide) 16).trans ((F_87.1 32 (by decide) 16).trans ((F_74.1 32 (by decide) 16).trans ((sv_n _ (fun h9 => absurd h9.1 (by decide))).trans hs_21))))
        have e_108 : μ92.1 70 0 = μ4.1 70 0 := ((F_94.1 70 (by decide) 0).trans ((F_87.1 70 (by decide) 0).trans ((F_74.1 70 (by decide) 0).trans (sv_n _ (by decide)))))
        have e_109 : μ92.1 70 1 = μ.1 70 1 := ((F_94.1 70 (by decide) 1).trans ((F_87.1 70 (by decide) 1).trans ((F_74.1 70 (by decide) 1).trans ((sv_n _ (by decide)).trans hs_9))))
        have e_110 : μ92.1 70 2 = μ4.1 70 2 := ((F_94.1 70 (by decide) 2).trans ((F_87.1 70 (by decide) 2).trans ((F_74.1 70 (by decide) 2).trans (sv_n _ (by decide)))))
        have e_111 : μ92.1 70 3 = μ.1 70 3 := ((F_94.1 70 (by decide) 3).trans ((F_87.1 70 (by decide) 3).trans ((F_74.1 70 (by decide) 3).trans ((sv_n _ (by decide)).trans hs_10))))
        have e_112 : μ92.1 70 4 = μ.1 70 4 := ((F_94.1 70 (by decide) 4).trans ((F_87.1 70 (by decide) 4).trans ((F_74.1 70 (by decide) 4).trans ((sv_n _ (by decide)).trans hs_11))))
        have e_113 : μ92.1 70 5 = μ.1 70 5 := ((F_94.1 70 (by decide) 5).trans ((F_87.1 70 (by decide) 5).trans ((F_74.1 70 (by decide) 5).trans ((sv_n _ (by decide)).trans hs_12))))
        have e_114 : μ92.1 70 6 = y_23 := ((F_94.1 70 (by decide) 6).trans ((F_87.1 70 (by decide) 6).trans ((F_74.1 70 (by decide) 6).trans (sv_s _ _ _ _))))
        have e_115 : μ92.1 70 7 = μ.1 70 7 := ((F_94.1 70 (by decide) 7).trans ((F_87.1 70 (by decide) 7).trans ((F_74.1 70 (by decide) 7).trans ((sv_n _ (by decide)).trans hs_14))))
        have e_116 : μ92.1 70 8 = μ4.1 70 8 := ((F_94.1 70 (by decide) 8).trans ((F_87.1 70 (by decide) 8).trans ((F_74.1 70 (by decide) 8).trans (sv_n _ (by decide)))))
        refine xc_vV G (b := 32) (rest := []) (As := [.int (iv r_73)]) (c_X4_give ω l μ92 r_73 S (by unfold ir; omega) hI_95 (by omega) (by omega)) (wm 6 61 rfl rfl) (wm 6 63 rfl rfl) (wm 0 77 rfl rfl) rfl rfl (by decide) rfl (wm 1 14 rfl rfl) (wm 6 64 rfl rfl) (by decide) hR (by decide) (n := 1) rfl rfl (Nat.le_of_ble_eq_true rfl) hl.1 dX4_turnFailure_163 (fun μ117 ρ d0 H locs hp G => ?_)
        obtain ⟨F_118, hI_119, hp_120, hs_121, hs_122, hs_123, hs_124, hs_125, hs_126, hs_127, hs_128, hs_129, hs_130, hs_131, hs_132, hs_133, hs_134⟩ := hp
        have hk_135 := hI_119.row (r := 33) (by unfold isRow; decide)
        unfold rk at hk_135
        simp only [Int.reduceAdd] at hk_135
        refine lv_iload_n hx hb dX4_turnFailure_166 rfl (lv_at hl 4 rfl) ?_
        refine lv_iconst (v := iv 1) hx hb dX4_turnFailure_167 rfl ?_
        refine xb_icmp_ne (tgt := 176) hx hb (by unfold ir; omega) (by unfold ir; omega) dX4_turnFailure_168 (by decide) (fun c_168 => ?_) (fun c_168 => ?_)
        · have e_136 : μ117.1 70 2 = μ4.1 70 2 := (hs_128.trans ((F_94.1 70 (by decide) 2).trans ((F_87.1 70 (by decide) 2).trans ((F_74.1 70 (by decide) 2).trans (sv_n _ (by decide))))))
          have e_137 : μ117.1 70 2 = μ4.1 70 2 := (hs_128.trans ((F_94.1 70 (by decide) 2).trans ((F_87.1 70 (by decide) 2).trans ((F_74.1 70 (by decide) 2).trans (sv_n _ (by decide))))))
          have e_138 : μ117.1 70 8 = μ4.1 70 8 := (hs_134.trans ((F_94.1 70 (by decide) 8).trans ((F_87.1 70 (by decide) 8).trans ((F_74.1 70 (by decide) 8).trans (sv_n _ (by decide))))))
          have e_139 : μ117.1 70 8 = μ4.1 70 8 := (hs_134.trans ((F_94.1 70 (by decide) 8).trans ((F_87.1 70 (by decide) 8).trans ((F_74.1 70 (by decide) 8).trans (sv_n _ (by decide))))))
          have e_140 : μ117.1 45 1 = μ72.1 45 1 := ((F_118.1 45 (by decide) 1).trans ((F_94.1 45 (by decide) 1).trans (F_87.1 45 (by decide) 1)))
          have e_141 : μ117.1 70 2 = μ4.1 70 2 := (hs_128.trans ((F_94.1 70 (by decide) 2).trans ((F_87.1 70 (by decide) 2).trans ((F_74.1 70 (by decide) 2).trans (sv_n _ (by decide))))))
          have e_142 : μ117.1 70 1 = μ.1 70 1 := (hs_127.trans ((F_94.1 70 (by decide) 1).trans ((F_87.1 70 (by decide) 1).trans ((F_74.1 70 (by decide) 1).trans ((sv_n _ (by decide)).trans hs_9)))))
          have e_143 : μ117.1 70 3 = μ.1 70 3 := (hs_129.trans ((F_94.1 70 (by decide) 3).trans ((F_87.1 70 (by decide) 3).trans ((F_74.1 70 (by decide) 3).trans ((sv_n _ (by decide)).trans hs_10)))))
          have e_144 : μ117.1 70 4 = μ.1 70 4 := (hs_130.trans ((F_94.1 70 (by decide) 4).trans ((F_87.1 70 (by decide) 4).trans ((F_74.1 70 (by decide) 4).trans ((sv_n _ (by decide)).trans hs_11)))))
          have e_145 : μ117.1 70 5 = μ.1 70 5 := (hs_131.trans ((F_94.1 70 (by decide) 5).trans ((F_87.1 70 (by decide) 5).trans ((F_74.1 70 (by decide) 5).trans ((sv_n _ (by decide)).trans hs_12)))))
          have e_146 : μ117.1 70 7 = μ.1 70 7 := (hs_133.trans ((F_94.1 70 (by decide) 7).trans ((F_87.1 70 (by decide) 7).trans ((F_74.1 70 (by decide) 7).trans ((sv_n _ (by decide)).trans hs_14)))))
          have e_147 : μ117.1 32 10 = μ.1 32 10 := (hs_121.trans ((F_94.1 32 (by decide) 10).trans ((F_87.1 32 (by decide) 10).trans ((F_74.1 32 (by decide) 10).trans ((sv_n _ (fun h9 => absurd h9.1 (by decide))).trans hs_16)))))
          have e_148 : μ117.1 32 11 = μ.1 32 11 := (hs_122.trans ((F_94.1 32 (by decide) 11).trans ((F_87.1 32 (by decide) 11).trans ((F_74.1 32 (by decide) 11).trans ((sv_n _ (fun h9 => absurd h9.1 (by decide))).trans hs_17)))))
          have e_149 : μ117.1 32 12 = μ.1 32 12 := (hs_123.trans ((F_94.1 32 (by decide) 12).trans ((F_87.1 32 (by decide) 12).trans ((F_74.1 32 (by decide) 12).trans ((sv_n _ (fun h9 => absurd h9.1 (by decide))).trans hs_18)))))
          have e_150 : μ117.1 32 15 = μ.1 32 15 := (hs_124.trans ((F_94.1 32 (by decide) 15).trans ((F_87.1 32 (by decide) 15).trans ((F_74.1 32 (by decide) 15).trans ((sv_n _ (fun h9 => absurd h9.1 (by decide))).trans hs_20)))))
          have e_151 : μ117.1 32 16 = μ.1 32 16 := (hs_125.trans ((F_94.1 32 (by decide) 16).trans ((F_87.1 32 (by decide) 16).trans ((F_74.1 32 (by decide) 16).trans ((sv_n _ (fun h9 => absurd h9.1 (by decide))).trans hs_21)))))
          have e_152 : μ117.1 45 4 = μ.1 45 4 := ((F_118.1 45 (by decide) 4).trans ((F_94.1 45 (by decide) 4).trans ((F_87.1 45 (by decide) 4).trans (hs_79.trans ((sv_n _ (fun h9 => absurd h9.1 (by decide))).trans (F_6.1 45 (by decide) 4))))))
          exact xr_v G hret hlk dX4_turnFailure_176 ⟨(Fr.tr (Fr.tr (Fr.tr (Fr.tr (Fr.put (Fr.tr Fr.rf F_6 (by decide)) (by decide)) F_74 (by decide)) F_87 (by decide)) F_94 (by decide)) F_118 (by decide)), hI_119, (by omega), (by omega), (by omega), (by omega), (by omega), (by omega), (by omega), (by omega), (by omega), (by omega), (by omega), (by omega), (by omega), (by omega)⟩
        · refine lv_aload_n hx hb dX4_turnFailure_171 rfl (lv_at hl 6 rfl) ?_
          refine lv_iconst (v := iv 2) hx hb dX4_turnFailure_172 rfl ?_
          refine xa_puti G fd_X4 (a := 32) (x := 2) 13 (kz := 13) rfl rfl (by decide) rfl (by unfold ir; omega) (wm 2 157 rfl rfl) ⟨rfl, rfl, rfl, rfl⟩ rfl dX4_turnFailure_173 rfl (fun H locs G => ?_)
          have hI_153 : IC (sv μ117 32 13 2) := (IC.put hI_119 (by decide +kernel))
          have e_154 : (sv μ117 32 13 2).1 33 3 = μ117.1 33 3 := (sv_n _ (fun h9 => absurd h9.1 (by decide)))
          have e_155 : (sv μ117 32 13 2).1 32 13 = 2 := (sv_s _ _ _ _)
          have e_156 : (sv μ117 32 13 2).1 33 3 = μ117.1 33 3 := (sv_n _ (fun h9 => absurd h9.1 (by decide)))
          have e_157 : (sv μ117 32 13 2).1 32 13 = 2 := (sv_s _ _ _ _)
          have e_158 : (sv μ117 32 13 2).1 32 13 = 2 := (sv_s _ _ _ _)
          have e_159 : (sv μ117 32 13 2).1 32 13 = 2 := (sv_s _ _ _ _)
          have e_160 : (sv μ117 32 13 2).1 70 2 = μ4.1 70 2 := ((sv_n _ (fun h9 => absurd h9.1 (by decide))).trans (hs_128.trans ((F_94.1 70 (by decide) 2).trans ((F_87.1 70 (by decide) 2).trans ((F_74.1 70 (by decide) 2).trans (sv_n _ (by decide)))))))
          have e_161 : (sv μ117 32 13 2).1 70 2 = μ4.1 70 2 := ((sv_n _ (fun h9 => absurd h9.1 (by decide))).trans (hs_128.trans ((F_94.1 70 (by decide) 2).trans ((F_87.1 70 (by decide) 2).trans ((F_74.1 70 (by decide) 2).trans (sv_n _ (by decide)))))))
          have e_162 : (sv μ117 32 13 2).1 70 8 = μ4.1 70 8 := ((sv_n _ (fun h9 => absurd h9.1 (by decide))).trans (hs_134.trans ((F_94.1 70 (by decide) 8).trans ((F_87.1 70 (by decide) 8).trans ((F_74.1 70 (by decide) 8).trans (sv_n _ (by decide)))))))
          have e_163 : (sv μ117 32 13 2).1 70 8 = μ4.1 70 8 := ((sv_n _ (fun h9 => absurd h9.1 (by decide))).trans (hs_134.trans ((F_94.1 70 (by decide) 8).trans ((F_87.1 70 (by decide) 8).trans ((F_74.1 70 (by decide) 8).trans (sv_n _ (by decide)))))))
          have e_164 : (sv μ117 32 13 2).1 45 1 = μ72.1 45 1 := ((sv_n _ (fun h9 => absurd h9.1 (by decide))).trans ((F_118.1 45 (by decide) 1).trans ((F_94.1 45 (by decide) 1).trans (F_87.1 45 (by decide) 1))))
          have e_165 : (sv μ117 32 13 2).1 70 2 = μ4.1 70 2 := ((sv_n _ (fun h9 => absurd h9.1 (by decide))).trans (hs_128.trans ((F_94.1 70 (by decide) 2).trans ((F_87.1 70 (by decide) 2).trans ((F_74.1 70 (by decide) 2).trans (sv_n _ (by decide)))))))
          have e_166 : (sv μ117 32 13 2).1 32 13 = 2 := (sv_s _ _ _ _)
          have e_167 : (sv μ117 32 13 2).1 70 1 = μ.1 70 1 := ((sv_n _ (fun h9 => absurd h9.1 (by decide))).trans (hs_127.trans ((F_94.1 70 (by decide) 1).trans ((F_87.1 70 (by decide) 1).trans ((F_74.1 70 (by decide) 1).trans ((sv_n _ (by decide)).trans hs_9))))))
          have e_168 : (sv μ117 32 13 2).1 70 3 = μ.1 70 3 := ((sv_n _ (fun h9 => absurd h9.1 (by decide))).trans (hs_129.trans ((F_94.1 70 (by decide) 3).trans ((F_87.1 70 (by decide) 3).trans ((F_74.1 70 (by decide) 3).trans ((sv_n _ (by decide)).trans hs_10))))))
          have e_169 : (sv μ117 32 13 2).1 70 4 = μ.1 70 4 := ((sv_n _ (fun h9 => absurd h9.1 (by decide))).trans (hs_130.trans ((F_94.1 70 (by decide) 4).trans ((F_87.1 70 (by decide) 4).trans ((F_74.1 70 (by decide) 4).trans ((sv_n _ (by decide)).trans hs_11))))))
          have e_170 : (sv μ117 32 13 2).1 70 5 = μ.1 70 5 := ((sv_n _ (fun h9 => absurd h9.1 (by decide))).trans (hs_131.trans ((F_94.1 70 (by decide) 5).trans ((F_87.1 70 (by decide) 5).trans ((F_74.1 70 (by decide) 5).trans ((sv_n _ (by decide)).trans hs_12))))))
          have e_171 : (sv μ117 32 13 2).1 70 7 = μ.1 70 7 := ((sv_n _ (fun h9 => absurd h9.1 (by decide))).trans (hs_133.trans ((F_94.1 70 (by decide) 7).trans ((F_87.1 70 (by decide) 7).trans ((F_74.1 70 (by decide) 7).trans ((sv_n _ (by decide)).trans hs_14))))))
          have e_172 : (sv μ117 32 13 2).1 32 10 = μ.1 32 10 := ((sv_n _ (by decide)).trans (hs_121.trans ((F_94.1 32 (by decide) 10).trans ((F_87.1 32 (by decide) 10).trans ((F_74.1 32 (by decide) 10).trans ((sv_n _ (fun h9 => absurd h9.1 (by decide))).trans hs_16))))))
          have e_173 : (sv μ117 32 13 2).1 32 11 = μ.1 32 11 := ((sv_n _ (by decide)).trans (hs_122.trans ((F_94.1 32 (by decide) 11).trans ((F_87.1 32 (by decide) 11).trans ((F_74.1 32 (by decide) 11).trans ((sv_n _ (fun h9 => absurd h9.1 (by decide))).trans hs_17))))))
          have e_174 : (sv μ117 32 13 2).1 32 12 = μ.1 32 12 := ((sv_n _ (by decide)).trans (hs_123.trans ((F_94.1 32 (by decide) 12).trans ((F_87.1 32 (by decide) 12).trans ((F_74.1 32 (by decide) 12).trans ((sv_n _ (fun h9 => absurd h9.1 (by decide))).trans hs_18))))))
          have e_175 : (sv μ117 32 13 2).1 32 15 = μ.1 32 15 := ((sv_n _ (by decide)).trans (hs_124.trans ((F_94.1 32 (by decide) 15).trans ((F_87.1 32 (by decide) 15).trans ((F_74.1 32 (by decide) 15).trans ((sv_n _ (fun h9 => absurd h9.1 (by decide))).trans hs_20))))))
          have e_176 : (sv μ117 32 13 2).1 32 16 = μ.1 32 16 := ((sv_n _ (by decide)).trans (hs_125.trans ((F_94.1 32 (by decide) 16).trans ((F_87.1 32 (by decide) 16).trans ((F_74.1 32 (by decide) 16).trans ((sv_n _ (fun h9 => absurd h9.1 (by decide))).trans hs_21))))))
          have e_177 : (sv μ117 32 13 2).1 45 4 = μ.1 45 4 := ((sv_n _ (fun h9 => absurd h9.1 (by decide))).trans ((F_118.1 45 (by decide) 4).trans ((F_94.1 45 (by decide) 4).trans ((F_87.1 45 (by decide) 4).trans (hs_79.trans ((sv_n _ (fun h9 => absurd h9.1 (by decide))).trans (F_6.1 45 (by decide) 4)))))))
          exact xr_v G hret hlk dX4_turnFailure_176 ⟨(Fr.put (Fr.tr (Fr.tr (Fr.tr (Fr.tr (Fr.put (Fr.tr Fr.rf F_6 (by decide)) (by decide)) F_74 (by decide)) F_87 (by decide)) F_94 (by decide)) F_118 (by decide)) (by decide)), hI_153, (by omega), (by omega), (by omega), (by omega), (by omega), (by omega), (by omega), (by omega), (by omega), (by omega), (by omega), (by omega), (by omega), (by omega)⟩
      · refine lv_aload hx hb dX4_turnFailure_150 (lv_at hl 0 rfl) ?_
        refine lv_iload hx hb dX4_turnFailure_152 (lv_at hl 1 rfl) ?_
        refine lv_iconst (v := iv 0) hx hb dX4_turnFailure_154 rfl ?_
        refine lv_lconst (v := jv 0) hx hb dX4_turnFailure_155 rfl ?_
        refine lv_dconst0 hx hb dX4_turnFailure_156 ?_
        refine xb_topd (fun dd_178 he_dd_178 => ?_)
        refine xc_vV G (b := 47) (rest := []) (As := [.int (iv r_73), .int (iv 0), .long (jv 0), .double (dv dd_178)]) (c_X9_set ω l μ92 47 r_73 0 0 dd_178 (by unfold isRow; decide) (by unfold ir; omega) (by unfold ir; omega) (by unfold jr; omega) hI_95) (wm 6 60 rfl rfl) (wm 4 77 rfl rfl) (wm 4 78 rfl rfl) rfl rfl (by decide) rfl (wm 1 10 rfl rfl) (wm 4 79 rfl rfl) (by decide) hR (by decide) (n := 4) rfl rfl (Nat.le_of_ble_eq_true rfl) hl.1 dX4_turnFailure_157 (fun μ179 ρ d0 H locs hp G => ?_)
        obtain ⟨F_180, hI_181, hp_182⟩ := hp
        refine lv_aload_n hx hb dX4_turnFailure_160 rfl (lv_at hl 6 rfl) ?_
        refine lv_iload hx hb dX4_turnFailure_161 (lv_at hl 1 rfl) ?_
        have e_183 : μ179.1 33 3 = S := ((F_180.1 33 (by decide) 3).trans ((F_94.1 33 (by decide) 3).trans ((F_87.1 33 (by decide) 3).trans ((F_74.1 33 (by decide) 3).trans ((sv_n _ (fun h9 => absurd h9.1 (by decide))).trans ((F_6.1 33 (by decide) 3).trans hS.symm))))))
        have e_184 : μ179.1 32 13 = μ4.1 32 13 := ((F_180.1 32 (by decide) 13).trans ((F_94.1 32 (by decide) 13).trans ((F_87.1 32 (by decide) 13).trans ((F_74.1 32 (by decide) 13).trans (sv_n _ (fun h9 => absurd h9.1 (by decide)))))))
        have e_185 : ofF μ179 53 = ofF μ 53 := ((ofF_fr F_180 (by decide) (by decide)).trans ((ofF_fr F_94 (by decide) (by decide)).trans ((ofF_fr F_87 (by decide) (by decide)).trans ((ofF_fr F_74 (by decide) (by decide)).trans ((ofF_sv μ4 (by decide) (by decide)).trans (ofF_fr F_6 (by decide) (by decide)))))))
        have e_186 : ofF μ179 53 = ofF μ 53 := ((ofF_fr F_180 (by decide) (by decide)).trans ((ofF_fr F_94 (by decide) (by decide)).trans ((ofF_fr F_87 (by decide) (by decide)).trans ((ofF_fr F_74 (by decide) (by decide)).trans ((ofF_sv μ4 (by decide) (by decide)).trans (ofF_fr F_6 (by decide) (by decide)))))))
        have e_187 : μ179.1 32 10 = μ.1 32 10 := ((F_180.1 32 (by decide) 10).trans ((F_94.1 32 (by decide) 10).trans ((F_87.1 32 (by decide) 10).trans ((F_74.1 32 (by decide) 10).trans ((sv_n _ (fun h9 => absurd h9.1 (by decide))).trans hs_16)))))
        have e_188 : μ179.1 32 11 = μ.1 32 11 := ((F_180.1 32 (by decide) 11).trans ((F_94.1 32 (by decide) 11).trans ((F_87.1 32 (by decide) 11).trans ((F_74.1 32 (by decide) 11).trans ((sv_n _ (fun h9 => absurd h9.1 (by decide))).trans hs_17)))))
        have e_189 : μ179.1 32 12 = μ.1 32 12 := ((F_180.1 32 (by decide) 12).trans ((F_94.1 32 (by decide) 12).trans ((F_87.1 32 (by decide) 12).trans ((F_74.1 32 (by decide) 12).trans ((sv_n _ (fun h9 => absurd h9.1 (by decide))).trans hs_18)))))
        have e_190 : μ179.1 32 15 = μ.1 32 15 := ((F_180.1 32 (by decide) 15).trans ((F_94.1 32 (by decide) 15).trans ((F_87.1 32 (by decide) 15).trans ((F_74.1 32 (by decide) 15).trans ((sv_n _ (fun h9 => absurd h9.1 (by decide))).trans hs_20)))))
        have e_191 : μ179.1 32 16 = μ.1 32 16 := ((F_180.1 32 (by decide) 16).trans ((F_94.1 32 (by decide) 16).trans ((F_87.1 32 (by decide) 16).trans ((F_74.1 32 (by decide) 16).trans ((sv_n _ (fun h9 => absurd h9.1 (by decide))).trans hs_21)))))
        have e_192 : μ179.1 70 0 = μ4.1 70 0 := ((F_180.1 70 (by decide) 0).trans ((F_94.1 70 (by decide) 0).trans ((F_87.1 70 (by decide) 0).trans ((F_74.1 70 (by decide) 0).trans (sv_n _ (by decide))))))
        have e_193 : μ179.1 70 1 = μ.1 70 1 := ((F_180.1 70 (by decide) 1).trans ((F_94.1 70 (by decide) 1).trans ((F_87.1 70 (by decide) 1).trans ((F_74.1 70 (by decide) 1).trans ((sv_n _ (by decide)).trans hs_9)))))
        have e_194 : μ179.1 70 2 = μ4.1 70 2 := ((F_180.1 70 (by decide) 2).trans ((F_94.1 70 (by decide) 2).trans ((F_87.1 70 (by decide) 2).trans ((F_74.1 70 (by decide) 2).trans (sv_n _ (by decide))))))
        have e_195 : μ179.1 70 3 = μ.1 70 3 := ((F_180.1 70 (by decide) 3).trans ((F_94.1 70 (by decide) 3).trans ((F_87.1 70 (by decide) 3).trans ((F_74.1 70 (by decide) 3).trans ((sv_n _ (by decide)).trans hs_10)))))
        have e_196 : μ179.1 70 4 = μ.1 70 4 := ((F_180.1 70 (by decide) 4).trans ((F_94.1 70 (by decide) 4).trans ((F_87.1 70 (by decide) 4).trans ((F_74.1 70 (by decide) 4).trans ((sv_n _ (by decide)).trans hs_11)))))
        have e_197 : μ179.1 70 5 = μ.1 70 5 := ((F_180.1 70 (by decide) 5).trans ((F_94.1 70 (by decide) 5).trans ((F_87.1 70 (by decide) 5).trans ((F_74.1 70 (by decide) 5).trans ((sv_n _ (by decide)).trans hs_12)))))
        have e_198 : μ179.1 70 6 = y_23 := ((F_180.1 70 (by decide) 6).trans ((F_94.1 70 (by decide) 6).trans ((F_87.1 70 (by decide) 6).trans ((F_74.1 70 (by decide) 6).trans (sv_s _ _ _ _)))))
        have e_199 : μ179.1 70 7 = μ.1 70 7 := ((F_180.1 70 (by decide) 7).trans ((F_94.1 70 (by decide) 7).trans ((F_87.1 70 (by decide) 7).trans ((F_74.1 70 (by decide) 7).trans ((sv_n _ (by decide)).trans hs_14)))))
        have e_200 : μ179.1 70 8 = μ4.1 70 8 := ((F_180.1 70 (by decide) 8).trans ((F_94.1 70 (by decide) 8).trans ((F_87.1 70 (by decide) 8).trans ((F_74.1 70 (by decide) 8).trans (sv_n _ (by decide))))))
        refine xc_vV G (b := 32) (rest := []) (As := [.int (iv r_73)]) (c_X4_give ω l μ179 r_73 S (by unfold ir; omega) hI_181 (by omega) (by omega)) (wm 6 61 rfl rfl) (wm 6 63 rfl rfl) (wm 0 77 rfl rfl) rfl rfl (by decide) rfl (wm 1 14 rfl rfl) (wm 6 64 rfl rfl) (by decide) hR (by decide) (n := 1) rfl rfl (Nat.le_of_ble_eq_true rfl) hl.1 dX4_turnFailure_163 (fun μ201 ρ d0 H locs hp G => ?_)
        obtain ⟨F_202, hI_203, hp_204, hs_205, hs_206, hs_207, hs_208, hs_209, hs_210, hs_211, hs_212, hs_213, hs_214, hs_215, hs_216, hs_217, hs_218⟩ := hp
        have hk_219 := hI_203.row (r := 33) (by unfold isRow; decide)
        unfold rk at hk_219
        simp only [Int.reduceAdd] at hk_219
        refine lv_iload_n hx hb dX4_turnFailure_166 rfl (lv_at hl 4 rfl) ?_
        refine lv_iconst (v := iv 1) hx hb dX4_turnFailure_167 rfl ?_
        refine xb_icmp_ne (tgt := 176) hx hb (by unfold ir; omega) (by unfold ir; omega) dX4_turnFailure_168 (by decide) (fun c_168 => ?_) (fun c_168 => ?_)
        · have e_220 : μ201.1 70 2 = μ4.1 70 2 := (hs_212.trans ((F_180.1 70 (by decide) 2).trans ((F_94.1 70 (by decide) 2).trans ((F_87.1 70 (by decide) 2).trans ((F_74.1 70 (by decide) 2).trans (sv_n _ (by decide)))))))
          have e_221 : μ201.1 70 2 = μ4.1 70 2 := (hs_212.trans ((F_180.1 70 (by decide) 2).trans ((F_94.1 70 (by decide) 2).trans ((F_87.1 70 (by decide) 2).trans ((F_74.1 70 (by decide) 2).trans (sv_n _ (by decide)))))))
          have e_222 : μ201.1 70 8 = μ4.1 70 8 := (hs_218.trans ((F_180.1 70 (by decide) 8).trans ((F_94.1 70 (by decide) 8).trans ((F_87.1 70 (by decide) 8).trans ((F_74.1 70 (by decide) 8).trans (sv_n _ (by decide)))))))
          have e_223 : μ201.1 70 8 = μ4.1 70 8 := (hs_218.trans ((F_180.1 70 (by decide) 8).trans ((F_94.1 70 (by decide) 8).trans ((F_87.1 70 (by decide) 8).trans ((F_74.1 70 (by decide) 8).trans (sv_n _ (by decide)))))))
          have e_224 : μ201.1 45 1 = μ72.1 45 1 := ((F_202.1 45 (by decide) 1).trans ((F_180.1 45 (by decide) 1).trans ((F_94.1 45 (by decide) 1).trans (F_87.1 45 (by decide) 1))))
          have e_225 : μ201.1 70 2 = μ4.1 70 2 := (hs_212.trans ((F_180.1 70 (by decide) 2).trans ((F_94.1 70 (by decide) 2).trans ((F_87.1 70 (by decide) 2).trans ((F_74.1 70 (by decide) 2).trans (sv_n _ (by decide)))))))
          have e_226 : μ201.1 70 1 = μ.1 70 1 := (hs_211.trans ((F_180.1 70 (by decide) 1).trans ((F_94.1 70 (by decide) 1).trans ((F_87.1 70 (by decide) 1).trans ((F_74.1 70 (by decide) 1).trans ((sv_n _ (by decide)).trans hs_9))))))
          have e_227 : μ201.1 70 3 = μ.1 70 3 := (hs_213.trans ((F_180.1 70 (by decide) 3).trans ((F_94.1 70 (by decide) 3).trans ((F_87.1 70 (by decide) 3).trans ((F_74.1 70 (by decide) 3).trans ((sv_n _ (by decide)).trans hs_10))))))
          have e_228 : μ201.1 70 4 = μ.1 70 4 := (hs_214.trans ((F_180.1 70 (by decide) 4).trans ((F_94.1 70 (by decide) 4).trans ((F_87.1 70 (by decide) 4).trans ((F_74.1 70 (by decide) 4).trans ((sv_n _ (by decide)).trans hs_11))))))
          have e_229 : μ201.1 70 5 = μ.1 70 5 := (hs_215.trans ((F_180.1 70 (by decide) 5).trans ((F_94.1 70 (by decide) 5).trans ((F_87.1 70 (by decide) 5).trans ((F_74.1 70 (by decide) 5).trans ((sv_n _ (by decide)).trans hs_12))))))
          have e_230 : μ201.1 70 7 = μ.1 70 7 := (hs_217.trans ((F_180.1 70 (by decide) 7).trans ((F_94.1 70 (by decide) 7).trans ((F_87.1 70 (by decide) 7).trans ((F_74.1 70 (by decide) 7).trans ((sv_n _ (by decide)).trans hs_14))))))
          have e_231 : μ201.1 32 10 = μ.1 32 10 := (hs_205.trans ((F_180.1 32 (by decide) 10).trans ((F_94.1 32 (by decide) 10).trans ((F_87.1 32 (by decide) 10).trans ((F_74.1 32 (by decide) 10).trans ((sv_n _ (fun h9 => absurd h9.1 (by decide))).trans hs_16))))))
          have e_232 : μ201.1 32 11 = μ.1 32 11 := (hs_206.trans ((F_180.1 32 (by decide) 11).trans ((F_94.1 32 (by decide) 11).trans ((F_87.1 32 (by decide) 11).trans ((F_74.1 32 (by decide) 11).trans ((sv_n _ (fun h9 => absurd h9.1 (by decide))).trans hs_17))))))
          have e_233 : μ201.1 32 12 = μ.1 32 12 := (hs_207.trans ((F_180.1 32 (by decide) 12).trans ((F_94.1 32 (by decide) 12).trans ((F_87.1 32 (by decide) 12).trans ((F_74.1 32 (by decide) 12).trans ((sv_n _ (fun h9 => absurd h9.1 (by decide))).trans hs_18))))))
          have e_234 : μ201.1 32 15 = μ.1 32 15 := (hs_208.trans ((F_180.1 32 (by decide) 15).trans ((F_94.1 32 (by decide) 15).trans ((F_87.1 32 (by decide) 15).trans ((F_74.1 32 (by decide) 15).trans ((sv_n _ (fun h9 => absurd h9.1 (by decide))).trans hs_20))))))
          have e_235 : μ201.1 32 16 = μ.1 32 16 := (hs_209.trans ((F_180.1 32 (by decide) 16).trans ((F_94.1 32 (by decide) 16).trans ((F_87.1 32 (by decide) 16).trans ((F_74.1 32 (by decide) 16).trans ((sv_n _ (fun h9 => absurd h9.1 (by decide))).trans hs_21))))))
          have e_236 : μ201.1 45 4 = μ.1 45 4 := ((F_202.1 45 (by decide) 4).trans ((F_180.1 45 (by decide) 4).trans ((F_94.1 45 (by decide) 4).trans ((F_87.1 45 (by decide) 4).trans (hs_79.trans ((sv_n _ (fun h9 => absurd h9.1 (by decide))).trans (F_6.1 45 (by decide) 4)))))))
          exact xr_v G hret hlk dX4_turnFailure_176 ⟨(Fr.tr (Fr.tr (Fr.tr (Fr.tr (Fr.tr (Fr.put (Fr.tr Fr.rf F_6 (by decide)) (by decide)) F_74 (by decide)) F_87 (by decide)) F_94 (by decide)) F_180 (by decide)) F_202 (by decide)), hI_203, (by omega), (by omega), (by omega), (by omega), (by omega), (by omega), (by omega), (by omega), (by omega), (by omega), (by omega), (by omega), (by omega), (by omega)⟩
        · refine lv_aload_n hx hb dX4_turnFailure_171 rfl (lv_at hl 6 rfl) ?_
          refine lv_iconst (v := iv 2) hx hb dX4_turnFailure_172 rfl ?_
          refine xa_puti G fd_X4 (a := 32) (x := 2) 13 (kz := 13) rfl rfl (by decide) rfl (by unfold ir; omega) (wm 2 157 rfl rfl) ⟨rfl, rfl, rfl, rfl⟩ rfl dX4_turnFailure_173 rfl (fun H locs G => ?_)
          have hI_237 : IC (sv μ201 32 13 2) := (IC.put hI_203 (by decide +kernel))
          have e_238 : (sv μ201 32 13 2).1 33 3 = μ201.1 33 3 := (sv_n _ (fun h9 => absurd h9.1 (by decide)))
          have e_239 : (sv μ201 32 13 2).1 32 13 = 2 := (sv_s _ _ _ _)
          have e_240 : (sv μ201 32 13 2).1 33 3 = μ201.1 33 3 := (sv_n _ (fun h9 => absurd h9.1 (by decide)))
          have e_241 : (sv μ201 32 13 2).1 32 13 = 2 := (sv_s _ _ _ _)
          have e_242 : (sv μ201 32 13 2).1 32 13 = 2 := (sv_s _ _ _ _)
          have e_243 : (sv μ201 32 13 2).1 32 13 = 2 := (sv_s _ _ _ _)
          have e_244 : (sv μ201 32 13 2).1 70 2 = μ4.1 70 2 := ((sv_n _ (fun h9 => absurd h9.1 (by decide))).trans (hs_212.trans ((F_180.1 70 (by decide) 2).trans ((F_94.1 70 (by decide) 2).trans ((F_87.1 70 (by decide) 2).trans ((F_74.1 70 (by decide) 2).trans (sv_n _ (by decide))))))))
          have e_245 : (sv μ201 32 13 2).1 70 2 = μ4.1 70 2 := ((sv_n _ (fun h9 => absurd h9.1 (by decide))).trans (hs_212.trans ((F_180.1 70 (by decide) 2).trans ((F_94.1 70 (by decide) 2).trans ((F_87.1 70 (by decide) 2).trans ((F_74.1 70 (by decide) 2).trans (sv_n _ (by decide))))))))
          have e_246 : (sv μ201 32 13 2).1 70 8 = μ4.1 70 8 := ((sv_n _ (fun h9 => absurd h9.1 (by decide))).trans (hs_218.trans ((F_180.1 70 (by decide) 8).trans ((F_94.1 70 (by decide) 8).trans ((F_87.1 70 (by decide) 8).trans ((F_74.1 70 (by decide) 8).trans (sv_n _ (by decide))))))))
          have e_247 : (sv μ201 32 13 2).1 70 8 = μ4.1 70 8 := ((sv_n _ (fun h9 => absurd h9.1 (by decide))).trans (hs_218.trans ((F_180.1 70 (by decide) 8).trans ((F_94.1 70 (by decide) 8).trans ((F_87.1 70 (by decide) 8).trans ((F_74.1 70 (by decide) 8).trans (sv_n _ (by decide))))))))
          have e_248 : (sv μ201 32 13 2).1 45 1 = μ72.1 45 1 := ((sv_n _ (fun h9 => absurd h9.1 (by decide))).trans ((F_202.1 45 (by decide) 1).trans ((F_180.1 45 (by decide) 1).trans ((F_94.1 45 (by decide) 1).trans (F_87.1 45 (by decide) 1)))))
          have e_249 : (sv μ201 32 13 2).1 70 2 = μ4.1 70 2 := ((sv_n _ (fun h9 => absurd h9.1 (by decide))).trans (hs_212.trans ((F_180.1 70 (by decide) 2).trans ((F_94.1 70 (by decide) 2).trans ((F_87.1 70 (by decide) 2).trans ((F_74.1 70 (by decide) 2).trans (sv_n _ (by decide))))))))
          have e_250 : (sv μ201 32 13 2).1 32 13 = 2 := (sv_s _ _ _ _)
          have e_251 : (sv μ201 32 13 2).1 70 1 = μ.1 70 1 := ((sv_n _ (fun h9 => absurd h9.1 (by decide))).trans (hs_211.trans ((F_180.1 70 (by decide) 1).trans ((F_94.1 70 (by decide) 1).trans ((F_87.1 70 (by decide) 1).trans ((F_74.1 70 (by decide) 1).trans ((sv_n _ (by decide)).trans hs_9)))))))
          have e_252 : (sv μ201 32 13 2).1 70 3 = μ.1 70 3 := ((sv_n _ (fun h9 => absurd h9.1 (by decide))).trans (hs_213.trans ((F_180.1 70 (by decide) 3).trans ((F_94.1 70 (by decide) 3).trans ((F_87.1 70 (by decide) 3).trans ((F_74.1 70 (by decide) 3).trans ((sv_n _ (by decide)).trans hs_10)))))))
          have e_253 : (sv μ201 32 13 2).1 70 4 = μ.1 70 4 := ((sv_n _ (fun h9 => absurd h9.1 (by decide))).trans (hs_214.trans ((F_180.1 70 (by decide) 4).trans ((F_94.1 70 (by decide) 4).trans ((F_87.1 70 (by decide) 4).trans ((F_74.1 70 (by decide) 4).trans ((sv_n _ (by decide)).trans hs_11)))))))
          have e_254 : (sv μ201 32 13 2).1 70 5 = μ.1 70 5 := ((sv_n _ (fun h9 => absurd h9.1 (by decide))).trans (hs_215.trans ((F_180.1 70 (by decide) 5).trans ((F_94.1 70 (by decide) 5).trans ((F_87.1 70 (by decide) 5).trans ((F_74.1 70 (by decide) 5).trans ((sv_n _ (by decide)).trans hs_12)))))))
          have e_255 : (sv μ201 32 13 2).1 70 7 = μ.1 70 7 := ((sv_n _ (fun h9 => absurd h9.1 (by decide))).trans (hs_217.trans ((F_180.1 70 (by decide) 7).trans ((F_94.1 70 (by decide) 7).trans ((F_87.1 70 (by decide) 7).trans ((F_74.1 70 (by decide) 7).trans ((sv_n _ (by decide)).trans hs_14)))))))
          have e_256 : (sv μ201 32 13 2).1 32 10 = μ.1 32 10 := ((sv_n _ (by decide)).trans (hs_205.trans ((F_180.1 32 (by decide) 10).trans ((F_94.1 32 (by decide) 10).trans ((F_87.1 32 (by decide) 10).trans ((F_74.1 32 (by decide) 10).trans ((sv_n _ (fun h9 => absurd h9.1 (by decide))).trans hs_16)))))))
          have e_257 : (sv μ201 32 13 2).1 32 11 = μ.1 32 11 := ((sv_n _ (by decide)).trans (hs_206.trans ((F_180.1 32 (by decide) 11).trans ((F_94.1 32 (by decide) 11).trans ((F_87.1 32 (by decide) 11).trans ((F_74.1 32 (by decide) 11).trans ((sv_n _ (fun h9 => absurd h9.1 (by decide))).trans hs_17)))))))
          have e_258 : (sv μ201 32 13 2).1 32 12 = μ.1 32 12 := ((sv_n _ (by decide)).trans (hs_207.trans ((F_180.1 32 (by decide) 12).trans ((F_94.1 32 (by decide) 12).trans ((F_87.1 32 (by decide) 12).trans ((F_74.1 32 (by decide) 12).trans ((sv_n _ (fun h9 => absurd h9.1 (by decide))).trans hs_18)))))))
          have e_259 : (sv μ201 32 13 2).1 32 15 = μ.1 32 15 := ((sv_n _ (by decide)).trans (hs_208.trans ((F_180.1 32 (by decide) 15).trans ((F_94.1 32 (by decide) 15).trans ((F_87.1 32 (by decide) 15).trans ((F_74.1 32 (by decide) 15).trans ((sv_n _ (fun h9 => absurd h9.1 (by decide))).trans hs_20)))))))
          have e_260 : (sv μ201 32 13 2).1 32 16 = μ.1 32 16 := ((sv_n _ (by decide)).trans (hs_209.trans ((F_180.1 32 (by decide) 16).trans ((F_94.1 32 (by decide) 16).trans ((F_87.1 32 (by decide) 16).trans ((F_74.1 32 (by decide) 16).trans ((sv_n _ (fun h9 => absurd h9.1 (by decide))).trans hs_21)))))))
          have e_261 : (sv μ201 32 13 2).1 45 4 = μ.1 45 4 := ((sv_n _ (fun h9 => absurd h9.1 (by decide))).trans ((F_202.1 45 (by decide) 4).trans ((F_180.1 45 (by decide) 4).trans ((F_94.1 45 (by decide) 4).trans ((F_87.1 45 (by decide) 4).trans (hs_79.trans ((sv_n _ (fun h9 => absurd h9.1 (by decide))).trans (F_6.1 45 (by decide) 4))))))))
          exact xr_v G hret hlk dX4_turnFailure_176 ⟨(Fr.put (Fr.tr (Fr.tr (Fr.tr (Fr.tr (Fr.tr (Fr.put (Fr.tr Fr.rf F_6 (by decide)) (by decide)) F_74 (by decide)) F_87 (by decide)) F_94 (by decide)) F_180 (by decide)) F_202 (by decide)) (by decide)), hI_237, (by omega), (by omega), (by omega), (by omega), (by omega), (by omega), (by omega), (by omega), (by omega), (by omega), (by omega), (by omega), (by omega), (by omega)⟩
    · refine lv_iconst (v := iv 1) hx hb dX4_turnFailure_97 rfl ?_
      refine lv_goto (tgt := 102) hx hb dX4_turnFailure_98 (by decide) ?_
      refine lv_aload_n hx hb dX4_turnFailure_102 rfl (lv_at hl 4 rfl) ?_
      refine xa_getr G fd_X4 (a := 32) (x := 52) 7 rfl (by decide) rfl (wm 2 151 rfl rfl) ⟨rfl, rfl, rfl⟩ dX4_turnFailure_103 rfl (G.sk 40 rfl) (by decide) rfl ?_
      have e_262 : ofF (sv μ4 70 6 y_23) 54 = ofF μ 54 := ((ofF_sv μ4 (by decide) (by decide)).trans (ofF_fr F_6 (by decide) (by decide)))
      refine xc_iV G (b := 52) (rest := [.int (iv 1), .int (iv r_55), .int (iv r_49), .int (iv r_35), .ref (oP ω 45)]) (As := []) (c_X2_function ω l (sv μ4 70 6 y_23)  hI_24) (wm 6 20 rfl rfl) (wm 6 21 rfl rfl) (wm 6 22 rfl rfl) rfl rfl (by decide) rfl (wm 1 16 rfl rfl) (wm 6 23 rfl rfl) (by decide) hR (by decide) (n := 0) rfl rfl (Nat.le_of_ble_eq_true rfl) hl.1 dX4_turnFailure_106 (fun r_264 μ263 ρ d0 H locs hr_r_264 hp G => ?_)
      have hr_r_264 : -2147483648 ≤ r_264 ∧ r_264 ≤ 2147483647 := hr_r_264
      obtain ⟨hsm_265, hp_266⟩ := hp
      have hsm_265 := Eq.symm hsm_265
      subst hsm_265
      refine lv_iload_n hx hb dX4_turnFailure_109 rfl (lv_at hl 5 rfl) ?_
      have e_267 : (sv μ4 70 6 y_23).1 45 1 = μ.1 45 1 := ((sv_n _ (fun h9 => absurd h9.1 (by decide))).trans (F_6.1 45 (by decide) 1))
      have e_268 : (sv μ4 70 6 y_23).1 45 1 = μ.1 45 1 := ((sv_n _ (fun h9 => absurd h9.1 (by decide))).trans (F_6.1 45 (by decide) 1))
      have e_269 : (sv μ4 70 6 y_23).1 45 4 = μ.1 45 4 := ((sv_n _ (fun h9 => absurd h9.1 (by decide))).trans (F_6.1 45 (by decide) 4))
      have e_270 : (sv μ4 70 6 y_23).1 45 4 = μ.1 45 4 := ((sv_n _ (fun h9 => absurd h9.1 (by decide))).trans (F_6.1 45 (by decide) 4))
      have e_271 : (sv μ4 70 6 y_23).1 45 1 = μ.1 45 1 := ((sv_n _ (fun h9 => absurd h9.1 (by decide))).trans (F_6.1 45 (by decide) 1))
      have e_272 : (sv μ4 70 6 y_23).1 45 1 = μ.1 45 1 := ((sv_n _ (fun h9 => absurd h9.1 (by decide))).trans (F_6.1 45 (by decide) 1))
      have e_273 : (sv μ4 70 6 y_23).1 45 1 = μ.1 45 1 := ((sv_n _ (fun h9 => absurd h9.1 (by decide))).trans (F_6.1 45 (by decide) 1))
      have e_274 : (sv μ4 70 6 y_23).1 45 4 = μ.1 45 4 := ((sv_n _ (fun h9 => absurd h9.1 (by decide))).trans (F_6.1 45 (by decide) 4))
      have e_275 : (sv μ4 70 6 y_23).1 45 4 = μ.1 45 4 := ((sv_n _ (fun h9 => absurd h9.1 (by decide))).trans (F_6.1 45 (by decide) 4))
      refine xc_iV G (b := 45) (rest := []) (As := [.int (iv r_35), .int (iv r_49), .int (iv r_55), .int (iv 1), .int (iv r_264), .int (iv x1)]) (c_X1_add ω l (sv μ4 70 6 y_23) r_35 r_49 r_55 1 r_264 x1 (μ.1 45 1) (μ.1 45 4) (by unfold ir; omega) (by unfold ir; omega) (by unfold ir; omega) (by unfold ir; omega) (by unfold ir; omega) (by unfold ir; omega) hI_24 (by omega) (by omega) (by omega)) (wm 6 24 rfl rfl) (wm 6 25 rfl rfl) (wm 6 26 rfl rfl) rfl rfl (by decide) rfl (wm 1 15 rfl rfl) (wm 6 27 rfl rfl) (by decide) hR (by decide) (n := 6) rfl rfl (Nat.le_of_ble_eq_true rfl) hl.1 dX4_turnFailure_110 (fun r_277 μ276 ρ d0 H locs hr_r_277 hp G => ?_)
      have hr_r_277 : -2147483648 ≤ r_277 ∧ r_277 ≤ 2147483647 := hr_r_277
      obtain ⟨F_278, hI_279, hp_280, hp_281, hp_282, hs_283⟩ := hp
      have hn_284 : 0 ≤ μ276.1 45 1 ∧ 9 * μ276.1 45 1 ≤ μ276.2.1 46 := hI_279.nm.2.2.2.2.2.2.1
      have hn_285 : 0 ≤ μ276.1 45 4 ∧ 2 * μ276.1 45 4 ≤ μ276.2.1 51 := hI_279.nm.2.2.2.2.2.2.2.1
      refine lv_istore (lv' := [(6, .int (iv r_277)), (5, .int (iv r_49)), (4, .int (iv r_46)), (3, .int (iv r_35)), (2, .int (iv r_31)), (0, .ref (oP ω 32)), (1, .int (iv x1))]) hx hb dX4_turnFailure_113 hl (by decide) rfl (fun ls hl => ?_)
      refine lv_aload_n hx hb dX4_turnFailure_115 rfl (lv_at hl 5 rfl) ?_
      refine xa_getr G fd_X4 (a := 32) (x := 45) 6 rfl (by decide) rfl (wm 2 150 rfl rfl) ⟨rfl, rfl, rfl⟩ dX4_turnFailure_116 rfl (G.sk 39 rfl) (by decide) rfl ?_
      refine xc_rV G (b := 45) (rest := []) (As := []) (c_X1_values ω l μ276  hI_279) (wm 5 196 rfl rfl) (wm 5 197 rfl rfl) (wm 5 198 rfl rfl) rfl rfl (by decide) rfl (wm 1 15 rfl rfl) (wm 5 199 rfl rfl) (by decide) hR (by decide) (n := 0) rfl rfl (Nat.le_of_ble_eq_true rfl) hl.1 dX4_turnFailure_119 (fun r_287 μ286 ρ d0 H locs hp G => ?_)
      obtain ⟨hsm_288, hp_289⟩ := hp
      have hsm_288 := Eq.symm hsm_288
      subst hsm_288
      subst hp_289
      refine lv_astore (lv' := [(7, .ref (oP ω 47)), (6, .int (iv r_277)), (5, .int (iv r_49)), (4, .int (iv r_46)), (3, .int (iv r_35)), (2, .int (iv r_31)), (0, .ref (oP ω 32)), (1, .int (iv x1))]) hx hb dX4_turnFailure_122 hl (by decide) rfl (fun ls hl => ?_)
      refine lv_aload hx hb dX4_turnFailure_124 (lv_at hl 0 rfl) ?_
      refine lv_iload hx hb dX4_turnFailure_126 (lv_at hl 1 rfl) ?_
      refine lv_aload hx hb dX4_turnFailure_128 (lv_at hl 0 rfl) ?_
      refine lv_iload_n hx hb dX4_turnFailure_130 rfl (lv_at hl 7 rfl) ?_
      refine xc_vV G (b := 47) (rest := []) (As := [.int (iv r_277), .ref (oP ω 47), .int (iv x1)]) (c_X9_copy ω l μ276 47 r_277 47 x1 (by unfold isRow; decide) (by unfold ir; omega) (by unfold isRow; decide) (by unfold ir; omega) hI_279) (wm 6 28 rfl rfl) (wm 6 29 rfl rfl) (wm 6 30 rfl rfl) rfl rfl (by decide) rfl (wm 1 10 rfl rfl) (wm 6 31 rfl rfl) (by decide) hR (by decide) (n := 3) rfl rfl (Nat.le_of_ble_eq_true rfl) hl.1 dX4_turnFailure_131 (fun μ290 ρ d0 H locs hp G => ?_)
      obtain ⟨F_291, hI_292, hp_293⟩ := hp
      refine lv_aload_n hx hb dX4_turnFailure_134 rfl (lv_at hl 6 rfl) ?_
      refine xa_getr G fd_X4 (a := 32) (x := 6) 2 rfl (by decide) rfl (wm 2 146 rfl rfl) ⟨rfl, rfl, rfl⟩ dX4_turnFailure_135 rfl (G.sk 35 rfl) (by decide) rfl ?_
      refine lv_aload hx hb dX4_turnFailure_138 (lv_at hl 0 rfl) ?_
      refine lv_iload hx hb dX4_turnFailure_140 (lv_at hl 1 rfl) ?_
      refine lv_iload_n hx hb dX4_turnFailure_142 rfl (lv_at hl 5 rfl) ?_
      refine lv_iload_n hx hb dX4_turnFailure_143 rfl (lv_at hl 4 rfl) ?_
      have hk_294 := hI_279.row (r := 47) (by unfold isRow; decide)
      unfold rk at hk_294
      simp only [Int.reduceAdd] at hk_294
      have hbr_47 : BR 47 = 5010 := rfl
      have e_295 : μ290.1 47 3 = μ276.1 47 3 := (F_291.1 47 (by decide) 3)
      refine xc_iV G (b := 6) (rest := []) (As := [.ref (oP ω 47), .int (iv r_277), .int (iv r_31), .int (iv r_35)]) (c_X0_turn ω l μ290 47 r_277 r_31 r_35 (by unfold isRow; decide) (by unfold ir; omega) (by unfold ir; omega) (by unfold ir; omega) hI_292) (wm 6 32 rfl rfl) (wm 6 33 rfl rfl) (wm 6 34 rfl rfl) rfl rfl (by decide) rfl (wm 1 7 rfl rfl) (wm 6 35 rfl rfl) (by decide) hR (by decide) (n := 4) rfl rfl (Nat.le_of_ble_eq_true rfl) hl.1 dX4_turnFailure_144 (fun r_297 μ296 ρ d0 H locs hr_r_297 hp G => ?_)
      have hr_r_297 : -2147483648 ≤ r_297 ∧ r_297 ≤ 2147483647 := hr_r_297
      obtain ⟨F_298, hI_299, hp_300, hp_301, hs_302⟩ := hp
      refine xb_if_ne (tgt := 160) hx hb (by unfold ir; omega) dX4_turnFailure_147 (by decide) (fun c_147 => ?_) (fun c_147 => ?_)
      · refine lv_aload_n hx hb dX4_turnFailure_160 rfl (lv_at hl 6 rfl) ?_
        refine lv_iload hx hb dX4_turnFailure_161 (lv_at hl 1 rfl) ?_
        have e_303 : μ296.1 33 3 = S := ((F_298.1 33 (by decide) 3).trans ((F_291.1 33 (by decide) 3).trans ((F_278.1 33 (by decide) 3).trans ((sv_n _ (fun h9 => absurd h9.1 (by decide))).trans ((F_6.1 33 (by decide) 3).trans hS.symm)))))
        have e_304 : μ296.1 32 13 = μ4.1 32 13 := ((F_298.1 32 (by decide) 13).trans ((F_291.1 32 (by decide) 13).trans ((F_278.1 32 (by decide) 13).trans (sv_n _ (fun h9 => absurd h9.1 (by decide))))))
        have e_305 : ofF μ296 53 = ofF μ 53 := ((ofF_fr F_298 (by decide) (by decide)).trans ((ofF_fr F_291 (by decide) (by decide)).trans ((ofF_fr F_278 (by decide) (by decide)).trans ((ofF_sv μ4 (by decide) (by decide)).trans (ofF_fr F_6 (by decide) (by decide))))))
        have e_306 : ofF μ296 53 = ofF μ 53 := ((ofF_fr F_298 (by decide) (by decide)).trans ((ofF_fr F_291 (by decide) (by decide)).trans ((ofF_fr F_278 (by decide) (by decide)).trans ((ofF_sv μ4 (by decide) (by decide)).trans (ofF_fr F_6 (by decide) (by decide))))))
        have e_307 : μ296.1 32 10 = μ.1 32 10 := ((F_298.1 32 (by decide) 10).trans ((F_291.1 32 (by decide) 10).trans ((F_278.1 32 (by decide) 10).trans ((sv_n _ (fun h9 => absurd h9.1 (by decide))).trans hs_16))))
        have e_308 : μ296.1 32 11 = μ.1 32 11 := ((F_298.1 32 (by decide) 11).trans ((F_291.1 32 (by decide) 11).trans ((F_278.1 32 (by decide) 11).trans ((sv_n _ (fun h9 => absurd h9.1 (by decide))).trans hs_17))))
        have e_309 : μ296.1 32 12 = μ.1 32 12 := ((F_298.1 32 (by decide) 12).trans ((F_291.1 32 (by decide) 12).trans ((F_278.1 32 (by decide) 12).trans ((sv_n _ (fun h9 => absurd h9.1 (by decide))).trans hs_18))))
        have e_310 : μ296.1 32 15 = μ.1 32 15 := ((F_298.1 32 (by decide) 15).trans ((F_291.1 32 (by decide) 15).trans ((F_278.1 32 (by decide) 15).trans ((sv_n _ (fun h9 => absurd h9.1 (by decide))).trans hs_20))))
        have e_311 : μ296.1 32 16 = μ.1 32 16 := ((F_298.1 32 (by decide) 16).trans ((F_291.1 32 (by decide) 16).trans ((F_278.1 32 (by decide) 16).trans ((sv_n _ (fun h9 => absurd h9.1 (by decide))).trans hs_21))))
        have e_312 : μ296.1 70 0 = μ4.1 70 0 := ((F_298.1 70 (by decide) 0).trans ((F_291.1 70 (by decide) 0).trans ((F_278.1 70 (by decide) 0).trans (sv_n _ (by decide)))))
        have e_313 : μ296.1 70 1 = μ.1 70 1 := ((F_298.1 70 (by decide) 1).trans ((F_291.1 70 (by decide) 1).trans ((F_278.1 70 (by decide) 1).trans ((sv_n _ (by decide)).trans hs_9))))
        have e_314 : μ296.1 70 2 = μ4.1 70 2 := ((F_298.1 70 (by decide) 2).trans ((F_291.1 70 (by decide) 2).trans ((F_278.1 70 (by decide) 2).trans (sv_n _ (by decide)))))
        have e_315 : μ296.1 70 3 = μ.1 70 3 := ((F_298.1 70 (by decide) 3).trans ((F_291.1 70 (by decide) 3).trans ((F_278.1 70 (by decide) 3).trans ((sv_n _ (by decide)).trans hs_10))))
        have e_316 : μ296.1 70 4 = μ.1 70 4 := ((F_298.1 70 (by decide) 4).trans ((F_291.1 70 (by decide) 4).trans ((F_278.1 70 (by decide) 4).trans ((sv_n _ (by decide)).trans hs_11))))
        have e_317 : μ296.1 70 5 = μ.1 70 5 := ((F_298.1 70 (by decide) 5).trans ((F_291.1 70 (by decide) 5).trans ((F_278.1 70 (by decide) 5).trans ((sv_n _ (by decide)).trans hs_12))))
        have e_318 : μ296.1 70 6 = y_23 := ((F_298.1 70 (by decide) 6).trans ((F_291.1 70 (by decide) 6).trans ((F_278.1 70 (by decide) 6).trans (sv_s _ _ _ _))))
        have e_319 : μ296.1 70 7 = μ.1 70 7 := ((F_298.1 70 (by decide) 7).trans ((F_291.1 70 (by decide) 7).trans ((F_278.1 70 (by decide) 7).trans ((sv_n _ (by decide)).trans hs_14))))
        have e_320 : μ296.1 70 8 = μ4.1 70 8 := ((F_298.1 70 (by decide) 8).trans ((F_291.1 70 (by decide) 8).trans ((F_278.1 70 (by decide) 8).trans (sv_n _ (by decide)))))
        refine xc_vV G (b := 32) (rest := []) (As := [.int (iv r_277)]) (c_X4_give ω l μ296 r_277 S (by unfold ir; omega) hI_299 (by omega) (by omega)) (wm 6 61 rfl rfl) (wm 6 63 rfl rfl) (wm 0 77 rfl rfl) rfl rfl (by decide) rfl (wm 1 14 rfl rfl) (wm 6 64 rfl rfl) (by decide) hR (by decide) (n := 1) rfl rfl (Nat.le_of_ble_eq_true rfl) hl.1 dX4_turnFailure_163 (fun μ321 ρ d0 H locs hp G => ?_)
        obtain ⟨F_322, hI_323, hp_324, hs_325, hs_326, hs_327, hs_328, hs_329, hs_330, hs_331, hs_332, hs_333, hs_334, hs_335, hs_336, hs_337, hs_338⟩ := hp
        have hk_339 := hI_323.row (r := 33) (by unfold isRow; decide)
        unfold rk at hk_339
        simp only [Int.reduceAdd] at hk_339
        refine lv_iload_n hx hb dX4_turnFailure_166 rfl (lv_at hl 4 rfl) ?_
        refine lv_iconst (v := iv 1) hx hb dX4_turnFailure_167 rfl ?_
        refine xb_icmp_ne (tgt := 176) hx hb (by unfold ir; omega) (by unfold ir; omega) dX4_turnFailure_168 (by decide) (fun c_168 => ?_) (fun c_168 => ?_)
        · have e_340 : μ321.1 70 2 = μ4.1 70 2 := (hs_332.trans ((F_298.1 70 (by decide) 2).trans ((F_291.1 70 (by decide) 2).trans ((F_278.1 70 (by decide) 2).trans (sv_n _ (by decide))))))
          have e_341 : μ321.1 70 2 = μ4.1 70 2 := (hs_332.trans ((F_298.1 70 (by decide) 2).trans ((F_291.1 70 (by decide) 2).trans ((F_278.1 70 (by decide) 2).trans (sv_n _ (by decide))))))
          have e_342 : μ321.1 70 8 = μ4.1 70 8 := (hs_338.trans ((F_298.1 70 (by decide) 8).trans ((F_291.1 70 (by decide) 8).trans ((F_278.1 70 (by decide) 8).trans (sv_n _ (by decide))))))
          have e_343 : μ321.1 70 8 = μ4.1 70 8 := (hs_338.trans ((F_298.1 70 (by decide) 8).trans ((F_291.1 70 (by decide) 8).trans ((F_278.1 70 (by decide) 8).trans (sv_n _ (by decide))))))
          have e_344 : μ321.1 45 1 = μ276.1 45 1 := ((F_322.1 45 (by decide) 1).trans ((F_298.1 45 (by decide) 1).trans (F_291.1 45 (by decide) 1)))
          have e_345 : μ321.1 70 2 = μ4.1 70 2 := (hs_332.trans ((F_298.1 70 (by decide) 2).trans ((F_291.1 70 (by decide) 2).trans ((F_278.1 70 (by decide) 2).trans (sv_n _ (by decide))))))
          have e_346 : μ321.1 70 1 = μ.1 70 1 := (hs_331.trans ((F_298.1 70 (by decide) 1).trans ((F_291.1 70 (by decide) 1).trans ((F_278.1 70 (by decide) 1).trans ((sv_n _ (by decide)).trans hs_9)))))
          have e_347 : μ321.1 70 3 = μ.1 70 3 := (hs_333.trans ((F_298.1 70 (by decide) 3).trans ((F_291.1 70 (by decide) 3).trans ((F_278.1 70 (by decide) 3).trans ((sv_n _ (by decide)).trans hs_10)))))
          have e_348 : μ321.1 70 4 = μ.1 70 4 := (hs_334.trans ((F_298.1 70 (by decide) 4).trans ((F_291.1 70 (by decide) 4).trans ((F_278.1 70 (by decide) 4).trans ((sv_n _ (by decide)).trans hs_11)))))
          have e_349 : μ321.1 70 5 = μ.1 70 5 := (hs_335.trans ((F_298.1 70 (by decide) 5).trans ((F_291.1 70 (by decide) 5).trans ((F_278.1 70 (by decide) 5).trans ((sv_n _ (by decide)).trans hs_12)))))
          have e_350 : μ321.1 70 7 = μ.1 70 7 := (hs_337.trans ((F_298.1 70 (by decide) 7).trans ((F_291.1 70 (by decide) 7).trans ((F_278.1 70 (by decide) 7).trans ((sv_n _ (by decide)).trans hs_14)))))
          have e_351 : μ321.1 32 10 = μ.1 32 10 := (hs_325.trans ((F_298.1 32 (by decide) 10).trans ((F_291.1 32 (by decide) 10).trans ((F_278.1 32 (by decide) 10).trans ((sv_n _ (fun h9 => absurd h9.1 (by decide))).trans hs_16)))))
          have e_352 : μ321.1 32 11 = μ.1 32 11 := (hs_326.trans ((F_298.1 32 (by decide) 11).trans ((F_291.1 32 (by decide) 11).trans ((F_278.1 32 (by decide) 11).trans ((sv_n _ (fun h9 => absurd h9.1 (by decide))).trans hs_17)))))
          have e_353 : μ321.1 32 12 = μ.1 32 12 := (hs_327.trans ((F_298.1 32 (by decide) 12).trans ((F_291.1 32 (by decide) 12).trans ((F_278.1 32 (by decide) 12).trans ((sv_n _ (fun h9 => absurd h9.1 (by decide))).trans hs_18)))))
          have e_354 : μ321.1 32 15 = μ.1 32 15 := (hs_328.trans ((F_298.1 32 (by decide) 15).trans ((F_291.1 32 (by decide) 15).trans ((F_278.1 32 (by decide) 15).trans ((sv_n _ (fun h9 => absurd h9.1 (by decide))).trans hs_20)))))
          have e_355 : μ321.1 32 16 = μ.1 32 16 := (hs_329.trans ((F_298.1 32 (by decide) 16).trans ((F_291.1 32 (by decide) 16).trans ((F_278.1 32 (by decide) 16).trans ((sv_n _ (fun h9 => absurd h9.1 (by decide))).trans hs_21)))))
          have e_356 : μ321.1 45 4 = μ.1 45 4 := ((F_322.1 45 (by decide) 4).trans ((F_298.1 45 (by decide) 4).trans ((F_291.1 45 (by decide) 4).trans (hs_283.trans ((sv_n _ (fun h9 => absurd h9.1 (by decide))).trans (F_6.1 45 (by decide) 4))))))
          exact xr_v G hret hlk dX4_turnFailure_176 ⟨(Fr.tr (Fr.tr (Fr.tr (Fr.tr (Fr.put (Fr.tr Fr.rf F_6 (by decide)) (by decide)) F_278 (by decide)) F_291 (by decide)) F_298 (by decide)) F_322 (by decide)), hI_323, (by omega), (by omega), (by omega), (by omega), (by omega), (by omega), (by omega), (by omega), (by omega), (by omega), (by omega), (by omega), (by omega), (by omega)⟩
        · refine lv_aload_n hx hb dX4_turnFailure_171 rfl (lv_at hl 6 rfl) ?_
          refine lv_iconst (v := iv 2) hx hb dX4_turnFailure_172 rfl ?_
          refine xa_puti G fd_X4 (a := 32) (x := 2) 13 (kz := 13) rfl rfl (by decide) rfl (by unfold ir; omega) (wm 2 157 rfl rfl) ⟨rfl, rfl, rfl, rfl⟩ rfl dX4_turnFailure_173 rfl (fun H locs G => ?_)
          have hI_357 : IC (sv μ321 32 13 2) := (IC.put hI_323 (by decide +kernel))
          have e_358 : (sv μ321 32 13 2).1 33 3 = μ321.1 33 3 := (sv_n _ (fun h9 => absurd h9.1 (by decide)))
          have e_359 : (sv μ321 32 13 2).1 32 13 = 2 := (sv_s _ _ _ _)
          have e_360 : (sv μ321 32 13 2).1 33 3 = μ321.1 33 3 := (sv_n _ (fun h9 => absurd h9.1 (by decide)))
          have e_361 : (sv μ321 32 13 2).1 32 13 = 2 := (sv_s _ _ _ _)
          have e_362 : (sv μ321 32 13 2).1 32 13 = 2 := (sv_s _ _ _ _)
          have e_363 : (sv μ321 32 13 2).1 32 13 = 2 := (sv_s _ _ _ _)
          have e_364 : (sv μ321 32 13 2).1 70 2 = μ4.1 70 2 := ((sv_n _ (fun h9 => absurd h9.1 (by decide))).trans (hs_332.trans ((F_298.1 70 (by decide) 2).trans ((F_291.1 70 (by decide) 2).trans ((F_278.1 70 (by decide) 2).trans (sv_n _ (by decide)))))))
          have e_365 : (sv μ321 32 13 2).1 70 2 = μ4.1 70 2 := ((sv_n _ (fun h9 => absurd h9.1 (by decide))).trans (hs_332.trans ((F_298.1 70 (by decide) 2).trans ((F_291.1 70 (by decide) 2).trans ((F_278.1 70 (by decide) 2).trans (sv_n _ (by decide)))))))
          have e_366 : (sv μ321 32 13 2).1 70 8 = μ4.1 70 8 := ((sv_n _ (fun h9 => absurd h9.1 (by decide))).trans (hs_338.trans ((F_298.1 70 (by decide) 8).trans ((F_291.1 70 (by decide) 8).trans ((F_278.1 70 (by decide) 8).trans (sv_n _ (by decide)))))))
          have e_367 : (sv μ321 32 13 2).1 70 8 = μ4.1 70 8 := ((sv_n _ (fun h9 => absurd h9.1 (by decide))).trans (hs_338.trans ((F_298.1 70 (by decide) 8).trans ((F_291.1 70 (by decide) 8).trans ((F_278.1 70 (by decide) 8).trans (sv_n _ (by decide)))))))
          have e_368 : (sv μ321 32 13 2).1 45 1 = μ276.1 45 1 := ((sv_n _ (fun h9 => absurd h9.1 (by decide))).trans ((F_322.1 45 (by decide) 1).trans ((F_298.1 45 (by decide) 1).trans (F_291.1 45 (by decide) 1))))
          have e_369 : (sv μ321 32 13 2).1 70 2 = μ4.1 70 2 := ((sv_n _ (fun h9 => absurd h9.1 (by decide))).trans (hs_332.trans ((F_298.1 70 (by decide) 2).trans ((F_291.1 70 (by decide) 2).trans ((F_278.1 70 (by decide) 2).trans (sv_n _ (by decide)))))))
          have e_370 : (sv μ321 32 13 2).1 32 13 = 2 := (sv_s _ _ _ _)
          have e_371 : (sv μ321 32 13 2).1 70 1 = μ.1 70 1 := ((sv_n _ (fun h9 => absurd h9.1 (by decide))).trans (hs_331.trans ((F_298.1 70 (by decide) 1).trans ((F_291.1 70 (by decide) 1).trans ((F_278.1 70 (by decide) 1).trans ((sv_n _ (by decide)).trans hs_9))))))
          have e_372 : (sv μ321 32 13 2).1 70 3 = μ.1 70 3 := ((sv_n _ (fun h9 => absurd h9.1 (by decide))).trans (hs_333.trans ((F_298.1 70 (by decide) 3).trans ((F_291.1 70 (by decide) 3).trans ((F_278.1 70 (by decide) 3).trans ((sv_n _ (by decide)).trans hs_10))))))
          have e_373 : (sv μ321 32 13 2).1 70 4 = μ.1 70 4 := ((sv_n _ (fun h9 => absurd h9.1 (by decide))).trans (hs_334.trans ((F_298.1 70 (by decide) 4).trans ((F_291.1 70 (by decide) 4).trans ((F_278.1 70 (by decide) 4).trans ((sv_n _ (by decide)).trans hs_11))))))
          have e_374 : (sv μ321 32 13 2).1 70 5 = μ.1 70 5 := ((sv_n _ (fun h9 => absurd h9.1 (by decide))).trans (hs_335.trans ((F_298.1 70 (by decide) 5).trans ((F_291.1 70 (by decide) 5).trans ((F_278.1 70 (by decide) 5).trans ((sv_n _ (by decide)).trans hs_12))))))
          have e_375 : (sv μ321 32 13 2).1 70 7 = μ.1 70 7 := ((sv_n _ (fun h9 => absurd h9.1 (by decide))).trans (hs_337.trans ((F_298.1 70 (by decide) 7).trans ((F_291.1 70 (by decide) 7).trans ((F_278.1 70 (by decide) 7).trans ((sv_n _ (by decide)).trans hs_14))))))
          have e_376 : (sv μ321 32 13 2).1 32 10 = μ.1 32 10 := ((sv_n _ (by decide)).trans (hs_325.trans ((F_298.1 32 (by decide) 10).trans ((F_291.1 32 (by decide) 10).trans ((F_278.1 32 (by decide) 10).trans ((sv_n _ (fun h9 => absurd h9.1 (by decide))).trans hs_16))))))
          have e_377 : (sv μ321 32 13 2).1 32 11 = μ.1 32 11 := ((sv_n _ (by decide)).trans (hs_326.trans ((F_298.1 32 (by decide) 11).trans ((F_291.1 32 (by decide) 11).trans ((F_278.1 32 (by decide) 11).trans ((sv_n _ (fun h9 => absurd h9.1 (by decide))).trans hs_17))))))
          have e_378 : (sv μ321 32 13 2).1 32 12 = μ.1 32 12 := ((sv_n _ (by decide)).trans (hs_327.trans ((F_298.1 32 (by decide) 12).trans ((F_291.1 32 (by decide) 12).trans ((F_278.1 32 (by decide) 12).trans ((sv_n _ (fun h9 => absurd h9.1 (by decide))).trans hs_18))))))
          have e_379 : (sv μ321 32 13 2).1 32 15 = μ.1 32 15 := ((sv_n _ (by decide)).trans (hs_328.trans ((F_298.1 32 (by decide) 15).trans ((F_291.1 32 (by decide) 15).trans ((F_278.1 32 (by decide) 15).trans ((sv_n _ (fun h9 => absurd h9.1 (by decide))).trans hs_20))))))
          have e_380 : (sv μ321 32 13 2).1 32 16 = μ.1 32 16 := ((sv_n _ (by decide)).trans (hs_329.trans ((F_298.1 32 (by decide) 16).trans ((F_291.1 32 (by decide) 16).trans ((F_278.1 32 (by decide) 16).trans ((sv_n _ (fun h9 => absurd h9.1 (by decide))).trans hs_21))))))
          have e_381 : (sv μ321 32 13 2).1 45 4 = μ.1 45 4 := ((sv_n _ (fun h9 => absurd h9.1 (by decide))).trans ((F_322.1 45 (by decide) 4).trans ((F_298.1 45 (by decide) 4).trans ((F_291.1 45 (by decide) 4).trans (hs_283.trans ((sv_n _ (fun h9 => absurd h9.1 (by decide))).trans (F_6.1 45 (by decide) 4)))))))
          exact xr_v G hret hlk dX4_turnFailure_176 ⟨(Fr.put (Fr.tr (Fr.tr (Fr.tr (Fr.tr (Fr.put (Fr.tr Fr.rf F_6 (by decide)) (by decide)) F_278 (by decide)) F_291 (by decide)) F_298 (by decide)) F_322 (by decide)) (by decide)), hI_357, (by omega), (by omega), (by omega), (by omega), (by omega), (by omega), (by omega), (by omega), (by omega), (by omega), (by omega), (by omega), (by omega), (by omega)⟩
      · refine lv_aload hx hb dX4_turnFailure_150 (lv_at hl 0 rfl) ?_
        refine lv_iload hx hb dX4_turnFailure_152 (lv_at hl 1 rfl) ?_
        refine lv_iconst (v := iv 0) hx hb dX4_turnFailure_154 rfl ?_
        refine lv_lconst (v := jv 0) hx hb dX4_turnFailure_155 rfl ?_
        refine lv_dconst0 hx hb dX4_turnFailure_156 ?_
        refine xb_topd (fun dd_382 he_dd_382 => ?_)
        refine xc_vV G (b := 47) (rest := []) (As := [.int (iv r_277), .int (iv 0), .long (jv 0), .double (dv dd_382)]) (c_X9_set ω l μ296 47 r_277 0 0 dd_382 (by unfold isRow; decide) (by unfold ir; omega) (by unfold ir; omega) (by unfold jr; omega) hI_299) (wm 6 60 rfl rfl) (wm 4 77 rfl rfl) (wm 4 78 rfl rfl) rfl rfl (by decide) rfl (wm 1 10 rfl rfl) (wm 4 79 rfl rfl) (by decide) hR (by decide) (n := 4) rfl rfl (Nat.le_of_ble_eq_true rfl) hl.1 dX4_turnFailure_157 (fun μ383 ρ d0 H locs hp G => ?_)
        obtain ⟨F_384, hI_385, hp_386⟩ := hp
        refine lv_aload_n hx hb dX4_turnFailure_160 rfl (lv_at hl 6 rfl) ?_
        refine lv_iload hx hb dX4_turnFailure_161 (lv_at hl 1 rfl) ?_
        have e_387 : μ383.1 33 3 = S := ((F_384.1 33 (by decide) 3).trans ((F_298.1 33 (by decide) 3).trans ((F_291.1 33 (by decide) 3).trans ((F_278.1 33 (by decide) 3).trans ((sv_n _ (fun h9 => absurd h9.1 (by decide))).trans ((F_6.1 33 (by decide) 3).trans hS.symm))))))
        have e_388 : μ383.1 32 13 = μ4.1 32 13 := ((F_384.1 32 (by decide) 13).trans ((F_298.1 32 (by decide) 13).trans ((F_291.1 32 (by decide) 13).trans ((F_278.1 32 (by decide) 13).trans (sv_n _ (fun h9 => absurd h9.1 (by decide)))))))
        have e_389 : ofF μ383 53 = ofF μ 53 := ((ofF_fr F_384 (by decide) (by decide)).trans ((ofF_fr F_298 (by decide) (by decide)).trans ((ofF_fr F_291 (by decide) (by decide)).trans ((ofF_fr F_278 (by decide) (by decide)).trans ((ofF_sv μ4 (by decide) (by decide)).trans (ofF_fr F_6 (by decide) (by decide)))))))
        have e_390 : ofF μ383 53 = ofF μ 53 := ((ofF_fr F_384 (by decide) (by decide)).trans ((ofF_fr F_298 (by decide) (by decide)).trans ((ofF_fr F_291 (by decide) (by decide)).trans ((ofF_fr F_278 (by decide) (by decide)).trans ((ofF_sv μ4 (by decide) (by decide)).trans (ofF_fr F_6 (by decide) (by decide)))))))
        have e_391 : μ383.1 32 10 = μ.1 32 10 := ((F_384.1 32 (by decide) 10).trans ((F_298.1 32 (by decide) 10).trans ((F_291.1 32 (by decide) 10).trans ((F_278.1 32 (by decide) 10).trans ((sv_n _ (fun h9 => absurd h9.1 (by decide))).trans hs_16)))))
        have e_392 : μ383.1 32 11 = μ.1 32 11 := ((F_384.1 32 (by decide) 11).trans ((F_298.1 32 (by decide) 11).trans ((F_291.1 32 (by decide) 11).trans ((F_278.1 32 (by decide) 11).trans ((sv_n _ (fun h9 => absurd h9.1 (by decide))).trans hs_17)))))
        have e_393 : μ383.1 32 12 = μ.1 32 12 := ((F_384.1 32 (by decide) 12).trans ((F_298.1 32 (by decide) 12).trans ((F_291.1 32 (by decide) 12).trans ((F_278.1 32 (by decide) 12).trans ((sv_n _ (fun h9 => absurd h9.1 (by decide))).trans hs_18)))))
        have e_394 : μ383.1 32 15 = μ.1 32 15 := ((F_384.1 32 (by decide) 15).trans ((F_298.1 32 (by decide) 15).trans ((F_291.1 32 (by decide) 15).trans ((F_278.1 32 (by decide) 15).trans ((sv_n _ (fun h9 => absurd h9.1 (by decide))).trans hs_20)))))
        have e_395 : μ383.1 32 16 = μ.1 32 16 := ((F_384.1 32 (by decide) 16).trans ((F_298.1 32 (by decide) 16).trans ((F_291.1 32 (by decide) 16).trans ((F_278.1 32 (by decide) 16).trans ((sv_n _ (fun h9 => absurd h9.1 (by decide))).trans hs_21)))))
        have e_396 : μ383.1 70 0 = μ4.1 70 0 := ((F_384.1 70 (by decide) 0).trans ((F_298.1 70 (by decide) 0).trans ((F_291.1 70 (by decide) 0).trans ((F_278.1 70 (by decide) 0).trans (sv_n _ (by decide))))))
        have e_397 : μ383.1 70 1 = μ.1 70 1 := ((F_384.1 70 (by decide) 1).trans ((F_298.1 70 (by decide) 1).trans ((F_291.1 70 (by decide) 1).trans ((F_278.1 70 (by decide) 1).trans ((sv_n _ (by decide)).trans hs_9)))))
        have e_398 : μ383.1 70 2 = μ4.1 70 2 := ((F_384.1 70 (by decide) 2).trans ((F_298.1 70 (by decide) 2).trans ((F_291.1 70 (by decide) 2).trans ((F_278.1 70 (by decide) 2).trans (sv_n _ (by decide))))))
        have e_399 : μ383.1 70 3 = μ.1 70 3 := ((F_384.1 70 (by decide) 3).trans ((F_298.1 70 (by decide) 3).trans ((F_291.1 70 (by decide) 3).trans ((F_278.1 70 (by decide) 3).trans ((sv_n _ (by decide)).trans hs_10)))))
        have e_400 : μ383.1 70 4 = μ.1 70 4 := ((F_384.1 70 (by decide) 4).trans ((F_298.1 70 (by decide) 4).trans ((F_291.1 70 (by decide) 4).trans ((F_278.1 70 (by decide) 4).trans ((sv_n _ (by decide)).trans hs_11)))))
        have e_401 : μ383.1 70 5 = μ.1 70 5 := ((F_384.1 70 (by decide) 5).trans ((F_298.1 70 (by decide) 5).trans ((F_291.1 70 (by decide) 5).trans ((F_278.1 70 (by decide) 5).trans ((sv_n _ (by decide)).trans hs_12)))))
        have e_402 : μ383.1 70 6 = y_23 := ((F_384.1 70 (by decide) 6).trans ((F_298.1 70 (by decide) 6).trans ((F_291.1 70 (by decide) 6).trans ((F_278.1 70 (by decide) 6).trans (sv_s _ _ _ _)))))
        have e_403 : μ383.1 70 7 = μ.1 70 7 := ((F_384.1 70 (by decide) 7).trans ((F_298.1 70 (by decide) 7).trans ((F_291.1 70 (by decide) 7).trans ((F_278.1 70 (by decide) 7).trans ((sv_n _ (by decide)).trans hs_14)))))
        have e_404 : μ383.1 70 8 = μ4.1 70 8 := ((F_384.1 70 (by decide) 8).trans ((F_298.1 70 (by decide) 8).trans ((F_291.1 70 (by decide) 8).trans ((F_278.1 70 (by decide) 8).trans (sv_n _ (by decide))))))
        refine xc_vV G (b := 32) (rest := []) (As := [.int (iv r_277)]) (c_X4_give ω l μ383 r_277 S (by unfold ir; omega) hI_385 (by omega) (by omega)) (wm 6 61 rfl rfl) (wm 6 63 rfl rfl) (wm 0 77 rfl rfl) rfl rfl (by decide) rfl (wm 1 14 rfl rfl) (wm 6 64 rfl rfl) (by decide) hR (by decide) (n := 1) rfl rfl (Nat.le_of_ble_eq_true rfl) hl.1 dX4_turnFailure_163 (fun μ405 ρ d0 H locs hp G => ?_)
        obtain ⟨F_406, hI_407, hp_408, hs_409, hs_410, hs_411, hs_412, hs_413, hs_414, hs_415, hs_416, hs_417, hs_418, hs_419, hs_420, hs_421, hs_422⟩ := hp
        have hk_423 := hI_407.row (r := 33) (by unfold isRow; decide)
        unfold rk at hk_423
        simp only [Int.reduceAdd] at hk_423
        refine lv_iload_n hx hb dX4_turnFailure_166 rfl (lv_at hl 4 rfl) ?_
        refine lv_iconst (v := iv 1) hx hb dX4_turnFailure_167 rfl ?_
        refine xb_icmp_ne (tgt := 176) hx hb (by unfold ir; omega) (by unfold ir; omega) dX4_turnFailure_168 (by decide) (fun c_168 => ?_) (fun c_168 => ?_)
        · have e_424 : μ405.1 70 2 = μ4.1 70 2 := (hs_416.trans ((F_384.1 70 (by decide) 2).trans ((F_298.1 70 (by decide) 2).trans ((F_291.1 70 (by decide) 2).trans ((F_278.1 70 (by decide) 2).trans (sv_n _ (by decide)))))))
          have e_425 : μ405.1 70 2 = μ4.1 70 2 := (hs_416.trans ((F_384.1 70 (by decide) 2).trans ((F_298.1 70 (by decide) 2).trans ((F_291.1 70 (by decide) 2).trans ((F_278.1 70 (by decide) 2).trans (sv_n _ (by decide)))))))
          have e_426 : μ405.1 70 8 = μ4.1 70 8 := (hs_422.trans ((F_384.1 70 (by decide) 8).trans ((F_298.1 70 (by decide) 8).trans ((F_291.1 70 (by decide) 8).trans ((F_278.1 70 (by decide) 8).trans (sv_n _ (by decide)))))))
          have e_427 : μ405.1 70 8 = μ4.1 70 8 := (hs_422.trans ((F_384.1 70 (by decide) 8).trans ((F_298.1 70 (by decide) 8).trans ((F_291.1 70 (by decide) 8).trans ((F_278.1 70 (by decide) 8).trans (sv_n _ (by decide)))))))
          have e_428 : μ405.1 45 1 = μ276.1 45 1 := ((F_406.1 45 (by decide) 1).trans ((F_384.1 45 (by decide) 1).trans ((F_298.1 45 (by decide) 1).trans (F_291.1 45 (by decide) 1))))
          have e_429 : μ405.1 70 2 = μ4.1 70 2 := (hs_416.trans ((F_384.1 70 (by decide) 2).trans ((F_298.1 70 (by decide) 2).trans ((F_291.1 70 (by decide) 2).trans ((F_278.1 70 (by decide) 2).trans (sv_n _ (by decide)))))))
          have e_430 : μ405.1 70 1 = μ.1 70 1 := (hs_415.trans ((F_384.1 70 (by decide) 1).trans ((F_298.1 70 (by decide) 1).trans ((F_291.1 70 (by decide) 1).trans ((F_278.1 70 (by decide) 1).trans ((sv_n _ (by decide)).trans hs_9))))))
          have e_431 : μ405.1 70 3 = μ.1 70 3 := (hs_417.trans ((F_384.1 70 (by decide) 3).trans ((F_298.1 70 (by decide) 3).trans ((F_291.1 70 (by decide) 3).trans ((F_278.1 70 (by decide) 3).trans ((sv_n _ (by decide)).trans hs_10))))))
          have e_432 : μ405.1 70 4 = μ.1 70 4 := (hs_418.trans ((F_384.1 70 (by decide) 4).trans ((F_298.1 70 (by decide) 4).trans ((F_291.1 70 (by decide) 4).trans ((F_278.1 70 (by decide) 4).trans ((sv_n _ (by decide)).trans hs_11))))))
          have e_433 : μ405.1 70 5 = μ.1 70 5 := (hs_419.trans ((F_384.1 70 (by decide) 5).trans ((F_298.1 70 (by decide) 5).trans ((F_291.1 70 (by decide) 5).trans ((F_278.1 70 (by decide) 5).trans ((sv_n _ (by decide)).trans hs_12))))))
          have e_434 : μ405.1 70 7 = μ.1 70 7 := (hs_421.trans ((F_384.1 70 (by decide) 7).trans ((F_298.1 70 (by decide) 7).trans ((F_291.1 70 (by decide) 7).trans ((F_278.1 70 (by decide) 7).trans ((sv_n _ (by decide)).trans hs_14))))))
          have e_435 : μ405.1 32 10 = μ.1 32 10 := (hs_409.trans ((F_384.1 32 (by decide) 10).trans ((F_298.1 32 (by decide) 10).trans ((F_291.1 32 (by decide) 10).trans ((F_278.1 32 (by decide) 10).trans ((sv_n _ (fun h9 => absurd h9.1 (by decide))).trans hs_16))))))
          have e_436 : μ405.1 32 11 = μ.1 32 11 := (hs_410.trans ((F_384.1 32 (by decide) 11).trans ((F_298.1 32 (by decide) 11).trans ((F_291.1 32 (by decide) 11).trans ((F_278.1 32 (by decide) 11).trans ((sv_n _ (fun h9 => absurd h9.1 (by decide))).trans hs_17))))))
          have e_437 : μ405.1 32 12 = μ.1 32 12 := (hs_411.trans ((F_384.1 32 (by decide) 12).trans ((F_298.1 32 (by decide) 12).trans ((F_291.1 32 (by decide) 12).trans ((F_278.1 32 (by decide) 12).trans ((sv_n _ (fun h9 => absurd h9.1 (by decide))).trans hs_18))))))
          have e_438 : μ405.1 32 15 = μ.1 32 15 := (hs_412.trans ((F_384.1 32 (by decide) 15).trans ((F_298.1 32 (by decide) 15).trans ((F_291.1 32 (by decide) 15).trans ((F_278.1 32 (by decide) 15).trans ((sv_n _ (fun h9 => absurd h9.1 (by decide))).trans hs_20))))))
          have e_439 : μ405.1 32 16 = μ.1 32 16 := (hs_413.trans ((F_384.1 32 (by decide) 16).trans ((F_298.1 32 (by decide) 16).trans ((F_291.1 32 (by decide) 16).trans ((F_278.1 32 (by decide) 16).trans ((sv_n _ (fun h9 => absurd h9.1 (by decide))).trans hs_21))))))
          have e_440 : μ405.1 45 4 = μ.1 45 4 := ((F_406.1 45 (by decide) 4).trans ((F_384.1 45 (by decide) 4).trans ((F_298.1 45 (by decide) 4).trans ((F_291.1 45 (by decide) 4).trans (hs_283.trans ((sv_n _ (fun h9 => absurd h9.1 (by decide))).trans (F_6.1 45 (by decide) 4)))))))
          exact xr_v G hret hlk dX4_turnFailure_176 ⟨(Fr.tr (Fr.tr (Fr.tr (Fr.tr (Fr.tr (Fr.put (Fr.tr Fr.rf F_6 (by decide)) (by decide)) F_278 (by decide)) F_291 (by decide)) F_298 (by decide)) F_384 (by decide)) F_406 (by decide)), hI_407, (by omega), (by omega), (by omega), (by omega), (by omega), (by omega), (by omega), (by omega), (by omega), (by omega), (by omega), (by omega), (by omega), (by omega)⟩
        · refine lv_aload_n hx hb dX4_turnFailure_171 rfl (lv_at hl 6 rfl) ?_
          refine lv_iconst (v := iv 2) hx hb dX4_turnFailure_172 rfl ?_
          refine xa_puti G fd_X4 (a := 32) (x := 2) 13 (kz := 13) rfl rfl (by decide) rfl (by unfold ir; omega) (wm 2 157 rfl rfl) ⟨rfl, rfl, rfl, rfl⟩ rfl dX4_turnFailure_173 rfl (fun H locs G => ?_)
          have hI_441 : IC (sv μ405 32 13 2) := (IC.put hI_407 (by decide +kernel))
          have e_442 : (sv μ405 32 13 2).1 33 3 = μ405.1 33 3 := (sv_n _ (fun h9 => absurd h9.1 (by decide)))
          have e_443 : (sv μ405 32 13 2).1 32 13 = 2 := (sv_s _ _ _ _)
          have e_444 : (sv μ405 32 13 2).1 33 3 = μ405.1 33 3 := (sv_n _ (fun h9 => absurd h9.1 (by decide)))
          have e_445 : (sv μ405 32 13 2).1 32 13 = 2 := (sv_s _ _ _ _)
          have e_446 : (sv μ405 32 13 2).1 32 13 = 2 := (sv_s _ _ _ _)
          have e_447 : (sv μ405 32 13 2).1 32 13 = 2 := (sv_s _ _ _ _)
          have e_448 : (sv μ405 32 13 2).1 70 2 = μ4.1 70 2 := ((sv_n _ (fun h9 => absurd h9.1 (by decide))).trans (hs_416.trans ((F_384.1 70 (by decide) 2).trans ((F_298.1 70 (by decide) 2).trans ((F_291.1 70 (by decide) 2).trans ((F_278.1 70 (by decide) 2).trans (sv_n _ (by decide))))))))
          have e_449 : (sv μ405 32 13 2).1 70 2 = μ4.1 70 2 := ((sv_n _ (fun h9 => absurd h9.1 (by decide))).trans (hs_416.trans ((F_384.1 70 (by decide) 2).trans ((F_298.1 70 (by decide) 2).trans ((F_291.1 70 (by decide) 2).trans ((F_278.1 70 (by decide) 2).trans (sv_n _ (by decide))))))))
          have e_450 : (sv μ405 32 13 2).1 70 8 = μ4.1 70 8 := ((sv_n _ (fun h9 => absurd h9.1 (by decide))).trans (hs_422.trans ((F_384.1 70 (by decide) 8).trans ((F_298.1 70 (by decide) 8).trans ((F_291.1 70 (by decide) 8).trans ((F_278.1 70 (by decide) 8).trans (sv_n _ (by decide))))))))
          have e_451 : (sv μ405 32 13 2).1 70 8 = μ4.1 70 8 := ((sv_n _ (fun h9 => absurd h9.1 (by decide))).trans (hs_422.trans ((F_384.1 70 (by decide) 8).trans ((F_298.1 70 (by decide) 8).trans ((F_291.1 70 (by decide) 8).trans ((F_278.1 70 (by decide) 8).trans (sv_n _ (by decide))))))))
          have e_452 : (sv μ405 32 13 2).1 45 1 = μ276.1 45 1 := ((sv_n _ (fun h9 => absurd h9.1 (by decide))).trans ((F_406.1 45 (by decide) 1).trans ((F_384.1 45 (by decide) 1).trans ((F_298.1 45 (by decide) 1).trans (F_291.1 45 (by decide) 1)))))
          have e_453 : (sv μ405 32 13 2).1 70 2 = μ4.1 70 2 := ((sv_n _ (fun h9 => absurd h9.1 (by decide))).trans (hs_416.trans ((F_384.1 70 (by decide) 2).trans ((F_298.1 70 (by decide) 2).trans ((F_291.1 70 (by decide) 2).trans ((F_278.1 70 (by decide) 2).trans (sv_n _ (by decide))))))))
          have e_454 : (sv μ405 32 13 2).1 32 13 = 2 := (sv_s _ _ _ _)
          have e_455 : (sv μ405 32 13 2).1 70 1 = μ.1 70 1 := ((sv_n _ (fun h9 => absurd h9.1 (by decide))).trans (hs_415.trans ((F_384.1 70 (by decide) 1).trans ((F_298.1 70 (by decide) 1).trans ((F_291.1 70 (by decide) 1).trans ((F_278.1 70 (by decide) 1).trans ((sv_n _ (by decide)).trans hs_9)))))))
          have e_456 : (sv μ405 32 13 2).1 70 3 = μ.1 70 3 := ((sv_n _ (fun h9 => absurd h9.1 (by decide))).trans (hs_417.trans ((F_384.1 70 (by decide) 3).trans ((F_298.1 70 (by decide) 3).trans ((F_291.1 70 (by decide) 3).trans ((F_278.1 70 (by decide) 3).trans ((sv_n _ (by decide)).trans hs_10)))))))
          have e_457 : (sv μ405 32 13 2).1 70 4 = μ.1 70 4 := ((sv_n _ (fun h9 => absurd h9.1 (by decide))).trans (hs_418.trans ((F_384.1 70 (by decide) 4).trans ((F_298.1 70 (by decide) 4).trans ((F_291.1 70 (by decide) 4).trans ((F_278.1 70 (by decide) 4).trans ((sv_n _ (by decide)).trans hs_11)))))))
          have e_458 : (sv μ405 32 13 2).1 70 5 = μ.1 70 5 := ((sv_n _ (fun h9 => absurd h9.1 (by decide))).trans (hs_419.trans ((F_384.1 70 (by decide) 5).trans ((F_298.1 70 (by decide) 5).trans ((F_291.1 70 (by decide) 5).trans ((F_278.1 70 (by decide) 5).trans ((sv_n _ (by decide)).trans hs_12)))))))
          have e_459 : (sv μ405 32 13 2).1 70 7 = μ.1 70 7 := ((sv_n _ (fun h9 => absurd h9.1 (by decide))).trans (hs_421.trans ((F_384.1 70 (by decide) 7).trans ((F_298.1 70 (by decide) 7).trans ((F_291.1 70 (by decide) 7).trans ((F_278.1 70 (by decide) 7).trans ((sv_n _ (by decide)).trans hs_14)))))))
          have e_460 : (sv μ405 32 13 2).1 32 10 = μ.1 32 10 := ((sv_n _ (by decide)).trans (hs_409.trans ((F_384.1 32 (by decide) 10).trans ((F_298.1 32 (by decide) 10).trans ((F_291.1 32 (by decide) 10).trans ((F_278.1 32 (by decide) 10).trans ((sv_n _ (fun h9 => absurd h9.1 (by decide))).trans hs_16)))))))
          have e_461 : (sv μ405 32 13 2).1 32 11 = μ.1 32 11 := ((sv_n _ (by decide)).trans (hs_410.trans ((F_384.1 32 (by decide) 11).trans ((F_298.1 32 (by decide) 11).trans ((F_291.1 32 (by decide) 11).trans ((F_278.1 32 (by decide) 11).trans ((sv_n _ (fun h9 => absurd h9.1 (by decide))).trans hs_17)))))))
          have e_462 : (sv μ405 32 13 2).1 32 12 = μ.1 32 12 := ((sv_n _ (by decide)).trans (hs_411.trans ((F_384.1 32 (by decide) 12).trans ((F_298.1 32 (by decide) 12).trans ((F_291.1 32 (by decide) 12).trans ((F_278.1 32 (by decide) 12).trans ((sv_n _ (fun h9 => absurd h9.1 (by decide))).trans hs_18)))))))
          have e_463 : (sv μ405 32 13 2).1 32 15 = μ.1 32 15 := ((sv_n _ (by decide)).trans (hs_412.trans ((F_384.1 32 (by decide) 15).trans ((F_298.1 32 (by decide) 15).trans ((F_291.1 32 (by decide) 15).trans ((F_278.1 32 (by decide) 15).trans ((sv_n _ (fun h9 => absurd h9.1 (by decide))).trans hs_20)))))))
          have e_464 : (sv μ405 32 13 2).1 32 16 = μ.1 32 16 := ((sv_n _ (by decide)).trans (hs_413.trans ((F_384.1 32 (by decide) 16).trans ((F_298.1 32 (by decide) 16).trans ((F_291.1 32 (by decide) 16).trans ((F_278.1 32 (by decide) 16).trans ((sv_n _ (fun h9 => absurd h9.1 (by decide))).trans hs_21)))))))
          have e_465 : (sv μ405 32 13 2).1 45 4 = μ.1 45 4 := ((sv_n _ (fun h9 => absurd h9.1 (by decide))).trans ((F_406.1 45 (by decide) 4).trans ((F_384.1 45 (by decide) 4).trans ((F_298.1 45 (by decide) 4).trans ((F_291.1 45 (by decide) 4).trans (hs_283.trans ((sv_n _ (fun h9 => absurd h9.1 (by decide))).trans (F_6.1 45 (by decide) 4))))))))
          exact xr_v G hret hlk dX4_turnFailure_176 ⟨(Fr.put (Fr.tr (Fr.tr (Fr.tr (Fr.tr (Fr.tr (Fr.put (Fr.tr Fr.rf F_6 (by decide)) (by decide)) F_278 (by decide)) F_291 (by decide)) F_298 (by decide)) F_384 (by decide)) F_406 (by decide)) (by decide)), hI_441, (by omega), (by omega), (by omega), (by omega), (by omega), (by omega), (by omega), (by omega), (by omega), (by omega), (by omega), (by omega), (by omega), (by omega)⟩
  · have e_466 : μ4.1 33 3 = S := ((F_6.1 33 (by decide) 3).trans hS.symm)
    have e_467 : μ4.1 33 3 = S := ((F_6.1 33 (by decide) 3).trans hS.symm)
    have e_468 : μ4.1 45 1 = μ.1 45 1 := (F_6.1 45 (by decide) 1)
    have e_469 : μ4.1 70 1 = μ.1 70 1 := hs_9
    have e_470 : μ4.1 70 3 = μ.1 70 3 := hs_10
    have e_471 : μ4.1 70 4 = μ.1 70 4 := hs_11
    have e_472 : μ4.1 70 5 = μ.1 70 5 := hs_12
    have e_473 : μ4.1 70 7 = μ.1 70 7 := hs_14
    have e_474 : μ4.1 32 10 = μ.1 32 10 := hs_16
    have e_475 : μ4.1 32 11 = μ.1 32 11 := hs_17
    have e_476 : μ4.1 32 12 = μ.1 32 12 := hs_18
    have e_477 : μ4.1 32 15 = μ.1 32 15 := hs_20
    have e_478 : μ4.1 32 16 = μ.1 32 16 := hs_21
    have e_479 : μ4.1 45 4 = μ.1 45 4 := (F_6.1 45 (by decide) 4)
    exact xr_v G hret hlk dX4_turnFailure_7 ⟨(Fr.tr Fr.rf F_6 (by decide)), hI_7, (by omega), (by omega), (by omega), (by omega), (by omega), (by omega), (by omega), (by omega), (by omega), (by omega), (by omega), (by omega), (by omega), (by omega)⟩

set_option maxHeartbeats 4000000 in
set_option maxRecDepth 100000 in
theorem c_X4_endWithAnswer (ω : Om) (l : Launch) (μ : M3) (hI : IC μ) : CtV ω l yX4_endWithAnswer cX4_endWithAnswer 4 2 43 [.ref (oP ω 32)] μ (fun (μ' : M3) => (Fr [70, 32] μ μ') ∧ (IC μ') ∧ (μ'.1 32 13 = 4) ∧ (μ'.1 70 2 = μ.1 70 2) ∧ (μ'.1 70 3 = μ.1 70 3) ∧ (μ'.1 70 4 = μ.1 70 4) ∧ (μ'.1 70 5 = μ.1 70 5) ∧ (μ'.1 70 6 = μ.1 70 6) ∧ (μ'.1 70 7 = μ.1 70 7) ∧ (μ'.1 70 8 = μ.1 70 8) ∧ (μ'.1 70 9 = μ.1 70 9) ∧ (μ'.1 32 10 = μ.1 32 10) ∧ (μ'.1 32 11 = μ.1 32 11) ∧ (μ'.1 32 12 = μ.1 32 12) ∧ (μ'.1 32 14 = μ.1 32 14)) := by
  refine CtV.go (by decide) (Nat.le_of_ble_eq_true rfl) (fun ρ p e s m below meth c R ls G hR hret hlk hl => ?_)
  have hx := G.1.1
  have hb := G.1.2.1
  have hl : lv_has ls 4 [(0, .ref (oP ω 32))] := hl
  generalize s.drawn = d0 at G ⊢
  have hk_1 := hI.row (r := 33) (by unfold isRow; decide)
  unfold rk at hk_1
  simp only [Int.reduceAdd] at hk_1
  have hbr_33 : BR 33 = 240100 := rfl
  have hk_2 := hI.row (r := 37) (by unfold isRow; decide)
  unfold rk at hk_2
  simp only [Int.reduceAdd] at hk_2
  have hbr_37 : BR 37 = 20410 := rfl
  refine lv_aload_n hx hb dX4_endWithAnswer_0 rfl (lv_at hl 0 rfl) ?_
  refine xa_getr G fd_X4 (a := 32) (x := 33) 3 rfl (by decide) rfl (wm 2 147 rfl rfl) ⟨rfl, rfl, rfl⟩ dX4_endWithAnswer_1 rfl (G.sk 36 rfl) (by decide) rfl ?_
  refine xc_iV G (b := 33) (rest := []) (As := []) (c_X9_kindOfTop ω l μ 33 (by unfold isRow; decide) hI) (wm 6 83 rfl rfl) (wm 5 152 rfl rfl) (wm 5 153 rfl rfl) rfl rfl (by decide) rfl (wm 1 10 rfl rfl) (wm 5 154 rfl rfl) (by decide) hR (by decide) (n := 0) rfl rfl (Nat.le_of_ble_eq_true rfl) hl.1 dX4_endWithAnswer_4 (fun r_4 μ3 ρ d0 H locs hr_r_4 hp G => ?_)
  have hr_r_4 : -2147483648 ≤ r_4 ∧ r_4 ≤ 2147483647 := hr_r_4
  have hsm_5 := hp
  have hsm_5 := Eq.symm hsm_5
  subst hsm_5
  refine lv_istore_n (lv' := [(1, .int (iv r_4)), (0, .ref (oP ω 32))]) hx hb dX4_endWithAnswer_7 rfl hl (by decide) rfl (fun ls hl => ?_)
  refine lv_aload_n hx hb dX4_endWithAnswer_8 rfl (lv_at hl 1 rfl) ?_
  refine xa_getr G fd_X4 (a := 32) (x := 33) 3 rfl (by decide) rfl (wm 2 147 rfl rfl) ⟨rfl, rfl, rfl⟩ dX4_endWithAnswer_9 rfl (G.sk 36 rfl) (by decide) rfl ?_
  refine lv_aload_n hx hb dX4_endWithAnswer_12 rfl (lv_at hl 1 rfl) ?_
  refine xc_iV G (b := 32) (rest := [.ref (oP ω 33)]) (As := []) (c_X4_top ω l μ (μ.1 33 3) hI (by omega)) (wm 6 73 rfl rfl) (wm 6 75 rfl rfl) (wm 0 80 rfl rfl) rfl rfl (by decide) rfl (wm 1 14 rfl rfl) (wm 6 76 rfl rfl) (by decide) hR (by decide) (n := 0) rfl rfl (Nat.le_of_ble_eq_true rfl) hl.1 dX4_endWithAnswer_13 (fun r_7 μ6 ρ d0 H locs hr_r_7 hp G => ?_)
  have hr_r_7 : -2147483648 ≤ r_7 ∧ r_7 ≤ 2147483647 := hr_r_7
  obtain ⟨hsm_8, hp_9⟩ := hp
  have hsm_8 := Eq.symm hsm_8
  subst hsm_8
  refine xc_lV G (b := 33) (rest := []) (As := [.int (iv r_7)]) (c_X9_whole ω l μ 33 r_7 (by unfold isRow; decide) (by unfold ir; omega) hI) (wm 6 84 rfl rfl) (wm 5 160 rfl rfl) (wm 5 161 rfl rfl) rfl rfl (by decide) rfl (wm 1 10 rfl rfl) (wm 5 162 rfl rfl) (by decide) hR (by decide) (n := 1) rfl rfl (Nat.le_of_ble_eq_true rfl) hl.1 dX4_endWithAnswer_16 (fun r_11 μ10 ρ d0 H locs hr_r_11 hp G => ?_)
  have hsm_12 := hp
  have hsm_12 := Eq.symm hsm_12
  subst hsm_12
  refine lv_lstore_n (lv' := [(2, .long (jv r_11)), (1, .int (iv r_4)), (0, .ref (oP ω 32))]) hx hb dX4_endWithAnswer_19 rfl hl (by decide) rfl (fun ls hl => ?_)
  refine lv_iload_n hx hb dX4_endWithAnswer_20 rfl (lv_at hl 1 rfl) ?_
  refine lv_iconst (v := iv 4) hx hb dX4_endWithAnswer_21 rfl ?_
  refine xb_icmp_ne (tgt := 37) hx hb (by unfold ir; omega) (by unfold ir; omega) dX4_endWithAnswer_22 (by decide) (fun c_22 => ?_) (fun c_22 => ?_)
  · refine lv_aload_n hx hb dX4_endWithAnswer_37 rfl (lv_at hl 2 rfl) ?_
    refine xa_getr G fd_X4 (a := 32) (x := 70) 9 rfl (by decide) rfl (wm 2 153 rfl rfl) ⟨rfl, rfl, rfl⟩ dX4_endWithAnswer_38 rfl (G.sk 42 rfl) (by decide) rfl ?_
    refine lv_iconst (v := iv 1) hx hb dX4_endWithAnswer_41 rfl ?_
    refine lv_iload_n hx hb dX4_endWithAnswer_42 rfl (lv_at hl 1 rfl) ?_
    refine xa_iast G (a := 70) (i := 1) (x := r_4) rfl (by have h9 := G.lc (a := 70) (n := 10) 33 rfl; omega) (by unfold ir; omega) dX4_endWithAnswer_43 rfl (fun H locs G => ?_)
    refine lv_iload_n hx hb dX4_endWithAnswer_44 rfl (lv_at hl 1 rfl) ?_
    refine lv_iconst (v := iv 2) hx hb dX4_endWithAnswer_45 rfl ?_
    refine xb_icmp_ne (tgt := 62) hx hb (by unfold ir; omega) (by unfold ir; omega) dX4_endWithAnswer_46 (by decide) (fun c_46 => ?_) (fun c_46 => ?_)
    · refine lv_iload_n hx hb dX4_endWithAnswer_62 rfl (lv_at hl 1 rfl) ?_
      refine lv_iconst (v := iv 1) hx hb dX4_endWithAnswer_63 rfl ?_
      refine xb_icmp_ne (tgt := 99) hx hb (by unfold ir; omega) (by unfold ir; omega) dX4_endWithAnswer_64 (by decide) (fun c_64 => ?_) (fun c_64 => ?_)
      · refine lv_aload_n hx hb dX4_endWithAnswer_99 rfl (lv_at hl 2 rfl) ?_
        refine lv_lload_n hx hb dX4_endWithAnswer_100 rfl (lv_at hl 0 rfl) ?_
        refine xa_putl G fd_X4 (a := 32) (x := r_11) 16 (kz := 16) rfl rfl (by decide) rfl hr_r_11 (wm 2 160 rfl rfl) ⟨rfl, rfl, rfl, rfl⟩ rfl dX4_endWithAnswer_101 rfl (fun H locs G => ?_)
        refine lv_aload_n hx hb dX4_endWithAnswer_104 rfl (lv_at hl 2 rfl) ?_
        refine lv_iconst (v := iv 0) hx hb dX4_endWithAnswer_105 rfl ?_
        have hI_13 : IC (sv (sv μ 70 1 r_4) 32 16 r_11) := (IC.put (IC.pua hI (by decide)) (by decide +kernel))
        have e_14 : (sv (sv μ 70 1 r_4) 32 16 r_11).1 70 1 = r_4 := ((sv_n _ (fun h9 => absurd h9.1 (by decide))).trans (sv_s _ _ _ _))
        have e_15 : (sv (sv μ 70 1 r_4) 32 16 r_11).1 70 2 = μ.1 70 2 := ((sv_n _ (fun h9 => absurd h9.1 (by decide))).trans (sv_n _ (by decide)))
        have e_16 : (sv (sv μ 70 1 r_4) 32 16 r_11).1 70 3 = μ.1 70 3 := ((sv_n _ (fun h9 => absurd h9.1 (by decide))).trans (sv_n _ (by decide)))
        have e_17 : (sv (sv μ 70 1 r_4) 32 16 r_11).1 70 4 = μ.1 70 4 := ((sv_n _ (fun h9 => absurd h9.1 (by decide))).trans (sv_n _ (by decide)))
        have e_18 : (sv (sv μ 70 1 r_4) 32 16 r_11).1 70 5 = μ.1 70 5 := ((sv_n _ (fun h9 => absurd h9.1 (by decide))).trans (sv_n _ (by decide)))
        have e_19 : (sv (sv μ 70 1 r_4) 32 16 r_11).1 70 6 = μ.1 70 6 := ((sv_n _ (fun h9 => absurd h9.1 (by decide))).trans (sv_n _ (by decide)))
        have e_20 : (sv (sv μ 70 1 r_4) 32 16 r_11).1 70 7 = μ.1 70 7 := ((sv_n _ (fun h9 => absurd h9.1 (by decide))).trans (sv_n _ (by decide)))
        have e_21 : (sv (sv μ 70 1 r_4) 32 16 r_11).1 70 8 = μ.1 70 8 := ((sv_n _ (fun h9 => absurd h9.1 (by decide))).trans (sv_n _ (by decide)))
        have e_22 : (sv (sv μ 70 1 r_4) 32 16 r_11).1 70 9 = μ.1 70 9 := ((sv_n _ (fun h9 => absurd h9.1 (by decide))).trans (sv_n _ (by decide)))
        have e_23 : (sv (sv μ 70 1 r_4) 32 16 r_11).1 32 10 = μ.1 32 10 := ((sv_n _ (by decide)).trans (sv_n _ (fun h9 => absurd h9.1 (by decide))))
        have e_24 : (sv (sv μ 70 1 r_4) 32 16 r_11).1 32 11 = μ.1 32 11 := ((sv_n _ (by decide)).trans (sv_n _ (fun h9 => absurd h9.1 (by decide))))
        have e_25 : (sv (sv μ 70 1 r_4) 32 16 r_11).1 32 12 = μ.1 32 12 := ((sv_n _ (by decide)).trans (sv_n _ (fun h9 => absurd h9.1 (by decide))))
        have e_26 : (sv (sv μ 70 1 r_4) 32 16 r_11).1 32 14 = μ.1 32 14 := ((sv_n _ (by decide)).trans (sv_n _ (fun h9 => absurd h9.1 (by decide))))
        have e_27 : (sv (sv μ 70 1 r_4) 32 16 r_11).1 32 15 = μ.1 32 15 := ((sv_n _ (by decide)).trans (sv_n _ (fun h9 => absurd h9.1 (by decide))))
        have e_28 : (sv (sv μ 70 1 r_4) 32 16 r_11).1 32 16 = r_11 := (sv_s _ _ _ _)
        refine xc_vV G (b := 32) (rest := []) (As := [.int (iv 0)]) (c_X4_end ω l (sv (sv μ 70 1 r_4) 32 16 r_11) 0 (by unfold ir; omega) hI_13) (wm 5 214 rfl rfl) (wm 5 216 rfl rfl) (wm 0 72 rfl rfl) rfl rfl (by decide) rfl (wm 1 14 rfl rfl) (wm 5 217 rfl rfl) (by decide) hR (by decide) (n := 1) rfl rfl (Nat.le_of_ble_eq_true rfl) hl.1 dX4_endWithAnswer_106 (fun μ29 ρ d0 H locs hp G => ?_)
        obtain ⟨F_30, hI_31, hp_32, hs_33, hs_34, hs_35, hs_36, hs_37, hs_38, hs_39, hs_40, hs_41, hs_42, hs_43, hs_44, hs_45, hs_46, hs_47⟩ := hp
        have e_48 : μ29.1 70 2 = μ.1 70 2 := (hs_34.trans ((sv_n _ (fun h9 => absurd h9.1 (by decide))).trans (sv_n _ (by decide))))
        have e_49 : μ29.1 70 3 = μ.1 70 3 := (hs_35.trans ((sv_n _ (fun h9 => absurd h9.1 (by decide))).trans (sv_n _ (by decide))))
        have e_50 : μ29.1 70 4 = μ.1 70 4 := (hs_36.trans ((sv_n _ (fun h9 => absurd h9.1 (by decide))).trans (sv_n _ (by decide))))
        have e_51 : μ29.1 70 5 = μ.1 70 5 := (hs_37.trans ((sv_n _ (fun h9 => absurd h9.1 (by decide))).trans (sv_n _ (by decide))))
        have e_52 : μ29.1 70 6 = μ.1 70 6 := (hs_38.trans ((sv_n _ (fun h9 => absurd h9.1 (by decide))).trans (sv_n _ (by decide))))
        have e_53 : μ29.1 70 7 = μ.1 70 7 := (hs_39.trans ((sv_n _ (fun h9 => absurd h9.1 (by decide))).trans (sv_n _ (by decide))))
        have e_54 : μ29.1 70 8 = μ.1 70 8 := (hs_40.trans ((sv_n _ (fun h9 => absurd h9.1 (by decide))).trans (sv_n _ (by decide))))
        have e_55 : μ29.1 70 9 = μ.1 70 9 := (hs_41.trans ((sv_n _ (fun h9 => absurd h9.1 (by decide))).trans (sv_n _ (by decide))))
        have e_56 : μ29.1 32 10 = μ.1 32 10 := (hs_42.trans ((sv_n _ (by decide)).trans (sv_n _ (fun h9 => absurd h9.1 (by decide)))))
        have e_57 : μ29.1 32 11 = μ.1 32 11 := (hs_43.trans ((sv_n _ (by decide)).trans (sv_n _ (fun h9 => absurd h9.1 (by decide)))))
        have e_58 : μ29.1 32 12 = μ.1 32 12 := (hs_44.trans ((sv_n _ (by decide)).trans (sv_n _ (fun h9 => absurd h9.1 (by decide)))))
        have e_59 : μ29.1 32 14 = μ.1 32 14 := (hs_45.trans ((sv_n _ (by decide)).trans (sv_n _ (fun h9 => absurd h9.1 (by decide)))))
        exact xr_v G hret hlk dX4_endWithAnswer_109 ⟨(Fr.tr (Fr.put (Fr.put Fr.rf (by decide)) (by decide)) F_30 (by decide)), hI_31, (by omega), (by omega), (by omega), (by omega), (by omega), (by omega), (by omega), (by omega), (by omega), (by omega), (by omega), (by omega), (by omega)⟩
      · refine lv_aload_n hx hb dX4_endWithAnswer_67 rfl (lv_at hl 2 rfl) ?_
        refine xa_getr G fd_X4 (a := 32) (x := 52) 7 rfl (by decide) rfl (wm 2 151 rfl rfl) ⟨rfl, rfl, rfl⟩ dX4_endWithAnswer_68 rfl (G.sk 40 rfl) (by decide) rfl ?_
        have hI_60 : IC (sv μ 70 1 r_4) := (IC.pua hI (by decide))
        have e_61 : ofF (sv μ 70 1 r_4) 53 = ofF μ 53 := (ofF_sv μ (by decide) (by decide))
        refine xc_iV G (b := 52) (rest := []) (As := []) (c_X2_tongue ω l (sv μ 70 1 r_4)  hI_60) (wm 5 218 rfl rfl) (wm 5 219 rfl rfl) (wm 5 220 rfl rfl) rfl rfl (by decide) rfl (wm 1 16 rfl rfl) (wm 5 221 rfl rfl) (by decide) hR (by decide) (n := 0) rfl rfl (Nat.le_of_ble_eq_true rfl) hl.1 dX4_endWithAnswer_71 (fun r_63 μ62 ρ d0 H locs hr_r_63 hp G => ?_)
        have hr_r_63 : -2147483648 ≤ r_63 ∧ r_63 ≤ 2147483647 := hr_r_63
        obtain ⟨hsm_64, hp_65⟩ := hp
        have hsm_64 := Eq.symm hsm_64
        subst hsm_64
        refine lv_iconst (v := iv 3) hx hb dX4_endWithAnswer_74 rfl ?_
        refine xb_icmp_ne (tgt := 99) hx hb (by unfold ir; omega) (by unfold ir; omega) dX4_endWithAnswer_75 (by decide) (fun c_75 => ?_) (fun c_75 => ?_)
        · refine lv_aload_n hx hb dX4_endWithAnswer_99 rfl (lv_at hl 2 rfl) ?_
          refine lv_lload_n hx hb dX4_endWithAnswer_100 rfl (lv_at hl 0 rfl) ?_
          refine xa_putl G fd_X4 (a := 32) (x := r_11) 16 (kz := 16) rfl rfl (by decide) rfl hr_r_11 (wm 2 160 rfl rfl) ⟨rfl, rfl, rfl, rfl⟩ rfl dX4_endWithAnswer_101 rfl (fun H locs G => ?_)
          refine lv_aload_n hx hb dX4_endWithAnswer_104 rfl (lv_at hl 2 rfl) ?_
          refine lv_iconst (v := iv 0) hx hb dX4_endWithAnswer_105 rfl ?_
          have hI_66 : IC (sv (sv μ 70 1 r_4) 32 16 r_11) := (IC.put hI_60 (by decide +kernel))
          have e_67 : (sv (sv μ 70 1 r_4) 32 16 r_11).1 70 1 = r_4 := ((sv_n _ (fun h9 => absurd h9.1 (by decide))).trans (sv_s _ _ _ _))
          have e_68 : (sv (sv μ 70 1 r_4) 32 16 r_11).1 70 2 = μ.1 70 2 := ((sv_n _ (fun h9 => absurd h9.1 (by decide))).trans (sv_n _ (by decide)))
          have e_69 : (sv (sv μ 70 1 r_4) 32 16 r_11).1 70 3 = μ.1 70 3 := ((sv_n _ (fun h9 => absurd h9.1 (by decide))).trans (sv_n _ (by decide)))
          have e_70 : (sv (sv μ 70 1 r_4) 32 16 r_11).1 70 4 = μ.1 70 4 := ((sv_n _ (fun h9 => absurd h9.1 (by decide))).trans (sv_n _ (by decide)))
          have e_71 : (sv (sv μ 70 1 r_4) 32 16 r_11).1 70 5 = μ.1 70 5 := ((sv_n _ (fun h9 => absurd h9.1 (by decide))).trans (sv_n _ (by decide)))
          have e_72 : (sv (sv μ 70 1 r_4) 32 16 r_11).1 70 6 = μ.1 70 6 := ((sv_n _ (fun h9 => absurd h9.1 (by decide))).trans (sv_n _ (by decide)))
          have e_73 : (sv (sv μ 70 1 r_4) 32 16 r_11).1 70 7 = μ.1 70 7 := ((sv_n _ (fun h9 => absurd h9.1 (by decide))).trans (sv_n _ (by decide)))
          have e_74 : (sv (sv μ 70 1 r_4) 32 16 r_11).1 70 8 = μ.1 70 8 := ((sv_n _ (fun h9 => absurd h9.1 (by decide))).trans (sv_n _ (by decide)))
          have e_75 : (sv (sv μ 70 1 r_4) 32 16 r_11).1 70 9 = μ.1 70 9 := ((sv_n _ (fun h9 => absurd h9.1 (by decide))).trans (sv_n _ (by decide)))
          have e_76 : (sv (sv μ 70 1 r_4) 32 16 r_11).1 32 10 = μ.1 32 10 := ((sv_n _ (by decide)).trans (sv_n _ (fun h9 => absurd h9.1 (by decide))))
          have e_77 : (sv (sv μ 70 1 r_4) 32 16 r_11).1 32 11 = μ.1 32 11 := ((sv_n _ (by decide)).trans (sv_n _ (fun h9 => absurd h9.1 (by decide))))
          have e_78 : (sv (sv μ 70 1 r_4) 32 16 r_11).1 32 12 = μ.1 32 12 := ((sv_n _ (by decide)).trans (sv_n _ (fun h9 => absurd h9.1 (by decide))))
          have e_79 : (sv (sv μ 70 1 r_4) 32 16 r_11).1 32 14 = μ.1 32 14 := ((sv_n _ (by decide)).trans (sv_n _ (fun h9 => absurd h9.1 (by decide))))
          have e_80 : (sv (sv μ 70 1 r_4) 32 16 r_11).1 32 15 = μ.1 32 15 := ((sv_n _ (by decide)).trans (sv_n _ (fun h9 => absurd h9.1 (by decide))))
          have e_81 : (sv (sv μ 70 1 r_4) 32 16 r_11).1 32 16 = r_11 := (sv_s _ _ _ _)
          refine xc_vV G (b := 32) (rest := []) (As := [.int (iv 0)]) (c_X4_end ω l (sv (sv μ 70 1 r_4) 32 16 r_11) 0 (by unfold ir; omega) hI_66) (wm 5 214 rfl rfl) (wm 5 216 rfl rfl) (wm 0 72 rfl rfl) rfl rfl (by decide) rfl (wm 1 14 rfl rfl) (wm 5 217 rfl rfl) (by decide) hR (by decide) (n := 1) rfl rfl (Nat.le_of_ble_eq_true rfl) hl.1 dX4_endWithAnswer_106 (fun μ82 ρ d0 H locs hp G => ?_)
          obtain ⟨F_83, hI_84, hp_85, hs_86, hs_87, hs_88, hs_89, hs_90, hs_91, hs_92, hs_93, hs_94, hs_95, hs_96, hs_97, hs_98, hs_99, hs_100⟩ := hp
          have e_101 : μ82.1 70 2 = μ.1 70 2 := (hs_87.trans ((sv_n _ (fun h9 => absurd h9.1 (by decide))).trans (sv_n _ (by decide))))
          have e_102 : μ82.1 70 3 = μ.1 70 3 := (hs_88.trans ((sv_n _ (fun h9 => absurd h9.1 (by decide))).trans (sv_n _ (by decide))))
          have e_103 : μ82.1 70 4 = μ.1 70 4 := (hs_89.trans ((sv_n _ (fun h9 => absurd h9.1 (by decide))).trans (sv_n _ (by decide))))
          have e_104 : μ82.1 70 5 = μ.1 70 5 := (hs_90.trans ((sv_n _ (fun h9 => absurd h9.1 (by decide))).trans (sv_n _ (by decide))))
          have e_105 : μ82.1 70 6 = μ.1 70 6 := (hs_91.trans ((sv_n _ (fun h9 => absurd h9.1 (by decide))).trans (sv_n _ (by decide))))
          have e_106 : μ82.1 70 7 = μ.1 70 7 := (hs_92.trans ((sv_n _ (fun h9 => absurd h9.1 (by decide))).trans (sv_n _ (by decide))))
          have e_107 : μ82.1 70 8 = μ.1 70 8 := (hs_93.trans ((sv_n _ (fun h9 => absurd h9.1 (by decide))).trans (sv_n _ (by decide))))
          have e_108 : μ82.1 70 9 = μ.1 70 9 := (hs_94.trans ((sv_n _ (fun h9 => absurd h9.1 (by decide))).trans (sv_n _ (by decide))))
          have e_109 : μ82.1 32 10 = μ.1 32 10 := (hs_95.trans ((sv_n _ (by decide)).trans (sv_n _ (fun h9 => absurd h9.1 (by decide)))))
          have e_110 : μ82.1 32 11 = μ.1 32 11 := (hs_96.trans ((sv_n _ (by decide)).trans (sv_n _ (fun h9 => absurd h9.1 (by decide)))))
          have e_111 : μ82.1 32 12 = μ.1 32 12 := (hs_97.trans ((sv_n _ (by decide)).trans (sv_n _ (fun h9 => absurd h9.1 (by decide)))))
          have e_112 : μ82.1 32 14 = μ.1 32 14 := (hs_98.trans ((sv_n _ (by decide)).trans (sv_n _ (fun h9 => absurd h9.1 (by decide)))))
          exact xr_v G hret hlk dX4_endWithAnswer_109 ⟨(Fr.tr (Fr.put (Fr.put Fr.rf (by decide)) (by decide)) F_83 (by decide)), hI_84, (by omega), (by omega), (by omega), (by omega), (by omega), (by omega), (by omega), (by omega), (by omega), (by omega), (by omega), (by omega), (by omega)⟩
        · refine lv_aload_n hx hb dX4_endWithAnswer_78 rfl (lv_at hl 2 rfl) ?_
          refine lv_aload_n hx hb dX4_endWithAnswer_79 rfl (lv_at hl 2 rfl) ?_
          refine xa_getr G fd_X4 (a := 32) (x := 33) 3 rfl (by decide) rfl (wm 2 147 rfl rfl) ⟨rfl, rfl, rfl⟩ dX4_endWithAnswer_80 rfl (G.sk 36 rfl) (by decide) rfl ?_
          refine lv_aload_n hx hb dX4_endWithAnswer_83 rfl (lv_at hl 2 rfl) ?_
          have e_113 : (sv μ 70 1 r_4).1 33 3 = μ.1 33 3 := (sv_n _ (fun h9 => absurd h9.1 (by decide)))
          have e_114 : (sv μ 70 1 r_4).1 33 3 = μ.1 33 3 := (sv_n _ (fun h9 => absurd h9.1 (by decide)))
          have e_115 : (sv μ 70 1 r_4).1 33 3 = μ.1 33 3 := (sv_n _ (fun h9 => absurd h9.1 (by decide)))
          refine xc_iV G (b := 32) (rest := [.ref (oP ω 33), .ref (oP ω 32)]) (As := []) (c_X4_top ω l (sv μ 70 1 r_4) (μ.1 33 3) hI_60 (by omega)) (wm 6 73 rfl rfl) (wm 6 75 rfl rfl) (wm 0 80 rfl rfl) rfl rfl (by decide) rfl (wm 1 14 rfl rfl) (wm 6 76 rfl rfl) (by decide) hR (by decide) (n := 0) rfl rfl (Nat.le_of_ble_eq_true rfl) hl.1 dX4_endWithAnswer_84 (fun r_117 μ116 ρ d0 H locs hr_r_117 hp G => ?_)
          have hr_r_117 : -2147483648 ≤ r_117 ∧ r_117 ≤ 2147483647 := hr_r_117
          obtain ⟨hsm_118, hp_119⟩ := hp
          have hsm_118 := Eq.symm hsm_118
          subst hsm_118
          refine xc_dV G (b := 33) (rest := [.ref (oP ω 32)]) (As := [.int (iv r_117)]) (c_X9_real ω l (sv μ 70 1 r_4) 33 r_117 (by unfold isRow; decide) (by unfold ir; omega) hI_60) (wm 6 106 rfl rfl) (wm 5 206 rfl rfl) (wm 5 207 rfl rfl) rfl rfl (by decide) rfl (wm 1 10 rfl rfl) (wm 5 208 rfl rfl) (by decide) hR (by decide) (n := 1) rfl rfl (Nat.le_of_ble_eq_true rfl) hl.1 dX4_endWithAnswer_87 (fun r_121 μ120 ρ d0 H locs hp G => ?_)
          have hsm_122 := hp
          have hsm_122 := Eq.symm hsm_122
          subst hsm_122
          refine xc_lS G (rest := [.ref (oP ω 32)]) (As := [.double (dv r_121)]) (c_X6_bits ω l (sv μ 70 1 r_4) r_121 ) (wm 6 107 rfl rfl) (wm 6 108 rfl rfl) (wm 1 20 rfl rfl) (wm 6 109 rfl rfl) (by decide) hR (by decide) (n := 1) rfl rfl (Nat.le_of_ble_eq_true rfl) hl.1 dX4_endWithAnswer_90 (fun r_124 μ123 ρ d0 H locs hr_r_124 hp G => ?_)
          have hsm_125 := hp
          have hsm_125 := Eq.symm hsm_125
          subst hsm_125
          refine xa_putl G fd_X4 (a := 32) (x := r_124) 16 (kz := 16) rfl rfl (by decide) rfl hr_r_124 (wm 2 160 rfl rfl) ⟨rfl, rfl, rfl, rfl⟩ rfl dX4_endWithAnswer_93 rfl (fun H locs G => ?_)
          refine lv_goto (tgt := 104) hx hb dX4_endWithAnswer_96 (by decide) ?_
          refine lv_aload_n hx hb dX4_endWithAnswer_104 rfl (lv_at hl 2 rfl) ?_
          refine lv_iconst (v := iv 0) hx hb dX4_endWithAnswer_105 rfl ?_
          have hI_126 : IC (sv (sv μ 70 1 r_4) 32 16 r_124) := (IC.put hI_60 (by decide +kernel))
          have e_127 : (sv (sv μ 70 1 r_4) 32 16 r_124).1 70 1 = r_4 := ((sv_n _ (fun h9 => absurd h9.1 (by decide))).trans (sv_s _ _ _ _))
          have e_128 : (sv (sv μ 70 1 r_4) 32 16 r_124).1 70 2 = μ.1 70 2 := ((sv_n _ (fun h9 => absurd h9.1 (by decide))).trans (sv_n _ (by decide)))
          have e_129 : (sv (sv μ 70 1 r_4) 32 16 r_124).1 70 3 = μ.1 70 3 := ((sv_n _ (fun h9 => absurd h9.1 (by decide))).trans (sv_n _ (by decide)))
          have e_130 : (sv (sv μ 70 1 r_4) 32 16 r_124).1 70 4 = μ.1 70 4 := ((sv_n _ (fun h9 => absurd h9.1 (by decide))).trans (sv_n _ (by decide)))
          have e_131 : (sv (sv μ 70 1 r_4) 32 16 r_124).1 70 5 = μ.1 70 5 := ((sv_n _ (fun h9 => absurd h9.1 (by decide))).trans (sv_n _ (by decide)))
          have e_132 : (sv (sv μ 70 1 r_4) 32 16 r_124).1 70 6 = μ.1 70 6 := ((sv_n _ (fun h9 => absurd h9.1 (by decide))).trans (sv_n _ (by decide)))
          have e_133 : (sv (sv μ 70 1 r_4) 32 16 r_124).1 70 7 = μ.1 70 7 := ((sv_n _ (fun h9 => absurd h9.1 (by decide))).trans (sv_n _ (by decide)))
          have e_134 : (sv (sv μ 70 1 r_4) 32 16 r_124).1 70 8 = μ.1 70 8 := ((sv_n _ (fun h9 => absurd h9.1 (by decide))).trans (sv_n _ (by decide)))
          have e_135 : (sv (sv μ 70 1 r_4) 32 16 r_124).1 70 9 = μ.1 70 9 := ((sv_n _ (fun h9 => absurd h9.1 (by decide))).trans (sv_n _ (by decide)))
          have e_136 : (sv (sv μ 70 1 r_4) 32 16 r_124).1 32 10 = μ.1 32 10 := ((sv_n _ (by decide)).trans (sv_n _ (fun h9 => absurd h9.1 (by decide))))
          have e_137 : (sv (sv μ 70 1 r_4) 32 16 r_124).1 32 11 = μ.1 32 11 := ((sv_n _ (by decide)).trans (sv_n _ (fun h9 => absurd h9.1 (by decide))))
          have e_138 : (sv (sv μ 70 1 r_4) 32 16 r_124).1 32 12 = μ.1 32 12 := ((sv_n _ (by decide)).trans (sv_n _ (fun h9 => absurd h9.1 (by decide))))
          have e_139 : (sv (sv μ 70 1 r_4) 32 16 r_124).1 32 14 = μ.1 32 14 := ((sv_n _ (by decide)).trans (sv_n _ (fun h9 => absurd h9.1 (by decide))))
          have e_140 : (sv (sv μ 70 1 r_4) 32 16 r_124).1 32 15 = μ.1 32 15 := ((sv_n _ (by decide)).trans (sv_n _ (fun h9 => absurd h9.1 (by decide))))
          have e_141 : (sv (sv μ 70 1 r_4) 32 16 r_124).1 32 16 = r_124 := (sv_s _ _ _ _)
          refine xc_vV G (b := 32) (rest := []) (As := [.int (iv 0)]) (c_X4_end ω l (sv (sv μ 70 1 r_4) 32 16 r_124) 0 (by unfold ir; omega) hI_126) (wm 5 214 rfl rfl) (wm 5 216 rfl rfl) (wm 0 72 rfl rfl) rfl rfl (by decide) rfl (wm 1 14 rfl rfl) (wm 5 217 rfl rfl) (by decide) hR (by decide) (n := 1) rfl rfl (Nat.le_of_ble_eq_true rfl) hl.1 dX4_endWithAnswer_106 (fun μ142 ρ d0 H locs hp G => ?_)
          obtain ⟨F_143, hI_144, hp_145, hs_146, hs_147, hs_148, hs_149, hs_150, hs_151, hs_152, hs_153, hs_154, hs_155, hs_156, hs_157, hs_158, hs_159, hs_160⟩ := hp
          have e_161 : μ142.1 70 2 = μ.1 70 2 := (hs_147.trans ((sv_n _ (fun h9 => absurd h9.1 (by decide))).trans (sv_n _ (by decide))))
          have e_162 : μ142.1 70 3 = μ.1 70 3 := (hs_148.trans ((sv_n _ (fun h9 => absurd h9.1 (by decide))).trans (sv_n _ (by decide))))
          have e_163 : μ142.1 70 4 = μ.1 70 4 := (hs_149.trans ((sv_n _ (fun h9 => absurd h9.1 (by decide))).trans (sv_n _ (by decide))))
          have e_164 : μ142.1 70 5 = μ.1 70 5 := (hs_150.trans ((sv_n _ (fun h9 => absurd h9.1 (by decide))).trans (sv_n _ (by decide))))
          have e_165 : μ142.1 70 6 = μ.1 70 6 := (hs_151.trans ((sv_n _ (fun h9 => absurd h9.1 (by decide))).trans (sv_n _ (by decide))))
          have e_166 : μ142.1 70 7 = μ.1 70 7 := (hs_152.trans ((sv_n _ (fun h9 => absurd h9.1 (by decide))).trans (sv_n _ (by decide))))
          have e_167 : μ142.1 70 8 = μ.1 70 8 := (hs_153.trans ((sv_n _ (fun h9 => absurd h9.1 (by decide))).trans (sv_n _ (by decide))))
          have e_168 : μ142.1 70 9 = μ.1 70 9 := (hs_154.trans ((sv_n _ (fun h9 => absurd h9.1 (by decide))).trans (sv_n _ (by decide))))
          have e_169 : μ142.1 32 10 = μ.1 32 10 := (hs_155.trans ((sv_n _ (by decide)).trans (sv_n _ (fun h9 => absurd h9.1 (by decide)))))
          have e_170 : μ142.1 32 11 = μ.1 32 11 := (hs_156.trans ((sv_n _ (by decide)).trans (sv_n _ (fun h9 => absurd h9.1 (by decide)))))
          have e_171 : μ142.1 32 12 = μ.1 32 12 := (hs_157.trans ((sv_n _ (by decide)).trans (sv_n _ (fun h9 => absurd h9.1 (by decide)))))
          have e_172 : μ142.1 32 14 = μ.1 32 14 := (hs_158.trans ((sv_n _ (by decide)).trans (sv_n _ (fun h9 => absurd h9.1 (by decide)))))
          exact xr_v G hret hlk dX4_endWithAnswer_109 ⟨(Fr.tr (Fr.put (Fr.put Fr.rf (by decide)) (by decide)) F_143 (by decide)), hI_144, (by omega), (by omega), (by omega), (by omega), (by omega), (by omega), (by omega), (by omega), (by omega), (by omega), (by omega), (by omega), (by omega)⟩
    · refine lv_aload_n hx hb dX4_endWithAnswer_49 rfl (lv_at hl 2 rfl) ?_
      refine lv_aload_n hx hb dX4_endWithAnswer_50 rfl (lv_at hl 2 rfl) ?_
      refine lv_lload_n hx hb dX4_endWithAnswer_51 rfl (lv_at hl 0 rfl) ?_
      have hI_173 : IC (sv μ 70 1 r_4) := (IC.pua hI (by decide))
      refine xc_iV G (b := 32) (rest := [.ref (oP ω 32)]) (As := [.long (jv r_11)]) (c_X4_lengthAt ω l (sv μ 70 1 r_4) r_11 hr_r_11 hI_173) (wm 6 101 rfl rfl) (wm 6 103 rfl rfl) (wm 0 84 rfl rfl) rfl rfl (by decide) rfl (wm 1 14 rfl rfl) (wm 6 104 rfl rfl) (by decide) hR (by decide) (n := 1) rfl rfl (Nat.le_of_ble_eq_true rfl) hl.1 dX4_endWithAnswer_52 (fun r_175 μ174 ρ d0 H locs hr_r_175 hp G => ?_)
      have hr_r_175 : -2147483648 ≤ r_175 ∧ r_175 ≤ 2147483647 := hr_r_175
      have hsm_176 := hp
      have hsm_176 := Eq.symm hsm_176
      subst hsm_176
      refine xb_i2l hx hb (by unfold ir; omega) dX4_endWithAnswer_55 ?_
      refine xa_putl G fd_X4 (a := 32) (x := r_175) 16 (kz := 16) rfl rfl (by decide) rfl (by unfold jr; omega) (wm 2 160 rfl rfl) ⟨rfl, rfl, rfl, rfl⟩ rfl dX4_endWithAnswer_56 rfl (fun H locs G => ?_)
      refine lv_goto (tgt := 104) hx hb dX4_endWithAnswer_59 (by decide) ?_
      refine lv_aload_n hx hb dX4_endWithAnswer_104 rfl (lv_at hl 2 rfl) ?_
      refine lv_iconst (v := iv 0) hx hb dX4_endWithAnswer_105 rfl ?_
      have hI_177 : IC (sv (sv μ 70 1 r_4) 32 16 r_175) := (IC.put hI_173 (by decide +kernel))
      have e_178 : (sv (sv μ 70 1 r_4) 32 16 r_175).1 70 1 = r_4 := ((sv_n _ (fun h9 => absurd h9.1 (by decide))).trans (sv_s _ _ _ _))
      have e_179 : (sv (sv μ 70 1 r_4) 32 16 r_175).1 70 2 = μ.1 70 2 := ((sv_n _ (fun h9 => absurd h9.1 (by decide))).trans (sv_n _ (by decide)))
      have e_180 : (sv (sv μ 70 1 r_4) 32 16 r_175).1 70 3 = μ.1 70 3 := ((sv_n _ (fun h9 => absurd h9.1 (by decide))).trans (sv_n _ (by decide)))
      have e_181 : (sv (sv μ 70 1 r_4) 32 16 r_175).1 70 4 = μ.1 70 4 := ((sv_n _ (fun h9 => absurd h9.1 (by decide))).trans (sv_n _ (by decide)))
      have e_182 : (sv (sv μ 70 1 r_4) 32 16 r_175).1 70 5 = μ.1 70 5 := ((sv_n _ (fun h9 => absurd h9.1 (by decide))).trans (sv_n _ (by decide)))
      have e_183 : (sv (sv μ 70 1 r_4) 32 16 r_175).1 70 6 = μ.1 70 6 := ((sv_n _ (fun h9 => absurd h9.1 (by decide))).trans (sv_n _ (by decide)))
      have e_184 : (sv (sv μ 70 1 r_4) 32 16 r_175).1 70 7 = μ.1 70 7 := ((sv_n _ (fun h9 => absurd h9.1 (by decide))).trans (sv_n _ (by decide)))
      have e_185 : (sv (sv μ 70 1 r_4) 32 16 r_175).1 70 8 = μ.1 70 8 := ((sv_n _ (fun h9 => absurd h9.1 (by decide))).trans (sv_n _ (by decide)))
      have e_186 : (sv (sv μ 70 1 r_4) 32 16 r_175).1 70 9 = μ.1 70 9 := ((sv_n _ (fun h9 => absurd h9.1 (by decide))).trans (sv_n _ (by decide)))
      have e_187 : (sv (sv μ 70 1 r_4) 32 16 r_175).1 32 10 = μ.1 32 10 := ((sv_n _ (by decide)).trans (sv_n _ (fun h9 => absurd h9.1 (by decide))))
      have e_188 : (sv (sv μ 70 1 r_4) 32 16 r_175).1 32 11 = μ.1 32 11 := ((sv_n _ (by decide)).trans (sv_n _ (fun h9 => absurd h9.1 (by decide))))
      have e_189 : (sv (sv μ 70 1 r_4) 32 16 r_175).1 32 12 = μ.1 32 12 := ((sv_n _ (by decide)).trans (sv_n _ (fun h9 => absurd h9.1 (by decide))))
      have e_190 : (sv (sv μ 70 1 r_4) 32 16 r_175).1 32 14 = μ.1 32 14 := ((sv_n _ (by decide)).trans (sv_n _ (fun h9 => absurd h9.1 (by decide))))
      have e_191 : (sv (sv μ 70 1 r_4) 32 16 r_175).1 32 15 = μ.1 32 15 := ((sv_n _ (by decide)).trans (sv_n _ (fun h9 => absurd h9.1 (by decide))))
      have e_192 : (sv (sv μ 70 1 r_4) 32 16 r_175).1 32 16 = r_175 := (sv_s _ _ _ _)
      refine xc_vV G (b := 32) (rest := []) (As := [.int (iv 0)]) (c_X4_end ω l (sv (sv μ 70 1 r_4) 32 16 r_175) 0 (by unfold ir; omega) hI_177) (wm 5 214 rfl rfl) (wm 5 216 rfl rfl) (wm 0 72 rfl rfl) rfl rfl (by decide) rfl (wm 1 14 rfl rfl) (wm 5 217 rfl rfl) (by decide) hR (by decide) (n := 1) rfl rfl (Nat.le_of_ble_eq_true rfl) hl.1 dX4_endWithAnswer_106 (fun μ193 ρ d0 H locs hp G => ?_)
      obtain ⟨F_194, hI_195, hp_196, hs_197, hs_198, hs_199, hs_200, hs_201, hs_202, hs_203, hs_204, hs_205, hs_206, hs_207, hs_208, hs_209, hs_210, hs_211⟩ := hp
      have e_212 : μ193.1 70 2 = μ.1 70 2 := (hs_198.trans ((sv_n _ (fun h9 => absurd h9.1 (by decide))).trans (sv_n _ (by decide))))
      have e_213 : μ193.1 70 3 = μ.1 70 3 := (hs_199.trans ((sv_n _ (fun h9 => absurd h9.1 (by decide))).trans (sv_n _ (by decide))))
      have e_214 : μ193.1 70 4 = μ.1 70 4 := (hs_200.trans ((sv_n _ (fun h9 => absurd h9.1 (by decide))).trans (sv_n _ (by decide))))
      have e_215 : μ193.1 70 5 = μ.1 70 5 := (hs_201.trans ((sv_n _ (fun h9 => absurd h9.1 (by decide))).trans (sv_n _ (by decide))))
      have e_216 : μ193.1 70 6 = μ.1 70 6 := (hs_202.trans ((sv_n _ (fun h9 => absurd h9.1 (by decide))).trans (sv_n _ (by decide))))
      have e_217 : μ193.1 70 7 = μ.1 70 7 := (hs_203.trans ((sv_n _ (fun h9 => absurd h9.1 (by decide))).trans (sv_n _ (by decide))))
      have e_218 : μ193.1 70 8 = μ.1 70 8 := (hs_204.trans ((sv_n _ (fun h9 => absurd h9.1 (by decide))).trans (sv_n _ (by decide))))
      have e_219 : μ193.1 70 9 = μ.1 70 9 := (hs_205.trans ((sv_n _ (fun h9 => absurd h9.1 (by decide))).trans (sv_n _ (by decide))))
      have e_220 : μ193.1 32 10 = μ.1 32 10 := (hs_206.trans ((sv_n _ (by decide)).trans (sv_n _ (fun h9 => absurd h9.1 (by decide)))))
      have e_221 : μ193.1 32 11 = μ.1 32 11 := (hs_207.trans ((sv_n _ (by decide)).trans (sv_n _ (fun h9 => absurd h9.1 (by decide)))))
      have e_222 : μ193.1 32 12 = μ.1 32 12 := (hs_208.trans ((sv_n _ (by decide)).trans (sv_n _ (fun h9 => absurd h9.1 (by decide)))))
      have e_223 : μ193.1 32 14 = μ.1 32 14 := (hs_209.trans ((sv_n _ (by decide)).trans (sv_n _ (fun h9 => absurd h9.1 (by decide)))))
      exact xr_v G hret hlk dX4_endWithAnswer_109 ⟨(Fr.tr (Fr.put (Fr.put Fr.rf (by decide)) (by decide)) F_194 (by decide)), hI_195, (by omega), (by omega), (by omega), (by omega), (by omega), (by omega), (by omega), (by omega), (by omega), (by omega), (by omega), (by omega), (by omega)⟩
  · refine lv_aload_n hx hb dX4_endWithAnswer_25 rfl (lv_at hl 2 rfl) ?_
    refine lv_lload_n hx hb dX4_endWithAnswer_26 rfl (lv_at hl 0 rfl) ?_
    refine xb_l2i hx hb dX4_endWithAnswer_27 ?_
    refine xb_topi (fun y_224 hr_y_224 he_y_224 => ?_)
    have hr_y_224 : -2147483648 ≤ y_224 ∧ y_224 ≤ 2147483647 := hr_y_224
    refine xa_puti G fd_X4 (a := 32) (x := y_224) 15 (kz := 15) rfl rfl (by decide) rfl (by unfold ir; omega) (wm 2 159 rfl rfl) ⟨rfl, rfl, rfl, rfl⟩ rfl dX4_endWithAnswer_28 rfl (fun H locs G => ?_)
    refine lv_aload_n hx hb dX4_endWithAnswer_31 rfl (lv_at hl 2 rfl) ?_
    refine lv_iconst (v := iv 1) hx hb dX4_endWithAnswer_32 rfl ?_
    have hI_225 : IC (sv μ 32 15 y_224) := (IC.put hI (by decide +kernel))
    have e_226 : (sv μ 32 15 y_224).1 70 1 = μ.1 70 1 := (sv_n _ (fun h9 => absurd h9.1 (by decide)))
    have e_227 : (sv μ 32 15 y_224).1 70 2 = μ.1 70 2 := (sv_n _ (fun h9 => absurd h9.1 (by decide)))
    have e_228 : (sv μ 32 15 y_224).1 70 3 = μ.1 70 3 := (sv_n _ (fun h9 => absurd h9.1 (by decide)))
    have e_229 : (sv μ 32 15 y_224).1 70 4 = μ.1 70 4 := (sv_n _ (fun h9 => absurd h9.1 (by decide)))
    have e_230 : (sv μ 32 15 y_224).1 70 5 = μ.1 70 5 := (sv_n _ (fun h9 => absurd h9.1 (by decide)))
    have e_231 : (sv μ 32 15 y_224).1 70 6 = μ.1 70 6 := (sv_n _ (fun h9 => absurd h9.1 (by decide)))
    have e_232 : (sv μ 32 15 y_224).1 70 7 = μ.1 70 7 := (sv_n _ (fun h9 => absurd h9.1 (by decide)))
    have e_233 : (sv μ 32 15 y_224).1 70 8 = μ.1 70 8 := (sv_n _ (fun h9 => absurd h9.1 (by decide)))
    have e_234 : (sv μ 32 15 y_224).1 70 9 = μ.1 70 9 := (sv_n _ (fun h9 => absurd h9.1 (by decide)))
    have e_235 : (sv μ 32 15 y_224).1 32 10 = μ.1 32 10 := (sv_n _ (by decide))
    have e_236 : (sv μ 32 15 y_224).1 32 11 = μ.1 32 11 := (sv_n _ (by decide))
    have e_237 : (sv μ 32 15 y_224).1 32 12 = μ.1 32 12 := (sv_n _ (by decide))
    have e_238 : (sv μ 32 15 y_224).1 32 14 = μ.1 32 14 := (sv_n _ (by decide))
    have e_239 : (sv μ 32 15 y_224).1 32 15 = y_224 := (sv_s _ _ _ _)
    have e_240 : (sv μ 32 15 y_224).1 32 16 = μ.1 32 16 := (sv_n _ (by decide))
    refine xc_vV G (b := 32) (rest := []) (As := [.int (iv 1)]) (c_X4_end ω l (sv μ 32 15 y_224) 1 (by unfold ir; omega) hI_225) (wm 5 214 rfl rfl) (wm 5 216 rfl rfl) (wm 0 72 rfl rfl) rfl rfl (by decide) rfl (wm 1 14 rfl rfl) (wm 5 217 rfl rfl) (by decide) hR (by decide) (n := 1) rfl rfl (Nat.le_of_ble_eq_true rfl) hl.1 dX4_endWithAnswer_33 (fun μ241 ρ d0 H locs hp G => ?_)
    obtain ⟨F_242, hI_243, hp_244, hs_245, hs_246, hs_247, hs_248, hs_249, hs_250, hs_251, hs_252, hs_253, hs_254, hs_255, hs_256, hs_257, hs_258, hs_259⟩ := hp
    have e_260 : μ241.1 70 2 = μ.1 70 2 := (hs_246.trans (sv_n _ (fun h9 => absurd h9.1 (by decide))))
    have e_261 : μ241.1 70 3 = μ.1 70 3 := (hs_247.trans (sv_n _ (fun h9 => absurd h9.1 (by decide))))
    have e_262 : μ241.1 70 4 = μ.1 70 4 := (hs_248.trans (sv_n _ (fun h9 => absurd h9.1 (by decide))))
    have e_263 : μ241.1 70 5 = μ.1 70 5 := (hs_249.trans (sv_n _ (fun h9 => absurd h9.1 (by decide))))
    have e_264 : μ241.1 70 6 = μ.1 70 6 := (hs_250.trans (sv_n _ (fun h9 => absurd h9.1 (by decide))))
    have e_265 : μ241.1 70 7 = μ.1 70 7 := (hs_251.trans (sv_n _ (fun h9 => absurd h9.1 (by decide))))
    have e_266 : μ241.1 70 8 = μ.1 70 8 := (hs_252.trans (sv_n _ (fun h9 => absurd h9.1 (by decide))))
    have e_267 : μ241.1 70 9 = μ.1 70 9 := (hs_253.trans (sv_n _ (fun h9 => absurd h9.1 (by decide))))
    have e_268 : μ241.1 32 10 = μ.1 32 10 := (hs_254.trans (sv_n _ (by decide)))
    have e_269 : μ241.1 32 11 = μ.1 32 11 := (hs_255.trans (sv_n _ (by decide)))
    have e_270 : μ241.1 32 12 = μ.1 32 12 := (hs_256.trans (sv_n _ (by decide)))
    have e_271 : μ241.1 32 14 = μ.1 32 14 := (hs_257.trans (sv_n _ (by decide)))
    exact xr_v G hret hlk dX4_endWithAnswer_36 ⟨(Fr.tr (Fr.put Fr.rf (by decide)) F_242 (by decide)), hI_243, (by omega), (by omega), (by omega), (by omega), (by omega), (by omega), (by omega), (by omega), (by omega), (by omega), (by omega), (by omega), (by omega)⟩

set_option maxHeartbeats 4000000 in
set_option maxRecDepth 100000 in
theorem c_X4_finished (ω : Om) (l : Launch) (μ : M3) (x1 : Int) (S : Int) (g : Int) (hx1 : ir x1) (hI : IC μ) (hS : S = μ.1 33 3) (hg : g = μ.1 60 6) (hSb : S < 240099) (h0s : μ.1 32 13 = 0) : CtV ω l yX4_finished cX4_finished 3 5 172 [.ref (oP ω 32), .int (iv x1)] μ (fun (μ' : M3) => (Fr [32, 60, 66, 67, 68, 69, 33, 34, 35, 36] μ μ') ∧ (IC μ') ∧ ((μ'.1 33 3 ≤ S + 1 ∧ (μ'.1 32 13 = 1 ∨ μ'.1 32 13 = 3) ∧ μ'.1 32 12 = μ.1 32 12) ∨ (μ'.1 33 3 = S ∧ μ'.1 32 13 = 0 ∧ μ'.1 32 12 = x1)) ∧ (μ'.1 60 6 = max (g - 1) 0) ∧ (μ'.1 32 10 = μ.1 32 10) ∧ (μ'.1 32 11 = μ.1 32 11) ∧ (μ'.1 32 15 = μ.1 32 15) ∧ (μ'.1 32 16 = μ.1 32 16)) := by
  refine CtV.go (by decide) (Nat.le_of_ble_eq_true rfl) (fun ρ p e s m below meth c R ls G hR hret hlk hl => ?_)
  have hx := G.1.1
  have hb := G.1.2.1
  have hl : lv_has ls 3 [(0, .ref (oP ω 32)), (1, .int (iv x1))] := hl
  generalize s.drawn = d0 at G ⊢
  have hr_x1 : -2147483648 ≤ x1 ∧ x1 ≤ 2147483647 := hx1
  have hk_1 := hI.row (r := 33) (by unfold isRow; decide)
  unfold rk at hk_1
  simp only [Int.reduceAdd] at hk_1
  have hbr_33 : BR 33 = 240100 := rfl
  have hn_2 : 0 ≤ μ.1 60 6 ∧ μ.1 60 6 ≤ 400 := hI.nm.2.2.2.2.2.1
  have hk_3 := hI.row (r := 37) (by unfold isRow; decide)
  unfold rk at hk_3
  simp only [Int.reduceAdd] at hk_3
  have hbr_37 : BR 37 = 20410 := rfl
  refine lv_aload_n hx hb dX4_finished_0 rfl (lv_at hl 0 rfl) ?_
  refine xa_getr G fd_X4 (a := 32) (x := 60) 8 rfl (by decide) rfl (wm 2 152 rfl rfl) ⟨rfl, rfl, rfl⟩ dX4_finished_1 rfl (G.sk 41 rfl) (by decide) rfl ?_
  refine xc_iV G (b := 60) (rest := []) (As := []) (c_X3_underWay ω l μ  hI) (wm 7 73 rfl rfl) (wm 5 148 rfl rfl) (wm 5 149 rfl rfl) rfl rfl (by decide) rfl (wm 1 17 rfl rfl) (wm 5 150 rfl rfl) (by decide) hR (by decide) (n := 0) rfl rfl (Nat.le_of_ble_eq_true rfl) hl.1 dX4_finished_4 (fun r_5 μ4 ρ d0 H locs hr_r_5 hp G => ?_)
  have hr_r_5 : -2147483648 ≤ r_5 ∧ r_5 ≤ 2147483647 := hr_r_5
  obtain ⟨hsm_6, hp_7⟩ := hp
  have hsm_6 := Eq.symm hsm_6
  subst hsm_6
  refine lv_istore_n (lv' := [(2, .int (iv r_5)), (0, .ref (oP ω 32)), (1, .int (iv x1))]) hx hb dX4_finished_7 rfl hl (by decide) rfl (fun ls hl => ?_)
  refine lv_iload_n hx hb dX4_finished_8 rfl (lv_at hl 0 rfl) ?_
  refine lv_iconst (v := iv 1) hx hb dX4_finished_9 rfl ?_
  refine xb_icmp_ne (tgt := 44) hx hb (by unfold ir; omega) (by unfold ir; omega) dX4_finished_10 (by decide) (fun c_10 => ?_) (fun c_10 => ?_)
  · refine lv_iload_n hx hb dX4_finished_44 rfl (lv_at hl 0 rfl) ?_
    refine lv_iconst (v := iv 2) hx hb dX4_finished_45 rfl ?_
    refine xb_icmp_ne (tgt := 68) hx hb (by unfold ir; omega) (by unfold ir; omega) dX4_finished_46 (by decide) (fun c_46 => ?_) (fun c_46 => ?_)
    · refine lv_aload_n hx hb dX4_finished_68 rfl (lv_at hl 1 rfl) ?_
      refine lv_iload_n hx hb dX4_finished_69 rfl (lv_at hl 2 rfl) ?_
      refine xa_puti G fd_X4 (a := 32) (x := x1) 12 (kz := 12) rfl rfl (by decide) rfl (by unfold ir; omega) (wm 2 156 rfl rfl) ⟨rfl, rfl, rfl, rfl⟩ rfl dX4_finished_70 rfl (fun H locs G => ?_)
      refine lv_aload_n hx hb dX4_finished_73 rfl (lv_at hl 1 rfl) ?_
      refine xa_getr G fd_X4 (a := 32) (x := 60) 8 rfl (by decide) rfl (wm 2 152 rfl rfl) ⟨rfl, rfl, rfl⟩ dX4_finished_74 rfl (G.sk 41 rfl) (by decide) rfl ?_
      have hI_8 : IC (sv μ 32 12 x1) := (IC.put hI (by decide +kernel))
      have e_9 : (sv μ 32 12 x1).1 60 6 = g := ((sv_n _ (fun h9 => absurd h9.1 (by decide))).trans hg.symm)
      refine xc_vV G (b := 60) (rest := []) (As := []) (c_X3_pop ω l (sv μ 32 12 x1) g hI_8 (by omega)) (wm 5 192 rfl rfl) (wm 5 193 rfl rfl) (wm 5 194 rfl rfl) rfl rfl (by decide) rfl (wm 1 17 rfl rfl) (wm 5 195 rfl rfl) (by decide) hR (by decide) (n := 0) rfl rfl (Nat.le_of_ble_eq_true rfl) hl.1 dX4_finished_77 (fun μ10 ρ d0 H locs hp G => ?_)
      obtain ⟨F_11, hI_12, hp_13⟩ := hp
      have hn_14 : 0 ≤ μ10.1 60 6 ∧ μ10.1 60 6 ≤ 400 := hI_12.nm.2.2.2.2.2.1
      have e_15 : μ10.1 33 3 = S := ((F_11.1 33 (by decide) 3).trans ((sv_n _ (fun h9 => absurd h9.1 (by decide))).trans hS.symm))
      have e_16 : μ10.1 32 13 = μ.1 32 13 := ((F_11.1 32 (by decide) 13).trans (sv_n _ (by decide)))
      have e_17 : μ10.1 32 13 = μ.1 32 13 := ((F_11.1 32 (by decide) 13).trans (sv_n _ (by decide)))
      have e_18 : μ10.1 32 12 = x1 := ((F_11.1 32 (by decide) 12).trans (sv_s _ _ _ _))
      have e_19 : μ10.1 33 3 = S := ((F_11.1 33 (by decide) 3).trans ((sv_n _ (fun h9 => absurd h9.1 (by decide))).trans hS.symm))
      have e_20 : μ10.1 32 13 = μ.1 32 13 := ((F_11.1 32 (by decide) 13).trans (sv_n _ (by decide)))
      have e_21 : μ10.1 32 12 = x1 := ((F_11.1 32 (by decide) 12).trans (sv_s _ _ _ _))
      have e_22 : μ10.1 32 10 = μ.1 32 10 := ((F_11.1 32 (by decide) 10).trans (sv_n _ (by decide)))
      have e_23 : μ10.1 32 11 = μ.1 32 11 := ((F_11.1 32 (by decide) 11).trans (sv_n _ (by decide)))
      have e_24 : μ10.1 32 15 = μ.1 32 15 := ((F_11.1 32 (by decide) 15).trans (sv_n _ (by decide)))
      have e_25 : μ10.1 32 16 = μ.1 32 16 := ((F_11.1 32 (by decide) 16).trans (sv_n _ (by decide)))
      exact xr_v G hret hlk dX4_finished_80 ⟨(Fr.tr (Fr.put Fr.rf (by decide)) F_11 (by decide)), hI_12, (by omega), (by omega), (by omega), (by omega), (by omega), (by omega)⟩
    · refine lv_aload_n hx hb dX4_finished_49 rfl (lv_at hl 1 rfl) ?_
      refine lv_aload_n hx hb dX4_finished_50 rfl (lv_at hl 1 rfl) ?_
      refine xa_getr G fd_X4 (a := 32) (x := 60) 8 rfl (by decide) rfl (wm 2 152 rfl rfl) ⟨rfl, rfl, rfl⟩ dX4_finished_51 rfl (G.sk 41 rfl) (by decide) rfl ?_
      refine xc_iV G (b := 60) (rest := [.ref (oP ω 32)]) (As := []) (c_X3_failureUnderWay ω l μ  hI) (wm 5 143 rfl rfl) (wm 5 144 rfl rfl) (wm 5 145 rfl rfl) rfl rfl (by decide) rfl (wm 1 17 rfl rfl) (wm 5 146 rfl rfl) (by decide) hR (by decide) (n := 0) rfl rfl (Nat.le_of_ble_eq_true rfl) hl.1 dX4_finished_54 (fun r_27 μ26 ρ d0 H locs hr_r_27 hp G => ?_)
      have hr_r_27 : -2147483648 ≤ r_27 ∧ r_27 ≤ 2147483647 := hr_r_27
      have hsm_28 := hp
      have hsm_28 := Eq.symm hsm_28
      subst hsm_28
      refine xa_puti G fd_X4 (a := 32) (x := r_27) 14 (kz := 14) rfl rfl (by decide) rfl (by unfold ir; omega) (wm 2 158 rfl rfl) ⟨rfl, rfl, rfl, rfl⟩ rfl dX4_finished_57 rfl (fun H locs G => ?_)
      refine lv_aload_n hx hb dX4_finished_60 rfl (lv_at hl 1 rfl) ?_
      refine lv_iconst (v := iv 1) hx hb dX4_finished_61 rfl ?_
      refine xa_puti G fd_X4 (a := 32) (x := 1) 13 (kz := 13) rfl rfl (by decide) rfl (by unfold ir; omega) (wm 2 157 rfl rfl) ⟨rfl, rfl, rfl, rfl⟩ rfl dX4_finished_62 rfl (fun H locs G => ?_)
      refine lv_goto (tgt := 73) hx hb dX4_finished_65 (by decide) ?_
      refine lv_aload_n hx hb dX4_finished_73 rfl (lv_at hl 1 rfl) ?_
      refine xa_getr G fd_X4 (a := 32) (x := 60) 8 rfl (by decide) rfl (wm 2 152 rfl rfl) ⟨rfl, rfl, rfl⟩ dX4_finished_74 rfl (G.sk 41 rfl) (by decide) rfl ?_
      have hI_29 : IC (sv (sv μ 32 14 r_27) 32 13 1) := (IC.put (IC.put hI (by decide +kernel)) (by decide +kernel))
      have e_30 : (sv (sv μ 32 14 r_27) 32 13 1).1 60 6 = g := ((sv_n _ (fun h9 => absurd h9.1 (by decide))).trans ((sv_n _ (fun h9 => absurd h9.1 (by decide))).trans hg.symm))
      refine xc_vV G (b := 60) (rest := []) (As := []) (c_X3_pop ω l (sv (sv μ 32 14 r_27) 32 13 1) g hI_29 (by omega)) (wm 5 192 rfl rfl) (wm 5 193 rfl rfl) (wm 5 194 rfl rfl) rfl rfl (by decide) rfl (wm 1 17 rfl rfl) (wm 5 195 rfl rfl) (by decide) hR (by decide) (n := 0) rfl rfl (Nat.le_of_ble_eq_true rfl) hl.1 dX4_finished_77 (fun μ31 ρ d0 H locs hp G => ?_)
      obtain ⟨F_32, hI_33, hp_34⟩ := hp
      have hn_35 : 0 ≤ μ31.1 60 6 ∧ μ31.1 60 6 ≤ 400 := hI_33.nm.2.2.2.2.2.1
      have e_36 : μ31.1 33 3 = S := ((F_32.1 33 (by decide) 3).trans ((sv_n _ (fun h9 => absurd h9.1 (by decide))).trans ((sv_n _ (fun h9 => absurd h9.1 (by decide))).trans hS.symm)))
      have e_37 : μ31.1 32 13 = 1 := ((F_32.1 32 (by decide) 13).trans (sv_s _ _ _ _))
      have e_38 : μ31.1 32 13 = 1 := ((F_32.1 32 (by decide) 13).trans (sv_s _ _ _ _))
      have e_39 : μ31.1 32 12 = μ.1 32 12 := ((F_32.1 32 (by decide) 12).trans ((sv_n _ (by decide)).trans (sv_n _ (by decide))))
      have e_40 : μ31.1 33 3 = S := ((F_32.1 33 (by decide) 3).trans ((sv_n _ (fun h9 => absurd h9.1 (by decide))).trans ((sv_n _ (fun h9 => absurd h9.1 (by decide))).trans hS.symm)))
      have e_41 : μ31.1 32 13 = 1 := ((F_32.1 32 (by decide) 13).trans (sv_s _ _ _ _))
      have e_42 : μ31.1 32 12 = μ.1 32 12 := ((F_32.1 32 (by decide) 12).trans ((sv_n _ (by decide)).trans (sv_n _ (by decide))))
      have e_43 : μ31.1 32 10 = μ.1 32 10 := ((F_32.1 32 (by decide) 10).trans ((sv_n _ (by decide)).trans (sv_n _ (by decide))))
      have e_44 : μ31.1 32 11 = μ.1 32 11 := ((F_32.1 32 (by decide) 11).trans ((sv_n _ (by decide)).trans (sv_n _ (by decide))))
      have e_45 : μ31.1 32 15 = μ.1 32 15 := ((F_32.1 32 (by decide) 15).trans ((sv_n _ (by decide)).trans (sv_n _ (by decide))))
      have e_46 : μ31.1 32 16 = μ.1 32 16 := ((F_32.1 32 (by decide) 16).trans ((sv_n _ (by decide)).trans (sv_n _ (by decide))))
      exact xr_v G hret hlk dX4_finished_80 ⟨(Fr.tr (Fr.put (Fr.put Fr.rf (by decide)) (by decide)) F_32 (by decide)), hI_33, (by omega), (by omega), (by omega), (by omega), (by omega), (by omega)⟩
  · refine lv_aload_n hx hb dX4_finished_13 rfl (lv_at hl 1 rfl) ?_
    refine xa_getr G fd_X4 (a := 32) (x := 33) 3 rfl (by decide) rfl (wm 2 147 rfl rfl) ⟨rfl, rfl, rfl⟩ dX4_finished_14 rfl (G.sk 36 rfl) (by decide) rfl ?_
    refine lv_aload_n hx hb dX4_finished_17 rfl (lv_at hl 1 rfl) ?_
    refine xa_getr G fd_X4 (a := 32) (x := 60) 8 rfl (by decide) rfl (wm 2 152 rfl rfl) ⟨rfl, rfl, rfl⟩ dX4_finished_18 rfl (G.sk 41 rfl) (by decide) rfl ?_
    refine xc_rV G (b := 60) (rest := [.ref (oP ω 33)]) (As := []) (c_X3_answers ω l μ  hI) (wm 7 74 rfl rfl) (wm 7 75 rfl rfl) (wm 7 76 rfl rfl) rfl rfl (by decide) rfl (wm 1 17 rfl rfl) (wm 7 77 rfl rfl) (by decide) hR (by decide) (n := 0) rfl rfl (Nat.le_of_ble_eq_true rfl) hl.1 dX4_finished_21 (fun r_48 μ47 ρ d0 H locs hp G => ?_)
    obtain ⟨hsm_49, hp_50⟩ := hp
    have hsm_49 := Eq.symm hsm_49
    subst hsm_49
    subst hp_50
    refine lv_aload_n hx hb dX4_finished_24 rfl (lv_at hl 1 rfl) ?_
    refine xa_getr G fd_X4 (a := 32) (x := 60) 8 rfl (by decide) rfl (wm 2 152 rfl rfl) ⟨rfl, rfl, rfl⟩ dX4_finished_25 rfl (G.sk 41 rfl) (by decide) rfl ?_
    have e_51 : μ.1 60 6 = g := hg.symm
    refine xc_iV G (b := 60) (rest := [.ref (oP ω 66), .ref (oP ω 33)]) (As := []) (c_X3_count ω l μ  hI) (wm 5 89 rfl rfl) (wm 5 90 rfl rfl) (wm 5 91 rfl rfl) rfl rfl (by decide) rfl (wm 1 17 rfl rfl) (wm 5 92 rfl rfl) (by decide) hR (by decide) (n := 0) rfl rfl (Nat.le_of_ble_eq_true rfl) hl.1 dX4_finished_28 (fun r_53 μ52 ρ d0 H locs hr_r_53 hp G => ?_)
    have hr_r_53 : -2147483648 ≤ r_53 ∧ r_53 ≤ 2147483647 := hr_r_53
    obtain ⟨hsm_54, hp_55⟩ := hp
    have hsm_54 := Eq.symm hsm_54
    subst hsm_54
    refine lv_iconst (v := iv 1) hx hb dX4_finished_31 rfl ?_
    refine xb_isub hx hb dX4_finished_32 ?_
    have e_56 : μ.1 33 3 = S := hS.symm
    refine xc_vV G (b := 33) (rest := []) (As := [.ref (oP ω 66), .int (iv (r_53 - 1))]) (c_X9_pushCopy ω l μ 33 66 (r_53 - 1) S (by unfold isRow; decide) (by unfold isRow; decide) (by unfold ir; omega) hI (by omega) (by omega)) (wm 5 200 rfl rfl) (wm 5 201 rfl rfl) (wm 5 202 rfl rfl) rfl rfl (by decide) rfl (wm 1 10 rfl rfl) (wm 5 203 rfl rfl) (by decide) hR (by decide) (n := 2) rfl rfl (Nat.le_of_ble_eq_true rfl) hl.1 dX4_finished_33 (fun μ57 ρ d0 H locs hp G => ?_)
    obtain ⟨F_58, hI_59, hs_60⟩ := hp
    refine lv_aload_n hx hb dX4_finished_36 rfl (lv_at hl 1 rfl) ?_
    refine lv_iconst (v := iv 3) hx hb dX4_finished_37 rfl ?_
    refine xa_puti G fd_X4 (a := 32) (x := 3) 13 (kz := 13) rfl rfl (by decide) rfl (by unfold ir; omega) (wm 2 157 rfl rfl) ⟨rfl, rfl, rfl, rfl⟩ rfl dX4_finished_38 rfl (fun H locs G => ?_)
    refine lv_goto (tgt := 73) hx hb dX4_finished_41 (by decide) ?_
    refine lv_aload_n hx hb dX4_finished_73 rfl (lv_at hl 1 rfl) ?_
    refine xa_getr G fd_X4 (a := 32) (x := 60) 8 rfl (by decide) rfl (wm 2 152 rfl rfl) ⟨rfl, rfl, rfl⟩ dX4_finished_74 rfl (G.sk 41 rfl) (by decide) rfl ?_
    have hI_61 : IC (sv μ57 32 13 3) := (IC.put hI_59 (by decide +kernel))
    have e_62 : (sv μ57 32 13 3).1 60 6 = g := ((sv_n _ (fun h9 => absurd h9.1 (by decide))).trans ((F_58.1 60 (by decide) 6).trans hg.symm))
    refine xc_vV G (b := 60) (rest := []) (As := []) (c_X3_pop ω l (sv μ57 32 13 3) g hI_61 (by omega)) (wm 5 192 rfl rfl) (wm 5 193 rfl rfl) (wm 5 194 rfl rfl) rfl rfl (by decide) rfl (wm 1 17 rfl rfl) (wm 5 195 rfl rfl) (by decide) hR (by decide) (n := 0) rfl rfl (Nat.le_of_ble_eq_true rfl) hl.1 dX4_finished_77 (fun μ63 ρ d0 H locs hp G => ?_)
    obtain ⟨F_64, hI_65, hp_66⟩ := hp
    have hn_67 : 0 ≤ μ63.1 60 6 ∧ μ63.1 60 6 ≤ 400 := hI_65.nm.2.2.2.2.2.1
    have e_68 : μ63.1 33 3 = S + 1 := ((F_64.1 33 (by decide) 3).trans ((sv_n _ (fun h9 => absurd h9.1 (by decide))).trans hs_60))
    have e_69 : μ63.1 32 13 = 3 := ((F_64.1 32 (by decide) 13).trans (sv_s _ _ _ _))
    have e_70 : μ63.1 32 13 = 3 := ((F_64.1 32 (by decide) 13).trans (sv_s _ _ _ _))
    have e_71 : μ63.1 32 12 = μ.1 32 12 := ((F_64.1 32 (by decide) 12).trans ((sv_n _ (by decide)).trans (F_58.1 32 (by decide) 12)))
    have e_72 : μ63.1 33 3 = S + 1 := ((F_64.1 33 (by decide) 3).trans ((sv_n _ (fun h9 => absurd h9.1 (by decide))).trans hs_60))
    have e_73 : μ63.1 32 13 = 3 := ((F_64.1 32 (by decide) 13).trans (sv_s _ _ _ _))
    have e_74 : μ63.1 32 12 = μ.1 32 12 := ((F_64.1 32 (by decide) 12).trans ((sv_n _ (by decide)).trans (F_58.1 32 (by decide) 12)))
    have e_75 : μ63.1 32 10 = μ.1 32 10 := ((F_64.1 32 (by decide) 10).trans ((sv_n _ (by decide)).trans (F_58.1 32 (by decide) 10)))
    have e_76 : μ63.1 32 11 = μ.1 32 11 := ((F_64.1 32 (by decide) 11).trans ((sv_n _ (by decide)).trans (F_58.1 32 (by decide) 11)))
    have e_77 : μ63.1 32 15 = μ.1 32 15 := ((F_64.1 32 (by decide) 15).trans ((sv_n _ (by decide)).trans (F_58.1 32 (by decide) 15)))
    have e_78 : μ63.1 32 16 = μ.1 32 16 := ((F_64.1 32 (by decide) 16).trans ((sv_n _ (by decide)).trans (F_58.1 32 (by decide) 16)))
    exact xr_v G hret hlk dX4_finished_80 ⟨(Fr.tr (Fr.put (Fr.tr Fr.rf F_58 (by decide)) (by decide)) F_64 (by decide)), hI_65, (by omega), (by omega), (by omega), (by omega), (by omega), (by omega)⟩
