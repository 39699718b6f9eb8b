abbrev cX7_block : ByteArray := prog_9_method_21_code
def yX7_block : MethodName := ⟨RX7, "block", "()V"⟩
abbrev cX7_ifElse : ByteArray := prog_9_method_28_code
def yX7_ifElse : MethodName := ⟨RX7, "ifElse", "()V"⟩
abbrev cX7_whileTrue : ByteArray := prog_9_method_29_code
def yX7_whileTrue : MethodName := ⟨RX7, "whileTrue", "()V"⟩
abbrev cX7_finishing : ByteArray := prog_9_method_34_code
def yX7_finishing : MethodName := ⟨RX7, "finishing", "(I)V"⟩
abbrev cX7_onGo : ByteArray := prog_9_method_35_code
def yX7_onGo : MethodName := ⟨RX7, "onGo", "()V"⟩
abbrev cX7_withEnd : ByteArray := prog_9_method_36_code
def yX7_withEnd : MethodName := ⟨RX7, "withEnd", "()V"⟩
abbrev cX7_openThen : ByteArray := prog_9_method_37_code
def yX7_openThen : MethodName := ⟨RX7, "openThen", "()V"⟩
abbrev cX7_cleanDo : ByteArray := prog_9_method_38_code
def yX7_cleanDo : MethodName := ⟨RX7, "cleanDo", "()V"⟩
theorem dX7_ifElse_0 : decode cX7_ifElse 0 = .ok (.aload_n 0, 1) := by decide +kernel
theorem dX7_ifElse_1 : decode cX7_ifElse 1 = .ok (.invokevirtual 241, 3) := by decide +kernel
theorem dX7_ifElse_4 : decode cX7_ifElse 4 = .ok (.istore_n 1, 1) := by decide +kernel
theorem dX7_ifElse_5 : decode cX7_ifElse 5 = .ok (.aload_n 0, 1) := by decide +kernel
theorem dX7_ifElse_6 : decode cX7_ifElse 6 = .ok (.invokevirtual 154, 3) := by decide +kernel
theorem dX7_ifElse_9 : decode cX7_ifElse 9 = .ok (.aload_n 0, 1) := by decide +kernel
theorem dX7_ifElse_10 : decode cX7_ifElse 10 = .ok (.sipush 205, 3) := by decide +kernel
theorem dX7_ifElse_13 : decode cX7_ifElse 13 = .ok (.invokevirtual 83, 3) := by decide +kernel
theorem dX7_ifElse_16 : decode cX7_ifElse 16 = .ok (.ifCond .eq 43, 3) := by decide +kernel
theorem dX7_ifElse_19 : decode cX7_ifElse 19 = .ok (.aload_n 0, 1) := by decide +kernel
theorem dX7_ifElse_20 : decode cX7_ifElse 20 = .ok (.bipush 19, 2) := by decide +kernel
theorem dX7_ifElse_22 : decode cX7_ifElse 22 = .ok (.iconst 0, 1) := by decide +kernel
theorem dX7_ifElse_23 : decode cX7_ifElse 23 = .ok (.iconst 0, 1) := by decide +kernel
theorem dX7_ifElse_24 : decode cX7_ifElse 24 = .ok (.invokevirtual 157, 3) := by decide +kernel
theorem dX7_ifElse_27 : decode cX7_ifElse 27 = .ok (.istore_n 2, 1) := by decide +kernel
theorem dX7_ifElse_28 : decode cX7_ifElse 28 = .ok (.aload_n 0, 1) := by decide +kernel
theorem dX7_ifElse_29 : decode cX7_ifElse 29 = .ok (.getfield 51, 3) := by decide +kernel
theorem dX7_ifElse_32 : decode cX7_ifElse 32 = .ok (.iload_n 1, 1) := by decide +kernel
theorem dX7_ifElse_33 : decode cX7_ifElse 33 = .ok (.aload_n 0, 1) := by decide +kernel
theorem dX7_ifElse_34 : decode cX7_ifElse 34 = .ok (.invokevirtual 244, 3) := by decide +kernel
theorem dX7_ifElse_37 : decode cX7_ifElse 37 = .ok (.invokevirtual 115, 3) := by decide +kernel
theorem dX7_ifElse_40 : decode cX7_ifElse 40 = .ok (.aload_n 0, 1) := by decide +kernel
theorem dX7_ifElse_41 : decode cX7_ifElse 41 = .ok (.invokevirtual 154, 3) := by decide +kernel
theorem dX7_ifElse_44 : decode cX7_ifElse 44 = .ok (.aload_n 0, 1) := by decide +kernel
theorem dX7_ifElse_45 : decode cX7_ifElse 45 = .ok (.getfield 51, 3) := by decide +kernel
theorem dX7_ifElse_48 : decode cX7_ifElse 48 = .ok (.iload_n 2, 1) := by decide +kernel
theorem dX7_ifElse_49 : decode cX7_ifElse 49 = .ok (.aload_n 0, 1) := by decide +kernel
theorem dX7_ifElse_50 : decode cX7_ifElse 50 = .ok (.invokevirtual 244, 3) := by decide +kernel
theorem dX7_ifElse_53 : decode cX7_ifElse 53 = .ok (.invokevirtual 115, 3) := by decide +kernel
theorem dX7_ifElse_56 : decode cX7_ifElse 56 = .ok (.goto 15, 3) := by decide +kernel
theorem dX7_ifElse_59 : decode cX7_ifElse 59 = .ok (.aload_n 0, 1) := by decide +kernel
theorem dX7_ifElse_60 : decode cX7_ifElse 60 = .ok (.getfield 51, 3) := by decide +kernel
theorem dX7_ifElse_63 : decode cX7_ifElse 63 = .ok (.iload_n 1, 1) := by decide +kernel
theorem dX7_ifElse_64 : decode cX7_ifElse 64 = .ok (.aload_n 0, 1) := by decide +kernel
theorem dX7_ifElse_65 : decode cX7_ifElse 65 = .ok (.invokevirtual 244, 3) := by decide +kernel
theorem dX7_ifElse_68 : decode cX7_ifElse 68 = .ok (.invokevirtual 115, 3) := by decide +kernel
theorem dX7_ifElse_71 : decode cX7_ifElse 71 = .ok (.return_, 1) := by decide +kernel
theorem dX7_whileTrue_0 : decode cX7_whileTrue 0 = .ok (.aload_n 0, 1) := by decide +kernel
theorem dX7_whileTrue_1 : decode cX7_whileTrue 1 = .ok (.invokevirtual 244, 3) := by decide +kernel
theorem dX7_whileTrue_4 : decode cX7_whileTrue 4 = .ok (.iconst 1, 1) := by decide +kernel
theorem dX7_whileTrue_5 : decode cX7_whileTrue 5 = .ok (.isub, 1) := by decide +kernel
theorem dX7_whileTrue_6 : decode cX7_whileTrue 6 = .ok (.istore_n 1, 1) := by decide +kernel
theorem dX7_whileTrue_7 : decode cX7_whileTrue 7 = .ok (.aload_n 0, 1) := by decide +kernel
theorem dX7_whileTrue_8 : decode cX7_whileTrue 8 = .ok (.invokevirtual 241, 3) := by decide +kernel
theorem dX7_whileTrue_11 : decode cX7_whileTrue 11 = .ok (.istore_n 2, 1) := by decide +kernel
theorem dX7_whileTrue_12 : decode cX7_whileTrue 12 = .ok (.aload_n 0, 1) := by decide +kernel
theorem dX7_whileTrue_13 : decode cX7_whileTrue 13 = .ok (.invokevirtual 154, 3) := by decide +kernel
theorem dX7_whileTrue_16 : decode cX7_whileTrue 16 = .ok (.aload_n 0, 1) := by decide +kernel
theorem dX7_whileTrue_17 : decode cX7_whileTrue 17 = .ok (.bipush 19, 2) := by decide +kernel
theorem dX7_whileTrue_19 : decode cX7_whileTrue 19 = .ok (.iload_n 1, 1) := by decide +kernel
theorem dX7_whileTrue_20 : decode cX7_whileTrue 20 = .ok (.iconst 0, 1) := by decide +kernel
theorem dX7_whileTrue_21 : decode cX7_whileTrue 21 = .ok (.invokevirtual 157, 3) := by decide +kernel
theorem dX7_whileTrue_24 : decode cX7_whileTrue 24 = .ok (.pop, 1) := by decide +kernel
theorem dX7_whileTrue_25 : decode cX7_whileTrue 25 = .ok (.aload_n 0, 1) := by decide +kernel
theorem dX7_whileTrue_26 : decode cX7_whileTrue 26 = .ok (.getfield 51, 3) := by decide +kernel
theorem dX7_whileTrue_29 : decode cX7_whileTrue 29 = .ok (.iload_n 2, 1) := by decide +kernel
theorem dX7_whileTrue_30 : decode cX7_whileTrue 30 = .ok (.aload_n 0, 1) := by decide +kernel
theorem dX7_whileTrue_31 : decode cX7_whileTrue 31 = .ok (.invokevirtual 244, 3) := by decide +kernel
theorem dX7_whileTrue_34 : decode cX7_whileTrue 34 = .ok (.invokevirtual 115, 3) := by decide +kernel
theorem dX7_whileTrue_37 : decode cX7_whileTrue 37 = .ok (.return_, 1) := by decide +kernel
theorem dX7_finishing_0 : decode cX7_finishing 0 = .ok (.aload_n 0, 1) := by decide +kernel
theorem dX7_finishing_1 : decode cX7_finishing 1 = .ok (.bipush 31, 2) := by decide +kernel
theorem dX7_finishing_3 : decode cX7_finishing 3 = .ok (.aload_n 0, 1) := by decide +kernel
theorem dX7_finishing_4 : decode cX7_finishing 4 = .ok (.invokevirtual 244, 3) := by decide +kernel
theorem dX7_finishing_7 : decode cX7_finishing 7 = .ok (.iconst 1, 1) := by decide +kernel
theorem dX7_finishing_8 : decode cX7_finishing 8 = .ok (.iadd, 1) := by decide +kernel
theorem dX7_finishing_9 : decode cX7_finishing 9 = .ok (.iconst 0, 1) := by decide +kernel
theorem dX7_finishing_10 : decode cX7_finishing 10 = .ok (.invokevirtual 157, 3) := by decide +kernel
theorem dX7_finishing_13 : decode cX7_finishing 13 = .ok (.pop, 1) := by decide +kernel
theorem dX7_finishing_14 : decode cX7_finishing 14 = .ok (.aload_n 0, 1) := by decide +kernel
theorem dX7_finishing_15 : decode cX7_finishing 15 = .ok (.getfield 51, 3) := by decide +kernel
theorem dX7_finishing_18 : decode cX7_finishing 18 = .ok (.iload_n 1, 1) := by decide +kernel
theorem dX7_finishing_19 : decode cX7_finishing 19 = .ok (.aload_n 0, 1) := by decide +kernel
theorem dX7_finishing_20 : decode cX7_finishing 20 = .ok (.invokevirtual 244, 3) := by decide +kernel
theorem dX7_finishing_23 : decode cX7_finishing 23 = .ok (.invokevirtual 115, 3) := by decide +kernel
theorem dX7_finishing_26 : decode cX7_finishing 26 = .ok (.aload_n 0, 1) := by decide +kernel
theorem dX7_finishing_27 : decode cX7_finishing 27 = .ok (.getfield 51, 3) := by decide +kernel
theorem dX7_finishing_30 : decode cX7_finishing 30 = .ok (.iload_n 1, 1) := by decide +kernel
theorem dX7_finishing_31 : decode cX7_finishing 31 = .ok (.iconst 4, 1) := by decide +kernel
theorem dX7_finishing_32 : decode cX7_finishing 32 = .ok (.iconst 0, 1) := by decide +kernel
theorem dX7_finishing_33 : decode cX7_finishing 33 = .ok (.invokestatic 255, 3) := by decide +kernel
theorem dX7_finishing_36 : decode cX7_finishing 36 = .ok (.invokevirtual 258, 3) := by decide +kernel
theorem dX7_finishing_39 : decode cX7_finishing 39 = .ok (.aload_n 0, 1) := by decide +kernel
theorem dX7_finishing_40 : decode cX7_finishing 40 = .ok (.invokevirtual 154, 3) := by decide +kernel
theorem dX7_finishing_43 : decode cX7_finishing 43 = .ok (.aload_n 0, 1) := by decide +kernel
theorem dX7_finishing_44 : decode cX7_finishing 44 = .ok (.bipush 32, 2) := by decide +kernel
theorem dX7_finishing_46 : decode cX7_finishing 46 = .ok (.aload_n 0, 1) := by decide +kernel
theorem dX7_finishing_47 : decode cX7_finishing 47 = .ok (.invokevirtual 244, 3) := by decide +kernel
theorem dX7_finishing_50 : decode cX7_finishing 50 = .ok (.iconst 1, 1) := by decide +kernel
theorem dX7_finishing_51 : decode cX7_finishing 51 = .ok (.iadd, 1) := by decide +kernel
theorem dX7_finishing_52 : decode cX7_finishing 52 = .ok (.iconst 0, 1) := by decide +kernel
theorem dX7_finishing_53 : decode cX7_finishing 53 = .ok (.invokevirtual 157, 3) := by decide +kernel
theorem dX7_finishing_56 : decode cX7_finishing 56 = .ok (.pop, 1) := by decide +kernel
theorem dX7_finishing_57 : decode cX7_finishing 57 = .ok (.return_, 1) := by decide +kernel
theorem dX7_onGo_0 : decode cX7_onGo 0 = .ok (.aload_n 0, 1) := by decide +kernel
theorem dX7_onGo_1 : decode cX7_onGo 1 = .ok (.bipush 28, 2) := by decide +kernel
theorem dX7_onGo_3 : decode cX7_onGo 3 = .ok (.iconst 0, 1) := by decide +kernel
theorem dX7_onGo_4 : decode cX7_onGo 4 = .ok (.iconst 2, 1) := by decide +kernel
theorem dX7_onGo_5 : decode cX7_onGo 5 = .ok (.iconst 0, 1) := by decide +kernel
theorem dX7_onGo_6 : decode cX7_onGo 6 = .ok (.invokestatic 255, 3) := by decide +kernel
theorem dX7_onGo_9 : decode cX7_onGo 9 = .ok (.invokevirtual 157, 3) := by decide +kernel
theorem dX7_onGo_12 : decode cX7_onGo 12 = .ok (.istore_n 1, 1) := by decide +kernel
theorem dX7_onGo_13 : decode cX7_onGo 13 = .ok (.aload_n 0, 1) := by decide +kernel
theorem dX7_onGo_14 : decode cX7_onGo 14 = .ok (.invokevirtual 154, 3) := by decide +kernel
theorem dX7_onGo_17 : decode cX7_onGo 17 = .ok (.aload_n 0, 1) := by decide +kernel
theorem dX7_onGo_18 : decode cX7_onGo 18 = .ok (.bipush 29, 2) := by decide +kernel
theorem dX7_onGo_20 : decode cX7_onGo 20 = .ok (.iconst 0, 1) := by decide +kernel
theorem dX7_onGo_21 : decode cX7_onGo 21 = .ok (.iconst 0, 1) := by decide +kernel
theorem dX7_onGo_22 : decode cX7_onGo 22 = .ok (.invokevirtual 157, 3) := by decide +kernel
theorem dX7_onGo_25 : decode cX7_onGo 25 = .ok (.istore_n 2, 1) := by decide +kernel
theorem dX7_onGo_26 : decode cX7_onGo 26 = .ok (.aload_n 0, 1) := by decide +kernel
theorem dX7_onGo_27 : decode cX7_onGo 27 = .ok (.getfield 51, 3) := by decide +kernel
theorem dX7_onGo_30 : decode cX7_onGo 30 = .ok (.iload_n 1, 1) := by decide +kernel
theorem dX7_onGo_31 : decode cX7_onGo 31 = .ok (.aload_n 0, 1) := by decide +kernel
theorem dX7_onGo_32 : decode cX7_onGo 32 = .ok (.invokevirtual 244, 3) := by decide +kernel
theorem dX7_onGo_35 : decode cX7_onGo 35 = .ok (.invokevirtual 115, 3) := by decide +kernel
theorem dX7_onGo_38 : decode cX7_onGo 38 = .ok (.aload_n 0, 1) := by decide +kernel
theorem dX7_onGo_39 : decode cX7_onGo 39 = .ok (.sipush 215, 3) := by decide +kernel
theorem dX7_onGo_42 : decode cX7_onGo 42 = .ok (.invokevirtual 100, 3) := by decide +kernel
theorem dX7_onGo_45 : decode cX7_onGo 45 = .ok (.aload_n 0, 1) := by decide +kernel
theorem dX7_onGo_46 : decode cX7_onGo 46 = .ok (.invokevirtual 154, 3) := by decide +kernel
theorem dX7_onGo_49 : decode cX7_onGo 49 = .ok (.aload_n 0, 1) := by decide +kernel
theorem dX7_onGo_50 : decode cX7_onGo 50 = .ok (.getfield 51, 3) := by decide +kernel
theorem dX7_onGo_53 : decode cX7_onGo 53 = .ok (.iload_n 2, 1) := by decide +kernel
theorem dX7_onGo_54 : decode cX7_onGo 54 = .ok (.aload_n 0, 1) := by decide +kernel
theorem dX7_onGo_55 : decode cX7_onGo 55 = .ok (.invokevirtual 244, 3) := by decide +kernel
theorem dX7_onGo_58 : decode cX7_onGo 58 = .ok (.invokevirtual 115, 3) := by decide +kernel
theorem dX7_onGo_61 : decode cX7_onGo 61 = .ok (.return_, 1) := by decide +kernel
theorem dX7_withEnd_0 : decode cX7_withEnd 0 = .ok (.aload_n 0, 1) := by decide +kernel
theorem dX7_withEnd_1 : decode cX7_withEnd 1 = .ok (.bipush 28, 2) := by decide +kernel
theorem dX7_withEnd_3 : decode cX7_withEnd 3 = .ok (.iconst 0, 1) := by decide +kernel
theorem dX7_withEnd_4 : decode cX7_withEnd 4 = .ok (.iconst 0, 1) := by decide +kernel
theorem dX7_withEnd_5 : decode cX7_withEnd 5 = .ok (.invokevirtual 157, 3) := by decide +kernel
theorem dX7_withEnd_8 : decode cX7_withEnd 8 = .ok (.istore_n 1, 1) := by decide +kernel
theorem dX7_withEnd_9 : decode cX7_withEnd 9 = .ok (.aload_n 0, 1) := by decide +kernel
theorem dX7_withEnd_10 : decode cX7_withEnd 10 = .ok (.invokevirtual 154, 3) := by decide +kernel
theorem dX7_withEnd_13 : decode cX7_withEnd 13 = .ok (.aload_n 0, 1) := by decide +kernel
theorem dX7_withEnd_14 : decode cX7_withEnd 14 = .ok (.sipush 217, 3) := by decide +kernel
theorem dX7_withEnd_17 : decode cX7_withEnd 17 = .ok (.invokevirtual 100, 3) := by decide +kernel
theorem dX7_withEnd_20 : decode cX7_withEnd 20 = .ok (.aload_n 0, 1) := by decide +kernel
theorem dX7_withEnd_21 : decode cX7_withEnd 21 = .ok (.iload_n 1, 1) := by decide +kernel
theorem dX7_withEnd_22 : decode cX7_withEnd 22 = .ok (.invokevirtual 250, 3) := by decide +kernel
theorem dX7_withEnd_25 : decode cX7_withEnd 25 = .ok (.return_, 1) := by decide +kernel
theorem dX7_openThen_0 : decode cX7_openThen 0 = .ok (.aload_n 0, 1) := by decide +kernel
theorem dX7_openThen_1 : decode cX7_openThen 1 = .ok (.invokevirtual 118, 3) := by decide +kernel
theorem dX7_openThen_4 : decode cX7_openThen 4 = .ok (.istore_n 1, 1) := by decide +kernel
theorem dX7_openThen_5 : decode cX7_openThen 5 = .ok (.aload_n 0, 1) := by decide +kernel
theorem dX7_openThen_6 : decode cX7_openThen 6 = .ok (.invokevirtual 261, 3) := by decide +kernel
theorem dX7_openThen_9 : decode cX7_openThen 9 = .ok (.istore_n 2, 1) := by decide +kernel
theorem dX7_openThen_10 : decode cX7_openThen 10 = .ok (.aload_n 0, 1) := by decide +kernel
theorem dX7_openThen_11 : decode cX7_openThen 11 = .ok (.bipush 28, 2) := by decide +kernel
theorem dX7_openThen_13 : decode cX7_openThen 13 = .ok (.iconst 0, 1) := by decide +kernel
theorem dX7_openThen_14 : decode cX7_openThen 14 = .ok (.iconst 3, 1) := by decide +kernel
theorem dX7_openThen_15 : decode cX7_openThen 15 = .ok (.iload_n 1, 1) := by decide +kernel
theorem dX7_openThen_16 : decode cX7_openThen 16 = .ok (.invokestatic 255, 3) := by decide +kernel
theorem dX7_openThen_19 : decode cX7_openThen 19 = .ok (.invokevirtual 157, 3) := by decide +kernel
theorem dX7_openThen_22 : decode cX7_openThen 22 = .ok (.istore_n 3, 1) := by decide +kernel
theorem dX7_openThen_23 : decode cX7_openThen 23 = .ok (.aload_n 0, 1) := by decide +kernel
theorem dX7_openThen_24 : decode cX7_openThen 24 = .ok (.invokevirtual 154, 3) := by decide +kernel
theorem dX7_openThen_27 : decode cX7_openThen 27 = .ok (.aload_n 0, 1) := by decide +kernel
theorem dX7_openThen_28 : decode cX7_openThen 28 = .ok (.bipush 29, 2) := by decide +kernel
theorem dX7_openThen_30 : decode cX7_openThen 30 = .ok (.iconst 0, 1) := by decide +kernel
theorem dX7_openThen_31 : decode cX7_openThen 31 = .ok (.iconst 0, 1) := by decide +kernel
theorem dX7_openThen_32 : decode cX7_openThen 32 = .ok (.invokevirtual 157, 3) := by decide +kernel
theorem dX7_openThen_35 : decode cX7_openThen 35 = .ok (.istore 4, 2) := by decide +kernel
theorem dX7_openThen_37 : decode cX7_openThen 37 = .ok (.aload_n 0, 1) := by decide +kernel
theorem dX7_openThen_38 : decode cX7_openThen 38 = .ok (.getfield 51, 3) := by decide +kernel
theorem dX7_openThen_41 : decode cX7_openThen 41 = .ok (.iload_n 3, 1) := by decide +kernel
theorem dX7_openThen_42 : decode cX7_openThen 42 = .ok (.aload_n 0, 1) := by decide +kernel
theorem dX7_openThen_43 : decode cX7_openThen 43 = .ok (.invokevirtual 244, 3) := by decide +kernel
theorem dX7_openThen_46 : decode cX7_openThen 46 = .ok (.invokevirtual 115, 3) := by decide +kernel
theorem dX7_openThen_49 : decode cX7_openThen 49 = .ok (.aload_n 0, 1) := by decide +kernel
theorem dX7_openThen_50 : decode cX7_openThen 50 = .ok (.sipush 220, 3) := by decide +kernel
theorem dX7_openThen_53 : decode cX7_openThen 53 = .ok (.invokevirtual 100, 3) := by decide +kernel
theorem dX7_openThen_56 : decode cX7_openThen 56 = .ok (.aload_n 0, 1) := by decide +kernel
theorem dX7_openThen_57 : decode cX7_openThen 57 = .ok (.iconst 5, 1) := by decide +kernel
theorem dX7_openThen_58 : decode cX7_openThen 58 = .ok (.iload_n 2, 1) := by decide +kernel
theorem dX7_openThen_59 : decode cX7_openThen 59 = .ok (.iconst 0, 1) := by decide +kernel
theorem dX7_openThen_60 : decode cX7_openThen 60 = .ok (.invokevirtual 157, 3) := by decide +kernel
theorem dX7_openThen_63 : decode cX7_openThen 63 = .ok (.pop, 1) := by decide +kernel
theorem dX7_openThen_64 : decode cX7_openThen 64 = .ok (.aload_n 0, 1) := by decide +kernel
theorem dX7_openThen_65 : decode cX7_openThen 65 = .ok (.invokevirtual 154, 3) := by decide +kernel
theorem dX7_openThen_68 : decode cX7_openThen 68 = .ok (.aload_n 0, 1) := by decide +kernel
theorem dX7_openThen_69 : decode cX7_openThen 69 = .ok (.getfield 51, 3) := by decide +kernel
theorem dX7_openThen_72 : decode cX7_openThen 72 = .ok (.iload 4, 2) := by decide +kernel
theorem dX7_openThen_74 : decode cX7_openThen 74 = .ok (.aload_n 0, 1) := by decide +kernel
theorem dX7_openThen_75 : decode cX7_openThen 75 = .ok (.invokevirtual 244, 3) := by decide +kernel
theorem dX7_openThen_78 : decode cX7_openThen 78 = .ok (.invokevirtual 115, 3) := by decide +kernel
theorem dX7_openThen_81 : decode cX7_openThen 81 = .ok (.return_, 1) := by decide +kernel
theorem dX7_cleanDo_0 : decode cX7_cleanDo 0 = .ok (.aload_n 0, 1) := by decide +kernel
theorem dX7_cleanDo_1 : decode cX7_cleanDo 1 = .ok (.bipush 28, 2) := by decide +kernel
theorem dX7_cleanDo_3 : decode cX7_cleanDo 3 = .ok (.iconst 0, 1) := by decide +kernel
theorem dX7_cleanDo_4 : decode cX7_cleanDo 4 = .ok (.iconst 4, 1) := by decide +kernel
theorem dX7_cleanDo_5 : decode cX7_cleanDo 5 = .ok (.iconst 0, 1) := by decide +kernel
theorem dX7_cleanDo_6 : decode cX7_cleanDo 6 = .ok (.invokestatic 255, 3) := by decide +kernel
theorem dX7_cleanDo_9 : decode cX7_cleanDo 9 = .ok (.invokevirtual 157, 3) := by decide +kernel
theorem dX7_cleanDo_12 : decode cX7_cleanDo 12 = .ok (.istore_n 1, 1) := by decide +kernel
theorem dX7_cleanDo_13 : decode cX7_cleanDo 13 = .ok (.aload_n 0, 1) := by decide +kernel
theorem dX7_cleanDo_14 : decode cX7_cleanDo 14 = .ok (.bipush 19, 2) := by decide +kernel
theorem dX7_cleanDo_16 : decode cX7_cleanDo 16 = .ok (.iconst 0, 1) := by decide +kernel
theorem dX7_cleanDo_17 : decode cX7_cleanDo 17 = .ok (.iconst 0, 1) := by decide +kernel
theorem dX7_cleanDo_18 : decode cX7_cleanDo 18 = .ok (.invokevirtual 157, 3) := by decide +kernel
theorem dX7_cleanDo_21 : decode cX7_cleanDo 21 = .ok (.istore_n 2, 1) := by decide +kernel
theorem dX7_cleanDo_22 : decode cX7_cleanDo 22 = .ok (.aload_n 0, 1) := by decide +kernel
theorem dX7_cleanDo_23 : decode cX7_cleanDo 23 = .ok (.invokevirtual 244, 3) := by decide +kernel
theorem dX7_cleanDo_26 : decode cX7_cleanDo 26 = .ok (.istore_n 3, 1) := by decide +kernel
theorem dX7_cleanDo_27 : decode cX7_cleanDo 27 = .ok (.aload_n 0, 1) := by decide +kernel
theorem dX7_cleanDo_28 : decode cX7_cleanDo 28 = .ok (.getfield 51, 3) := by decide +kernel
theorem dX7_cleanDo_31 : decode cX7_cleanDo 31 = .ok (.iload_n 1, 1) := by decide +kernel
theorem dX7_cleanDo_32 : decode cX7_cleanDo 32 = .ok (.iload_n 3, 1) := by decide +kernel
theorem dX7_cleanDo_33 : decode cX7_cleanDo 33 = .ok (.invokevirtual 115, 3) := by decide +kernel
theorem dX7_cleanDo_36 : decode cX7_cleanDo 36 = .ok (.aload_n 0, 1) := by decide +kernel
theorem dX7_cleanDo_37 : decode cX7_cleanDo 37 = .ok (.invokevirtual 154, 3) := by decide +kernel
theorem dX7_cleanDo_40 : decode cX7_cleanDo 40 = .ok (.aload_n 0, 1) := by decide +kernel
theorem dX7_cleanDo_41 : decode cX7_cleanDo 41 = .ok (.bipush 32, 2) := by decide +kernel
theorem dX7_cleanDo_43 : decode cX7_cleanDo 43 = .ok (.iconst 0, 1) := by decide +kernel
theorem dX7_cleanDo_44 : decode cX7_cleanDo 44 = .ok (.iconst 0, 1) := by decide +kernel
theorem dX7_cleanDo_45 : decode cX7_cleanDo 45 = .ok (.invokevirtual 157, 3) := by decide +kernel
theorem dX7_cleanDo_48 : decode cX7_cleanDo 48 = .ok (.istore 4, 2) := by decide +kernel
theorem dX7_cleanDo_50 : decode cX7_cleanDo 50 = .ok (.aload_n 0, 1) := by decide +kernel
theorem dX7_cleanDo_51 : decode cX7_cleanDo 51 = .ok (.sipush 222, 3) := by decide +kernel
theorem dX7_cleanDo_54 : decode cX7_cleanDo 54 = .ok (.invokevirtual 100, 3) := by decide +kernel
theorem dX7_cleanDo_57 : decode cX7_cleanDo 57 = .ok (.aload_n 0, 1) := by decide +kernel
theorem dX7_cleanDo_58 : decode cX7_cleanDo 58 = .ok (.getfield 51, 3) := by decide +kernel
theorem dX7_cleanDo_61 : decode cX7_cleanDo 61 = .ok (.iload_n 2, 1) := by decide +kernel
theorem dX7_cleanDo_62 : decode cX7_cleanDo 62 = .ok (.aload_n 0, 1) := by decide +kernel
theorem dX7_cleanDo_63 : decode cX7_cleanDo 63 = .ok (.invokevirtual 244, 3) := by decide +kernel
theorem dX7_cleanDo_66 : decode cX7_cleanDo 66 = .ok (.invokevirtual 115, 3) := by decide +kernel
theorem dX7_cleanDo_69 : decode cX7_cleanDo 69 = .ok (.aload_n 0, 1) := by decide +kernel
theorem dX7_cleanDo_70 : decode cX7_cleanDo 70 = .ok (.invokevirtual 154, 3) := by decide +kernel
theorem dX7_cleanDo_73 : decode cX7_cleanDo 73 = .ok (.aload_n 0, 1) := by decide +kernel
theorem dX7_cleanDo_74 : decode cX7_cleanDo 74 = .ok (.bipush 31, 2) := by decide +kernel
theorem dX7_cleanDo_76 : decode cX7_cleanDo 76 = .ok (.iload_n 3, 1) := by decide +kernel
theorem dX7_cleanDo_77 : decode cX7_cleanDo 77 = .ok (.iconst 0, 1) := by decide +kernel
theorem dX7_cleanDo_78 : decode cX7_cleanDo 78 = .ok (.invokevirtual 157, 3) := by decide +kernel
theorem dX7_cleanDo_81 : decode cX7_cleanDo 81 = .ok (.pop, 1) := by decide +kernel
theorem dX7_cleanDo_82 : decode cX7_cleanDo 82 = .ok (.aload_n 0, 1) := by decide +kernel
theorem dX7_cleanDo_83 : decode cX7_cleanDo 83 = .ok (.getfield 51, 3) := by decide +kernel
theorem dX7_cleanDo_86 : decode cX7_cleanDo 86 = .ok (.iload 4, 2) := by decide +kernel
theorem dX7_cleanDo_88 : decode cX7_cleanDo 88 = .ok (.aload_n 0, 1) := by decide +kernel
theorem dX7_cleanDo_89 : decode cX7_cleanDo 89 = .ok (.invokevirtual 244, 3) := by decide +kernel
theorem dX7_cleanDo_92 : decode cX7_cleanDo 92 = .ok (.invokevirtual 115, 3) := by decide +kernel
theorem dX7_cleanDo_95 : decode cX7_cleanDo 95 = .ok (.return_, 1) := by decide +kernel
theorem nfB {F b m B : Nat} (hF : B ≤ F) (h : m + 1 ≤ B) : Nat.ble (m + 1) (F + b) = true := Nat.ble_eq_true_of_le (by omega)
theorem nlB {L m a b B : Nat} (hL : B ≤ L) (h : 8 + (m + 11) + a ≤ B) : Nat.ble (8 + (m + 11) + a) (L + b) = true := Nat.ble_eq_true_of_le (by omega)
theorem sfr2 {F a b c : Nat} (hF : a + 1 ≤ F + c) (h : c ≤ b) : Nat.ble (a + 1) (F + b) = true := Nat.ble_eq_true_of_le (by omega)
set_option maxHeartbeats 4000000 in
set_option maxRecDepth 100000 in
theorem c_X7_nameOfFailing_b (ω : Om) (l : Launch) (μ : M3) (hI : IC μ) (hTK : TK μ) : CtI ω l yX7_nameOfFailing cX7_nameOfFailing 5 .int 2 41 [.ref (oP ω 23)] μ (fun (r : Int) (μ' : M3) => (Fr [26, 2, 3, 4, 24] μ μ') ∧ (IC μ') ∧ (TK μ') ∧ (μ'.1 26 10 = μ.1 26 10 + 1 - μ'.1 26 11) ∧ (μ.1 26 11 ≤ μ'.1 26 11) ∧ (0 ≤ r ∧ r ≤ 51) ∧ (μ'.1 26 6 = μ.1 26 6) ∧ (μ'.1 26 7 = μ.1 26 7) ∧ (μ'.1 26 8 = μ.1 26 8) ∧ (μ'.1 26 9 = μ.1 26 9) ∧ (μ'.1 2 4 = μ.1 2 4)) := by
  refine CtI.go (by decide) (Nat.le_of_ble_eq_true rfl) (fun ρ p e s m below meth c R ls G hR hret hlk hl => ?_)
  have hx := G.1.1
  have hb := G.1.2.1
  have hl : lv_has ls 5 [(0, .ref (oP ω 23))] := hl
  generalize s.drawn = d0 at G ⊢
  have hTKb := hTK.b
  refine lv_aload_n hx hb dX7_nameOfFailing_0 rfl (lv_at hl 0 rfl) ?_
  refine xa_getr G fd_X7 (a := 23) (x := 26) 0 rfl (by decide) rfl (wm 2 17 rfl rfl) ⟨rfl, rfl, rfl⟩ dX7_nameOfFailing_1 rfl (G.sk 23 rfl) (by decide) rfl ?_
  refine xa_getN G fd_X10 (host := "FourTongues") (a := 26) 14 rfl (by decide) (by decide) ⟨rfl, rfl, rfl⟩ dX7_nameOfFailing_4 rfl (v := .long (jv (μ.1 26 14))) (by rw [show μ.1 26 14 = μ.1 26 14 from rfl]; rfl) ?_
  have hj_1 : jr (μ.1 26 14) := by have h9 := G.hj (a := 26) (k := 14) rfl; exact h9
  refine lv_lstore_n (lv' := [(1, .long (jv (μ.1 26 14))), (0, .ref (oP ω 23))]) hx hb dX7_nameOfFailing_7 rfl hl (by decide) rfl (fun ls hl => ?_)
  refine lv_aload_n hx hb dX7_nameOfFailing_8 rfl (lv_at hl 1 rfl) ?_
  refine xa_getr G fd_X7 (a := 23) (x := 26) 0 rfl (by decide) rfl (wm 2 17 rfl rfl) ⟨rfl, rfl, rfl⟩ dX7_nameOfFailing_9 rfl (G.sk 23 rfl) (by decide) rfl ?_
  refine xa_getN G fd_X10 (host := "FourTongues") (a := 26) 13 rfl (by decide) (by decide) ⟨rfl, rfl, rfl⟩ dX7_nameOfFailing_12 rfl (v := .int (iv (μ.1 26 13))) (by rw [show μ.1 26 13 = μ.1 26 13 from rfl]; rfl) ?_
  have hr_2 : -2147483648 ≤ μ.1 26 13 ∧ μ.1 26 13 ≤ 2147483647 := by have h9 := G.hr (a := 26) (k := 13) rfl; exact h9
  refine lv_istore_n (lv' := [(3, .int (iv (μ.1 26 13))), (1, .long (jv (μ.1 26 14))), (0, .ref (oP ω 23))]) hx hb dX7_nameOfFailing_15 rfl hl (by decide) rfl (fun ls hl => ?_)
  refine lv_aload_n hx hb dX7_nameOfFailing_16 rfl (lv_at hl 2 rfl) ?_
  refine lv_iconst (v := iv 1) hx hb dX7_nameOfFailing_17 rfl ?_
  have hn_3 : -1 ≤ μ.1 26 10 ∧ μ.1 26 10 ≤ 3000 := hI.nm.2.2.2.2.2.2.2.2.2.2.2.2
  have hn_4 : 0 ≤ μ.1 26 6 ∧ μ.1 26 6 ≤ 3001 := hI.nm.2.2.2.2.2.2.2.2.2.1
  have hn_5 : 0 ≤ μ.1 26 7 ∧ μ.1 26 7 ≤ 3000 := hI.nm.2.2.2.2.2.2.2.2.2.2.1
  have hn_6 : 0 ≤ μ.1 26 9 ∧ μ.1 26 9 ≤ 3000 := hI.nm.2.2.2.2.2.2.2.2.2.2.2.1
  refine xc_vV G (b := 23) (rest := []) (As := [.int (iv 1)]) (c_X7_need_b ω l μ 1 (by unfold ir; omega) hI hTK (by omega)) (wm 3 169 rfl rfl) (wm 3 171 rfl rfl) (wm 0 11 rfl rfl) rfl rfl (by decide) rfl (wm 1 12 rfl rfl) (wm 3 172 rfl rfl) (by decide) hR (by decide) (n := 1) rfl rfl (Nat.le_of_ble_eq_true rfl) hl.1 dX7_nameOfFailing_18 (fun μ7 ρ d0 H locs hp G => ?_)
  obtain ⟨F_8, hI_9, hp_10, hp_11, hp_12, hs_13, hs_14, hs_15, hs_16⟩ := hp
  have hn_17 : -1 ≤ μ7.1 26 10 ∧ μ7.1 26 10 ≤ 3000 := hI_9.nm.2.2.2.2.2.2.2.2.2.2.2.2
  have htb_18 := hp_10.b
  refine lv_aload_n hx hb dX7_nameOfFailing_21 rfl (lv_at hl 2 rfl) ?_
  refine xa_getr G fd_X7 (a := 23) (x := 2) 1 rfl (by decide) rfl (wm 2 18 rfl rfl) ⟨rfl, rfl, rfl⟩ dX7_nameOfFailing_22 rfl (G.sk 24 rfl) (by decide) rfl ?_
  refine lv_lload_n hx hb dX7_nameOfFailing_25 rfl (lv_at hl 1 rfl) ?_
  have hn_19 : 0 ≤ μ.1 2 3 ∧ μ.1 2 3 ≤ 51 := hI.nm.2.1
  have e_20 : μ7.1 2 3 = μ.1 2 3 := (F_8.1 2 (by decide) 3)
  have e_21 : μ7.1 2 3 = μ.1 2 3 := (F_8.1 2 (by decide) 3)
  have hn_22 : 0 ≤ μ.1 2 4 ∧ μ.1 2 4 ≤ 51 := hI.nm.2.2.1
  have e_23 : μ7.1 2 4 = μ.1 2 4 := (F_8.1 2 (by decide) 4)
  refine xc_iV G (b := 2) (rest := []) (As := [.long (jv (μ.1 26 14))]) (c_X5_numberOf ω l μ7 (μ.1 26 14) hj_1 hI_9) (wm 4 116 rfl rfl) (wm 4 117 rfl rfl) (wm 4 118 rfl rfl) rfl rfl (by decide) rfl (wm 1 2 rfl rfl) (wm 4 119 rfl rfl) (by decide) hR (by decide) (n := 1) rfl rfl (Nat.le_of_ble_eq_true rfl) hl.1 dX7_nameOfFailing_26 (fun r_25 μ24 ρ d0 H locs hr_r_25 hp G => ?_)
  have hr_r_25 : -2147483648 ≤ r_25 ∧ r_25 ≤ 2147483647 := hr_r_25
  obtain ⟨F_26, hI_27, hp_28, hp_29, hp_30, hp_31, hs_32⟩ := hp
  have hn_33 : 0 ≤ μ24.1 2 3 ∧ μ24.1 2 3 ≤ 51 := hI_27.nm.2.1
  refine lv_istore (lv' := [(4, .int (iv r_25)), (3, .int (iv (μ.1 26 13))), (1, .long (jv (μ.1 26 14))), (0, .ref (oP ω 23))]) hx hb dX7_nameOfFailing_29 hl (by decide) rfl (fun ls hl => ?_)
  refine lv_iload hx hb dX7_nameOfFailing_31 (lv_at hl 0 rfl) ?_
  refine xb_if_ne (tgt := 42) hx hb (by unfold ir; omega) dX7_nameOfFailing_33 (by decide) (fun c_33 => ?_) (fun c_33 => ?_)
  · refine lv_iload hx hb dX7_nameOfFailing_42 (lv_at hl 0 rfl) ?_
    have htk_34 : TK μ24 := hp_10.fr (K := [2, 3, 4]) (Fr.tr Fr.rf F_26 (by decide)) (by decide) (by decide) (by decide)
    have e_35 : μ24.1 26 10 = μ7.1 26 10 := (F_26.1 26 (by decide) 10)
    have e_36 : μ24.1 26 11 = μ7.1 26 11 := (F_26.1 26 (by decide) 11)
    have e_37 : μ24.1 26 11 = μ7.1 26 11 := (F_26.1 26 (by decide) 11)
    have e_38 : μ24.1 26 6 = μ.1 26 6 := ((F_26.1 26 (by decide) 6).trans hs_13)
    have e_39 : μ24.1 26 7 = μ.1 26 7 := ((F_26.1 26 (by decide) 7).trans hs_14)
    have e_40 : μ24.1 26 8 = μ.1 26 8 := ((F_26.1 26 (by decide) 8).trans hs_15)
    have e_41 : μ24.1 26 9 = μ.1 26 9 := ((F_26.1 26 (by decide) 9).trans hs_16)
    have e_42 : μ24.1 2 4 = μ.1 2 4 := (hs_32.trans (F_8.1 2 (by decide) 4))
    exact xr_i G (x := r_25) hret hlk (by unfold ir; omega) rfl dX7_nameOfFailing_44 ⟨(Fr.tr (Fr.tr Fr.rf F_8 (by decide)) F_26 (by decide)), hI_27, htk_34, (by omega), (by omega), (by omega), (by omega), (by omega), (by omega), (by omega), (by omega)⟩
  · refine lv_aload_n hx hb dX7_nameOfFailing_36 rfl (lv_at hl 3 rfl) ?_
    refine lv_iconst (v := iv 2) hx hb dX7_nameOfFailing_37 rfl ?_
    refine lv_iload_n hx hb dX7_nameOfFailing_38 rfl (lv_at hl 1 rfl) ?_
    refine xc_vV G (b := 23) (rest := []) (As := [.int (iv 2), .int (iv (μ.1 26 13))]) (c_X7_tellFault ω l μ24 2 (μ.1 26 13) (by unfold ir; omega) (by unfold ir; omega) hI_27 (by omega)) (wm 3 177 rfl rfl) (wm 3 179 rfl rfl) (wm 0 12 rfl rfl) rfl rfl (by decide) rfl (wm 1 12 rfl rfl) (wm 3 180 rfl rfl) (by decide) hR (by decide) (n := 2) rfl rfl (Nat.le_of_ble_eq_true rfl) hl.1 dX7_nameOfFailing_39 (fun μ43 ρ d0 H locs hp G => ?_)
    obtain ⟨F_44, hI_45⟩ := hp
    refine lv_iload hx hb dX7_nameOfFailing_42 (lv_at hl 0 rfl) ?_
    have htk_46 : TK μ43 := hp_10.fr (K := [24, 2, 3, 4]) (Fr.tr (Fr.tr Fr.rf F_26 (by decide)) F_44 (by decide)) (by decide) (by decide) (by decide)
    have e_47 : μ43.1 26 10 = μ7.1 26 10 := ((F_44.1 26 (by decide) 10).trans (F_26.1 26 (by decide) 10))
    have e_48 : μ43.1 26 11 = μ7.1 26 11 := ((F_44.1 26 (by decide) 11).trans (F_26.1 26 (by decide) 11))
    have e_49 : μ43.1 26 11 = μ7.1 26 11 := ((F_44.1 26 (by decide) 11).trans (F_26.1 26 (by decide) 11))
    have e_50 : μ43.1 26 6 = μ.1 26 6 := ((F_44.1 26 (by decide) 6).trans ((F_26.1 26 (by decide) 6).trans hs_13))
    have e_51 : μ43.1 26 7 = μ.1 26 7 := ((F_44.1 26 (by decide) 7).trans ((F_26.1 26 (by decide) 7).trans hs_14))
    have e_52 : μ43.1 26 8 = μ.1 26 8 := ((F_44.1 26 (by decide) 8).trans ((F_26.1 26 (by decide) 8).trans hs_15))
    have e_53 : μ43.1 26 9 = μ.1 26 9 := ((F_44.1 26 (by decide) 9).trans ((F_26.1 26 (by decide) 9).trans hs_16))
    have e_54 : μ43.1 2 4 = μ.1 2 4 := ((F_44.1 2 (by decide) 4).trans (hs_32.trans (F_8.1 2 (by decide) 4)))
    exact xr_i G (x := r_25) hret hlk (by unfold ir; omega) rfl dX7_nameOfFailing_44 ⟨(Fr.tr (Fr.tr (Fr.tr Fr.rf F_8 (by decide)) F_26 (by decide)) F_44 (by decide)), hI_45, htk_46, (by omega), (by omega), (by omega), (by omega), (by omega), (by omega), (by omega), (by omega)⟩

set_option maxHeartbeats 4000000 in
set_option maxRecDepth 100000 in
theorem c_X7_ifElse (ω : Om) (l : Launch) (μ : M3) (F : Nat) (Lo : Nat) (kf : Int) (P : Int) (tt : Int) (hI : IC μ) (hP : P = μ.1 23 2) (htt : tt = μ.1 23 8) (hF : 200 ≤ F) (hLo : 6000 ≤ Lo) (hK : ∀ (μ : M3) (P : Int) (tt : Int) (hI : IC μ) (hP : P = μ.1 23 2) (htt : tt = μ.1 23 8) (hTK : TK μ) (hB : 2 * μ.1 P 1 ≤ 5 * μ.1 26 10 + 103 + 80 * μ.1 26 11) (hKc : μ.1 (P + 2) 3 ≤ μ.1 P 1) (ht3 : 0 ≤ tt ∧ tt ≤ 3) (hdp : 0 ≤ μ.1 23 9 ∧ μ.1 23 9 ≤ 8) (hfu : 0 ≤ (kf - 1) ∧ 9 ≤ μ.1 23 9 + (kf - 1)) (hs1 : ∀ _ : Unit, μ.1 26 11 = 0 → HC μ P tt 0), CtV ω l yX7_block cX7_block 2 (F + 0) (Lo + 0) [.ref (oP ω 23)] μ (fun (μ' : M3) => (Fr [2, 3, 4, 23, 24, 25, 26, P, P + 1, P + 2, (P + 2) + 1, (P + 2) + 2, (P + 2) + 3] μ μ') ∧ (IC μ') ∧ (TK μ') ∧ (μ.1 26 11 ≤ μ'.1 26 11) ∧ (μ.1 26 10 ≤ μ'.1 26 10) ∧ (μ.1 P 1 ≤ μ'.1 P 1 ∧ 2 * μ'.1 P 1 ≤ 2 * μ.1 P 1 + 5 * (μ'.1 26 10 - μ.1 26 10) + (- 10 + 15 * μ'.1 26 11 - 5 * μ.1 26 11)) ∧ (μ'.1 (P + 2) 3 - μ.1 (P + 2) 3 ≤ μ'.1 P 1 - μ.1 P 1 ∧ μ.1 (P + 2) 3 ≤ μ'.1 (P + 2) 3) ∧ (μ'.1 26 11 = 0 → EX μ μ' P tt 0 (2 * (7 - μ.1 23 9))) ∧ (μ.1 23 9 ≤ 7 + 100 * μ'.1 26 11) ∧ (μ'.1 23 2 = μ.1 23 2) ∧ (μ'.1 23 7 = μ.1 23 7) ∧ (μ'.1 23 8 = μ.1 23 8) ∧ (μ'.1 23 9 = μ.1 23 9) ∧ (μ'.1 26 6 = μ.1 26 6) ∧ (μ'.1 P 7 = μ.1 P 7))) (hTK : TK μ) (hB : 2 * μ.1 P 1 ≤ 5 * μ.1 26 10 + 95 + 80 * μ.1 26 11) (hKc : μ.1 (P + 2) 3 ≤ μ.1 P 1) (ht3 : 0 ≤ tt ∧ tt ≤ 3) (hdp : 0 ≤ μ.1 23 9 ∧ μ.1 23 9 ≤ 8) (hs0 : μ.1 26 11 = 0) (hfu : 10 ≤ μ.1 23 9 + kf) (hst : ∀ _ : Unit, STP μ P tt) : CtV ω l yX7_ifElse cX7_ifElse 3 (F + 1) (Lo + 21) [.ref (oP ω 23)] μ (fun (μ' : M3) => (Fr [2, 3, 4, 23, 24, 25, 26, P, P + 1, P + 2, (P + 2) + 1, (P + 2) + 2, (P + 2) + 3] μ μ') ∧ (IC μ') ∧ (TK μ') ∧ (μ.1 26 11 ≤ μ'.1 26 11) ∧ (μ.1 26 10 ≤ μ'.1 26 10) ∧ (μ.1 P 1 ≤ μ'.1 P 1 ∧ 2 * μ'.1 P 1 ≤ 2 * μ.1 P 1 + 5 * (μ'.1 26 10 - μ.1 26 10) + (- 18 + 22 * μ'.1 26 11)) ∧ (μ'.1 (P + 2) 3 - μ.1 (P + 2) 3 ≤ μ'.1 P 1 - μ.1 P 1 ∧ μ.1 (P + 2) 3 ≤ μ'.1 (P + 2) 3) ∧ (μ'.1 26 11 = 0 → ES μ μ' P tt (2 * (7 - μ.1 23 9))) ∧ (μ'.1 23 2 = μ.1 23 2) ∧ (μ'.1 23 7 = μ.1 23 7) ∧ (μ'.1 23 8 = μ.1 23 8) ∧ (μ'.1 23 9 = μ.1 23 9) ∧ (μ'.1 26 6 = μ.1 26 6) ∧ (μ'.1 P 7 = μ.1 P 7)) := by
  refine CtV.go (by decide) (Nat.le_of_ble_eq_true rfl) (fun ρ p e s m below meth c R ls G hR hret hlk hl => ?_)
  have hx := G.1.1
  have hb := G.1.2.1
  have hl : lv_has ls 3 [(0, .ref (oP ω 23))] := hl
  generalize s.drawn = d0 at G ⊢
  have hTKb := hTK.b
  have hprP : isPr P := by have h9 := G.sr0.2.2.2.2.2; rw [← hP] at h9; exact h9
  have hprP_d : 13 ≤ P ∧ P ≤ 101 := by rcases hprP with h9 | h9 | h9 | h9 | h9 <;> omega
  have hk_1 := hI.pr (p := P) hprP
  unfold pk at hk_1
  have hc_2 : 16 ≤ μ.2.1 (P + 1) ∧ μ.2.1 (P + 1) ≤ 73024 := hI.rm.1 _ hprP.cap
  have hX0_ : ∀ _ : Unit, μ.1 26 11 = 0 → q0 μ P μ := fun _ _ => ⟨EXT.rf, rfl⟩
  have hXH_ : ∀ _ : Unit, μ.1 26 11 = 0 → HC μ P tt (if tt = 0 then 2 else 1) := fun _ _ => HC.of (hst ())
  refine lv_aload_n hx hb dX7_ifElse_0 rfl (lv_at hl 0 rfl) ?_
  have e_3 : μ.1 23 2 = P := hP.symm
  have e_4 : μ.1 23 8 = tt := htt.symm
  have hn_5 : -1 ≤ μ.1 26 10 ∧ μ.1 26 10 ≤ 3000 := hI.nm.2.2.2.2.2.2.2.2.2.2.2.2
  have hk_6 := hI.row (r := P + 2) (hprP.row)
  unfold rk at hk_6
  refine xc_iV G (b := 23) (rest := []) (As := []) (c_X7_question ω l μ P tt hI (by omega) (by omega) hTK (by omega) (by omega) (by omega) (by omega) (by omega)) (wm 4 124 rfl rfl) (wm 4 126 rfl rfl) (wm 0 46 rfl rfl) rfl rfl (by decide) rfl (wm 1 12 rfl rfl) (wm 4 127 rfl rfl) (by decide) hR ⟨nfB hF (by decide), nlB hLo (by decide)⟩ (n := 0) rfl rfl (Nat.le_of_ble_eq_true rfl) hl.1 dX7_ifElse_1 (fun r_8 μ7 ρ d0 H locs hr_r_8 hp G => ?_)
  have hr_r_8 : -2147483648 ≤ r_8 ∧ r_8 ≤ 2147483647 := hr_r_8
  obtain ⟨F_9, hI_10, hp_11, hp_12, hp_13, hp_14, hp_15, hp_16, hs_17, hs_18, hs_19, hs_20, hs_21, hs_22, hs_23, hs_24, hs_25⟩ := hp
  have hn_26 : -1 ≤ μ7.1 26 10 ∧ μ7.1 26 10 ≤ 3000 := hI_10.nm.2.2.2.2.2.2.2.2.2.2.2.2
  have hk_27 := hI_10.pr (p := P) hprP
  unfold pk at hk_27
  have hc_28 : 16 ≤ μ7.2.1 (P + 1) ∧ μ7.2.1 (P + 1) ≤ 73024 := hI_10.rm.1 _ hprP.cap
  have hk_29 := hI_10.row (r := P + 2) (hprP.row)
  unfold rk at hk_29
  have htb_30 := hp_11.b
  replace hp_16 := fun _ : Unit => hp_16
  have hXR_31 : ∀ _ : Unit, μ7.1 26 11 = 0 → (Th (q0 μ P) (qQ P tt r_8)) μ7 := fun _ h0 => ⟨_, (hX0_ ()) (by have h9 : μ.1 26 11 = μ.1 26 11 := rfl; have h8 : μ7.1 26 11 = μ7.1 26 11 := rfl; omega), ((hp_16 ()) h0)⟩
  have hXH_32 : ∀ _ : Unit, μ7.1 26 11 = 0 → HC μ7 P tt 0 := fun _ h0 => QU.h ((hXH_ ()) (by have h9 : μ.1 26 11 = μ.1 26 11 := rfl; have h8 : μ7.1 26 11 = μ7.1 26 11 := rfl; omega)) ((hp_16 ()) h0)
  have hXw_33 : ∀ _ : Unit, μ7.1 26 11 = 0 → Wp μ7 P r_8 20 := fun _ h0 => QU.w ((hp_16 ()) h0)
  refine lv_istore_n (lv' := [(1, .int (iv r_8)), (0, .ref (oP ω 23))]) hx hb dX7_ifElse_4 rfl hl (by decide) rfl (fun ls hl => ?_)
  refine lv_aload_n hx hb dX7_ifElse_5 rfl (lv_at hl 1 rfl) ?_
  have e_34 : μ7.1 23 2 = P := (hs_17.trans hP.symm)
  have e_35 : μ7.1 23 8 = tt := (hs_21.trans htt.symm)
  have e_36 : μ7.1 23 9 = μ.1 23 9 := hs_22
  have e_37 : μ7.1 23 9 = μ.1 23 9 := hs_22
  have e_38 : μ7.1 23 9 = μ.1 23 9 := hs_22
  have e_39 : μ7.1 23 9 = μ.1 23 9 := hs_22
  refine xc_vV G (b := 23) (rest := []) (As := []) (((fun (_ : Om) (_ : Launch) => hK)) ω l μ7 P tt hI_10 (by omega) (by omega) hp_11 (by omega) (by omega) (by omega) (by omega) (by omega) (fun _ => (hXH_32 ()))) (wm 3 218 rfl rfl) (wm 3 220 rfl rfl) (wm 0 19 rfl rfl) rfl rfl (by decide) rfl (wm 1 12 rfl rfl) (wm 3 221 rfl rfl) (by decide) hR ⟨sfr (F := F) (a := 0) (by decide), slo (L := Lo) (m := 2) (a := 0) (by decide)⟩ (n := 0) rfl rfl (Nat.le_of_ble_eq_true rfl) hl.1 dX7_ifElse_6 (fun μ40 ρ d0 H locs hp G => ?_)
  obtain ⟨F_41, hI_42, hp_43, hp_44, hp_45, hp_46, hp_47, hp_48, hp_49, hs_50, hs_51, hs_52, hs_53, hs_54, hs_55⟩ := hp
  have hn_56 : -1 ≤ μ40.1 26 10 ∧ μ40.1 26 10 ≤ 3000 := hI_42.nm.2.2.2.2.2.2.2.2.2.2.2.2
  have hk_57 := hI_42.pr (p := P) hprP
  unfold pk at hk_57
  have hc_58 : 16 ≤ μ40.2.1 (P + 1) ∧ μ40.2.1 (P + 1) ≤ 73024 := hI_42.rm.1 _ hprP.cap
  have hk_59 := hI_42.row (r := P + 2) (hprP.row)
  unfold rk at hk_59
  have htb_60 := hp_43.b
  replace hp_48 := fun _ : Unit => hp_48
  have hXR_61 : ∀ _ : Unit, μ40.1 26 11 = 0 → (Th (Th (q0 μ P) (qQ P tt r_8)) (qE P tt 0 (2 * (7 - μ.1 23 9)))) μ40 := fun _ h0 => ⟨_, (hXR_31 ()) (by have h9 : μ7.1 26 11 = μ7.1 26 11 := rfl; have h8 : μ40.1 26 11 = μ40.1 26 11 := rfl; omega), (((hp_48 ()) h0).mn (by have h9 : μ7.1 23 9 = μ.1 23 9 := hs_22; omega))⟩
  have hXH_62 : ∀ _ : Unit, μ40.1 26 11 = 0 → HC μ40 P tt 0 := fun _ h0 => HC.ex ((hXH_32 ()) (by have h9 : μ7.1 26 11 = μ7.1 26 11 := rfl; have h8 : μ40.1 26 11 = μ40.1 26 11 := rfl; omega)) ((hp_48 ()) h0)
  have hXw_63 : ∀ _ : Unit, μ40.1 26 11 = 0 → Wp μ40 P r_8 20 := fun _ h0 => ((hXw_33 ()) (by have h9 : μ7.1 26 11 = μ7.1 26 11 := rfl; have h8 : μ40.1 26 11 = μ40.1 26 11 := rfl; omega)).ext ((hp_48 ()) h0).1
  refine lv_aload_n hx hb dX7_ifElse_9 rfl (lv_at hl 1 rfl) ?_
  refine lv_sipush (v := iv 205) hx hb dX7_ifElse_10 rfl ?_
  refine xc_iV G (b := 23) (rest := []) (As := [.int (iv 205)]) (c_X7_took_b ω l μ40 205 (by unfold ir; omega) hI_42 hp_43 (by omega)) (wm 3 160 rfl rfl) (wm 3 162 rfl rfl) (wm 0 9 rfl rfl) rfl rfl (by decide) rfl (wm 1 12 rfl rfl) (wm 3 163 rfl rfl) (by decide) hR ⟨nfB hF (by decide), nlB hLo (by decide)⟩ (n := 1) rfl rfl (Nat.le_of_ble_eq_true rfl) hl.1 dX7_ifElse_13 (fun r_65 μ64 ρ d0 H locs hr_r_65 hp G => ?_)
  have hr_r_65 : -2147483648 ≤ r_65 ∧ r_65 ≤ 2147483647 := hr_r_65
  obtain ⟨F_66, hI_67, hp_68, hp_69, hp_70, hs_71, hs_72, hs_73, hs_74, hs_75⟩ := hp
  have hn_76 : -1 ≤ μ64.1 26 10 ∧ μ64.1 26 10 ≤ 3000 := hI_67.nm.2.2.2.2.2.2.2.2.2.2.2.2
  have htb_77 := hp_68.b
  refine xb_if_eq (tgt := 59) hx hb (by unfold ir; omega) dX7_ifElse_16 (by decide) (fun c_16 => ?_) (fun c_16 => ?_)
  · refine lv_aload_n hx hb dX7_ifElse_59 rfl (lv_at hl 1 rfl) ?_
    refine xa_getr G fd_X7 (a := 23) (x := P) 2 rfl (by decide) rfl (wm 2 19 rfl rfl) ⟨rfl, rfl, rfl⟩ dX7_ifElse_60 rfl ((F_66.1 23 (by decide) 2).trans (hs_50.trans (hs_17.trans hP.symm))) (by omega) (hprP.hq ω ρ) ?_
    refine lv_iload_n hx hb dX7_ifElse_63 rfl (lv_at hl 0 rfl) ?_
    refine lv_aload_n hx hb dX7_ifElse_64 rfl (lv_at hl 1 rfl) ?_
    have e_78 : μ64.1 23 2 = P := ((F_66.1 23 (by decide) 2).trans (hs_50.trans (hs_17.trans hP.symm)))
    have e_79 : μ64.1 P 1 = μ40.1 P 1 := (F_66.1 P (ni hprP (fun P => P) (fun P => [26]) rfl) 1)
    refine xc_iV G (b := 23) (rest := [.int (iv r_8), .ref (oP ω P)]) (As := []) (c_X7_here ω l μ64 P hI_67 (by omega)) (wm 4 31 rfl rfl) (wm 4 33 rfl rfl) (wm 0 31 rfl rfl) rfl rfl (by decide) rfl (wm 1 12 rfl rfl) (wm 4 34 rfl rfl) (by decide) hR ⟨nfB hF (by decide), nlB hLo (by decide)⟩ (n := 0) rfl rfl (Nat.le_of_ble_eq_true rfl) hl.1 dX7_ifElse_65 (fun r_81 μ80 ρ d0 H locs hr_r_81 hp G => ?_)
    have hr_r_81 : -2147483648 ≤ r_81 ∧ r_81 ≤ 2147483647 := hr_r_81
    obtain ⟨hsm_82, hp_83⟩ := hp
    have hsm_82 := Eq.symm hsm_82
    subst hsm_82
    have htR_84 : ∀ _ : Unit, μ64.1 26 11 = 0 → (Th (Th (q0 μ P) (qQ P tt r_8)) (qE P tt 0 (2 * (7 - μ.1 23 9)))) μ64 := fun _ h0 => ThE (K := [26]) (hXR_61 () (by have h9 : μ40.1 26 11 = μ40.1 26 11 := rfl; have h8 : μ64.1 26 11 = μ40.1 26 11 := hs_71; omega)) (Fr.tr Fr.rf F_66 (by decide)) (npL_p (L := [26]) (by decide) hprP).1 (npL_p (L := [26]) (by decide) hprP).2.1
    have htH_85 : ∀ _ : Unit, μ64.1 26 11 = 0 → HC μ64 P tt 0 := fun _ h0 => HC.fr (K := [26]) (hXH_62 () (by have h9 : μ40.1 26 11 = μ40.1 26 11 := rfl; have h8 : μ64.1 26 11 = μ40.1 26 11 := hs_71; omega)) (Fr.tr Fr.rf F_66 (by decide)) (npL_p (L := [26]) (by decide) hprP).1 (npL_p (L := [26]) (by decide) hprP).2.1
    have htw_86 : ∀ _ : Unit, μ64.1 26 11 = 0 → Wp μ64 P r_8 20 := fun _ h0 => Wp.fr (K := [26]) (hXw_63 () (by have h9 : μ40.1 26 11 = μ40.1 26 11 := rfl; have h8 : μ64.1 26 11 = μ40.1 26 11 := hs_71; omega)) (Fr.tr Fr.rf F_66 (by decide)) (npL_p (L := [26]) (by decide) hprP).1 (npL_p (L := [26]) (by decide) hprP).2.1
    have e_87 : μ64.1 P 1 = μ40.1 P 1 := (F_66.1 P (ni hprP (fun P => P) (fun P => [26]) rfl) 1)
    refine xc_vV G (b := P) (rest := []) (As := [.int (iv r_8), .int (iv r_81)]) (c_X8_setFirst ω l μ64 P r_8 r_81 (μ40.1 P 1) hprP (by unfold ir; omega) (by unfold ir; omega) hI_67 (by omega)) (wm 4 51 rfl rfl) (wm 4 52 rfl rfl) (wm 4 53 rfl rfl) hprP.ly rfl (by decide) (hprP.hq ω ρ) (wm 1 9 rfl rfl) (wm 4 54 rfl rfl) (by decide) hR ⟨nfB hF (by decide), nlB hLo (by decide)⟩ (n := 2) rfl rfl (Nat.le_of_ble_eq_true rfl) hl.1 dX7_ifElse_68 (fun μ88 ρ d0 H locs hp G => ?_)
    obtain ⟨F_89, hI_90, hp_91, hp_92, ha_93⟩ := hp
    have hm_94 : ∀ _ : Unit, μ88.1 26 11 = 0 → MF μ64 μ88 P r_8 r_81 := by
      intro _ h0
      have hw_ := ((htw_86 ()) (by have h9 : μ64.1 26 11 = μ40.1 26 11 := hs_71; have h8 : μ88.1 26 11 = μ40.1 26 11 := ((F_89.1 26 (ni hprP (fun P => 26) (fun P => [P + 1]) rfl) 11).trans hs_71); omega)).1
      have h8 : μ64.1 P 1 = μ40.1 P 1 := (F_66.1 P (ni hprP (fun P => P) (fun P => [26]) rfl) 1)
      have h9 : μ88.1 P 1 = μ40.1 P 1 := ((F_89.1 P (ni hprP (fun P => P) (fun P => [P + 1]) rfl) 1).trans (F_66.1 P (ni hprP (fun P => P) (fun P => [26]) rfl) 1))
      rcases hp_92 with ⟨q1, q2, q3⟩ | ⟨q1, q2⟩
      · exact MF.of (μ := μ64) (ν := μ88) (P := P) (by rw [h9, h8]) hw_ q3 ha_93
      · exfalso; exact q1 (by rw [← h8]; exact hw_)
    have hXR_95 : ∀ _ : Unit, μ88.1 26 11 = 0 → (Th (Th (Th (q0 μ P) (qQ P tt r_8)) (qE P tt 0 (2 * (7 - μ.1 23 9)))) (qF P r_8 r_81)) μ88 := fun _ h0 => ⟨_, (htR_84 ()) (by have h9 : μ64.1 26 11 = μ40.1 26 11 := hs_71; have h8 : μ88.1 26 11 = μ40.1 26 11 := ((F_89.1 26 (ni hprP (fun P => 26) (fun P => [P + 1]) rfl) 11).trans hs_71); omega), (hm_94 ()) h0, by omega⟩
    have hXH_96 : ∀ _ : Unit, μ88.1 26 11 = 0 → HC μ88 P tt 0 := fun _ h0 => ((htH_85 ()) (by have h9 : μ64.1 26 11 = μ40.1 26 11 := hs_71; have h8 : μ88.1 26 11 = μ40.1 26 11 := ((F_89.1 26 (ni hprP (fun P => 26) (fun P => [P + 1]) rfl) 11).trans hs_71); omega)).mf ((hm_94 ()) h0) ((htw_86 ()) (by have h9 : μ64.1 26 11 = μ40.1 26 11 := hs_71; have h8 : μ88.1 26 11 = μ40.1 26 11 := ((F_89.1 26 (ni hprP (fun P => 26) (fun P => [P + 1]) rfl) 11).trans hs_71); omega)) (by decide)
    have hXw_97 : ∀ _ : Unit, μ88.1 26 11 = 0 → Wp μ88 P r_8 20 := fun _ h0 => ((htw_86 ()) (by have h9 : μ64.1 26 11 = μ40.1 26 11 := hs_71; have h8 : μ88.1 26 11 = μ40.1 26 11 := ((F_89.1 26 (ni hprP (fun P => 26) (fun P => [P + 1]) rfl) 11).trans hs_71); omega)).mf ((hm_94 ()) h0)
    clear hk_1 hc_2 hk_6 hk_27 hc_28 hk_29 hk_57 hc_58 hk_59
    have e_98 : μ88.1 26 11 = μ40.1 26 11 := ((F_89.1 26 (ni hprP (fun P => 26) (fun P => [P + 1]) rfl) 11).trans hs_71)
    have htk_99 : TK μ88 := hp_68.fr (K := [P + 1]) (Fr.tr Fr.rf F_89 (si hprP (fun P => [P + 1]) (fun P => [P + 1]) rfl)) (ni hprP (fun P => 26) (fun P => [P + 1]) rfl) (ni hprP (fun P => 28) (fun P => [P + 1]) rfl) (ni hprP (fun P => 29) (fun P => [P + 1]) rfl)
    have e_100 : μ88.1 26 11 = μ40.1 26 11 := ((F_89.1 26 (ni hprP (fun P => 26) (fun P => [P + 1]) rfl) 11).trans hs_71)
    have e_101 : μ88.1 26 10 = μ64.1 26 10 := (F_89.1 26 (ni hprP (fun P => 26) (fun P => [P + 1]) rfl) 10)
    have e_102 : μ88.1 P 1 = μ40.1 P 1 := ((F_89.1 P (ni hprP (fun P => P) (fun P => [P + 1]) rfl) 1).trans (F_66.1 P (ni hprP (fun P => P) (fun P => [26]) rfl) 1))
    have e_103 : μ88.1 P 1 = μ40.1 P 1 := ((F_89.1 P (ni hprP (fun P => P) (fun P => [P + 1]) rfl) 1).trans (F_66.1 P (ni hprP (fun P => P) (fun P => [26]) rfl) 1))
    have e_104 : μ88.1 26 10 = μ64.1 26 10 := (F_89.1 26 (ni hprP (fun P => 26) (fun P => [P + 1]) rfl) 10)
    have e_105 : μ88.1 26 11 = μ40.1 26 11 := ((F_89.1 26 (ni hprP (fun P => 26) (fun P => [P + 1]) rfl) 11).trans hs_71)
    have e_106 : μ88.1 (P + 2) 3 = μ40.1 (P + 2) 3 := ((F_89.1 (P + 2) (ni hprP (fun P => P + 2) (fun P => [P + 1]) rfl) 3).trans (F_66.1 (P + 2) (ni hprP (fun P => P + 2) (fun P => [26]) rfl) 3))
    have e_107 : μ88.1 P 1 = μ40.1 P 1 := ((F_89.1 P (ni hprP (fun P => P) (fun P => [P + 1]) rfl) 1).trans (F_66.1 P (ni hprP (fun P => P) (fun P => [26]) rfl) 1))
    have e_108 : μ88.1 (P + 2) 3 = μ40.1 (P + 2) 3 := ((F_89.1 (P + 2) (ni hprP (fun P => P + 2) (fun P => [P + 1]) rfl) 3).trans (F_66.1 (P + 2) (ni hprP (fun P => P + 2) (fun P => [26]) rfl) 3))
    exact xr_v G hret hlk dX7_ifElse_71 ⟨(Fr.tr (Fr.tr (Fr.tr (Fr.tr Fr.rf F_9 (si hprP (fun P => [2, 3, 4, 23, 24, 26, P, P + 1, P + 2, (P + 2) + 1, (P + 2) + 2, (P + 2) + 3]) (fun P => [2, 3, 4, 23, 24, 25, 26, P, P + 1, P + 2, (P + 2) + 1, (P + 2) + 2, (P + 2) + 3]) rfl)) F_41 (si hprP (fun P => [2, 3, 4, 23, 24, 25, 26, P, P + 1, P + 2, (P + 2) + 1, (P + 2) + 2, (P + 2) + 3]) (fun P => [2, 3, 4, 23, 24, 25, 26, P, P + 1, P + 2, (P + 2) + 1, (P + 2) + 2, (P + 2) + 3]) rfl)) F_66 (si hprP (fun P => [26]) (fun P => [2, 3, 4, 23, 24, 25, 26, P, P + 1, P + 2, (P + 2) + 1, (P + 2) + 2, (P + 2) + 3]) rfl)) F_89 (si hprP (fun P => [P + 1]) (fun P => [2, 3, 4, 23, 24, 25, 26, P, P + 1, P + 2, (P + 2) + 1, (P + 2) + 2, (P + 2) + 3]) rfl)), hI_90, htk_99, (by omega), (by omega), (by omega), (by omega), (fun h0 => as_ifq (hst ()) ((hXR_95 ()) h0) (by omega)), (((F_89.1 23 (ni hprP (fun P => 23) (fun P => [P + 1]) rfl) 2).trans ((F_66.1 23 (by decide) 2).trans (hs_50.trans (hs_17.trans hP.symm))))).trans hP, ((F_89.1 23 (ni hprP (fun P => 23) (fun P => [P + 1]) rfl) 7).trans ((F_66.1 23 (by decide) 7).trans (hs_51.trans hs_20))), (((F_89.1 23 (ni hprP (fun P => 23) (fun P => [P + 1]) rfl) 8).trans ((F_66.1 23 (by decide) 8).trans (hs_52.trans (hs_21.trans htt.symm))))).trans htt, ((F_89.1 23 (ni hprP (fun P => 23) (fun P => [P + 1]) rfl) 9).trans ((F_66.1 23 (by decide) 9).trans (hs_53.trans hs_22))), ((F_89.1 26 (ni hprP (fun P => 26) (fun P => [P + 1]) rfl) 6).trans (hs_72.trans (hs_54.trans hs_24))), ((F_89.1 P (ni hprP (fun P => P) (fun P => [P + 1]) rfl) 7).trans ((F_66.1 P (ni hprP (fun P => P) (fun P => [26]) rfl) 7).trans (hs_55.trans hs_25)))⟩
  · refine lv_aload_n hx hb dX7_ifElse_19 rfl (lv_at hl 1 rfl) ?_
    refine lv_bipush (v := iv 19) hx hb dX7_ifElse_20 rfl ?_
    refine lv_iconst (v := iv 0) hx hb dX7_ifElse_22 rfl ?_
    refine lv_iconst (v := iv 0) hx hb dX7_ifElse_23 rfl ?_
    have htR_109 : ∀ _ : Unit, μ64.1 26 11 = 0 → (Th (Th (q0 μ P) (qQ P tt r_8)) (qE P tt 0 (2 * (7 - μ.1 23 9)))) μ64 := fun _ h0 => ThE (K := [26]) (hXR_61 () (by have h9 : μ40.1 26 11 = μ40.1 26 11 := rfl; have h8 : μ64.1 26 11 = μ40.1 26 11 := hs_71; omega)) (Fr.tr Fr.rf F_66 (by decide)) (npL_p (L := [26]) (by decide) hprP).1 (npL_p (L := [26]) (by decide) hprP).2.1
    have htH_110 : ∀ _ : Unit, μ64.1 26 11 = 0 → HC μ64 P tt 0 := fun _ h0 => HC.fr (K := [26]) (hXH_62 () (by have h9 : μ40.1 26 11 = μ40.1 26 11 := rfl; have h8 : μ64.1 26 11 = μ40.1 26 11 := hs_71; omega)) (Fr.tr Fr.rf F_66 (by decide)) (npL_p (L := [26]) (by decide) hprP).1 (npL_p (L := [26]) (by decide) hprP).2.1
    have htw_111 : ∀ _ : Unit, μ64.1 26 11 = 0 → Wp μ64 P r_8 20 := fun _ h0 => Wp.fr (K := [26]) (hXw_63 () (by have h9 : μ40.1 26 11 = μ40.1 26 11 := rfl; have h8 : μ64.1 26 11 = μ40.1 26 11 := hs_71; omega)) (Fr.tr Fr.rf F_66 (by decide)) (npL_p (L := [26]) (by decide) hprP).1 (npL_p (L := [26]) (by decide) hprP).2.1
    have e_112 : μ64.1 23 2 = P := ((F_66.1 23 (by decide) 2).trans (hs_50.trans (hs_17.trans hP.symm)))
    have e_113 : μ64.1 P 1 = μ40.1 P 1 := (F_66.1 P (ni hprP (fun P => P) (fun P => [26]) rfl) 1)
    have e_114 : μ64.1 P 1 = μ40.1 P 1 := (F_66.1 P (ni hprP (fun P => P) (fun P => [26]) rfl) 1)
    have e_115 : μ64.1 P 1 = μ40.1 P 1 := (F_66.1 P (ni hprP (fun P => P) (fun P => [26]) rfl) 1)
    refine xc_iV G (b := 23) (rest := []) (As := [.int (iv 19), .int (iv 0), .int (iv 0)]) (c_X7_add ω l μ64 19 0 0 P (by unfold ir; omega) (by unfold ir; omega) (by unfold ir; omega) hI_67 (by omega) (by omega)) (wm 3 226 rfl rfl) (wm 3 228 rfl rfl) (wm 0 21 rfl rfl) rfl rfl (by decide) rfl (wm 1 12 rfl rfl) (wm 3 229 rfl rfl) (by decide) hR ⟨nfB hF (by decide), nlB hLo (by decide)⟩ (n := 3) rfl rfl (Nat.le_of_ble_eq_true rfl) hl.1 dX7_ifElse_24 (fun r_117 μ116 ρ d0 H locs hr_r_117 hp G => ?_)
    have hr_r_117 : -2147483648 ≤ r_117 ∧ r_117 ≤ 2147483647 := hr_r_117
    obtain ⟨F_118, hI_119, hp_120, hp_121, hs_122, hs_123⟩ := hp
    have hXR_124 : ∀ _ : Unit, μ116.1 26 11 = 0 → (Th (Th (Th (q0 μ P) (qQ P tt r_8)) (qE P tt 0 (2 * (7 - μ.1 23 9)))) (qA P 19 0 0 r_117)) μ116 := fun _ h0 => ⟨_, (htR_109 ()) (by have h9 : μ64.1 26 11 = μ40.1 26 11 := hs_71; have h8 : μ116.1 26 11 = μ40.1 26 11 := ((F_118.1 26 (ni hprP (fun P => 26) (fun P => [P, P + 1]) rfl) 11).trans hs_71); omega), hp_121, hp_120⟩
    have hXH_125 : ∀ _ : Unit, μ116.1 26 11 = 0 → HC μ116 P tt 0 := fun _ h0 => (((htH_110 ()) (by have h9 : μ64.1 26 11 = μ40.1 26 11 := hs_71; have h8 : μ116.1 26 11 = μ40.1 26 11 := ((F_118.1 26 (ni hprP (fun P => 26) (fun P => [P, P + 1]) rfl) 11).trans hs_71); omega)).ad hp_121 (Or.inl rfl)).c rfl
    have hXw_126 : ∀ _ : Unit, μ116.1 26 11 = 0 → Wp μ116 P r_8 20 := fun _ h0 => ((htw_111 ()) (by have h9 : μ64.1 26 11 = μ40.1 26 11 := hs_71; have h8 : μ116.1 26 11 = μ40.1 26 11 := ((F_118.1 26 (ni hprP (fun P => 26) (fun P => [P, P + 1]) rfl) 11).trans hs_71); omega)).ext hp_121.1
    have hXw_127 : ∀ _ : Unit, μ116.1 26 11 = 0 → Wp μ116 P r_117 19 := fun _ h0 => Wp.of hp_121 ((htH_110 ()) (by have h9 : μ64.1 26 11 = μ40.1 26 11 := hs_71; have h8 : μ116.1 26 11 = μ40.1 26 11 := ((F_118.1 26 (ni hprP (fun P => 26) (fun P => [P, P + 1]) rfl) 11).trans hs_71); omega)).1 hp_120
    refine lv_istore_n (lv' := [(2, .int (iv r_117)), (1, .int (iv r_8)), (0, .ref (oP ω 23))]) hx hb dX7_ifElse_27 rfl hl (by decide) rfl (fun ls hl => ?_)
    refine lv_aload_n hx hb dX7_ifElse_28 rfl (lv_at hl 2 rfl) ?_
    refine xa_getr G fd_X7 (a := 23) (x := P) 2 rfl (by decide) rfl (wm 2 19 rfl rfl) ⟨rfl, rfl, rfl⟩ dX7_ifElse_29 rfl ((F_118.1 23 (ni hprP (fun P => 23) (fun P => [P, P + 1]) rfl) 2).trans ((F_66.1 23 (by decide) 2).trans (hs_50.trans (hs_17.trans hP.symm)))) (by omega) (hprP.hq ω ρ) ?_
    refine lv_iload_n hx hb dX7_ifElse_32 rfl (lv_at hl 1 rfl) ?_
    refine lv_aload_n hx hb dX7_ifElse_33 rfl (lv_at hl 2 rfl) ?_
    have e_128 : μ116.1 23 2 = P := ((F_118.1 23 (ni hprP (fun P => 23) (fun P => [P, P + 1]) rfl) 2).trans ((F_66.1 23 (by decide) 2).trans (hs_50.trans (hs_17.trans hP.symm))))
    have e_129 : μ116.1 P 1 = μ64.1 P 1 + 1 := hs_122
    refine xc_iV G (b := 23) (rest := [.int (iv r_8), .ref (oP ω P)]) (As := []) (c_X7_here ω l μ116 P hI_119 (by omega)) (wm 4 31 rfl rfl) (wm 4 33 rfl rfl) (wm 0 31 rfl rfl) rfl rfl (by decide) rfl (wm 1 12 rfl rfl) (wm 4 34 rfl rfl) (by decide) hR ⟨nfB hF (by decide), nlB hLo (by decide)⟩ (n := 0) rfl rfl (Nat.le_of_ble_eq_true rfl) hl.1 dX7_ifElse_34 (fun r_131 μ130 ρ d0 H locs hr_r_131 hp G => ?_)
    have hr_r_131 : -2147483648 ≤ r_131 ∧ r_131 ≤ 2147483647 := hr_r_131
    obtain ⟨hsm_132, hp_133⟩ := hp
    have hsm_132 := Eq.symm hsm_132
    subst hsm_132
    have e_134 : μ116.1 P 1 = μ64.1 P 1 + 1 := hs_122
    refine xc_vV G (b := P) (rest := []) (As := [.int (iv r_8), .int (iv r_131)]) (c_X8_setFirst ω l μ116 P r_8 r_131 (μ64.1 P 1 + 1) hprP (by unfold ir; omega) (by unfold ir; omega) hI_119 (by omega)) (wm 4 51 rfl rfl) (wm 4 52 rfl rfl) (wm 4 53 rfl rfl) hprP.ly rfl (by decide) (hprP.hq ω ρ) (wm 1 9 rfl rfl) (wm 4 54 rfl rfl) (by decide) hR ⟨nfB hF (by decide), nlB hLo (by decide)⟩ (n := 2) rfl rfl (Nat.le_of_ble_eq_true rfl) hl.1 dX7_ifElse_37 (fun μ135 ρ d0 H locs hp G => ?_)
    obtain ⟨F_136, hI_137, hp_138, hp_139, ha_140⟩ := hp
    have hm_141 : ∀ _ : Unit, μ135.1 26 11 = 0 → MF μ116 μ135 P r_8 r_131 := by
      intro _ h0
      have hw_ := ((hXw_126 ()) (by have h9 : μ116.1 26 11 = μ40.1 26 11 := ((F_118.1 26 (ni hprP (fun P => 26) (fun P => [P, P + 1]) rfl) 11).trans hs_71); have h8 : μ135.1 26 11 = μ40.1 26 11 := ((F_136.1 26 (ni hprP (fun P => 26) (fun P => [P + 1]) rfl) 11).trans ((F_118.1 26 (ni hprP (fun P => 26) (fun P => [P, P + 1]) rfl) 11).trans hs_71)); omega)).1
      have h8 : μ116.1 P 1 = μ64.1 P 1 + 1 := hs_122
      have h9 : μ135.1 P 1 = μ64.1 P 1 + 1 := ((F_136.1 P (ni hprP (fun P => P) (fun P => [P + 1]) rfl) 1).trans hs_122)
      rcases hp_139 with ⟨q1, q2, q3⟩ | ⟨q1, q2⟩
      · exact MF.of (μ := μ116) (ν := μ135) (P := P) (by rw [h9, h8]) hw_ q3 ha_140
      · exfalso; exact q1 (by rw [← h8]; exact hw_)
    have hXR_142 : ∀ _ : Unit, μ135.1 26 11 = 0 → (Th (Th (Th (Th (q0 μ P) (qQ P tt r_8)) (qE P tt 0 (2 * (7 - μ.1 23 9)))) (qA P 19 0 0 r_117)) (qF P r_8 r_131)) μ135 := fun _ h0 => ⟨_, (hXR_124 ()) (by have h9 : μ116.1 26 11 = μ40.1 26 11 := ((F_118.1 26 (ni hprP (fun P => 26) (fun P => [P, P + 1]) rfl) 11).trans hs_71); have h8 : μ135.1 26 11 = μ40.1 26 11 := ((F_136.1 26 (ni hprP (fun P => 26) (fun P => [P + 1]) rfl) 11).trans ((F_118.1 26 (ni hprP (fun P => 26) (fun P => [P, P + 1]) rfl) 11).trans hs_71)); omega), (hm_141 ()) h0, by omega⟩
    have hXH_143 : ∀ _ : Unit, μ135.1 26 11 = 0 → HC μ135 P tt 0 := fun _ h0 => ((hXH_125 ()) (by have h9 : μ116.1 26 11 = μ40.1 26 11 := ((F_118.1 26 (ni hprP (fun P => 26) (fun P => [P, P + 1]) rfl) 11).trans hs_71); have h8 : μ135.1 26 11 = μ40.1 26 11 := ((F_136.1 26 (ni hprP (fun P => 26) (fun P => [P + 1]) rfl) 11).trans ((F_118.1 26 (ni hprP (fun P => 26) (fun P => [P, P + 1]) rfl) 11).trans hs_71)); omega)).mf ((hm_141 ()) h0) ((hXw_126 ()) (by have h9 : μ116.1 26 11 = μ40.1 26 11 := ((F_118.1 26 (ni hprP (fun P => 26) (fun P => [P, P + 1]) rfl) 11).trans hs_71); have h8 : μ135.1 26 11 = μ40.1 26 11 := ((F_136.1 26 (ni hprP (fun P => 26) (fun P => [P + 1]) rfl) 11).trans ((F_118.1 26 (ni hprP (fun P => 26) (fun P => [P, P + 1]) rfl) 11).trans hs_71)); omega)) (by decide)
    have hXw_144 : ∀ _ : Unit, μ135.1 26 11 = 0 → Wp μ135 P r_8 20 := fun _ h0 => ((hXw_126 ()) (by have h9 : μ116.1 26 11 = μ40.1 26 11 := ((F_118.1 26 (ni hprP (fun P => 26) (fun P => [P, P + 1]) rfl) 11).trans hs_71); have h8 : μ135.1 26 11 = μ40.1 26 11 := ((F_136.1 26 (ni hprP (fun P => 26) (fun P => [P + 1]) rfl) 11).trans ((F_118.1 26 (ni hprP (fun P => 26) (fun P => [P, P + 1]) rfl) 11).trans hs_71)); omega)).mf ((hm_141 ()) h0)
    have hXw_145 : ∀ _ : Unit, μ135.1 26 11 = 0 → Wp μ135 P r_117 19 := fun _ h0 => ((hXw_127 ()) (by have h9 : μ116.1 26 11 = μ40.1 26 11 := ((F_118.1 26 (ni hprP (fun P => 26) (fun P => [P, P + 1]) rfl) 11).trans hs_71); have h8 : μ135.1 26 11 = μ40.1 26 11 := ((F_136.1 26 (ni hprP (fun P => 26) (fun P => [P + 1]) rfl) 11).trans ((F_118.1 26 (ni hprP (fun P => 26) (fun P => [P, P + 1]) rfl) 11).trans hs_71)); omega)).mf ((hm_141 ()) h0)
    refine lv_aload_n hx hb dX7_ifElse_40 rfl (lv_at hl 2 rfl) ?_
    have e_146 : μ135.1 23 2 = P := ((F_136.1 23 (ni hprP (fun P => 23) (fun P => [P + 1]) rfl) 2).trans ((F_118.1 23 (ni hprP (fun P => 23) (fun P => [P, P + 1]) rfl) 2).trans ((F_66.1 23 (by decide) 2).trans (hs_50.trans (hs_17.trans hP.symm)))))
    have e_147 : μ135.1 23 8 = tt := ((F_136.1 23 (ni hprP (fun P => 23) (fun P => [P + 1]) rfl) 8).trans ((F_118.1 23 (ni hprP (fun P => 23) (fun P => [P, P + 1]) rfl) 8).trans ((F_66.1 23 (by decide) 8).trans (hs_52.trans (hs_21.trans htt.symm)))))
    have htk_148 : TK μ135 := hp_68.fr (K := [P + 1, P]) (Fr.tr (Fr.tr Fr.rf F_118 (si hprP (fun P => [P, P + 1]) (fun P => [P + 1, P]) rfl)) F_136 (si hprP (fun P => [P + 1]) (fun P => [P + 1, P]) rfl)) (ni hprP (fun P => 26) (fun P => [P + 1, P]) rfl) (ni hprP (fun P => 28) (fun P => [P + 1, P]) rfl) (ni hprP (fun P => 29) (fun P => [P + 1, P]) rfl)
    have e_149 : μ135.1 P 1 = μ64.1 P 1 + 1 := ((F_136.1 P (ni hprP (fun P => P) (fun P => [P + 1]) rfl) 1).trans hs_122)
    have e_150 : μ135.1 26 10 = μ64.1 26 10 := ((F_136.1 26 (ni hprP (fun P => 26) (fun P => [P + 1]) rfl) 10).trans (F_118.1 26 (ni hprP (fun P => 26) (fun P => [P, P + 1]) rfl) 10))
    have e_151 : μ135.1 26 11 = μ40.1 26 11 := ((F_136.1 26 (ni hprP (fun P => 26) (fun P => [P + 1]) rfl) 11).trans ((F_118.1 26 (ni hprP (fun P => 26) (fun P => [P, P + 1]) rfl) 11).trans hs_71))
    have e_152 : μ135.1 (P + 2) 3 = μ40.1 (P + 2) 3 := ((F_136.1 (P + 2) (ni hprP (fun P => P + 2) (fun P => [P + 1]) rfl) 3).trans ((F_118.1 (P + 2) (ni hprP (fun P => P + 2) (fun P => [P, P + 1]) rfl) 3).trans (F_66.1 (P + 2) (ni hprP (fun P => P + 2) (fun P => [26]) rfl) 3)))
    have e_153 : μ135.1 P 1 = μ64.1 P 1 + 1 := ((F_136.1 P (ni hprP (fun P => P) (fun P => [P + 1]) rfl) 1).trans hs_122)
    have e_154 : μ135.1 23 9 = μ.1 23 9 := ((F_136.1 23 (ni hprP (fun P => 23) (fun P => [P + 1]) rfl) 9).trans ((F_118.1 23 (ni hprP (fun P => 23) (fun P => [P, P + 1]) rfl) 9).trans ((F_66.1 23 (by decide) 9).trans (hs_53.trans hs_22))))
    have e_155 : μ135.1 23 9 = μ.1 23 9 := ((F_136.1 23 (ni hprP (fun P => 23) (fun P => [P + 1]) rfl) 9).trans ((F_118.1 23 (ni hprP (fun P => 23) (fun P => [P, P + 1]) rfl) 9).trans ((F_66.1 23 (by decide) 9).trans (hs_53.trans hs_22))))
    have e_156 : μ135.1 23 9 = μ.1 23 9 := ((F_136.1 23 (ni hprP (fun P => 23) (fun P => [P + 1]) rfl) 9).trans ((F_118.1 23 (ni hprP (fun P => 23) (fun P => [P, P + 1]) rfl) 9).trans ((F_66.1 23 (by decide) 9).trans (hs_53.trans hs_22))))
    have e_157 : μ135.1 26 11 = μ40.1 26 11 := ((F_136.1 26 (ni hprP (fun P => 26) (fun P => [P + 1]) rfl) 11).trans ((F_118.1 26 (ni hprP (fun P => 26) (fun P => [P, P + 1]) rfl) 11).trans hs_71))
    have e_158 : μ135.1 26 10 = μ64.1 26 10 := ((F_136.1 26 (ni hprP (fun P => 26) (fun P => [P + 1]) rfl) 10).trans (F_118.1 26 (ni hprP (fun P => 26) (fun P => [P, P + 1]) rfl) 10))
    have e_159 : μ135.1 P 1 = μ64.1 P 1 + 1 := ((F_136.1 P (ni hprP (fun P => P) (fun P => [P + 1]) rfl) 1).trans hs_122)
    have e_160 : μ135.1 P 1 = μ64.1 P 1 + 1 := ((F_136.1 P (ni hprP (fun P => P) (fun P => [P + 1]) rfl) 1).trans hs_122)
    have e_161 : μ135.1 26 10 = μ64.1 26 10 := ((F_136.1 26 (ni hprP (fun P => 26) (fun P => [P + 1]) rfl) 10).trans (F_118.1 26 (ni hprP (fun P => 26) (fun P => [P, P + 1]) rfl) 10))
    have e_162 : μ135.1 26 11 = μ40.1 26 11 := ((F_136.1 26 (ni hprP (fun P => 26) (fun P => [P + 1]) rfl) 11).trans ((F_118.1 26 (ni hprP (fun P => 26) (fun P => [P, P + 1]) rfl) 11).trans hs_71))
    have e_163 : μ135.1 (P + 2) 3 = μ40.1 (P + 2) 3 := ((F_136.1 (P + 2) (ni hprP (fun P => P + 2) (fun P => [P + 1]) rfl) 3).trans ((F_118.1 (P + 2) (ni hprP (fun P => P + 2) (fun P => [P, P + 1]) rfl) 3).trans (F_66.1 (P + 2) (ni hprP (fun P => P + 2) (fun P => [26]) rfl) 3)))
    have e_164 : μ135.1 P 1 = μ64.1 P 1 + 1 := ((F_136.1 P (ni hprP (fun P => P) (fun P => [P + 1]) rfl) 1).trans hs_122)
    have e_165 : μ135.1 (P + 2) 3 = μ40.1 (P + 2) 3 := ((F_136.1 (P + 2) (ni hprP (fun P => P + 2) (fun P => [P + 1]) rfl) 3).trans ((F_118.1 (P + 2) (ni hprP (fun P => P + 2) (fun P => [P, P + 1]) rfl) 3).trans (F_66.1 (P + 2) (ni hprP (fun P => P + 2) (fun P => [26]) rfl) 3)))
    have e_166 : μ135.1 23 9 = μ.1 23 9 := ((F_136.1 23 (ni hprP (fun P => 23) (fun P => [P + 1]) rfl) 9).trans ((F_118.1 23 (ni hprP (fun P => 23) (fun P => [P, P + 1]) rfl) 9).trans ((F_66.1 23 (by decide) 9).trans (hs_53.trans hs_22))))
    refine xc_vV G (b := 23) (rest := []) (As := []) (((fun (_ : Om) (_ : Launch) => hK)) ω l μ135 P tt hI_137 (by omega) (by omega) htk_148 (by omega) (by omega) (by omega) (by omega) (by omega) (fun _ => (hXH_143 ()))) (wm 3 218 rfl rfl) (wm 3 220 rfl rfl) (wm 0 19 rfl rfl) rfl rfl (by decide) rfl (wm 1 12 rfl rfl) (wm 3 221 rfl rfl) (by decide) hR ⟨sfr (F := F) (a := 0) (by decide), slo (L := Lo) (m := 2) (a := 0) (by decide)⟩ (n := 0) rfl rfl (Nat.le_of_ble_eq_true rfl) hl.1 dX7_ifElse_41 (fun μ167 ρ d0 H locs hp G => ?_)
    obtain ⟨F_168, hI_169, hp_170, hp_171, hp_172, hp_173, hp_174, hp_175, hp_176, hs_177, hs_178, hs_179, hs_180, hs_181, hs_182⟩ := hp
    have hn_183 : -1 ≤ μ167.1 26 10 ∧ μ167.1 26 10 ≤ 3000 := hI_169.nm.2.2.2.2.2.2.2.2.2.2.2.2
    have hk_184 := hI_169.pr (p := P) hprP
    unfold pk at hk_184
    have hc_185 : 16 ≤ μ167.2.1 (P + 1) ∧ μ167.2.1 (P + 1) ≤ 73024 := hI_169.rm.1 _ hprP.cap
    have hk_186 := hI_169.row (r := P + 2) (hprP.row)
    unfold rk at hk_186
    have htb_187 := hp_170.b
    replace hp_175 := fun _ : Unit => hp_175
    have hXR_188 : ∀ _ : Unit, μ167.1 26 11 = 0 → (Th (Th (Th (Th (Th (q0 μ P) (qQ P tt r_8)) (qE P tt 0 (2 * (7 - μ.1 23 9)))) (qA P 19 0 0 r_117)) (qF P r_8 r_131)) (qE P tt 0 (2 * (7 - μ.1 23 9)))) μ167 := fun _ h0 => ⟨_, (hXR_142 ()) (by have h9 : μ135.1 26 11 = μ40.1 26 11 := ((F_136.1 26 (ni hprP (fun P => 26) (fun P => [P + 1]) rfl) 11).trans ((F_118.1 26 (ni hprP (fun P => 26) (fun P => [P, P + 1]) rfl) 11).trans hs_71)); have h8 : μ167.1 26 11 = μ167.1 26 11 := rfl; omega), (((hp_175 ()) h0).mn (by have h9 : μ135.1 23 9 = μ.1 23 9 := ((F_136.1 23 (ni hprP (fun P => 23) (fun P => [P + 1]) rfl) 9).trans ((F_118.1 23 (ni hprP (fun P => 23) (fun P => [P, P + 1]) rfl) 9).trans ((F_66.1 23 (by decide) 9).trans (hs_53.trans hs_22)))); omega))⟩
    have hXH_189 : ∀ _ : Unit, μ167.1 26 11 = 0 → HC μ167 P tt 0 := fun _ h0 => HC.ex ((hXH_143 ()) (by have h9 : μ135.1 26 11 = μ40.1 26 11 := ((F_136.1 26 (ni hprP (fun P => 26) (fun P => [P + 1]) rfl) 11).trans ((F_118.1 26 (ni hprP (fun P => 26) (fun P => [P, P + 1]) rfl) 11).trans hs_71)); have h8 : μ167.1 26 11 = μ167.1 26 11 := rfl; omega)) ((hp_175 ()) h0)
    have hXw_190 : ∀ _ : Unit, μ167.1 26 11 = 0 → Wp μ167 P r_8 20 := fun _ h0 => ((hXw_144 ()) (by have h9 : μ135.1 26 11 = μ40.1 26 11 := ((F_136.1 26 (ni hprP (fun P => 26) (fun P => [P + 1]) rfl) 11).trans ((F_118.1 26 (ni hprP (fun P => 26) (fun P => [P, P + 1]) rfl) 11).trans hs_71)); have h8 : μ167.1 26 11 = μ167.1 26 11 := rfl; omega)).ext ((hp_175 ()) h0).1
    have hXw_191 : ∀ _ : Unit, μ167.1 26 11 = 0 → Wp μ167 P r_117 19 := fun _ h0 => ((hXw_145 ()) (by have h9 : μ135.1 26 11 = μ40.1 26 11 := ((F_136.1 26 (ni hprP (fun P => 26) (fun P => [P + 1]) rfl) 11).trans ((F_118.1 26 (ni hprP (fun P => 26) (fun P => [P, P + 1]) rfl) 11).trans hs_71)); have h8 : μ167.1 26 11 = μ167.1 26 11 := rfl; omega)).ext ((hp_175 ()) h0).1
    refine lv_aload_n hx hb dX7_ifElse_44 rfl (lv_at hl 2 rfl) ?_
    refine xa_getr G fd_X7 (a := 23) (x := P) 2 rfl (by decide) rfl (wm 2 19 rfl rfl) ⟨rfl, rfl, rfl⟩ dX7_ifElse_45 rfl (hs_177.trans ((F_136.1 23 (ni hprP (fun P => 23) (fun P => [P + 1]) rfl) 2).trans ((F_118.1 23 (ni hprP (fun P => 23) (fun P => [P, P + 1]) rfl) 2).trans ((F_66.1 23 (by decide) 2).trans (hs_50.trans (hs_17.trans hP.symm)))))) (by omega) (hprP.hq ω ρ) ?_
    refine lv_iload_n hx hb dX7_ifElse_48 rfl (lv_at hl 0 rfl) ?_
    refine lv_aload_n hx hb dX7_ifElse_49 rfl (lv_at hl 2 rfl) ?_
    have e_192 : μ167.1 23 2 = P := (hs_177.trans ((F_136.1 23 (ni hprP (fun P => 23) (fun P => [P + 1]) rfl) 2).trans ((F_118.1 23 (ni hprP (fun P => 23) (fun P => [P, P + 1]) rfl) 2).trans ((F_66.1 23 (by decide) 2).trans (hs_50.trans (hs_17.trans hP.symm))))))
    refine xc_iV G (b := 23) (rest := [.int (iv r_117), .ref (oP ω P)]) (As := []) (c_X7_here ω l μ167 P hI_169 (by omega)) (wm 4 31 rfl rfl) (wm 4 33 rfl rfl) (wm 0 31 rfl rfl) rfl rfl (by decide) rfl (wm 1 12 rfl rfl) (wm 4 34 rfl rfl) (by decide) hR ⟨nfB hF (by decide), nlB hLo (by decide)⟩ (n := 0) rfl rfl (Nat.le_of_ble_eq_true rfl) hl.1 dX7_ifElse_50 (fun r_194 μ193 ρ d0 H locs hr_r_194 hp G => ?_)
    have hr_r_194 : -2147483648 ≤ r_194 ∧ r_194 ≤ 2147483647 := hr_r_194
    obtain ⟨hsm_195, hp_196⟩ := hp
    have hsm_195 := Eq.symm hsm_195
    subst hsm_195
    refine xc_vV G (b := P) (rest := []) (As := [.int (iv r_117), .int (iv r_194)]) (c_X8_setFirst ω l μ167 P r_117 r_194 (μ167.1 P 1) hprP (by unfold ir; omega) (by unfold ir; omega) hI_169 (by omega)) (wm 4 51 rfl rfl) (wm 4 52 rfl rfl) (wm 4 53 rfl rfl) hprP.ly rfl (by decide) (hprP.hq ω ρ) (wm 1 9 rfl rfl) (wm 4 54 rfl rfl) (by decide) hR ⟨nfB hF (by decide), nlB hLo (by decide)⟩ (n := 2) rfl rfl (Nat.le_of_ble_eq_true rfl) hl.1 dX7_ifElse_53 (fun μ197 ρ d0 H locs hp G => ?_)
    obtain ⟨F_198, hI_199, hp_200, hp_201, ha_202⟩ := hp
    have hm_203 : ∀ _ : Unit, μ197.1 26 11 = 0 → MF μ167 μ197 P r_117 r_194 := by
      intro _ h0
      have hw_ := ((hXw_191 ()) (by have h9 : μ167.1 26 11 = μ167.1 26 11 := rfl; have h8 : μ197.1 26 11 = μ167.1 26 11 := (F_198.1 26 (ni hprP (fun P => 26) (fun P => [P + 1]) rfl) 11); omega)).1
      have h8 : μ167.1 P 1 = μ167.1 P 1 := rfl
      have h9 : μ197.1 P 1 = μ167.1 P 1 := (F_198.1 P (ni hprP (fun P => P) (fun P => [P + 1]) rfl) 1)
      rcases hp_201 with ⟨q1, q2, q3⟩ | ⟨q1, q2⟩
      · exact MF.of (μ := μ167) (ν := μ197) (P := P) (by rw [h9, h8]) hw_ q3 ha_202
      · exfalso; exact q1 (by rw [← h8]; exact hw_)
    have hXR_204 : ∀ _ : Unit, μ197.1 26 11 = 0 → (Th (Th (Th (Th (Th (Th (q0 μ P) (qQ P tt r_8)) (qE P tt 0 (2 * (7 - μ.1 23 9)))) (qA P 19 0 0 r_117)) (qF P r_8 r_131)) (qE P tt 0 (2 * (7 - μ.1 23 9)))) (qF P r_117 r_194)) μ197 := fun _ h0 => ⟨_, (hXR_188 ()) (by have h9 : μ167.1 26 11 = μ167.1 26 11 := rfl; have h8 : μ197.1 26 11 = μ167.1 26 11 := (F_198.1 26 (ni hprP (fun P => 26) (fun P => [P + 1]) rfl) 11); omega), (hm_203 ()) h0, by omega⟩
    have hXH_205 : ∀ _ : Unit, μ197.1 26 11 = 0 → HC μ197 P tt 0 := fun _ h0 => ((hXH_189 ()) (by have h9 : μ167.1 26 11 = μ167.1 26 11 := rfl; have h8 : μ197.1 26 11 = μ167.1 26 11 := (F_198.1 26 (ni hprP (fun P => 26) (fun P => [P + 1]) rfl) 11); omega)).mf ((hm_203 ()) h0) ((hXw_191 ()) (by have h9 : μ167.1 26 11 = μ167.1 26 11 := rfl; have h8 : μ197.1 26 11 = μ167.1 26 11 := (F_198.1 26 (ni hprP (fun P => 26) (fun P => [P + 1]) rfl) 11); omega)) (by decide)
    have hXw_206 : ∀ _ : Unit, μ197.1 26 11 = 0 → Wp μ197 P r_8 20 := fun _ h0 => ((hXw_190 ()) (by have h9 : μ167.1 26 11 = μ167.1 26 11 := rfl; have h8 : μ197.1 26 11 = μ167.1 26 11 := (F_198.1 26 (ni hprP (fun P => 26) (fun P => [P + 1]) rfl) 11); omega)).mf ((hm_203 ()) h0)
    have hXw_207 : ∀ _ : Unit, μ197.1 26 11 = 0 → Wp μ197 P r_117 19 := fun _ h0 => ((hXw_191 ()) (by have h9 : μ167.1 26 11 = μ167.1 26 11 := rfl; have h8 : μ197.1 26 11 = μ167.1 26 11 := (F_198.1 26 (ni hprP (fun P => 26) (fun P => [P + 1]) rfl) 11); omega)).mf ((hm_203 ()) h0)
    refine lv_goto (tgt := 71) hx hb dX7_ifElse_56 (by decide) ?_
    clear hk_1 hc_2 hk_6 hk_27 hc_28 hk_29 hk_57 hc_58 hk_59 hk_184 hc_185 hk_186
    have e_208 : μ197.1 26 11 = μ167.1 26 11 := (F_198.1 26 (ni hprP (fun P => 26) (fun P => [P + 1]) rfl) 11)
    have htk_209 : TK μ197 := hp_170.fr (K := [P + 1]) (Fr.tr Fr.rf F_198 (si hprP (fun P => [P + 1]) (fun P => [P + 1]) rfl)) (ni hprP (fun P => 26) (fun P => [P + 1]) rfl) (ni hprP (fun P => 28) (fun P => [P + 1]) rfl) (ni hprP (fun P => 29) (fun P => [P + 1]) rfl)
    have e_210 : μ197.1 26 11 = μ167.1 26 11 := (F_198.1 26 (ni hprP (fun P => 26) (fun P => [P + 1]) rfl) 11)
    have e_211 : μ197.1 26 10 = μ167.1 26 10 := (F_198.1 26 (ni hprP (fun P => 26) (fun P => [P + 1]) rfl) 10)
    have e_212 : μ197.1 P 1 = μ167.1 P 1 := (F_198.1 P (ni hprP (fun P => P) (fun P => [P + 1]) rfl) 1)
    have e_213 : μ197.1 P 1 = μ167.1 P 1 := (F_198.1 P (ni hprP (fun P => P) (fun P => [P + 1]) rfl) 1)
    have e_214 : μ197.1 26 10 = μ167.1 26 10 := (F_198.1 26 (ni hprP (fun P => 26) (fun P => [P + 1]) rfl) 10)
    have e_215 : μ197.1 26 11 = μ167.1 26 11 := (F_198.1 26 (ni hprP (fun P => 26) (fun P => [P + 1]) rfl) 11)
    have e_216 : μ197.1 (P + 2) 3 = μ167.1 (P + 2) 3 := (F_198.1 (P + 2) (ni hprP (fun P => P + 2) (fun P => [P + 1]) rfl) 3)
    have e_217 : μ197.1 P 1 = μ167.1 P 1 := (F_198.1 P (ni hprP (fun P => P) (fun P => [P + 1]) rfl) 1)
    have e_218 : μ197.1 (P + 2) 3 = μ167.1 (P + 2) 3 := (F_198.1 (P + 2) (ni hprP (fun P => P + 2) (fun P => [P + 1]) rfl) 3)
    exact xr_v G hret hlk dX7_ifElse_71 ⟨(Fr.tr (Fr.tr (Fr.tr (Fr.tr (Fr.tr (Fr.tr (Fr.tr Fr.rf F_9 (si hprP (fun P => [2, 3, 4, 23, 24, 26, P, P + 1, P + 2, (P + 2) + 1, (P + 2) + 2, (P + 2) + 3]) (fun P => [2, 3, 4, 23, 24, 25, 26, P, P + 1, P + 2, (P + 2) + 1, (P + 2) + 2, (P + 2) + 3]) rfl)) F_41 (si hprP (fun P => [2, 3, 4, 23, 24, 25, 26, P, P + 1, P + 2, (P + 2) + 1, (P + 2) + 2, (P + 2) + 3]) (fun P => [2, 3, 4, 23, 24, 25, 26, P, P + 1, P + 2, (P + 2) + 1, (P + 2) + 2, (P + 2) + 3]) rfl)) F_66 (si hprP (fun P => [26]) (fun P => [2, 3, 4, 23, 24, 25, 26, P, P + 1, P + 2, (P + 2) + 1, (P + 2) + 2, (P + 2) + 3]) rfl)) F_118 (si hprP (fun P => [P, P + 1]) (fun P => [2, 3, 4, 23, 24, 25, 26, P, P + 1, P + 2, (P + 2) + 1, (P + 2) + 2, (P + 2) + 3]) rfl)) F_136 (si hprP (fun P => [P + 1]) (fun P => [2, 3, 4, 23, 24, 25, 26, P, P + 1, P + 2, (P + 2) + 1, (P + 2) + 2, (P + 2) + 3]) rfl)) F_168 (si hprP (fun P => [2, 3, 4, 23, 24, 25, 26, P, P + 1, P + 2, (P + 2) + 1, (P + 2) + 2, (P + 2) + 3]) (fun P => [2, 3, 4, 23, 24, 25, 26, P, P + 1, P + 2, (P + 2) + 1, (P + 2) + 2, (P + 2) + 3]) rfl)) F_198 (si hprP (fun P => [P + 1]) (fun P => [2, 3, 4, 23, 24, 25, 26, P, P + 1, P + 2, (P + 2) + 1, (P + 2) + 2, (P + 2) + 3]) rfl)), hI_199, htk_209, (by omega), (by omega), (by omega), (by omega), (fun h0 => as_ife (hst ()) ((hXR_204 ()) h0) (by omega)), (((F_198.1 23 (ni hprP (fun P => 23) (fun P => [P + 1]) rfl) 2).trans (hs_177.trans ((F_136.1 23 (ni hprP (fun P => 23) (fun P => [P + 1]) rfl) 2).trans ((F_118.1 23 (ni hprP (fun P => 23) (fun P => [P, P + 1]) rfl) 2).trans ((F_66.1 23 (by decide) 2).trans (hs_50.trans (hs_17.trans hP.symm)))))))).trans hP, ((F_198.1 23 (ni hprP (fun P => 23) (fun P => [P + 1]) rfl) 7).trans (hs_178.trans ((F_136.1 23 (ni hprP (fun P => 23) (fun P => [P + 1]) rfl) 7).trans ((F_118.1 23 (ni hprP (fun P => 23) (fun P => [P, P + 1]) rfl) 7).trans ((F_66.1 23 (by decide) 7).trans (hs_51.trans hs_20)))))), (((F_198.1 23 (ni hprP (fun P => 23) (fun P => [P + 1]) rfl) 8).trans (hs_179.trans ((F_136.1 23 (ni hprP (fun P => 23) (fun P => [P + 1]) rfl) 8).trans ((F_118.1 23 (ni hprP (fun P => 23) (fun P => [P, P + 1]) rfl) 8).trans ((F_66.1 23 (by decide) 8).trans (hs_52.trans (hs_21.trans htt.symm)))))))).trans htt, ((F_198.1 23 (ni hprP (fun P => 23) (fun P => [P + 1]) rfl) 9).trans (hs_180.trans ((F_136.1 23 (ni hprP (fun P => 23) (fun P => [P + 1]) rfl) 9).trans ((F_118.1 23 (ni hprP (fun P => 23) (fun P => [P, P + 1]) rfl) 9).trans ((F_66.1 23 (by decide) 9).trans (hs_53.trans hs_22)))))), ((F_198.1 26 (ni hprP (fun P => 26) (fun P => [P + 1]) rfl) 6).trans (hs_181.trans ((F_136.1 26 (ni hprP (fun P => 26) (fun P => [P + 1]) rfl) 6).trans ((F_118.1 26 (ni hprP (fun P => 26) (fun P => [P, P + 1]) rfl) 6).trans (hs_72.trans (hs_54.trans hs_24)))))), ((F_198.1 P (ni hprP (fun P => P) (fun P => [P + 1]) rfl) 7).trans (hs_182.trans ((F_136.1 P (ni hprP (fun P => P) (fun P => [P + 1]) rfl) 7).trans (hs_123.trans ((F_66.1 P (ni hprP (fun P => P) (fun P => [26]) rfl) 7).trans (hs_55.trans hs_25))))))⟩

set_option maxHeartbeats 4000000 in
set_option maxRecDepth 100000 in
theorem c_X7_whileTrue (ω : Om) (l : Launch) (μ : M3) (F : Nat) (Lo : Nat) (kf : Int) (P : Int) (tt : Int) (hI : IC μ) (hP : P = μ.1 23 2) (htt : tt = μ.1 23 8) (hF : 200 ≤ F) (hLo : 6000 ≤ Lo) (hK : ∀ (μ : M3) (P : Int) (tt : Int) (hI : IC μ) (hP : P = μ.1 23 2) (htt : tt = μ.1 23 8) (hTK : TK μ) (hB : 2 * μ.1 P 1 ≤ 5 * μ.1 26 10 + 103 + 80 * μ.1 26 11) (hKc : μ.1 (P + 2) 3 ≤ μ.1 P 1) (ht3 : 0 ≤ tt ∧ tt ≤ 3) (hdp : 0 ≤ μ.1 23 9 ∧ μ.1 23 9 ≤ 8) (hfu : 0 ≤ (kf - 1) ∧ 9 ≤ μ.1 23 9 + (kf - 1)) (hs1 : ∀ _ : Unit, μ.1 26 11 = 0 → HC μ P tt 0), CtV ω l yX7_block cX7_block 2 (F + 0) (Lo + 0) [.ref (oP ω 23)] μ (fun (μ' : M3) => (Fr [2, 3, 4, 23, 24, 25, 26, P, P + 1, P + 2, (P + 2) + 1, (P + 2) + 2, (P + 2) + 3] μ μ') ∧ (IC μ') ∧ (TK μ') ∧ (μ.1 26 11 ≤ μ'.1 26 11) ∧ (μ.1 26 10 ≤ μ'.1 26 10) ∧ (μ.1 P 1 ≤ μ'.1 P 1 ∧ 2 * μ'.1 P 1 ≤ 2 * μ.1 P 1 + 5 * (μ'.1 26 10 - μ.1 26 10) + (- 10 + 15 * μ'.1 26 11 - 5 * μ.1 26 11)) ∧ (μ'.1 (P + 2) 3 - μ.1 (P + 2) 3 ≤ μ'.1 P 1 - μ.1 P 1 ∧ μ.1 (P + 2) 3 ≤ μ'.1 (P + 2) 3) ∧ (μ'.1 26 11 = 0 → EX μ μ' P tt 0 (2 * (7 - μ.1 23 9))) ∧ (μ.1 23 9 ≤ 7 + 100 * μ'.1 26 11) ∧ (μ'.1 23 2 = μ.1 23 2) ∧ (μ'.1 23 7 = μ.1 23 7) ∧ (μ'.1 23 8 = μ.1 23 8) ∧ (μ'.1 23 9 = μ.1 23 9) ∧ (μ'.1 26 6 = μ.1 26 6) ∧ (μ'.1 P 7 = μ.1 P 7))) (hTK : TK μ) (hB : 2 * μ.1 P 1 ≤ 5 * μ.1 26 10 + 95 + 80 * μ.1 26 11) (hKc : μ.1 (P + 2) 3 ≤ μ.1 P 1) (ht3 : 0 ≤ tt ∧ tt ≤ 3) (hdp : 0 ≤ μ.1 23 9 ∧ μ.1 23 9 ≤ 8) (hs0 : μ.1 26 11 = 0) (hfu : 10 ≤ μ.1 23 9 + kf) (hst : ∀ _ : Unit, STP μ P tt) : CtV ω l yX7_whileTrue cX7_whileTrue 3 (F + 1) (Lo + 21) [.ref (oP ω 23)] μ (fun (μ' : M3) => (Fr [2, 3, 4, 23, 24, 25, 26, P, P + 1, P + 2, (P + 2) + 1, (P + 2) + 2, (P + 2) + 3] μ μ') ∧ (IC μ') ∧ (TK μ') ∧ (μ.1 26 11 ≤ μ'.1 26 11) ∧ (μ.1 26 10 ≤ μ'.1 26 10) ∧ (μ.1 P 1 ≤ μ'.1 P 1 ∧ 2 * μ'.1 P 1 ≤ 2 * μ.1 P 1 + 5 * (μ'.1 26 10 - μ.1 26 10) + (- 16 + 22 * μ'.1 26 11)) ∧ (μ'.1 (P + 2) 3 - μ.1 (P + 2) 3 ≤ μ'.1 P 1 - μ.1 P 1 ∧ μ.1 (P + 2) 3 ≤ μ'.1 (P + 2) 3) ∧ (μ'.1 26 11 = 0 → ES μ μ' P tt (2 * (7 - μ.1 23 9))) ∧ (μ'.1 23 2 = μ.1 23 2) ∧ (μ'.1 23 7 = μ.1 23 7) ∧ (μ'.1 23 8 = μ.1 23 8) ∧ (μ'.1 23 9 = μ.1 23 9) ∧ (μ'.1 26 6 = μ.1 26 6) ∧ (μ'.1 P 7 = μ.1 P 7)) := by
  refine CtV.go (by decide) (Nat.le_of_ble_eq_true rfl) (fun ρ p e s m below meth c R ls G hR hret hlk hl => ?_)
  have hx := G.1.1
  have hb := G.1.2.1
  have hl : lv_has ls 3 [(0, .ref (oP ω 23))] := hl
  generalize s.drawn = d0 at G ⊢
  have hTKb := hTK.b
  have hprP : isPr P := by have h9 := G.sr0.2.2.2.2.2; rw [← hP] at h9; exact h9
  have hprP_d : 13 ≤ P ∧ P ≤ 101 := by rcases hprP with h9 | h9 | h9 | h9 | h9 <;> omega
  have hk_1 := hI.pr (p := P) hprP
  unfold pk at hk_1
  have hc_2 : 16 ≤ μ.2.1 (P + 1) ∧ μ.2.1 (P + 1) ≤ 73024 := hI.rm.1 _ hprP.cap
  have hX0_ : ∀ _ : Unit, μ.1 26 11 = 0 → q0 μ P μ := fun _ _ => ⟨EXT.rf, rfl⟩
  have hXH_ : ∀ _ : Unit, μ.1 26 11 = 0 → HC μ P tt (if tt = 0 then 2 else 1) := fun _ _ => HC.of (hst ())
  refine lv_aload_n hx hb dX7_whileTrue_0 rfl (lv_at hl 0 rfl) ?_
  have e_3 : μ.1 23 2 = P := hP.symm
  refine xc_iV G (b := 23) (rest := []) (As := []) (c_X7_here ω l μ P hI (by omega)) (wm 4 31 rfl rfl) (wm 4 33 rfl rfl) (wm 0 31 rfl rfl) rfl rfl (by decide) rfl (wm 1 12 rfl rfl) (wm 4 34 rfl rfl) (by decide) hR ⟨nfB hF (by decide), nlB hLo (by decide)⟩ (n := 0) rfl rfl (Nat.le_of_ble_eq_true rfl) hl.1 dX7_whileTrue_1 (fun r_5 μ4 ρ d0 H locs hr_r_5 hp G => ?_)
  have hr_r_5 : -2147483648 ≤ r_5 ∧ r_5 ≤ 2147483647 := hr_r_5
  obtain ⟨hsm_6, hp_7⟩ := hp
  have hsm_6 := Eq.symm hsm_6
  subst hsm_6
  refine lv_iconst (v := iv 1) hx hb dX7_whileTrue_4 rfl ?_
  refine xb_isub hx hb dX7_whileTrue_5 ?_
  refine lv_istore_n (lv' := [(1, .int (iv (r_5 - 1))), (0, .ref (oP ω 23))]) hx hb dX7_whileTrue_6 rfl hl (by decide) rfl (fun ls hl => ?_)
  refine lv_aload_n hx hb dX7_whileTrue_7 rfl (lv_at hl 1 rfl) ?_
  have e_8 : μ.1 23 2 = P := hP.symm
  have e_9 : μ.1 23 8 = tt := htt.symm
  have hn_10 : -1 ≤ μ.1 26 10 ∧ μ.1 26 10 ≤ 3000 := hI.nm.2.2.2.2.2.2.2.2.2.2.2.2
  have hk_11 := hI.row (r := P + 2) (hprP.row)
  unfold rk at hk_11
  refine xc_iV G (b := 23) (rest := []) (As := []) (c_X7_question ω l μ P tt hI (by omega) (by omega) hTK (by omega) (by omega) (by omega) (by omega) (by omega)) (wm 4 124 rfl rfl) (wm 4 126 rfl rfl) (wm 0 46 rfl rfl) rfl rfl (by decide) rfl (wm 1 12 rfl rfl) (wm 4 127 rfl rfl) (by decide) hR ⟨nfB hF (by decide), nlB hLo (by decide)⟩ (n := 0) rfl rfl (Nat.le_of_ble_eq_true rfl) hl.1 dX7_whileTrue_8 (fun r_13 μ12 ρ d0 H locs hr_r_13 hp G => ?_)
  have hr_r_13 : -2147483648 ≤ r_13 ∧ r_13 ≤ 2147483647 := hr_r_13
  obtain ⟨F_14, hI_15, hp_16, hp_17, hp_18, hp_19, hp_20, hp_21, hs_22, hs_23, hs_24, hs_25, hs_26, hs_27, hs_28, hs_29, hs_30⟩ := hp
  have hn_31 : -1 ≤ μ12.1 26 10 ∧ μ12.1 26 10 ≤ 3000 := hI_15.nm.2.2.2.2.2.2.2.2.2.2.2.2
  have hk_32 := hI_15.pr (p := P) hprP
  unfold pk at hk_32
  have hc_33 : 16 ≤ μ12.2.1 (P + 1) ∧ μ12.2.1 (P + 1) ≤ 73024 := hI_15.rm.1 _ hprP.cap
  have hk_34 := hI_15.row (r := P + 2) (hprP.row)
  unfold rk at hk_34
  have htb_35 := hp_16.b
  replace hp_21 := fun _ : Unit => hp_21
  have hXR_36 : ∀ _ : Unit, μ12.1 26 11 = 0 → (Th (q0 μ P) (qQ P tt r_13)) μ12 := fun _ h0 => ⟨_, (hX0_ ()) (by have h9 : μ.1 26 11 = μ.1 26 11 := rfl; have h8 : μ12.1 26 11 = μ12.1 26 11 := rfl; omega), ((hp_21 ()) h0)⟩
  have hXH_37 : ∀ _ : Unit, μ12.1 26 11 = 0 → HC μ12 P tt 0 := fun _ h0 => QU.h ((hXH_ ()) (by have h9 : μ.1 26 11 = μ.1 26 11 := rfl; have h8 : μ12.1 26 11 = μ12.1 26 11 := rfl; omega)) ((hp_21 ()) h0)
  have hXw_38 : ∀ _ : Unit, μ12.1 26 11 = 0 → Wp μ12 P r_13 20 := fun _ h0 => QU.w ((hp_21 ()) h0)
  refine lv_istore_n (lv' := [(2, .int (iv r_13)), (1, .int (iv (r_5 - 1))), (0, .ref (oP ω 23))]) hx hb dX7_whileTrue_11 rfl hl (by decide) rfl (fun ls hl => ?_)
  refine lv_aload_n hx hb dX7_whileTrue_12 rfl (lv_at hl 2 rfl) ?_
  have e_39 : μ12.1 23 2 = P := (hs_22.trans hP.symm)
  have e_40 : μ12.1 23 8 = tt := (hs_26.trans htt.symm)
  have e_41 : μ12.1 23 9 = μ.1 23 9 := hs_27
  have e_42 : μ12.1 23 9 = μ.1 23 9 := hs_27
  have e_43 : μ12.1 23 9 = μ.1 23 9 := hs_27
  have e_44 : μ12.1 23 9 = μ.1 23 9 := hs_27
  refine xc_vV G (b := 23) (rest := []) (As := []) (((fun (_ : Om) (_ : Launch) => hK)) ω l μ12 P tt hI_15 (by omega) (by omega) hp_16 (by omega) (by omega) (by omega) (by omega) (by omega) (fun _ => (hXH_37 ()))) (wm 3 218 rfl rfl) (wm 3 220 rfl rfl) (wm 0 19 rfl rfl) rfl rfl (by decide) rfl (wm 1 12 rfl rfl) (wm 3 221 rfl rfl) (by decide) hR ⟨sfr (F := F) (a := 0) (by decide), slo (L := Lo) (m := 2) (a := 0) (by decide)⟩ (n := 0) rfl rfl (Nat.le_of_ble_eq_true rfl) hl.1 dX7_whileTrue_13 (fun μ45 ρ d0 H locs hp G => ?_)
  obtain ⟨F_46, hI_47, hp_48, hp_49, hp_50, hp_51, hp_52, hp_53, hp_54, hs_55, hs_56, hs_57, hs_58, hs_59, hs_60⟩ := hp
  have hn_61 : -1 ≤ μ45.1 26 10 ∧ μ45.1 26 10 ≤ 3000 := hI_47.nm.2.2.2.2.2.2.2.2.2.2.2.2
  have hk_62 := hI_47.pr (p := P) hprP
  unfold pk at hk_62
  have hc_63 : 16 ≤ μ45.2.1 (P + 1) ∧ μ45.2.1 (P + 1) ≤ 73024 := hI_47.rm.1 _ hprP.cap
  have hk_64 := hI_47.row (r := P + 2) (hprP.row)
  unfold rk at hk_64
  have htb_65 := hp_48.b
  replace hp_53 := fun _ : Unit => hp_53
  have hXR_66 : ∀ _ : Unit, μ45.1 26 11 = 0 → (Th (Th (q0 μ P) (qQ P tt r_13)) (qE P tt 0 (2 * (7 - μ.1 23 9)))) μ45 := fun _ h0 => ⟨_, (hXR_36 ()) (by have h9 : μ12.1 26 11 = μ12.1 26 11 := rfl; have h8 : μ45.1 26 11 = μ45.1 26 11 := rfl; omega), (((hp_53 ()) h0).mn (by have h9 : μ12.1 23 9 = μ.1 23 9 := hs_27; omega))⟩
  have hXH_67 : ∀ _ : Unit, μ45.1 26 11 = 0 → HC μ45 P tt 0 := fun _ h0 => HC.ex ((hXH_37 ()) (by have h9 : μ12.1 26 11 = μ12.1 26 11 := rfl; have h8 : μ45.1 26 11 = μ45.1 26 11 := rfl; omega)) ((hp_53 ()) h0)
  have hXw_68 : ∀ _ : Unit, μ45.1 26 11 = 0 → Wp μ45 P r_13 20 := fun _ h0 => ((hXw_38 ()) (by have h9 : μ12.1 26 11 = μ12.1 26 11 := rfl; have h8 : μ45.1 26 11 = μ45.1 26 11 := rfl; omega)).ext ((hp_53 ()) h0).1
  refine lv_aload_n hx hb dX7_whileTrue_16 rfl (lv_at hl 2 rfl) ?_
  refine lv_bipush (v := iv 19) hx hb dX7_whileTrue_17 rfl ?_
  refine lv_iload_n hx hb dX7_whileTrue_19 rfl (lv_at hl 1 rfl) ?_
  refine lv_iconst (v := iv 0) hx hb dX7_whileTrue_20 rfl ?_
  have e_69 : μ45.1 23 2 = P := (hs_55.trans (hs_22.trans hP.symm))
  refine xc_iV G (b := 23) (rest := []) (As := [.int (iv 19), .int (iv (r_5 - 1)), .int (iv 0)]) (c_X7_add ω l μ45 19 (r_5 - 1) 0 P (by unfold ir; omega) (by unfold ir; omega) (by unfold ir; omega) hI_47 (by omega) (by omega)) (wm 3 226 rfl rfl) (wm 3 228 rfl rfl) (wm 0 21 rfl rfl) rfl rfl (by decide) rfl (wm 1 12 rfl rfl) (wm 3 229 rfl rfl) (by decide) hR ⟨nfB hF (by decide), nlB hLo (by decide)⟩ (n := 3) rfl rfl (Nat.le_of_ble_eq_true rfl) hl.1 dX7_whileTrue_21 (fun r_71 μ70 ρ d0 H locs hr_r_71 hp G => ?_)
  have hr_r_71 : -2147483648 ≤ r_71 ∧ r_71 ≤ 2147483647 := hr_r_71
  obtain ⟨F_72, hI_73, hp_74, hp_75, hs_76, hs_77⟩ := hp
  have hXR_78 : ∀ _ : Unit, μ70.1 26 11 = 0 → (Th (Th (Th (q0 μ P) (qQ P tt r_13)) (qE P tt 0 (2 * (7 - μ.1 23 9)))) (qA P 19 (r_5 - 1) 0 r_71)) μ70 := fun _ h0 => ⟨_, (hXR_66 ()) (by have h9 : μ45.1 26 11 = μ45.1 26 11 := rfl; have h8 : μ70.1 26 11 = μ45.1 26 11 := (F_72.1 26 (ni hprP (fun P => 26) (fun P => [P, P + 1]) rfl) 11); omega), hp_75, hp_74⟩
  have hXH_79 : ∀ _ : Unit, μ70.1 26 11 = 0 → HC μ70 P tt 0 := fun _ h0 => (((hXH_67 ()) (by have h9 : μ45.1 26 11 = μ45.1 26 11 := rfl; have h8 : μ70.1 26 11 = μ45.1 26 11 := (F_72.1 26 (ni hprP (fun P => 26) (fun P => [P, P + 1]) rfl) 11); omega)).ad hp_75 (Or.inl rfl)).c rfl
  have hXw_80 : ∀ _ : Unit, μ70.1 26 11 = 0 → Wp μ70 P r_13 20 := fun _ h0 => ((hXw_68 ()) (by have h9 : μ45.1 26 11 = μ45.1 26 11 := rfl; have h8 : μ70.1 26 11 = μ45.1 26 11 := (F_72.1 26 (ni hprP (fun P => 26) (fun P => [P, P + 1]) rfl) 11); omega)).ext hp_75.1
  have hXw_81 : ∀ _ : Unit, μ70.1 26 11 = 0 → Wp μ70 P r_71 19 := fun _ h0 => Wp.of hp_75 ((hXH_67 ()) (by have h9 : μ45.1 26 11 = μ45.1 26 11 := rfl; have h8 : μ70.1 26 11 = μ45.1 26 11 := (F_72.1 26 (ni hprP (fun P => 26) (fun P => [P, P + 1]) rfl) 11); omega)).1 hp_74
  refine lv_pop hx hb dX7_whileTrue_24 rfl ?_
  refine lv_aload_n hx hb dX7_whileTrue_25 rfl (lv_at hl 2 rfl) ?_
  refine xa_getr G fd_X7 (a := 23) (x := P) 2 rfl (by decide) rfl (wm 2 19 rfl rfl) ⟨rfl, rfl, rfl⟩ dX7_whileTrue_26 rfl ((F_72.1 23 (ni hprP (fun P => 23) (fun P => [P, P + 1]) rfl) 2).trans (hs_55.trans (hs_22.trans hP.symm))) (by omega) (hprP.hq ω ρ) ?_
  refine lv_iload_n hx hb dX7_whileTrue_29 rfl (lv_at hl 0 rfl) ?_
  refine lv_aload_n hx hb dX7_whileTrue_30 rfl (lv_at hl 2 rfl) ?_
  have e_82 : μ70.1 23 2 = P := ((F_72.1 23 (ni hprP (fun P => 23) (fun P => [P, P + 1]) rfl) 2).trans (hs_55.trans (hs_22.trans hP.symm)))
  have e_83 : μ70.1 P 1 = μ45.1 P 1 + 1 := hs_76
  refine xc_iV G (b := 23) (rest := [.int (iv r_13), .ref (oP ω P)]) (As := []) (c_X7_here ω l μ70 P hI_73 (by omega)) (wm 4 31 rfl rfl) (wm 4 33 rfl rfl) (wm 0 31 rfl rfl) rfl rfl (by decide) rfl (wm 1 12 rfl rfl) (wm 4 34 rfl rfl) (by decide) hR ⟨nfB hF (by decide), nlB hLo (by decide)⟩ (n := 0) rfl rfl (Nat.le_of_ble_eq_true rfl) hl.1 dX7_whileTrue_31 (fun r_85 μ84 ρ d0 H locs hr_r_85 hp G => ?_)
  have hr_r_85 : -2147483648 ≤ r_85 ∧ r_85 ≤ 2147483647 := hr_r_85
  obtain ⟨hsm_86, hp_87⟩ := hp
  have hsm_86 := Eq.symm hsm_86
  subst hsm_86
  have e_88 : μ70.1 P 1 = μ45.1 P 1 + 1 := hs_76
  refine xc_vV G (b := P) (rest := []) (As := [.int (iv r_13), .int (iv r_85)]) (c_X8_setFirst ω l μ70 P r_13 r_85 (μ45.1 P 1 + 1) hprP (by unfold ir; omega) (by unfold ir; omega) hI_73 (by omega)) (wm 4 51 rfl rfl) (wm 4 52 rfl rfl) (wm 4 53 rfl rfl) hprP.ly rfl (by decide) (hprP.hq ω ρ) (wm 1 9 rfl rfl) (wm 4 54 rfl rfl) (by decide) hR ⟨nfB hF (by decide), nlB hLo (by decide)⟩ (n := 2) rfl rfl (Nat.le_of_ble_eq_true rfl) hl.1 dX7_whileTrue_34 (fun μ89 ρ d0 H locs hp G => ?_)
  obtain ⟨F_90, hI_91, hp_92, hp_93, ha_94⟩ := hp
  have hm_95 : ∀ _ : Unit, μ89.1 26 11 = 0 → MF μ70 μ89 P r_13 r_85 := by
    intro _ h0
    have hw_ := ((hXw_80 ()) (by have h9 : μ70.1 26 11 = μ45.1 26 11 := (F_72.1 26 (ni hprP (fun P => 26) (fun P => [P, P + 1]) rfl) 11); have h8 : μ89.1 26 11 = μ45.1 26 11 := ((F_90.1 26 (ni hprP (fun P => 26) (fun P => [P + 1]) rfl) 11).trans (F_72.1 26 (ni hprP (fun P => 26) (fun P => [P, P + 1]) rfl) 11)); omega)).1
    have h8 : μ70.1 P 1 = μ45.1 P 1 + 1 := hs_76
    have h9 : μ89.1 P 1 = μ45.1 P 1 + 1 := ((F_90.1 P (ni hprP (fun P => P) (fun P => [P + 1]) rfl) 1).trans hs_76)
    rcases hp_93 with ⟨q1, q2, q3⟩ | ⟨q1, q2⟩
    · exact MF.of (μ := μ70) (ν := μ89) (P := P) (by rw [h9, h8]) hw_ q3 ha_94
    · exfalso; exact q1 (by rw [← h8]; exact hw_)
  have hXR_96 : ∀ _ : Unit, μ89.1 26 11 = 0 → (Th (Th (Th (Th (q0 μ P) (qQ P tt r_13)) (qE P tt 0 (2 * (7 - μ.1 23 9)))) (qA P 19 (r_5 - 1) 0 r_71)) (qF P r_13 r_85)) μ89 := fun _ h0 => ⟨_, (hXR_78 ()) (by have h9 : μ70.1 26 11 = μ45.1 26 11 := (F_72.1 26 (ni hprP (fun P => 26) (fun P => [P, P + 1]) rfl) 11); have h8 : μ89.1 26 11 = μ45.1 26 11 := ((F_90.1 26 (ni hprP (fun P => 26) (fun P => [P + 1]) rfl) 11).trans (F_72.1 26 (ni hprP (fun P => 26) (fun P => [P, P + 1]) rfl) 11)); omega), (hm_95 ()) h0, by omega⟩
  have hXH_97 : ∀ _ : Unit, μ89.1 26 11 = 0 → HC μ89 P tt 0 := fun _ h0 => ((hXH_79 ()) (by have h9 : μ70.1 26 11 = μ45.1 26 11 := (F_72.1 26 (ni hprP (fun P => 26) (fun P => [P, P + 1]) rfl) 11); have h8 : μ89.1 26 11 = μ45.1 26 11 := ((F_90.1 26 (ni hprP (fun P => 26) (fun P => [P + 1]) rfl) 11).trans (F_72.1 26 (ni hprP (fun P => 26) (fun P => [P, P + 1]) rfl) 11)); omega)).mf ((hm_95 ()) h0) ((hXw_80 ()) (by have h9 : μ70.1 26 11 = μ45.1 26 11 := (F_72.1 26 (ni hprP (fun P => 26) (fun P => [P, P + 1]) rfl) 11); have h8 : μ89.1 26 11 = μ45.1 26 11 := ((F_90.1 26 (ni hprP (fun P => 26) (fun P => [P + 1]) rfl) 11).trans (F_72.1 26 (ni hprP (fun P => 26) (fun P => [P, P + 1]) rfl) 11)); omega)) (by decide)
  have hXw_98 : ∀ _ : Unit, μ89.1 26 11 = 0 → Wp μ89 P r_13 20 := fun _ h0 => ((hXw_80 ()) (by have h9 : μ70.1 26 11 = μ45.1 26 11 := (F_72.1 26 (ni hprP (fun P => 26) (fun P => [P, P + 1]) rfl) 11); have h8 : μ89.1 26 11 = μ45.1 26 11 := ((F_90.1 26 (ni hprP (fun P => 26) (fun P => [P + 1]) rfl) 11).trans (F_72.1 26 (ni hprP (fun P => 26) (fun P => [P, P + 1]) rfl) 11)); omega)).mf ((hm_95 ()) h0)
  have hXw_99 : ∀ _ : Unit, μ89.1 26 11 = 0 → Wp μ89 P r_71 19 := fun _ h0 => ((hXw_81 ()) (by have h9 : μ70.1 26 11 = μ45.1 26 11 := (F_72.1 26 (ni hprP (fun P => 26) (fun P => [P, P + 1]) rfl) 11); have h8 : μ89.1 26 11 = μ45.1 26 11 := ((F_90.1 26 (ni hprP (fun P => 26) (fun P => [P + 1]) rfl) 11).trans (F_72.1 26 (ni hprP (fun P => 26) (fun P => [P, P + 1]) rfl) 11)); omega)).mf ((hm_95 ()) h0)
  clear hk_1 hc_2 hk_11 hk_32 hc_33 hk_34 hk_62 hc_63 hk_64
  have e_100 : μ89.1 26 11 = μ45.1 26 11 := ((F_90.1 26 (ni hprP (fun P => 26) (fun P => [P + 1]) rfl) 11).trans (F_72.1 26 (ni hprP (fun P => 26) (fun P => [P, P + 1]) rfl) 11))
  have htk_101 : TK μ89 := hp_48.fr (K := [P + 1, P]) (Fr.tr (Fr.tr Fr.rf F_72 (si hprP (fun P => [P, P + 1]) (fun P => [P + 1, P]) rfl)) F_90 (si hprP (fun P => [P + 1]) (fun P => [P + 1, P]) rfl)) (ni hprP (fun P => 26) (fun P => [P + 1, P]) rfl) (ni hprP (fun P => 28) (fun P => [P + 1, P]) rfl) (ni hprP (fun P => 29) (fun P => [P + 1, P]) rfl)
  have e_102 : μ89.1 26 11 = μ45.1 26 11 := ((F_90.1 26 (ni hprP (fun P => 26) (fun P => [P + 1]) rfl) 11).trans (F_72.1 26 (ni hprP (fun P => 26) (fun P => [P, P + 1]) rfl) 11))
  have e_103 : μ89.1 26 10 = μ45.1 26 10 := ((F_90.1 26 (ni hprP (fun P => 26) (fun P => [P + 1]) rfl) 10).trans (F_72.1 26 (ni hprP (fun P => 26) (fun P => [P, P + 1]) rfl) 10))
  have e_104 : μ89.1 P 1 = μ45.1 P 1 + 1 := ((F_90.1 P (ni hprP (fun P => P) (fun P => [P + 1]) rfl) 1).trans hs_76)
  have e_105 : μ89.1 P 1 = μ45.1 P 1 + 1 := ((F_90.1 P (ni hprP (fun P => P) (fun P => [P + 1]) rfl) 1).trans hs_76)
  have e_106 : μ89.1 26 10 = μ45.1 26 10 := ((F_90.1 26 (ni hprP (fun P => 26) (fun P => [P + 1]) rfl) 10).trans (F_72.1 26 (ni hprP (fun P => 26) (fun P => [P, P + 1]) rfl) 10))
  have e_107 : μ89.1 26 11 = μ45.1 26 11 := ((F_90.1 26 (ni hprP (fun P => 26) (fun P => [P + 1]) rfl) 11).trans (F_72.1 26 (ni hprP (fun P => 26) (fun P => [P, P + 1]) rfl) 11))
  have e_108 : μ89.1 (P + 2) 3 = μ45.1 (P + 2) 3 := ((F_90.1 (P + 2) (ni hprP (fun P => P + 2) (fun P => [P + 1]) rfl) 3).trans (F_72.1 (P + 2) (ni hprP (fun P => P + 2) (fun P => [P, P + 1]) rfl) 3))
  have e_109 : μ89.1 P 1 = μ45.1 P 1 + 1 := ((F_90.1 P (ni hprP (fun P => P) (fun P => [P + 1]) rfl) 1).trans hs_76)
  have e_110 : μ89.1 (P + 2) 3 = μ45.1 (P + 2) 3 := ((F_90.1 (P + 2) (ni hprP (fun P => P + 2) (fun P => [P + 1]) rfl) 3).trans (F_72.1 (P + 2) (ni hprP (fun P => P + 2) (fun P => [P, P + 1]) rfl) 3))
  exact xr_v G hret hlk dX7_whileTrue_37 ⟨(Fr.tr (Fr.tr (Fr.tr (Fr.tr Fr.rf F_14 (si hprP (fun P => [2, 3, 4, 23, 24, 26, P, P + 1, P + 2, (P + 2) + 1, (P + 2) + 2, (P + 2) + 3]) (fun P => [2, 3, 4, 23, 24, 25, 26, P, P + 1, P + 2, (P + 2) + 1, (P + 2) + 2, (P + 2) + 3]) rfl)) F_46 (si hprP (fun P => [2, 3, 4, 23, 24, 25, 26, P, P + 1, P + 2, (P + 2) + 1, (P + 2) + 2, (P + 2) + 3]) (fun P => [2, 3, 4, 23, 24, 25, 26, P, P + 1, P + 2, (P + 2) + 1, (P + 2) + 2, (P + 2) + 3]) rfl)) F_72 (si hprP (fun P => [P, P + 1]) (fun P => [2, 3, 4, 23, 24, 25, 26, P, P + 1, P + 2, (P + 2) + 1, (P + 2) + 2, (P + 2) + 3]) rfl)) F_90 (si hprP (fun P => [P + 1]) (fun P => [2, 3, 4, 23, 24, 25, 26, P, P + 1, P + 2, (P + 2) + 1, (P + 2) + 2, (P + 2) + 3]) rfl)), hI_91, htk_101, (by omega), (by omega), (by omega), (by omega), (fun h0 => as_whl (hst ()) ((hXR_96 ()) h0) (by omega) (by omega)), (((F_90.1 23 (ni hprP (fun P => 23) (fun P => [P + 1]) rfl) 2).trans ((F_72.1 23 (ni hprP (fun P => 23) (fun P => [P, P + 1]) rfl) 2).trans (hs_55.trans (hs_22.trans hP.symm))))).trans hP, ((F_90.1 23 (ni hprP (fun P => 23) (fun P => [P + 1]) rfl) 7).trans ((F_72.1 23 (ni hprP (fun P => 23) (fun P => [P, P + 1]) rfl) 7).trans (hs_56.trans hs_25))), (((F_90.1 23 (ni hprP (fun P => 23) (fun P => [P + 1]) rfl) 8).trans ((F_72.1 23 (ni hprP (fun P => 23) (fun P => [P, P + 1]) rfl) 8).trans (hs_57.trans (hs_26.trans htt.symm))))).trans htt, ((F_90.1 23 (ni hprP (fun P => 23) (fun P => [P + 1]) rfl) 9).trans ((F_72.1 23 (ni hprP (fun P => 23) (fun P => [P, P + 1]) rfl) 9).trans (hs_58.trans hs_27))), ((F_90.1 26 (ni hprP (fun P => 26) (fun P => [P + 1]) rfl) 6).trans ((F_72.1 26 (ni hprP (fun P => 26) (fun P => [P, P + 1]) rfl) 6).trans (hs_59.trans hs_29))), ((F_90.1 P (ni hprP (fun P => P) (fun P => [P + 1]) rfl) 7).trans (hs_77.trans (hs_60.trans hs_30)))⟩

set_option maxHeartbeats 4000000 in
set_option maxRecDepth 100000 in
theorem c_X7_finishing (ω : Om) (l : Launch) (μ : M3) (x1 : Int) (F : Nat) (Lo : Nat) (kf : Int) (P : Int) (tt : Int) (hx1 : ir x1) (hI : IC μ) (hP : P = μ.1 23 2) (htt : tt = μ.1 23 8) (hF : 200 ≤ F) (hLo : 6000 ≤ Lo) (hK : ∀ (μ : M3) (P : Int) (tt : Int) (hI : IC μ) (hP : P = μ.1 23 2) (htt : tt = μ.1 23 8) (hTK : TK μ) (hB : 2 * μ.1 P 1 ≤ 5 * μ.1 26 10 + 103 + 80 * μ.1 26 11) (hKc : μ.1 (P + 2) 3 ≤ μ.1 P 1) (ht3 : 0 ≤ tt ∧ tt ≤ 3) (hdp : 0 ≤ μ.1 23 9 ∧ μ.1 23 9 ≤ 8) (hfu : 0 ≤ (kf - 1) ∧ 9 ≤ μ.1 23 9 + (kf - 1)) (hs1 : ∀ _ : Unit, μ.1 26 11 = 0 → HC μ P tt 0), CtV ω l yX7_block cX7_block 2 (F + 0) (Lo + 0) [.ref (oP ω 23)] μ (fun (μ' : M3) => (Fr [2, 3, 4, 23, 24, 25, 26, P, P + 1, P + 2, (P + 2) + 1, (P + 2) + 2, (P + 2) + 3] μ μ') ∧ (IC μ') ∧ (TK μ') ∧ (μ.1 26 11 ≤ μ'.1 26 11) ∧ (μ.1 26 10 ≤ μ'.1 26 10) ∧ (μ.1 P 1 ≤ μ'.1 P 1 ∧ 2 * μ'.1 P 1 ≤ 2 * μ.1 P 1 + 5 * (μ'.1 26 10 - μ.1 26 10) + (- 10 + 15 * μ'.1 26 11 - 5 * μ.1 26 11)) ∧ (μ'.1 (P + 2) 3 - μ.1 (P + 2) 3 ≤ μ'.1 P 1 - μ.1 P 1 ∧ μ.1 (P + 2) 3 ≤ μ'.1 (P + 2) 3) ∧ (μ'.1 26 11 = 0 → EX μ μ' P tt 0 (2 * (7 - μ.1 23 9))) ∧ (μ.1 23 9 ≤ 7 + 100 * μ'.1 26 11) ∧ (μ'.1 23 2 = μ.1 23 2) ∧ (μ'.1 23 7 = μ.1 23 7) ∧ (μ'.1 23 8 = μ.1 23 8) ∧ (μ'.1 23 9 = μ.1 23 9) ∧ (μ'.1 26 6 = μ.1 26 6) ∧ (μ'.1 P 7 = μ.1 P 7))) (hTK : TK μ) (hB : 2 * μ.1 P 1 ≤ 5 * μ.1 26 10 + 95 + 80 * μ.1 26 11) (hKc : μ.1 (P + 2) 3 ≤ μ.1 P 1) (ht3 : 0 ≤ tt ∧ tt ≤ 3) (hdp : 0 ≤ μ.1 23 9 ∧ μ.1 23 9 ≤ 8) (hfu : 10 ≤ μ.1 23 9 + kf) (hw1 : ∀ _ : Unit, μ.1 26 11 = 0 → Wp μ P x1 28) (hs1 : ∀ _ : Unit, μ.1 26 11 = 0 → HC μ P tt 0) : CtV ω l yX7_finishing cX7_finishing 2 (F + 1) (Lo + 21) [.ref (oP ω 23), .int (iv x1)] μ (fun (μ' : M3) => (Fr [2, 3, 4, 23, 24, 25, 26, P, P + 1, P + 2, (P + 2) + 1, (P + 2) + 2, (P + 2) + 3] μ μ') ∧ (IC μ') ∧ (TK μ') ∧ (μ.1 26 11 ≤ μ'.1 26 11) ∧ (μ.1 26 10 ≤ μ'.1 26 10) ∧ (μ.1 P 1 ≤ μ'.1 P 1 ∧ 2 * μ'.1 P 1 ≤ 2 * μ.1 P 1 + 5 * (μ'.1 26 10 - μ.1 26 10) + (- 6 + 15 * μ'.1 26 11 - 5 * μ.1 26 11)) ∧ (μ'.1 (P + 2) 3 - μ.1 (P + 2) 3 ≤ μ'.1 P 1 - μ.1 P 1 ∧ μ.1 (P + 2) 3 ≤ μ'.1 (P + 2) 3) ∧ (μ'.1 26 11 = 0 → FI μ μ' P tt x1 (2 * (7 - μ.1 23 9))) ∧ (μ'.1 23 2 = μ.1 23 2) ∧ (μ'.1 23 7 = μ.1 23 7) ∧ (μ'.1 23 8 = μ.1 23 8) ∧ (μ'.1 23 9 = μ.1 23 9) ∧ (μ'.1 26 6 = μ.1 26 6) ∧ (μ'.1 P 7 = μ.1 P 7)) := by
  refine CtV.go (by decide) (Nat.le_of_ble_eq_true rfl) (fun ρ p e s m below meth c R ls G hR hret hlk hl => ?_)
  have hx := G.1.1
  have hb := G.1.2.1
  have hl : lv_has ls 2 [(0, .ref (oP ω 23)), (1, .int (iv x1))] := hl
  generalize s.drawn = d0 at G ⊢
  have hr_x1 : -2147483648 ≤ x1 ∧ x1 ≤ 2147483647 := hx1
  have hTKb := hTK.b
  have hprP : isPr P := by have h9 := G.sr0.2.2.2.2.2; rw [← hP] at h9; exact h9
  have hprP_d : 13 ≤ P ∧ P ≤ 101 := by rcases hprP with h9 | h9 | h9 | h9 | h9 <;> omega
  have hk_1 := hI.pr (p := P) hprP
  unfold pk at hk_1
  have hc_2 : 16 ≤ μ.2.1 (P + 1) ∧ μ.2.1 (P + 1) ≤ 73024 := hI.rm.1 _ hprP.cap
  have hX0_ : ∀ _ : Unit, μ.1 26 11 = 0 → q0 μ P μ := fun _ _ => ⟨EXT.rf, rfl⟩
  have hXH_ : ∀ _ : Unit, μ.1 26 11 = 0 → HC μ P tt 0 := hs1
  have hXw_ : ∀ _ : Unit, μ.1 26 11 = 0 → Wp μ P x1 28 := hw1
  refine lv_aload_n hx hb dX7_finishing_0 rfl (lv_at hl 0 rfl) ?_
  refine lv_bipush (v := iv 31) hx hb dX7_finishing_1 rfl ?_
  refine lv_aload_n hx hb dX7_finishing_3 rfl (lv_at hl 0 rfl) ?_
  have e_3 : μ.1 23 2 = P := hP.symm
  refine xc_iV G (b := 23) (rest := [.int (iv 31), .ref (oP ω 23)]) (As := []) (c_X7_here ω l μ P hI (by omega)) (wm 4 31 rfl rfl) (wm 4 33 rfl rfl) (wm 0 31 rfl rfl) rfl rfl (by decide) rfl (wm 1 12 rfl rfl) (wm 4 34 rfl rfl) (by decide) hR ⟨nfB hF (by decide), nlB hLo (by decide)⟩ (n := 0) rfl rfl (Nat.le_of_ble_eq_true rfl) hl.1 dX7_finishing_4 (fun r_5 μ4 ρ d0 H locs hr_r_5 hp G => ?_)
  have hr_r_5 : -2147483648 ≤ r_5 ∧ r_5 ≤ 2147483647 := hr_r_5
  obtain ⟨hsm_6, hp_7⟩ := hp
  have hsm_6 := Eq.symm hsm_6
  subst hsm_6
  refine lv_iconst (v := iv 1) hx hb dX7_finishing_7 rfl ?_
  refine xb_iadd hx hb dX7_finishing_8 ?_
  refine lv_iconst (v := iv 0) hx hb dX7_finishing_9 rfl ?_
  have e_8 : μ.1 23 2 = P := hP.symm
  refine xc_iV G (b := 23) (rest := []) (As := [.int (iv 31), .int (iv (r_5 + 1)), .int (iv 0)]) (c_X7_add ω l μ 31 (r_5 + 1) 0 P (by unfold ir; omega) (by unfold ir; omega) (by unfold ir; omega) hI (by omega) (by omega)) (wm 3 226 rfl rfl) (wm 3 228 rfl rfl) (wm 0 21 rfl rfl) rfl rfl (by decide) rfl (wm 1 12 rfl rfl) (wm 3 229 rfl rfl) (by decide) hR ⟨nfB hF (by decide), nlB hLo (by decide)⟩ (n := 3) rfl rfl (Nat.le_of_ble_eq_true rfl) hl.1 dX7_finishing_10 (fun r_10 μ9 ρ d0 H locs hr_r_10 hp G => ?_)
  have hr_r_10 : -2147483648 ≤ r_10 ∧ r_10 ≤ 2147483647 := hr_r_10
  obtain ⟨F_11, hI_12, hp_13, hp_14, hs_15, hs_16⟩ := hp
  have hXR_17 : ∀ _ : Unit, μ9.1 26 11 = 0 → (Th (q0 μ P) (qA P 31 (r_5 + 1) 0 r_10)) μ9 := fun _ h0 => ⟨_, (hX0_ ()) (by have h9 : μ.1 26 11 = μ.1 26 11 := rfl; have h8 : μ9.1 26 11 = μ.1 26 11 := (F_11.1 26 (ni hprP (fun P => 26) (fun P => [P, P + 1]) rfl) 11); omega), hp_14, hp_13⟩
  have hXH_18 : ∀ _ : Unit, μ9.1 26 11 = 0 → HC μ9 P tt 0 := fun _ h0 => (((hXH_ ()) (by have h9 : μ.1 26 11 = μ.1 26 11 := rfl; have h8 : μ9.1 26 11 = μ.1 26 11 := (F_11.1 26 (ni hprP (fun P => 26) (fun P => [P, P + 1]) rfl) 11); omega)).ad hp_14 (Or.inl rfl)).c rfl
  have hXw_19 : ∀ _ : Unit, μ9.1 26 11 = 0 → Wp μ9 P x1 28 := fun _ h0 => ((hXw_ ()) (by have h9 : μ.1 26 11 = μ.1 26 11 := rfl; have h8 : μ9.1 26 11 = μ.1 26 11 := (F_11.1 26 (ni hprP (fun P => 26) (fun P => [P, P + 1]) rfl) 11); omega)).ext hp_14.1
  have hXw_20 : ∀ _ : Unit, μ9.1 26 11 = 0 → Wp μ9 P r_10 31 := fun _ h0 => Wp.of hp_14 ((hXH_ ()) (by have h9 : μ.1 26 11 = μ.1 26 11 := rfl; have h8 : μ9.1 26 11 = μ.1 26 11 := (F_11.1 26 (ni hprP (fun P => 26) (fun P => [P, P + 1]) rfl) 11); omega)).1 hp_13
  refine lv_pop hx hb dX7_finishing_13 rfl ?_
  refine lv_aload_n hx hb dX7_finishing_14 rfl (lv_at hl 0 rfl) ?_
  refine xa_getr G fd_X7 (a := 23) (x := P) 2 rfl (by decide) rfl (wm 2 19 rfl rfl) ⟨rfl, rfl, rfl⟩ dX7_finishing_15 rfl ((F_11.1 23 (ni hprP (fun P => 23) (fun P => [P, P + 1]) rfl) 2).trans hP.symm) (by omega) (hprP.hq ω ρ) ?_
  refine lv_iload_n hx hb dX7_finishing_18 rfl (lv_at hl 1 rfl) ?_
  refine lv_aload_n hx hb dX7_finishing_19 rfl (lv_at hl 0 rfl) ?_
  have e_21 : μ9.1 23 2 = P := ((F_11.1 23 (ni hprP (fun P => 23) (fun P => [P, P + 1]) rfl) 2).trans hP.symm)
  have e_22 : μ9.1 P 1 = μ.1 P 1 + 1 := hs_15
  refine xc_iV G (b := 23) (rest := [.int (iv x1), .ref (oP ω P)]) (As := []) (c_X7_here ω l μ9 P hI_12 (by omega)) (wm 4 31 rfl rfl) (wm 4 33 rfl rfl) (wm 0 31 rfl rfl) rfl rfl (by decide) rfl (wm 1 12 rfl rfl) (wm 4 34 rfl rfl) (by decide) hR ⟨nfB hF (by decide), nlB hLo (by decide)⟩ (n := 0) rfl rfl (Nat.le_of_ble_eq_true rfl) hl.1 dX7_finishing_20 (fun r_24 μ23 ρ d0 H locs hr_r_24 hp G => ?_)
  have hr_r_24 : -2147483648 ≤ r_24 ∧ r_24 ≤ 2147483647 := hr_r_24
  obtain ⟨hsm_25, hp_26⟩ := hp
  have hsm_25 := Eq.symm hsm_25
  subst hsm_25
  have e_27 : μ9.1 P 1 = μ.1 P 1 + 1 := hs_15
  have e_28 : μ9.1 P 1 = μ.1 P 1 + 1 := hs_15
  have e_29 : μ9.1 P 1 = μ.1 P 1 + 1 := hs_15
  have e_30 : μ9.1 P 1 = μ.1 P 1 + 1 := hs_15
  refine xc_vV G (b := P) (rest := []) (As := [.int (iv x1), .int (iv r_24)]) (c_X8_setFirst ω l μ9 P x1 r_24 (μ.1 P 1 + 1) hprP (by unfold ir; omega) (by unfold ir; omega) hI_12 (by omega)) (wm 4 51 rfl rfl) (wm 4 52 rfl rfl) (wm 4 53 rfl rfl) hprP.ly rfl (by decide) (hprP.hq ω ρ) (wm 1 9 rfl rfl) (wm 4 54 rfl rfl) (by decide) hR ⟨nfB hF (by decide), nlB hLo (by decide)⟩ (n := 2) rfl rfl (Nat.le_of_ble_eq_true rfl) hl.1 dX7_finishing_23 (fun μ31 ρ d0 H locs hp G => ?_)
  obtain ⟨F_32, hI_33, hp_34, hp_35, ha_36⟩ := hp
  have hm_37 : ∀ _ : Unit, μ31.1 26 11 = 0 → MF μ9 μ31 P x1 r_24 := by
    intro _ h0
    have hw_ := ((hXw_19 ()) (by have h9 : μ9.1 26 11 = μ.1 26 11 := (F_11.1 26 (ni hprP (fun P => 26) (fun P => [P, P + 1]) rfl) 11); have h8 : μ31.1 26 11 = μ.1 26 11 := ((F_32.1 26 (ni hprP (fun P => 26) (fun P => [P + 1]) rfl) 11).trans (F_11.1 26 (ni hprP (fun P => 26) (fun P => [P, P + 1]) rfl) 11)); omega)).1
    have h8 : μ9.1 P 1 = μ.1 P 1 + 1 := hs_15
    have h9 : μ31.1 P 1 = μ.1 P 1 + 1 := ((F_32.1 P (ni hprP (fun P => P) (fun P => [P + 1]) rfl) 1).trans hs_15)
    rcases hp_35 with ⟨q1, q2, q3⟩ | ⟨q1, q2⟩
    · exact MF.of (μ := μ9) (ν := μ31) (P := P) (by rw [h9, h8]) hw_ q3 ha_36
    · exfalso; exact q1 (by rw [← h8]; exact hw_)
  have hXR_38 : ∀ _ : Unit, μ31.1 26 11 = 0 → (Th (Th (q0 μ P) (qA P 31 (r_5 + 1) 0 r_10)) (qF P x1 r_24)) μ31 := fun _ h0 => ⟨_, (hXR_17 ()) (by have h9 : μ9.1 26 11 = μ.1 26 11 := (F_11.1 26 (ni hprP (fun P => 26) (fun P => [P, P + 1]) rfl) 11); have h8 : μ31.1 26 11 = μ.1 26 11 := ((F_32.1 26 (ni hprP (fun P => 26) (fun P => [P + 1]) rfl) 11).trans (F_11.1 26 (ni hprP (fun P => 26) (fun P => [P, P + 1]) rfl) 11)); omega), (hm_37 ()) h0, by omega⟩
  have hXH_39 : ∀ _ : Unit, μ31.1 26 11 = 0 → HC μ31 P tt 0 := fun _ h0 => ((hXH_18 ()) (by have h9 : μ9.1 26 11 = μ.1 26 11 := (F_11.1 26 (ni hprP (fun P => 26) (fun P => [P, P + 1]) rfl) 11); have h8 : μ31.1 26 11 = μ.1 26 11 := ((F_32.1 26 (ni hprP (fun P => 26) (fun P => [P + 1]) rfl) 11).trans (F_11.1 26 (ni hprP (fun P => 26) (fun P => [P, P + 1]) rfl) 11)); omega)).mf ((hm_37 ()) h0) ((hXw_19 ()) (by have h9 : μ9.1 26 11 = μ.1 26 11 := (F_11.1 26 (ni hprP (fun P => 26) (fun P => [P, P + 1]) rfl) 11); have h8 : μ31.1 26 11 = μ.1 26 11 := ((F_32.1 26 (ni hprP (fun P => 26) (fun P => [P + 1]) rfl) 11).trans (F_11.1 26 (ni hprP (fun P => 26) (fun P => [P, P + 1]) rfl) 11)); omega)) (by decide)
  have hXw_40 : ∀ _ : Unit, μ31.1 26 11 = 0 → Wp μ31 P x1 28 := fun _ h0 => ((hXw_19 ()) (by have h9 : μ9.1 26 11 = μ.1 26 11 := (F_11.1 26 (ni hprP (fun P => 26) (fun P => [P, P + 1]) rfl) 11); have h8 : μ31.1 26 11 = μ.1 26 11 := ((F_32.1 26 (ni hprP (fun P => 26) (fun P => [P + 1]) rfl) 11).trans (F_11.1 26 (ni hprP (fun P => 26) (fun P => [P, P + 1]) rfl) 11)); omega)).mf ((hm_37 ()) h0)
  have hXw_41 : ∀ _ : Unit, μ31.1 26 11 = 0 → Wp μ31 P r_10 31 := fun _ h0 => ((hXw_20 ()) (by have h9 : μ9.1 26 11 = μ.1 26 11 := (F_11.1 26 (ni hprP (fun P => 26) (fun P => [P, P + 1]) rfl) 11); have h8 : μ31.1 26 11 = μ.1 26 11 := ((F_32.1 26 (ni hprP (fun P => 26) (fun P => [P + 1]) rfl) 11).trans (F_11.1 26 (ni hprP (fun P => 26) (fun P => [P, P + 1]) rfl) 11)); omega)).mf ((hm_37 ()) h0)
  refine lv_aload_n hx hb dX7_finishing_26 rfl (lv_at hl 0 rfl) ?_
  refine xa_getr G fd_X7 (a := 23) (x := P) 2 rfl (by decide) rfl (wm 2 19 rfl rfl) ⟨rfl, rfl, rfl⟩ dX7_finishing_27 rfl ((F_32.1 23 (ni hprP (fun P => 23) (fun P => [P + 1]) rfl) 2).trans ((F_11.1 23 (ni hprP (fun P => 23) (fun P => [P, P + 1]) rfl) 2).trans hP.symm)) (by omega) (hprP.hq ω ρ) ?_
  refine lv_iload_n hx hb dX7_finishing_30 rfl (lv_at hl 1 rfl) ?_
  refine lv_iconst (v := iv 4) hx hb dX7_finishing_31 rfl ?_
  refine lv_iconst (v := iv 0) hx hb dX7_finishing_32 rfl ?_
  refine xc_iS G (rest := [.int (iv x1), .ref (oP ω P)]) (As := [.int (iv 4), .int (iv 0)]) (c_X3_detail ω l μ31 4 0 (by unfold ir; omega) (by unfold ir; omega) (by omega)) (wm 4 156 rfl rfl) (wm 4 157 rfl rfl) (wm 1 17 rfl rfl) (wm 4 158 rfl rfl) (by decide) hR ⟨nfB hF (by decide), nlB hLo (by decide)⟩ (n := 2) rfl rfl (Nat.le_of_ble_eq_true rfl) hl.1 dX7_finishing_33 (fun r_43 μ42 ρ d0 H locs hr_r_43 hp G => ?_)
  have hr_r_43 : -2147483648 ≤ r_43 ∧ r_43 ≤ 2147483647 := hr_r_43
  obtain ⟨hsm_44, hp_45⟩ := hp
  have hsm_44 := Eq.symm hsm_44
  subst hsm_44
  have e_46 : μ31.1 P 1 = μ.1 P 1 + 1 := ((F_32.1 P (ni hprP (fun P => P) (fun P => [P + 1]) rfl) 1).trans hs_15)
  have e_47 : μ31.1 P 1 = μ.1 P 1 + 1 := ((F_32.1 P (ni hprP (fun P => P) (fun P => [P + 1]) rfl) 1).trans hs_15)
  have e_48 : μ31.1 P 1 = μ.1 P 1 + 1 := ((F_32.1 P (ni hprP (fun P => P) (fun P => [P + 1]) rfl) 1).trans hs_15)
  have e_49 : μ31.1 P 1 = μ.1 P 1 + 1 := ((F_32.1 P (ni hprP (fun P => P) (fun P => [P + 1]) rfl) 1).trans hs_15)
  refine xc_vV G (b := P) (rest := []) (As := [.int (iv x1), .int (iv r_43)]) (c_X8_setSecond ω l μ31 P x1 r_43 (μ.1 P 1 + 1) hprP (by unfold ir; omega) (by unfold ir; omega) hI_33 (by omega)) (wm 4 159 rfl rfl) (wm 4 160 rfl rfl) (wm 4 161 rfl rfl) hprP.ly rfl (by decide) (hprP.hq ω ρ) (wm 1 9 rfl rfl) (wm 4 162 rfl rfl) (by decide) hR ⟨nfB hF (by decide), nlB hLo (by decide)⟩ (n := 2) rfl rfl (Nat.le_of_ble_eq_true rfl) hl.1 dX7_finishing_36 (fun μ50 ρ d0 H locs hp G => ?_)
  obtain ⟨F_51, hI_52, hp_53, hp_54, ha_55⟩ := hp
  have hm_56 : ∀ _ : Unit, μ50.1 26 11 = 0 → MS μ31 μ50 P x1 r_43 := by
    intro _ h0
    have hw_ := ((hXw_40 ()) (by have h9 : μ31.1 26 11 = μ.1 26 11 := ((F_32.1 26 (ni hprP (fun P => 26) (fun P => [P + 1]) rfl) 11).trans (F_11.1 26 (ni hprP (fun P => 26) (fun P => [P, P + 1]) rfl) 11)); have h8 : μ50.1 26 11 = μ.1 26 11 := ((F_51.1 26 (ni hprP (fun P => 26) (fun P => [P + 1]) rfl) 11).trans ((F_32.1 26 (ni hprP (fun P => 26) (fun P => [P + 1]) rfl) 11).trans (F_11.1 26 (ni hprP (fun P => 26) (fun P => [P, P + 1]) rfl) 11))); omega)).1
    have h8 : μ31.1 P 1 = μ.1 P 1 + 1 := ((F_32.1 P (ni hprP (fun P => P) (fun P => [P + 1]) rfl) 1).trans hs_15)
    have h9 : μ50.1 P 1 = μ.1 P 1 + 1 := ((F_51.1 P (ni hprP (fun P => P) (fun P => [P + 1]) rfl) 1).trans ((F_32.1 P (ni hprP (fun P => P) (fun P => [P + 1]) rfl) 1).trans hs_15))
    rcases hp_54 with ⟨q1, q2, q3⟩ | ⟨q1, q2⟩
    · exact MS.of (μ := μ31) (ν := μ50) (P := P) (by rw [h9, h8]) hw_ q3 ha_55
    · exfalso; exact q1 (by rw [← h8]; exact hw_)
  have hXR_57 : ∀ _ : Unit, μ50.1 26 11 = 0 → (Th (Th (Th (q0 μ P) (qA P 31 (r_5 + 1) 0 r_10)) (qF P x1 r_24)) (qS P x1 r_43)) μ50 := fun _ h0 => ⟨_, (hXR_38 ()) (by have h9 : μ31.1 26 11 = μ.1 26 11 := ((F_32.1 26 (ni hprP (fun P => 26) (fun P => [P + 1]) rfl) 11).trans (F_11.1 26 (ni hprP (fun P => 26) (fun P => [P, P + 1]) rfl) 11)); have h8 : μ50.1 26 11 = μ.1 26 11 := ((F_51.1 26 (ni hprP (fun P => 26) (fun P => [P + 1]) rfl) 11).trans ((F_32.1 26 (ni hprP (fun P => 26) (fun P => [P + 1]) rfl) 11).trans (F_11.1 26 (ni hprP (fun P => 26) (fun P => [P, P + 1]) rfl) 11))); omega), (hm_56 ()) h0⟩
  have hXH_58 : ∀ _ : Unit, μ50.1 26 11 = 0 → HC μ50 P tt 0 := fun _ h0 => ((hXH_39 ()) (by have h9 : μ31.1 26 11 = μ.1 26 11 := ((F_32.1 26 (ni hprP (fun P => 26) (fun P => [P + 1]) rfl) 11).trans (F_11.1 26 (ni hprP (fun P => 26) (fun P => [P, P + 1]) rfl) 11)); have h8 : μ50.1 26 11 = μ.1 26 11 := ((F_51.1 26 (ni hprP (fun P => 26) (fun P => [P + 1]) rfl) 11).trans ((F_32.1 26 (ni hprP (fun P => 26) (fun P => [P + 1]) rfl) 11).trans (F_11.1 26 (ni hprP (fun P => 26) (fun P => [P, P + 1]) rfl) 11))); omega)).ms ((hm_56 ()) h0)
  have hXw_59 : ∀ _ : Unit, μ50.1 26 11 = 0 → Wp μ50 P x1 28 := fun _ h0 => ((hXw_40 ()) (by have h9 : μ31.1 26 11 = μ.1 26 11 := ((F_32.1 26 (ni hprP (fun P => 26) (fun P => [P + 1]) rfl) 11).trans (F_11.1 26 (ni hprP (fun P => 26) (fun P => [P, P + 1]) rfl) 11)); have h8 : μ50.1 26 11 = μ.1 26 11 := ((F_51.1 26 (ni hprP (fun P => 26) (fun P => [P + 1]) rfl) 11).trans ((F_32.1 26 (ni hprP (fun P => 26) (fun P => [P + 1]) rfl) 11).trans (F_11.1 26 (ni hprP (fun P => 26) (fun P => [P, P + 1]) rfl) 11))); omega)).ms ((hm_56 ()) h0)
  have hXw_60 : ∀ _ : Unit, μ50.1 26 11 = 0 → Wp μ50 P r_10 31 := fun _ h0 => ((hXw_41 ()) (by have h9 : μ31.1 26 11 = μ.1 26 11 := ((F_32.1 26 (ni hprP (fun P => 26) (fun P => [P + 1]) rfl) 11).trans (F_11.1 26 (ni hprP (fun P => 26) (fun P => [P, P + 1]) rfl) 11)); have h8 : μ50.1 26 11 = μ.1 26 11 := ((F_51.1 26 (ni hprP (fun P => 26) (fun P => [P + 1]) rfl) 11).trans ((F_32.1 26 (ni hprP (fun P => 26) (fun P => [P + 1]) rfl) 11).trans (F_11.1 26 (ni hprP (fun P => 26) (fun P => [P, P + 1]) rfl) 11))); omega)).ms ((hm_56 ()) h0)
  refine lv_aload_n hx hb dX7_finishing_39 rfl (lv_at hl 0 rfl) ?_
  have e_61 : μ50.1 23 2 = P := ((F_51.1 23 (ni hprP (fun P => 23) (fun P => [P + 1]) rfl) 2).trans ((F_32.1 23 (ni hprP (fun P => 23) (fun P => [P + 1]) rfl) 2).trans ((F_11.1 23 (ni hprP (fun P => 23) (fun P => [P, P + 1]) rfl) 2).trans hP.symm)))
  have e_62 : μ50.1 23 8 = tt := ((F_51.1 23 (ni hprP (fun P => 23) (fun P => [P + 1]) rfl) 8).trans ((F_32.1 23 (ni hprP (fun P => 23) (fun P => [P + 1]) rfl) 8).trans ((F_11.1 23 (ni hprP (fun P => 23) (fun P => [P, P + 1]) rfl) 8).trans htt.symm)))
  have htk_63 : TK μ50 := hTK.fr (K := [P + 1, P]) (Fr.tr (Fr.tr (Fr.tr Fr.rf F_11 (si hprP (fun P => [P, P + 1]) (fun P => [P + 1, P]) rfl)) F_32 (si hprP (fun P => [P + 1]) (fun P => [P + 1, P]) rfl)) F_51 (si hprP (fun P => [P + 1]) (fun P => [P + 1, P]) rfl)) (ni hprP (fun P => 26) (fun P => [P + 1, P]) rfl) (ni hprP (fun P => 28) (fun P => [P + 1, P]) rfl) (ni hprP (fun P => 29) (fun P => [P + 1, P]) rfl)
  have e_64 : μ50.1 P 1 = μ.1 P 1 + 1 := ((F_51.1 P (ni hprP (fun P => P) (fun P => [P + 1]) rfl) 1).trans ((F_32.1 P (ni hprP (fun P => P) (fun P => [P + 1]) rfl) 1).trans hs_15))
  have hn_65 : -1 ≤ μ.1 26 10 ∧ μ.1 26 10 ≤ 3000 := hI.nm.2.2.2.2.2.2.2.2.2.2.2.2
  have e_66 : μ50.1 26 10 = μ.1 26 10 := ((F_51.1 26 (ni hprP (fun P => 26) (fun P => [P + 1]) rfl) 10).trans ((F_32.1 26 (ni hprP (fun P => 26) (fun P => [P + 1]) rfl) 10).trans (F_11.1 26 (ni hprP (fun P => 26) (fun P => [P, P + 1]) rfl) 10)))
  have e_67 : μ50.1 26 11 = μ.1 26 11 := ((F_51.1 26 (ni hprP (fun P => 26) (fun P => [P + 1]) rfl) 11).trans ((F_32.1 26 (ni hprP (fun P => 26) (fun P => [P + 1]) rfl) 11).trans (F_11.1 26 (ni hprP (fun P => 26) (fun P => [P, P + 1]) rfl) 11)))
  have hk_68 := hI.row (r := P + 2) (hprP.row)
  unfold rk at hk_68
  have e_69 : μ50.1 (P + 2) 3 = μ.1 (P + 2) 3 := ((F_51.1 (P + 2) (ni hprP (fun P => P + 2) (fun P => [P + 1]) rfl) 3).trans ((F_32.1 (P + 2) (ni hprP (fun P => P + 2) (fun P => [P + 1]) rfl) 3).trans (F_11.1 (P + 2) (ni hprP (fun P => P + 2) (fun P => [P, P + 1]) rfl) 3)))
  have e_70 : μ50.1 P 1 = μ.1 P 1 + 1 := ((F_51.1 P (ni hprP (fun P => P) (fun P => [P + 1]) rfl) 1).trans ((F_32.1 P (ni hprP (fun P => P) (fun P => [P + 1]) rfl) 1).trans hs_15))
  have e_71 : μ50.1 23 9 = μ.1 23 9 := ((F_51.1 23 (ni hprP (fun P => 23) (fun P => [P + 1]) rfl) 9).trans ((F_32.1 23 (ni hprP (fun P => 23) (fun P => [P + 1]) rfl) 9).trans (F_11.1 23 (ni hprP (fun P => 23) (fun P => [P, P + 1]) rfl) 9)))
  have e_72 : μ50.1 23 9 = μ.1 23 9 := ((F_51.1 23 (ni hprP (fun P => 23) (fun P => [P + 1]) rfl) 9).trans ((F_32.1 23 (ni hprP (fun P => 23) (fun P => [P + 1]) rfl) 9).trans (F_11.1 23 (ni hprP (fun P => 23) (fun P => [P, P + 1]) rfl) 9)))
  have e_73 : μ50.1 23 9 = μ.1 23 9 := ((F_51.1 23 (ni hprP (fun P => 23) (fun P => [P + 1]) rfl) 9).trans ((F_32.1 23 (ni hprP (fun P => 23) (fun P => [P + 1]) rfl) 9).trans (F_11.1 23 (ni hprP (fun P => 23) (fun P => [P, P + 1]) rfl) 9)))
  have e_74 : μ50.1 26 11 = μ.1 26 11 := ((F_51.1 26 (ni hprP (fun P => 26) (fun P => [P + 1]) rfl) 11).trans ((F_32.1 26 (ni hprP (fun P => 26) (fun P => [P + 1]) rfl) 11).trans (F_11.1 26 (ni hprP (fun P => 26) (fun P => [P, P + 1]) rfl) 11)))
  have e_75 : μ50.1 26 10 = μ.1 26 10 := ((F_51.1 26 (ni hprP (fun P => 26) (fun P => [P + 1]) rfl) 10).trans ((F_32.1 26 (ni hprP (fun P => 26) (fun P => [P + 1]) rfl) 10).trans (F_11.1 26 (ni hprP (fun P => 26) (fun P => [P, P + 1]) rfl) 10)))
  have e_76 : μ50.1 P 1 = μ.1 P 1 + 1 := ((F_51.1 P (ni hprP (fun P => P) (fun P => [P + 1]) rfl) 1).trans ((F_32.1 P (ni hprP (fun P => P) (fun P => [P + 1]) rfl) 1).trans hs_15))
  have e_77 : μ50.1 P 1 = μ.1 P 1 + 1 := ((F_51.1 P (ni hprP (fun P => P) (fun P => [P + 1]) rfl) 1).trans ((F_32.1 P (ni hprP (fun P => P) (fun P => [P + 1]) rfl) 1).trans hs_15))
  have e_78 : μ50.1 26 10 = μ.1 26 10 := ((F_51.1 26 (ni hprP (fun P => 26) (fun P => [P + 1]) rfl) 10).trans ((F_32.1 26 (ni hprP (fun P => 26) (fun P => [P + 1]) rfl) 10).trans (F_11.1 26 (ni hprP (fun P => 26) (fun P => [P, P + 1]) rfl) 10)))
  have e_79 : μ50.1 26 11 = μ.1 26 11 := ((F_51.1 26 (ni hprP (fun P => 26) (fun P => [P + 1]) rfl) 11).trans ((F_32.1 26 (ni hprP (fun P => 26) (fun P => [P + 1]) rfl) 11).trans (F_11.1 26 (ni hprP (fun P => 26) (fun P => [P, P + 1]) rfl) 11)))
  have e_80 : μ50.1 (P + 2) 3 = μ.1 (P + 2) 3 := ((F_51.1 (P + 2) (ni hprP (fun P => P + 2) (fun P => [P + 1]) rfl) 3).trans ((F_32.1 (P + 2) (ni hprP (fun P => P + 2) (fun P => [P + 1]) rfl) 3).trans (F_11.1 (P + 2) (ni hprP (fun P => P + 2) (fun P => [P, P + 1]) rfl) 3)))
  have e_81 : μ50.1 P 1 = μ.1 P 1 + 1 := ((F_51.1 P (ni hprP (fun P => P) (fun P => [P + 1]) rfl) 1).trans ((F_32.1 P (ni hprP (fun P => P) (fun P => [P + 1]) rfl) 1).trans hs_15))
  have e_82 : μ50.1 (P + 2) 3 = μ.1 (P + 2) 3 := ((F_51.1 (P + 2) (ni hprP (fun P => P + 2) (fun P => [P + 1]) rfl) 3).trans ((F_32.1 (P + 2) (ni hprP (fun P => P + 2) (fun P => [P + 1]) rfl) 3).trans (F_11.1 (P + 2) (ni hprP (fun P => P + 2) (fun P => [P, P + 1]) rfl) 3)))
  have e_83 : μ50.1 23 9 = μ.1 23 9 := ((F_51.1 23 (ni hprP (fun P => 23) (fun P => [P + 1]) rfl) 9).trans ((F_32.1 23 (ni hprP (fun P => 23) (fun P => [P + 1]) rfl) 9).trans (F_11.1 23 (ni hprP (fun P => 23) (fun P => [P, P + 1]) rfl) 9)))
  refine xc_vV G (b := 23) (rest := []) (As := []) (((fun (_ : Om) (_ : Launch) => hK)) ω l μ50 P tt hI_52 (by omega) (by omega) htk_63 (by omega) (by omega) (by omega) (by omega) (by omega) (fun _ => (hXH_58 ()))) (wm 3 218 rfl rfl) (wm 3 220 rfl rfl) (wm 0 19 rfl rfl) rfl rfl (by decide) rfl (wm 1 12 rfl rfl) (wm 3 221 rfl rfl) (by decide) hR ⟨sfr (F := F) (a := 0) (by decide), slo (L := Lo) (m := 2) (a := 0) (by decide)⟩ (n := 0) rfl rfl (Nat.le_of_ble_eq_true rfl) hl.1 dX7_finishing_40 (fun μ84 ρ d0 H locs hp G => ?_)
  obtain ⟨F_85, hI_86, hp_87, hp_88, hp_89, hp_90, hp_91, hp_92, hp_93, hs_94, hs_95, hs_96, hs_97, hs_98, hs_99⟩ := hp
  have hn_100 : -1 ≤ μ84.1 26 10 ∧ μ84.1 26 10 ≤ 3000 := hI_86.nm.2.2.2.2.2.2.2.2.2.2.2.2
  have hk_101 := hI_86.pr (p := P) hprP
  unfold pk at hk_101
  have hc_102 : 16 ≤ μ84.2.1 (P + 1) ∧ μ84.2.1 (P + 1) ≤ 73024 := hI_86.rm.1 _ hprP.cap
  have hk_103 := hI_86.row (r := P + 2) (hprP.row)
  unfold rk at hk_103
  have htb_104 := hp_87.b
  replace hp_92 := fun _ : Unit => hp_92
  have hXR_105 : ∀ _ : Unit, μ84.1 26 11 = 0 → (Th (Th (Th (Th (q0 μ P) (qA P 31 (r_5 + 1) 0 r_10)) (qF P x1 r_24)) (qS P x1 r_43)) (qE P tt 0 (2 * (7 - μ.1 23 9)))) μ84 := fun _ h0 => ⟨_, (hXR_57 ()) (by have h9 : μ50.1 26 11 = μ.1 26 11 := ((F_51.1 26 (ni hprP (fun P => 26) (fun P => [P + 1]) rfl) 11).trans ((F_32.1 26 (ni hprP (fun P => 26) (fun P => [P + 1]) rfl) 11).trans (F_11.1 26 (ni hprP (fun P => 26) (fun P => [P, P + 1]) rfl) 11))); have h8 : μ84.1 26 11 = μ84.1 26 11 := rfl; omega), (((hp_92 ()) h0).mn (by have h9 : μ50.1 23 9 = μ.1 23 9 := ((F_51.1 23 (ni hprP (fun P => 23) (fun P => [P + 1]) rfl) 9).trans ((F_32.1 23 (ni hprP (fun P => 23) (fun P => [P + 1]) rfl) 9).trans (F_11.1 23 (ni hprP (fun P => 23) (fun P => [P, P + 1]) rfl) 9))); omega))⟩
  have hXH_106 : ∀ _ : Unit, μ84.1 26 11 = 0 → HC μ84 P tt 0 := fun _ h0 => HC.ex ((hXH_58 ()) (by have h9 : μ50.1 26 11 = μ.1 26 11 := ((F_51.1 26 (ni hprP (fun P => 26) (fun P => [P + 1]) rfl) 11).trans ((F_32.1 26 (ni hprP (fun P => 26) (fun P => [P + 1]) rfl) 11).trans (F_11.1 26 (ni hprP (fun P => 26) (fun P => [P, P + 1]) rfl) 11))); have h8 : μ84.1 26 11 = μ84.1 26 11 := rfl; omega)) ((hp_92 ()) h0)
  have hXw_107 : ∀ _ : Unit, μ84.1 26 11 = 0 → Wp μ84 P x1 28 := fun _ h0 => ((hXw_59 ()) (by have h9 : μ50.1 26 11 = μ.1 26 11 := ((F_51.1 26 (ni hprP (fun P => 26) (fun P => [P + 1]) rfl) 11).trans ((F_32.1 26 (ni hprP (fun P => 26) (fun P => [P + 1]) rfl) 11).trans (F_11.1 26 (ni hprP (fun P => 26) (fun P => [P, P + 1]) rfl) 11))); have h8 : μ84.1 26 11 = μ84.1 26 11 := rfl; omega)).ext ((hp_92 ()) h0).1
  have hXw_108 : ∀ _ : Unit, μ84.1 26 11 = 0 → Wp μ84 P r_10 31 := fun _ h0 => ((hXw_60 ()) (by have h9 : μ50.1 26 11 = μ.1 26 11 := ((F_51.1 26 (ni hprP (fun P => 26) (fun P => [P + 1]) rfl) 11).trans ((F_32.1 26 (ni hprP (fun P => 26) (fun P => [P + 1]) rfl) 11).trans (F_11.1 26 (ni hprP (fun P => 26) (fun P => [P, P + 1]) rfl) 11))); have h8 : μ84.1 26 11 = μ84.1 26 11 := rfl; omega)).ext ((hp_92 ()) h0).1
  refine lv_aload_n hx hb dX7_finishing_43 rfl (lv_at hl 0 rfl) ?_
  refine lv_bipush (v := iv 32) hx hb dX7_finishing_44 rfl ?_
  refine lv_aload_n hx hb dX7_finishing_46 rfl (lv_at hl 0 rfl) ?_
  have e_109 : μ84.1 23 2 = P := (hs_94.trans ((F_51.1 23 (ni hprP (fun P => 23) (fun P => [P + 1]) rfl) 2).trans ((F_32.1 23 (ni hprP (fun P => 23) (fun P => [P + 1]) rfl) 2).trans ((F_11.1 23 (ni hprP (fun P => 23) (fun P => [P, P + 1]) rfl) 2).trans hP.symm))))
  refine xc_iV G (b := 23) (rest := [.int (iv 32), .ref (oP ω 23)]) (As := []) (c_X7_here ω l μ84 P hI_86 (by omega)) (wm 4 31 rfl rfl) (wm 4 33 rfl rfl) (wm 0 31 rfl rfl) rfl rfl (by decide) rfl (wm 1 12 rfl rfl) (wm 4 34 rfl rfl) (by decide) hR ⟨nfB hF (by decide), nlB hLo (by decide)⟩ (n := 0) rfl rfl (Nat.le_of_ble_eq_true rfl) hl.1 dX7_finishing_47 (fun r_111 μ110 ρ d0 H locs hr_r_111 hp G => ?_)
  have hr_r_111 : -2147483648 ≤ r_111 ∧ r_111 ≤ 2147483647 := hr_r_111
  obtain ⟨hsm_112, hp_113⟩ := hp
  have hsm_112 := Eq.symm hsm_112
  subst hsm_112
  refine lv_iconst (v := iv 1) hx hb dX7_finishing_50 rfl ?_
  refine xb_iadd hx hb dX7_finishing_51 ?_
  refine lv_iconst (v := iv 0) hx hb dX7_finishing_52 rfl ?_
  have e_114 : μ84.1 23 2 = P := (hs_94.trans ((F_51.1 23 (ni hprP (fun P => 23) (fun P => [P + 1]) rfl) 2).trans ((F_32.1 23 (ni hprP (fun P => 23) (fun P => [P + 1]) rfl) 2).trans ((F_11.1 23 (ni hprP (fun P => 23) (fun P => [P, P + 1]) rfl) 2).trans hP.symm))))
  refine xc_iV G (b := 23) (rest := []) (As := [.int (iv 32), .int (iv (r_111 + 1)), .int (iv 0)]) (c_X7_add ω l μ84 32 (r_111 + 1) 0 P (by unfold ir; omega) (by unfold ir; omega) (by unfold ir; omega) hI_86 (by omega) (by omega)) (wm 3 226 rfl rfl) (wm 3 228 rfl rfl) (wm 0 21 rfl rfl) rfl rfl (by decide) rfl (wm 1 12 rfl rfl) (wm 3 229 rfl rfl) (by decide) hR ⟨nfB hF (by decide), nlB hLo (by decide)⟩ (n := 3) rfl rfl (Nat.le_of_ble_eq_true rfl) hl.1 dX7_finishing_53 (fun r_116 μ115 ρ d0 H locs hr_r_116 hp G => ?_)
  have hr_r_116 : -2147483648 ≤ r_116 ∧ r_116 ≤ 2147483647 := hr_r_116
  obtain ⟨F_117, hI_118, hp_119, hp_120, hs_121, hs_122⟩ := hp
  have hXR_123 : ∀ _ : Unit, μ115.1 26 11 = 0 → (Th (Th (Th (Th (Th (q0 μ P) (qA P 31 (r_5 + 1) 0 r_10)) (qF P x1 r_24)) (qS P x1 r_43)) (qE P tt 0 (2 * (7 - μ.1 23 9)))) (qA P 32 (r_111 + 1) 0 r_116)) μ115 := fun _ h0 => ⟨_, (hXR_105 ()) (by have h9 : μ84.1 26 11 = μ84.1 26 11 := rfl; have h8 : μ115.1 26 11 = μ84.1 26 11 := (F_117.1 26 (ni hprP (fun P => 26) (fun P => [P, P + 1]) rfl) 11); omega), hp_120, hp_119⟩
  have hXH_124 : ∀ _ : Unit, μ115.1 26 11 = 0 → HC μ115 P tt 0 := fun _ h0 => (((hXH_106 ()) (by have h9 : μ84.1 26 11 = μ84.1 26 11 := rfl; have h8 : μ115.1 26 11 = μ84.1 26 11 := (F_117.1 26 (ni hprP (fun P => 26) (fun P => [P, P + 1]) rfl) 11); omega)).ad hp_120 (Or.inl rfl)).c rfl
  have hXw_125 : ∀ _ : Unit, μ115.1 26 11 = 0 → Wp μ115 P x1 28 := fun _ h0 => ((hXw_107 ()) (by have h9 : μ84.1 26 11 = μ84.1 26 11 := rfl; have h8 : μ115.1 26 11 = μ84.1 26 11 := (F_117.1 26 (ni hprP (fun P => 26) (fun P => [P, P + 1]) rfl) 11); omega)).ext hp_120.1
  have hXw_126 : ∀ _ : Unit, μ115.1 26 11 = 0 → Wp μ115 P r_10 31 := fun _ h0 => ((hXw_108 ()) (by have h9 : μ84.1 26 11 = μ84.1 26 11 := rfl; have h8 : μ115.1 26 11 = μ84.1 26 11 := (F_117.1 26 (ni hprP (fun P => 26) (fun P => [P, P + 1]) rfl) 11); omega)).ext hp_120.1
  have hXw_127 : ∀ _ : Unit, μ115.1 26 11 = 0 → Wp μ115 P r_116 32 := fun _ h0 => Wp.of hp_120 ((hXH_106 ()) (by have h9 : μ84.1 26 11 = μ84.1 26 11 := rfl; have h8 : μ115.1 26 11 = μ84.1 26 11 := (F_117.1 26 (ni hprP (fun P => 26) (fun P => [P, P + 1]) rfl) 11); omega)).1 hp_119
  refine lv_pop hx hb dX7_finishing_56 rfl ?_
  clear hk_1 hc_2 hk_68 hk_101 hc_102 hk_103
  have e_128 : μ115.1 26 11 = μ84.1 26 11 := (F_117.1 26 (ni hprP (fun P => 26) (fun P => [P, P + 1]) rfl) 11)
  have htk_129 : TK μ115 := hp_87.fr (K := [P, P + 1]) (Fr.tr Fr.rf F_117 (si hprP (fun P => [P, P + 1]) (fun P => [P, P + 1]) rfl)) (ni hprP (fun P => 26) (fun P => [P, P + 1]) rfl) (ni hprP (fun P => 28) (fun P => [P, P + 1]) rfl) (ni hprP (fun P => 29) (fun P => [P, P + 1]) rfl)
  have e_130 : μ115.1 26 11 = μ84.1 26 11 := (F_117.1 26 (ni hprP (fun P => 26) (fun P => [P, P + 1]) rfl) 11)
  have e_131 : μ115.1 26 10 = μ84.1 26 10 := (F_117.1 26 (ni hprP (fun P => 26) (fun P => [P, P + 1]) rfl) 10)
  have e_132 : μ115.1 P 1 = μ84.1 P 1 + 1 := hs_121
  have e_133 : μ115.1 P 1 = μ84.1 P 1 + 1 := hs_121
  have e_134 : μ115.1 26 10 = μ84.1 26 10 := (F_117.1 26 (ni hprP (fun P => 26) (fun P => [P, P + 1]) rfl) 10)
  have e_135 : μ115.1 26 11 = μ84.1 26 11 := (F_117.1 26 (ni hprP (fun P => 26) (fun P => [P, P + 1]) rfl) 11)
  have e_136 : μ115.1 (P + 2) 3 = μ84.1 (P + 2) 3 := (F_117.1 (P + 2) (ni hprP (fun P => P + 2) (fun P => [P, P + 1]) rfl) 3)
  have e_137 : μ115.1 P 1 = μ84.1 P 1 + 1 := hs_121
  have e_138 : μ115.1 (P + 2) 3 = μ84.1 (P + 2) 3 := (F_117.1 (P + 2) (ni hprP (fun P => P + 2) (fun P => [P, P + 1]) rfl) 3)
  exact xr_v G hret hlk dX7_finishing_57 ⟨(Fr.tr (Fr.tr (Fr.tr (Fr.tr (Fr.tr Fr.rf F_11 (si hprP (fun P => [P, P + 1]) (fun P => [2, 3, 4, 23, 24, 25, 26, P, P + 1, P + 2, (P + 2) + 1, (P + 2) + 2, (P + 2) + 3]) rfl)) F_32 (si hprP (fun P => [P + 1]) (fun P => [2, 3, 4, 23, 24, 25, 26, P, P + 1, P + 2, (P + 2) + 1, (P + 2) + 2, (P + 2) + 3]) rfl)) F_51 (si hprP (fun P => [P + 1]) (fun P => [2, 3, 4, 23, 24, 25, 26, P, P + 1, P + 2, (P + 2) + 1, (P + 2) + 2, (P + 2) + 3]) rfl)) F_85 (si hprP (fun P => [2, 3, 4, 23, 24, 25, 26, P, P + 1, P + 2, (P + 2) + 1, (P + 2) + 2, (P + 2) + 3]) (fun P => [2, 3, 4, 23, 24, 25, 26, P, P + 1, P + 2, (P + 2) + 1, (P + 2) + 2, (P + 2) + 3]) rfl)) F_117 (si hprP (fun P => [P, P + 1]) (fun P => [2, 3, 4, 23, 24, 25, 26, P, P + 1, P + 2, (P + 2) + 1, (P + 2) + 2, (P + 2) + 3]) rfl)), hI_118, htk_129, (by omega), (by omega), (by omega), (by omega), (fun h0 => as_fi ((hXR_123 ()) h0) (td64x (b := 0) (by omega) (by omega) (by omega)) (by omega) (by omega)), (((F_117.1 23 (ni hprP (fun P => 23) (fun P => [P, P + 1]) rfl) 2).trans (hs_94.trans ((F_51.1 23 (ni hprP (fun P => 23) (fun P => [P + 1]) rfl) 2).trans ((F_32.1 23 (ni hprP (fun P => 23) (fun P => [P + 1]) rfl) 2).trans ((F_11.1 23 (ni hprP (fun P => 23) (fun P => [P, P + 1]) rfl) 2).trans hP.symm)))))).trans hP, ((F_117.1 23 (ni hprP (fun P => 23) (fun P => [P, P + 1]) rfl) 7).trans (hs_95.trans ((F_51.1 23 (ni hprP (fun P => 23) (fun P => [P + 1]) rfl) 7).trans ((F_32.1 23 (ni hprP (fun P => 23) (fun P => [P + 1]) rfl) 7).trans (F_11.1 23 (ni hprP (fun P => 23) (fun P => [P, P + 1]) rfl) 7))))), (((F_117.1 23 (ni hprP (fun P => 23) (fun P => [P, P + 1]) rfl) 8).trans (hs_96.trans ((F_51.1 23 (ni hprP (fun P => 23) (fun P => [P + 1]) rfl) 8).trans ((F_32.1 23 (ni hprP (fun P => 23) (fun P => [P + 1]) rfl) 8).trans ((F_11.1 23 (ni hprP (fun P => 23) (fun P => [P, P + 1]) rfl) 8).trans htt.symm)))))).trans htt, ((F_117.1 23 (ni hprP (fun P => 23) (fun P => [P, P + 1]) rfl) 9).trans (hs_97.trans ((F_51.1 23 (ni hprP (fun P => 23) (fun P => [P + 1]) rfl) 9).trans ((F_32.1 23 (ni hprP (fun P => 23) (fun P => [P + 1]) rfl) 9).trans (F_11.1 23 (ni hprP (fun P => 23) (fun P => [P, P + 1]) rfl) 9))))), ((F_117.1 26 (ni hprP (fun P => 26) (fun P => [P, P + 1]) rfl) 6).trans (hs_98.trans ((F_51.1 26 (ni hprP (fun P => 26) (fun P => [P + 1]) rfl) 6).trans ((F_32.1 26 (ni hprP (fun P => 26) (fun P => [P + 1]) rfl) 6).trans (F_11.1 26 (ni hprP (fun P => 26) (fun P => [P, P + 1]) rfl) 6))))), (hs_122.trans (hs_99.trans ((F_51.1 P (ni hprP (fun P => P) (fun P => [P + 1]) rfl) 7).trans ((F_32.1 P (ni hprP (fun P => P) (fun P => [P + 1]) rfl) 7).trans hs_16))))⟩

set_option maxHeartbeats 4000000 in
set_option maxRecDepth 100000 in
theorem c_X7_onGo (ω : Om) (l : Launch) (μ : M3) (F : Nat) (Lo : Nat) (kf : Int) (P : Int) (tt : Int) (hI : IC μ) (hP : P = μ.1 23 2) (htt : tt = μ.1 23 8) (hF : 200 ≤ F) (hLo : 6000 ≤ Lo) (hK : ∀ (μ : M3) (P : Int) (tt : Int) (hI : IC μ) (hP : P = μ.1 23 2) (htt : tt = μ.1 23 8) (hTK : TK μ) (hB : 2 * μ.1 P 1 ≤ 5 * μ.1 26 10 + 103 + 80 * μ.1 26 11) (hKc : μ.1 (P + 2) 3 ≤ μ.1 P 1) (ht3 : 0 ≤ tt ∧ tt ≤ 3) (hdp : 0 ≤ μ.1 23 9 ∧ μ.1 23 9 ≤ 8) (hfu : 0 ≤ (kf - 1) ∧ 9 ≤ μ.1 23 9 + (kf - 1)) (hs1 : ∀ _ : Unit, μ.1 26 11 = 0 → HC μ P tt 0), CtV ω l yX7_block cX7_block 2 (F + 0) (Lo + 0) [.ref (oP ω 23)] μ (fun (μ' : M3) => (Fr [2, 3, 4, 23, 24, 25, 26, P, P + 1, P + 2, (P + 2) + 1, (P + 2) + 2, (P + 2) + 3] μ μ') ∧ (IC μ') ∧ (TK μ') ∧ (μ.1 26 11 ≤ μ'.1 26 11) ∧ (μ.1 26 10 ≤ μ'.1 26 10) ∧ (μ.1 P 1 ≤ μ'.1 P 1 ∧ 2 * μ'.1 P 1 ≤ 2 * μ.1 P 1 + 5 * (μ'.1 26 10 - μ.1 26 10) + (- 10 + 15 * μ'.1 26 11 - 5 * μ.1 26 11)) ∧ (μ'.1 (P + 2) 3 - μ.1 (P + 2) 3 ≤ μ'.1 P 1 - μ.1 P 1 ∧ μ.1 (P + 2) 3 ≤ μ'.1 (P + 2) 3) ∧ (μ'.1 26 11 = 0 → EX μ μ' P tt 0 (2 * (7 - μ.1 23 9))) ∧ (μ.1 23 9 ≤ 7 + 100 * μ'.1 26 11) ∧ (μ'.1 23 2 = μ.1 23 2) ∧ (μ'.1 23 7 = μ.1 23 7) ∧ (μ'.1 23 8 = μ.1 23 8) ∧ (μ'.1 23 9 = μ.1 23 9) ∧ (μ'.1 26 6 = μ.1 26 6) ∧ (μ'.1 P 7 = μ.1 P 7))) (hTK : TK μ) (hB : 2 * μ.1 P 1 ≤ 5 * μ.1 26 10 + 95 + 80 * μ.1 26 11) (hKc : μ.1 (P + 2) 3 ≤ μ.1 P 1) (ht3 : 0 ≤ tt ∧ tt ≤ 3) (hdp : 0 ≤ μ.1 23 9 ∧ μ.1 23 9 ≤ 8) (hs0 : μ.1 26 11 = 0) (hfu : 10 ≤ μ.1 23 9 + kf) (hst : ∀ _ : Unit, STP μ P tt) (ht : tt = 1) : CtV ω l yX7_onGo cX7_onGo 3 (F + 1) (Lo + 21) [.ref (oP ω 23)] μ (fun (μ' : M3) => (Fr [2, 3, 4, 23, 24, 25, 26, P, P + 1, P + 2, (P + 2) + 1, (P + 2) + 2, (P + 2) + 3] μ μ') ∧ (IC μ') ∧ (TK μ') ∧ (μ.1 26 11 ≤ μ'.1 26 11) ∧ (μ.1 26 10 ≤ μ'.1 26 10) ∧ (μ.1 P 1 ≤ μ'.1 P 1 ∧ 2 * μ'.1 P 1 ≤ 2 * μ.1 P 1 + 5 * (μ'.1 26 10 - μ.1 26 10) + (- 21 + 30 * μ'.1 26 11)) ∧ (μ'.1 (P + 2) 3 - μ.1 (P + 2) 3 ≤ μ'.1 P 1 - μ.1 P 1 ∧ μ.1 (P + 2) 3 ≤ μ'.1 (P + 2) 3) ∧ (μ'.1 26 11 = 0 → ES μ μ' P tt ((2 * (7 - μ.1 23 9)) + 1)) ∧ (μ'.1 23 2 = μ.1 23 2) ∧ (μ'.1 23 7 = μ.1 23 7) ∧ (μ'.1 23 8 = μ.1 23 8) ∧ (μ'.1 23 9 = μ.1 23 9) ∧ (μ'.1 26 6 = μ.1 26 6) ∧ (μ'.1 P 7 = μ.1 P 7)) := by
  refine CtV.go (by decide) (Nat.le_of_ble_eq_true rfl) (fun ρ p e s m below meth c R ls G hR hret hlk hl => ?_)
  have hx := G.1.1
  have hb := G.1.2.1
  have hl : lv_has ls 3 [(0, .ref (oP ω 23))] := hl
  generalize s.drawn = d0 at G ⊢
  have hTKb := hTK.b
  have hprP : isPr P := by have h9 := G.sr0.2.2.2.2.2; rw [← hP] at h9; exact h9
  have hprP_d : 13 ≤ P ∧ P ≤ 101 := by rcases hprP with h9 | h9 | h9 | h9 | h9 <;> omega
  have hk_1 := hI.pr (p := P) hprP
  unfold pk at hk_1
  have hc_2 : 16 ≤ μ.2.1 (P + 1) ∧ μ.2.1 (P + 1) ≤ 73024 := hI.rm.1 _ hprP.cap
  have hX0_ : ∀ _ : Unit, μ.1 26 11 = 0 → q0 μ P μ := fun _ _ => ⟨EXT.rf, rfl⟩
  have hXH_ : ∀ _ : Unit, μ.1 26 11 = 0 → HC μ P tt 1 := fun _ _ => (HC.of (hst ())).c (by rw [if_neg (by omega)])
  refine lv_aload_n hx hb dX7_onGo_0 rfl (lv_at hl 0 rfl) ?_
  refine lv_bipush (v := iv 28) hx hb dX7_onGo_1 rfl ?_
  refine lv_iconst (v := iv 0) hx hb dX7_onGo_3 rfl ?_
  refine lv_iconst (v := iv 2) hx hb dX7_onGo_4 rfl ?_
  refine lv_iconst (v := iv 0) hx hb dX7_onGo_5 rfl ?_
  refine xc_iS G (rest := [.int (iv 0), .int (iv 28), .ref (oP ω 23)]) (As := [.int (iv 2), .int (iv 0)]) (c_X3_detail ω l μ 2 0 (by unfold ir; omega) (by unfold ir; omega) (by omega)) (wm 4 156 rfl rfl) (wm 4 157 rfl rfl) (wm 1 17 rfl rfl) (wm 4 158 rfl rfl) (by decide) hR ⟨nfB hF (by decide), nlB hLo (by decide)⟩ (n := 2) rfl rfl (Nat.le_of_ble_eq_true rfl) hl.1 dX7_onGo_6 (fun r_4 μ3 ρ d0 H locs hr_r_4 hp G => ?_)
  have hr_r_4 : -2147483648 ≤ r_4 ∧ r_4 ≤ 2147483647 := hr_r_4
  obtain ⟨hsm_5, hp_6⟩ := hp
  have hsm_5 := Eq.symm hsm_5
  subst hsm_5
  have e_7 : μ.1 23 2 = P := hP.symm
  refine xc_iV G (b := 23) (rest := []) (As := [.int (iv 28), .int (iv 0), .int (iv r_4)]) (c_X7_add ω l μ 28 0 r_4 P (by unfold ir; omega) (by unfold ir; omega) (by unfold ir; omega) hI (by omega) (by omega)) (wm 3 226 rfl rfl) (wm 3 228 rfl rfl) (wm 0 21 rfl rfl) rfl rfl (by decide) rfl (wm 1 12 rfl rfl) (wm 3 229 rfl rfl) (by decide) hR ⟨nfB hF (by decide), nlB hLo (by decide)⟩ (n := 3) rfl rfl (Nat.le_of_ble_eq_true rfl) hl.1 dX7_onGo_9 (fun r_9 μ8 ρ d0 H locs hr_r_9 hp G => ?_)
  have hr_r_9 : -2147483648 ≤ r_9 ∧ r_9 ≤ 2147483647 := hr_r_9
  obtain ⟨F_10, hI_11, hp_12, hp_13, hs_14, hs_15⟩ := hp
  have hXR_16 : ∀ _ : Unit, μ8.1 26 11 = 0 → (Th (q0 μ P) (qA P 28 0 r_4 r_9)) μ8 := fun _ h0 => ⟨_, (hX0_ ()) (by have h9 : μ.1 26 11 = μ.1 26 11 := rfl; have h8 : μ8.1 26 11 = μ.1 26 11 := (F_10.1 26 (ni hprP (fun P => 26) (fun P => [P, P + 1]) rfl) 11); omega), hp_13, hp_12⟩
  have hXH_17 : ∀ _ : Unit, μ8.1 26 11 = 0 → HC μ8 P tt 0 := fun _ h0 => (((hXH_ ()) (by have h9 : μ.1 26 11 = μ.1 26 11 := rfl; have h8 : μ8.1 26 11 = μ.1 26 11 := (F_10.1 26 (ni hprP (fun P => 26) (fun P => [P, P + 1]) rfl) 11); omega)).ad hp_13 (Or.inl rfl)).c rfl
  have hXw_18 : ∀ _ : Unit, μ8.1 26 11 = 0 → Wp μ8 P r_9 28 := fun _ h0 => Wp.of hp_13 ((hXH_ ()) (by have h9 : μ.1 26 11 = μ.1 26 11 := rfl; have h8 : μ8.1 26 11 = μ.1 26 11 := (F_10.1 26 (ni hprP (fun P => 26) (fun P => [P, P + 1]) rfl) 11); omega)).1 hp_12
  refine lv_istore_n (lv' := [(1, .int (iv r_9)), (0, .ref (oP ω 23))]) hx hb dX7_onGo_12 rfl hl (by decide) rfl (fun ls hl => ?_)
  refine lv_aload_n hx hb dX7_onGo_13 rfl (lv_at hl 1 rfl) ?_
  have e_19 : μ8.1 23 2 = P := ((F_10.1 23 (ni hprP (fun P => 23) (fun P => [P, P + 1]) rfl) 2).trans hP.symm)
  have e_20 : μ8.1 23 8 = tt := ((F_10.1 23 (ni hprP (fun P => 23) (fun P => [P, P + 1]) rfl) 8).trans htt.symm)
  have htk_21 : TK μ8 := hTK.fr (K := [P, P + 1]) (Fr.tr Fr.rf F_10 (si hprP (fun P => [P, P + 1]) (fun P => [P, P + 1]) rfl)) (ni hprP (fun P => 26) (fun P => [P, P + 1]) rfl) (ni hprP (fun P => 28) (fun P => [P, P + 1]) rfl) (ni hprP (fun P => 29) (fun P => [P, P + 1]) rfl)
  have e_22 : μ8.1 P 1 = μ.1 P 1 + 1 := hs_14
  have hn_23 : -1 ≤ μ.1 26 10 ∧ μ.1 26 10 ≤ 3000 := hI.nm.2.2.2.2.2.2.2.2.2.2.2.2
  have e_24 : μ8.1 26 10 = μ.1 26 10 := (F_10.1 26 (ni hprP (fun P => 26) (fun P => [P, P + 1]) rfl) 10)
  have e_25 : μ8.1 26 11 = μ.1 26 11 := (F_10.1 26 (ni hprP (fun P => 26) (fun P => [P, P + 1]) rfl) 11)
  have hk_26 := hI.row (r := P + 2) (hprP.row)
  unfold rk at hk_26
  have e_27 : μ8.1 (P + 2) 3 = μ.1 (P + 2) 3 := (F_10.1 (P + 2) (ni hprP (fun P => P + 2) (fun P => [P, P + 1]) rfl) 3)
  have e_28 : μ8.1 P 1 = μ.1 P 1 + 1 := hs_14
  have e_29 : μ8.1 23 9 = μ.1 23 9 := (F_10.1 23 (ni hprP (fun P => 23) (fun P => [P, P + 1]) rfl) 9)
  have e_30 : μ8.1 23 9 = μ.1 23 9 := (F_10.1 23 (ni hprP (fun P => 23) (fun P => [P, P + 1]) rfl) 9)
  have e_31 : μ8.1 23 9 = μ.1 23 9 := (F_10.1 23 (ni hprP (fun P => 23) (fun P => [P, P + 1]) rfl) 9)
  have e_32 : μ8.1 26 11 = μ.1 26 11 := (F_10.1 26 (ni hprP (fun P => 26) (fun P => [P, P + 1]) rfl) 11)
  have e_33 : μ8.1 26 10 = μ.1 26 10 := (F_10.1 26 (ni hprP (fun P => 26) (fun P => [P, P + 1]) rfl) 10)
  have e_34 : μ8.1 P 1 = μ.1 P 1 + 1 := hs_14
  have e_35 : μ8.1 P 1 = μ.1 P 1 + 1 := hs_14
  have e_36 : μ8.1 26 10 = μ.1 26 10 := (F_10.1 26 (ni hprP (fun P => 26) (fun P => [P, P + 1]) rfl) 10)
  have e_37 : μ8.1 26 11 = μ.1 26 11 := (F_10.1 26 (ni hprP (fun P => 26) (fun P => [P, P + 1]) rfl) 11)
  have e_38 : μ8.1 (P + 2) 3 = μ.1 (P + 2) 3 := (F_10.1 (P + 2) (ni hprP (fun P => P + 2) (fun P => [P, P + 1]) rfl) 3)
  have e_39 : μ8.1 P 1 = μ.1 P 1 + 1 := hs_14
  have e_40 : μ8.1 (P + 2) 3 = μ.1 (P + 2) 3 := (F_10.1 (P + 2) (ni hprP (fun P => P + 2) (fun P => [P, P + 1]) rfl) 3)
  have e_41 : μ8.1 23 9 = μ.1 23 9 := (F_10.1 23 (ni hprP (fun P => 23) (fun P => [P, P + 1]) rfl) 9)
  refine xc_vV G (b := 23) (rest := []) (As := []) (((fun (_ : Om) (_ : Launch) => hK)) ω l μ8 P tt hI_11 (by omega) (by omega) htk_21 (by omega) (by omega) (by omega) (by omega) (by omega) (fun _ => (hXH_17 ()))) (wm 3 218 rfl rfl) (wm 3 220 rfl rfl) (wm 0 19 rfl rfl) rfl rfl (by decide) rfl (wm 1 12 rfl rfl) (wm 3 221 rfl rfl) (by decide) hR ⟨sfr (F := F) (a := 0) (by decide), slo (L := Lo) (m := 2) (a := 0) (by decide)⟩ (n := 0) rfl rfl (Nat.le_of_ble_eq_true rfl) hl.1 dX7_onGo_14 (fun μ42 ρ d0 H locs hp G => ?_)
  obtain ⟨F_43, hI_44, hp_45, hp_46, hp_47, hp_48, hp_49, hp_50, hp_51, hs_52, hs_53, hs_54, hs_55, hs_56, hs_57⟩ := hp
  have hn_58 : -1 ≤ μ42.1 26 10 ∧ μ42.1 26 10 ≤ 3000 := hI_44.nm.2.2.2.2.2.2.2.2.2.2.2.2
  have hk_59 := hI_44.pr (p := P) hprP
  unfold pk at hk_59
  have hc_60 : 16 ≤ μ42.2.1 (P + 1) ∧ μ42.2.1 (P + 1) ≤ 73024 := hI_44.rm.1 _ hprP.cap
  have hk_61 := hI_44.row (r := P + 2) (hprP.row)
  unfold rk at hk_61
  have htb_62 := hp_45.b
  replace hp_50 := fun _ : Unit => hp_50
  have hXR_63 : ∀ _ : Unit, μ42.1 26 11 = 0 → (Th (Th (q0 μ P) (qA P 28 0 r_4 r_9)) (qE P tt 0 (2 * (7 - μ.1 23 9)))) μ42 := fun _ h0 => ⟨_, (hXR_16 ()) (by have h9 : μ8.1 26 11 = μ.1 26 11 := (F_10.1 26 (ni hprP (fun P => 26) (fun P => [P, P + 1]) rfl) 11); have h8 : μ42.1 26 11 = μ42.1 26 11 := rfl; omega), (((hp_50 ()) h0).mn (by have h9 : μ8.1 23 9 = μ.1 23 9 := (F_10.1 23 (ni hprP (fun P => 23) (fun P => [P, P + 1]) rfl) 9); omega))⟩
  have hXH_64 : ∀ _ : Unit, μ42.1 26 11 = 0 → HC μ42 P tt 0 := fun _ h0 => HC.ex ((hXH_17 ()) (by have h9 : μ8.1 26 11 = μ.1 26 11 := (F_10.1 26 (ni hprP (fun P => 26) (fun P => [P, P + 1]) rfl) 11); have h8 : μ42.1 26 11 = μ42.1 26 11 := rfl; omega)) ((hp_50 ()) h0)
  have hXw_65 : ∀ _ : Unit, μ42.1 26 11 = 0 → Wp μ42 P r_9 28 := fun _ h0 => ((hXw_18 ()) (by have h9 : μ8.1 26 11 = μ.1 26 11 := (F_10.1 26 (ni hprP (fun P => 26) (fun P => [P, P + 1]) rfl) 11); have h8 : μ42.1 26 11 = μ42.1 26 11 := rfl; omega)).ext ((hp_50 ()) h0).1
  refine lv_aload_n hx hb dX7_onGo_17 rfl (lv_at hl 1 rfl) ?_
  refine lv_bipush (v := iv 29) hx hb dX7_onGo_18 rfl ?_
  refine lv_iconst (v := iv 0) hx hb dX7_onGo_20 rfl ?_
  refine lv_iconst (v := iv 0) hx hb dX7_onGo_21 rfl ?_
  have e_66 : μ42.1 23 2 = P := (hs_52.trans ((F_10.1 23 (ni hprP (fun P => 23) (fun P => [P, P + 1]) rfl) 2).trans hP.symm))
  refine xc_iV G (b := 23) (rest := []) (As := [.int (iv 29), .int (iv 0), .int (iv 0)]) (c_X7_add ω l μ42 29 0 0 P (by unfold ir; omega) (by unfold ir; omega) (by unfold ir; omega) hI_44 (by omega) (by omega)) (wm 3 226 rfl rfl) (wm 3 228 rfl rfl) (wm 0 21 rfl rfl) rfl rfl (by decide) rfl (wm 1 12 rfl rfl) (wm 3 229 rfl rfl) (by decide) hR ⟨nfB hF (by decide), nlB hLo (by decide)⟩ (n := 3) rfl rfl (Nat.le_of_ble_eq_true rfl) hl.1 dX7_onGo_22 (fun r_68 μ67 ρ d0 H locs hr_r_68 hp G => ?_)
  have hr_r_68 : -2147483648 ≤ r_68 ∧ r_68 ≤ 2147483647 := hr_r_68
  obtain ⟨F_69, hI_70, hp_71, hp_72, hs_73, hs_74⟩ := hp
  have hXR_75 : ∀ _ : Unit, μ67.1 26 11 = 0 → (Th (Th (Th (q0 μ P) (qA P 28 0 r_4 r_9)) (qE P tt 0 (2 * (7 - μ.1 23 9)))) (qA P 29 0 0 r_68)) μ67 := fun _ h0 => ⟨_, (hXR_63 ()) (by have h9 : μ42.1 26 11 = μ42.1 26 11 := rfl; have h8 : μ67.1 26 11 = μ42.1 26 11 := (F_69.1 26 (ni hprP (fun P => 26) (fun P => [P, P + 1]) rfl) 11); omega), hp_72, hp_71⟩
  have hXH_76 : ∀ _ : Unit, μ67.1 26 11 = 0 → HC μ67 P tt 0 := fun _ h0 => (((hXH_64 ()) (by have h9 : μ42.1 26 11 = μ42.1 26 11 := rfl; have h8 : μ67.1 26 11 = μ42.1 26 11 := (F_69.1 26 (ni hprP (fun P => 26) (fun P => [P, P + 1]) rfl) 11); omega)).ad hp_72 (Or.inl rfl)).c rfl
  have hXw_77 : ∀ _ : Unit, μ67.1 26 11 = 0 → Wp μ67 P r_9 28 := fun _ h0 => ((hXw_65 ()) (by have h9 : μ42.1 26 11 = μ42.1 26 11 := rfl; have h8 : μ67.1 26 11 = μ42.1 26 11 := (F_69.1 26 (ni hprP (fun P => 26) (fun P => [P, P + 1]) rfl) 11); omega)).ext hp_72.1
  have hXw_78 : ∀ _ : Unit, μ67.1 26 11 = 0 → Wp μ67 P r_68 29 := fun _ h0 => Wp.of hp_72 ((hXH_64 ()) (by have h9 : μ42.1 26 11 = μ42.1 26 11 := rfl; have h8 : μ67.1 26 11 = μ42.1 26 11 := (F_69.1 26 (ni hprP (fun P => 26) (fun P => [P, P + 1]) rfl) 11); omega)).1 hp_71
  refine lv_istore_n (lv' := [(2, .int (iv r_68)), (1, .int (iv r_9)), (0, .ref (oP ω 23))]) hx hb dX7_onGo_25 rfl hl (by decide) rfl (fun ls hl => ?_)
  refine lv_aload_n hx hb dX7_onGo_26 rfl (lv_at hl 2 rfl) ?_
  refine xa_getr G fd_X7 (a := 23) (x := P) 2 rfl (by decide) rfl (wm 2 19 rfl rfl) ⟨rfl, rfl, rfl⟩ dX7_onGo_27 rfl ((F_69.1 23 (ni hprP (fun P => 23) (fun P => [P, P + 1]) rfl) 2).trans (hs_52.trans ((F_10.1 23 (ni hprP (fun P => 23) (fun P => [P, P + 1]) rfl) 2).trans hP.symm))) (by omega) (hprP.hq ω ρ) ?_
  refine lv_iload_n hx hb dX7_onGo_30 rfl (lv_at hl 1 rfl) ?_
  refine lv_aload_n hx hb dX7_onGo_31 rfl (lv_at hl 2 rfl) ?_
  have e_79 : μ67.1 23 2 = P := ((F_69.1 23 (ni hprP (fun P => 23) (fun P => [P, P + 1]) rfl) 2).trans (hs_52.trans ((F_10.1 23 (ni hprP (fun P => 23) (fun P => [P, P + 1]) rfl) 2).trans hP.symm)))
  have e_80 : μ67.1 P 1 = μ42.1 P 1 + 1 := hs_73
  refine xc_iV G (b := 23) (rest := [.int (iv r_9), .ref (oP ω P)]) (As := []) (c_X7_here ω l μ67 P hI_70 (by omega)) (wm 4 31 rfl rfl) (wm 4 33 rfl rfl) (wm 0 31 rfl rfl) rfl rfl (by decide) rfl (wm 1 12 rfl rfl) (wm 4 34 rfl rfl) (by decide) hR ⟨nfB hF (by decide), nlB hLo (by decide)⟩ (n := 0) rfl rfl (Nat.le_of_ble_eq_true rfl) hl.1 dX7_onGo_32 (fun r_82 μ81 ρ d0 H locs hr_r_82 hp G => ?_)
  have hr_r_82 : -2147483648 ≤ r_82 ∧ r_82 ≤ 2147483647 := hr_r_82
  obtain ⟨hsm_83, hp_84⟩ := hp
  have hsm_83 := Eq.symm hsm_83
  subst hsm_83
  have e_85 : μ67.1 P 1 = μ42.1 P 1 + 1 := hs_73
  refine xc_vV G (b := P) (rest := []) (As := [.int (iv r_9), .int (iv r_82)]) (c_X8_setFirst ω l μ67 P r_9 r_82 (μ42.1 P 1 + 1) hprP (by unfold ir; omega) (by unfold ir; omega) hI_70 (by omega)) (wm 4 51 rfl rfl) (wm 4 52 rfl rfl) (wm 4 53 rfl rfl) hprP.ly rfl (by decide) (hprP.hq ω ρ) (wm 1 9 rfl rfl) (wm 4 54 rfl rfl) (by decide) hR ⟨nfB hF (by decide), nlB hLo (by decide)⟩ (n := 2) rfl rfl (Nat.le_of_ble_eq_true rfl) hl.1 dX7_onGo_35 (fun μ86 ρ d0 H locs hp G => ?_)
  obtain ⟨F_87, hI_88, hp_89, hp_90, ha_91⟩ := hp
  have hm_92 : ∀ _ : Unit, μ86.1 26 11 = 0 → MF μ67 μ86 P r_9 r_82 := by
    intro _ h0
    have hw_ := ((hXw_77 ()) (by have h9 : μ67.1 26 11 = μ42.1 26 11 := (F_69.1 26 (ni hprP (fun P => 26) (fun P => [P, P + 1]) rfl) 11); have h8 : μ86.1 26 11 = μ42.1 26 11 := ((F_87.1 26 (ni hprP (fun P => 26) (fun P => [P + 1]) rfl) 11).trans (F_69.1 26 (ni hprP (fun P => 26) (fun P => [P, P + 1]) rfl) 11)); omega)).1
    have h8 : μ67.1 P 1 = μ42.1 P 1 + 1 := hs_73
    have h9 : μ86.1 P 1 = μ42.1 P 1 + 1 := ((F_87.1 P (ni hprP (fun P => P) (fun P => [P + 1]) rfl) 1).trans hs_73)
    rcases hp_90 with ⟨q1, q2, q3⟩ | ⟨q1, q2⟩
    · exact MF.of (μ := μ67) (ν := μ86) (P := P) (by rw [h9, h8]) hw_ q3 ha_91
    · exfalso; exact q1 (by rw [← h8]; exact hw_)
  have hXR_93 : ∀ _ : Unit, μ86.1 26 11 = 0 → (Th (Th (Th (Th (q0 μ P) (qA P 28 0 r_4 r_9)) (qE P tt 0 (2 * (7 - μ.1 23 9)))) (qA P 29 0 0 r_68)) (qF P r_9 r_82)) μ86 := fun _ h0 => ⟨_, (hXR_75 ()) (by have h9 : μ67.1 26 11 = μ42.1 26 11 := (F_69.1 26 (ni hprP (fun P => 26) (fun P => [P, P + 1]) rfl) 11); have h8 : μ86.1 26 11 = μ42.1 26 11 := ((F_87.1 26 (ni hprP (fun P => 26) (fun P => [P + 1]) rfl) 11).trans (F_69.1 26 (ni hprP (fun P => 26) (fun P => [P, P + 1]) rfl) 11)); omega), (hm_92 ()) h0, by omega⟩
  have hXH_94 : ∀ _ : Unit, μ86.1 26 11 = 0 → HC μ86 P tt 0 := fun _ h0 => ((hXH_76 ()) (by have h9 : μ67.1 26 11 = μ42.1 26 11 := (F_69.1 26 (ni hprP (fun P => 26) (fun P => [P, P + 1]) rfl) 11); have h8 : μ86.1 26 11 = μ42.1 26 11 := ((F_87.1 26 (ni hprP (fun P => 26) (fun P => [P + 1]) rfl) 11).trans (F_69.1 26 (ni hprP (fun P => 26) (fun P => [P, P + 1]) rfl) 11)); omega)).mf ((hm_92 ()) h0) ((hXw_77 ()) (by have h9 : μ67.1 26 11 = μ42.1 26 11 := (F_69.1 26 (ni hprP (fun P => 26) (fun P => [P, P + 1]) rfl) 11); have h8 : μ86.1 26 11 = μ42.1 26 11 := ((F_87.1 26 (ni hprP (fun P => 26) (fun P => [P + 1]) rfl) 11).trans (F_69.1 26 (ni hprP (fun P => 26) (fun P => [P, P + 1]) rfl) 11)); omega)) (by decide)
  have hXw_95 : ∀ _ : Unit, μ86.1 26 11 = 0 → Wp μ86 P r_9 28 := fun _ h0 => ((hXw_77 ()) (by have h9 : μ67.1 26 11 = μ42.1 26 11 := (F_69.1 26 (ni hprP (fun P => 26) (fun P => [P, P + 1]) rfl) 11); have h8 : μ86.1 26 11 = μ42.1 26 11 := ((F_87.1 26 (ni hprP (fun P => 26) (fun P => [P + 1]) rfl) 11).trans (F_69.1 26 (ni hprP (fun P => 26) (fun P => [P, P + 1]) rfl) 11)); omega)).mf ((hm_92 ()) h0)
  have hXw_96 : ∀ _ : Unit, μ86.1 26 11 = 0 → Wp μ86 P r_68 29 := fun _ h0 => ((hXw_78 ()) (by have h9 : μ67.1 26 11 = μ42.1 26 11 := (F_69.1 26 (ni hprP (fun P => 26) (fun P => [P, P + 1]) rfl) 11); have h8 : μ86.1 26 11 = μ42.1 26 11 := ((F_87.1 26 (ni hprP (fun P => 26) (fun P => [P + 1]) rfl) 11).trans (F_69.1 26 (ni hprP (fun P => 26) (fun P => [P, P + 1]) rfl) 11)); omega)).mf ((hm_92 ()) h0)
  refine lv_aload_n hx hb dX7_onGo_38 rfl (lv_at hl 2 rfl) ?_
  refine lv_sipush (v := iv 215) hx hb dX7_onGo_39 rfl ?_
  have htk_97 : TK μ86 := hp_45.fr (K := [P + 1, P]) (Fr.tr (Fr.tr Fr.rf F_69 (si hprP (fun P => [P, P + 1]) (fun P => [P + 1, P]) rfl)) F_87 (si hprP (fun P => [P + 1]) (fun P => [P + 1, P]) rfl)) (ni hprP (fun P => 26) (fun P => [P + 1, P]) rfl) (ni hprP (fun P => 28) (fun P => [P + 1, P]) rfl) (ni hprP (fun P => 29) (fun P => [P + 1, P]) rfl)
  have e_98 : μ86.1 26 10 = μ42.1 26 10 := ((F_87.1 26 (ni hprP (fun P => 26) (fun P => [P + 1]) rfl) 10).trans (F_69.1 26 (ni hprP (fun P => 26) (fun P => [P, P + 1]) rfl) 10))
  have e_99 : μ86.1 26 11 = μ42.1 26 11 := ((F_87.1 26 (ni hprP (fun P => 26) (fun P => [P + 1]) rfl) 11).trans (F_69.1 26 (ni hprP (fun P => 26) (fun P => [P, P + 1]) rfl) 11))
  refine xc_vV G (b := 23) (rest := []) (As := [.int (iv 215)]) (c_X7_need_b ω l μ86 215 (by unfold ir; omega) hI_88 htk_97 (by omega)) (wm 3 169 rfl rfl) (wm 3 171 rfl rfl) (wm 0 11 rfl rfl) rfl rfl (by decide) rfl (wm 1 12 rfl rfl) (wm 3 172 rfl rfl) (by decide) hR ⟨nfB hF (by decide), nlB hLo (by decide)⟩ (n := 1) rfl rfl (Nat.le_of_ble_eq_true rfl) hl.1 dX7_onGo_42 (fun μ100 ρ d0 H locs hp G => ?_)
  obtain ⟨F_101, hI_102, hp_103, hp_104, hp_105, hs_106, hs_107, hs_108, hs_109⟩ := hp
  have hn_110 : -1 ≤ μ100.1 26 10 ∧ μ100.1 26 10 ≤ 3000 := hI_102.nm.2.2.2.2.2.2.2.2.2.2.2.2
  have htb_111 := hp_103.b
  refine lv_aload_n hx hb dX7_onGo_45 rfl (lv_at hl 2 rfl) ?_
  have htR_112 : ∀ _ : Unit, μ100.1 26 11 = 0 → (Th (Th (Th (Th (q0 μ P) (qA P 28 0 r_4 r_9)) (qE P tt 0 (2 * (7 - μ.1 23 9)))) (qA P 29 0 0 r_68)) (qF P r_9 r_82)) μ100 := fun _ h0 => ThF (K := [26]) (hXR_93 () (by have h9 : μ86.1 26 11 = μ42.1 26 11 := ((F_87.1 26 (ni hprP (fun P => 26) (fun P => [P + 1]) rfl) 11).trans (F_69.1 26 (ni hprP (fun P => 26) (fun P => [P, P + 1]) rfl) 11)); have h8 : μ100.1 26 11 = μ100.1 26 11 := rfl; omega)) (Fr.tr Fr.rf F_101 (by decide)) (npL_p (L := [26]) (by decide) hprP).1 (npL_p (L := [26]) (by decide) hprP).2.1
  have htH_113 : ∀ _ : Unit, μ100.1 26 11 = 0 → HC μ100 P tt 0 := fun _ h0 => HC.fr (K := [26]) (hXH_94 () (by have h9 : μ86.1 26 11 = μ42.1 26 11 := ((F_87.1 26 (ni hprP (fun P => 26) (fun P => [P + 1]) rfl) 11).trans (F_69.1 26 (ni hprP (fun P => 26) (fun P => [P, P + 1]) rfl) 11)); have h8 : μ100.1 26 11 = μ100.1 26 11 := rfl; omega)) (Fr.tr Fr.rf F_101 (by decide)) (npL_p (L := [26]) (by decide) hprP).1 (npL_p (L := [26]) (by decide) hprP).2.1
  have htw_114 : ∀ _ : Unit, μ100.1 26 11 = 0 → Wp μ100 P r_9 28 := fun _ h0 => Wp.fr (K := [26]) (hXw_95 () (by have h9 : μ86.1 26 11 = μ42.1 26 11 := ((F_87.1 26 (ni hprP (fun P => 26) (fun P => [P + 1]) rfl) 11).trans (F_69.1 26 (ni hprP (fun P => 26) (fun P => [P, P + 1]) rfl) 11)); have h8 : μ100.1 26 11 = μ100.1 26 11 := rfl; omega)) (Fr.tr Fr.rf F_101 (by decide)) (npL_p (L := [26]) (by decide) hprP).1 (npL_p (L := [26]) (by decide) hprP).2.1
  have htw_115 : ∀ _ : Unit, μ100.1 26 11 = 0 → Wp μ100 P r_68 29 := fun _ h0 => Wp.fr (K := [26]) (hXw_96 () (by have h9 : μ86.1 26 11 = μ42.1 26 11 := ((F_87.1 26 (ni hprP (fun P => 26) (fun P => [P + 1]) rfl) 11).trans (F_69.1 26 (ni hprP (fun P => 26) (fun P => [P, P + 1]) rfl) 11)); have h8 : μ100.1 26 11 = μ100.1 26 11 := rfl; omega)) (Fr.tr Fr.rf F_101 (by decide)) (npL_p (L := [26]) (by decide) hprP).1 (npL_p (L := [26]) (by decide) hprP).2.1
  have e_116 : μ100.1 23 2 = P := ((F_101.1 23 (by decide) 2).trans ((F_87.1 23 (ni hprP (fun P => 23) (fun P => [P + 1]) rfl) 2).trans ((F_69.1 23 (ni hprP (fun P => 23) (fun P => [P, P + 1]) rfl) 2).trans (hs_52.trans ((F_10.1 23 (ni hprP (fun P => 23) (fun P => [P, P + 1]) rfl) 2).trans hP.symm)))))
  have e_117 : μ100.1 23 8 = tt := ((F_101.1 23 (by decide) 8).trans ((F_87.1 23 (ni hprP (fun P => 23) (fun P => [P + 1]) rfl) 8).trans ((F_69.1 23 (ni hprP (fun P => 23) (fun P => [P, P + 1]) rfl) 8).trans (hs_54.trans ((F_10.1 23 (ni hprP (fun P => 23) (fun P => [P, P + 1]) rfl) 8).trans htt.symm)))))
  have e_118 : μ100.1 P 1 = μ42.1 P 1 + 1 := ((F_101.1 P (ni hprP (fun P => P) (fun P => [26]) rfl) 1).trans ((F_87.1 P (ni hprP (fun P => P) (fun P => [P + 1]) rfl) 1).trans hs_73))
  have e_119 : μ100.1 (P + 2) 3 = μ42.1 (P + 2) 3 := ((F_101.1 (P + 2) (ni hprP (fun P => P + 2) (fun P => [26]) rfl) 3).trans ((F_87.1 (P + 2) (ni hprP (fun P => P + 2) (fun P => [P + 1]) rfl) 3).trans (F_69.1 (P + 2) (ni hprP (fun P => P + 2) (fun P => [P, P + 1]) rfl) 3)))
  have e_120 : μ100.1 P 1 = μ42.1 P 1 + 1 := ((F_101.1 P (ni hprP (fun P => P) (fun P => [26]) rfl) 1).trans ((F_87.1 P (ni hprP (fun P => P) (fun P => [P + 1]) rfl) 1).trans hs_73))
  have e_121 : μ100.1 23 9 = μ.1 23 9 := ((F_101.1 23 (by decide) 9).trans ((F_87.1 23 (ni hprP (fun P => 23) (fun P => [P + 1]) rfl) 9).trans ((F_69.1 23 (ni hprP (fun P => 23) (fun P => [P, P + 1]) rfl) 9).trans (hs_55.trans (F_10.1 23 (ni hprP (fun P => 23) (fun P => [P, P + 1]) rfl) 9)))))
  have e_122 : μ100.1 23 9 = μ.1 23 9 := ((F_101.1 23 (by decide) 9).trans ((F_87.1 23 (ni hprP (fun P => 23) (fun P => [P + 1]) rfl) 9).trans ((F_69.1 23 (ni hprP (fun P => 23) (fun P => [P, P + 1]) rfl) 9).trans (hs_55.trans (F_10.1 23 (ni hprP (fun P => 23) (fun P => [P, P + 1]) rfl) 9)))))
  have e_123 : μ100.1 23 9 = μ.1 23 9 := ((F_101.1 23 (by decide) 9).trans ((F_87.1 23 (ni hprP (fun P => 23) (fun P => [P + 1]) rfl) 9).trans ((F_69.1 23 (ni hprP (fun P => 23) (fun P => [P, P + 1]) rfl) 9).trans (hs_55.trans (F_10.1 23 (ni hprP (fun P => 23) (fun P => [P, P + 1]) rfl) 9)))))
  have e_124 : μ100.1 P 1 = μ42.1 P 1 + 1 := ((F_101.1 P (ni hprP (fun P => P) (fun P => [26]) rfl) 1).trans ((F_87.1 P (ni hprP (fun P => P) (fun P => [P + 1]) rfl) 1).trans hs_73))
  have e_125 : μ100.1 P 1 = μ42.1 P 1 + 1 := ((F_101.1 P (ni hprP (fun P => P) (fun P => [26]) rfl) 1).trans ((F_87.1 P (ni hprP (fun P => P) (fun P => [P + 1]) rfl) 1).trans hs_73))
  have e_126 : μ100.1 (P + 2) 3 = μ42.1 (P + 2) 3 := ((F_101.1 (P + 2) (ni hprP (fun P => P + 2) (fun P => [26]) rfl) 3).trans ((F_87.1 (P + 2) (ni hprP (fun P => P + 2) (fun P => [P + 1]) rfl) 3).trans (F_69.1 (P + 2) (ni hprP (fun P => P + 2) (fun P => [P, P + 1]) rfl) 3)))
  have e_127 : μ100.1 P 1 = μ42.1 P 1 + 1 := ((F_101.1 P (ni hprP (fun P => P) (fun P => [26]) rfl) 1).trans ((F_87.1 P (ni hprP (fun P => P) (fun P => [P + 1]) rfl) 1).trans hs_73))
  have e_128 : μ100.1 (P + 2) 3 = μ42.1 (P + 2) 3 := ((F_101.1 (P + 2) (ni hprP (fun P => P + 2) (fun P => [26]) rfl) 3).trans ((F_87.1 (P + 2) (ni hprP (fun P => P + 2) (fun P => [P + 1]) rfl) 3).trans (F_69.1 (P + 2) (ni hprP (fun P => P + 2) (fun P => [P, P + 1]) rfl) 3)))
  have e_129 : μ100.1 23 9 = μ.1 23 9 := ((F_101.1 23 (by decide) 9).trans ((F_87.1 23 (ni hprP (fun P => 23) (fun P => [P + 1]) rfl) 9).trans ((F_69.1 23 (ni hprP (fun P => 23) (fun P => [P, P + 1]) rfl) 9).trans (hs_55.trans (F_10.1 23 (ni hprP (fun P => 23) (fun P => [P, P + 1]) rfl) 9)))))
  refine xc_vV G (b := 23) (rest := []) (As := []) (((fun (_ : Om) (_ : Launch) => hK)) ω l μ100 P tt hI_102 (by omega) (by omega) hp_103 (by omega) (by omega) (by omega) (by omega) (by omega) (fun _ => (htH_113 ()))) (wm 3 218 rfl rfl) (wm 3 220 rfl rfl) (wm 0 19 rfl rfl) rfl rfl (by decide) rfl (wm 1 12 rfl rfl) (wm 3 221 rfl rfl) (by decide) hR ⟨sfr (F := F) (a := 0) (by decide), slo (L := Lo) (m := 2) (a := 0) (by decide)⟩ (n := 0) rfl rfl (Nat.le_of_ble_eq_true rfl) hl.1 dX7_onGo_46 (fun μ130 ρ d0 H locs hp G => ?_)
  obtain ⟨F_131, hI_132, hp_133, hp_134, hp_135, hp_136, hp_137, hp_138, hp_139, hs_140, hs_141, hs_142, hs_143, hs_144, hs_145⟩ := hp
  have hn_146 : -1 ≤ μ130.1 26 10 ∧ μ130.1 26 10 ≤ 3000 := hI_132.nm.2.2.2.2.2.2.2.2.2.2.2.2
  have hk_147 := hI_132.pr (p := P) hprP
  unfold pk at hk_147
  have hc_148 : 16 ≤ μ130.2.1 (P + 1) ∧ μ130.2.1 (P + 1) ≤ 73024 := hI_132.rm.1 _ hprP.cap
  have hk_149 := hI_132.row (r := P + 2) (hprP.row)
  unfold rk at hk_149
  have htb_150 := hp_133.b
  replace hp_138 := fun _ : Unit => hp_138
  have hXR_151 : ∀ _ : Unit, μ130.1 26 11 = 0 → (Th (Th (Th (Th (Th (q0 μ P) (qA P 28 0 r_4 r_9)) (qE P tt 0 (2 * (7 - μ.1 23 9)))) (qA P 29 0 0 r_68)) (qF P r_9 r_82)) (qE P tt 0 (2 * (7 - μ.1 23 9)))) μ130 := fun _ h0 => ⟨_, (htR_112 ()) (by have h9 : μ100.1 26 11 = μ100.1 26 11 := rfl; have h8 : μ130.1 26 11 = μ130.1 26 11 := rfl; omega), (((hp_138 ()) h0).mn (by have h9 : μ100.1 23 9 = μ.1 23 9 := ((F_101.1 23 (by decide) 9).trans ((F_87.1 23 (ni hprP (fun P => 23) (fun P => [P + 1]) rfl) 9).trans ((F_69.1 23 (ni hprP (fun P => 23) (fun P => [P, P + 1]) rfl) 9).trans (hs_55.trans (F_10.1 23 (ni hprP (fun P => 23) (fun P => [P, P + 1]) rfl) 9))))); omega))⟩
  have hXH_152 : ∀ _ : Unit, μ130.1 26 11 = 0 → HC μ130 P tt 0 := fun _ h0 => HC.ex ((htH_113 ()) (by have h9 : μ100.1 26 11 = μ100.1 26 11 := rfl; have h8 : μ130.1 26 11 = μ130.1 26 11 := rfl; omega)) ((hp_138 ()) h0)
  have hXw_153 : ∀ _ : Unit, μ130.1 26 11 = 0 → Wp μ130 P r_9 28 := fun _ h0 => ((htw_114 ()) (by have h9 : μ100.1 26 11 = μ100.1 26 11 := rfl; have h8 : μ130.1 26 11 = μ130.1 26 11 := rfl; omega)).ext ((hp_138 ()) h0).1
  have hXw_154 : ∀ _ : Unit, μ130.1 26 11 = 0 → Wp μ130 P r_68 29 := fun _ h0 => ((htw_115 ()) (by have h9 : μ100.1 26 11 = μ100.1 26 11 := rfl; have h8 : μ130.1 26 11 = μ130.1 26 11 := rfl; omega)).ext ((hp_138 ()) h0).1
  refine lv_aload_n hx hb dX7_onGo_49 rfl (lv_at hl 2 rfl) ?_
  refine xa_getr G fd_X7 (a := 23) (x := P) 2 rfl (by decide) rfl (wm 2 19 rfl rfl) ⟨rfl, rfl, rfl⟩ dX7_onGo_50 rfl (hs_140.trans ((F_101.1 23 (by decide) 2).trans ((F_87.1 23 (ni hprP (fun P => 23) (fun P => [P + 1]) rfl) 2).trans ((F_69.1 23 (ni hprP (fun P => 23) (fun P => [P, P + 1]) rfl) 2).trans (hs_52.trans ((F_10.1 23 (ni hprP (fun P => 23) (fun P => [P, P + 1]) rfl) 2).trans hP.symm)))))) (by omega) (hprP.hq ω ρ) ?_
  refine lv_iload_n hx hb dX7_onGo_53 rfl (lv_at hl 0 rfl) ?_
  refine lv_aload_n hx hb dX7_onGo_54 rfl (lv_at hl 2 rfl) ?_
  have e_155 : μ130.1 23 2 = P := (hs_140.trans ((F_101.1 23 (by decide) 2).trans ((F_87.1 23 (ni hprP (fun P => 23) (fun P => [P + 1]) rfl) 2).trans ((F_69.1 23 (ni hprP (fun P => 23) (fun P => [P, P + 1]) rfl) 2).trans (hs_52.trans ((F_10.1 23 (ni hprP (fun P => 23) (fun P => [P, P + 1]) rfl) 2).trans hP.symm))))))
  refine xc_iV G (b := 23) (rest := [.int (iv r_68), .ref (oP ω P)]) (As := []) (c_X7_here ω l μ130 P hI_132 (by omega)) (wm 4 31 rfl rfl) (wm 4 33 rfl rfl) (wm 0 31 rfl rfl) rfl rfl (by decide) rfl (wm 1 12 rfl rfl) (wm 4 34 rfl rfl) (by decide) hR ⟨nfB hF (by decide), nlB hLo (by decide)⟩ (n := 0) rfl rfl (Nat.le_of_ble_eq_true rfl) hl.1 dX7_onGo_55 (fun r_157 μ156 ρ d0 H locs hr_r_157 hp G => ?_)
  have hr_r_157 : -2147483648 ≤ r_157 ∧ r_157 ≤ 2147483647 := hr_r_157
  obtain ⟨hsm_158, hp_159⟩ := hp
  have hsm_158 := Eq.symm hsm_158
  subst hsm_158
  refine xc_vV G (b := P) (rest := []) (As := [.int (iv r_68), .int (iv r_157)]) (c_X8_setFirst ω l μ130 P r_68 r_157 (μ130.1 P 1) hprP (by unfold ir; omega) (by unfold ir; omega) hI_132 (by omega)) (wm 4 51 rfl rfl) (wm 4 52 rfl rfl) (wm 4 53 rfl rfl) hprP.ly rfl (by decide) (hprP.hq ω ρ) (wm 1 9 rfl rfl) (wm 4 54 rfl rfl) (by decide) hR ⟨nfB hF (by decide), nlB hLo (by decide)⟩ (n := 2) rfl rfl (Nat.le_of_ble_eq_true rfl) hl.1 dX7_onGo_58 (fun μ160 ρ d0 H locs hp G => ?_)
  obtain ⟨F_161, hI_162, hp_163, hp_164, ha_165⟩ := hp
  have hm_166 : ∀ _ : Unit, μ160.1 26 11 = 0 → MF μ130 μ160 P r_68 r_157 := by
    intro _ h0
    have hw_ := ((hXw_154 ()) (by have h9 : μ130.1 26 11 = μ130.1 26 11 := rfl; have h8 : μ160.1 26 11 = μ130.1 26 11 := (F_161.1 26 (ni hprP (fun P => 26) (fun P => [P + 1]) rfl) 11); omega)).1
    have h8 : μ130.1 P 1 = μ130.1 P 1 := rfl
    have h9 : μ160.1 P 1 = μ130.1 P 1 := (F_161.1 P (ni hprP (fun P => P) (fun P => [P + 1]) rfl) 1)
    rcases hp_164 with ⟨q1, q2, q3⟩ | ⟨q1, q2⟩
    · exact MF.of (μ := μ130) (ν := μ160) (P := P) (by rw [h9, h8]) hw_ q3 ha_165
    · exfalso; exact q1 (by rw [← h8]; exact hw_)
  have hXR_167 : ∀ _ : Unit, μ160.1 26 11 = 0 → (Th (Th (Th (Th (Th (Th (q0 μ P) (qA P 28 0 r_4 r_9)) (qE P tt 0 (2 * (7 - μ.1 23 9)))) (qA P 29 0 0 r_68)) (qF P r_9 r_82)) (qE P tt 0 (2 * (7 - μ.1 23 9)))) (qF P r_68 r_157)) μ160 := fun _ h0 => ⟨_, (hXR_151 ()) (by have h9 : μ130.1 26 11 = μ130.1 26 11 := rfl; have h8 : μ160.1 26 11 = μ130.1 26 11 := (F_161.1 26 (ni hprP (fun P => 26) (fun P => [P + 1]) rfl) 11); omega), (hm_166 ()) h0, by omega⟩
  have hXH_168 : ∀ _ : Unit, μ160.1 26 11 = 0 → HC μ160 P tt 0 := fun _ h0 => ((hXH_152 ()) (by have h9 : μ130.1 26 11 = μ130.1 26 11 := rfl; have h8 : μ160.1 26 11 = μ130.1 26 11 := (F_161.1 26 (ni hprP (fun P => 26) (fun P => [P + 1]) rfl) 11); omega)).mf ((hm_166 ()) h0) ((hXw_154 ()) (by have h9 : μ130.1 26 11 = μ130.1 26 11 := rfl; have h8 : μ160.1 26 11 = μ130.1 26 11 := (F_161.1 26 (ni hprP (fun P => 26) (fun P => [P + 1]) rfl) 11); omega)) (by decide)
  have hXw_169 : ∀ _ : Unit, μ160.1 26 11 = 0 → Wp μ160 P r_9 28 := fun _ h0 => ((hXw_153 ()) (by have h9 : μ130.1 26 11 = μ130.1 26 11 := rfl; have h8 : μ160.1 26 11 = μ130.1 26 11 := (F_161.1 26 (ni hprP (fun P => 26) (fun P => [P + 1]) rfl) 11); omega)).mf ((hm_166 ()) h0)
  have hXw_170 : ∀ _ : Unit, μ160.1 26 11 = 0 → Wp μ160 P r_68 29 := fun _ h0 => ((hXw_154 ()) (by have h9 : μ130.1 26 11 = μ130.1 26 11 := rfl; have h8 : μ160.1 26 11 = μ130.1 26 11 := (F_161.1 26 (ni hprP (fun P => 26) (fun P => [P + 1]) rfl) 11); omega)).mf ((hm_166 ()) h0)
  clear hk_1 hc_2 hk_26 hk_59 hc_60 hk_61 hk_147 hc_148 hk_149
  have e_171 : μ160.1 26 11 = μ130.1 26 11 := (F_161.1 26 (ni hprP (fun P => 26) (fun P => [P + 1]) rfl) 11)
  have htk_172 : TK μ160 := hp_133.fr (K := [P + 1]) (Fr.tr Fr.rf F_161 (si hprP (fun P => [P + 1]) (fun P => [P + 1]) rfl)) (ni hprP (fun P => 26) (fun P => [P + 1]) rfl) (ni hprP (fun P => 28) (fun P => [P + 1]) rfl) (ni hprP (fun P => 29) (fun P => [P + 1]) rfl)
  have e_173 : μ160.1 26 11 = μ130.1 26 11 := (F_161.1 26 (ni hprP (fun P => 26) (fun P => [P + 1]) rfl) 11)
  have e_174 : μ160.1 26 10 = μ130.1 26 10 := (F_161.1 26 (ni hprP (fun P => 26) (fun P => [P + 1]) rfl) 10)
  have e_175 : μ160.1 P 1 = μ130.1 P 1 := (F_161.1 P (ni hprP (fun P => P) (fun P => [P + 1]) rfl) 1)
  have e_176 : μ160.1 P 1 = μ130.1 P 1 := (F_161.1 P (ni hprP (fun P => P) (fun P => [P + 1]) rfl) 1)
  have e_177 : μ160.1 26 10 = μ130.1 26 10 := (F_161.1 26 (ni hprP (fun P => 26) (fun P => [P + 1]) rfl) 10)
  have e_178 : μ160.1 26 11 = μ130.1 26 11 := (F_161.1 26 (ni hprP (fun P => 26) (fun P => [P + 1]) rfl) 11)
  have e_179 : μ160.1 (P + 2) 3 = μ130.1 (P + 2) 3 := (F_161.1 (P + 2) (ni hprP (fun P => P + 2) (fun P => [P + 1]) rfl) 3)
  have e_180 : μ160.1 P 1 = μ130.1 P 1 := (F_161.1 P (ni hprP (fun P => P) (fun P => [P + 1]) rfl) 1)
  have e_181 : μ160.1 (P + 2) 3 = μ130.1 (P + 2) 3 := (F_161.1 (P + 2) (ni hprP (fun P => P + 2) (fun P => [P + 1]) rfl) 3)
  exact xr_v G hret hlk dX7_onGo_61 ⟨(Fr.tr (Fr.tr (Fr.tr (Fr.tr (Fr.tr (Fr.tr (Fr.tr Fr.rf F_10 (si hprP (fun P => [P, P + 1]) (fun P => [2, 3, 4, 23, 24, 25, 26, P, P + 1, P + 2, (P + 2) + 1, (P + 2) + 2, (P + 2) + 3]) rfl)) F_43 (si hprP (fun P => [2, 3, 4, 23, 24, 25, 26, P, P + 1, P + 2, (P + 2) + 1, (P + 2) + 2, (P + 2) + 3]) (fun P => [2, 3, 4, 23, 24, 25, 26, P, P + 1, P + 2, (P + 2) + 1, (P + 2) + 2, (P + 2) + 3]) rfl)) F_69 (si hprP (fun P => [P, P + 1]) (fun P => [2, 3, 4, 23, 24, 25, 26, P, P + 1, P + 2, (P + 2) + 1, (P + 2) + 2, (P + 2) + 3]) rfl)) F_87 (si hprP (fun P => [P + 1]) (fun P => [2, 3, 4, 23, 24, 25, 26, P, P + 1, P + 2, (P + 2) + 1, (P + 2) + 2, (P + 2) + 3]) rfl)) F_101 (si hprP (fun P => [26]) (fun P => [2, 3, 4, 23, 24, 25, 26, P, P + 1, P + 2, (P + 2) + 1, (P + 2) + 2, (P + 2) + 3]) rfl)) F_131 (si hprP (fun P => [2, 3, 4, 23, 24, 25, 26, P, P + 1, P + 2, (P + 2) + 1, (P + 2) + 2, (P + 2) + 3]) (fun P => [2, 3, 4, 23, 24, 25, 26, P, P + 1, P + 2, (P + 2) + 1, (P + 2) + 2, (P + 2) + 3]) rfl)) F_161 (si hprP (fun P => [P + 1]) (fun P => [2, 3, 4, 23, 24, 25, 26, P, P + 1, P + 2, (P + 2) + 1, (P + 2) + 2, (P + 2) + 3]) rfl)), hI_162, htk_172, (by omega), (by omega), (by omega), (by omega), (fun h0 => as_on (hst ()) ((hXR_167 ()) h0) ⟨by rw [td64x (a := 2) (b := 0) (by omega) (by omega) (by omega)]; decide, by rw [td64x (a := 2) (b := 0) (by omega) (by omega) (by omega)]; decide, fun _ => td64x (a := 2) (b := 0) (by omega) (by omega) (by omega)⟩), (((F_161.1 23 (ni hprP (fun P => 23) (fun P => [P + 1]) rfl) 2).trans (hs_140.trans ((F_101.1 23 (by decide) 2).trans ((F_87.1 23 (ni hprP (fun P => 23) (fun P => [P + 1]) rfl) 2).trans ((F_69.1 23 (ni hprP (fun P => 23) (fun P => [P, P + 1]) rfl) 2).trans (hs_52.trans ((F_10.1 23 (ni hprP (fun P => 23) (fun P => [P, P + 1]) rfl) 2).trans hP.symm)))))))).trans hP, ((F_161.1 23 (ni hprP (fun P => 23) (fun P => [P + 1]) rfl) 7).trans (hs_141.trans ((F_101.1 23 (by decide) 7).trans ((F_87.1 23 (ni hprP (fun P => 23) (fun P => [P + 1]) rfl) 7).trans ((F_69.1 23 (ni hprP (fun P => 23) (fun P => [P, P + 1]) rfl) 7).trans (hs_53.trans (F_10.1 23 (ni hprP (fun P => 23) (fun P => [P, P + 1]) rfl) 7))))))), (((F_161.1 23 (ni hprP (fun P => 23) (fun P => [P + 1]) rfl) 8).trans (hs_142.trans ((F_101.1 23 (by decide) 8).trans ((F_87.1 23 (ni hprP (fun P => 23) (fun P => [P + 1]) rfl) 8).trans ((F_69.1 23 (ni hprP (fun P => 23) (fun P => [P, P + 1]) rfl) 8).trans (hs_54.trans ((F_10.1 23 (ni hprP (fun P => 23) (fun P => [P, P + 1]) rfl) 8).trans htt.symm)))))))).trans htt, ((F_161.1 23 (ni hprP (fun P => 23) (fun P => [P + 1]) rfl) 9).trans (hs_143.trans ((F_101.1 23 (by decide) 9).trans ((F_87.1 23 (ni hprP (fun P => 23) (fun P => [P + 1]) rfl) 9).trans ((F_69.1 23 (ni hprP (fun P => 23) (fun P => [P, P + 1]) rfl) 9).trans (hs_55.trans (F_10.1 23 (ni hprP (fun P => 23) (fun P => [P, P + 1]) rfl) 9))))))), ((F_161.1 26 (ni hprP (fun P => 26) (fun P => [P + 1]) rfl) 6).trans (hs_144.trans (hs_106.trans ((F_87.1 26 (ni hprP (fun P => 26) (fun P => [P + 1]) rfl) 6).trans ((F_69.1 26 (ni hprP (fun P => 26) (fun P => [P, P + 1]) rfl) 6).trans (hs_56.trans (F_10.1 26 (ni hprP (fun P => 26) (fun P => [P, P + 1]) rfl) 6))))))), ((F_161.1 P (ni hprP (fun P => P) (fun P => [P + 1]) rfl) 7).trans (hs_145.trans ((F_101.1 P (ni hprP (fun P => P) (fun P => [26]) rfl) 7).trans ((F_87.1 P (ni hprP (fun P => P) (fun P => [P + 1]) rfl) 7).trans (hs_74.trans (hs_57.trans hs_15))))))⟩

set_option maxHeartbeats 4000000 in
set_option maxRecDepth 100000 in
theorem c_X7_openThen (ω : Om) (l : Launch) (μ : M3) (F : Nat) (Lo : Nat) (kf : Int) (P : Int) (tt : Int) (hI : IC μ) (hP : P = μ.1 23 2) (htt : tt = μ.1 23 8) (hF : 200 ≤ F) (hLo : 6000 ≤ Lo) (hK : ∀ (μ : M3) (P : Int) (tt : Int) (hI : IC μ) (hP : P = μ.1 23 2) (htt : tt = μ.1 23 8) (hTK : TK μ) (hB : 2 * μ.1 P 1 ≤ 5 * μ.1 26 10 + 103 + 80 * μ.1 26 11) (hKc : μ.1 (P + 2) 3 ≤ μ.1 P 1) (ht3 : 0 ≤ tt ∧ tt ≤ 3) (hdp : 0 ≤ μ.1 23 9 ∧ μ.1 23 9 ≤ 8) (hfu : 0 ≤ (kf - 1) ∧ 9 ≤ μ.1 23 9 + (kf - 1)) (hs1 : ∀ _ : Unit, μ.1 26 11 = 0 → HC μ P tt 0), CtV ω l yX7_block cX7_block 2 (F + 0) (Lo + 0) [.ref (oP ω 23)] μ (fun (μ' : M3) => (Fr [2, 3, 4, 23, 24, 25, 26, P, P + 1, P + 2, (P + 2) + 1, (P + 2) + 2, (P + 2) + 3] μ μ') ∧ (IC μ') ∧ (TK μ') ∧ (μ.1 26 11 ≤ μ'.1 26 11) ∧ (μ.1 26 10 ≤ μ'.1 26 10) ∧ (μ.1 P 1 ≤ μ'.1 P 1 ∧ 2 * μ'.1 P 1 ≤ 2 * μ.1 P 1 + 5 * (μ'.1 26 10 - μ.1 26 10) + (- 10 + 15 * μ'.1 26 11 - 5 * μ.1 26 11)) ∧ (μ'.1 (P + 2) 3 - μ.1 (P + 2) 3 ≤ μ'.1 P 1 - μ.1 P 1 ∧ μ.1 (P + 2) 3 ≤ μ'.1 (P + 2) 3) ∧ (μ'.1 26 11 = 0 → EX μ μ' P tt 0 (2 * (7 - μ.1 23 9))) ∧ (μ.1 23 9 ≤ 7 + 100 * μ'.1 26 11) ∧ (μ'.1 23 2 = μ.1 23 2) ∧ (μ'.1 23 7 = μ.1 23 7) ∧ (μ'.1 23 8 = μ.1 23 8) ∧ (μ'.1 23 9 = μ.1 23 9) ∧ (μ'.1 26 6 = μ.1 26 6) ∧ (μ'.1 P 7 = μ.1 P 7))) (hTK : TK μ) (hB : 2 * μ.1 P 1 ≤ 5 * μ.1 26 10 + 95 + 80 * μ.1 26 11) (hKc : μ.1 (P + 2) 3 ≤ μ.1 P 1) (ht3 : 0 ≤ tt ∧ tt ≤ 3) (hdp : 0 ≤ μ.1 23 9 ∧ μ.1 23 9 ≤ 8) (hs0 : μ.1 26 11 = 0) (hfu : 10 ≤ μ.1 23 9 + kf) (hst : ∀ _ : Unit, STP μ P tt) (ht : tt = 3) : CtV ω l yX7_openThen cX7_openThen 5 (F + 1) (Lo + 21) [.ref (oP ω 23)] μ (fun (μ' : M3) => (Fr [2, 3, 4, 23, 24, 25, 26, P, P + 1, P + 2, (P + 2) + 1, (P + 2) + 2, (P + 2) + 3] μ μ') ∧ (IC μ') ∧ (TK μ') ∧ (μ.1 26 11 ≤ μ'.1 26 11) ∧ (μ.1 26 10 ≤ μ'.1 26 10) ∧ (μ.1 P 1 ≤ μ'.1 P 1 ∧ 2 * μ'.1 P 1 ≤ 2 * μ.1 P 1 + 5 * (μ'.1 26 10 - μ.1 26 10) + (- 29 + 35 * μ'.1 26 11)) ∧ (μ'.1 (P + 2) 3 - μ.1 (P + 2) 3 ≤ μ'.1 P 1 - μ.1 P 1 ∧ μ.1 (P + 2) 3 ≤ μ'.1 (P + 2) 3) ∧ (μ'.1 26 11 = 0 → ES μ μ' P tt ((2 * (7 - μ.1 23 9)) + 1)) ∧ (μ'.1 23 2 = μ.1 23 2) ∧ (μ'.1 23 7 = μ.1 23 7) ∧ (μ'.1 23 8 = μ.1 23 8) ∧ (μ'.1 23 9 = μ.1 23 9) ∧ (μ'.1 26 6 = μ.1 26 6) ∧ (μ'.1 P 7 = μ.1 P 7)) := by
  refine CtV.go (by decide) (Nat.le_of_ble_eq_true rfl) (fun ρ p e s m below meth c R ls G hR hret hlk hl => ?_)
  have hx := G.1.1
  have hb := G.1.2.1
  have hl : lv_has ls 5 [(0, .ref (oP ω 23))] := hl
  generalize s.drawn = d0 at G ⊢
  have hTKb := hTK.b
  have hprP : isPr P := by have h9 := G.sr0.2.2.2.2.2; rw [← hP] at h9; exact h9
  have hprP_d : 13 ≤ P ∧ P ≤ 101 := by rcases hprP with h9 | h9 | h9 | h9 | h9 <;> omega
  have hk_1 := hI.pr (p := P) hprP
  unfold pk at hk_1
  have hc_2 : 16 ≤ μ.2.1 (P + 1) ∧ μ.2.1 (P + 1) ≤ 73024 := hI.rm.1 _ hprP.cap
  have hX0_ : ∀ _ : Unit, μ.1 26 11 = 0 → q0 μ P μ := fun _ _ => ⟨EXT.rf, rfl⟩
  have hXH_ : ∀ _ : Unit, μ.1 26 11 = 0 → HC μ P tt 1 := fun _ _ => (HC.of (hst ())).c (by rw [if_neg (by omega)])
  refine lv_aload_n hx hb dX7_openThen_0 rfl (lv_at hl 0 rfl) ?_
  have hn_3 : -1 ≤ μ.1 26 10 ∧ μ.1 26 10 ≤ 3000 := hI.nm.2.2.2.2.2.2.2.2.2.2.2.2
  refine xc_iV G (b := 23) (rest := []) (As := []) (c_X7_nameOfFailing_b ω l μ  hI hTK) (wm 4 112 rfl rfl) (wm 4 114 rfl rfl) (wm 0 44 rfl rfl) rfl rfl (by decide) rfl (wm 1 12 rfl rfl) (wm 4 115 rfl rfl) (by decide) hR ⟨nfB hF (by decide), nlB hLo (by decide)⟩ (n := 0) rfl rfl (Nat.le_of_ble_eq_true rfl) hl.1 dX7_openThen_1 (fun r_5 μ4 ρ d0 H locs hr_r_5 hp G => ?_)
  have hr_r_5 : -2147483648 ≤ r_5 ∧ r_5 ≤ 2147483647 := hr_r_5
  obtain ⟨F_6, hI_7, hp_8, hp_9, hp_10, hp_11, hs_12, hs_13, hs_14, hs_15, hs_16⟩ := hp
  have hn_17 : -1 ≤ μ4.1 26 10 ∧ μ4.1 26 10 ≤ 3000 := hI_7.nm.2.2.2.2.2.2.2.2.2.2.2.2
  have htb_18 := hp_8.b
  refine lv_istore_n (lv' := [(1, .int (iv r_5)), (0, .ref (oP ω 23))]) hx hb dX7_openThen_4 rfl hl (by decide) rfl (fun ls hl => ?_)
  refine lv_aload_n hx hb dX7_openThen_5 rfl (lv_at hl 1 rfl) ?_
  refine xc_iV G (b := 23) (rest := []) (As := []) (c_X7_secondName ω l μ4  hI_7 hp_8) (wm 4 163 rfl rfl) (wm 4 165 rfl rfl) (wm 0 53 rfl rfl) rfl rfl (by decide) rfl (wm 1 12 rfl rfl) (wm 4 166 rfl rfl) (by decide) hR ⟨nfB hF (by decide), nlB hLo (by decide)⟩ (n := 0) rfl rfl (Nat.le_of_ble_eq_true rfl) hl.1 dX7_openThen_6 (fun r_20 μ19 ρ d0 H locs hr_r_20 hp G => ?_)
  have hr_r_20 : -2147483648 ≤ r_20 ∧ r_20 ≤ 2147483647 := hr_r_20
  obtain ⟨F_21, hI_22, hp_23, hp_24, hp_25, hp_26, hs_27, hs_28, hs_29, hs_30, hs_31, hs_32, hs_33, hs_34, hs_35, hs_36⟩ := hp
  have hn_37 : -1 ≤ μ19.1 26 10 ∧ μ19.1 26 10 ≤ 3000 := hI_22.nm.2.2.2.2.2.2.2.2.2.2.2.2
  have htb_38 := hp_23.b
  refine lv_istore_n (lv' := [(2, .int (iv r_20)), (1, .int (iv r_5)), (0, .ref (oP ω 23))]) hx hb dX7_openThen_9 rfl hl (by decide) rfl (fun ls hl => ?_)
  refine lv_aload_n hx hb dX7_openThen_10 rfl (lv_at hl 2 rfl) ?_
  refine lv_bipush (v := iv 28) hx hb dX7_openThen_11 rfl ?_
  refine lv_iconst (v := iv 0) hx hb dX7_openThen_13 rfl ?_
  refine lv_iconst (v := iv 3) hx hb dX7_openThen_14 rfl ?_
  refine lv_iload_n hx hb dX7_openThen_15 rfl (lv_at hl 1 rfl) ?_
  refine xc_iS G (rest := [.int (iv 0), .int (iv 28), .ref (oP ω 23)]) (As := [.int (iv 3), .int (iv r_5)]) (c_X3_detail ω l μ19 3 r_5 (by unfold ir; omega) (by unfold ir; omega) (by omega)) (wm 4 156 rfl rfl) (wm 4 157 rfl rfl) (wm 1 17 rfl rfl) (wm 4 158 rfl rfl) (by decide) hR ⟨nfB hF (by decide), nlB hLo (by decide)⟩ (n := 2) rfl rfl (Nat.le_of_ble_eq_true rfl) hl.1 dX7_openThen_16 (fun r_40 μ39 ρ d0 H locs hr_r_40 hp G => ?_)
  have hr_r_40 : -2147483648 ≤ r_40 ∧ r_40 ≤ 2147483647 := hr_r_40
  obtain ⟨hsm_41, hp_42⟩ := hp
  have hsm_41 := Eq.symm hsm_41
  subst hsm_41
  have htR_43 : ∀ _ : Unit, μ19.1 26 11 = 0 → q0 μ P μ19 := fun _ h0 => q0.fr (K := [26, 25, 23, 2, 3, 4, 24]) (hX0_ () (by have h9 : μ.1 26 11 = μ.1 26 11 := rfl; have h8 : μ19.1 26 11 = μ19.1 26 11 := rfl; omega)) (Fr.tr (Fr.tr Fr.rf F_6 (by decide)) F_21 (by decide)) (npL_p (L := [26, 25, 23, 2, 3, 4, 24]) (by decide) hprP).1 (npL_p (L := [26, 25, 23, 2, 3, 4, 24]) (by decide) hprP).2.1
  have htH_44 : ∀ _ : Unit, μ19.1 26 11 = 0 → HC μ19 P tt 1 := fun _ h0 => HC.fr (K := [26, 25, 23, 2, 3, 4, 24]) (hXH_ () (by have h9 : μ.1 26 11 = μ.1 26 11 := rfl; have h8 : μ19.1 26 11 = μ19.1 26 11 := rfl; omega)) (Fr.tr (Fr.tr Fr.rf F_6 (by decide)) F_21 (by decide)) (npL_p (L := [26, 25, 23, 2, 3, 4, 24]) (by decide) hprP).1 (npL_p (L := [26, 25, 23, 2, 3, 4, 24]) (by decide) hprP).2.1
  have e_45 : μ19.1 23 2 = P := (hs_31.trans ((F_6.1 23 (by decide) 2).trans hP.symm))
  have e_46 : μ19.1 P 1 = μ.1 P 1 := ((F_21.1 P (ni hprP (fun P => P) (fun P => [26, 25, 23]) rfl) 1).trans (F_6.1 P (ni hprP (fun P => P) (fun P => [26, 2, 3, 4, 24]) rfl) 1))
  have e_47 : μ19.1 P 1 = μ.1 P 1 := ((F_21.1 P (ni hprP (fun P => P) (fun P => [26, 25, 23]) rfl) 1).trans (F_6.1 P (ni hprP (fun P => P) (fun P => [26, 2, 3, 4, 24]) rfl) 1))
  have e_48 : μ19.1 P 1 = μ.1 P 1 := ((F_21.1 P (ni hprP (fun P => P) (fun P => [26, 25, 23]) rfl) 1).trans (F_6.1 P (ni hprP (fun P => P) (fun P => [26, 2, 3, 4, 24]) rfl) 1))
  refine xc_iV G (b := 23) (rest := []) (As := [.int (iv 28), .int (iv 0), .int (iv r_40)]) (c_X7_add ω l μ19 28 0 r_40 P (by unfold ir; omega) (by unfold ir; omega) (by unfold ir; omega) hI_22 (by omega) (by omega)) (wm 3 226 rfl rfl) (wm 3 228 rfl rfl) (wm 0 21 rfl rfl) rfl rfl (by decide) rfl (wm 1 12 rfl rfl) (wm 3 229 rfl rfl) (by decide) hR ⟨nfB hF (by decide), nlB hLo (by decide)⟩ (n := 3) rfl rfl (Nat.le_of_ble_eq_true rfl) hl.1 dX7_openThen_19 (fun r_50 μ49 ρ d0 H locs hr_r_50 hp G => ?_)
  have hr_r_50 : -2147483648 ≤ r_50 ∧ r_50 ≤ 2147483647 := hr_r_50
  obtain ⟨F_51, hI_52, hp_53, hp_54, hs_55, hs_56⟩ := hp
  have hXR_57 : ∀ _ : Unit, μ49.1 26 11 = 0 → (Th (q0 μ P) (qA P 28 0 r_40 r_50)) μ49 := fun _ h0 => ⟨_, (htR_43 ()) (by have h9 : μ19.1 26 11 = μ19.1 26 11 := rfl; have h8 : μ49.1 26 11 = μ19.1 26 11 := (F_51.1 26 (ni hprP (fun P => 26) (fun P => [P, P + 1]) rfl) 11); omega), hp_54, hp_53⟩
  have hXH_58 : ∀ _ : Unit, μ49.1 26 11 = 0 → HC μ49 P tt 0 := fun _ h0 => (((htH_44 ()) (by have h9 : μ19.1 26 11 = μ19.1 26 11 := rfl; have h8 : μ49.1 26 11 = μ19.1 26 11 := (F_51.1 26 (ni hprP (fun P => 26) (fun P => [P, P + 1]) rfl) 11); omega)).ad hp_54 (Or.inl rfl)).c rfl
  have hXw_59 : ∀ _ : Unit, μ49.1 26 11 = 0 → Wp μ49 P r_50 28 := fun _ h0 => Wp.of hp_54 ((htH_44 ()) (by have h9 : μ19.1 26 11 = μ19.1 26 11 := rfl; have h8 : μ49.1 26 11 = μ19.1 26 11 := (F_51.1 26 (ni hprP (fun P => 26) (fun P => [P, P + 1]) rfl) 11); omega)).1 hp_53
  refine lv_istore_n (lv' := [(3, .int (iv r_50)), (2, .int (iv r_20)), (1, .int (iv r_5)), (0, .ref (oP ω 23))]) hx hb dX7_openThen_22 rfl hl (by decide) rfl (fun ls hl => ?_)
  refine lv_aload_n hx hb dX7_openThen_23 rfl (lv_at hl 3 rfl) ?_
  have e_60 : μ49.1 23 2 = P := ((F_51.1 23 (ni hprP (fun P => 23) (fun P => [P, P + 1]) rfl) 2).trans (hs_31.trans ((F_6.1 23 (by decide) 2).trans hP.symm)))
  have e_61 : μ49.1 23 8 = tt := ((F_51.1 23 (ni hprP (fun P => 23) (fun P => [P, P + 1]) rfl) 8).trans (hs_34.trans ((F_6.1 23 (by decide) 8).trans htt.symm)))
  have htk_62 : TK μ49 := hp_23.fr (K := [P, P + 1]) (Fr.tr Fr.rf F_51 (si hprP (fun P => [P, P + 1]) (fun P => [P, P + 1]) rfl)) (ni hprP (fun P => 26) (fun P => [P, P + 1]) rfl) (ni hprP (fun P => 28) (fun P => [P, P + 1]) rfl) (ni hprP (fun P => 29) (fun P => [P, P + 1]) rfl)
  have e_63 : μ49.1 P 1 = μ19.1 P 1 + 1 := hs_55
  have e_64 : μ49.1 26 10 = μ19.1 26 10 := (F_51.1 26 (ni hprP (fun P => 26) (fun P => [P, P + 1]) rfl) 10)
  have e_65 : μ49.1 26 11 = μ19.1 26 11 := (F_51.1 26 (ni hprP (fun P => 26) (fun P => [P, P + 1]) rfl) 11)
  have hk_66 := hI.row (r := P + 2) (hprP.row)
  unfold rk at hk_66
  have e_67 : μ49.1 (P + 2) 3 = μ.1 (P + 2) 3 := ((F_51.1 (P + 2) (ni hprP (fun P => P + 2) (fun P => [P, P + 1]) rfl) 3).trans ((F_21.1 (P + 2) (ni hprP (fun P => P + 2) (fun P => [26, 25, 23]) rfl) 3).trans (F_6.1 (P + 2) (ni hprP (fun P => P + 2) (fun P => [26, 2, 3, 4, 24]) rfl) 3)))
  have e_68 : μ49.1 P 1 = μ19.1 P 1 + 1 := hs_55
  have e_69 : μ49.1 23 9 = μ.1 23 9 := ((F_51.1 23 (ni hprP (fun P => 23) (fun P => [P, P + 1]) rfl) 9).trans (hs_35.trans (F_6.1 23 (by decide) 9)))
  have e_70 : μ49.1 23 9 = μ.1 23 9 := ((F_51.1 23 (ni hprP (fun P => 23) (fun P => [P, P + 1]) rfl) 9).trans (hs_35.trans (F_6.1 23 (by decide) 9)))
  have e_71 : μ49.1 23 9 = μ.1 23 9 := ((F_51.1 23 (ni hprP (fun P => 23) (fun P => [P, P + 1]) rfl) 9).trans (hs_35.trans (F_6.1 23 (by decide) 9)))
  have e_72 : μ49.1 26 11 = μ19.1 26 11 := (F_51.1 26 (ni hprP (fun P => 26) (fun P => [P, P + 1]) rfl) 11)
  have e_73 : μ49.1 26 10 = μ19.1 26 10 := (F_51.1 26 (ni hprP (fun P => 26) (fun P => [P, P + 1]) rfl) 10)
  have e_74 : μ49.1 P 1 = μ19.1 P 1 + 1 := hs_55
  have e_75 : μ49.1 P 1 = μ19.1 P 1 + 1 := hs_55
  have e_76 : μ49.1 26 10 = μ19.1 26 10 := (F_51.1 26 (ni hprP (fun P => 26) (fun P => [P, P + 1]) rfl) 10)
  have e_77 : μ49.1 26 11 = μ19.1 26 11 := (F_51.1 26 (ni hprP (fun P => 26) (fun P => [P, P + 1]) rfl) 11)
  have e_78 : μ49.1 (P + 2) 3 = μ.1 (P + 2) 3 := ((F_51.1 (P + 2) (ni hprP (fun P => P + 2) (fun P => [P, P + 1]) rfl) 3).trans ((F_21.1 (P + 2) (ni hprP (fun P => P + 2) (fun P => [26, 25, 23]) rfl) 3).trans (F_6.1 (P + 2) (ni hprP (fun P => P + 2) (fun P => [26, 2, 3, 4, 24]) rfl) 3)))
  have e_79 : μ49.1 P 1 = μ19.1 P 1 + 1 := hs_55
  have e_80 : μ49.1 (P + 2) 3 = μ.1 (P + 2) 3 := ((F_51.1 (P + 2) (ni hprP (fun P => P + 2) (fun P => [P, P + 1]) rfl) 3).trans ((F_21.1 (P + 2) (ni hprP (fun P => P + 2) (fun P => [26, 25, 23]) rfl) 3).trans (F_6.1 (P + 2) (ni hprP (fun P => P + 2) (fun P => [26, 2, 3, 4, 24]) rfl) 3)))
  have e_81 : μ49.1 23 9 = μ.1 23 9 := ((F_51.1 23 (ni hprP (fun P => 23) (fun P => [P, P + 1]) rfl) 9).trans (hs_35.trans (F_6.1 23 (by decide) 9)))
  refine xc_vV G (b := 23) (rest := []) (As := []) (((fun (_ : Om) (_ : Launch) => hK)) ω l μ49 P tt hI_52 (by omega) (by omega) htk_62 (by omega) (by omega) (by omega) (by omega) (by omega) (fun _ => (hXH_58 ()))) (wm 3 218 rfl rfl) (wm 3 220 rfl rfl) (wm 0 19 rfl rfl) rfl rfl (by decide) rfl (wm 1 12 rfl rfl) (wm 3 221 rfl rfl) (by decide) hR ⟨sfr (F := F) (a := 0) (by decide), slo (L := Lo) (m := 2) (a := 0) (by decide)⟩ (n := 0) rfl rfl (Nat.le_of_ble_eq_true rfl) hl.1 dX7_openThen_24 (fun μ82 ρ d0 H locs hp G => ?_)
  obtain ⟨F_83, hI_84, hp_85, hp_86, hp_87, hp_88, hp_89, hp_90, hp_91, hs_92, hs_93, hs_94, hs_95, hs_96, hs_97⟩ := hp
  have hn_98 : -1 ≤ μ82.1 26 10 ∧ μ82.1 26 10 ≤ 3000 := hI_84.nm.2.2.2.2.2.2.2.2.2.2.2.2
  have hk_99 := hI_84.pr (p := P) hprP
  unfold pk at hk_99
  have hc_100 : 16 ≤ μ82.2.1 (P + 1) ∧ μ82.2.1 (P + 1) ≤ 73024 := hI_84.rm.1 _ hprP.cap
  have hk_101 := hI_84.row (r := P + 2) (hprP.row)
  unfold rk at hk_101
  have htb_102 := hp_85.b
  replace hp_90 := fun _ : Unit => hp_90
  have hXR_103 : ∀ _ : Unit, μ82.1 26 11 = 0 → (Th (Th (q0 μ P) (qA P 28 0 r_40 r_50)) (qE P tt 0 (2 * (7 - μ.1 23 9)))) μ82 := fun _ h0 => ⟨_, (hXR_57 ()) (by have h9 : μ49.1 26 11 = μ19.1 26 11 := (F_51.1 26 (ni hprP (fun P => 26) (fun P => [P, P + 1]) rfl) 11); have h8 : μ82.1 26 11 = μ82.1 26 11 := rfl; omega), (((hp_90 ()) h0).mn (by have h9 : μ49.1 23 9 = μ.1 23 9 := ((F_51.1 23 (ni hprP (fun P => 23) (fun P => [P, P + 1]) rfl) 9).trans (hs_35.trans (F_6.1 23 (by decide) 9))); omega))⟩
  have hXH_104 : ∀ _ : Unit, μ82.1 26 11 = 0 → HC μ82 P tt 0 := fun _ h0 => HC.ex ((hXH_58 ()) (by have h9 : μ49.1 26 11 = μ19.1 26 11 := (F_51.1 26 (ni hprP (fun P => 26) (fun P => [P, P + 1]) rfl) 11); have h8 : μ82.1 26 11 = μ82.1 26 11 := rfl; omega)) ((hp_90 ()) h0)
  have hXw_105 : ∀ _ : Unit, μ82.1 26 11 = 0 → Wp μ82 P r_50 28 := fun _ h0 => ((hXw_59 ()) (by have h9 : μ49.1 26 11 = μ19.1 26 11 := (F_51.1 26 (ni hprP (fun P => 26) (fun P => [P, P + 1]) rfl) 11); have h8 : μ82.1 26 11 = μ82.1 26 11 := rfl; omega)).ext ((hp_90 ()) h0).1
  refine lv_aload_n hx hb dX7_openThen_27 rfl (lv_at hl 3 rfl) ?_
  refine lv_bipush (v := iv 29) hx hb dX7_openThen_28 rfl ?_
  refine lv_iconst (v := iv 0) hx hb dX7_openThen_30 rfl ?_
  refine lv_iconst (v := iv 0) hx hb dX7_openThen_31 rfl ?_
  have e_106 : μ82.1 23 2 = P := (hs_92.trans ((F_51.1 23 (ni hprP (fun P => 23) (fun P => [P, P + 1]) rfl) 2).trans (hs_31.trans ((F_6.1 23 (by decide) 2).trans hP.symm))))
  refine xc_iV G (b := 23) (rest := []) (As := [.int (iv 29), .int (iv 0), .int (iv 0)]) (c_X7_add ω l μ82 29 0 0 P (by unfold ir; omega) (by unfold ir; omega) (by unfold ir; omega) hI_84 (by omega) (by omega)) (wm 3 226 rfl rfl) (wm 3 228 rfl rfl) (wm 0 21 rfl rfl) rfl rfl (by decide) rfl (wm 1 12 rfl rfl) (wm 3 229 rfl rfl) (by decide) hR ⟨nfB hF (by decide), nlB hLo (by decide)⟩ (n := 3) rfl rfl (Nat.le_of_ble_eq_true rfl) hl.1 dX7_openThen_32 (fun r_108 μ107 ρ d0 H locs hr_r_108 hp G => ?_)
  have hr_r_108 : -2147483648 ≤ r_108 ∧ r_108 ≤ 2147483647 := hr_r_108
  obtain ⟨F_109, hI_110, hp_111, hp_112, hs_113, hs_114⟩ := hp
  have hXR_115 : ∀ _ : Unit, μ107.1 26 11 = 0 → (Th (Th (Th (q0 μ P) (qA P 28 0 r_40 r_50)) (qE P tt 0 (2 * (7 - μ.1 23 9)))) (qA P 29 0 0 r_108)) μ107 := fun _ h0 => ⟨_, (hXR_103 ()) (by have h9 : μ82.1 26 11 = μ82.1 26 11 := rfl; have h8 : μ107.1 26 11 = μ82.1 26 11 := (F_109.1 26 (ni hprP (fun P => 26) (fun P => [P, P + 1]) rfl) 11); omega), hp_112, hp_111⟩
  have hXH_116 : ∀ _ : Unit, μ107.1 26 11 = 0 → HC μ107 P tt 0 := fun _ h0 => (((hXH_104 ()) (by have h9 : μ82.1 26 11 = μ82.1 26 11 := rfl; have h8 : μ107.1 26 11 = μ82.1 26 11 := (F_109.1 26 (ni hprP (fun P => 26) (fun P => [P, P + 1]) rfl) 11); omega)).ad hp_112 (Or.inl rfl)).c rfl
  have hXw_117 : ∀ _ : Unit, μ107.1 26 11 = 0 → Wp μ107 P r_50 28 := fun _ h0 => ((hXw_105 ()) (by have h9 : μ82.1 26 11 = μ82.1 26 11 := rfl; have h8 : μ107.1 26 11 = μ82.1 26 11 := (F_109.1 26 (ni hprP (fun P => 26) (fun P => [P, P + 1]) rfl) 11); omega)).ext hp_112.1
  have hXw_118 : ∀ _ : Unit, μ107.1 26 11 = 0 → Wp μ107 P r_108 29 := fun _ h0 => Wp.of hp_112 ((hXH_104 ()) (by have h9 : μ82.1 26 11 = μ82.1 26 11 := rfl; have h8 : μ107.1 26 11 = μ82.1 26 11 := (F_109.1 26 (ni hprP (fun P => 26) (fun P => [P, P + 1]) rfl) 11); omega)).1 hp_111
  refine lv_istore (lv' := [(4, .int (iv r_108)), (3, .int (iv r_50)), (2, .int (iv r_20)), (1, .int (iv r_5)), (0, .ref (oP ω 23))]) hx hb dX7_openThen_35 hl (by decide) rfl (fun ls hl => ?_)
  refine lv_aload_n hx hb dX7_openThen_37 rfl (lv_at hl 4 rfl) ?_
  refine xa_getr G fd_X7 (a := 23) (x := P) 2 rfl (by decide) rfl (wm 2 19 rfl rfl) ⟨rfl, rfl, rfl⟩ dX7_openThen_38 rfl ((F_109.1 23 (ni hprP (fun P => 23) (fun P => [P, P + 1]) rfl) 2).trans (hs_92.trans ((F_51.1 23 (ni hprP (fun P => 23) (fun P => [P, P + 1]) rfl) 2).trans (hs_31.trans ((F_6.1 23 (by decide) 2).trans hP.symm))))) (by omega) (hprP.hq ω ρ) ?_
  refine lv_iload_n hx hb dX7_openThen_41 rfl (lv_at hl 1 rfl) ?_
  refine lv_aload_n hx hb dX7_openThen_42 rfl (lv_at hl 4 rfl) ?_
  have e_119 : μ107.1 23 2 = P := ((F_109.1 23 (ni hprP (fun P => 23) (fun P => [P, P + 1]) rfl) 2).trans (hs_92.trans ((F_51.1 23 (ni hprP (fun P => 23) (fun P => [P, P + 1]) rfl) 2).trans (hs_31.trans ((F_6.1 23 (by decide) 2).trans hP.symm)))))
  have e_120 : μ107.1 P 1 = μ82.1 P 1 + 1 := hs_113
  refine xc_iV G (b := 23) (rest := [.int (iv r_50), .ref (oP ω P)]) (As := []) (c_X7_here ω l μ107 P hI_110 (by omega)) (wm 4 31 rfl rfl) (wm 4 33 rfl rfl) (wm 0 31 rfl rfl) rfl rfl (by decide) rfl (wm 1 12 rfl rfl) (wm 4 34 rfl rfl) (by decide) hR ⟨nfB hF (by decide), nlB hLo (by decide)⟩ (n := 0) rfl rfl (Nat.le_of_ble_eq_true rfl) hl.1 dX7_openThen_43 (fun r_122 μ121 ρ d0 H locs hr_r_122 hp G => ?_)
  have hr_r_122 : -2147483648 ≤ r_122 ∧ r_122 ≤ 2147483647 := hr_r_122
  obtain ⟨hsm_123, hp_124⟩ := hp
  have hsm_123 := Eq.symm hsm_123
  subst hsm_123
  have e_125 : μ107.1 P 1 = μ82.1 P 1 + 1 := hs_113
  refine xc_vV G (b := P) (rest := []) (As := [.int (iv r_50), .int (iv r_122)]) (c_X8_setFirst ω l μ107 P r_50 r_122 (μ82.1 P 1 + 1) hprP (by unfold ir; omega) (by unfold ir; omega) hI_110 (by omega)) (wm 4 51 rfl rfl) (wm 4 52 rfl rfl) (wm 4 53 rfl rfl) hprP.ly rfl (by decide) (hprP.hq ω ρ) (wm 1 9 rfl rfl) (wm 4 54 rfl rfl) (by decide) hR ⟨nfB hF (by decide), nlB hLo (by decide)⟩ (n := 2) rfl rfl (Nat.le_of_ble_eq_true rfl) hl.1 dX7_openThen_46 (fun μ126 ρ d0 H locs hp G => ?_)
  obtain ⟨F_127, hI_128, hp_129, hp_130, ha_131⟩ := hp
  have hm_132 : ∀ _ : Unit, μ126.1 26 11 = 0 → MF μ107 μ126 P r_50 r_122 := by
    intro _ h0
    have hw_ := ((hXw_117 ()) (by have h9 : μ107.1 26 11 = μ82.1 26 11 := (F_109.1 26 (ni hprP (fun P => 26) (fun P => [P, P + 1]) rfl) 11); have h8 : μ126.1 26 11 = μ82.1 26 11 := ((F_127.1 26 (ni hprP (fun P => 26) (fun P => [P + 1]) rfl) 11).trans (F_109.1 26 (ni hprP (fun P => 26) (fun P => [P, P + 1]) rfl) 11)); omega)).1
    have h8 : μ107.1 P 1 = μ82.1 P 1 + 1 := hs_113
    have h9 : μ126.1 P 1 = μ82.1 P 1 + 1 := ((F_127.1 P (ni hprP (fun P => P) (fun P => [P + 1]) rfl) 1).trans hs_113)
    rcases hp_130 with ⟨q1, q2, q3⟩ | ⟨q1, q2⟩
    · exact MF.of (μ := μ107) (ν := μ126) (P := P) (by rw [h9, h8]) hw_ q3 ha_131
    · exfalso; exact q1 (by rw [← h8]; exact hw_)
  have hXR_133 : ∀ _ : Unit, μ126.1 26 11 = 0 → (Th (Th (Th (Th (q0 μ P) (qA P 28 0 r_40 r_50)) (qE P tt 0 (2 * (7 - μ.1 23 9)))) (qA P 29 0 0 r_108)) (qF P r_50 r_122)) μ126 := fun _ h0 => ⟨_, (hXR_115 ()) (by have h9 : μ107.1 26 11 = μ82.1 26 11 := (F_109.1 26 (ni hprP (fun P => 26) (fun P => [P, P + 1]) rfl) 11); have h8 : μ126.1 26 11 = μ82.1 26 11 := ((F_127.1 26 (ni hprP (fun P => 26) (fun P => [P + 1]) rfl) 11).trans (F_109.1 26 (ni hprP (fun P => 26) (fun P => [P, P + 1]) rfl) 11)); omega), (hm_132 ()) h0, by omega⟩
  have hXH_134 : ∀ _ : Unit, μ126.1 26 11 = 0 → HC μ126 P tt 0 := fun _ h0 => ((hXH_116 ()) (by have h9 : μ107.1 26 11 = μ82.1 26 11 := (F_109.1 26 (ni hprP (fun P => 26) (fun P => [P, P + 1]) rfl) 11); have h8 : μ126.1 26 11 = μ82.1 26 11 := ((F_127.1 26 (ni hprP (fun P => 26) (fun P => [P + 1]) rfl) 11).trans (F_109.1 26 (ni hprP (fun P => 26) (fun P => [P, P + 1]) rfl) 11)); omega)).mf ((hm_132 ()) h0) ((hXw_117 ()) (by have h9 : μ107.1 26 11 = μ82.1 26 11 := (F_109.1 26 (ni hprP (fun P => 26) (fun P => [P, P + 1]) rfl) 11); have h8 : μ126.1 26 11 = μ82.1 26 11 := ((F_127.1 26 (ni hprP (fun P => 26) (fun P => [P + 1]) rfl) 11).trans (F_109.1 26 (ni hprP (fun P => 26) (fun P => [P, P + 1]) rfl) 11)); omega)) (by decide)
  have hXw_135 : ∀ _ : Unit, μ126.1 26 11 = 0 → Wp μ126 P r_50 28 := fun _ h0 => ((hXw_117 ()) (by have h9 : μ107.1 26 11 = μ82.1 26 11 := (F_109.1 26 (ni hprP (fun P => 26) (fun P => [P, P + 1]) rfl) 11); have h8 : μ126.1 26 11 = μ82.1 26 11 := ((F_127.1 26 (ni hprP (fun P => 26) (fun P => [P + 1]) rfl) 11).trans (F_109.1 26 (ni hprP (fun P => 26) (fun P => [P, P + 1]) rfl) 11)); omega)).mf ((hm_132 ()) h0)
  have hXw_136 : ∀ _ : Unit, μ126.1 26 11 = 0 → Wp μ126 P r_108 29 := fun _ h0 => ((hXw_118 ()) (by have h9 : μ107.1 26 11 = μ82.1 26 11 := (F_109.1 26 (ni hprP (fun P => 26) (fun P => [P, P + 1]) rfl) 11); have h8 : μ126.1 26 11 = μ82.1 26 11 := ((F_127.1 26 (ni hprP (fun P => 26) (fun P => [P + 1]) rfl) 11).trans (F_109.1 26 (ni hprP (fun P => 26) (fun P => [P, P + 1]) rfl) 11)); omega)).mf ((hm_132 ()) h0)
  refine lv_aload_n hx hb dX7_openThen_49 rfl (lv_at hl 4 rfl) ?_
  refine lv_sipush (v := iv 220) hx hb dX7_openThen_50 rfl ?_
  have htk_137 : TK μ126 := hp_85.fr (K := [P + 1, P]) (Fr.tr (Fr.tr Fr.rf F_109 (si hprP (fun P => [P, P + 1]) (fun P => [P + 1, P]) rfl)) F_127 (si hprP (fun P => [P + 1]) (fun P => [P + 1, P]) rfl)) (ni hprP (fun P => 26) (fun P => [P + 1, P]) rfl) (ni hprP (fun P => 28) (fun P => [P + 1, P]) rfl) (ni hprP (fun P => 29) (fun P => [P + 1, P]) rfl)
  have e_138 : μ126.1 26 10 = μ82.1 26 10 := ((F_127.1 26 (ni hprP (fun P => 26) (fun P => [P + 1]) rfl) 10).trans (F_109.1 26 (ni hprP (fun P => 26) (fun P => [P, P + 1]) rfl) 10))
  have e_139 : μ126.1 26 11 = μ82.1 26 11 := ((F_127.1 26 (ni hprP (fun P => 26) (fun P => [P + 1]) rfl) 11).trans (F_109.1 26 (ni hprP (fun P => 26) (fun P => [P, P + 1]) rfl) 11))
  refine xc_vV G (b := 23) (rest := []) (As := [.int (iv 220)]) (c_X7_need_b ω l μ126 220 (by unfold ir; omega) hI_128 htk_137 (by omega)) (wm 3 169 rfl rfl) (wm 3 171 rfl rfl) (wm 0 11 rfl rfl) rfl rfl (by decide) rfl (wm 1 12 rfl rfl) (wm 3 172 rfl rfl) (by decide) hR ⟨nfB hF (by decide), nlB hLo (by decide)⟩ (n := 1) rfl rfl (Nat.le_of_ble_eq_true rfl) hl.1 dX7_openThen_53 (fun μ140 ρ d0 H locs hp G => ?_)
  obtain ⟨F_141, hI_142, hp_143, hp_144, hp_145, hs_146, hs_147, hs_148, hs_149⟩ := hp
  have hn_150 : -1 ≤ μ140.1 26 10 ∧ μ140.1 26 10 ≤ 3000 := hI_142.nm.2.2.2.2.2.2.2.2.2.2.2.2
  have htb_151 := hp_143.b
  refine lv_aload_n hx hb dX7_openThen_56 rfl (lv_at hl 4 rfl) ?_
  refine lv_iconst (v := iv 5) hx hb dX7_openThen_57 rfl ?_
  refine lv_iload_n hx hb dX7_openThen_58 rfl (lv_at hl 2 rfl) ?_
  refine lv_iconst (v := iv 0) hx hb dX7_openThen_59 rfl ?_
  have htR_152 : ∀ _ : Unit, μ140.1 26 11 = 0 → (Th (Th (Th (Th (q0 μ P) (qA P 28 0 r_40 r_50)) (qE P tt 0 (2 * (7 - μ.1 23 9)))) (qA P 29 0 0 r_108)) (qF P r_50 r_122)) μ140 := fun _ h0 => ThF (K := [26]) (hXR_133 () (by have h9 : μ126.1 26 11 = μ82.1 26 11 := ((F_127.1 26 (ni hprP (fun P => 26) (fun P => [P + 1]) rfl) 11).trans (F_109.1 26 (ni hprP (fun P => 26) (fun P => [P, P + 1]) rfl) 11)); have h8 : μ140.1 26 11 = μ140.1 26 11 := rfl; omega)) (Fr.tr Fr.rf F_141 (by decide)) (npL_p (L := [26]) (by decide) hprP).1 (npL_p (L := [26]) (by decide) hprP).2.1
  have htH_153 : ∀ _ : Unit, μ140.1 26 11 = 0 → HC μ140 P tt 0 := fun _ h0 => HC.fr (K := [26]) (hXH_134 () (by have h9 : μ126.1 26 11 = μ82.1 26 11 := ((F_127.1 26 (ni hprP (fun P => 26) (fun P => [P + 1]) rfl) 11).trans (F_109.1 26 (ni hprP (fun P => 26) (fun P => [P, P + 1]) rfl) 11)); have h8 : μ140.1 26 11 = μ140.1 26 11 := rfl; omega)) (Fr.tr Fr.rf F_141 (by decide)) (npL_p (L := [26]) (by decide) hprP).1 (npL_p (L := [26]) (by decide) hprP).2.1
  have htw_154 : ∀ _ : Unit, μ140.1 26 11 = 0 → Wp μ140 P r_50 28 := fun _ h0 => Wp.fr (K := [26]) (hXw_135 () (by have h9 : μ126.1 26 11 = μ82.1 26 11 := ((F_127.1 26 (ni hprP (fun P => 26) (fun P => [P + 1]) rfl) 11).trans (F_109.1 26 (ni hprP (fun P => 26) (fun P => [P, P + 1]) rfl) 11)); have h8 : μ140.1 26 11 = μ140.1 26 11 := rfl; omega)) (Fr.tr Fr.rf F_141 (by decide)) (npL_p (L := [26]) (by decide) hprP).1 (npL_p (L := [26]) (by decide) hprP).2.1
  have htw_155 : ∀ _ : Unit, μ140.1 26 11 = 0 → Wp μ140 P r_108 29 := fun _ h0 => Wp.fr (K := [26]) (hXw_136 () (by have h9 : μ126.1 26 11 = μ82.1 26 11 := ((F_127.1 26 (ni hprP (fun P => 26) (fun P => [P + 1]) rfl) 11).trans (F_109.1 26 (ni hprP (fun P => 26) (fun P => [P, P + 1]) rfl) 11)); have h8 : μ140.1 26 11 = μ140.1 26 11 := rfl; omega)) (Fr.tr Fr.rf F_141 (by decide)) (npL_p (L := [26]) (by decide) hprP).1 (npL_p (L := [26]) (by decide) hprP).2.1
  have e_156 : μ140.1 23 2 = P := ((F_141.1 23 (by decide) 2).trans ((F_127.1 23 (ni hprP (fun P => 23) (fun P => [P + 1]) rfl) 2).trans ((F_109.1 23 (ni hprP (fun P => 23) (fun P => [P, P + 1]) rfl) 2).trans (hs_92.trans ((F_51.1 23 (ni hprP (fun P => 23) (fun P => [P, P + 1]) rfl) 2).trans (hs_31.trans ((F_6.1 23 (by decide) 2).trans hP.symm)))))))
  have e_157 : μ140.1 P 1 = μ82.1 P 1 + 1 := ((F_141.1 P (ni hprP (fun P => P) (fun P => [26]) rfl) 1).trans ((F_127.1 P (ni hprP (fun P => P) (fun P => [P + 1]) rfl) 1).trans hs_113))
  have e_158 : μ140.1 P 1 = μ82.1 P 1 + 1 := ((F_141.1 P (ni hprP (fun P => P) (fun P => [26]) rfl) 1).trans ((F_127.1 P (ni hprP (fun P => P) (fun P => [P + 1]) rfl) 1).trans hs_113))
  have e_159 : μ140.1 P 1 = μ82.1 P 1 + 1 := ((F_141.1 P (ni hprP (fun P => P) (fun P => [26]) rfl) 1).trans ((F_127.1 P (ni hprP (fun P => P) (fun P => [P + 1]) rfl) 1).trans hs_113))
  refine xc_iV G (b := 23) (rest := []) (As := [.int (iv 5), .int (iv r_20), .int (iv 0)]) (c_X7_add ω l μ140 5 r_20 0 P (by unfold ir; omega) (by unfold ir; omega) (by unfold ir; omega) hI_142 (by omega) (by omega)) (wm 3 226 rfl rfl) (wm 3 228 rfl rfl) (wm 0 21 rfl rfl) rfl rfl (by decide) rfl (wm 1 12 rfl rfl) (wm 3 229 rfl rfl) (by decide) hR ⟨nfB hF (by decide), nlB hLo (by decide)⟩ (n := 3) rfl rfl (Nat.le_of_ble_eq_true rfl) hl.1 dX7_openThen_60 (fun r_161 μ160 ρ d0 H locs hr_r_161 hp G => ?_)
  have hr_r_161 : -2147483648 ≤ r_161 ∧ r_161 ≤ 2147483647 := hr_r_161
  obtain ⟨F_162, hI_163, hp_164, hp_165, hs_166, hs_167⟩ := hp
  have hXR_168 : ∀ _ : Unit, μ160.1 26 11 = 0 → (Th (Th (Th (Th (Th (q0 μ P) (qA P 28 0 r_40 r_50)) (qE P tt 0 (2 * (7 - μ.1 23 9)))) (qA P 29 0 0 r_108)) (qF P r_50 r_122)) (qA P 5 r_20 0 r_161)) μ160 := fun _ h0 => ⟨_, (htR_152 ()) (by have h9 : μ140.1 26 11 = μ140.1 26 11 := rfl; have h8 : μ160.1 26 11 = μ140.1 26 11 := (F_162.1 26 (ni hprP (fun P => 26) (fun P => [P, P + 1]) rfl) 11); omega), hp_165, hp_164⟩
  have hXH_169 : ∀ _ : Unit, μ160.1 26 11 = 0 → HC μ160 P tt 0 := fun _ h0 => (((htH_153 ()) (by have h9 : μ140.1 26 11 = μ140.1 26 11 := rfl; have h8 : μ160.1 26 11 = μ140.1 26 11 := (F_162.1 26 (ni hprP (fun P => 26) (fun P => [P, P + 1]) rfl) 11); omega)).ad hp_165 (Or.inr rfl)).c rfl
  have hXw_170 : ∀ _ : Unit, μ160.1 26 11 = 0 → Wp μ160 P r_50 28 := fun _ h0 => ((htw_154 ()) (by have h9 : μ140.1 26 11 = μ140.1 26 11 := rfl; have h8 : μ160.1 26 11 = μ140.1 26 11 := (F_162.1 26 (ni hprP (fun P => 26) (fun P => [P, P + 1]) rfl) 11); omega)).ext hp_165.1
  have hXw_171 : ∀ _ : Unit, μ160.1 26 11 = 0 → Wp μ160 P r_108 29 := fun _ h0 => ((htw_155 ()) (by have h9 : μ140.1 26 11 = μ140.1 26 11 := rfl; have h8 : μ160.1 26 11 = μ140.1 26 11 := (F_162.1 26 (ni hprP (fun P => 26) (fun P => [P, P + 1]) rfl) 11); omega)).ext hp_165.1
  have hXw_172 : ∀ _ : Unit, μ160.1 26 11 = 0 → Wp μ160 P r_161 5 := fun _ h0 => Wp.of hp_165 ((htH_153 ()) (by have h9 : μ140.1 26 11 = μ140.1 26 11 := rfl; have h8 : μ160.1 26 11 = μ140.1 26 11 := (F_162.1 26 (ni hprP (fun P => 26) (fun P => [P, P + 1]) rfl) 11); omega)).1 hp_164
  refine lv_pop hx hb dX7_openThen_63 rfl ?_
  refine lv_aload_n hx hb dX7_openThen_64 rfl (lv_at hl 4 rfl) ?_
  have e_173 : μ160.1 23 2 = P := ((F_162.1 23 (ni hprP (fun P => 23) (fun P => [P, P + 1]) rfl) 2).trans ((F_141.1 23 (by decide) 2).trans ((F_127.1 23 (ni hprP (fun P => 23) (fun P => [P + 1]) rfl) 2).trans ((F_109.1 23 (ni hprP (fun P => 23) (fun P => [P, P + 1]) rfl) 2).trans (hs_92.trans ((F_51.1 23 (ni hprP (fun P => 23) (fun P => [P, P + 1]) rfl) 2).trans (hs_31.trans ((F_6.1 23 (by decide) 2).trans hP.symm))))))))
  have e_174 : μ160.1 23 8 = tt := ((F_162.1 23 (ni hprP (fun P => 23) (fun P => [P, P + 1]) rfl) 8).trans ((F_141.1 23 (by decide) 8).trans ((F_127.1 23 (ni hprP (fun P => 23) (fun P => [P + 1]) rfl) 8).trans ((F_109.1 23 (ni hprP (fun P => 23) (fun P => [P, P + 1]) rfl) 8).trans (hs_94.trans ((F_51.1 23 (ni hprP (fun P => 23) (fun P => [P, P + 1]) rfl) 8).trans (hs_34.trans ((F_6.1 23 (by decide) 8).trans htt.symm))))))))
  have htk_175 : TK μ160 := hp_143.fr (K := [P, P + 1]) (Fr.tr Fr.rf F_162 (si hprP (fun P => [P, P + 1]) (fun P => [P, P + 1]) rfl)) (ni hprP (fun P => 26) (fun P => [P, P + 1]) rfl) (ni hprP (fun P => 28) (fun P => [P, P + 1]) rfl) (ni hprP (fun P => 29) (fun P => [P, P + 1]) rfl)
  have e_176 : μ160.1 P 1 = μ140.1 P 1 + 1 := hs_166
  have e_177 : μ160.1 26 10 = μ140.1 26 10 := (F_162.1 26 (ni hprP (fun P => 26) (fun P => [P, P + 1]) rfl) 10)
  have e_178 : μ160.1 26 11 = μ140.1 26 11 := (F_162.1 26 (ni hprP (fun P => 26) (fun P => [P, P + 1]) rfl) 11)
  have e_179 : μ160.1 (P + 2) 3 = μ82.1 (P + 2) 3 := ((F_162.1 (P + 2) (ni hprP (fun P => P + 2) (fun P => [P, P + 1]) rfl) 3).trans ((F_141.1 (P + 2) (ni hprP (fun P => P + 2) (fun P => [26]) rfl) 3).trans ((F_127.1 (P + 2) (ni hprP (fun P => P + 2) (fun P => [P + 1]) rfl) 3).trans (F_109.1 (P + 2) (ni hprP (fun P => P + 2) (fun P => [P, P + 1]) rfl) 3))))
  have e_180 : μ160.1 P 1 = μ140.1 P 1 + 1 := hs_166
  have e_181 : μ160.1 23 9 = μ.1 23 9 := ((F_162.1 23 (ni hprP (fun P => 23) (fun P => [P, P + 1]) rfl) 9).trans ((F_141.1 23 (by decide) 9).trans ((F_127.1 23 (ni hprP (fun P => 23) (fun P => [P + 1]) rfl) 9).trans ((F_109.1 23 (ni hprP (fun P => 23) (fun P => [P, P + 1]) rfl) 9).trans (hs_95.trans ((F_51.1 23 (ni hprP (fun P => 23) (fun P => [P, P + 1]) rfl) 9).trans (hs_35.trans (F_6.1 23 (by decide) 9))))))))
  have e_182 : μ160.1 23 9 = μ.1 23 9 := ((F_162.1 23 (ni hprP (fun P => 23) (fun P => [P, P + 1]) rfl) 9).trans ((F_141.1 23 (by decide) 9).trans ((F_127.1 23 (ni hprP (fun P => 23) (fun P => [P + 1]) rfl) 9).trans ((F_109.1 23 (ni hprP (fun P => 23) (fun P => [P, P + 1]) rfl) 9).trans (hs_95.trans ((F_51.1 23 (ni hprP (fun P => 23) (fun P => [P, P + 1]) rfl) 9).trans (hs_35.trans (F_6.1 23 (by decide) 9))))))))
  have e_183 : μ160.1 23 9 = μ.1 23 9 := ((F_162.1 23 (ni hprP (fun P => 23) (fun P => [P, P + 1]) rfl) 9).trans ((F_141.1 23 (by decide) 9).trans ((F_127.1 23 (ni hprP (fun P => 23) (fun P => [P + 1]) rfl) 9).trans ((F_109.1 23 (ni hprP (fun P => 23) (fun P => [P, P + 1]) rfl) 9).trans (hs_95.trans ((F_51.1 23 (ni hprP (fun P => 23) (fun P => [P, P + 1]) rfl) 9).trans (hs_35.trans (F_6.1 23 (by decide) 9))))))))
  have e_184 : μ160.1 26 11 = μ140.1 26 11 := (F_162.1 26 (ni hprP (fun P => 26) (fun P => [P, P + 1]) rfl) 11)
  have e_185 : μ160.1 26 10 = μ140.1 26 10 := (F_162.1 26 (ni hprP (fun P => 26) (fun P => [P, P + 1]) rfl) 10)
  have e_186 : μ160.1 P 1 = μ140.1 P 1 + 1 := hs_166
  have e_187 : μ160.1 P 1 = μ140.1 P 1 + 1 := hs_166
  have e_188 : μ160.1 26 10 = μ140.1 26 10 := (F_162.1 26 (ni hprP (fun P => 26) (fun P => [P, P + 1]) rfl) 10)
  have e_189 : μ160.1 26 11 = μ140.1 26 11 := (F_162.1 26 (ni hprP (fun P => 26) (fun P => [P, P + 1]) rfl) 11)
  have e_190 : μ160.1 (P + 2) 3 = μ82.1 (P + 2) 3 := ((F_162.1 (P + 2) (ni hprP (fun P => P + 2) (fun P => [P, P + 1]) rfl) 3).trans ((F_141.1 (P + 2) (ni hprP (fun P => P + 2) (fun P => [26]) rfl) 3).trans ((F_127.1 (P + 2) (ni hprP (fun P => P + 2) (fun P => [P + 1]) rfl) 3).trans (F_109.1 (P + 2) (ni hprP (fun P => P + 2) (fun P => [P, P + 1]) rfl) 3))))
  have e_191 : μ160.1 P 1 = μ140.1 P 1 + 1 := hs_166
  have e_192 : μ160.1 (P + 2) 3 = μ82.1 (P + 2) 3 := ((F_162.1 (P + 2) (ni hprP (fun P => P + 2) (fun P => [P, P + 1]) rfl) 3).trans ((F_141.1 (P + 2) (ni hprP (fun P => P + 2) (fun P => [26]) rfl) 3).trans ((F_127.1 (P + 2) (ni hprP (fun P => P + 2) (fun P => [P + 1]) rfl) 3).trans (F_109.1 (P + 2) (ni hprP (fun P => P + 2) (fun P => [P, P + 1]) rfl) 3))))
  have e_193 : μ160.1 23 9 = μ.1 23 9 := ((F_162.1 23 (ni hprP (fun P => 23) (fun P => [P, P + 1]) rfl) 9).trans ((F_141.1 23 (by decide) 9).trans ((F_127.1 23 (ni hprP (fun P => 23) (fun P => [P + 1]) rfl) 9).trans ((F_109.1 23 (ni hprP (fun P => 23) (fun P => [P, P + 1]) rfl) 9).trans (hs_95.trans ((F_51.1 23 (ni hprP (fun P => 23) (fun P => [P, P + 1]) rfl) 9).trans (hs_35.trans (F_6.1 23 (by decide) 9))))))))
  refine xc_vV G (b := 23) (rest := []) (As := []) (((fun (_ : Om) (_ : Launch) => hK)) ω l μ160 P tt hI_163 (by omega) (by omega) htk_175 (by omega) (by omega) (by omega) (by omega) (by omega) (fun _ => (hXH_169 ()))) (wm 3 218 rfl rfl) (wm 3 220 rfl rfl) (wm 0 19 rfl rfl) rfl rfl (by decide) rfl (wm 1 12 rfl rfl) (wm 3 221 rfl rfl) (by decide) hR ⟨sfr (F := F) (a := 0) (by decide), slo (L := Lo) (m := 2) (a := 0) (by decide)⟩ (n := 0) rfl rfl (Nat.le_of_ble_eq_true rfl) hl.1 dX7_openThen_65 (fun μ194 ρ d0 H locs hp G => ?_)
  obtain ⟨F_195, hI_196, hp_197, hp_198, hp_199, hp_200, hp_201, hp_202, hp_203, hs_204, hs_205, hs_206, hs_207, hs_208, hs_209⟩ := hp
  have hn_210 : -1 ≤ μ194.1 26 10 ∧ μ194.1 26 10 ≤ 3000 := hI_196.nm.2.2.2.2.2.2.2.2.2.2.2.2
  have hk_211 := hI_196.pr (p := P) hprP
  unfold pk at hk_211
  have hc_212 : 16 ≤ μ194.2.1 (P + 1) ∧ μ194.2.1 (P + 1) ≤ 73024 := hI_196.rm.1 _ hprP.cap
  have hk_213 := hI_196.row (r := P + 2) (hprP.row)
  unfold rk at hk_213
  have htb_214 := hp_197.b
  replace hp_202 := fun _ : Unit => hp_202
  have hXR_215 : ∀ _ : Unit, μ194.1 26 11 = 0 → (Th (Th (Th (Th (Th (Th (q0 μ P) (qA P 28 0 r_40 r_50)) (qE P tt 0 (2 * (7 - μ.1 23 9)))) (qA P 29 0 0 r_108)) (qF P r_50 r_122)) (qA P 5 r_20 0 r_161)) (qE P tt 0 (2 * (7 - μ.1 23 9)))) μ194 := fun _ h0 => ⟨_, (hXR_168 ()) (by have h9 : μ160.1 26 11 = μ140.1 26 11 := (F_162.1 26 (ni hprP (fun P => 26) (fun P => [P, P + 1]) rfl) 11); have h8 : μ194.1 26 11 = μ194.1 26 11 := rfl; omega), (((hp_202 ()) h0).mn (by have h9 : μ160.1 23 9 = μ.1 23 9 := ((F_162.1 23 (ni hprP (fun P => 23) (fun P => [P, P + 1]) rfl) 9).trans ((F_141.1 23 (by decide) 9).trans ((F_127.1 23 (ni hprP (fun P => 23) (fun P => [P + 1]) rfl) 9).trans ((F_109.1 23 (ni hprP (fun P => 23) (fun P => [P, P + 1]) rfl) 9).trans (hs_95.trans ((F_51.1 23 (ni hprP (fun P => 23) (fun P => [P, P + 1]) rfl) 9).trans (hs_35.trans (F_6.1 23 (by decide) 9)))))))); omega))⟩
  have hXH_216 : ∀ _ : Unit, μ194.1 26 11 = 0 → HC μ194 P tt 0 := fun _ h0 => HC.ex ((hXH_169 ()) (by have h9 : μ160.1 26 11 = μ140.1 26 11 := (F_162.1 26 (ni hprP (fun P => 26) (fun P => [P, P + 1]) rfl) 11); have h8 : μ194.1 26 11 = μ194.1 26 11 := rfl; omega)) ((hp_202 ()) h0)
  have hXw_217 : ∀ _ : Unit, μ194.1 26 11 = 0 → Wp μ194 P r_50 28 := fun _ h0 => ((hXw_170 ()) (by have h9 : μ160.1 26 11 = μ140.1 26 11 := (F_162.1 26 (ni hprP (fun P => 26) (fun P => [P, P + 1]) rfl) 11); have h8 : μ194.1 26 11 = μ194.1 26 11 := rfl; omega)).ext ((hp_202 ()) h0).1
  have hXw_218 : ∀ _ : Unit, μ194.1 26 11 = 0 → Wp μ194 P r_108 29 := fun _ h0 => ((hXw_171 ()) (by have h9 : μ160.1 26 11 = μ140.1 26 11 := (F_162.1 26 (ni hprP (fun P => 26) (fun P => [P, P + 1]) rfl) 11); have h8 : μ194.1 26 11 = μ194.1 26 11 := rfl; omega)).ext ((hp_202 ()) h0).1
  have hXw_219 : ∀ _ : Unit, μ194.1 26 11 = 0 → Wp μ194 P r_161 5 := fun _ h0 => ((hXw_172 ()) (by have h9 : μ160.1 26 11 = μ140.1 26 11 := (F_162.1 26 (ni hprP (fun P => 26) (fun P => [P, P + 1]) rfl) 11); have h8 : μ194.1 26 11 = μ194.1 26 11 := rfl; omega)).ext ((hp_202 ()) h0).1
  refine lv_aload_n hx hb dX7_openThen_68 rfl (lv_at hl 4 rfl) ?_
  refine xa_getr G fd_X7 (a := 23) (x := P) 2 rfl (by decide) rfl (wm 2 19 rfl rfl) ⟨rfl, rfl, rfl⟩ dX7_openThen_69 rfl (hs_204.trans ((F_162.1 23 (ni hprP (fun P => 23) (fun P => [P, P + 1]) rfl) 2).trans ((F_141.1 23 (by decide) 2).trans ((F_127.1 23 (ni hprP (fun P => 23) (fun P => [P + 1]) rfl) 2).trans ((F_109.1 23 (ni hprP (fun P => 23) (fun P => [P, P + 1]) rfl) 2).trans (hs_92.trans ((F_51.1 23 (ni hprP (fun P => 23) (fun P => [P, P + 1]) rfl) 2).trans (hs_31.trans ((F_6.1 23 (by decide) 2).trans hP.symm))))))))) (by omega) (hprP.hq ω ρ) ?_
  refine lv_iload hx hb dX7_openThen_72 (lv_at hl 0 rfl) ?_
  refine lv_aload_n hx hb dX7_openThen_74 rfl (lv_at hl 4 rfl) ?_
  have e_220 : μ194.1 23 2 = P := (hs_204.trans ((F_162.1 23 (ni hprP (fun P => 23) (fun P => [P, P + 1]) rfl) 2).trans ((F_141.1 23 (by decide) 2).trans ((F_127.1 23 (ni hprP (fun P => 23) (fun P => [P + 1]) rfl) 2).trans ((F_109.1 23 (ni hprP (fun P => 23) (fun P => [P, P + 1]) rfl) 2).trans (hs_92.trans ((F_51.1 23 (ni hprP (fun P => 23) (fun P => [P, P + 1]) rfl) 2).trans (hs_31.trans ((F_6.1 23 (by decide) 2).trans hP.symm)))))))))
  refine xc_iV G (b := 23) (rest := [.int (iv r_108), .ref (oP ω P)]) (As := []) (c_X7_here ω l μ194 P hI_196 (by omega)) (wm 4 31 rfl rfl) (wm 4 33 rfl rfl) (wm 0 31 rfl rfl) rfl rfl (by decide) rfl (wm 1 12 rfl rfl) (wm 4 34 rfl rfl) (by decide) hR ⟨nfB hF (by decide), nlB hLo (by decide)⟩ (n := 0) rfl rfl (Nat.le_of_ble_eq_true rfl) hl.1 dX7_openThen_75 (fun r_222 μ221 ρ d0 H locs hr_r_222 hp G => ?_)
  have hr_r_222 : -2147483648 ≤ r_222 ∧ r_222 ≤ 2147483647 := hr_r_222
  obtain ⟨hsm_223, hp_224⟩ := hp
  have hsm_223 := Eq.symm hsm_223
  subst hsm_223
  refine xc_vV G (b := P) (rest := []) (As := [.int (iv r_108), .int (iv r_222)]) (c_X8_setFirst ω l μ194 P r_108 r_222 (μ194.1 P 1) hprP (by unfold ir; omega) (by unfold ir; omega) hI_196 (by omega)) (wm 4 51 rfl rfl) (wm 4 52 rfl rfl) (wm 4 53 rfl rfl) hprP.ly rfl (by decide) (hprP.hq ω ρ) (wm 1 9 rfl rfl) (wm 4 54 rfl rfl) (by decide) hR ⟨nfB hF (by decide), nlB hLo (by decide)⟩ (n := 2) rfl rfl (Nat.le_of_ble_eq_true rfl) hl.1 dX7_openThen_78 (fun μ225 ρ d0 H locs hp G => ?_)
  obtain ⟨F_226, hI_227, hp_228, hp_229, ha_230⟩ := hp
  have hm_231 : ∀ _ : Unit, μ225.1 26 11 = 0 → MF μ194 μ225 P r_108 r_222 := by
    intro _ h0
    have hw_ := ((hXw_218 ()) (by have h9 : μ194.1 26 11 = μ194.1 26 11 := rfl; have h8 : μ225.1 26 11 = μ194.1 26 11 := (F_226.1 26 (ni hprP (fun P => 26) (fun P => [P + 1]) rfl) 11); omega)).1
    have h8 : μ194.1 P 1 = μ194.1 P 1 := rfl
    have h9 : μ225.1 P 1 = μ194.1 P 1 := (F_226.1 P (ni hprP (fun P => P) (fun P => [P + 1]) rfl) 1)
    rcases hp_229 with ⟨q1, q2, q3⟩ | ⟨q1, q2⟩
    · exact MF.of (μ := μ194) (ν := μ225) (P := P) (by rw [h9, h8]) hw_ q3 ha_230
    · exfalso; exact q1 (by rw [← h8]; exact hw_)
  have hXR_232 : ∀ _ : Unit, μ225.1 26 11 = 0 → (Th (Th (Th (Th (Th (Th (Th (q0 μ P) (qA P 28 0 r_40 r_50)) (qE P tt 0 (2 * (7 - μ.1 23 9)))) (qA P 29 0 0 r_108)) (qF P r_50 r_122)) (qA P 5 r_20 0 r_161)) (qE P tt 0 (2 * (7 - μ.1 23 9)))) (qF P r_108 r_222)) μ225 := fun _ h0 => ⟨_, (hXR_215 ()) (by have h9 : μ194.1 26 11 = μ194.1 26 11 := rfl; have h8 : μ225.1 26 11 = μ194.1 26 11 := (F_226.1 26 (ni hprP (fun P => 26) (fun P => [P + 1]) rfl) 11); omega), (hm_231 ()) h0, by omega⟩
  have hXH_233 : ∀ _ : Unit, μ225.1 26 11 = 0 → HC μ225 P tt 0 := fun _ h0 => ((hXH_216 ()) (by have h9 : μ194.1 26 11 = μ194.1 26 11 := rfl; have h8 : μ225.1 26 11 = μ194.1 26 11 := (F_226.1 26 (ni hprP (fun P => 26) (fun P => [P + 1]) rfl) 11); omega)).mf ((hm_231 ()) h0) ((hXw_218 ()) (by have h9 : μ194.1 26 11 = μ194.1 26 11 := rfl; have h8 : μ225.1 26 11 = μ194.1 26 11 := (F_226.1 26 (ni hprP (fun P => 26) (fun P => [P + 1]) rfl) 11); omega)) (by decide)
  have hXw_234 : ∀ _ : Unit, μ225.1 26 11 = 0 → Wp μ225 P r_50 28 := fun _ h0 => ((hXw_217 ()) (by have h9 : μ194.1 26 11 = μ194.1 26 11 := rfl; have h8 : μ225.1 26 11 = μ194.1 26 11 := (F_226.1 26 (ni hprP (fun P => 26) (fun P => [P + 1]) rfl) 11); omega)).mf ((hm_231 ()) h0)
  have hXw_235 : ∀ _ : Unit, μ225.1 26 11 = 0 → Wp μ225 P r_108 29 := fun _ h0 => ((hXw_218 ()) (by have h9 : μ194.1 26 11 = μ194.1 26 11 := rfl; have h8 : μ225.1 26 11 = μ194.1 26 11 := (F_226.1 26 (ni hprP (fun P => 26) (fun P => [P + 1]) rfl) 11); omega)).mf ((hm_231 ()) h0)
  have hXw_236 : ∀ _ : Unit, μ225.1 26 11 = 0 → Wp μ225 P r_161 5 := fun _ h0 => ((hXw_219 ()) (by have h9 : μ194.1 26 11 = μ194.1 26 11 := rfl; have h8 : μ225.1 26 11 = μ194.1 26 11 := (F_226.1 26 (ni hprP (fun P => 26) (fun P => [P + 1]) rfl) 11); omega)).mf ((hm_231 ()) h0)
  clear hk_1 hc_2 hk_66 hk_99 hc_100 hk_101 hk_211 hc_212 hk_213
  have e_237 : μ225.1 26 11 = μ194.1 26 11 := (F_226.1 26 (ni hprP (fun P => 26) (fun P => [P + 1]) rfl) 11)
  have htk_238 : TK μ225 := hp_197.fr (K := [P + 1]) (Fr.tr Fr.rf F_226 (si hprP (fun P => [P + 1]) (fun P => [P + 1]) rfl)) (ni hprP (fun P => 26) (fun P => [P + 1]) rfl) (ni hprP (fun P => 28) (fun P => [P + 1]) rfl) (ni hprP (fun P => 29) (fun P => [P + 1]) rfl)
  have e_239 : μ225.1 26 11 = μ194.1 26 11 := (F_226.1 26 (ni hprP (fun P => 26) (fun P => [P + 1]) rfl) 11)
  have e_240 : μ225.1 26 10 = μ194.1 26 10 := (F_226.1 26 (ni hprP (fun P => 26) (fun P => [P + 1]) rfl) 10)
  have e_241 : μ225.1 P 1 = μ194.1 P 1 := (F_226.1 P (ni hprP (fun P => P) (fun P => [P + 1]) rfl) 1)
  have e_242 : μ225.1 P 1 = μ194.1 P 1 := (F_226.1 P (ni hprP (fun P => P) (fun P => [P + 1]) rfl) 1)
  have e_243 : μ225.1 26 10 = μ194.1 26 10 := (F_226.1 26 (ni hprP (fun P => 26) (fun P => [P + 1]) rfl) 10)
  have e_244 : μ225.1 26 11 = μ194.1 26 11 := (F_226.1 26 (ni hprP (fun P => 26) (fun P => [P + 1]) rfl) 11)
  have e_245 : μ225.1 (P + 2) 3 = μ194.1 (P + 2) 3 := (F_226.1 (P + 2) (ni hprP (fun P => P + 2) (fun P => [P + 1]) rfl) 3)
  have e_246 : μ225.1 P 1 = μ194.1 P 1 := (F_226.1 P (ni hprP (fun P => P) (fun P => [P + 1]) rfl) 1)
  have e_247 : μ225.1 (P + 2) 3 = μ194.1 (P + 2) 3 := (F_226.1 (P + 2) (ni hprP (fun P => P + 2) (fun P => [P + 1]) rfl) 3)
  exact xr_v G hret hlk dX7_openThen_81 ⟨(Fr.tr (Fr.tr (Fr.tr (Fr.tr (Fr.tr (Fr.tr (Fr.tr (Fr.tr (Fr.tr (Fr.tr Fr.rf F_6 (si hprP (fun P => [26, 2, 3, 4, 24]) (fun P => [2, 3, 4, 23, 24, 25, 26, P, P + 1, P + 2, (P + 2) + 1, (P + 2) + 2, (P + 2) + 3]) rfl)) F_21 (si hprP (fun P => [26, 25, 23]) (fun P => [2, 3, 4, 23, 24, 25, 26, P, P + 1, P + 2, (P + 2) + 1, (P + 2) + 2, (P + 2) + 3]) rfl)) F_51 (si hprP (fun P => [P, P + 1]) (fun P => [2, 3, 4, 23, 24, 25, 26, P, P + 1, P + 2, (P + 2) + 1, (P + 2) + 2, (P + 2) + 3]) rfl)) F_83 (si hprP (fun P => [2, 3, 4, 23, 24, 25, 26, P, P + 1, P + 2, (P + 2) + 1, (P + 2) + 2, (P + 2) + 3]) (fun P => [2, 3, 4, 23, 24, 25, 26, P, P + 1, P + 2, (P + 2) + 1, (P + 2) + 2, (P + 2) + 3]) rfl)) F_109 (si hprP (fun P => [P, P + 1]) (fun P => [2, 3, 4, 23, 24, 25, 26, P, P + 1, P + 2, (P + 2) + 1, (P + 2) + 2, (P + 2) + 3]) rfl)) F_127 (si hprP (fun P => [P + 1]) (fun P => [2, 3, 4, 23, 24, 25, 26, P, P + 1, P + 2, (P + 2) + 1, (P + 2) + 2, (P + 2) + 3]) rfl)) F_141 (si hprP (fun P => [26]) (fun P => [2, 3, 4, 23, 24, 25, 26, P, P + 1, P + 2, (P + 2) + 1, (P + 2) + 2, (P + 2) + 3]) rfl)) F_162 (si hprP (fun P => [P, P + 1]) (fun P => [2, 3, 4, 23, 24, 25, 26, P, P + 1, P + 2, (P + 2) + 1, (P + 2) + 2, (P + 2) + 3]) rfl)) F_195 (si hprP (fun P => [2, 3, 4, 23, 24, 25, 26, P, P + 1, P + 2, (P + 2) + 1, (P + 2) + 2, (P + 2) + 3]) (fun P => [2, 3, 4, 23, 24, 25, 26, P, P + 1, P + 2, (P + 2) + 1, (P + 2) + 2, (P + 2) + 3]) rfl)) F_226 (si hprP (fun P => [P + 1]) (fun P => [2, 3, 4, 23, 24, 25, 26, P, P + 1, P + 2, (P + 2) + 1, (P + 2) + 2, (P + 2) + 3]) rfl)), hI_227, htk_238, (by omega), (by omega), (by omega), (by omega), (fun h0 => as_opn (hst ()) ((hXR_232 ()) h0) ⟨by rw [td64x (a := 3) (b := r_5) (by omega) (by omega) (by omega)]; decide, by rw [td64x (a := 3) (b := r_5) (by omega) (by omega) (by omega)]; decide, fun q => absurd (ht.symm.trans q) (by decide)⟩ ht (by omega)), (((F_226.1 23 (ni hprP (fun P => 23) (fun P => [P + 1]) rfl) 2).trans (hs_204.trans ((F_162.1 23 (ni hprP (fun P => 23) (fun P => [P, P + 1]) rfl) 2).trans ((F_141.1 23 (by decide) 2).trans ((F_127.1 23 (ni hprP (fun P => 23) (fun P => [P + 1]) rfl) 2).trans ((F_109.1 23 (ni hprP (fun P => 23) (fun P => [P, P + 1]) rfl) 2).trans (hs_92.trans ((F_51.1 23 (ni hprP (fun P => 23) (fun P => [P, P + 1]) rfl) 2).trans (hs_31.trans ((F_6.1 23 (by decide) 2).trans hP.symm))))))))))).trans hP, ((F_226.1 23 (ni hprP (fun P => 23) (fun P => [P + 1]) rfl) 7).trans (hs_205.trans ((F_162.1 23 (ni hprP (fun P => 23) (fun P => [P, P + 1]) rfl) 7).trans ((F_141.1 23 (by decide) 7).trans ((F_127.1 23 (ni hprP (fun P => 23) (fun P => [P + 1]) rfl) 7).trans ((F_109.1 23 (ni hprP (fun P => 23) (fun P => [P, P + 1]) rfl) 7).trans (hs_93.trans ((F_51.1 23 (ni hprP (fun P => 23) (fun P => [P, P + 1]) rfl) 7).trans (hs_33.trans (F_6.1 23 (by decide) 7)))))))))), (((F_226.1 23 (ni hprP (fun P => 23) (fun P => [P + 1]) rfl) 8).trans (hs_206.trans ((F_162.1 23 (ni hprP (fun P => 23) (fun P => [P, P + 1]) rfl) 8).trans ((F_141.1 23 (by decide) 8).trans ((F_127.1 23 (ni hprP (fun P => 23) (fun P => [P + 1]) rfl) 8).trans ((F_109.1 23 (ni hprP (fun P => 23) (fun P => [P, P + 1]) rfl) 8).trans (hs_94.trans ((F_51.1 23 (ni hprP (fun P => 23) (fun P => [P, P + 1]) rfl) 8).trans (hs_34.trans ((F_6.1 23 (by decide) 8).trans htt.symm))))))))))).trans htt, ((F_226.1 23 (ni hprP (fun P => 23) (fun P => [P + 1]) rfl) 9).trans (hs_207.trans ((F_162.1 23 (ni hprP (fun P => 23) (fun P => [P, P + 1]) rfl) 9).trans ((F_141.1 23 (by decide) 9).trans ((F_127.1 23 (ni hprP (fun P => 23) (fun P => [P + 1]) rfl) 9).trans ((F_109.1 23 (ni hprP (fun P => 23) (fun P => [P, P + 1]) rfl) 9).trans (hs_95.trans ((F_51.1 23 (ni hprP (fun P => 23) (fun P => [P, P + 1]) rfl) 9).trans (hs_35.trans (F_6.1 23 (by decide) 9)))))))))), ((F_226.1 26 (ni hprP (fun P => 26) (fun P => [P + 1]) rfl) 6).trans (hs_208.trans ((F_162.1 26 (ni hprP (fun P => 26) (fun P => [P, P + 1]) rfl) 6).trans (hs_146.trans ((F_127.1 26 (ni hprP (fun P => 26) (fun P => [P + 1]) rfl) 6).trans ((F_109.1 26 (ni hprP (fun P => 26) (fun P => [P, P + 1]) rfl) 6).trans (hs_96.trans ((F_51.1 26 (ni hprP (fun P => 26) (fun P => [P, P + 1]) rfl) 6).trans (hs_27.trans hs_12))))))))), ((F_226.1 P (ni hprP (fun P => P) (fun P => [P + 1]) rfl) 7).trans (hs_209.trans (hs_167.trans ((F_141.1 P (ni hprP (fun P => P) (fun P => [26]) rfl) 7).trans ((F_127.1 P (ni hprP (fun P => P) (fun P => [P + 1]) rfl) 7).trans (hs_114.trans (hs_97.trans (hs_56.trans ((F_21.1 P (ni hprP (fun P => P) (fun P => [26, 25, 23]) rfl) 7).trans (F_6.1 P (ni hprP (fun P => P) (fun P => [26, 2, 3, 4, 24]) rfl) 7))))))))))⟩

set_option maxHeartbeats 4000000 in
set_option maxRecDepth 100000 in
theorem c_X7_withEnd (ω : Om) (l : Launch) (μ : M3) (F : Nat) (Lo : Nat) (kf : Int) (P : Int) (tt : Int) (hI : IC μ) (hP : P = μ.1 23 2) (htt : tt = μ.1 23 8) (hF : 200 ≤ F) (hLo : 6000 ≤ Lo) (hK : ∀ (μ : M3) (P : Int) (tt : Int) (hI : IC μ) (hP : P = μ.1 23 2) (htt : tt = μ.1 23 8) (hTK : TK μ) (hB : 2 * μ.1 P 1 ≤ 5 * μ.1 26 10 + 103 + 80 * μ.1 26 11) (hKc : μ.1 (P + 2) 3 ≤ μ.1 P 1) (ht3 : 0 ≤ tt ∧ tt ≤ 3) (hdp : 0 ≤ μ.1 23 9 ∧ μ.1 23 9 ≤ 8) (hfu : 0 ≤ (kf - 1) ∧ 9 ≤ μ.1 23 9 + (kf - 1)) (hs1 : ∀ _ : Unit, μ.1 26 11 = 0 → HC μ P tt 0), CtV ω l yX7_block cX7_block 2 (F + 0) (Lo + 0) [.ref (oP ω 23)] μ (fun (μ' : M3) => (Fr [2, 3, 4, 23, 24, 25, 26, P, P + 1, P + 2, (P + 2) + 1, (P + 2) + 2, (P + 2) + 3] μ μ') ∧ (IC μ') ∧ (TK μ') ∧ (μ.1 26 11 ≤ μ'.1 26 11) ∧ (μ.1 26 10 ≤ μ'.1 26 10) ∧ (μ.1 P 1 ≤ μ'.1 P 1 ∧ 2 * μ'.1 P 1 ≤ 2 * μ.1 P 1 + 5 * (μ'.1 26 10 - μ.1 26 10) + (- 10 + 15 * μ'.1 26 11 - 5 * μ.1 26 11)) ∧ (μ'.1 (P + 2) 3 - μ.1 (P + 2) 3 ≤ μ'.1 P 1 - μ.1 P 1 ∧ μ.1 (P + 2) 3 ≤ μ'.1 (P + 2) 3) ∧ (μ'.1 26 11 = 0 → EX μ μ' P tt 0 (2 * (7 - μ.1 23 9))) ∧ (μ.1 23 9 ≤ 7 + 100 * μ'.1 26 11) ∧ (μ'.1 23 2 = μ.1 23 2) ∧ (μ'.1 23 7 = μ.1 23 7) ∧ (μ'.1 23 8 = μ.1 23 8) ∧ (μ'.1 23 9 = μ.1 23 9) ∧ (μ'.1 26 6 = μ.1 26 6) ∧ (μ'.1 P 7 = μ.1 P 7))) (hTK : TK μ) (hB : 2 * μ.1 P 1 ≤ 5 * μ.1 26 10 + 95 + 80 * μ.1 26 11) (hKc : μ.1 (P + 2) 3 ≤ μ.1 P 1) (ht3 : 0 ≤ tt ∧ tt ≤ 3) (hdp : 0 ≤ μ.1 23 9 ∧ μ.1 23 9 ≤ 8) (hs0 : μ.1 26 11 = 0) (hfu : 10 ≤ μ.1 23 9 + kf) (hst : ∀ _ : Unit, STP μ P tt) (ht : tt = 2) : CtV ω l yX7_withEnd cX7_withEnd 2 (F + 2) (Lo + 42) [.ref (oP ω 23)] μ (fun (μ' : M3) => (Fr [2, 3, 4, 23, 24, 25, 26, P, P + 1, P + 2, (P + 2) + 1, (P + 2) + 2, (P + 2) + 3] μ μ') ∧ (IC μ') ∧ (TK μ') ∧ (μ.1 26 11 ≤ μ'.1 26 11) ∧ (μ.1 26 10 ≤ μ'.1 26 10) ∧ (μ.1 P 1 ≤ μ'.1 P 1 ∧ 2 * μ'.1 P 1 ≤ 2 * μ.1 P 1 + 5 * (μ'.1 26 10 - μ.1 26 10) + (- 19 + 30 * μ'.1 26 11)) ∧ (μ'.1 (P + 2) 3 - μ.1 (P + 2) 3 ≤ μ'.1 P 1 - μ.1 P 1 ∧ μ.1 (P + 2) 3 ≤ μ'.1 (P + 2) 3) ∧ (μ'.1 26 11 = 0 → ES μ μ' P tt ((2 * (7 - μ.1 23 9)) + 1)) ∧ (μ'.1 23 2 = μ.1 23 2) ∧ (μ'.1 23 7 = μ.1 23 7) ∧ (μ'.1 23 8 = μ.1 23 8) ∧ (μ'.1 23 9 = μ.1 23 9) ∧ (μ'.1 26 6 = μ.1 26 6) ∧ (μ'.1 P 7 = μ.1 P 7)) := by
  refine CtV.go (by decide) (Nat.le_of_ble_eq_true rfl) (fun ρ p e s m below meth c R ls G hR hret hlk hl => ?_)
  have hx := G.1.1
  have hb := G.1.2.1
  have hl : lv_has ls 2 [(0, .ref (oP ω 23))] := hl
  generalize s.drawn = d0 at G ⊢
  have hTKb := hTK.b
  have hprP : isPr P := by have h9 := G.sr0.2.2.2.2.2; rw [← hP] at h9; exact h9
  have hprP_d : 13 ≤ P ∧ P ≤ 101 := by rcases hprP with h9 | h9 | h9 | h9 | h9 <;> omega
  have hk_1 := hI.pr (p := P) hprP
  unfold pk at hk_1
  have hc_2 : 16 ≤ μ.2.1 (P + 1) ∧ μ.2.1 (P + 1) ≤ 73024 := hI.rm.1 _ hprP.cap
  have hX0_ : ∀ _ : Unit, μ.1 26 11 = 0 → q0 μ P μ := fun _ _ => ⟨EXT.rf, rfl⟩
  have hXH_ : ∀ _ : Unit, μ.1 26 11 = 0 → HC μ P tt 1 := fun _ _ => (HC.of (hst ())).c (by rw [if_neg (by omega)])
  refine lv_aload_n hx hb dX7_withEnd_0 rfl (lv_at hl 0 rfl) ?_
  refine lv_bipush (v := iv 28) hx hb dX7_withEnd_1 rfl ?_
  refine lv_iconst (v := iv 0) hx hb dX7_withEnd_3 rfl ?_
  refine lv_iconst (v := iv 0) hx hb dX7_withEnd_4 rfl ?_
  have e_3 : μ.1 23 2 = P := hP.symm
  refine xc_iV G (b := 23) (rest := []) (As := [.int (iv 28), .int (iv 0), .int (iv 0)]) (c_X7_add ω l μ 28 0 0 P (by unfold ir; omega) (by unfold ir; omega) (by unfold ir; omega) hI (by omega) (by omega)) (wm 3 226 rfl rfl) (wm 3 228 rfl rfl) (wm 0 21 rfl rfl) rfl rfl (by decide) rfl (wm 1 12 rfl rfl) (wm 3 229 rfl rfl) (by decide) hR ⟨nfB hF (by decide), nlB hLo (by decide)⟩ (n := 3) rfl rfl (Nat.le_of_ble_eq_true rfl) hl.1 dX7_withEnd_5 (fun r_5 μ4 ρ d0 H locs hr_r_5 hp G => ?_)
  have hr_r_5 : -2147483648 ≤ r_5 ∧ r_5 ≤ 2147483647 := hr_r_5
  obtain ⟨F_6, hI_7, hp_8, hp_9, hs_10, hs_11⟩ := hp
  have hXR_12 : ∀ _ : Unit, μ4.1 26 11 = 0 → (Th (q0 μ P) (qA P 28 0 0 r_5)) μ4 := fun _ h0 => ⟨_, (hX0_ ()) (by have h9 : μ.1 26 11 = μ.1 26 11 := rfl; have h8 : μ4.1 26 11 = μ.1 26 11 := (F_6.1 26 (ni hprP (fun P => 26) (fun P => [P, P + 1]) rfl) 11); omega), hp_9, hp_8⟩
  have hXH_13 : ∀ _ : Unit, μ4.1 26 11 = 0 → HC μ4 P tt 0 := fun _ h0 => (((hXH_ ()) (by have h9 : μ.1 26 11 = μ.1 26 11 := rfl; have h8 : μ4.1 26 11 = μ.1 26 11 := (F_6.1 26 (ni hprP (fun P => 26) (fun P => [P, P + 1]) rfl) 11); omega)).ad hp_9 (Or.inl rfl)).c rfl
  have hXw_14 : ∀ _ : Unit, μ4.1 26 11 = 0 → Wp μ4 P r_5 28 := fun _ h0 => Wp.of hp_9 ((hXH_ ()) (by have h9 : μ.1 26 11 = μ.1 26 11 := rfl; have h8 : μ4.1 26 11 = μ.1 26 11 := (F_6.1 26 (ni hprP (fun P => 26) (fun P => [P, P + 1]) rfl) 11); omega)).1 hp_8
  refine lv_istore_n (lv' := [(1, .int (iv r_5)), (0, .ref (oP ω 23))]) hx hb dX7_withEnd_8 rfl hl (by decide) rfl (fun ls hl => ?_)
  refine lv_aload_n hx hb dX7_withEnd_9 rfl (lv_at hl 1 rfl) ?_
  have e_15 : μ4.1 23 2 = P := ((F_6.1 23 (ni hprP (fun P => 23) (fun P => [P, P + 1]) rfl) 2).trans hP.symm)
  have e_16 : μ4.1 23 8 = tt := ((F_6.1 23 (ni hprP (fun P => 23) (fun P => [P, P + 1]) rfl) 8).trans htt.symm)
  have htk_17 : TK μ4 := hTK.fr (K := [P, P + 1]) (Fr.tr Fr.rf F_6 (si hprP (fun P => [P, P + 1]) (fun P => [P, P + 1]) rfl)) (ni hprP (fun P => 26) (fun P => [P, P + 1]) rfl) (ni hprP (fun P => 28) (fun P => [P, P + 1]) rfl) (ni hprP (fun P => 29) (fun P => [P, P + 1]) rfl)
  have e_18 : μ4.1 P 1 = μ.1 P 1 + 1 := hs_10
  have hn_19 : -1 ≤ μ.1 26 10 ∧ μ.1 26 10 ≤ 3000 := hI.nm.2.2.2.2.2.2.2.2.2.2.2.2
  have e_20 : μ4.1 26 10 = μ.1 26 10 := (F_6.1 26 (ni hprP (fun P => 26) (fun P => [P, P + 1]) rfl) 10)
  have e_21 : μ4.1 26 11 = μ.1 26 11 := (F_6.1 26 (ni hprP (fun P => 26) (fun P => [P, P + 1]) rfl) 11)
  have hk_22 := hI.row (r := P + 2) (hprP.row)
  unfold rk at hk_22
  have e_23 : μ4.1 (P + 2) 3 = μ.1 (P + 2) 3 := (F_6.1 (P + 2) (ni hprP (fun P => P + 2) (fun P => [P, P + 1]) rfl) 3)
  have e_24 : μ4.1 P 1 = μ.1 P 1 + 1 := hs_10
  have e_25 : μ4.1 23 9 = μ.1 23 9 := (F_6.1 23 (ni hprP (fun P => 23) (fun P => [P, P + 1]) rfl) 9)
  have e_26 : μ4.1 23 9 = μ.1 23 9 := (F_6.1 23 (ni hprP (fun P => 23) (fun P => [P, P + 1]) rfl) 9)
  have e_27 : μ4.1 23 9 = μ.1 23 9 := (F_6.1 23 (ni hprP (fun P => 23) (fun P => [P, P + 1]) rfl) 9)
  have e_28 : μ4.1 26 11 = μ.1 26 11 := (F_6.1 26 (ni hprP (fun P => 26) (fun P => [P, P + 1]) rfl) 11)
  have e_29 : μ4.1 26 10 = μ.1 26 10 := (F_6.1 26 (ni hprP (fun P => 26) (fun P => [P, P + 1]) rfl) 10)
  have e_30 : μ4.1 P 1 = μ.1 P 1 + 1 := hs_10
  have e_31 : μ4.1 P 1 = μ.1 P 1 + 1 := hs_10
  have e_32 : μ4.1 26 10 = μ.1 26 10 := (F_6.1 26 (ni hprP (fun P => 26) (fun P => [P, P + 1]) rfl) 10)
  have e_33 : μ4.1 26 11 = μ.1 26 11 := (F_6.1 26 (ni hprP (fun P => 26) (fun P => [P, P + 1]) rfl) 11)
  have e_34 : μ4.1 (P + 2) 3 = μ.1 (P + 2) 3 := (F_6.1 (P + 2) (ni hprP (fun P => P + 2) (fun P => [P, P + 1]) rfl) 3)
  have e_35 : μ4.1 P 1 = μ.1 P 1 + 1 := hs_10
  have e_36 : μ4.1 (P + 2) 3 = μ.1 (P + 2) 3 := (F_6.1 (P + 2) (ni hprP (fun P => P + 2) (fun P => [P, P + 1]) rfl) 3)
  have e_37 : μ4.1 23 9 = μ.1 23 9 := (F_6.1 23 (ni hprP (fun P => 23) (fun P => [P, P + 1]) rfl) 9)
  refine xc_vV G (b := 23) (rest := []) (As := []) (((fun (_ : Om) (_ : Launch) => hK)) ω l μ4 P tt hI_7 (by omega) (by omega) htk_17 (by omega) (by omega) (by omega) (by omega) (by omega) (fun _ => (hXH_13 ()))) (wm 3 218 rfl rfl) (wm 3 220 rfl rfl) (wm 0 19 rfl rfl) rfl rfl (by decide) rfl (wm 1 12 rfl rfl) (wm 3 221 rfl rfl) (by decide) hR ⟨sfr (F := F) (a := 0) (by decide), slo (L := Lo) (m := 2) (a := 0) (by decide)⟩ (n := 0) rfl rfl (Nat.le_of_ble_eq_true rfl) hl.1 dX7_withEnd_10 (fun μ38 ρ d0 H locs hp G => ?_)
  obtain ⟨F_39, hI_40, hp_41, hp_42, hp_43, hp_44, hp_45, hp_46, hp_47, hs_48, hs_49, hs_50, hs_51, hs_52, hs_53⟩ := hp
  have hn_54 : -1 ≤ μ38.1 26 10 ∧ μ38.1 26 10 ≤ 3000 := hI_40.nm.2.2.2.2.2.2.2.2.2.2.2.2
  have hk_55 := hI_40.pr (p := P) hprP
  unfold pk at hk_55
  have hc_56 : 16 ≤ μ38.2.1 (P + 1) ∧ μ38.2.1 (P + 1) ≤ 73024 := hI_40.rm.1 _ hprP.cap
  have hk_57 := hI_40.row (r := P + 2) (hprP.row)
  unfold rk at hk_57
  have htb_58 := hp_41.b
  replace hp_46 := fun _ : Unit => hp_46
  have hXR_59 : ∀ _ : Unit, μ38.1 26 11 = 0 → (Th (Th (q0 μ P) (qA P 28 0 0 r_5)) (qE P tt 0 (2 * (7 - μ.1 23 9)))) μ38 := fun _ h0 => ⟨_, (hXR_12 ()) (by have h9 : μ4.1 26 11 = μ.1 26 11 := (F_6.1 26 (ni hprP (fun P => 26) (fun P => [P, P + 1]) rfl) 11); have h8 : μ38.1 26 11 = μ38.1 26 11 := rfl; omega), (((hp_46 ()) h0).mn (by have h9 : μ4.1 23 9 = μ.1 23 9 := (F_6.1 23 (ni hprP (fun P => 23) (fun P => [P, P + 1]) rfl) 9); omega))⟩
  have hXH_60 : ∀ _ : Unit, μ38.1 26 11 = 0 → HC μ38 P tt 0 := fun _ h0 => HC.ex ((hXH_13 ()) (by have h9 : μ4.1 26 11 = μ.1 26 11 := (F_6.1 26 (ni hprP (fun P => 26) (fun P => [P, P + 1]) rfl) 11); have h8 : μ38.1 26 11 = μ38.1 26 11 := rfl; omega)) ((hp_46 ()) h0)
  have hXw_61 : ∀ _ : Unit, μ38.1 26 11 = 0 → Wp μ38 P r_5 28 := fun _ h0 => ((hXw_14 ()) (by have h9 : μ4.1 26 11 = μ.1 26 11 := (F_6.1 26 (ni hprP (fun P => 26) (fun P => [P, P + 1]) rfl) 11); have h8 : μ38.1 26 11 = μ38.1 26 11 := rfl; omega)).ext ((hp_46 ()) h0).1
  refine lv_aload_n hx hb dX7_withEnd_13 rfl (lv_at hl 1 rfl) ?_
  refine lv_sipush (v := iv 217) hx hb dX7_withEnd_14 rfl ?_
  refine xc_vV G (b := 23) (rest := []) (As := [.int (iv 217)]) (c_X7_need_b ω l μ38 217 (by unfold ir; omega) hI_40 hp_41 (by omega)) (wm 3 169 rfl rfl) (wm 3 171 rfl rfl) (wm 0 11 rfl rfl) rfl rfl (by decide) rfl (wm 1 12 rfl rfl) (wm 3 172 rfl rfl) (by decide) hR ⟨nfB hF (by decide), nlB hLo (by decide)⟩ (n := 1) rfl rfl (Nat.le_of_ble_eq_true rfl) hl.1 dX7_withEnd_17 (fun μ62 ρ d0 H locs hp G => ?_)
  obtain ⟨F_63, hI_64, hp_65, hp_66, hp_67, hs_68, hs_69, hs_70, hs_71⟩ := hp
  have hn_72 : -1 ≤ μ62.1 26 10 ∧ μ62.1 26 10 ≤ 3000 := hI_64.nm.2.2.2.2.2.2.2.2.2.2.2.2
  have htb_73 := hp_65.b
  refine lv_aload_n hx hb dX7_withEnd_20 rfl (lv_at hl 1 rfl) ?_
  refine lv_iload_n hx hb dX7_withEnd_21 rfl (lv_at hl 0 rfl) ?_
  have htR_74 : ∀ _ : Unit, μ62.1 26 11 = 0 → (Th (Th (q0 μ P) (qA P 28 0 0 r_5)) (qE P tt 0 (2 * (7 - μ.1 23 9)))) μ62 := fun _ h0 => ThE (K := [26]) (hXR_59 () (by have h9 : μ38.1 26 11 = μ38.1 26 11 := rfl; have h8 : μ62.1 26 11 = μ62.1 26 11 := rfl; omega)) (Fr.tr Fr.rf F_63 (by decide)) (npL_p (L := [26]) (by decide) hprP).1 (npL_p (L := [26]) (by decide) hprP).2.1
  have htH_75 : ∀ _ : Unit, μ62.1 26 11 = 0 → HC μ62 P tt 0 := fun _ h0 => HC.fr (K := [26]) (hXH_60 () (by have h9 : μ38.1 26 11 = μ38.1 26 11 := rfl; have h8 : μ62.1 26 11 = μ62.1 26 11 := rfl; omega)) (Fr.tr Fr.rf F_63 (by decide)) (npL_p (L := [26]) (by decide) hprP).1 (npL_p (L := [26]) (by decide) hprP).2.1
  have htw_76 : ∀ _ : Unit, μ62.1 26 11 = 0 → Wp μ62 P r_5 28 := fun _ h0 => Wp.fr (K := [26]) (hXw_61 () (by have h9 : μ38.1 26 11 = μ38.1 26 11 := rfl; have h8 : μ62.1 26 11 = μ62.1 26 11 := rfl; omega)) (Fr.tr Fr.rf F_63 (by decide)) (npL_p (L := [26]) (by decide) hprP).1 (npL_p (L := [26]) (by decide) hprP).2.1
  have e_77 : μ62.1 23 2 = P := ((F_63.1 23 (by decide) 2).trans (hs_48.trans ((F_6.1 23 (ni hprP (fun P => 23) (fun P => [P, P + 1]) rfl) 2).trans hP.symm)))
  have e_78 : μ62.1 23 8 = tt := ((F_63.1 23 (by decide) 8).trans (hs_50.trans ((F_6.1 23 (ni hprP (fun P => 23) (fun P => [P, P + 1]) rfl) 8).trans htt.symm)))
  have e_79 : μ62.1 P 1 = μ38.1 P 1 := (F_63.1 P (ni hprP (fun P => P) (fun P => [26]) rfl) 1)
  have e_80 : μ62.1 (P + 2) 3 = μ38.1 (P + 2) 3 := (F_63.1 (P + 2) (ni hprP (fun P => P + 2) (fun P => [26]) rfl) 3)
  have e_81 : μ62.1 P 1 = μ38.1 P 1 := (F_63.1 P (ni hprP (fun P => P) (fun P => [26]) rfl) 1)
  have e_82 : μ62.1 23 9 = μ.1 23 9 := ((F_63.1 23 (by decide) 9).trans (hs_51.trans (F_6.1 23 (ni hprP (fun P => 23) (fun P => [P, P + 1]) rfl) 9)))
  have e_83 : μ62.1 23 9 = μ.1 23 9 := ((F_63.1 23 (by decide) 9).trans (hs_51.trans (F_6.1 23 (ni hprP (fun P => 23) (fun P => [P, P + 1]) rfl) 9)))
  have e_84 : μ62.1 P 1 = μ38.1 P 1 := (F_63.1 P (ni hprP (fun P => P) (fun P => [26]) rfl) 1)
  have e_85 : μ62.1 P 1 = μ38.1 P 1 := (F_63.1 P (ni hprP (fun P => P) (fun P => [26]) rfl) 1)
  have e_86 : μ62.1 (P + 2) 3 = μ38.1 (P + 2) 3 := (F_63.1 (P + 2) (ni hprP (fun P => P + 2) (fun P => [26]) rfl) 3)
  have e_87 : μ62.1 P 1 = μ38.1 P 1 := (F_63.1 P (ni hprP (fun P => P) (fun P => [26]) rfl) 1)
  have e_88 : μ62.1 (P + 2) 3 = μ38.1 (P + 2) 3 := (F_63.1 (P + 2) (ni hprP (fun P => P + 2) (fun P => [26]) rfl) 3)
  refine xc_vV G (b := 23) (rest := []) (As := [.int (iv r_5)]) (c_X7_finishing ω l μ62 r_5 F Lo kf P tt (by unfold ir; omega) hI_64 (by omega) (by omega) hF hLo hK hp_65 (by omega) (by omega) (by omega) (by omega) (by omega) (fun _ => (htw_76 ())) (fun _ => (htH_75 ()))) (wm 4 167 rfl rfl) (wm 4 169 rfl rfl) (wm 0 54 rfl rfl) rfl rfl (by decide) rfl (wm 1 12 rfl rfl) (wm 4 170 rfl rfl) (by decide) hR ⟨sfr (F := F) (a := 1) (by decide), slo (L := Lo) (m := 2) (a := 21) (by decide)⟩ (n := 1) rfl rfl (Nat.le_of_ble_eq_true rfl) hl.1 dX7_withEnd_22 (fun μ89 ρ d0 H locs hp G => ?_)
  obtain ⟨F_90, hI_91, hp_92, hp_93, hp_94, hp_95, hp_96, hp_97, hs_98, hs_99, hs_100, hs_101, hs_102, hs_103⟩ := hp
  have hn_104 : -1 ≤ μ89.1 26 10 ∧ μ89.1 26 10 ≤ 3000 := hI_91.nm.2.2.2.2.2.2.2.2.2.2.2.2
  have hk_105 := hI_91.pr (p := P) hprP
  unfold pk at hk_105
  have hc_106 : 16 ≤ μ89.2.1 (P + 1) ∧ μ89.2.1 (P + 1) ≤ 73024 := hI_91.rm.1 _ hprP.cap
  have hk_107 := hI_91.row (r := P + 2) (hprP.row)
  unfold rk at hk_107
  have htb_108 := hp_92.b
  replace hp_97 := fun _ : Unit => hp_97
  have hXR_109 : ∀ _ : Unit, μ89.1 26 11 = 0 → (Th (Th (Th (q0 μ P) (qA P 28 0 0 r_5)) (qE P tt 0 (2 * (7 - μ.1 23 9)))) (qI P tt r_5 (2 * (7 - μ.1 23 9)))) μ89 := fun _ h0 => ⟨_, (htR_74 ()) (by have h9 : μ62.1 26 11 = μ62.1 26 11 := rfl; have h8 : μ89.1 26 11 = μ89.1 26 11 := rfl; omega), ((hp_97 ()) h0).mn (by have h9 : μ62.1 23 9 = μ.1 23 9 := ((F_63.1 23 (by decide) 9).trans (hs_51.trans (F_6.1 23 (ni hprP (fun P => 23) (fun P => [P, P + 1]) rfl) 9))); omega)⟩
  clear hk_1 hc_2 hk_22 hk_55 hc_56 hk_57 hk_105 hc_106 hk_107
  exact xr_v G hret hlk dX7_withEnd_25 ⟨(Fr.tr (Fr.tr (Fr.tr (Fr.tr Fr.rf F_6 (si hprP (fun P => [P, P + 1]) (fun P => [2, 3, 4, 23, 24, 25, 26, P, P + 1, P + 2, (P + 2) + 1, (P + 2) + 2, (P + 2) + 3]) rfl)) F_39 (si hprP (fun P => [2, 3, 4, 23, 24, 25, 26, P, P + 1, P + 2, (P + 2) + 1, (P + 2) + 2, (P + 2) + 3]) (fun P => [2, 3, 4, 23, 24, 25, 26, P, P + 1, P + 2, (P + 2) + 1, (P + 2) + 2, (P + 2) + 3]) rfl)) F_63 (si hprP (fun P => [26]) (fun P => [2, 3, 4, 23, 24, 25, 26, P, P + 1, P + 2, (P + 2) + 1, (P + 2) + 2, (P + 2) + 3]) rfl)) F_90 (si hprP (fun P => [2, 3, 4, 23, 24, 25, 26, P, P + 1, P + 2, (P + 2) + 1, (P + 2) + 2, (P + 2) + 3]) (fun P => [2, 3, 4, 23, 24, 25, 26, P, P + 1, P + 2, (P + 2) + 1, (P + 2) + 2, (P + 2) + 3]) rfl)), hI_91, hp_92, (by omega), (by omega), (by omega), (by omega), (fun h0 => as_wth (hst ()) ht ((hXR_109 ()) h0)), ((hs_98.trans ((F_63.1 23 (by decide) 2).trans (hs_48.trans ((F_6.1 23 (ni hprP (fun P => 23) (fun P => [P, P + 1]) rfl) 2).trans hP.symm))))).trans hP, (hs_99.trans ((F_63.1 23 (by decide) 7).trans (hs_49.trans (F_6.1 23 (ni hprP (fun P => 23) (fun P => [P, P + 1]) rfl) 7)))), ((hs_100.trans ((F_63.1 23 (by decide) 8).trans (hs_50.trans ((F_6.1 23 (ni hprP (fun P => 23) (fun P => [P, P + 1]) rfl) 8).trans htt.symm))))).trans htt, (hs_101.trans ((F_63.1 23 (by decide) 9).trans (hs_51.trans (F_6.1 23 (ni hprP (fun P => 23) (fun P => [P, P + 1]) rfl) 9)))), (hs_102.trans (hs_68.trans (hs_52.trans (F_6.1 26 (ni hprP (fun P => 26) (fun P => [P, P + 1]) rfl) 6)))), (hs_103.trans ((F_63.1 P (ni hprP (fun P => P) (fun P => [26]) rfl) 7).trans (hs_53.trans hs_11)))⟩

set_option maxHeartbeats 4000000 in
set_option maxRecDepth 100000 in
theorem c_X7_cleanDo (ω : Om) (l : Launch) (μ : M3) (F : Nat) (Lo : Nat) (kf : Int) (P : Int) (tt : Int) (hI : IC μ) (hP : P = μ.1 23 2) (htt : tt = μ.1 23 8) (hF : 200 ≤ F) (hLo : 6000 ≤ Lo) (hK : ∀ (μ : M3) (P : Int) (tt : Int) (hI : IC μ) (hP : P = μ.1 23 2) (htt : tt = μ.1 23 8) (hTK : TK μ) (hB : 2 * μ.1 P 1 ≤ 5 * μ.1 26 10 + 103 + 80 * μ.1 26 11) (hKc : μ.1 (P + 2) 3 ≤ μ.1 P 1) (ht3 : 0 ≤ tt ∧ tt ≤ 3) (hdp : 0 ≤ μ.1 23 9 ∧ μ.1 23 9 ≤ 8) (hfu : 0 ≤ (kf - 1) ∧ 9 ≤ μ.1 23 9 + (kf - 1)) (hs1 : ∀ _ : Unit, μ.1 26 11 = 0 → HC μ P tt 0), CtV ω l yX7_block cX7_block 2 (F + 0) (Lo + 0) [.ref (oP ω 23)] μ (fun (μ' : M3) => (Fr [2, 3, 4, 23, 24, 25, 26, P, P + 1, P + 2, (P + 2) + 1, (P + 2) + 2, (P + 2) + 3] μ μ') ∧ (IC μ') ∧ (TK μ') ∧ (μ.1 26 11 ≤ μ'.1 26 11) ∧ (μ.1 26 10 ≤ μ'.1 26 10) ∧ (μ.1 P 1 ≤ μ'.1 P 1 ∧ 2 * μ'.1 P 1 ≤ 2 * μ.1 P 1 + 5 * (μ'.1 26 10 - μ.1 26 10) + (- 10 + 15 * μ'.1 26 11 - 5 * μ.1 26 11)) ∧ (μ'.1 (P + 2) 3 - μ.1 (P + 2) 3 ≤ μ'.1 P 1 - μ.1 P 1 ∧ μ.1 (P + 2) 3 ≤ μ'.1 (P + 2) 3) ∧ (μ'.1 26 11 = 0 → EX μ μ' P tt 0 (2 * (7 - μ.1 23 9))) ∧ (μ.1 23 9 ≤ 7 + 100 * μ'.1 26 11) ∧ (μ'.1 23 2 = μ.1 23 2) ∧ (μ'.1 23 7 = μ.1 23 7) ∧ (μ'.1 23 8 = μ.1 23 8) ∧ (μ'.1 23 9 = μ.1 23 9) ∧ (μ'.1 26 6 = μ.1 26 6) ∧ (μ'.1 P 7 = μ.1 P 7))) (hTK : TK μ) (hB : 2 * μ.1 P 1 ≤ 5 * μ.1 26 10 + 95 + 80 * μ.1 26 11) (hKc : μ.1 (P + 2) 3 ≤ μ.1 P 1) (ht3 : 0 ≤ tt ∧ tt ≤ 3) (hdp : 0 ≤ μ.1 23 9 ∧ μ.1 23 9 ≤ 8) (hs0 : μ.1 26 11 = 0) (hfu : 10 ≤ μ.1 23 9 + kf) (hst : ∀ _ : Unit, STP μ P tt) (ht : tt = 3) : CtV ω l yX7_cleanDo cX7_cleanDo 5 (F + 1) (Lo + 21) [.ref (oP ω 23)] μ (fun (μ' : M3) => (Fr [2, 3, 4, 23, 24, 25, 26, P, P + 1, P + 2, (P + 2) + 1, (P + 2) + 2, (P + 2) + 3] μ μ') ∧ (IC μ') ∧ (TK μ') ∧ (μ.1 26 11 ≤ μ'.1 26 11) ∧ (μ.1 26 10 ≤ μ'.1 26 10) ∧ (μ.1 P 1 ≤ μ'.1 P 1 ∧ 2 * μ'.1 P 1 ≤ 2 * μ.1 P 1 + 5 * (μ'.1 26 10 - μ.1 26 10) + (- 17 + 30 * μ'.1 26 11)) ∧ (μ'.1 (P + 2) 3 - μ.1 (P + 2) 3 ≤ μ'.1 P 1 - μ.1 P 1 ∧ μ.1 (P + 2) 3 ≤ μ'.1 (P + 2) 3) ∧ (μ'.1 26 11 = 0 → ES μ μ' P tt ((2 * (7 - μ.1 23 9)) + 1)) ∧ (μ'.1 23 2 = μ.1 23 2) ∧ (μ'.1 23 7 = μ.1 23 7) ∧ (μ'.1 23 8 = μ.1 23 8) ∧ (μ'.1 23 9 = μ.1 23 9) ∧ (μ'.1 26 6 = μ.1 26 6) ∧ (μ'.1 P 7 = μ.1 P 7)) := by
  refine CtV.go (by decide) (Nat.le_of_ble_eq_true rfl) (fun ρ p e s m below meth c R ls G hR hret hlk hl => ?_)
  have hx := G.1.1
  have hb := G.1.2.1
  have hl : lv_has ls 5 [(0, .ref (oP ω 23))] := hl
  generalize s.drawn = d0 at G ⊢
  have hTKb := hTK.b
  have hprP : isPr P := by have h9 := G.sr0.2.2.2.2.2; rw [← hP] at h9; exact h9
  have hprP_d : 13 ≤ P ∧ P ≤ 101 := by rcases hprP with h9 | h9 | h9 | h9 | h9 <;> omega
  have hk_1 := hI.pr (p := P) hprP
  unfold pk at hk_1
  have hc_2 : 16 ≤ μ.2.1 (P + 1) ∧ μ.2.1 (P + 1) ≤ 73024 := hI.rm.1 _ hprP.cap
  have hX0_ : ∀ _ : Unit, μ.1 26 11 = 0 → q0 μ P μ := fun _ _ => ⟨EXT.rf, rfl⟩
  have hXH_ : ∀ _ : Unit, μ.1 26 11 = 0 → HC μ P tt 1 := fun _ _ => (HC.of (hst ())).c (by rw [if_neg (by omega)])
  refine lv_aload_n hx hb dX7_cleanDo_0 rfl (lv_at hl 0 rfl) ?_
  refine lv_bipush (v := iv 28) hx hb dX7_cleanDo_1 rfl ?_
  refine lv_iconst (v := iv 0) hx hb dX7_cleanDo_3 rfl ?_
  refine lv_iconst (v := iv 4) hx hb dX7_cleanDo_4 rfl ?_
  refine lv_iconst (v := iv 0) hx hb dX7_cleanDo_5 rfl ?_
  refine xc_iS G (rest := [.int (iv 0), .int (iv 28), .ref (oP ω 23)]) (As := [.int (iv 4), .int (iv 0)]) (c_X3_detail ω l μ 4 0 (by unfold ir; omega) (by unfold ir; omega) (by omega)) (wm 4 156 rfl rfl) (wm 4 157 rfl rfl) (wm 1 17 rfl rfl) (wm 4 158 rfl rfl) (by decide) hR ⟨nfB hF (by decide), nlB hLo (by decide)⟩ (n := 2) rfl rfl (Nat.le_of_ble_eq_true rfl) hl.1 dX7_cleanDo_6 (fun r_4 μ3 ρ d0 H locs hr_r_4 hp G => ?_)
  have hr_r_4 : -2147483648 ≤ r_4 ∧ r_4 ≤ 2147483647 := hr_r_4
  obtain ⟨hsm_5, hp_6⟩ := hp
  have hsm_5 := Eq.symm hsm_5
  subst hsm_5
  have e_7 : μ.1 23 2 = P := hP.symm
  refine xc_iV G (b := 23) (rest := []) (As := [.int (iv 28), .int (iv 0), .int (iv r_4)]) (c_X7_add ω l μ 28 0 r_4 P (by unfold ir; omega) (by unfold ir; omega) (by unfold ir; omega) hI (by omega) (by omega)) (wm 3 226 rfl rfl) (wm 3 228 rfl rfl) (wm 0 21 rfl rfl) rfl rfl (by decide) rfl (wm 1 12 rfl rfl) (wm 3 229 rfl rfl) (by decide) hR ⟨nfB hF (by decide), nlB hLo (by decide)⟩ (n := 3) rfl rfl (Nat.le_of_ble_eq_true rfl) hl.1 dX7_cleanDo_9 (fun r_9 μ8 ρ d0 H locs hr_r_9 hp G => ?_)
  have hr_r_9 : -2147483648 ≤ r_9 ∧ r_9 ≤ 2147483647 := hr_r_9
  obtain ⟨F_10, hI_11, hp_12, hp_13, hs_14, hs_15⟩ := hp
  have hXR_16 : ∀ _ : Unit, μ8.1 26 11 = 0 → (Th (q0 μ P) (qA P 28 0 r_4 r_9)) μ8 := fun _ h0 => ⟨_, (hX0_ ()) (by have h9 : μ.1 26 11 = μ.1 26 11 := rfl; have h8 : μ8.1 26 11 = μ.1 26 11 := (F_10.1 26 (ni hprP (fun P => 26) (fun P => [P, P + 1]) rfl) 11); omega), hp_13, hp_12⟩
  have hXH_17 : ∀ _ : Unit, μ8.1 26 11 = 0 → HC μ8 P tt 0 := fun _ h0 => (((hXH_ ()) (by have h9 : μ.1 26 11 = μ.1 26 11 := rfl; have h8 : μ8.1 26 11 = μ.1 26 11 := (F_10.1 26 (ni hprP (fun P => 26) (fun P => [P, P + 1]) rfl) 11); omega)).ad hp_13 (Or.inl rfl)).c rfl
  have hXw_18 : ∀ _ : Unit, μ8.1 26 11 = 0 → Wp μ8 P r_9 28 := fun _ h0 => Wp.of hp_13 ((hXH_ ()) (by have h9 : μ.1 26 11 = μ.1 26 11 := rfl; have h8 : μ8.1 26 11 = μ.1 26 11 := (F_10.1 26 (ni hprP (fun P => 26) (fun P => [P, P + 1]) rfl) 11); omega)).1 hp_12
  refine lv_istore_n (lv' := [(1, .int (iv r_9)), (0, .ref (oP ω 23))]) hx hb dX7_cleanDo_12 rfl hl (by decide) rfl (fun ls hl => ?_)
  refine lv_aload_n hx hb dX7_cleanDo_13 rfl (lv_at hl 1 rfl) ?_
  refine lv_bipush (v := iv 19) hx hb dX7_cleanDo_14 rfl ?_
  refine lv_iconst (v := iv 0) hx hb dX7_cleanDo_16 rfl ?_
  refine lv_iconst (v := iv 0) hx hb dX7_cleanDo_17 rfl ?_
  have e_19 : μ8.1 23 2 = P := ((F_10.1 23 (ni hprP (fun P => 23) (fun P => [P, P + 1]) rfl) 2).trans hP.symm)
  have e_20 : μ8.1 P 1 = μ.1 P 1 + 1 := hs_14
  have e_21 : μ8.1 P 1 = μ.1 P 1 + 1 := hs_14
  have e_22 : μ8.1 P 1 = μ.1 P 1 + 1 := hs_14
  refine xc_iV G (b := 23) (rest := []) (As := [.int (iv 19), .int (iv 0), .int (iv 0)]) (c_X7_add ω l μ8 19 0 0 P (by unfold ir; omega) (by unfold ir; omega) (by unfold ir; omega) hI_11 (by omega) (by omega)) (wm 3 226 rfl rfl) (wm 3 228 rfl rfl) (wm 0 21 rfl rfl) rfl rfl (by decide) rfl (wm 1 12 rfl rfl) (wm 3 229 rfl rfl) (by decide) hR ⟨nfB hF (by decide), nlB hLo (by decide)⟩ (n := 3) rfl rfl (Nat.le_of_ble_eq_true rfl) hl.1 dX7_cleanDo_18 (fun r_24 μ23 ρ d0 H locs hr_r_24 hp G => ?_)
  have hr_r_24 : -2147483648 ≤ r_24 ∧ r_24 ≤ 2147483647 := hr_r_24
  obtain ⟨F_25, hI_26, hp_27, hp_28, hs_29, hs_30⟩ := hp
  have hXR_31 : ∀ _ : Unit, μ23.1 26 11 = 0 → (Th (Th (q0 μ P) (qA P 28 0 r_4 r_9)) (qA P 19 0 0 r_24)) μ23 := fun _ h0 => ⟨_, (hXR_16 ()) (by have h9 : μ8.1 26 11 = μ.1 26 11 := (F_10.1 26 (ni hprP (fun P => 26) (fun P => [P, P + 1]) rfl) 11); have h8 : μ23.1 26 11 = μ.1 26 11 := ((F_25.1 26 (ni hprP (fun P => 26) (fun P => [P, P + 1]) rfl) 11).trans (F_10.1 26 (ni hprP (fun P => 26) (fun P => [P, P + 1]) rfl) 11)); omega), hp_28, hp_27⟩
  have hXH_32 : ∀ _ : Unit, μ23.1 26 11 = 0 → HC μ23 P tt 0 := fun _ h0 => (((hXH_17 ()) (by have h9 : μ8.1 26 11 = μ.1 26 11 := (F_10.1 26 (ni hprP (fun P => 26) (fun P => [P, P + 1]) rfl) 11); have h8 : μ23.1 26 11 = μ.1 26 11 := ((F_25.1 26 (ni hprP (fun P => 26) (fun P => [P, P + 1]) rfl) 11).trans (F_10.1 26 (ni hprP (fun P => 26) (fun P => [P, P + 1]) rfl) 11)); omega)).ad hp_28 (Or.inl rfl)).c rfl
  have hXw_33 : ∀ _ : Unit, μ23.1 26 11 = 0 → Wp μ23 P r_9 28 := fun _ h0 => ((hXw_18 ()) (by have h9 : μ8.1 26 11 = μ.1 26 11 := (F_10.1 26 (ni hprP (fun P => 26) (fun P => [P, P + 1]) rfl) 11); have h8 : μ23.1 26 11 = μ.1 26 11 := ((F_25.1 26 (ni hprP (fun P => 26) (fun P => [P, P + 1]) rfl) 11).trans (F_10.1 26 (ni hprP (fun P => 26) (fun P => [P, P + 1]) rfl) 11)); omega)).ext hp_28.1
  have hXw_34 : ∀ _ : Unit, μ23.1 26 11 = 0 → Wp μ23 P r_24 19 := fun _ h0 => Wp.of hp_28 ((hXH_17 ()) (by have h9 : μ8.1 26 11 = μ.1 26 11 := (F_10.1 26 (ni hprP (fun P => 26) (fun P => [P, P + 1]) rfl) 11); have h8 : μ23.1 26 11 = μ.1 26 11 := ((F_25.1 26 (ni hprP (fun P => 26) (fun P => [P, P + 1]) rfl) 11).trans (F_10.1 26 (ni hprP (fun P => 26) (fun P => [P, P + 1]) rfl) 11)); omega)).1 hp_27
  refine lv_istore_n (lv' := [(2, .int (iv r_24)), (1, .int (iv r_9)), (0, .ref (oP ω 23))]) hx hb dX7_cleanDo_21 rfl hl (by decide) rfl (fun ls hl => ?_)
  refine lv_aload_n hx hb dX7_cleanDo_22 rfl (lv_at hl 2 rfl) ?_
  have e_35 : μ23.1 23 2 = P := ((F_25.1 23 (ni hprP (fun P => 23) (fun P => [P, P + 1]) rfl) 2).trans ((F_10.1 23 (ni hprP (fun P => 23) (fun P => [P, P + 1]) rfl) 2).trans hP.symm))
  have e_36 : μ23.1 P 1 = μ8.1 P 1 + 1 := hs_29
  refine xc_iV G (b := 23) (rest := []) (As := []) (c_X7_here ω l μ23 P hI_26 (by omega)) (wm 4 31 rfl rfl) (wm 4 33 rfl rfl) (wm 0 31 rfl rfl) rfl rfl (by decide) rfl (wm 1 12 rfl rfl) (wm 4 34 rfl rfl) (by decide) hR ⟨nfB hF (by decide), nlB hLo (by decide)⟩ (n := 0) rfl rfl (Nat.le_of_ble_eq_true rfl) hl.1 dX7_cleanDo_23 (fun r_38 μ37 ρ d0 H locs hr_r_38 hp G => ?_)
  have hr_r_38 : -2147483648 ≤ r_38 ∧ r_38 ≤ 2147483647 := hr_r_38
  obtain ⟨hsm_39, hp_40⟩ := hp
  have hsm_39 := Eq.symm hsm_39
  subst hsm_39
  refine lv_istore_n (lv' := [(3, .int (iv r_38)), (2, .int (iv r_24)), (1, .int (iv r_9)), (0, .ref (oP ω 23))]) hx hb dX7_cleanDo_26 rfl hl (by decide) rfl (fun ls hl => ?_)
  refine lv_aload_n hx hb dX7_cleanDo_27 rfl (lv_at hl 3 rfl) ?_
  refine xa_getr G fd_X7 (a := 23) (x := P) 2 rfl (by decide) rfl (wm 2 19 rfl rfl) ⟨rfl, rfl, rfl⟩ dX7_cleanDo_28 rfl ((F_25.1 23 (ni hprP (fun P => 23) (fun P => [P, P + 1]) rfl) 2).trans ((F_10.1 23 (ni hprP (fun P => 23) (fun P => [P, P + 1]) rfl) 2).trans hP.symm)) (by omega) (hprP.hq ω ρ) ?_
  refine lv_iload_n hx hb dX7_cleanDo_31 rfl (lv_at hl 2 rfl) ?_
  refine lv_iload_n hx hb dX7_cleanDo_32 rfl (lv_at hl 0 rfl) ?_
  have e_41 : μ23.1 P 1 = μ8.1 P 1 + 1 := hs_29
  refine xc_vV G (b := P) (rest := []) (As := [.int (iv r_9), .int (iv r_38)]) (c_X8_setFirst ω l μ23 P r_9 r_38 (μ8.1 P 1 + 1) hprP (by unfold ir; omega) (by unfold ir; omega) hI_26 (by omega)) (wm 4 51 rfl rfl) (wm 4 52 rfl rfl) (wm 4 53 rfl rfl) hprP.ly rfl (by decide) (hprP.hq ω ρ) (wm 1 9 rfl rfl) (wm 4 54 rfl rfl) (by decide) hR ⟨nfB hF (by decide), nlB hLo (by decide)⟩ (n := 2) rfl rfl (Nat.le_of_ble_eq_true rfl) hl.1 dX7_cleanDo_33 (fun μ42 ρ d0 H locs hp G => ?_)
  obtain ⟨F_43, hI_44, hp_45, hp_46, ha_47⟩ := hp
  have hm_48 : ∀ _ : Unit, μ42.1 26 11 = 0 → MF μ23 μ42 P r_9 r_38 := by
    intro _ h0
    have hw_ := ((hXw_33 ()) (by have h9 : μ23.1 26 11 = μ.1 26 11 := ((F_25.1 26 (ni hprP (fun P => 26) (fun P => [P, P + 1]) rfl) 11).trans (F_10.1 26 (ni hprP (fun P => 26) (fun P => [P, P + 1]) rfl) 11)); have h8 : μ42.1 26 11 = μ.1 26 11 := ((F_43.1 26 (ni hprP (fun P => 26) (fun P => [P + 1]) rfl) 11).trans ((F_25.1 26 (ni hprP (fun P => 26) (fun P => [P, P + 1]) rfl) 11).trans (F_10.1 26 (ni hprP (fun P => 26) (fun P => [P, P + 1]) rfl) 11))); omega)).1
    have h8 : μ23.1 P 1 = μ8.1 P 1 + 1 := hs_29
    have h9 : μ42.1 P 1 = μ8.1 P 1 + 1 := ((F_43.1 P (ni hprP (fun P => P) (fun P => [P + 1]) rfl) 1).trans hs_29)
    rcases hp_46 with ⟨q1, q2, q3⟩ | ⟨q1, q2⟩
    · exact MF.of (μ := μ23) (ν := μ42) (P := P) (by rw [h9, h8]) hw_ q3 ha_47
    · exfalso; exact q1 (by rw [← h8]; exact hw_)
  have hXR_49 : ∀ _ : Unit, μ42.1 26 11 = 0 → (Th (Th (Th (q0 μ P) (qA P 28 0 r_4 r_9)) (qA P 19 0 0 r_24)) (qF P r_9 r_38)) μ42 := fun _ h0 => ⟨_, (hXR_31 ()) (by have h9 : μ23.1 26 11 = μ.1 26 11 := ((F_25.1 26 (ni hprP (fun P => 26) (fun P => [P, P + 1]) rfl) 11).trans (F_10.1 26 (ni hprP (fun P => 26) (fun P => [P, P + 1]) rfl) 11)); have h8 : μ42.1 26 11 = μ.1 26 11 := ((F_43.1 26 (ni hprP (fun P => 26) (fun P => [P + 1]) rfl) 11).trans ((F_25.1 26 (ni hprP (fun P => 26) (fun P => [P, P + 1]) rfl) 11).trans (F_10.1 26 (ni hprP (fun P => 26) (fun P => [P, P + 1]) rfl) 11))); omega), (hm_48 ()) h0, by omega⟩
  have hXH_50 : ∀ _ : Unit, μ42.1 26 11 = 0 → HC μ42 P tt 0 := fun _ h0 => ((hXH_32 ()) (by have h9 : μ23.1 26 11 = μ.1 26 11 := ((F_25.1 26 (ni hprP (fun P => 26) (fun P => [P, P + 1]) rfl) 11).trans (F_10.1 26 (ni hprP (fun P => 26) (fun P => [P, P + 1]) rfl) 11)); have h8 : μ42.1 26 11 = μ.1 26 11 := ((F_43.1 26 (ni hprP (fun P => 26) (fun P => [P + 1]) rfl) 11).trans ((F_25.1 26 (ni hprP (fun P => 26) (fun P => [P, P + 1]) rfl) 11).trans (F_10.1 26 (ni hprP (fun P => 26) (fun P => [P, P + 1]) rfl) 11))); omega)).mf ((hm_48 ()) h0) ((hXw_33 ()) (by have h9 : μ23.1 26 11 = μ.1 26 11 := ((F_25.1 26 (ni hprP (fun P => 26) (fun P => [P, P + 1]) rfl) 11).trans (F_10.1 26 (ni hprP (fun P => 26) (fun P => [P, P + 1]) rfl) 11)); have h8 : μ42.1 26 11 = μ.1 26 11 := ((F_43.1 26 (ni hprP (fun P => 26) (fun P => [P + 1]) rfl) 11).trans ((F_25.1 26 (ni hprP (fun P => 26) (fun P => [P, P + 1]) rfl) 11).trans (F_10.1 26 (ni hprP (fun P => 26) (fun P => [P, P + 1]) rfl) 11))); omega)) (by decide)
  have hXw_51 : ∀ _ : Unit, μ42.1 26 11 = 0 → Wp μ42 P r_9 28 := fun _ h0 => ((hXw_33 ()) (by have h9 : μ23.1 26 11 = μ.1 26 11 := ((F_25.1 26 (ni hprP (fun P => 26) (fun P => [P, P + 1]) rfl) 11).trans (F_10.1 26 (ni hprP (fun P => 26) (fun P => [P, P + 1]) rfl) 11)); have h8 : μ42.1 26 11 = μ.1 26 11 := ((F_43.1 26 (ni hprP (fun P => 26) (fun P => [P + 1]) rfl) 11).trans ((F_25.1 26 (ni hprP (fun P => 26) (fun P => [P, P + 1]) rfl) 11).trans (F_10.1 26 (ni hprP (fun P => 26) (fun P => [P, P + 1]) rfl) 11))); omega)).mf ((hm_48 ()) h0)
  have hXw_52 : ∀ _ : Unit, μ42.1 26 11 = 0 → Wp μ42 P r_24 19 := fun _ h0 => ((hXw_34 ()) (by have h9 : μ23.1 26 11 = μ.1 26 11 := ((F_25.1 26 (ni hprP (fun P => 26) (fun P => [P, P + 1]) rfl) 11).trans (F_10.1 26 (ni hprP (fun P => 26) (fun P => [P, P + 1]) rfl) 11)); have h8 : μ42.1 26 11 = μ.1 26 11 := ((F_43.1 26 (ni hprP (fun P => 26) (fun P => [P + 1]) rfl) 11).trans ((F_25.1 26 (ni hprP (fun P => 26) (fun P => [P, P + 1]) rfl) 11).trans (F_10.1 26 (ni hprP (fun P => 26) (fun P => [P, P + 1]) rfl) 11))); omega)).mf ((hm_48 ()) h0)
  refine lv_aload_n hx hb dX7_cleanDo_36 rfl (lv_at hl 3 rfl) ?_
  have e_53 : μ42.1 23 2 = P := ((F_43.1 23 (ni hprP (fun P => 23) (fun P => [P + 1]) rfl) 2).trans ((F_25.1 23 (ni hprP (fun P => 23) (fun P => [P, P + 1]) rfl) 2).trans ((F_10.1 23 (ni hprP (fun P => 23) (fun P => [P, P + 1]) rfl) 2).trans hP.symm)))
  have e_54 : μ42.1 23 8 = tt := ((F_43.1 23 (ni hprP (fun P => 23) (fun P => [P + 1]) rfl) 8).trans ((F_25.1 23 (ni hprP (fun P => 23) (fun P => [P, P + 1]) rfl) 8).trans ((F_10.1 23 (ni hprP (fun P => 23) (fun P => [P, P + 1]) rfl) 8).trans htt.symm)))
  have htk_55 : TK μ42 := hTK.fr (K := [P + 1, P]) (Fr.tr (Fr.tr (Fr.tr Fr.rf F_10 (si hprP (fun P => [P, P + 1]) (fun P => [P + 1, P]) rfl)) F_25 (si hprP (fun P => [P, P + 1]) (fun P => [P + 1, P]) rfl)) F_43 (si hprP (fun P => [P + 1]) (fun P => [P + 1, P]) rfl)) (ni hprP (fun P => 26) (fun P => [P + 1, P]) rfl) (ni hprP (fun P => 28) (fun P => [P + 1, P]) rfl) (ni hprP (fun P => 29) (fun P => [P + 1, P]) rfl)
  have e_56 : μ42.1 P 1 = μ8.1 P 1 + 1 := ((F_43.1 P (ni hprP (fun P => P) (fun P => [P + 1]) rfl) 1).trans hs_29)
  have hn_57 : -1 ≤ μ.1 26 10 ∧ μ.1 26 10 ≤ 3000 := hI.nm.2.2.2.2.2.2.2.2.2.2.2.2
  have e_58 : μ42.1 26 10 = μ.1 26 10 := ((F_43.1 26 (ni hprP (fun P => 26) (fun P => [P + 1]) rfl) 10).trans ((F_25.1 26 (ni hprP (fun P => 26) (fun P => [P, P + 1]) rfl) 10).trans (F_10.1 26 (ni hprP (fun P => 26) (fun P => [P, P + 1]) rfl) 10)))
  have e_59 : μ42.1 26 11 = μ.1 26 11 := ((F_43.1 26 (ni hprP (fun P => 26) (fun P => [P + 1]) rfl) 11).trans ((F_25.1 26 (ni hprP (fun P => 26) (fun P => [P, P + 1]) rfl) 11).trans (F_10.1 26 (ni hprP (fun P => 26) (fun P => [P, P + 1]) rfl) 11)))
  have hk_60 := hI.row (r := P + 2) (hprP.row)
  unfold rk at hk_60
  have e_61 : μ42.1 (P + 2) 3 = μ.1 (P + 2) 3 := ((F_43.1 (P + 2) (ni hprP (fun P => P + 2) (fun P => [P + 1]) rfl) 3).trans ((F_25.1 (P + 2) (ni hprP (fun P => P + 2) (fun P => [P, P + 1]) rfl) 3).trans (F_10.1 (P + 2) (ni hprP (fun P => P + 2) (fun P => [P, P + 1]) rfl) 3)))
  have e_62 : μ42.1 P 1 = μ8.1 P 1 + 1 := ((F_43.1 P (ni hprP (fun P => P) (fun P => [P + 1]) rfl) 1).trans hs_29)
  have e_63 : μ42.1 23 9 = μ.1 23 9 := ((F_43.1 23 (ni hprP (fun P => 23) (fun P => [P + 1]) rfl) 9).trans ((F_25.1 23 (ni hprP (fun P => 23) (fun P => [P, P + 1]) rfl) 9).trans (F_10.1 23 (ni hprP (fun P => 23) (fun P => [P, P + 1]) rfl) 9)))
  have e_64 : μ42.1 23 9 = μ.1 23 9 := ((F_43.1 23 (ni hprP (fun P => 23) (fun P => [P + 1]) rfl) 9).trans ((F_25.1 23 (ni hprP (fun P => 23) (fun P => [P, P + 1]) rfl) 9).trans (F_10.1 23 (ni hprP (fun P => 23) (fun P => [P, P + 1]) rfl) 9)))
  have e_65 : μ42.1 23 9 = μ.1 23 9 := ((F_43.1 23 (ni hprP (fun P => 23) (fun P => [P + 1]) rfl) 9).trans ((F_25.1 23 (ni hprP (fun P => 23) (fun P => [P, P + 1]) rfl) 9).trans (F_10.1 23 (ni hprP (fun P => 23) (fun P => [P, P + 1]) rfl) 9)))
  have e_66 : μ42.1 26 11 = μ.1 26 11 := ((F_43.1 26 (ni hprP (fun P => 26) (fun P => [P + 1]) rfl) 11).trans ((F_25.1 26 (ni hprP (fun P => 26) (fun P => [P, P + 1]) rfl) 11).trans (F_10.1 26 (ni hprP (fun P => 26) (fun P => [P, P + 1]) rfl) 11)))
  have e_67 : μ42.1 26 10 = μ.1 26 10 := ((F_43.1 26 (ni hprP (fun P => 26) (fun P => [P + 1]) rfl) 10).trans ((F_25.1 26 (ni hprP (fun P => 26) (fun P => [P, P + 1]) rfl) 10).trans (F_10.1 26 (ni hprP (fun P => 26) (fun P => [P, P + 1]) rfl) 10)))
  have e_68 : μ42.1 P 1 = μ8.1 P 1 + 1 := ((F_43.1 P (ni hprP (fun P => P) (fun P => [P + 1]) rfl) 1).trans hs_29)
  have e_69 : μ42.1 P 1 = μ8.1 P 1 + 1 := ((F_43.1 P (ni hprP (fun P => P) (fun P => [P + 1]) rfl) 1).trans hs_29)
  have e_70 : μ42.1 26 10 = μ.1 26 10 := ((F_43.1 26 (ni hprP (fun P => 26) (fun P => [P + 1]) rfl) 10).trans ((F_25.1 26 (ni hprP (fun P => 26) (fun P => [P, P + 1]) rfl) 10).trans (F_10.1 26 (ni hprP (fun P => 26) (fun P => [P, P + 1]) rfl) 10)))
  have e_71 : μ42.1 26 11 = μ.1 26 11 := ((F_43.1 26 (ni hprP (fun P => 26) (fun P => [P + 1]) rfl) 11).trans ((F_25.1 26 (ni hprP (fun P => 26) (fun P => [P, P + 1]) rfl) 11).trans (F_10.1 26 (ni hprP (fun P => 26) (fun P => [P, P + 1]) rfl) 11)))
  have e_72 : μ42.1 (P + 2) 3 = μ.1 (P + 2) 3 := ((F_43.1 (P + 2) (ni hprP (fun P => P + 2) (fun P => [P + 1]) rfl) 3).trans ((F_25.1 (P + 2) (ni hprP (fun P => P + 2) (fun P => [P, P + 1]) rfl) 3).trans (F_10.1 (P + 2) (ni hprP (fun P => P + 2) (fun P => [P, P + 1]) rfl) 3)))
  have e_73 : μ42.1 P 1 = μ8.1 P 1 + 1 := ((F_43.1 P (ni hprP (fun P => P) (fun P => [P + 1]) rfl) 1).trans hs_29)
  have e_74 : μ42.1 (P + 2) 3 = μ.1 (P + 2) 3 := ((F_43.1 (P + 2) (ni hprP (fun P => P + 2) (fun P => [P + 1]) rfl) 3).trans ((F_25.1 (P + 2) (ni hprP (fun P => P + 2) (fun P => [P, P + 1]) rfl) 3).trans (F_10.1 (P + 2) (ni hprP (fun P => P + 2) (fun P => [P, P + 1]) rfl) 3)))
  have e_75 : μ42.1 23 9 = μ.1 23 9 := ((F_43.1 23 (ni hprP (fun P => 23) (fun P => [P + 1]) rfl) 9).trans ((F_25.1 23 (ni hprP (fun P => 23) (fun P => [P, P + 1]) rfl) 9).trans (F_10.1 23 (ni hprP (fun P => 23) (fun P => [P, P + 1]) rfl) 9)))
  refine xc_vV G (b := 23) (rest := []) (As := []) (((fun (_ : Om) (_ : Launch) => hK)) ω l μ42 P tt hI_44 (by omega) (by omega) htk_55 (by omega) (by omega) (by omega) (by omega) (by omega) (fun _ => (hXH_50 ()))) (wm 3 218 rfl rfl) (wm 3 220 rfl rfl) (wm 0 19 rfl rfl) rfl rfl (by decide) rfl (wm 1 12 rfl rfl) (wm 3 221 rfl rfl) (by decide) hR ⟨sfr (F := F) (a := 0) (by decide), slo (L := Lo) (m := 2) (a := 0) (by decide)⟩ (n := 0) rfl rfl (Nat.le_of_ble_eq_true rfl) hl.1 dX7_cleanDo_37 (fun μ76 ρ d0 H locs hp G => ?_)
  obtain ⟨F_77, hI_78, hp_79, hp_80, hp_81, hp_82, hp_83, hp_84, hp_85, hs_86, hs_87, hs_88, hs_89, hs_90, hs_91⟩ := hp
  have hn_92 : -1 ≤ μ76.1 26 10 ∧ μ76.1 26 10 ≤ 3000 := hI_78.nm.2.2.2.2.2.2.2.2.2.2.2.2
  have hk_93 := hI_78.pr (p := P) hprP
  unfold pk at hk_93
  have hc_94 : 16 ≤ μ76.2.1 (P + 1) ∧ μ76.2.1 (P + 1) ≤ 73024 := hI_78.rm.1 _ hprP.cap
  have hk_95 := hI_78.row (r := P + 2) (hprP.row)
  unfold rk at hk_95
  have htb_96 := hp_79.b
  replace hp_84 := fun _ : Unit => hp_84
  have hXR_97 : ∀ _ : Unit, μ76.1 26 11 = 0 → (Th (Th (Th (Th (q0 μ P) (qA P 28 0 r_4 r_9)) (qA P 19 0 0 r_24)) (qF P r_9 r_38)) (qE P tt 0 (2 * (7 - μ.1 23 9)))) μ76 := fun _ h0 => ⟨_, (hXR_49 ()) (by have h9 : μ42.1 26 11 = μ.1 26 11 := ((F_43.1 26 (ni hprP (fun P => 26) (fun P => [P + 1]) rfl) 11).trans ((F_25.1 26 (ni hprP (fun P => 26) (fun P => [P, P + 1]) rfl) 11).trans (F_10.1 26 (ni hprP (fun P => 26) (fun P => [P, P + 1]) rfl) 11))); have h8 : μ76.1 26 11 = μ76.1 26 11 := rfl; omega), (((hp_84 ()) h0).mn (by have h9 : μ42.1 23 9 = μ.1 23 9 := ((F_43.1 23 (ni hprP (fun P => 23) (fun P => [P + 1]) rfl) 9).trans ((F_25.1 23 (ni hprP (fun P => 23) (fun P => [P, P + 1]) rfl) 9).trans (F_10.1 23 (ni hprP (fun P => 23) (fun P => [P, P + 1]) rfl) 9))); omega))⟩
  have hXH_98 : ∀ _ : Unit, μ76.1 26 11 = 0 → HC μ76 P tt 0 := fun _ h0 => HC.ex ((hXH_50 ()) (by have h9 : μ42.1 26 11 = μ.1 26 11 := ((F_43.1 26 (ni hprP (fun P => 26) (fun P => [P + 1]) rfl) 11).trans ((F_25.1 26 (ni hprP (fun P => 26) (fun P => [P, P + 1]) rfl) 11).trans (F_10.1 26 (ni hprP (fun P => 26) (fun P => [P, P + 1]) rfl) 11))); have h8 : μ76.1 26 11 = μ76.1 26 11 := rfl; omega)) ((hp_84 ()) h0)
  have hXw_99 : ∀ _ : Unit, μ76.1 26 11 = 0 → Wp μ76 P r_9 28 := fun _ h0 => ((hXw_51 ()) (by have h9 : μ42.1 26 11 = μ.1 26 11 := ((F_43.1 26 (ni hprP (fun P => 26) (fun P => [P + 1]) rfl) 11).trans ((F_25.1 26 (ni hprP (fun P => 26) (fun P => [P, P + 1]) rfl) 11).trans (F_10.1 26 (ni hprP (fun P => 26) (fun P => [P, P + 1]) rfl) 11))); have h8 : μ76.1 26 11 = μ76.1 26 11 := rfl; omega)).ext ((hp_84 ()) h0).1
  have hXw_100 : ∀ _ : Unit, μ76.1 26 11 = 0 → Wp μ76 P r_24 19 := fun _ h0 => ((hXw_52 ()) (by have h9 : μ42.1 26 11 = μ.1 26 11 := ((F_43.1 26 (ni hprP (fun P => 26) (fun P => [P + 1]) rfl) 11).trans ((F_25.1 26 (ni hprP (fun P => 26) (fun P => [P, P + 1]) rfl) 11).trans (F_10.1 26 (ni hprP (fun P => 26) (fun P => [P, P + 1]) rfl) 11))); have h8 : μ76.1 26 11 = μ76.1 26 11 := rfl; omega)).ext ((hp_84 ()) h0).1
  refine lv_aload_n hx hb dX7_cleanDo_40 rfl (lv_at hl 3 rfl) ?_
  refine lv_bipush (v := iv 32) hx hb dX7_cleanDo_41 rfl ?_
  refine lv_iconst (v := iv 0) hx hb dX7_cleanDo_43 rfl ?_
  refine lv_iconst (v := iv 0) hx hb dX7_cleanDo_44 rfl ?_
  have e_101 : μ76.1 23 2 = P := (hs_86.trans ((F_43.1 23 (ni hprP (fun P => 23) (fun P => [P + 1]) rfl) 2).trans ((F_25.1 23 (ni hprP (fun P => 23) (fun P => [P, P + 1]) rfl) 2).trans ((F_10.1 23 (ni hprP (fun P => 23) (fun P => [P, P + 1]) rfl) 2).trans hP.symm))))
  refine xc_iV G (b := 23) (rest := []) (As := [.int (iv 32), .int (iv 0), .int (iv 0)]) (c_X7_add ω l μ76 32 0 0 P (by unfold ir; omega) (by unfold ir; omega) (by unfold ir; omega) hI_78 (by omega) (by omega)) (wm 3 226 rfl rfl) (wm 3 228 rfl rfl) (wm 0 21 rfl rfl) rfl rfl (by decide) rfl (wm 1 12 rfl rfl) (wm 3 229 rfl rfl) (by decide) hR ⟨nfB hF (by decide), nlB hLo (by decide)⟩ (n := 3) rfl rfl (Nat.le_of_ble_eq_true rfl) hl.1 dX7_cleanDo_45 (fun r_103 μ102 ρ d0 H locs hr_r_103 hp G => ?_)
  have hr_r_103 : -2147483648 ≤ r_103 ∧ r_103 ≤ 2147483647 := hr_r_103
  obtain ⟨F_104, hI_105, hp_106, hp_107, hs_108, hs_109⟩ := hp
  have hXR_110 : ∀ _ : Unit, μ102.1 26 11 = 0 → (Th (Th (Th (Th (Th (q0 μ P) (qA P 28 0 r_4 r_9)) (qA P 19 0 0 r_24)) (qF P r_9 r_38)) (qE P tt 0 (2 * (7 - μ.1 23 9)))) (qA P 32 0 0 r_103)) μ102 := fun _ h0 => ⟨_, (hXR_97 ()) (by have h9 : μ76.1 26 11 = μ76.1 26 11 := rfl; have h8 : μ102.1 26 11 = μ76.1 26 11 := (F_104.1 26 (ni hprP (fun P => 26) (fun P => [P, P + 1]) rfl) 11); omega), hp_107, hp_106⟩
  have hXH_111 : ∀ _ : Unit, μ102.1 26 11 = 0 → HC μ102 P tt 0 := fun _ h0 => (((hXH_98 ()) (by have h9 : μ76.1 26 11 = μ76.1 26 11 := rfl; have h8 : μ102.1 26 11 = μ76.1 26 11 := (F_104.1 26 (ni hprP (fun P => 26) (fun P => [P, P + 1]) rfl) 11); omega)).ad hp_107 (Or.inl rfl)).c rfl
  have hXw_112 : ∀ _ : Unit, μ102.1 26 11 = 0 → Wp μ102 P r_9 28 := fun _ h0 => ((hXw_99 ()) (by have h9 : μ76.1 26 11 = μ76.1 26 11 := rfl; have h8 : μ102.1 26 11 = μ76.1 26 11 := (F_104.1 26 (ni hprP (fun P => 26) (fun P => [P, P + 1]) rfl) 11); omega)).ext hp_107.1
  have hXw_113 : ∀ _ : Unit, μ102.1 26 11 = 0 → Wp μ102 P r_24 19 := fun _ h0 => ((hXw_100 ()) (by have h9 : μ76.1 26 11 = μ76.1 26 11 := rfl; have h8 : μ102.1 26 11 = μ76.1 26 11 := (F_104.1 26 (ni hprP (fun P => 26) (fun P => [P, P + 1]) rfl) 11); omega)).ext hp_107.1
  have hXw_114 : ∀ _ : Unit, μ102.1 26 11 = 0 → Wp μ102 P r_103 32 := fun _ h0 => Wp.of hp_107 ((hXH_98 ()) (by have h9 : μ76.1 26 11 = μ76.1 26 11 := rfl; have h8 : μ102.1 26 11 = μ76.1 26 11 := (F_104.1 26 (ni hprP (fun P => 26) (fun P => [P, P + 1]) rfl) 11); omega)).1 hp_106
  refine lv_istore (lv' := [(4, .int (iv r_103)), (3, .int (iv r_38)), (2, .int (iv r_24)), (1, .int (iv r_9)), (0, .ref (oP ω 23))]) hx hb dX7_cleanDo_48 hl (by decide) rfl (fun ls hl => ?_)
  refine lv_aload_n hx hb dX7_cleanDo_50 rfl (lv_at hl 4 rfl) ?_
  refine lv_sipush (v := iv 222) hx hb dX7_cleanDo_51 rfl ?_
  have htk_115 : TK μ102 := hp_79.fr (K := [P, P + 1]) (Fr.tr Fr.rf F_104 (si hprP (fun P => [P, P + 1]) (fun P => [P, P + 1]) rfl)) (ni hprP (fun P => 26) (fun P => [P, P + 1]) rfl) (ni hprP (fun P => 28) (fun P => [P, P + 1]) rfl) (ni hprP (fun P => 29) (fun P => [P, P + 1]) rfl)
  have e_116 : μ102.1 26 10 = μ76.1 26 10 := (F_104.1 26 (ni hprP (fun P => 26) (fun P => [P, P + 1]) rfl) 10)
  have e_117 : μ102.1 26 11 = μ76.1 26 11 := (F_104.1 26 (ni hprP (fun P => 26) (fun P => [P, P + 1]) rfl) 11)
  refine xc_vV G (b := 23) (rest := []) (As := [.int (iv 222)]) (c_X7_need_b ω l μ102 222 (by unfold ir; omega) hI_105 htk_115 (by omega)) (wm 3 169 rfl rfl) (wm 3 171 rfl rfl) (wm 0 11 rfl rfl) rfl rfl (by decide) rfl (wm 1 12 rfl rfl) (wm 3 172 rfl rfl) (by decide) hR ⟨nfB hF (by decide), nlB hLo (by decide)⟩ (n := 1) rfl rfl (Nat.le_of_ble_eq_true rfl) hl.1 dX7_cleanDo_54 (fun μ118 ρ d0 H locs hp G => ?_)
  obtain ⟨F_119, hI_120, hp_121, hp_122, hp_123, hs_124, hs_125, hs_126, hs_127⟩ := hp
  have hn_128 : -1 ≤ μ118.1 26 10 ∧ μ118.1 26 10 ≤ 3000 := hI_120.nm.2.2.2.2.2.2.2.2.2.2.2.2
  have htb_129 := hp_121.b
  refine lv_aload_n hx hb dX7_cleanDo_57 rfl (lv_at hl 4 rfl) ?_
  refine xa_getr G fd_X7 (a := 23) (x := P) 2 rfl (by decide) rfl (wm 2 19 rfl rfl) ⟨rfl, rfl, rfl⟩ dX7_cleanDo_58 rfl ((F_119.1 23 (by decide) 2).trans ((F_104.1 23 (ni hprP (fun P => 23) (fun P => [P, P + 1]) rfl) 2).trans (hs_86.trans ((F_43.1 23 (ni hprP (fun P => 23) (fun P => [P + 1]) rfl) 2).trans ((F_25.1 23 (ni hprP (fun P => 23) (fun P => [P, P + 1]) rfl) 2).trans ((F_10.1 23 (ni hprP (fun P => 23) (fun P => [P, P + 1]) rfl) 2).trans hP.symm)))))) (by omega) (hprP.hq ω ρ) ?_
  refine lv_iload_n hx hb dX7_cleanDo_61 rfl (lv_at hl 2 rfl) ?_
  refine lv_aload_n hx hb dX7_cleanDo_62 rfl (lv_at hl 4 rfl) ?_
  have e_130 : μ118.1 23 2 = P := ((F_119.1 23 (by decide) 2).trans ((F_104.1 23 (ni hprP (fun P => 23) (fun P => [P, P + 1]) rfl) 2).trans (hs_86.trans ((F_43.1 23 (ni hprP (fun P => 23) (fun P => [P + 1]) rfl) 2).trans ((F_25.1 23 (ni hprP (fun P => 23) (fun P => [P, P + 1]) rfl) 2).trans ((F_10.1 23 (ni hprP (fun P => 23) (fun P => [P, P + 1]) rfl) 2).trans hP.symm))))))
  have e_131 : μ118.1 P 1 = μ76.1 P 1 + 1 := ((F_119.1 P (ni hprP (fun P => P) (fun P => [26]) rfl) 1).trans hs_108)
  refine xc_iV G (b := 23) (rest := [.int (iv r_24), .ref (oP ω P)]) (As := []) (c_X7_here ω l μ118 P hI_120 (by omega)) (wm 4 31 rfl rfl) (wm 4 33 rfl rfl) (wm 0 31 rfl rfl) rfl rfl (by decide) rfl (wm 1 12 rfl rfl) (wm 4 34 rfl rfl) (by decide) hR ⟨nfB hF (by decide), nlB hLo (by decide)⟩ (n := 0) rfl rfl (Nat.le_of_ble_eq_true rfl) hl.1 dX7_cleanDo_63 (fun r_133 μ132 ρ d0 H locs hr_r_133 hp G => ?_)
  have hr_r_133 : -2147483648 ≤ r_133 ∧ r_133 ≤ 2147483647 := hr_r_133
  obtain ⟨hsm_134, hp_135⟩ := hp
  have hsm_134 := Eq.symm hsm_134
  subst hsm_134
  have htR_136 : ∀ _ : Unit, μ118.1 26 11 = 0 → (Th (Th (Th (Th (Th (q0 μ P) (qA P 28 0 r_4 r_9)) (qA P 19 0 0 r_24)) (qF P r_9 r_38)) (qE P tt 0 (2 * (7 - μ.1 23 9)))) (qA P 32 0 0 r_103)) μ118 := fun _ h0 => ThA (K := [26]) (hXR_110 () (by have h9 : μ102.1 26 11 = μ76.1 26 11 := (F_104.1 26 (ni hprP (fun P => 26) (fun P => [P, P + 1]) rfl) 11); have h8 : μ118.1 26 11 = μ118.1 26 11 := rfl; omega)) (Fr.tr Fr.rf F_119 (by decide)) (npL_p (L := [26]) (by decide) hprP).1 (npL_p (L := [26]) (by decide) hprP).2.1
  have htH_137 : ∀ _ : Unit, μ118.1 26 11 = 0 → HC μ118 P tt 0 := fun _ h0 => HC.fr (K := [26]) (hXH_111 () (by have h9 : μ102.1 26 11 = μ76.1 26 11 := (F_104.1 26 (ni hprP (fun P => 26) (fun P => [P, P + 1]) rfl) 11); have h8 : μ118.1 26 11 = μ118.1 26 11 := rfl; omega)) (Fr.tr Fr.rf F_119 (by decide)) (npL_p (L := [26]) (by decide) hprP).1 (npL_p (L := [26]) (by decide) hprP).2.1
  have htw_138 : ∀ _ : Unit, μ118.1 26 11 = 0 → Wp μ118 P r_9 28 := fun _ h0 => Wp.fr (K := [26]) (hXw_112 () (by have h9 : μ102.1 26 11 = μ76.1 26 11 := (F_104.1 26 (ni hprP (fun P => 26) (fun P => [P, P + 1]) rfl) 11); have h8 : μ118.1 26 11 = μ118.1 26 11 := rfl; omega)) (Fr.tr Fr.rf F_119 (by decide)) (npL_p (L := [26]) (by decide) hprP).1 (npL_p (L := [26]) (by decide) hprP).2.1
  have htw_139 : ∀ _ : Unit, μ118.1 26 11 = 0 → Wp μ118 P r_24 19 := fun _ h0 => Wp.fr (K := [26]) (hXw_113 () (by have h9 : μ102.1 26 11 = μ76.1 26 11 := (F_104.1 26 (ni hprP (fun P => 26) (fun P => [P, P + 1]) rfl) 11); have h8 : μ118.1 26 11 = μ118.1 26 11 := rfl; omega)) (Fr.tr Fr.rf F_119 (by decide)) (npL_p (L := [26]) (by decide) hprP).1 (npL_p (L := [26]) (by decide) hprP).2.1
  have htw_140 : ∀ _ : Unit, μ118.1 26 11 = 0 → Wp μ118 P r_103 32 := fun _ h0 => Wp.fr (K := [26]) (hXw_114 () (by have h9 : μ102.1 26 11 = μ76.1 26 11 := (F_104.1 26 (ni hprP (fun P => 26) (fun P => [P, P + 1]) rfl) 11); have h8 : μ118.1 26 11 = μ118.1 26 11 := rfl; omega)) (Fr.tr Fr.rf F_119 (by decide)) (npL_p (L := [26]) (by decide) hprP).1 (npL_p (L := [26]) (by decide) hprP).2.1
  have e_141 : μ118.1 P 1 = μ76.1 P 1 + 1 := ((F_119.1 P (ni hprP (fun P => P) (fun P => [26]) rfl) 1).trans hs_108)
  refine xc_vV G (b := P) (rest := []) (As := [.int (iv r_24), .int (iv r_133)]) (c_X8_setFirst ω l μ118 P r_24 r_133 (μ76.1 P 1 + 1) hprP (by unfold ir; omega) (by unfold ir; omega) hI_120 (by omega)) (wm 4 51 rfl rfl) (wm 4 52 rfl rfl) (wm 4 53 rfl rfl) hprP.ly rfl (by decide) (hprP.hq ω ρ) (wm 1 9 rfl rfl) (wm 4 54 rfl rfl) (by decide) hR ⟨nfB hF (by decide), nlB hLo (by decide)⟩ (n := 2) rfl rfl (Nat.le_of_ble_eq_true rfl) hl.1 dX7_cleanDo_66 (fun μ142 ρ d0 H locs hp G => ?_)
  obtain ⟨F_143, hI_144, hp_145, hp_146, ha_147⟩ := hp
  have hm_148 : ∀ _ : Unit, μ142.1 26 11 = 0 → MF μ118 μ142 P r_24 r_133 := by
    intro _ h0
    have hw_ := ((htw_139 ()) (by have h9 : μ118.1 26 11 = μ118.1 26 11 := rfl; have h8 : μ142.1 26 11 = μ118.1 26 11 := (F_143.1 26 (ni hprP (fun P => 26) (fun P => [P + 1]) rfl) 11); omega)).1
    have h8 : μ118.1 P 1 = μ76.1 P 1 + 1 := ((F_119.1 P (ni hprP (fun P => P) (fun P => [26]) rfl) 1).trans hs_108)
    have h9 : μ142.1 P 1 = μ76.1 P 1 + 1 := ((F_143.1 P (ni hprP (fun P => P) (fun P => [P + 1]) rfl) 1).trans ((F_119.1 P (ni hprP (fun P => P) (fun P => [26]) rfl) 1).trans hs_108))
    rcases hp_146 with ⟨q1, q2, q3⟩ | ⟨q1, q2⟩
    · exact MF.of (μ := μ118) (ν := μ142) (P := P) (by rw [h9, h8]) hw_ q3 ha_147
    · exfalso; exact q1 (by rw [← h8]; exact hw_)
  have hXR_149 : ∀ _ : Unit, μ142.1 26 11 = 0 → (Th (Th (Th (Th (Th (Th (q0 μ P) (qA P 28 0 r_4 r_9)) (qA P 19 0 0 r_24)) (qF P r_9 r_38)) (qE P tt 0 (2 * (7 - μ.1 23 9)))) (qA P 32 0 0 r_103)) (qF P r_24 r_133)) μ142 := fun _ h0 => ⟨_, (htR_136 ()) (by have h9 : μ118.1 26 11 = μ118.1 26 11 := rfl; have h8 : μ142.1 26 11 = μ118.1 26 11 := (F_143.1 26 (ni hprP (fun P => 26) (fun P => [P + 1]) rfl) 11); omega), (hm_148 ()) h0, by omega⟩
  have hXH_150 : ∀ _ : Unit, μ142.1 26 11 = 0 → HC μ142 P tt 0 := fun _ h0 => ((htH_137 ()) (by have h9 : μ118.1 26 11 = μ118.1 26 11 := rfl; have h8 : μ142.1 26 11 = μ118.1 26 11 := (F_143.1 26 (ni hprP (fun P => 26) (fun P => [P + 1]) rfl) 11); omega)).mf ((hm_148 ()) h0) ((htw_139 ()) (by have h9 : μ118.1 26 11 = μ118.1 26 11 := rfl; have h8 : μ142.1 26 11 = μ118.1 26 11 := (F_143.1 26 (ni hprP (fun P => 26) (fun P => [P + 1]) rfl) 11); omega)) (by decide)
  have hXw_151 : ∀ _ : Unit, μ142.1 26 11 = 0 → Wp μ142 P r_9 28 := fun _ h0 => ((htw_138 ()) (by have h9 : μ118.1 26 11 = μ118.1 26 11 := rfl; have h8 : μ142.1 26 11 = μ118.1 26 11 := (F_143.1 26 (ni hprP (fun P => 26) (fun P => [P + 1]) rfl) 11); omega)).mf ((hm_148 ()) h0)
  have hXw_152 : ∀ _ : Unit, μ142.1 26 11 = 0 → Wp μ142 P r_24 19 := fun _ h0 => ((htw_139 ()) (by have h9 : μ118.1 26 11 = μ118.1 26 11 := rfl; have h8 : μ142.1 26 11 = μ118.1 26 11 := (F_143.1 26 (ni hprP (fun P => 26) (fun P => [P + 1]) rfl) 11); omega)).mf ((hm_148 ()) h0)
  have hXw_153 : ∀ _ : Unit, μ142.1 26 11 = 0 → Wp μ142 P r_103 32 := fun _ h0 => ((htw_140 ()) (by have h9 : μ118.1 26 11 = μ118.1 26 11 := rfl; have h8 : μ142.1 26 11 = μ118.1 26 11 := (F_143.1 26 (ni hprP (fun P => 26) (fun P => [P + 1]) rfl) 11); omega)).mf ((hm_148 ()) h0)
  refine lv_aload_n hx hb dX7_cleanDo_69 rfl (lv_at hl 4 rfl) ?_
  have e_154 : μ142.1 23 2 = P := ((F_143.1 23 (ni hprP (fun P => 23) (fun P => [P + 1]) rfl) 2).trans ((F_119.1 23 (by decide) 2).trans ((F_104.1 23 (ni hprP (fun P => 23) (fun P => [P, P + 1]) rfl) 2).trans (hs_86.trans ((F_43.1 23 (ni hprP (fun P => 23) (fun P => [P + 1]) rfl) 2).trans ((F_25.1 23 (ni hprP (fun P => 23) (fun P => [P, P + 1]) rfl) 2).trans ((F_10.1 23 (ni hprP (fun P => 23) (fun P => [P, P + 1]) rfl) 2).trans hP.symm)))))))
  have e_155 : μ142.1 23 8 = tt := ((F_143.1 23 (ni hprP (fun P => 23) (fun P => [P + 1]) rfl) 8).trans ((F_119.1 23 (by decide) 8).trans ((F_104.1 23 (ni hprP (fun P => 23) (fun P => [P, P + 1]) rfl) 8).trans (hs_88.trans ((F_43.1 23 (ni hprP (fun P => 23) (fun P => [P + 1]) rfl) 8).trans ((F_25.1 23 (ni hprP (fun P => 23) (fun P => [P, P + 1]) rfl) 8).trans ((F_10.1 23 (ni hprP (fun P => 23) (fun P => [P, P + 1]) rfl) 8).trans htt.symm)))))))
  have htk_156 : TK μ142 := hp_121.fr (K := [P + 1]) (Fr.tr Fr.rf F_143 (si hprP (fun P => [P + 1]) (fun P => [P + 1]) rfl)) (ni hprP (fun P => 26) (fun P => [P + 1]) rfl) (ni hprP (fun P => 28) (fun P => [P + 1]) rfl) (ni hprP (fun P => 29) (fun P => [P + 1]) rfl)
  have e_157 : μ142.1 P 1 = μ76.1 P 1 + 1 := ((F_143.1 P (ni hprP (fun P => P) (fun P => [P + 1]) rfl) 1).trans ((F_119.1 P (ni hprP (fun P => P) (fun P => [26]) rfl) 1).trans hs_108))
  have e_158 : μ142.1 26 10 = μ118.1 26 10 := (F_143.1 26 (ni hprP (fun P => 26) (fun P => [P + 1]) rfl) 10)
  have e_159 : μ142.1 26 11 = μ118.1 26 11 := (F_143.1 26 (ni hprP (fun P => 26) (fun P => [P + 1]) rfl) 11)
  have e_160 : μ142.1 (P + 2) 3 = μ76.1 (P + 2) 3 := ((F_143.1 (P + 2) (ni hprP (fun P => P + 2) (fun P => [P + 1]) rfl) 3).trans ((F_119.1 (P + 2) (ni hprP (fun P => P + 2) (fun P => [26]) rfl) 3).trans (F_104.1 (P + 2) (ni hprP (fun P => P + 2) (fun P => [P, P + 1]) rfl) 3)))
  have e_161 : μ142.1 P 1 = μ76.1 P 1 + 1 := ((F_143.1 P (ni hprP (fun P => P) (fun P => [P + 1]) rfl) 1).trans ((F_119.1 P (ni hprP (fun P => P) (fun P => [26]) rfl) 1).trans hs_108))
  have e_162 : μ142.1 23 9 = μ.1 23 9 := ((F_143.1 23 (ni hprP (fun P => 23) (fun P => [P + 1]) rfl) 9).trans ((F_119.1 23 (by decide) 9).trans ((F_104.1 23 (ni hprP (fun P => 23) (fun P => [P, P + 1]) rfl) 9).trans (hs_89.trans ((F_43.1 23 (ni hprP (fun P => 23) (fun P => [P + 1]) rfl) 9).trans ((F_25.1 23 (ni hprP (fun P => 23) (fun P => [P, P + 1]) rfl) 9).trans (F_10.1 23 (ni hprP (fun P => 23) (fun P => [P, P + 1]) rfl) 9)))))))
  have e_163 : μ142.1 23 9 = μ.1 23 9 := ((F_143.1 23 (ni hprP (fun P => 23) (fun P => [P + 1]) rfl) 9).trans ((F_119.1 23 (by decide) 9).trans ((F_104.1 23 (ni hprP (fun P => 23) (fun P => [P, P + 1]) rfl) 9).trans (hs_89.trans ((F_43.1 23 (ni hprP (fun P => 23) (fun P => [P + 1]) rfl) 9).trans ((F_25.1 23 (ni hprP (fun P => 23) (fun P => [P, P + 1]) rfl) 9).trans (F_10.1 23 (ni hprP (fun P => 23) (fun P => [P, P + 1]) rfl) 9)))))))
  have e_164 : μ142.1 23 9 = μ.1 23 9 := ((F_143.1 23 (ni hprP (fun P => 23) (fun P => [P + 1]) rfl) 9).trans ((F_119.1 23 (by decide) 9).trans ((F_104.1 23 (ni hprP (fun P => 23) (fun P => [P, P + 1]) rfl) 9).trans (hs_89.trans ((F_43.1 23 (ni hprP (fun P => 23) (fun P => [P + 1]) rfl) 9).trans ((F_25.1 23 (ni hprP (fun P => 23) (fun P => [P, P + 1]) rfl) 9).trans (F_10.1 23 (ni hprP (fun P => 23) (fun P => [P, P + 1]) rfl) 9)))))))
  have e_165 : μ142.1 26 11 = μ118.1 26 11 := (F_143.1 26 (ni hprP (fun P => 26) (fun P => [P + 1]) rfl) 11)
  have e_166 : μ142.1 26 10 = μ118.1 26 10 := (F_143.1 26 (ni hprP (fun P => 26) (fun P => [P + 1]) rfl) 10)
  have e_167 : μ142.1 P 1 = μ76.1 P 1 + 1 := ((F_143.1 P (ni hprP (fun P => P) (fun P => [P + 1]) rfl) 1).trans ((F_119.1 P (ni hprP (fun P => P) (fun P => [26]) rfl) 1).trans hs_108))
  have e_168 : μ142.1 P 1 = μ76.1 P 1 + 1 := ((F_143.1 P (ni hprP (fun P => P) (fun P => [P + 1]) rfl) 1).trans ((F_119.1 P (ni hprP (fun P => P) (fun P => [26]) rfl) 1).trans hs_108))
  have e_169 : μ142.1 26 10 = μ118.1 26 10 := (F_143.1 26 (ni hprP (fun P => 26) (fun P => [P + 1]) rfl) 10)
  have e_170 : μ142.1 26 11 = μ118.1 26 11 := (F_143.1 26 (ni hprP (fun P => 26) (fun P => [P + 1]) rfl) 11)
  have e_171 : μ142.1 (P + 2) 3 = μ76.1 (P + 2) 3 := ((F_143.1 (P + 2) (ni hprP (fun P => P + 2) (fun P => [P + 1]) rfl) 3).trans ((F_119.1 (P + 2) (ni hprP (fun P => P + 2) (fun P => [26]) rfl) 3).trans (F_104.1 (P + 2) (ni hprP (fun P => P + 2) (fun P => [P, P + 1]) rfl) 3)))
  have e_172 : μ142.1 P 1 = μ76.1 P 1 + 1 := ((F_143.1 P (ni hprP (fun P => P) (fun P => [P + 1]) rfl) 1).trans ((F_119.1 P (ni hprP (fun P => P) (fun P => [26]) rfl) 1).trans hs_108))
  have e_173 : μ142.1 (P + 2) 3 = μ76.1 (P + 2) 3 := ((F_143.1 (P + 2) (ni hprP (fun P => P + 2) (fun P => [P + 1]) rfl) 3).trans ((F_119.1 (P + 2) (ni hprP (fun P => P + 2) (fun P => [26]) rfl) 3).trans (F_104.1 (P + 2) (ni hprP (fun P => P + 2) (fun P => [P, P + 1]) rfl) 3)))
  have e_174 : μ142.1 23 9 = μ.1 23 9 := ((F_143.1 23 (ni hprP (fun P => 23) (fun P => [P + 1]) rfl) 9).trans ((F_119.1 23 (by decide) 9).trans ((F_104.1 23 (ni hprP (fun P => 23) (fun P => [P, P + 1]) rfl) 9).trans (hs_89.trans ((F_43.1 23 (ni hprP (fun P => 23) (fun P => [P + 1]) rfl) 9).trans ((F_25.1 23 (ni hprP (fun P => 23) (fun P => [P, P + 1]) rfl) 9).trans (F_10.1 23 (ni hprP (fun P => 23) (fun P => [P, P + 1]) rfl) 9)))))))
  refine xc_vV G (b := 23) (rest := []) (As := []) (((fun (_ : Om) (_ : Launch) => hK)) ω l μ142 P tt hI_144 (by omega) (by omega) htk_156 (by omega) (by omega) (by omega) (by omega) (by omega) (fun _ => (hXH_150 ()))) (wm 3 218 rfl rfl) (wm 3 220 rfl rfl) (wm 0 19 rfl rfl) rfl rfl (by decide) rfl (wm 1 12 rfl rfl) (wm 3 221 rfl rfl) (by decide) hR ⟨sfr (F := F) (a := 0) (by decide), slo (L := Lo) (m := 2) (a := 0) (by decide)⟩ (n := 0) rfl rfl (Nat.le_of_ble_eq_true rfl) hl.1 dX7_cleanDo_70 (fun μ175 ρ d0 H locs hp G => ?_)
  obtain ⟨F_176, hI_177, hp_178, hp_179, hp_180, hp_181, hp_182, hp_183, hp_184, hs_185, hs_186, hs_187, hs_188, hs_189, hs_190⟩ := hp
  have hn_191 : -1 ≤ μ175.1 26 10 ∧ μ175.1 26 10 ≤ 3000 := hI_177.nm.2.2.2.2.2.2.2.2.2.2.2.2
  have hk_192 := hI_177.pr (p := P) hprP
  unfold pk at hk_192
  have hc_193 : 16 ≤ μ175.2.1 (P + 1) ∧ μ175.2.1 (P + 1) ≤ 73024 := hI_177.rm.1 _ hprP.cap
  have hk_194 := hI_177.row (r := P + 2) (hprP.row)
  unfold rk at hk_194
  have htb_195 := hp_178.b
  replace hp_183 := fun _ : Unit => hp_183
  have hXR_196 : ∀ _ : Unit, μ175.1 26 11 = 0 → (Th (Th (Th (Th (Th (Th (Th (q0 μ P) (qA P 28 0 r_4 r_9)) (qA P 19 0 0 r_24)) (qF P r_9 r_38)) (qE P tt 0 (2 * (7 - μ.1 23 9)))) (qA P 32 0 0 r_103)) (qF P r_24 r_133)) (qE P tt 0 (2 * (7 - μ.1 23 9)))) μ175 := fun _ h0 => ⟨_, (hXR_149 ()) (by have h9 : μ142.1 26 11 = μ118.1 26 11 := (F_143.1 26 (ni hprP (fun P => 26) (fun P => [P + 1]) rfl) 11); have h8 : μ175.1 26 11 = μ175.1 26 11 := rfl; omega), (((hp_183 ()) h0).mn (by have h9 : μ142.1 23 9 = μ.1 23 9 := ((F_143.1 23 (ni hprP (fun P => 23) (fun P => [P + 1]) rfl) 9).trans ((F_119.1 23 (by decide) 9).trans ((F_104.1 23 (ni hprP (fun P => 23) (fun P => [P, P + 1]) rfl) 9).trans (hs_89.trans ((F_43.1 23 (ni hprP (fun P => 23) (fun P => [P + 1]) rfl) 9).trans ((F_25.1 23 (ni hprP (fun P => 23) (fun P => [P, P + 1]) rfl) 9).trans (F_10.1 23 (ni hprP (fun P => 23) (fun P => [P, P + 1]) rfl) 9))))))); omega))⟩
  have hXH_197 : ∀ _ : Unit, μ175.1 26 11 = 0 → HC μ175 P tt 0 := fun _ h0 => HC.ex ((hXH_150 ()) (by have h9 : μ142.1 26 11 = μ118.1 26 11 := (F_143.1 26 (ni hprP (fun P => 26) (fun P => [P + 1]) rfl) 11); have h8 : μ175.1 26 11 = μ175.1 26 11 := rfl; omega)) ((hp_183 ()) h0)
  have hXw_198 : ∀ _ : Unit, μ175.1 26 11 = 0 → Wp μ175 P r_9 28 := fun _ h0 => ((hXw_151 ()) (by have h9 : μ142.1 26 11 = μ118.1 26 11 := (F_143.1 26 (ni hprP (fun P => 26) (fun P => [P + 1]) rfl) 11); have h8 : μ175.1 26 11 = μ175.1 26 11 := rfl; omega)).ext ((hp_183 ()) h0).1
  have hXw_199 : ∀ _ : Unit, μ175.1 26 11 = 0 → Wp μ175 P r_24 19 := fun _ h0 => ((hXw_152 ()) (by have h9 : μ142.1 26 11 = μ118.1 26 11 := (F_143.1 26 (ni hprP (fun P => 26) (fun P => [P + 1]) rfl) 11); have h8 : μ175.1 26 11 = μ175.1 26 11 := rfl; omega)).ext ((hp_183 ()) h0).1
  have hXw_200 : ∀ _ : Unit, μ175.1 26 11 = 0 → Wp μ175 P r_103 32 := fun _ h0 => ((hXw_153 ()) (by have h9 : μ142.1 26 11 = μ118.1 26 11 := (F_143.1 26 (ni hprP (fun P => 26) (fun P => [P + 1]) rfl) 11); have h8 : μ175.1 26 11 = μ175.1 26 11 := rfl; omega)).ext ((hp_183 ()) h0).1
  refine lv_aload_n hx hb dX7_cleanDo_73 rfl (lv_at hl 4 rfl) ?_
  refine lv_bipush (v := iv 31) hx hb dX7_cleanDo_74 rfl ?_
  refine lv_iload_n hx hb dX7_cleanDo_76 rfl (lv_at hl 1 rfl) ?_
  refine lv_iconst (v := iv 0) hx hb dX7_cleanDo_77 rfl ?_
  have e_201 : μ175.1 23 2 = P := (hs_185.trans ((F_143.1 23 (ni hprP (fun P => 23) (fun P => [P + 1]) rfl) 2).trans ((F_119.1 23 (by decide) 2).trans ((F_104.1 23 (ni hprP (fun P => 23) (fun P => [P, P + 1]) rfl) 2).trans (hs_86.trans ((F_43.1 23 (ni hprP (fun P => 23) (fun P => [P + 1]) rfl) 2).trans ((F_25.1 23 (ni hprP (fun P => 23) (fun P => [P, P + 1]) rfl) 2).trans ((F_10.1 23 (ni hprP (fun P => 23) (fun P => [P, P + 1]) rfl) 2).trans hP.symm))))))))
  refine xc_iV G (b := 23) (rest := []) (As := [.int (iv 31), .int (iv r_38), .int (iv 0)]) (c_X7_add ω l μ175 31 r_38 0 P (by unfold ir; omega) (by unfold ir; omega) (by unfold ir; omega) hI_177 (by omega) (by omega)) (wm 3 226 rfl rfl) (wm 3 228 rfl rfl) (wm 0 21 rfl rfl) rfl rfl (by decide) rfl (wm 1 12 rfl rfl) (wm 3 229 rfl rfl) (by decide) hR ⟨nfB hF (by decide), nlB hLo (by decide)⟩ (n := 3) rfl rfl (Nat.le_of_ble_eq_true rfl) hl.1 dX7_cleanDo_78 (fun r_203 μ202 ρ d0 H locs hr_r_203 hp G => ?_)
  have hr_r_203 : -2147483648 ≤ r_203 ∧ r_203 ≤ 2147483647 := hr_r_203
  obtain ⟨F_204, hI_205, hp_206, hp_207, hs_208, hs_209⟩ := hp
  have hXR_210 : ∀ _ : Unit, μ202.1 26 11 = 0 → (Th (Th (Th (Th (Th (Th (Th (Th (q0 μ P) (qA P 28 0 r_4 r_9)) (qA P 19 0 0 r_24)) (qF P r_9 r_38)) (qE P tt 0 (2 * (7 - μ.1 23 9)))) (qA P 32 0 0 r_103)) (qF P r_24 r_133)) (qE P tt 0 (2 * (7 - μ.1 23 9)))) (qA P 31 r_38 0 r_203)) μ202 := fun _ h0 => ⟨_, (hXR_196 ()) (by have h9 : μ175.1 26 11 = μ175.1 26 11 := rfl; have h8 : μ202.1 26 11 = μ175.1 26 11 := (F_204.1 26 (ni hprP (fun P => 26) (fun P => [P, P + 1]) rfl) 11); omega), hp_207, hp_206⟩
  have hXH_211 : ∀ _ : Unit, μ202.1 26 11 = 0 → HC μ202 P tt 0 := fun _ h0 => (((hXH_197 ()) (by have h9 : μ175.1 26 11 = μ175.1 26 11 := rfl; have h8 : μ202.1 26 11 = μ175.1 26 11 := (F_204.1 26 (ni hprP (fun P => 26) (fun P => [P, P + 1]) rfl) 11); omega)).ad hp_207 (Or.inl rfl)).c rfl
  have hXw_212 : ∀ _ : Unit, μ202.1 26 11 = 0 → Wp μ202 P r_9 28 := fun _ h0 => ((hXw_198 ()) (by have h9 : μ175.1 26 11 = μ175.1 26 11 := rfl; have h8 : μ202.1 26 11 = μ175.1 26 11 := (F_204.1 26 (ni hprP (fun P => 26) (fun P => [P, P + 1]) rfl) 11); omega)).ext hp_207.1
  have hXw_213 : ∀ _ : Unit, μ202.1 26 11 = 0 → Wp μ202 P r_24 19 := fun _ h0 => ((hXw_199 ()) (by have h9 : μ175.1 26 11 = μ175.1 26 11 := rfl; have h8 : μ202.1 26 11 = μ175.1 26 11 := (F_204.1 26 (ni hprP (fun P => 26) (fun P => [P, P + 1]) rfl) 11); omega)).ext hp_207.1
  have hXw_214 : ∀ _ : Unit, μ202.1 26 11 = 0 → Wp μ202 P r_103 32 := fun _ h0 => ((hXw_200 ()) (by have h9 : μ175.1 26 11 = μ175.1 26 11 := rfl; have h8 : μ202.1 26 11 = μ175.1 26 11 := (F_204.1 26 (ni hprP (fun P => 26) (fun P => [P, P + 1]) rfl) 11); omega)).ext hp_207.1
  have hXw_215 : ∀ _ : Unit, μ202.1 26 11 = 0 → Wp μ202 P r_203 31 := fun _ h0 => Wp.of hp_207 ((hXH_197 ()) (by have h9 : μ175.1 26 11 = μ175.1 26 11 := rfl; have h8 : μ202.1 26 11 = μ175.1 26 11 := (F_204.1 26 (ni hprP (fun P => 26) (fun P => [P, P + 1]) rfl) 11); omega)).1 hp_206
  refine lv_pop hx hb dX7_cleanDo_81 rfl ?_
  refine lv_aload_n hx hb dX7_cleanDo_82 rfl (lv_at hl 4 rfl) ?_
  refine xa_getr G fd_X7 (a := 23) (x := P) 2 rfl (by decide) rfl (wm 2 19 rfl rfl) ⟨rfl, rfl, rfl⟩ dX7_cleanDo_83 rfl ((F_204.1 23 (ni hprP (fun P => 23) (fun P => [P, P + 1]) rfl) 2).trans (hs_185.trans ((F_143.1 23 (ni hprP (fun P => 23) (fun P => [P + 1]) rfl) 2).trans ((F_119.1 23 (by decide) 2).trans ((F_104.1 23 (ni hprP (fun P => 23) (fun P => [P, P + 1]) rfl) 2).trans (hs_86.trans ((F_43.1 23 (ni hprP (fun P => 23) (fun P => [P + 1]) rfl) 2).trans ((F_25.1 23 (ni hprP (fun P => 23) (fun P => [P, P + 1]) rfl) 2).trans ((F_10.1 23 (ni hprP (fun P => 23) (fun P => [P, P + 1]) rfl) 2).trans hP.symm))))))))) (by omega) (hprP.hq ω ρ) ?_
  refine lv_iload hx hb dX7_cleanDo_86 (lv_at hl 0 rfl) ?_
  refine lv_aload_n hx hb dX7_cleanDo_88 rfl (lv_at hl 4 rfl) ?_
  have e_216 : μ202.1 23 2 = P := ((F_204.1 23 (ni hprP (fun P => 23) (fun P => [P, P + 1]) rfl) 2).trans (hs_185.trans ((F_143.1 23 (ni hprP (fun P => 23) (fun P => [P + 1]) rfl) 2).trans ((F_119.1 23 (by decide) 2).trans ((F_104.1 23 (ni hprP (fun P => 23) (fun P => [P, P + 1]) rfl) 2).trans (hs_86.trans ((F_43.1 23 (ni hprP (fun P => 23) (fun P => [P + 1]) rfl) 2).trans ((F_25.1 23 (ni hprP (fun P => 23) (fun P => [P, P + 1]) rfl) 2).trans ((F_10.1 23 (ni hprP (fun P => 23) (fun P => [P, P + 1]) rfl) 2).trans hP.symm)))))))))
  have e_217 : μ202.1 P 1 = μ175.1 P 1 + 1 := hs_208
  refine xc_iV G (b := 23) (rest := [.int (iv r_103), .ref (oP ω P)]) (As := []) (c_X7_here ω l μ202 P hI_205 (by omega)) (wm 4 31 rfl rfl) (wm 4 33 rfl rfl) (wm 0 31 rfl rfl) rfl rfl (by decide) rfl (wm 1 12 rfl rfl) (wm 4 34 rfl rfl) (by decide) hR ⟨nfB hF (by decide), nlB hLo (by decide)⟩ (n := 0) rfl rfl (Nat.le_of_ble_eq_true rfl) hl.1 dX7_cleanDo_89 (fun r_219 μ218 ρ d0 H locs hr_r_219 hp G => ?_)
  have hr_r_219 : -2147483648 ≤ r_219 ∧ r_219 ≤ 2147483647 := hr_r_219
  obtain ⟨hsm_220, hp_221⟩ := hp
  have hsm_220 := Eq.symm hsm_220
  subst hsm_220
  have e_222 : μ202.1 P 1 = μ175.1 P 1 + 1 := hs_208
  refine xc_vV G (b := P) (rest := []) (As := [.int (iv r_103), .int (iv r_219)]) (c_X8_setFirst ω l μ202 P r_103 r_219 (μ175.1 P 1 + 1) hprP (by unfold ir; omega) (by unfold ir; omega) hI_205 (by omega)) (wm 4 51 rfl rfl) (wm 4 52 rfl rfl) (wm 4 53 rfl rfl) hprP.ly rfl (by decide) (hprP.hq ω ρ) (wm 1 9 rfl rfl) (wm 4 54 rfl rfl) (by decide) hR ⟨nfB hF (by decide), nlB hLo (by decide)⟩ (n := 2) rfl rfl (Nat.le_of_ble_eq_true rfl) hl.1 dX7_cleanDo_92 (fun μ223 ρ d0 H locs hp G => ?_)
  obtain ⟨F_224, hI_225, hp_226, hp_227, ha_228⟩ := hp
  have hm_229 : ∀ _ : Unit, μ223.1 26 11 = 0 → MF μ202 μ223 P r_103 r_219 := by
    intro _ h0
    have hw_ := ((hXw_214 ()) (by have h9 : μ202.1 26 11 = μ175.1 26 11 := (F_204.1 26 (ni hprP (fun P => 26) (fun P => [P, P + 1]) rfl) 11); have h8 : μ223.1 26 11 = μ175.1 26 11 := ((F_224.1 26 (ni hprP (fun P => 26) (fun P => [P + 1]) rfl) 11).trans (F_204.1 26 (ni hprP (fun P => 26) (fun P => [P, P + 1]) rfl) 11)); omega)).1
    have h8 : μ202.1 P 1 = μ175.1 P 1 + 1 := hs_208
    have h9 : μ223.1 P 1 = μ175.1 P 1 + 1 := ((F_224.1 P (ni hprP (fun P => P) (fun P => [P + 1]) rfl) 1).trans hs_208)
    rcases hp_227 with ⟨q1, q2, q3⟩ | ⟨q1, q2⟩
    · exact MF.of (μ := μ202) (ν := μ223) (P := P) (by rw [h9, h8]) hw_ q3 ha_228
    · exfalso; exact q1 (by rw [← h8]; exact hw_)
  have hXR_230 : ∀ _ : Unit, μ223.1 26 11 = 0 → (Th (Th (Th (Th (Th (Th (Th (Th (Th (q0 μ P) (qA P 28 0 r_4 r_9)) (qA P 19 0 0 r_24)) (qF P r_9 r_38)) (qE P tt 0 (2 * (7 - μ.1 23 9)))) (qA P 32 0 0 r_103)) (qF P r_24 r_133)) (qE P tt 0 (2 * (7 - μ.1 23 9)))) (qA P 31 r_38 0 r_203)) (qF P r_103 r_219)) μ223 := fun _ h0 => ⟨_, (hXR_210 ()) (by have h9 : μ202.1 26 11 = μ175.1 26 11 := (F_204.1 26 (ni hprP (fun P => 26) (fun P => [P, P + 1]) rfl) 11); have h8 : μ223.1 26 11 = μ175.1 26 11 := ((F_224.1 26 (ni hprP (fun P => 26) (fun P => [P + 1]) rfl) 11).trans (F_204.1 26 (ni hprP (fun P => 26) (fun P => [P, P + 1]) rfl) 11)); omega), (hm_229 ()) h0, by omega⟩
  have hXH_231 : ∀ _ : Unit, μ223.1 26 11 = 0 → HC μ223 P tt 0 := fun _ h0 => ((hXH_211 ()) (by have h9 : μ202.1 26 11 = μ175.1 26 11 := (F_204.1 26 (ni hprP (fun P => 26) (fun P => [P, P + 1]) rfl) 11); have h8 : μ223.1 26 11 = μ175.1 26 11 := ((F_224.1 26 (ni hprP (fun P => 26) (fun P => [P + 1]) rfl) 11).trans (F_204.1 26 (ni hprP (fun P => 26) (fun P => [P, P + 1]) rfl) 11)); omega)).mf ((hm_229 ()) h0) ((hXw_214 ()) (by have h9 : μ202.1 26 11 = μ175.1 26 11 := (F_204.1 26 (ni hprP (fun P => 26) (fun P => [P, P + 1]) rfl) 11); have h8 : μ223.1 26 11 = μ175.1 26 11 := ((F_224.1 26 (ni hprP (fun P => 26) (fun P => [P + 1]) rfl) 11).trans (F_204.1 26 (ni hprP (fun P => 26) (fun P => [P, P + 1]) rfl) 11)); omega)) (by decide)
  have hXw_232 : ∀ _ : Unit, μ223.1 26 11 = 0 → Wp μ223 P r_9 28 := fun _ h0 => ((hXw_212 ()) (by have h9 : μ202.1 26 11 = μ175.1 26 11 := (F_204.1 26 (ni hprP (fun P => 26) (fun P => [P, P + 1]) rfl) 11); have h8 : μ223.1 26 11 = μ175.1 26 11 := ((F_224.1 26 (ni hprP (fun P => 26) (fun P => [P + 1]) rfl) 11).trans (F_204.1 26 (ni hprP (fun P => 26) (fun P => [P, P + 1]) rfl) 11)); omega)).mf ((hm_229 ()) h0)
  have hXw_233 : ∀ _ : Unit, μ223.1 26 11 = 0 → Wp μ223 P r_24 19 := fun _ h0 => ((hXw_213 ()) (by have h9 : μ202.1 26 11 = μ175.1 26 11 := (F_204.1 26 (ni hprP (fun P => 26) (fun P => [P, P + 1]) rfl) 11); have h8 : μ223.1 26 11 = μ175.1 26 11 := ((F_224.1 26 (ni hprP (fun P => 26) (fun P => [P + 1]) rfl) 11).trans (F_204.1 26 (ni hprP (fun P => 26) (fun P => [P, P + 1]) rfl) 11)); omega)).mf ((hm_229 ()) h0)
  have hXw_234 : ∀ _ : Unit, μ223.1 26 11 = 0 → Wp μ223 P r_103 32 := fun _ h0 => ((hXw_214 ()) (by have h9 : μ202.1 26 11 = μ175.1 26 11 := (F_204.1 26 (ni hprP (fun P => 26) (fun P => [P, P + 1]) rfl) 11); have h8 : μ223.1 26 11 = μ175.1 26 11 := ((F_224.1 26 (ni hprP (fun P => 26) (fun P => [P + 1]) rfl) 11).trans (F_204.1 26 (ni hprP (fun P => 26) (fun P => [P, P + 1]) rfl) 11)); omega)).mf ((hm_229 ()) h0)
  have hXw_235 : ∀ _ : Unit, μ223.1 26 11 = 0 → Wp μ223 P r_203 31 := fun _ h0 => ((hXw_215 ()) (by have h9 : μ202.1 26 11 = μ175.1 26 11 := (F_204.1 26 (ni hprP (fun P => 26) (fun P => [P, P + 1]) rfl) 11); have h8 : μ223.1 26 11 = μ175.1 26 11 := ((F_224.1 26 (ni hprP (fun P => 26) (fun P => [P + 1]) rfl) 11).trans (F_204.1 26 (ni hprP (fun P => 26) (fun P => [P, P + 1]) rfl) 11)); omega)).mf ((hm_229 ()) h0)
  clear hk_1 hc_2 hk_60 hk_93 hc_94 hk_95 hk_192 hc_193 hk_194
  have e_236 : μ223.1 26 11 = μ175.1 26 11 := ((F_224.1 26 (ni hprP (fun P => 26) (fun P => [P + 1]) rfl) 11).trans (F_204.1 26 (ni hprP (fun P => 26) (fun P => [P, P + 1]) rfl) 11))
  have htk_237 : TK μ223 := hp_178.fr (K := [P + 1, P]) (Fr.tr (Fr.tr Fr.rf F_204 (si hprP (fun P => [P, P + 1]) (fun P => [P + 1, P]) rfl)) F_224 (si hprP (fun P => [P + 1]) (fun P => [P + 1, P]) rfl)) (ni hprP (fun P => 26) (fun P => [P + 1, P]) rfl) (ni hprP (fun P => 28) (fun P => [P + 1, P]) rfl) (ni hprP (fun P => 29) (fun P => [P + 1, P]) rfl)
  have e_238 : μ223.1 26 11 = μ175.1 26 11 := ((F_224.1 26 (ni hprP (fun P => 26) (fun P => [P + 1]) rfl) 11).trans (F_204.1 26 (ni hprP (fun P => 26) (fun P => [P, P + 1]) rfl) 11))
  have e_239 : μ223.1 26 10 = μ175.1 26 10 := ((F_224.1 26 (ni hprP (fun P => 26) (fun P => [P + 1]) rfl) 10).trans (F_204.1 26 (ni hprP (fun P => 26) (fun P => [P, P + 1]) rfl) 10))
  have e_240 : μ223.1 P 1 = μ175.1 P 1 + 1 := ((F_224.1 P (ni hprP (fun P => P) (fun P => [P + 1]) rfl) 1).trans hs_208)
  have e_241 : μ223.1 P 1 = μ175.1 P 1 + 1 := ((F_224.1 P (ni hprP (fun P => P) (fun P => [P + 1]) rfl) 1).trans hs_208)
  have e_242 : μ223.1 26 10 = μ175.1 26 10 := ((F_224.1 26 (ni hprP (fun P => 26) (fun P => [P + 1]) rfl) 10).trans (F_204.1 26 (ni hprP (fun P => 26) (fun P => [P, P + 1]) rfl) 10))
  have e_243 : μ223.1 26 11 = μ175.1 26 11 := ((F_224.1 26 (ni hprP (fun P => 26) (fun P => [P + 1]) rfl) 11).trans (F_204.1 26 (ni hprP (fun P => 26) (fun P => [P, P + 1]) rfl) 11))
  have e_244 : μ223.1 (P + 2) 3 = μ175.1 (P + 2) 3 := ((F_224.1 (P + 2) (ni hprP (fun P => P + 2) (fun P => [P + 1]) rfl) 3).trans (F_204.1 (P + 2) (ni hprP (fun P => P + 2) (fun P => [P, P + 1]) rfl) 3))
  have e_245 : μ223.1 P 1 = μ175.1 P 1 + 1 := ((F_224.1 P (ni hprP (fun P => P) (fun P => [P + 1]) rfl) 1).trans hs_208)
  have e_246 : μ223.1 (P + 2) 3 = μ175.1 (P + 2) 3 := ((F_224.1 (P + 2) (ni hprP (fun P => P + 2) (fun P => [P + 1]) rfl) 3).trans (F_204.1 (P + 2) (ni hprP (fun P => P + 2) (fun P => [P, P + 1]) rfl) 3))
  exact xr_v G hret hlk dX7_cleanDo_95 ⟨(Fr.tr (Fr.tr (Fr.tr (Fr.tr (Fr.tr (Fr.tr (Fr.tr (Fr.tr (Fr.tr (Fr.tr Fr.rf F_10 (si hprP (fun P => [P, P + 1]) (fun P => [2, 3, 4, 23, 24, 25, 26, P, P + 1, P + 2, (P + 2) + 1, (P + 2) + 2, (P + 2) + 3]) rfl)) F_25 (si hprP (fun P => [P, P + 1]) (fun P => [2, 3, 4, 23, 24, 25, 26, P, P + 1, P + 2, (P + 2) + 1, (P + 2) + 2, (P + 2) + 3]) rfl)) F_43 (si hprP (fun P => [P + 1]) (fun P => [2, 3, 4, 23, 24, 25, 26, P, P + 1, P + 2, (P + 2) + 1, (P + 2) + 2, (P + 2) + 3]) rfl)) F_77 (si hprP (fun P => [2, 3, 4, 23, 24, 25, 26, P, P + 1, P + 2, (P + 2) + 1, (P + 2) + 2, (P + 2) + 3]) (fun P => [2, 3, 4, 23, 24, 25, 26, P, P + 1, P + 2, (P + 2) + 1, (P + 2) + 2, (P + 2) + 3]) rfl)) F_104 (si hprP (fun P => [P, P + 1]) (fun P => [2, 3, 4, 23, 24, 25, 26, P, P + 1, P + 2, (P + 2) + 1, (P + 2) + 2, (P + 2) + 3]) rfl)) F_119 (si hprP (fun P => [26]) (fun P => [2, 3, 4, 23, 24, 25, 26, P, P + 1, P + 2, (P + 2) + 1, (P + 2) + 2, (P + 2) + 3]) rfl)) F_143 (si hprP (fun P => [P + 1]) (fun P => [2, 3, 4, 23, 24, 25, 26, P, P + 1, P + 2, (P + 2) + 1, (P + 2) + 2, (P + 2) + 3]) rfl)) F_176 (si hprP (fun P => [2, 3, 4, 23, 24, 25, 26, P, P + 1, P + 2, (P + 2) + 1, (P + 2) + 2, (P + 2) + 3]) (fun P => [2, 3, 4, 23, 24, 25, 26, P, P + 1, P + 2, (P + 2) + 1, (P + 2) + 2, (P + 2) + 3]) rfl)) F_204 (si hprP (fun P => [P, P + 1]) (fun P => [2, 3, 4, 23, 24, 25, 26, P, P + 1, P + 2, (P + 2) + 1, (P + 2) + 2, (P + 2) + 3]) rfl)) F_224 (si hprP (fun P => [P + 1]) (fun P => [2, 3, 4, 23, 24, 25, 26, P, P + 1, P + 2, (P + 2) + 1, (P + 2) + 2, (P + 2) + 3]) rfl)), hI_225, htk_237, (by omega), (by omega), (by omega), (by omega), (fun h0 => as_cln (hst ()) ht ((hXR_230 ()) h0) (td64x (b := 0) (by omega) (by omega) (by omega)) (by omega)), (((F_224.1 23 (ni hprP (fun P => 23) (fun P => [P + 1]) rfl) 2).trans ((F_204.1 23 (ni hprP (fun P => 23) (fun P => [P, P + 1]) rfl) 2).trans (hs_185.trans ((F_143.1 23 (ni hprP (fun P => 23) (fun P => [P + 1]) rfl) 2).trans ((F_119.1 23 (by decide) 2).trans ((F_104.1 23 (ni hprP (fun P => 23) (fun P => [P, P + 1]) rfl) 2).trans (hs_86.trans ((F_43.1 23 (ni hprP (fun P => 23) (fun P => [P + 1]) rfl) 2).trans ((F_25.1 23 (ni hprP (fun P => 23) (fun P => [P, P + 1]) rfl) 2).trans ((F_10.1 23 (ni hprP (fun P => 23) (fun P => [P, P + 1]) rfl) 2).trans hP.symm))))))))))).trans hP, ((F_224.1 23 (ni hprP (fun P => 23) (fun P => [P + 1]) rfl) 7).trans ((F_204.1 23 (ni hprP (fun P => 23) (fun P => [P, P + 1]) rfl) 7).trans (hs_186.trans ((F_143.1 23 (ni hprP (fun P => 23) (fun P => [P + 1]) rfl) 7).trans ((F_119.1 23 (by decide) 7).trans ((F_104.1 23 (ni hprP (fun P => 23) (fun P => [P, P + 1]) rfl) 7).trans (hs_87.trans ((F_43.1 23 (ni hprP (fun P => 23) (fun P => [P + 1]) rfl) 7).trans ((F_25.1 23 (ni hprP (fun P => 23) (fun P => [P, P + 1]) rfl) 7).trans (F_10.1 23 (ni hprP (fun P => 23) (fun P => [P, P + 1]) rfl) 7)))))))))), (((F_224.1 23 (ni hprP (fun P => 23) (fun P => [P + 1]) rfl) 8).trans ((F_204.1 23 (ni hprP (fun P => 23) (fun P => [P, P + 1]) rfl) 8).trans (hs_187.trans ((F_143.1 23 (ni hprP (fun P => 23) (fun P => [P + 1]) rfl) 8).trans ((F_119.1 23 (by decide) 8).trans ((F_104.1 23 (ni hprP (fun P => 23) (fun P => [P, P + 1]) rfl) 8).trans (hs_88.trans ((F_43.1 23 (ni hprP (fun P => 23) (fun P => [P + 1]) rfl) 8).trans ((F_25.1 23 (ni hprP (fun P => 23) (fun P => [P, P + 1]) rfl) 8).trans ((F_10.1 23 (ni hprP (fun P => 23) (fun P => [P, P + 1]) rfl) 8).trans htt.symm))))))))))).trans htt, ((F_224.1 23 (ni hprP (fun P => 23) (fun P => [P + 1]) rfl) 9).trans ((F_204.1 23 (ni hprP (fun P => 23) (fun P => [P, P + 1]) rfl) 9).trans (hs_188.trans ((F_143.1 23 (ni hprP (fun P => 23) (fun P => [P + 1]) rfl) 9).trans ((F_119.1 23 (by decide) 9).trans ((F_104.1 23 (ni hprP (fun P => 23) (fun P => [P, P + 1]) rfl) 9).trans (hs_89.trans ((F_43.1 23 (ni hprP (fun P => 23) (fun P => [P + 1]) rfl) 9).trans ((F_25.1 23 (ni hprP (fun P => 23) (fun P => [P, P + 1]) rfl) 9).trans (F_10.1 23 (ni hprP (fun P => 23) (fun P => [P, P + 1]) rfl) 9)))))))))), ((F_224.1 26 (ni hprP (fun P => 26) (fun P => [P + 1]) rfl) 6).trans ((F_204.1 26 (ni hprP (fun P => 26) (fun P => [P, P + 1]) rfl) 6).trans (hs_189.trans ((F_143.1 26 (ni hprP (fun P => 26) (fun P => [P + 1]) rfl) 6).trans (hs_124.trans ((F_104.1 26 (ni hprP (fun P => 26) (fun P => [P, P + 1]) rfl) 6).trans (hs_90.trans ((F_43.1 26 (ni hprP (fun P => 26) (fun P => [P + 1]) rfl) 6).trans ((F_25.1 26 (ni hprP (fun P => 26) (fun P => [P, P + 1]) rfl) 6).trans (F_10.1 26 (ni hprP (fun P => 26) (fun P => [P, P + 1]) rfl) 6)))))))))), ((F_224.1 P (ni hprP (fun P => P) (fun P => [P + 1]) rfl) 7).trans (hs_209.trans (hs_190.trans ((F_143.1 P (ni hprP (fun P => P) (fun P => [P + 1]) rfl) 7).trans ((F_119.1 P (ni hprP (fun P => P) (fun P => [26]) rfl) 7).trans (hs_109.trans (hs_91.trans ((F_43.1 P (ni hprP (fun P => P) (fun P => [P + 1]) rfl) 7).trans (hs_30.trans hs_15)))))))))⟩
