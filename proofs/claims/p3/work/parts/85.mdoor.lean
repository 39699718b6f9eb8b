abbrev cX12_door : ByteArray := prog_14_method_47_code
def yX12_door : MethodName := ⟨RX12, "door", "(II)V"⟩
abbrev cX12_keeps : ByteArray := prog_14_method_53_code
def yX12_keeps : MethodName := ⟨RX12, "keeps", "()V"⟩
abbrev cX12_goesBack : ByteArray := prog_14_method_54_code
def yX12_goesBack : MethodName := ⟨RX12, "goesBack", "()V"⟩
abbrev cX12_named : ByteArray := prog_14_method_55_code
def yX12_named : MethodName := ⟨RX12, "named", "()V"⟩
theorem dX12_door_0 : decode cX12_door 0 = .ok (.aload_n 0, 1) := by decide +kernel
theorem dX12_door_1 : decode cX12_door 1 = .ok (.invokevirtual 371, 3) := by decide +kernel
theorem dX12_door_4 : decode cX12_door 4 = .ok (.aload_n 0, 1) := by decide +kernel
theorem dX12_door_5 : decode cX12_door 5 = .ok (.bipush 15, 2) := by decide +kernel
theorem dX12_door_7 : decode cX12_door 7 = .ok (.lconst 0, 1) := by decide +kernel
theorem dX12_door_8 : decode cX12_door 8 = .ok (.iconst 0, 1) := by decide +kernel
theorem dX12_door_9 : decode cX12_door 9 = .ok (.invokevirtual 374, 3) := by decide +kernel
theorem dX12_door_12 : decode cX12_door 12 = .ok (.pop, 1) := by decide +kernel
theorem dX12_door_13 : decode cX12_door 13 = .ok (.aload_n 0, 1) := by decide +kernel
theorem dX12_door_14 : decode cX12_door 14 = .ok (.bipush 8, 2) := by decide +kernel
theorem dX12_door_16 : decode cX12_door 16 = .ok (.lconst 0, 1) := by decide +kernel
theorem dX12_door_17 : decode cX12_door 17 = .ok (.iconst 0, 1) := by decide +kernel
theorem dX12_door_18 : decode cX12_door 18 = .ok (.invokevirtual 374, 3) := by decide +kernel
theorem dX12_door_21 : decode cX12_door 21 = .ok (.istore_n 3, 1) := by decide +kernel
theorem dX12_door_22 : decode cX12_door 22 = .ok (.aload_n 0, 1) := by decide +kernel
theorem dX12_door_23 : decode cX12_door 23 = .ok (.iload_n 2, 1) := by decide +kernel
theorem dX12_door_24 : decode cX12_door 24 = .ok (.invokevirtual 349, 3) := by decide +kernel
theorem dX12_door_27 : decode cX12_door 27 = .ok (.aload_n 0, 1) := by decide +kernel
theorem dX12_door_28 : decode cX12_door 28 = .ok (.iload_n 1, 1) := by decide +kernel
theorem dX12_door_29 : decode cX12_door 29 = .ok (.invokevirtual 421, 3) := by decide +kernel
theorem dX12_door_32 : decode cX12_door 32 = .ok (.aload_n 0, 1) := by decide +kernel
theorem dX12_door_33 : decode cX12_door 33 = .ok (.invokevirtual 371, 3) := by decide +kernel
theorem dX12_door_36 : decode cX12_door 36 = .ok (.aload_n 0, 1) := by decide +kernel
theorem dX12_door_37 : decode cX12_door 37 = .ok (.iload_n 3, 1) := by decide +kernel
theorem dX12_door_38 : decode cX12_door 38 = .ok (.invokevirtual 421, 3) := by decide +kernel
theorem dX12_door_41 : decode cX12_door 41 = .ok (.return_, 1) := by decide +kernel
theorem dX12_keeps_0 : decode cX12_keeps 0 = .ok (.aload_n 0, 1) := by decide +kernel
theorem dX12_keeps_1 : decode cX12_keeps 1 = .ok (.aload_n 0, 1) := by decide +kernel
theorem dX12_keeps_2 : decode cX12_keeps 2 = .ok (.getfield 206, 3) := by decide +kernel
theorem dX12_keeps_5 : decode cX12_keeps 5 = .ok (.putfield 432, 3) := by decide +kernel
theorem dX12_keeps_8 : decode cX12_keeps 8 = .ok (.aload_n 0, 1) := by decide +kernel
theorem dX12_keeps_9 : decode cX12_keeps 9 = .ok (.aload_n 0, 1) := by decide +kernel
theorem dX12_keeps_10 : decode cX12_keeps 10 = .ok (.getfield 222, 3) := by decide +kernel
theorem dX12_keeps_13 : decode cX12_keeps 13 = .ok (.putfield 435, 3) := by decide +kernel
theorem dX12_keeps_16 : decode cX12_keeps 16 = .ok (.aload_n 0, 1) := by decide +kernel
theorem dX12_keeps_17 : decode cX12_keeps 17 = .ok (.aload_n 0, 1) := by decide +kernel
theorem dX12_keeps_18 : decode cX12_keeps 18 = .ok (.getfield 245, 3) := by decide +kernel
theorem dX12_keeps_21 : decode cX12_keeps 21 = .ok (.putfield 438, 3) := by decide +kernel
theorem dX12_keeps_24 : decode cX12_keeps 24 = .ok (.aload_n 0, 1) := by decide +kernel
theorem dX12_keeps_25 : decode cX12_keeps 25 = .ok (.aload_n 0, 1) := by decide +kernel
theorem dX12_keeps_26 : decode cX12_keeps 26 = .ok (.getfield 317, 3) := by decide +kernel
theorem dX12_keeps_29 : decode cX12_keeps 29 = .ok (.putfield 441, 3) := by decide +kernel
theorem dX12_keeps_32 : decode cX12_keeps 32 = .ok (.return_, 1) := by decide +kernel
theorem dX12_goesBack_0 : decode cX12_goesBack 0 = .ok (.aload_n 0, 1) := by decide +kernel
theorem dX12_goesBack_1 : decode cX12_goesBack 1 = .ok (.aload_n 0, 1) := by decide +kernel
theorem dX12_goesBack_2 : decode cX12_goesBack 2 = .ok (.getfield 432, 3) := by decide +kernel
theorem dX12_goesBack_5 : decode cX12_goesBack 5 = .ok (.putfield 206, 3) := by decide +kernel
theorem dX12_goesBack_8 : decode cX12_goesBack 8 = .ok (.aload_n 0, 1) := by decide +kernel
theorem dX12_goesBack_9 : decode cX12_goesBack 9 = .ok (.aload_n 0, 1) := by decide +kernel
theorem dX12_goesBack_10 : decode cX12_goesBack 10 = .ok (.getfield 435, 3) := by decide +kernel
theorem dX12_goesBack_13 : decode cX12_goesBack 13 = .ok (.putfield 222, 3) := by decide +kernel
theorem dX12_goesBack_16 : decode cX12_goesBack 16 = .ok (.aload_n 0, 1) := by decide +kernel
theorem dX12_goesBack_17 : decode cX12_goesBack 17 = .ok (.aload_n 0, 1) := by decide +kernel
theorem dX12_goesBack_18 : decode cX12_goesBack 18 = .ok (.getfield 438, 3) := by decide +kernel
theorem dX12_goesBack_21 : decode cX12_goesBack 21 = .ok (.putfield 245, 3) := by decide +kernel
theorem dX12_goesBack_24 : decode cX12_goesBack 24 = .ok (.aload_n 0, 1) := by decide +kernel
theorem dX12_goesBack_25 : decode cX12_goesBack 25 = .ok (.aload_n 0, 1) := by decide +kernel
theorem dX12_goesBack_26 : decode cX12_goesBack 26 = .ok (.getfield 441, 3) := by decide +kernel
theorem dX12_goesBack_29 : decode cX12_goesBack 29 = .ok (.putfield 317, 3) := by decide +kernel
theorem dX12_goesBack_32 : decode cX12_goesBack 32 = .ok (.aload_n 0, 1) := by decide +kernel
theorem dX12_goesBack_33 : decode cX12_goesBack 33 = .ok (.iconst 0, 1) := by decide +kernel
theorem dX12_goesBack_34 : decode cX12_goesBack 34 = .ok (.putfield 225, 3) := by decide +kernel
theorem dX12_goesBack_37 : decode cX12_goesBack 37 = .ok (.return_, 1) := by decide +kernel
theorem dX12_named_0 : decode cX12_named 0 = .ok (.aload_n 0, 1) := by decide +kernel
theorem dX12_named_1 : decode cX12_named 1 = .ok (.getfield 222, 3) := by decide +kernel
theorem dX12_named_4 : decode cX12_named 4 = .ok (.istore_n 1, 1) := by decide +kernel
theorem dX12_named_5 : decode cX12_named 5 = .ok (.aload_n 0, 1) := by decide +kernel
theorem dX12_named_6 : decode cX12_named 6 = .ok (.getfield 245, 3) := by decide +kernel
theorem dX12_named_9 : decode cX12_named 9 = .ok (.lstore_n 2, 1) := by decide +kernel
theorem dX12_named_10 : decode cX12_named 10 = .ok (.aload_n 0, 1) := by decide +kernel
theorem dX12_named_11 : decode cX12_named 11 = .ok (.invokevirtual 444, 3) := by decide +kernel
theorem dX12_named_14 : decode cX12_named 14 = .ok (.aload_n 0, 1) := by decide +kernel
theorem dX12_named_15 : decode cX12_named 15 = .ok (.invokevirtual 295, 3) := by decide +kernel
theorem dX12_named_18 : decode cX12_named 18 = .ok (.aload_n 0, 1) := by decide +kernel
theorem dX12_named_19 : decode cX12_named 19 = .ok (.bipush 61, 2) := by decide +kernel
theorem dX12_named_21 : decode cX12_named 21 = .ok (.invokevirtual 301, 3) := by decide +kernel
theorem dX12_named_24 : decode cX12_named 24 = .ok (.ifCond .eq 32, 3) := by decide +kernel
theorem dX12_named_27 : decode cX12_named 27 = .ok (.aload_n 0, 1) := by decide +kernel
theorem dX12_named_28 : decode cX12_named 28 = .ok (.iload_n 1, 1) := by decide +kernel
theorem dX12_named_29 : decode cX12_named 29 = .ok (.lload_n 2, 1) := by decide +kernel
theorem dX12_named_30 : decode cX12_named 30 = .ok (.invokevirtual 447, 3) := by decide +kernel
theorem dX12_named_33 : decode cX12_named 33 = .ok (.istore 4, 2) := by decide +kernel
theorem dX12_named_35 : decode cX12_named 35 = .ok (.aload_n 0, 1) := by decide +kernel
theorem dX12_named_36 : decode cX12_named 36 = .ok (.invokevirtual 402, 3) := by decide +kernel
theorem dX12_named_39 : decode cX12_named 39 = .ok (.aload_n 0, 1) := by decide +kernel
theorem dX12_named_40 : decode cX12_named 40 = .ok (.bipush 59, 2) := by decide +kernel
theorem dX12_named_42 : decode cX12_named 42 = .ok (.invokevirtual 313, 3) := by decide +kernel
theorem dX12_named_45 : decode cX12_named 45 = .ok (.aload_n 0, 1) := by decide +kernel
theorem dX12_named_46 : decode cX12_named 46 = .ok (.iconst 4, 1) := by decide +kernel
theorem dX12_named_47 : decode cX12_named 47 = .ok (.iload 4, 2) := by decide +kernel
theorem dX12_named_49 : decode cX12_named 49 = .ok (.i2l, 1) := by decide +kernel
theorem dX12_named_50 : decode cX12_named 50 = .ok (.iconst 0, 1) := by decide +kernel
theorem dX12_named_51 : decode cX12_named 51 = .ok (.invokevirtual 374, 3) := by decide +kernel
theorem dX12_named_54 : decode cX12_named 54 = .ok (.pop, 1) := by decide +kernel
theorem dX12_named_55 : decode cX12_named 55 = .ok (.return_, 1) := by decide +kernel
theorem dX12_named_56 : decode cX12_named 56 = .ok (.aload_n 0, 1) := by decide +kernel
theorem dX12_named_57 : decode cX12_named 57 = .ok (.bipush 91, 2) := by decide +kernel
theorem dX12_named_59 : decode cX12_named 59 = .ok (.invokevirtual 292, 3) := by decide +kernel
theorem dX12_named_62 : decode cX12_named 62 = .ok (.ifCond .eq 59, 3) := by decide +kernel
theorem dX12_named_65 : decode cX12_named 65 = .ok (.aload_n 0, 1) := by decide +kernel
theorem dX12_named_66 : decode cX12_named 66 = .ok (.iconst 3, 1) := by decide +kernel
theorem dX12_named_67 : decode cX12_named 67 = .ok (.aload_n 0, 1) := by decide +kernel
theorem dX12_named_68 : decode cX12_named 68 = .ok (.iload_n 1, 1) := by decide +kernel
theorem dX12_named_69 : decode cX12_named 69 = .ok (.lload_n 2, 1) := by decide +kernel
theorem dX12_named_70 : decode cX12_named 70 = .ok (.invokevirtual 447, 3) := by decide +kernel
theorem dX12_named_73 : decode cX12_named 73 = .ok (.i2l, 1) := by decide +kernel
theorem dX12_named_74 : decode cX12_named 74 = .ok (.iconst 0, 1) := by decide +kernel
theorem dX12_named_75 : decode cX12_named 75 = .ok (.invokevirtual 374, 3) := by decide +kernel
theorem dX12_named_78 : decode cX12_named 78 = .ok (.pop, 1) := by decide +kernel
theorem dX12_named_79 : decode cX12_named 79 = .ok (.aload_n 0, 1) := by decide +kernel
theorem dX12_named_80 : decode cX12_named 80 = .ok (.invokevirtual 310, 3) := by decide +kernel
theorem dX12_named_83 : decode cX12_named 83 = .ok (.aload_n 0, 1) := by decide +kernel
theorem dX12_named_84 : decode cX12_named 84 = .ok (.invokevirtual 402, 3) := by decide +kernel
theorem dX12_named_87 : decode cX12_named 87 = .ok (.aload_n 0, 1) := by decide +kernel
theorem dX12_named_88 : decode cX12_named 88 = .ok (.bipush 93, 2) := by decide +kernel
theorem dX12_named_90 : decode cX12_named 90 = .ok (.invokevirtual 387, 3) := by decide +kernel
theorem dX12_named_93 : decode cX12_named 93 = .ok (.aload_n 0, 1) := by decide +kernel
theorem dX12_named_94 : decode cX12_named 94 = .ok (.bipush 61, 2) := by decide +kernel
theorem dX12_named_96 : decode cX12_named 96 = .ok (.invokevirtual 301, 3) := by decide +kernel
theorem dX12_named_99 : decode cX12_named 99 = .ok (.ifCond .eq 22, 3) := by decide +kernel
theorem dX12_named_102 : decode cX12_named 102 = .ok (.aload_n 0, 1) := by decide +kernel
theorem dX12_named_103 : decode cX12_named 103 = .ok (.invokevirtual 402, 3) := by decide +kernel
theorem dX12_named_106 : decode cX12_named 106 = .ok (.aload_n 0, 1) := by decide +kernel
theorem dX12_named_107 : decode cX12_named 107 = .ok (.bipush 59, 2) := by decide +kernel
theorem dX12_named_109 : decode cX12_named 109 = .ok (.invokevirtual 313, 3) := by decide +kernel
theorem dX12_named_112 : decode cX12_named 112 = .ok (.aload_n 0, 1) := by decide +kernel
theorem dX12_named_113 : decode cX12_named 113 = .ok (.iconst 5, 1) := by decide +kernel
theorem dX12_named_114 : decode cX12_named 114 = .ok (.lconst 0, 1) := by decide +kernel
theorem dX12_named_115 : decode cX12_named 115 = .ok (.iconst 0, 1) := by decide +kernel
theorem dX12_named_116 : decode cX12_named 116 = .ok (.invokevirtual 374, 3) := by decide +kernel
theorem dX12_named_119 : decode cX12_named 119 = .ok (.pop, 1) := by decide +kernel
theorem dX12_named_120 : decode cX12_named 120 = .ok (.return_, 1) := by decide +kernel
theorem dX12_named_121 : decode cX12_named 121 = .ok (.aload_n 0, 1) := by decide +kernel
theorem dX12_named_122 : decode cX12_named 122 = .ok (.invokevirtual 215, 3) := by decide +kernel
theorem dX12_named_125 : decode cX12_named 125 = .ok (.ifCond .eq 4, 3) := by decide +kernel
theorem dX12_named_128 : decode cX12_named 128 = .ok (.return_, 1) := by decide +kernel
theorem dX12_named_129 : decode cX12_named 129 = .ok (.aload_n 0, 1) := by decide +kernel
theorem dX12_named_130 : decode cX12_named 130 = .ok (.invokevirtual 450, 3) := by decide +kernel
theorem dX12_named_133 : decode cX12_named 133 = .ok (.aload_n 0, 1) := by decide +kernel
theorem dX12_named_134 : decode cX12_named 134 = .ok (.invokevirtual 408, 3) := by decide +kernel
theorem dX12_named_137 : decode cX12_named 137 = .ok (.return_, 1) := by decide +kernel
theorem mDO.ht {μo μ : M3} {t M q : Int} (h : mDO μo μ t M q) : mHt μ 0 := by
  obtain ⟨o, s, cq, dA, KA, K, a1, a2, a3, a4, a5, a6⟩ := h
  exact ⟨a4.2.2.1.1.1, a4.2.2.1.2.1⟩
set_option maxHeartbeats 4000000 in
set_option maxRecDepth 100000 in
theorem c_X12_keeps (ω : Om) (l : Launch) (μ : M3) : CtV ω l yX12_keeps cX12_keeps 1 0 0 [.ref (oP ω 111)] μ (fun (μ' : M3) => (FrM [111] μ μ') ∧ (∀ j, j ∉ ([34, 35, 36, 37] : List Int) → μ'.1 111 j = μ.1 111 j) ∧ (μ'.1 111 34 = μ.1 111 6) ∧ (μ'.1 111 35 = μ.1 111 9) ∧ (μ'.1 111 37 = μ.1 111 22)) := by
  refine CtV.go (by decide) (Nat.le_of_ble_eq_true rfl) (fun ρ p e s m below meth c R ls G hR hret hlk hl => ?_)
  have hx := G.1.1
  have hb := G.1.2.1
  have hl : lv_has ls 1 [(0, .ref (oP ω 111))] := hl
  generalize s.drawn = d0 at G ⊢
  refine lv_aload_n hx hb dX12_keeps_0 rfl (lv_at hl 0 rfl) ?_
  refine lv_aload_n hx hb dX12_keeps_1 rfl (lv_at hl 0 rfl) ?_
  refine xa_geti G fd_X12 (a := 111) (x := μ.1 111 6) 6 rfl (by decide) rfl (wm 7 155 rfl rfl) ⟨rfl, rfl, rfl⟩ dX12_keeps_2 rfl rfl ?_
  have hr_1 : -2147483648 ≤ μ.1 111 6 ∧ μ.1 111 6 ≤ 2147483647 := by have h9 := G.hr (a := 111) (k := 6) rfl; exact h9
  refine xa_puti G fd_X12 (a := 111) (x := μ.1 111 6) 34 (kz := 34) rfl rfl (by decide) rfl (by unfold ir; omega) (wm 7 183 rfl rfl) ⟨rfl, rfl, rfl, rfl⟩ rfl dX12_keeps_5 rfl (fun H locs G => ?_)
  refine lv_aload_n hx hb dX12_keeps_8 rfl (lv_at hl 0 rfl) ?_
  refine lv_aload_n hx hb dX12_keeps_9 rfl (lv_at hl 0 rfl) ?_
  refine xa_geti G fd_X12 (a := 111) (x := μ.1 111 9) 9 rfl (by decide) rfl (wm 7 158 rfl rfl) ⟨rfl, rfl, rfl⟩ dX12_keeps_10 rfl (sv_n _ (by decide)) ?_
  have hr_2 : -2147483648 ≤ μ.1 111 9 ∧ μ.1 111 9 ≤ 2147483647 := by have h9 := G.hr (a := 111) (k := 9) rfl; rw [show (sv μ 111 34 (μ.1 111 6)).1 111 9 = μ.1 111 9 from (sv_n _ (by decide))] at h9; exact h9
  refine xa_puti G fd_X12 (a := 111) (x := μ.1 111 9) 35 (kz := 35) rfl rfl (by decide) rfl (by unfold ir; omega) (wm 7 184 rfl rfl) ⟨rfl, rfl, rfl, rfl⟩ rfl dX12_keeps_13 rfl (fun H locs G => ?_)
  refine lv_aload_n hx hb dX12_keeps_16 rfl (lv_at hl 0 rfl) ?_
  refine lv_aload_n hx hb dX12_keeps_17 rfl (lv_at hl 0 rfl) ?_
  refine xa_getl G fd_X12 (a := 111) (x := μ.1 111 10) 10 rfl (by decide) rfl (wm 7 159 rfl rfl) ⟨rfl, rfl, rfl⟩ dX12_keeps_18 rfl ((sv_n _ (by decide)).trans (sv_n _ (by decide))) ?_
  have hj_3 : jr (μ.1 111 10) := by have h9 := G.hj (a := 111) (k := 10) rfl; rw [show (sv (sv μ 111 34 (μ.1 111 6)) 111 35 (μ.1 111 9)).1 111 10 = μ.1 111 10 from ((sv_n _ (by decide)).trans (sv_n _ (by decide)))] at h9; exact h9
  refine xa_putl G fd_X12 (a := 111) (x := μ.1 111 10) 36 (kz := 36) rfl rfl (by decide) rfl hj_3 (wm 7 185 rfl rfl) ⟨rfl, rfl, rfl, rfl⟩ rfl dX12_keeps_21 rfl (fun H locs G => ?_)
  refine lv_aload_n hx hb dX12_keeps_24 rfl (lv_at hl 0 rfl) ?_
  refine lv_aload_n hx hb dX12_keeps_25 rfl (lv_at hl 0 rfl) ?_
  refine xa_geti G fd_X12 (a := 111) (x := μ.1 111 22) 22 rfl (by decide) rfl (wm 7 171 rfl rfl) ⟨rfl, rfl, rfl⟩ dX12_keeps_26 rfl ((sv_n _ (by decide)).trans ((sv_n _ (by decide)).trans (sv_n _ (by decide)))) ?_
  have hr_4 : -2147483648 ≤ μ.1 111 22 ∧ μ.1 111 22 ≤ 2147483647 := by have h9 := G.hr (a := 111) (k := 22) rfl; rw [show (sv (sv (sv μ 111 34 (μ.1 111 6)) 111 35 (μ.1 111 9)) 111 36 (μ.1 111 10)).1 111 22 = μ.1 111 22 from ((sv_n _ (by decide)).trans ((sv_n _ (by decide)).trans (sv_n _ (by decide))))] at h9; exact h9
  refine xa_puti G fd_X12 (a := 111) (x := μ.1 111 22) 37 (kz := 37) rfl rfl (by decide) rfl (by unfold ir; omega) (wm 7 186 rfl rfl) ⟨rfl, rfl, rfl, rfl⟩ rfl dX12_keeps_29 rfl (fun H locs G => ?_)
  have e_5 : (sv (sv (sv (sv μ 111 34 (μ.1 111 6)) 111 35 (μ.1 111 9)) 111 36 (μ.1 111 10)) 111 37 (μ.1 111 22)).1 111 34 = μ.1 111 6 := ((sv_n _ (by decide)).trans ((sv_n _ (by decide)).trans ((sv_n _ (by decide)).trans (sv_s _ _ _ _))))
  have e_6 : (sv (sv (sv (sv μ 111 34 (μ.1 111 6)) 111 35 (μ.1 111 9)) 111 36 (μ.1 111 10)) 111 37 (μ.1 111 22)).1 111 35 = μ.1 111 9 := ((sv_n _ (by decide)).trans ((sv_n _ (by decide)).trans (sv_s _ _ _ _)))
  have e_7 : (sv (sv (sv (sv μ 111 34 (μ.1 111 6)) 111 35 (μ.1 111 9)) 111 36 (μ.1 111 10)) 111 37 (μ.1 111 22)).1 111 37 = μ.1 111 22 := (sv_s _ _ _ _)
  exact xr_v G hret hlk dX12_keeps_32 ⟨(FrM.put (FrM.put (FrM.put (FrM.put FrM.rf (by decide)) (by decide)) (by decide)) (by decide)), (fun j hj => ((sv_n _ (fun h9 => hj (by rw [h9.2]; decide))).trans ((sv_n _ (fun h9 => hj (by rw [h9.2]; decide))).trans ((sv_n _ (fun h9 => hj (by rw [h9.2]; decide))).trans (sv_n _ (fun h9 => hj (by rw [h9.2]; decide))))))), (by omega), (by omega), (by omega)⟩

set_option maxHeartbeats 4000000 in
set_option maxRecDepth 100000 in
theorem c_X12_goesBack (ω : Om) (l : Launch) (μ : M3) : CtV ω l yX12_goesBack cX12_goesBack 1 0 0 [.ref (oP ω 111)] μ (fun (μ' : M3) => (FrM [111] μ μ') ∧ (∀ j, j ∉ ([6, 8, 9, 10, 22] : List Int) → μ'.1 111 j = μ.1 111 j) ∧ (μ'.1 111 6 = μ.1 111 34) ∧ (μ'.1 111 9 = μ.1 111 35) ∧ (μ'.1 111 22 = μ.1 111 37) ∧ (μ'.1 111 8 = 0)) := by
  refine CtV.go (by decide) (Nat.le_of_ble_eq_true rfl) (fun ρ p e s m below meth c R ls G hR hret hlk hl => ?_)
  have hx := G.1.1
  have hb := G.1.2.1
  have hl : lv_has ls 1 [(0, .ref (oP ω 111))] := hl
  generalize s.drawn = d0 at G ⊢
  refine lv_aload_n hx hb dX12_goesBack_0 rfl (lv_at hl 0 rfl) ?_
  refine lv_aload_n hx hb dX12_goesBack_1 rfl (lv_at hl 0 rfl) ?_
  refine xa_geti G fd_X12 (a := 111) (x := μ.1 111 34) 34 rfl (by decide) rfl (wm 7 183 rfl rfl) ⟨rfl, rfl, rfl⟩ dX12_goesBack_2 rfl rfl ?_
  have hr_1 : -2147483648 ≤ μ.1 111 34 ∧ μ.1 111 34 ≤ 2147483647 := by have h9 := G.hr (a := 111) (k := 34) rfl; exact h9
  refine xa_puti G fd_X12 (a := 111) (x := μ.1 111 34) 6 (kz := 6) rfl rfl (by decide) rfl (by unfold ir; omega) (wm 7 155 rfl rfl) ⟨rfl, rfl, rfl, rfl⟩ rfl dX12_goesBack_5 rfl (fun H locs G => ?_)
  refine lv_aload_n hx hb dX12_goesBack_8 rfl (lv_at hl 0 rfl) ?_
  refine lv_aload_n hx hb dX12_goesBack_9 rfl (lv_at hl 0 rfl) ?_
  refine xa_geti G fd_X12 (a := 111) (x := μ.1 111 35) 35 rfl (by decide) rfl (wm 7 184 rfl rfl) ⟨rfl, rfl, rfl⟩ dX12_goesBack_10 rfl (sv_n _ (by decide)) ?_
  have hr_2 : -2147483648 ≤ μ.1 111 35 ∧ μ.1 111 35 ≤ 2147483647 := by have h9 := G.hr (a := 111) (k := 35) rfl; rw [show (sv μ 111 6 (μ.1 111 34)).1 111 35 = μ.1 111 35 from (sv_n _ (by decide))] at h9; exact h9
  refine xa_puti G fd_X12 (a := 111) (x := μ.1 111 35) 9 (kz := 9) rfl rfl (by decide) rfl (by unfold ir; omega) (wm 7 158 rfl rfl) ⟨rfl, rfl, rfl, rfl⟩ rfl dX12_goesBack_13 rfl (fun H locs G => ?_)
  refine lv_aload_n hx hb dX12_goesBack_16 rfl (lv_at hl 0 rfl) ?_
  refine lv_aload_n hx hb dX12_goesBack_17 rfl (lv_at hl 0 rfl) ?_
  refine xa_getl G fd_X12 (a := 111) (x := μ.1 111 36) 36 rfl (by decide) rfl (wm 7 185 rfl rfl) ⟨rfl, rfl, rfl⟩ dX12_goesBack_18 rfl ((sv_n _ (by decide)).trans (sv_n _ (by decide))) ?_
  have hj_3 : jr (μ.1 111 36) := by have h9 := G.hj (a := 111) (k := 36) rfl; rw [show (sv (sv μ 111 6 (μ.1 111 34)) 111 9 (μ.1 111 35)).1 111 36 = μ.1 111 36 from ((sv_n _ (by decide)).trans (sv_n _ (by decide)))] at h9; exact h9
  refine xa_putl G fd_X12 (a := 111) (x := μ.1 111 36) 10 (kz := 10) rfl rfl (by decide) rfl hj_3 (wm 7 159 rfl rfl) ⟨rfl, rfl, rfl, rfl⟩ rfl dX12_goesBack_21 rfl (fun H locs G => ?_)
  refine lv_aload_n hx hb dX12_goesBack_24 rfl (lv_at hl 0 rfl) ?_
  refine lv_aload_n hx hb dX12_goesBack_25 rfl (lv_at hl 0 rfl) ?_
  refine xa_geti G fd_X12 (a := 111) (x := μ.1 111 37) 37 rfl (by decide) rfl (wm 7 186 rfl rfl) ⟨rfl, rfl, rfl⟩ dX12_goesBack_26 rfl ((sv_n _ (by decide)).trans ((sv_n _ (by decide)).trans (sv_n _ (by decide)))) ?_
  have hr_4 : -2147483648 ≤ μ.1 111 37 ∧ μ.1 111 37 ≤ 2147483647 := by have h9 := G.hr (a := 111) (k := 37) rfl; rw [show (sv (sv (sv μ 111 6 (μ.1 111 34)) 111 9 (μ.1 111 35)) 111 10 (μ.1 111 36)).1 111 37 = μ.1 111 37 from ((sv_n _ (by decide)).trans ((sv_n _ (by decide)).trans (sv_n _ (by decide))))] at h9; exact h9
  refine xa_puti G fd_X12 (a := 111) (x := μ.1 111 37) 22 (kz := 22) rfl rfl (by decide) rfl (by unfold ir; omega) (wm 7 171 rfl rfl) ⟨rfl, rfl, rfl, rfl⟩ rfl dX12_goesBack_29 rfl (fun H locs G => ?_)
  refine lv_aload_n hx hb dX12_goesBack_32 rfl (lv_at hl 0 rfl) ?_
  refine lv_iconst (v := iv 0) hx hb dX12_goesBack_33 rfl ?_
  refine xa_puti G fd_X12 (a := 111) (x := 0) 8 (kz := 8) rfl rfl (by decide) rfl (by unfold ir; omega) (wm 7 157 rfl rfl) ⟨rfl, rfl, rfl, rfl⟩ rfl dX12_goesBack_34 rfl (fun H locs G => ?_)
  have e_5 : (sv (sv (sv (sv (sv μ 111 6 (μ.1 111 34)) 111 9 (μ.1 111 35)) 111 10 (μ.1 111 36)) 111 22 (μ.1 111 37)) 111 8 0).1 111 6 = μ.1 111 34 := ((sv_n _ (by decide)).trans ((sv_n _ (by decide)).trans ((sv_n _ (by decide)).trans ((sv_n _ (by decide)).trans (sv_s _ _ _ _)))))
  have e_6 : (sv (sv (sv (sv (sv μ 111 6 (μ.1 111 34)) 111 9 (μ.1 111 35)) 111 10 (μ.1 111 36)) 111 22 (μ.1 111 37)) 111 8 0).1 111 9 = μ.1 111 35 := ((sv_n _ (by decide)).trans ((sv_n _ (by decide)).trans ((sv_n _ (by decide)).trans (sv_s _ _ _ _))))
  have e_7 : (sv (sv (sv (sv (sv μ 111 6 (μ.1 111 34)) 111 9 (μ.1 111 35)) 111 10 (μ.1 111 36)) 111 22 (μ.1 111 37)) 111 8 0).1 111 22 = μ.1 111 37 := ((sv_n _ (by decide)).trans (sv_s _ _ _ _))
  have e_8 : (sv (sv (sv (sv (sv μ 111 6 (μ.1 111 34)) 111 9 (μ.1 111 35)) 111 10 (μ.1 111 36)) 111 22 (μ.1 111 37)) 111 8 0).1 111 8 = 0 := (sv_s _ _ _ _)
  exact xr_v G hret hlk dX12_goesBack_37 ⟨(FrM.put (FrM.put (FrM.put (FrM.put (FrM.put FrM.rf (by decide)) (by decide)) (by decide)) (by decide)) (by decide)), (fun j hj => ((sv_n _ (fun h9 => hj (by rw [h9.2]; decide))).trans ((sv_n _ (fun h9 => hj (by rw [h9.2]; decide))).trans ((sv_n _ (fun h9 => hj (by rw [h9.2]; decide))).trans ((sv_n _ (fun h9 => hj (by rw [h9.2]; decide))).trans (sv_n _ (fun h9 => hj (by rw [h9.2]; decide)))))))), (by omega), (by omega), (by omega), (by omega)⟩

set_option maxHeartbeats 4000000 in
set_option maxRecDepth 100000 in
theorem c_X12_door (ω : Om) (l : Launch) (μ : M3) (x1 : Int) (x2 : Int) (F : Nat) (Lo : Nat) (kf : Int) (μo : M3) (μx : M3) (tt : Int) (hx1 : ir x1) (hx2 : ir x2) (htt : tt = μ.1 111 14) (hF : 200 ≤ F) (hLo : 6000 ≤ Lo) (hK : ∀ (μ : M3) (tt : Int) (htt : tt = μ.1 111 14) (hPM : PM μ) (hnn : 0 ≤ nn μ ∧ nn μ ≤ 9 ∧ 9 * wr μ ≤ nn μ) (hn8 : nn μ ≤ 8 + wr μ) (hcd : 0 ≤ μ.1 111 22 ∧ μ.1 111 22 ≤ 2 * μ.1 111 9 + 8 * nn μ + 60) (hW : 0 ≤ μ.1 111 39 ∧ μ.1 111 39 ≤ μ.1 111 22) (hsl : 0 ≤ μ.1 111 31 ∧ μ.1 111 31 ≤ 300) (hvr : 0 ≤ μ.1 111 32 ∧ μ.1 111 32 ≤ μ.1 111 9) (hfu : 0 ≤ (kf - 1) ∧ 8 ≤ nn μ + (kf - 1)) (hS0 : ∀ _ : Unit, bd μ = 0 → mS0 μ), CtV ω l yX12_block cX12_block 1 (F + 0) (Lo + 0) [.ref (oP ω 111)] μ (fun (μ' : M3) => (FrM [111, 113, 115, 116, 117, 123, 124, 126] μ μ') ∧ (∀ j, j ∉ ([6, 8, 9, 10, 11, 12, 13, 15, 16, 17, 18, 22, 29, 31, 32, 34, 35, 36, 37, 39] : List Int) → μ'.1 111 j = μ.1 111 j) ∧ (PM μ') ∧ (μ.1 111 22 ≤ μ'.1 111 22 ∧ μ'.1 111 22 ≤ μ.1 111 22 + 2 * (μ'.1 111 9 - μ.1 111 9) + 8 * (nn μ' - nn μ) + (- 4 - 4 * wr μ' + 8 * wr μ)) ∧ (μ.1 111 9 + 1 ≤ μ'.1 111 9 + wr μ') ∧ (μ.1 111 29 ≤ μ'.1 111 29) ∧ (wr μ ≤ wr μ' ∧ bd μ ≤ bd μ') ∧ (nn μ ≤ nn μ' ∧ nn μ' ≤ nn μ + 9 * wr μ' ∧ nn μ' ≤ 9 ∧ 9 * wr μ' ≤ nn μ') ∧ (μ'.1 111 39 = μ.1 111 39) ∧ (∀ j, j < μ.1 111 39 → μ'.1 126 j = μ.1 126 j) ∧ (μ.1 111 31 ≤ μ'.1 111 31 ∧ μ'.1 111 31 ≤ 300) ∧ (0 ≤ μ'.1 111 32 ∧ μ'.1 111 32 ≤ μ'.1 111 9) ∧ (∀ _ : Unit, bd μ' = 0 → mEX μ μ' tt 0 (2 * (8 - nn μ)) 101) ∧ (mEXT μ μ'))) (hPM : PM μ) (hnn : 0 ≤ nn μ ∧ nn μ ≤ 9 ∧ 9 * wr μ ≤ nn μ) (hn8 : nn μ ≤ 8 + wr μ) (hcd : 0 ≤ μ.1 111 22 ∧ μ.1 111 22 ≤ 2 * μ.1 111 9 + 8 * nn μ + 58) (hW : 0 ≤ μ.1 111 39 ∧ μ.1 111 39 ≤ μ.1 111 22) (hsl : 0 ≤ μ.1 111 31 ∧ μ.1 111 31 ≤ 300) (hvr : 0 ≤ μ.1 111 32 ∧ μ.1 111 32 ≤ μ.1 111 9) (hfu : 1 ≤ kf ∧ 9 ≤ nn μ + kf) (hDO : ∀ _ : Unit, bd μ = 0 → mDO μo μ tt (2 * (8 - nn μ)) x1) (hxo : mEXT μx μ) (hxk : μx.1 111 22 ≤ x1) (hqk : 0 ≤ x1 ∧ x1 < μ.1 111 22) : CtV ω l yX12_door cX12_door 4 (F + 1) (Lo + 20) [.ref (oP ω 111), .int (iv x1), .int (iv x2)] μ (fun (μ' : M3) => (FrM [111, 113, 115, 116, 117, 123, 124, 126] μ μ') ∧ (∀ j, j ∉ ([6, 8, 9, 10, 11, 12, 13, 15, 16, 17, 18, 22, 29, 31, 32, 34, 35, 36, 37, 39] : List Int) → μ'.1 111 j = μ.1 111 j) ∧ (PM μ') ∧ (μ.1 111 22 ≤ μ'.1 111 22 ∧ μ'.1 111 22 ≤ μ.1 111 22 + 2 * (μ'.1 111 9 - μ.1 111 9) + 8 * (nn μ' - nn μ) + (- 8 + 2 * wr μ' + 8 * wr μ)) ∧ (μ.1 111 9 + 1 ≤ μ'.1 111 9 + wr μ') ∧ (μ.1 111 29 ≤ μ'.1 111 29) ∧ (wr μ ≤ wr μ' ∧ bd μ ≤ bd μ') ∧ (nn μ ≤ nn μ' ∧ nn μ' ≤ nn μ + 9 * wr μ' ∧ nn μ' ≤ 9 ∧ 9 * wr μ' ≤ nn μ') ∧ (μ'.1 111 39 = μ.1 111 39) ∧ (∀ j, j < μ.1 111 39 → μ'.1 126 j = μ.1 126 j) ∧ (μ.1 111 31 ≤ μ'.1 111 31 ∧ μ'.1 111 31 ≤ 300) ∧ (0 ≤ μ'.1 111 32 ∧ μ'.1 111 32 ≤ μ'.1 111 9) ∧ (∀ _ : Unit, bd μ' = 0 → mEY μo μ' tt (2 * (8 - nn μ) + 1)) ∧ (mEXT μx μ')) := by
  refine CtV.go (by decide) (Nat.le_of_ble_eq_true rfl) (fun ρ p e s m below meth c R ls G hR hret hlk hl => ?_)
  have hx := G.1.1
  have hb := G.1.2.1
  have hl : lv_has ls 4 [(0, .ref (oP ω 111)), (1, .int (iv x1)), (2, .int (iv x2))] := hl
  generalize s.drawn = d0 at G ⊢
  have hr_x1 : -2147483648 ≤ x1 ∧ x1 ≤ 2147483647 := hx1
  have hr_x2 : -2147483648 ≤ x2 ∧ x2 ≤ 2147483647 := hx2
  have hw_0 := wr_r (μ := μ)
  have hpp_ := hPM.1.2.1
  have hpn_ := hPM.2.1
  have hpt_ := hPM.1.2.2.2.1
  have hpw_ := hPM.1.2.2.2.2.1
  have hpa_ := hPM.1.1
  have hps_x1 : μx.1 111 22 ≤ x1 := hxk
  have hxl_ := hxo.1
  have hht_0 : ∀ _ : Unit, bd μ = 0 → mHt μ 0 := fun _ h0 => (hDO () h0).ht
  refine lv_aload_n hx hb dX12_door_0 rfl (lv_at hl 0 rfl) ?_
  have e_1 : μ.1 111 14 = tt := htt.symm
  refine xc_vV G (b := 111) (rest := []) (As := []) (((fun (_ : Om) (_ : Launch) => hK)) ω l μ tt (by (repeat' apply And.intro) <;> omega) hPM (by (repeat' apply And.intro) <;> omega) (by (repeat' apply And.intro) <;> omega) (by (repeat' apply And.intro) <;> omega) (by (repeat' apply And.intro) <;> omega) (by (repeat' apply And.intro) <;> omega) (by (repeat' apply And.intro) <;> omega) (by (repeat' apply And.intro) <;> omega) (fun _ h0 => (hht_0 () h0).s)) (wm 9 118 rfl rfl) (wm 9 120 rfl rfl) (wm 0 142 rfl rfl) rfl rfl (by decide) rfl (wm 1 18 rfl rfl) (wm 9 121 rfl rfl) (by decide) hR ⟨sfr (F := F) (a := 0) (by decide), slo (L := Lo) (m := 1) (a := 0) (by decide)⟩ (n := 0) rfl rfl (Nat.le_of_ble_eq_true rfl) hl.1 dX12_door_1 (fun μ2 ρ d0 H locs hp G => ?_)
  obtain ⟨F_3, hp_4, hp_5, hp_6, hp_7, hp_8, hp_9, hp_10, hp_11, hp_12, hp_13, hp_14, hp_15, hp_16⟩ := hp
  have hpl_17 := hp_5.pl
  have hw_18 := wr_r (μ := μ2)
  have hxt_19 : mEXT μx μ2 := hxo.tr hp_16
  have hwk_20 : ∀ j, j < μ.1 111 39 → μ2.1 126 j = μ.1 126 j := fun j hj => hp_12 j (by omega)
  have hex_21 : ∀ _ : Unit, bd μ2 = 0 → mEX μ μ2 tt 0 (2 * (8 - nn μ)) 101 := fun _ h0 => (hp_15 () h0).mn (by omega) (Int.le_refl _)
  have hht_22 : ∀ _ : Unit, bd μ2 = 0 → mHt μ2 0 := fun _ h0 => (hht_0 () (bd_z (hp_9.2) h0)).ex (hex_21 () h0) rfl
  have vl_23 := hp_6
  replace hp_6 := fun _ : Unit => hp_6
  have vl_24 := hp_7
  replace hp_7 := fun _ : Unit => hp_7
  have vl_25 := hp_8
  replace hp_8 := fun _ : Unit => hp_8
  have vl_26 := hp_9
  replace hp_9 := fun _ : Unit => hp_9
  have vl_27 := hp_10
  replace hp_10 := fun _ : Unit => hp_10
  have vl_28 := hp_11
  replace hp_11 := fun _ : Unit => hp_11
  have vl_29 := hp_13
  replace hp_13 := fun _ : Unit => hp_13
  have vl_30 := hp_14
  replace hp_14 := fun _ : Unit => hp_14
  have h39_31 : μ2.1 111 39 = μ.1 111 39 := by omega
  obtain ⟨hv_34, hv_35, hv_36, hv_37, hv_38, hv_39, hv_40, hv_41, hv_42, hv_43, hv_44, hv_45, hv_46, hv_47, hv_48, hv_49, hv_50, hv_51, hv_52, hv_53⟩ : μ.1 111 22 ≤ μ2.1 111 22 ∧ μ2.1 111 22 ≤ μ.1 111 22 + 2 * (μ2.1 111 9 - μ.1 111 9) + 8 * (nn μ2 - nn μ) - 4 + -4 * wr μ2 + 8 * wr μ ∧ μ.1 111 9 + 0 ≤ μ2.1 111 9 ∧ μ.1 111 9 + 1 ≤ μ2.1 111 9 + wr μ2 ∧ nn μ + 0 ≤ nn μ2 + 0 * wr μ ∧ nn μ2 ≤ nn μ + 0 + 9 * wr μ2 ∧ nn μ2 ≤ 8 + wr μ2 ∧ 9 * wr μ2 ≤ nn μ2 ∧ nn μ2 ≤ 9 ∧ wr μ ≤ wr μ2 ∧ wr μ2 ≤ 1 ∧ wr μ2 ≤ bd μ2 ∧ bd μ2 ≤ 1 ∧ x1 + 1 ≤ μ2.1 111 22 ∧ μ.1 111 29 ≤ μ2.1 111 29 ∧ μ.1 111 31 ≤ μ2.1 111 31 ∧ μ2.1 111 31 ≤ 300 ∧ 0 ≤ μ2.1 111 32 ∧ μ2.1 111 32 ≤ μ2.1 111 9 ∧ μ2.1 111 9 ≤ 3000 := by (repeat' apply And.intro) <;> omega
  clear e_1 hpl_17 hw_18 vl_23 vl_24 vl_25 vl_26 vl_27 vl_28 vl_29 vl_30
  refine lv_aload_n hx hb dX12_door_4 rfl (lv_at hl 0 rfl) ?_
  refine lv_bipush (v := iv 15) hx hb dX12_door_5 rfl ?_
  refine lv_lconst (v := jv 0) hx hb dX12_door_7 rfl ?_
  refine lv_iconst (v := iv 0) hx hb dX12_door_8 rfl ?_
  refine xc_iV G (b := 111) (rest := []) (As := [.int (iv 15), .long (jv 0), .int (iv 0)]) (c_X12_emit ω l μ2 15 0 0 (by unfold ir; decide) (by unfold jr; omega) (by unfold ir; decide) (by (repeat' apply And.intro) <;> omega)) (wm 9 126 rfl rfl) (wm 9 128 rfl rfl) (wm 0 144 rfl rfl) rfl rfl (by decide) rfl (wm 1 18 rfl rfl) (wm 9 129 rfl rfl) (by decide) hR ⟨nfB hF (by decide), nlB hLo (by decide)⟩ (n := 3) rfl rfl (Nat.le_of_ble_eq_true rfl) hl.1 dX12_door_9 (fun r_55 μ54 ρ d0 H locs hr_r_55 hp G => ?_)
  have hr_r_55 : -2147483648 ≤ r_55 ∧ r_55 ≤ 2147483647 := hr_r_55
  obtain ⟨F_56, hp_57, hp_58, hp_59, hp_60⟩ := hp
  have hxt_61 : mEXT μx μ54 := hxt_19.tr hp_58.1
  have hht_62 : ∀ _ : Unit, bd μ54 = 0 → mHt μ54 0 := fun _ h0 => (hht_22 () (bd_z (Int.le_of_eq (bd_cg (hp_57 15 (by decide)) (hp_57 16 (by decide)) (hp_57 17 (by decide))).symm) h0)).ad hp_58 rfl
  have vl_63 := hp_60
  replace hp_60 := fun _ : Unit => hp_60
  have hw_64 := wr_r (μ := μ2)
  obtain ⟨hv_66, hv_67, hv_68, hv_69, hv_70, hv_71, hv_72, hv_73, hv_74, hv_75, hv_76, hv_77, hv_78, hv_79, hv_80, hv_81, hv_82, hv_83, hv_84, hv_85⟩ : μ.1 111 22 ≤ μ54.1 111 22 ∧ μ54.1 111 22 ≤ μ.1 111 22 + 2 * (μ2.1 111 9 - μ.1 111 9) + 8 * (nn μ2 - nn μ) - 3 + -4 * wr μ2 + 8 * wr μ ∧ μ.1 111 9 + 0 ≤ μ2.1 111 9 ∧ μ.1 111 9 + 1 ≤ μ2.1 111 9 + wr μ2 ∧ nn μ + 0 ≤ nn μ2 + 0 * wr μ ∧ nn μ2 ≤ nn μ + 0 + 9 * wr μ2 ∧ nn μ2 ≤ 8 + wr μ2 ∧ 9 * wr μ2 ≤ nn μ2 ∧ nn μ2 ≤ 9 ∧ wr μ ≤ wr μ2 ∧ wr μ2 ≤ 1 ∧ wr μ2 ≤ bd μ2 ∧ bd μ2 ≤ 1 ∧ x1 + 1 ≤ μ54.1 111 22 ∧ μ.1 111 29 ≤ μ2.1 111 29 ∧ μ.1 111 31 ≤ μ2.1 111 31 ∧ μ2.1 111 31 ≤ 300 ∧ 0 ≤ μ2.1 111 32 ∧ μ2.1 111 32 ≤ μ2.1 111 9 ∧ μ2.1 111 9 ≤ 3000 := by (repeat' apply And.intro) <;> omega
  clear hv_34 hv_35 hv_36 hv_37 hv_38 hv_39 hv_40 hv_41 hv_42 hv_43 hv_44 hv_45 hv_46 hv_47 hv_48 hv_49 hv_50 hv_51 hv_52 hv_53 vl_63 hw_64
  refine lv_pop hx hb dX12_door_12 rfl ?_
  refine lv_aload_n hx hb dX12_door_13 rfl (lv_at hl 0 rfl) ?_
  refine lv_bipush (v := iv 8) hx hb dX12_door_14 rfl ?_
  refine lv_lconst (v := jv 0) hx hb dX12_door_16 rfl ?_
  refine lv_iconst (v := iv 0) hx hb dX12_door_17 rfl ?_
  have e_86 : μ54.1 111 29 = μ2.1 111 29 := (hp_57 29 (by decide))
  refine xc_iV G (b := 111) (rest := []) (As := [.int (iv 8), .long (jv 0), .int (iv 0)]) (c_X12_emit ω l μ54 8 0 0 (by unfold ir; decide) (by unfold jr; omega) (by unfold ir; decide) (by (repeat' apply And.intro) <;> omega)) (wm 9 126 rfl rfl) (wm 9 128 rfl rfl) (wm 0 144 rfl rfl) rfl rfl (by decide) rfl (wm 1 18 rfl rfl) (wm 9 129 rfl rfl) (by decide) hR ⟨nfB hF (by decide), nlB hLo (by decide)⟩ (n := 3) rfl rfl (Nat.le_of_ble_eq_true rfl) hl.1 dX12_door_18 (fun r_88 μ87 ρ d0 H locs hr_r_88 hp G => ?_)
  have hr_r_88 : -2147483648 ≤ r_88 ∧ r_88 ≤ 2147483647 := hr_r_88
  obtain ⟨F_89, hp_90, hp_91, hp_92, hp_93⟩ := hp
  have hxt_94 : mEXT μx μ87 := hxt_61.tr hp_91.1
  have hht_95 : ∀ _ : Unit, bd μ87 = 0 → mHt μ87 0 := fun _ h0 => (hht_62 () (bd_z (Int.le_of_eq (bd_cg (hp_90 15 (by decide)) (hp_90 16 (by decide)) (hp_90 17 (by decide))).symm) h0)).ad hp_91 rfl
  have hps_r_88 : μ.1 111 22 ≤ r_88 := by omega
  have vl_96 := hp_93
  replace hp_93 := fun _ : Unit => hp_93
  have hw_97 := wr_r (μ := μ2)
  obtain ⟨hv_99, hv_100, hv_101, hv_102, hv_103, hv_104, hv_105, hv_106, hv_107, hv_108, hv_109, hv_110, hv_111, hv_112, hv_113, hv_114, hv_115, hv_116, hv_117, hv_118, hv_119⟩ : μ.1 111 22 ≤ μ87.1 111 22 ∧ μ87.1 111 22 ≤ μ.1 111 22 + 2 * (μ2.1 111 9 - μ.1 111 9) + 8 * (nn μ2 - nn μ) - 2 + -4 * wr μ2 + 8 * wr μ ∧ μ.1 111 9 + 0 ≤ μ2.1 111 9 ∧ μ.1 111 9 + 1 ≤ μ2.1 111 9 + wr μ2 ∧ nn μ + 0 ≤ nn μ2 + 0 * wr μ ∧ nn μ2 ≤ nn μ + 0 + 9 * wr μ2 ∧ nn μ2 ≤ 8 + wr μ2 ∧ 9 * wr μ2 ≤ nn μ2 ∧ nn μ2 ≤ 9 ∧ wr μ ≤ wr μ2 ∧ wr μ2 ≤ 1 ∧ wr μ2 ≤ bd μ2 ∧ bd μ2 ≤ 1 ∧ x1 + 1 ≤ μ87.1 111 22 ∧ r_88 + 1 ≤ μ87.1 111 22 ∧ μ.1 111 29 ≤ μ2.1 111 29 ∧ μ.1 111 31 ≤ μ2.1 111 31 ∧ μ2.1 111 31 ≤ 300 ∧ 0 ≤ μ2.1 111 32 ∧ μ2.1 111 32 ≤ μ2.1 111 9 ∧ μ2.1 111 9 ≤ 3000 := by (repeat' apply And.intro) <;> omega
  clear hv_66 hv_67 hv_68 hv_69 hv_70 hv_71 hv_72 hv_73 hv_74 hv_75 hv_76 hv_77 hv_78 hv_79 hv_80 hv_81 hv_82 hv_83 hv_84 hv_85 e_86 vl_96 hw_97
  refine lv_istore_n (lv' := [(3, .int (iv r_88)), (0, .ref (oP ω 111)), (1, .int (iv x1)), (2, .int (iv x2))]) hx hb dX12_door_21 rfl hl (by decide) rfl (fun ls hl => ?_)
  refine lv_aload_n hx hb dX12_door_22 rfl (lv_at hl 1 rfl) ?_
  refine lv_iload_n hx hb dX12_door_23 rfl (lv_at hl 3 rfl) ?_
  have hPM_120 : PM μ87 := hp_5.cg ((((hp_90 4 (by decide)).trans ((hp_57 4 (by decide)).trans (hp_4 4 (by decide))))).trans ((hp_4 4 (by decide))).symm) ((hp_90 6 (by decide)).trans (hp_57 6 (by decide))) ((((hp_90 7 (by decide)).trans ((hp_57 7 (by decide)).trans (hp_4 7 (by decide))))).trans ((hp_4 7 (by decide))).symm) ((hp_90 8 (by decide)).trans (hp_57 8 (by decide))) ((hp_90 9 (by decide)).trans (hp_57 9 (by decide))) ((hp_90 11 (by decide)).trans (hp_57 11 (by decide))) ((hp_90 12 (by decide)).trans (hp_57 12 (by decide))) ((((hp_90 14 (by decide)).trans ((hp_57 14 (by decide)).trans ((hp_4 14 (by decide)).trans htt.symm)))).trans (((hp_4 14 (by decide)).trans htt.symm)).symm) ((hp_90 15 (by decide)).trans (hp_57 15 (by decide))) ((hp_90 29 (by decide)).trans (hp_57 29 (by decide))) (fun j => ((F_89.1 123 (by decide) j).trans (F_56.1 123 (by decide) j)))
  have e_121 : wr μ87 = wr μ2 := ((wr_cg (hp_90 15 (by decide))).trans (wr_cg (hp_57 15 (by decide))))
  have hw_122 := wr_r (μ := μ2)
  have e_123 : nn μ87 = nn μ2 := ((nn_cg (hp_90 15 (by decide)) (hp_90 18 (by decide))).trans (nn_cg (hp_57 15 (by decide)) (hp_57 18 (by decide))))
  have e_124 : μ87.1 111 9 = μ2.1 111 9 := ((hp_90 9 (by decide)).trans (hp_57 9 (by decide)))
  have e_127 : bd μ87 = bd μ2 := ((bd_cg (hp_90 15 (by decide)) (hp_90 16 (by decide)) (hp_90 17 (by decide))).trans (bd_cg (hp_57 15 (by decide)) (hp_57 16 (by decide)) (hp_57 17 (by decide))))
  refine xc_vV G (b := 111) (rest := []) (As := [.int (iv x2)]) (c_X12_wantsWord ω l μ87 x2 (by unfold ir; exact ⟨by omega, by omega⟩) hPM_120 (by (repeat' apply And.intro) <;> omega)) (wm 10 27 rfl rfl) (wm 10 29 rfl rfl) (wm 0 178 rfl rfl) rfl rfl (by decide) rfl (wm 1 18 rfl rfl) (wm 10 30 rfl rfl) (by decide) hR ⟨nfB hF (by decide), nlB hLo (by decide)⟩ (n := 1) rfl rfl (Nat.le_of_ble_eq_true rfl) hl.1 dX12_door_24 (fun μ129 ρ d0 H locs hp G => ?_)
  obtain ⟨F_130, hp_131, hp_132, hp_133, hp_134, hp_135, hp_136⟩ := hp
  have hpl_137 := hp_132.pl
  have hw_138 := wr_r (μ := μ129)
  have hw_139 := wr_r (μ := μ87)
  have vl_140 := hp_133
  replace hp_133 := fun _ : Unit => hp_133
  have vl_141 := hp_134
  replace hp_134 := fun _ : Unit => hp_134
  have vl_142 := hp_135
  replace hp_135 := fun _ : Unit => hp_135
  have vl_143 := hp_136
  replace hp_136 := fun _ : Unit => hp_136
  obtain ⟨hv_146, hv_147, hv_148, hv_149, hv_150, hv_151, hv_152, hv_153, hv_154, hv_155, hv_156, hv_157, hv_158, hv_159, hv_160, hv_161, hv_162, hv_163, hv_164, hv_165, hv_166⟩ : μ.1 111 22 ≤ μ87.1 111 22 ∧ μ87.1 111 22 ≤ μ.1 111 22 + 2 * (μ129.1 111 9 - μ.1 111 9) + 8 * (nn μ129 - nn μ) - 4 + -2 * wr μ129 + 8 * wr μ ∧ μ.1 111 9 + 0 ≤ μ129.1 111 9 ∧ μ.1 111 9 + 1 ≤ μ129.1 111 9 + wr μ129 ∧ nn μ + 0 ≤ nn μ129 + 0 * wr μ ∧ nn μ129 ≤ nn μ + 0 + 9 * wr μ129 ∧ nn μ129 ≤ 8 + wr μ129 ∧ 9 * wr μ129 ≤ nn μ129 ∧ nn μ129 ≤ 9 ∧ wr μ ≤ wr μ129 ∧ wr μ129 ≤ 1 ∧ wr μ129 ≤ bd μ129 ∧ bd μ129 ≤ 1 ∧ x1 + 1 ≤ μ87.1 111 22 ∧ r_88 + 1 ≤ μ87.1 111 22 ∧ μ.1 111 29 ≤ μ2.1 111 29 ∧ μ.1 111 31 ≤ μ2.1 111 31 ∧ μ2.1 111 31 ≤ 300 ∧ 0 ≤ μ2.1 111 32 ∧ μ2.1 111 32 ≤ μ129.1 111 9 ∧ μ129.1 111 9 ≤ 3000 := by (repeat' apply And.intro) <;> omega
  clear hv_99 hv_100 hv_101 hv_102 hv_103 hv_104 hv_105 hv_106 hv_107 hv_108 hv_109 hv_110 hv_111 hv_112 hv_113 hv_114 hv_115 hv_116 hv_117 hv_118 hv_119 e_121 hw_122 e_123 e_124 e_127 hpl_137 hw_138 hw_139 vl_140 vl_141 vl_142 vl_143
  refine lv_aload_n hx hb dX12_door_27 rfl (lv_at hl 1 rfl) ?_
  refine lv_iload_n hx hb dX12_door_28 rfl (lv_at hl 2 rfl) ?_
  have hq_167 : ∀ _ : Unit, q0m μ87 μ129 := fun _ => (q0m.fr (K := [111]) (FrM.tr FrM.rf F_130 (by decide)) (by decide) (by decide) (by decide) (hp_131 22 (by decide)) (nS.le (Int.le_of_eq (hp_131 29 (by decide)).symm) (Int.le_of_eq (hp_131 31 (by decide)).symm)))
  have hw_168 := wr_r (μ := μ129)
  have hht_169 : ∀ _ : Unit, bd μ129 = 0 → mHt μ129 0 := fun _ h0 => (hht_95 () (bd_z ((hp_135 ()).2) h0)).qm (hq_167 ())
  have e_170 : μ129.1 111 29 = μ2.1 111 29 := ((hp_131 29 (by decide)).trans ((hp_90 29 (by decide)).trans (hp_57 29 (by decide))))
  have hxt_171 : mEXT μx μ129 := hxt_94.tr (q0m.fr (K := [111]) (FrM.tr FrM.rf F_130 (by decide)) (by decide) (by decide) (by decide) (hp_131 22 (by decide)) (nS.le (Int.le_of_eq (hp_131 29 (by decide)).symm) (Int.le_of_eq (hp_131 31 (by decide)).symm))).1
  have e_172 : μ129.1 111 22 = μ87.1 111 22 := (hp_131 22 (by decide))
  refine xc_vV G (b := 111) (rest := []) (As := [.int (iv x1)]) (c_X12_lands ω l μ129 x1 (by unfold ir; exact ⟨by omega, by omega⟩) (by (repeat' apply And.intro) <;> omega) (by (repeat' apply And.intro) <;> omega)) (wm 9 167 rfl rfl) (wm 9 169 rfl rfl) (wm 0 154 rfl rfl) rfl rfl (by decide) rfl (wm 1 18 rfl rfl) (wm 9 170 rfl rfl) (by decide) hR ⟨nfB hF (by decide), nlB hLo (by decide)⟩ (n := 1) rfl rfl (Nat.le_of_ble_eq_true rfl) hl.1 dX12_door_29 (fun μ176 ρ d0 H locs hp G => ?_)
  obtain ⟨F_177, hp_178⟩ := hp
  have hxt_179 : mEXT μx μ176 := hxt_171.mf hp_178 (by omega)
  have hht_180 : ∀ _ : Unit, bd μ176 = 0 → mHt μ176 0 := fun _ h0 => (hht_169 () (bd_z (Int.le_of_eq (bd_cg (F_177.1 111 (by decide) 15) (F_177.1 111 (by decide) 16) (F_177.1 111 (by decide) 17)).symm) h0)).mf hp_178
  obtain ⟨hv_183, hv_184, hv_185, hv_186, hv_187, hv_188, hv_189, hv_190, hv_191, hv_192, hv_193, hv_194, hv_195, hv_196, hv_197, hv_198, hv_199, hv_200, hv_201, hv_202, hv_203⟩ : μ.1 111 22 ≤ μ87.1 111 22 ∧ μ87.1 111 22 ≤ μ.1 111 22 + 2 * (μ129.1 111 9 - μ.1 111 9) + 8 * (nn μ129 - nn μ) - 4 + -2 * wr μ129 + 8 * wr μ ∧ μ.1 111 9 + 0 ≤ μ129.1 111 9 ∧ μ.1 111 9 + 1 ≤ μ129.1 111 9 + wr μ129 ∧ nn μ + 0 ≤ nn μ129 + 0 * wr μ ∧ nn μ129 ≤ nn μ + 0 + 9 * wr μ129 ∧ nn μ129 ≤ 8 + wr μ129 ∧ 9 * wr μ129 ≤ nn μ129 ∧ nn μ129 ≤ 9 ∧ wr μ ≤ wr μ129 ∧ wr μ129 ≤ 1 ∧ wr μ129 ≤ bd μ129 ∧ bd μ129 ≤ 1 ∧ x1 + 1 ≤ μ87.1 111 22 ∧ r_88 + 1 ≤ μ87.1 111 22 ∧ μ.1 111 29 ≤ μ2.1 111 29 ∧ μ.1 111 31 ≤ μ2.1 111 31 ∧ μ2.1 111 31 ≤ 300 ∧ 0 ≤ μ2.1 111 32 ∧ μ2.1 111 32 ≤ μ129.1 111 9 ∧ μ129.1 111 9 ≤ 3000 := by (repeat' apply And.intro) <;> omega
  clear hv_146 hv_147 hv_148 hv_149 hv_150 hv_151 hv_152 hv_153 hv_154 hv_155 hv_156 hv_157 hv_158 hv_159 hv_160 hv_161 hv_162 hv_163 hv_164 hv_165 hv_166 hw_168 e_170 e_172
  refine lv_aload_n hx hb dX12_door_32 rfl (lv_at hl 1 rfl) ?_
  have e_204 : μ176.1 111 29 = μ2.1 111 29 := ((F_177.1 111 (by decide) 29).trans ((hp_131 29 (by decide)).trans ((hp_90 29 (by decide)).trans (hp_57 29 (by decide)))))
  have e_205 : μ176.1 111 14 = tt := ((F_177.1 111 (by decide) 14).trans ((hp_131 14 (by decide)).trans ((hp_90 14 (by decide)).trans ((hp_57 14 (by decide)).trans ((hp_4 14 (by decide)).trans htt.symm)))))
  have hPM_206 : PM μ176 := hp_132.cg ((((F_177.1 111 (by decide) 4).trans ((hp_131 4 (by decide)).trans ((hp_90 4 (by decide)).trans ((hp_57 4 (by decide)).trans (hp_4 4 (by decide))))))).trans (((hp_131 4 (by decide)).trans ((hp_90 4 (by decide)).trans ((hp_57 4 (by decide)).trans (hp_4 4 (by decide)))))).symm) (F_177.1 111 (by decide) 6) ((((F_177.1 111 (by decide) 7).trans ((hp_131 7 (by decide)).trans ((hp_90 7 (by decide)).trans ((hp_57 7 (by decide)).trans (hp_4 7 (by decide))))))).trans (((hp_131 7 (by decide)).trans ((hp_90 7 (by decide)).trans ((hp_57 7 (by decide)).trans (hp_4 7 (by decide)))))).symm) (F_177.1 111 (by decide) 8) (F_177.1 111 (by decide) 9) (F_177.1 111 (by decide) 11) (F_177.1 111 (by decide) 12) ((((F_177.1 111 (by decide) 14).trans ((hp_131 14 (by decide)).trans ((hp_90 14 (by decide)).trans ((hp_57 14 (by decide)).trans ((hp_4 14 (by decide)).trans htt.symm)))))).trans (((hp_131 14 (by decide)).trans ((hp_90 14 (by decide)).trans ((hp_57 14 (by decide)).trans ((hp_4 14 (by decide)).trans htt.symm))))).symm) (F_177.1 111 (by decide) 15) ((((F_177.1 111 (by decide) 29).trans ((hp_131 29 (by decide)).trans ((hp_90 29 (by decide)).trans (hp_57 29 (by decide)))))).trans (((hp_131 29 (by decide)).trans ((hp_90 29 (by decide)).trans (hp_57 29 (by decide))))).symm) (fun j => (F_177.1 123 (by decide) j))
  have e_207 : wr μ176 = wr μ129 := (wr_cg (F_177.1 111 (by decide) 15))
  have hw_208 := wr_r (μ := μ129)
  have e_209 : nn μ176 = nn μ129 := (nn_cg (F_177.1 111 (by decide) 15) (F_177.1 111 (by decide) 18))
  have e_212 : μ176.1 111 22 = μ87.1 111 22 := ((F_177.1 111 (by decide) 22).trans (hp_131 22 (by decide)))
  have e_214 : μ176.1 111 9 = μ129.1 111 9 := (F_177.1 111 (by decide) 9)
  have e_216 : μ176.1 111 39 = μ2.1 111 39 := ((F_177.1 111 (by decide) 39).trans ((hp_131 39 (by decide)).trans ((hp_90 39 (by decide)).trans (hp_57 39 (by decide)))))
  have e_219 : μ176.1 111 31 = μ2.1 111 31 := ((F_177.1 111 (by decide) 31).trans ((hp_131 31 (by decide)).trans ((hp_90 31 (by decide)).trans (hp_57 31 (by decide)))))
  have e_221 : μ176.1 111 32 = μ2.1 111 32 := ((F_177.1 111 (by decide) 32).trans ((hp_131 32 (by decide)).trans ((hp_90 32 (by decide)).trans (hp_57 32 (by decide)))))
  have e_233 : bd μ176 = bd μ129 := (bd_cg (F_177.1 111 (by decide) 15) (F_177.1 111 (by decide) 16) (F_177.1 111 (by decide) 17))
  refine xc_vV G (b := 111) (rest := []) (As := []) (((fun (_ : Om) (_ : Launch) => hK)) ω l μ176 tt (by (repeat' apply And.intro) <;> omega) hPM_206 (by (repeat' apply And.intro) <;> omega) (by (repeat' apply And.intro) <;> omega) (by (repeat' apply And.intro) <;> omega) (by (repeat' apply And.intro) <;> omega) (by (repeat' apply And.intro) <;> omega) (by (repeat' apply And.intro) <;> omega) (by (repeat' apply And.intro) <;> omega) (fun _ h0 => (hht_180 () h0).s)) (wm 9 118 rfl rfl) (wm 9 120 rfl rfl) (wm 0 142 rfl rfl) rfl rfl (by decide) rfl (wm 1 18 rfl rfl) (wm 9 121 rfl rfl) (by decide) hR ⟨sfr (F := F) (a := 0) (by decide), slo (L := Lo) (m := 1) (a := 0) (by decide)⟩ (n := 0) rfl rfl (Nat.le_of_ble_eq_true rfl) hl.1 dX12_door_33 (fun μ237 ρ d0 H locs hp G => ?_)
  obtain ⟨F_238, hp_239, hp_240, hp_241, hp_242, hp_243, hp_244, hp_245, hp_246, hp_247, hp_248, hp_249, hp_250, hp_251⟩ := hp
  have hpl_252 := hp_240.pl
  have hw_253 := wr_r (μ := μ237)
  have hw_254 := wr_r (μ := μ176)
  have hxt_255 : mEXT μx μ237 := hxt_179.tr hp_251
  have hwk_256 : ∀ j, j < μ.1 111 39 → μ237.1 126 j = μ176.1 126 j := fun j hj => hp_247 j (by omega)
  have hex_257 : ∀ _ : Unit, bd μ237 = 0 → mEX μ176 μ237 tt 0 (2 * (8 - nn μ)) 101 := fun _ h0 => (hp_250 () h0).mn (by omega) (Int.le_refl _)
  have hht_258 : ∀ _ : Unit, bd μ237 = 0 → mHt μ237 0 := fun _ h0 => (hht_180 () (bd_z (hp_244.2) h0)).ex (hex_257 () h0) rfl
  have vl_259 := hp_241
  replace hp_241 := fun _ : Unit => hp_241
  have vl_260 := hp_242
  replace hp_242 := fun _ : Unit => hp_242
  have vl_261 := hp_243
  replace hp_243 := fun _ : Unit => hp_243
  have vl_262 := hp_244
  replace hp_244 := fun _ : Unit => hp_244
  have vl_263 := hp_245
  replace hp_245 := fun _ : Unit => hp_245
  have vl_264 := hp_246
  replace hp_246 := fun _ : Unit => hp_246
  have vl_265 := hp_248
  replace hp_248 := fun _ : Unit => hp_248
  have vl_266 := hp_249
  replace hp_249 := fun _ : Unit => hp_249
  have h39_267 : μ237.1 111 39 = μ.1 111 39 := by omega
  obtain ⟨hv_270, hv_271, hv_272, hv_273, hv_274, hv_275, hv_276, hv_277, hv_278, hv_279, hv_280, hv_281, hv_282, hv_283, hv_284, hv_285, hv_286, hv_287, hv_288, hv_289, hv_290⟩ : μ.1 111 22 ≤ μ237.1 111 22 ∧ μ237.1 111 22 ≤ μ.1 111 22 + 2 * (μ237.1 111 9 - μ.1 111 9) + 8 * (nn μ237 - nn μ) - 8 + 2 * wr μ237 + 8 * wr μ ∧ μ.1 111 9 + 0 ≤ μ237.1 111 9 ∧ μ.1 111 9 + 1 ≤ μ237.1 111 9 + wr μ237 ∧ nn μ + 0 ≤ nn μ237 + 0 * wr μ ∧ nn μ237 ≤ nn μ + 0 + 9 * wr μ237 ∧ nn μ237 ≤ 8 + wr μ237 ∧ 9 * wr μ237 ≤ nn μ237 ∧ nn μ237 ≤ 9 ∧ wr μ ≤ wr μ237 ∧ wr μ237 ≤ 1 ∧ wr μ237 ≤ bd μ237 ∧ bd μ237 ≤ 1 ∧ x1 + 1 ≤ μ237.1 111 22 ∧ r_88 + 1 ≤ μ237.1 111 22 ∧ μ.1 111 29 ≤ μ237.1 111 29 ∧ μ.1 111 31 ≤ μ237.1 111 31 ∧ μ237.1 111 31 ≤ 300 ∧ 0 ≤ μ237.1 111 32 ∧ μ237.1 111 32 ≤ μ237.1 111 9 ∧ μ237.1 111 9 ≤ 3000 := by (repeat' apply And.intro) <;> omega
  clear hv_183 hv_184 hv_185 hv_186 hv_187 hv_188 hv_189 hv_190 hv_191 hv_192 hv_193 hv_194 hv_195 hv_196 hv_197 hv_198 hv_199 hv_200 hv_201 hv_202 hv_203 e_204 e_205 e_207 hw_208 e_209 e_212 e_214 e_216 e_219 e_221 e_233 hpl_252 hw_253 hw_254 vl_259 vl_260 vl_261 vl_262 vl_263 vl_264 vl_265 vl_266
  refine lv_aload_n hx hb dX12_door_36 rfl (lv_at hl 1 rfl) ?_
  refine lv_iload_n hx hb dX12_door_37 rfl (lv_at hl 0 rfl) ?_
  refine xc_vV G (b := 111) (rest := []) (As := [.int (iv r_88)]) (c_X12_lands ω l μ237 r_88 (by unfold ir; exact ⟨by omega, by omega⟩) (by (repeat' apply And.intro) <;> omega) (by (repeat' apply And.intro) <;> omega)) (wm 9 167 rfl rfl) (wm 9 169 rfl rfl) (wm 0 154 rfl rfl) rfl rfl (by decide) rfl (wm 1 18 rfl rfl) (wm 9 170 rfl rfl) (by decide) hR ⟨nfB hF (by decide), nlB hLo (by decide)⟩ (n := 1) rfl rfl (Nat.le_of_ble_eq_true rfl) hl.1 dX12_door_38 (fun μ291 ρ d0 H locs hp G => ?_)
  obtain ⟨F_292, hp_293⟩ := hp
  have hxt_294 : mEXT μx μ291 := hxt_255.mf hp_293 (by omega)
  have hht_295 : ∀ _ : Unit, bd μ291 = 0 → mHt μ291 0 := fun _ h0 => (hht_258 () (bd_z (Int.le_of_eq (bd_cg (F_292.1 111 (by decide) 15) (F_292.1 111 (by decide) 16) (F_292.1 111 (by decide) 17)).symm) h0)).mf hp_293
  have hw_296 := wr_r (μ := μ237)
  obtain ⟨hv_298, hv_299, hv_300, hv_301, hv_302, hv_303, hv_304, hv_305, hv_306, hv_307, hv_308, hv_309, hv_310, hv_311, hv_312, hv_313, hv_314, hv_315, hv_316, hv_317, hv_318⟩ : μ.1 111 22 ≤ μ237.1 111 22 ∧ μ237.1 111 22 ≤ μ.1 111 22 + 2 * (μ237.1 111 9 - μ.1 111 9) + 8 * (nn μ237 - nn μ) - 8 + 2 * wr μ237 + 8 * wr μ ∧ μ.1 111 9 + 0 ≤ μ237.1 111 9 ∧ μ.1 111 9 + 1 ≤ μ237.1 111 9 + wr μ237 ∧ nn μ + 0 ≤ nn μ237 + 0 * wr μ ∧ nn μ237 ≤ nn μ + 0 + 9 * wr μ237 ∧ nn μ237 ≤ 8 + wr μ237 ∧ 9 * wr μ237 ≤ nn μ237 ∧ nn μ237 ≤ 9 ∧ wr μ ≤ wr μ237 ∧ wr μ237 ≤ 1 ∧ wr μ237 ≤ bd μ237 ∧ bd μ237 ≤ 1 ∧ x1 + 1 ≤ μ237.1 111 22 ∧ r_88 + 1 ≤ μ237.1 111 22 ∧ μ.1 111 29 ≤ μ237.1 111 29 ∧ μ.1 111 31 ≤ μ237.1 111 31 ∧ μ237.1 111 31 ≤ 300 ∧ 0 ≤ μ237.1 111 32 ∧ μ237.1 111 32 ≤ μ237.1 111 9 ∧ μ237.1 111 9 ≤ 3000 := by (repeat' apply And.intro) <;> omega
  clear hv_270 hv_271 hv_272 hv_273 hv_274 hv_275 hv_276 hv_277 hv_278 hv_279 hv_280 hv_281 hv_282 hv_283 hv_284 hv_285 hv_286 hv_287 hv_288 hv_289 hv_290 hw_296
  have e_319 : μ291.1 111 22 = μ237.1 111 22 := (F_292.1 111 (by decide) 22)
  have e_320 : μ291.1 111 9 = μ237.1 111 9 := (F_292.1 111 (by decide) 9)
  have e_321 : μ291.1 111 29 = μ237.1 111 29 := (F_292.1 111 (by decide) 29)
  have e_322 : μ291.1 111 39 = μ237.1 111 39 := (F_292.1 111 (by decide) 39)
  have e_323 : μ291.1 111 31 = μ237.1 111 31 := (F_292.1 111 (by decide) 31)
  have e_324 : μ291.1 111 32 = μ237.1 111 32 := (F_292.1 111 (by decide) 32)
  have e_325 : μ291.1 111 6 = μ237.1 111 6 := (F_292.1 111 (by decide) 6)
  have e_326 : wr μ291 = wr μ237 := (wr_cg (F_292.1 111 (by decide) 15))
  have hw_327 := wr_r (μ := μ237)
  have e_328 : bd μ291 = bd μ237 := (bd_cg (F_292.1 111 (by decide) 15) (F_292.1 111 (by decide) 16) (F_292.1 111 (by decide) 17))
  have e_329 : nn μ291 = nn μ237 := (nn_cg (F_292.1 111 (by decide) 15) (F_292.1 111 (by decide) 18))
  have hPM_330 : PM μ291 := hp_240.cg ((((F_292.1 111 (by decide) 4).trans ((hp_239 4 (by decide)).trans ((F_177.1 111 (by decide) 4).trans ((hp_131 4 (by decide)).trans ((hp_90 4 (by decide)).trans ((hp_57 4 (by decide)).trans (hp_4 4 (by decide))))))))).trans (((hp_239 4 (by decide)).trans ((F_177.1 111 (by decide) 4).trans ((hp_131 4 (by decide)).trans ((hp_90 4 (by decide)).trans ((hp_57 4 (by decide)).trans (hp_4 4 (by decide)))))))).symm) (F_292.1 111 (by decide) 6) ((((F_292.1 111 (by decide) 7).trans ((hp_239 7 (by decide)).trans ((F_177.1 111 (by decide) 7).trans ((hp_131 7 (by decide)).trans ((hp_90 7 (by decide)).trans ((hp_57 7 (by decide)).trans (hp_4 7 (by decide))))))))).trans (((hp_239 7 (by decide)).trans ((F_177.1 111 (by decide) 7).trans ((hp_131 7 (by decide)).trans ((hp_90 7 (by decide)).trans ((hp_57 7 (by decide)).trans (hp_4 7 (by decide)))))))).symm) (F_292.1 111 (by decide) 8) (F_292.1 111 (by decide) 9) (F_292.1 111 (by decide) 11) (F_292.1 111 (by decide) 12) ((((F_292.1 111 (by decide) 14).trans ((hp_239 14 (by decide)).trans ((F_177.1 111 (by decide) 14).trans ((hp_131 14 (by decide)).trans ((hp_90 14 (by decide)).trans ((hp_57 14 (by decide)).trans ((hp_4 14 (by decide)).trans htt.symm)))))))).trans (((hp_239 14 (by decide)).trans ((F_177.1 111 (by decide) 14).trans ((hp_131 14 (by decide)).trans ((hp_90 14 (by decide)).trans ((hp_57 14 (by decide)).trans ((hp_4 14 (by decide)).trans htt.symm))))))).symm) (F_292.1 111 (by decide) 15) (F_292.1 111 (by decide) 29) (fun j => (F_292.1 123 (by decide) j))
  exact xr_v G hret hlk dX12_door_41 ⟨(FrM.tr (FrM.tr (FrM.tr (FrM.tr (FrM.tr (FrM.tr (FrM.tr FrM.rf F_3 (by decide)) F_56 (by decide)) F_89 (by decide)) F_130 (by decide)) F_177 (by decide)) F_238 (by decide)) F_292 (by decide)), (fun j hj => ((F_292.1 111 (by decide) j).trans ((hp_239 j (fun h9 => hj ((by decide : ∀ x ∈ ([6, 8, 9, 10, 11, 12, 13, 15, 16, 17, 18, 22, 29, 31, 32, 34, 35, 36, 37, 39] : List Int), x ∈ ([6, 8, 9, 10, 11, 12, 13, 15, 16, 17, 18, 22, 29, 31, 32, 34, 35, 36, 37, 39] : List Int)) j h9))).trans ((F_177.1 111 (by decide) j).trans ((hp_131 j (fun h9 => hj ((by decide : ∀ x ∈ ([6, 8, 9, 10, 11, 12, 13, 15] : List Int), x ∈ ([6, 8, 9, 10, 11, 12, 13, 15, 16, 17, 18, 22, 29, 31, 32, 34, 35, 36, 37, 39] : List Int)) j h9))).trans ((hp_90 j (fun h9 => hj ((by decide : ∀ x ∈ ([22] : List Int), x ∈ ([6, 8, 9, 10, 11, 12, 13, 15, 16, 17, 18, 22, 29, 31, 32, 34, 35, 36, 37, 39] : List Int)) j h9))).trans ((hp_57 j (fun h9 => hj ((by decide : ∀ x ∈ ([22] : List Int), x ∈ ([6, 8, 9, 10, 11, 12, 13, 15, 16, 17, 18, 22, 29, 31, 32, 34, 35, 36, 37, 39] : List Int)) j h9))).trans (hp_4 j (fun h9 => hj ((by decide : ∀ x ∈ ([6, 8, 9, 10, 11, 12, 13, 15, 16, 17, 18, 22, 29, 31, 32, 34, 35, 36, 37, 39] : List Int), x ∈ ([6, 8, 9, 10, 11, 12, 13, 15, 16, 17, 18, 22, 29, 31, 32, 34, 35, 36, 37, 39] : List Int)) j h9)))))))))), hPM_330, (by (repeat' apply And.intro) <;> omega), (by (repeat' apply And.intro) <;> omega), (by (repeat' apply And.intro) <;> omega), ⟨by omega, (Int.le_trans (Int.le_trans (Int.le_trans (Int.le_trans (Int.le_trans (Int.le_trans ((hp_9 ()).2) (Int.le_of_eq (bd_cg (hp_57 15 (by decide)) (hp_57 16 (by decide)) (hp_57 17 (by decide))).symm)) (Int.le_of_eq (bd_cg (hp_90 15 (by decide)) (hp_90 16 (by decide)) (hp_90 17 (by decide))).symm)) ((hp_135 ()).2)) (Int.le_of_eq (bd_cg (F_177.1 111 (by decide) 15) (F_177.1 111 (by decide) 16) (F_177.1 111 (by decide) 17)).symm)) ((hp_244 ()).2)) (Int.le_of_eq (bd_cg (F_292.1 111 (by decide) 15) (F_292.1 111 (by decide) 16) (F_292.1 111 (by decide) 17)).symm))⟩, (by (repeat' apply And.intro) <;> omega), (by (repeat' apply And.intro) <;> omega), (fun j hj => ((F_292.1 126 (by decide) j).trans ((hwk_256 j (by omega)).trans ((F_177.1 126 (by decide) j).trans ((F_130.1 126 (by decide) j).trans ((F_89.1 126 (by decide) j).trans ((F_56.1 126 (by decide) j).trans (hwk_20 j (by omega))))))))), (by (repeat' apply And.intro) <;> omega), (by (repeat' apply And.intro) <;> omega), (fun _ h0 => as_mdoor ((hDO () (bd_z (Int.le_trans (Int.le_trans (Int.le_trans (Int.le_trans (Int.le_trans (Int.le_trans ((hp_9 ()).2) (Int.le_of_eq (bd_cg (hp_57 15 (by decide)) (hp_57 16 (by decide)) (hp_57 17 (by decide))).symm)) (Int.le_of_eq (bd_cg (hp_90 15 (by decide)) (hp_90 16 (by decide)) (hp_90 17 (by decide))).symm)) ((hp_135 ()).2)) (Int.le_of_eq (bd_cg (F_177.1 111 (by decide) 15) (F_177.1 111 (by decide) 16) (F_177.1 111 (by decide) 17)).symm)) ((hp_244 ()).2)) (Int.le_of_eq (bd_cg (F_292.1 111 (by decide) 15) (F_292.1 111 (by decide) 16) (F_292.1 111 (by decide) 17)).symm)) h0))) (hex_21 () (bd_z (Int.le_trans (Int.le_trans (Int.le_trans (Int.le_trans (Int.le_trans (Int.le_of_eq (bd_cg (hp_57 15 (by decide)) (hp_57 16 (by decide)) (hp_57 17 (by decide))).symm) (Int.le_of_eq (bd_cg (hp_90 15 (by decide)) (hp_90 16 (by decide)) (hp_90 17 (by decide))).symm)) ((hp_135 ()).2)) (Int.le_of_eq (bd_cg (F_177.1 111 (by decide) 15) (F_177.1 111 (by decide) 16) (F_177.1 111 (by decide) 17)).symm)) ((hp_244 ()).2)) (Int.le_of_eq (bd_cg (F_292.1 111 (by decide) 15) (F_292.1 111 (by decide) 16) (F_292.1 111 (by decide) 17)).symm)) h0)) hp_58 (hp_91.qm (hq_167 ())) hp_178 (hex_257 () (bd_z (Int.le_of_eq (bd_cg (F_292.1 111 (by decide) 15) (F_292.1 111 (by decide) 16) (F_292.1 111 (by decide) 17)).symm) h0)) hp_293 (by omega) rfl rfl (by omega)), hxt_294⟩

set_option maxHeartbeats 4000000 in
set_option maxRecDepth 100000 in
theorem c_X12_named (ω : Om) (l : Launch) (μ : M3) (F : Nat) (Lo : Nat) (kf : Int) (tt : Int) (htt : tt = μ.1 111 14) (hF : 200 ≤ F) (hLo : 6000 ≤ Lo) (hK : ∀ (μ : M3) (tt : Int) (htt : tt = μ.1 111 14) (hPM : PM μ) (hnn : 0 ≤ nn μ ∧ nn μ ≤ 9 ∧ 9 * wr μ ≤ nn μ) (hn8 : nn μ ≤ 8 + wr μ) (hcd : 0 ≤ μ.1 111 22 ∧ μ.1 111 22 ≤ 2 * μ.1 111 9 + 8 * nn μ + 60) (hW : 0 ≤ μ.1 111 39 ∧ μ.1 111 39 ≤ μ.1 111 22) (hsl : 0 ≤ μ.1 111 31 ∧ μ.1 111 31 ≤ 300) (hvr : 0 ≤ μ.1 111 32 ∧ μ.1 111 32 ≤ μ.1 111 9) (hfu : 0 ≤ (kf - 1) ∧ 8 ≤ nn μ + (kf - 1)) (hS0 : ∀ _ : Unit, bd μ = 0 → mS0 μ), CtV ω l yX12_block cX12_block 1 (F + 0) (Lo + 0) [.ref (oP ω 111)] μ (fun (μ' : M3) => (FrM [111, 113, 115, 116, 117, 123, 124, 126] μ μ') ∧ (∀ j, j ∉ ([6, 8, 9, 10, 11, 12, 13, 15, 16, 17, 18, 22, 29, 31, 32, 34, 35, 36, 37, 39] : List Int) → μ'.1 111 j = μ.1 111 j) ∧ (PM μ') ∧ (μ.1 111 22 ≤ μ'.1 111 22 ∧ μ'.1 111 22 ≤ μ.1 111 22 + 2 * (μ'.1 111 9 - μ.1 111 9) + 8 * (nn μ' - nn μ) + (- 4 - 4 * wr μ' + 8 * wr μ)) ∧ (μ.1 111 9 + 1 ≤ μ'.1 111 9 + wr μ') ∧ (μ.1 111 29 ≤ μ'.1 111 29) ∧ (wr μ ≤ wr μ' ∧ bd μ ≤ bd μ') ∧ (nn μ ≤ nn μ' ∧ nn μ' ≤ nn μ + 9 * wr μ' ∧ nn μ' ≤ 9 ∧ 9 * wr μ' ≤ nn μ') ∧ (μ'.1 111 39 = μ.1 111 39) ∧ (∀ j, j < μ.1 111 39 → μ'.1 126 j = μ.1 126 j) ∧ (μ.1 111 31 ≤ μ'.1 111 31 ∧ μ'.1 111 31 ≤ 300) ∧ (0 ≤ μ'.1 111 32 ∧ μ'.1 111 32 ≤ μ'.1 111 9) ∧ (∀ _ : Unit, bd μ' = 0 → mEX μ μ' tt 0 (2 * (8 - nn μ)) 101) ∧ (mEXT μ μ'))) (hPM : PM μ) (hnn : 0 ≤ nn μ ∧ nn μ ≤ 9 ∧ 9 * wr μ ≤ nn μ) (hn8 : nn μ ≤ 8 + wr μ) (hcd : 0 ≤ μ.1 111 22 ∧ μ.1 111 22 ≤ 2 * μ.1 111 9 + 8 * nn μ + 54) (hW : 0 ≤ μ.1 111 39 ∧ μ.1 111 39 ≤ μ.1 111 22) (hsl : 0 ≤ μ.1 111 31 ∧ μ.1 111 31 ≤ 300) (hvr : 0 ≤ μ.1 111 32 ∧ μ.1 111 32 ≤ μ.1 111 9) (hw0 : wr μ = 0) (hfu : 1 ≤ kf ∧ 9 ≤ nn μ + kf) (hS1 : ∀ _ : Unit, bd μ = 0 → mS1 μ tt) (hst : μ.1 111 8 = 0) : CtV ω l yX12_named cX12_named 5 (F + 1) (Lo + 20) [.ref (oP ω 111)] μ (fun (μ' : M3) => (FrM [111, 113, 115, 116, 117, 123, 124, 126] μ μ') ∧ (∀ j, j ∉ ([6, 8, 9, 10, 11, 12, 13, 15, 16, 17, 18, 22, 29, 31, 32, 34, 35, 36, 37, 39] : List Int) → μ'.1 111 j = μ.1 111 j) ∧ (PM μ') ∧ (μ.1 111 22 ≤ μ'.1 111 22 ∧ μ'.1 111 22 ≤ μ.1 111 22 + 2 * (μ'.1 111 9 - μ.1 111 9) + 8 * (nn μ' - nn μ) + (- 1)) ∧ (μ.1 111 9 + 1 ≤ μ'.1 111 9 + wr μ') ∧ (μ.1 111 29 ≤ μ'.1 111 29) ∧ (wr μ ≤ wr μ' ∧ bd μ ≤ bd μ') ∧ (nn μ ≤ nn μ' ∧ nn μ' ≤ nn μ + 9 * wr μ' ∧ nn μ' ≤ 9 ∧ 9 * wr μ' ≤ nn μ') ∧ (μ'.1 111 39 = μ.1 111 39) ∧ (∀ j, j < μ.1 111 39 → μ'.1 126 j = μ.1 126 j) ∧ (μ.1 111 31 ≤ μ'.1 111 31 ∧ μ'.1 111 31 ≤ 300) ∧ (0 ≤ μ'.1 111 32 ∧ μ'.1 111 32 ≤ μ'.1 111 9) ∧ (∀ _ : Unit, bd μ' = 0 → mEY μ μ' tt ((2 * (9 - nn μ)))) ∧ (mEXT μ μ')) := by
  refine CtV.go (by decide) (Nat.le_of_ble_eq_true rfl) (fun ρ p e s m below meth c R ls G hR hret hlk hl => ?_)
  have hx := G.1.1
  have hb := G.1.2.1
  have hl : lv_has ls 5 [(0, .ref (oP ω 111))] := hl
  generalize s.drawn = d0 at G ⊢
  have hw_0 := wr_r (μ := μ)
  have hpp_ := hPM.1.2.1
  have hpn_ := hPM.2.1
  have hpt_ := hPM.1.2.2.2.1
  have hpw_ := hPM.1.2.2.2.2.1
  have hpa_ := hPM.1.1
  have hht_0 : ∀ _ : Unit, bd μ = 0 → mHt μ 0 := fun _ h0 => (hS1 () h0).h
  refine lv_aload_n hx hb dX12_named_0 rfl (lv_at hl 0 rfl) ?_
  refine xa_geti G fd_X12 (a := 111) (x := μ.1 111 9) 9 rfl (by decide) rfl (wm 7 158 rfl rfl) ⟨rfl, rfl, rfl⟩ dX12_named_1 rfl rfl ?_
  have hr_1 : -2147483648 ≤ μ.1 111 9 ∧ μ.1 111 9 ≤ 2147483647 := by have h9 := G.hr (a := 111) (k := 9) rfl; exact h9
  have hpg_2 : 0 ≤ μ.1 111 9 := by omega
  refine lv_istore_n (lv' := [(1, .int (iv (μ.1 111 9))), (0, .ref (oP ω 111))]) hx hb dX12_named_4 rfl hl (by decide) rfl (fun ls hl => ?_)
  refine lv_aload_n hx hb dX12_named_5 rfl (lv_at hl 1 rfl) ?_
  refine xa_getl G fd_X12 (a := 111) (x := μ.1 111 10) 10 rfl (by decide) rfl (wm 7 159 rfl rfl) ⟨rfl, rfl, rfl⟩ dX12_named_6 rfl rfl ?_
  have hj_3 : jr (μ.1 111 10) := by have h9 := G.hj (a := 111) (k := 10) rfl; exact h9
  refine lv_lstore_n (lv' := [(2, .long (jv (μ.1 111 10))), (1, .int (iv (μ.1 111 9))), (0, .ref (oP ω 111))]) hx hb dX12_named_9 rfl hl (by decide) rfl (fun ls hl => ?_)
  refine lv_aload_n hx hb dX12_named_10 rfl (lv_at hl 2 rfl) ?_
  refine xc_vV G (b := 111) (rest := []) (As := []) (c_X12_keeps ω l μ  ) (wm 10 43 rfl rfl) (wm 10 45 rfl rfl) (wm 0 182 rfl rfl) rfl rfl (by decide) rfl (wm 1 18 rfl rfl) (wm 10 46 rfl rfl) (by decide) hR ⟨nfB hF (by decide), nlB hLo (by decide)⟩ (n := 0) rfl rfl (Nat.le_of_ble_eq_true rfl) hl.1 dX12_named_11 (fun μ4 ρ d0 H locs hp G => ?_)
  obtain ⟨F_5, hp_6, hs_7, hs_8, hs_9⟩ := hp
  obtain ⟨hv_12, hv_13, hv_14, hv_15, hv_16, hv_17, hv_18, hv_19, hv_20, hv_21, hv_22, hv_23, hv_24, hv_25, hv_26, hv_27, hv_28, hv_29⟩ : μ.1 111 22 ≤ μ.1 111 22 ∧ μ.1 111 22 ≤ μ.1 111 22 + 2 * (μ.1 111 9 - μ.1 111 9) + 8 * (nn μ - nn μ) + 0 + -100 * wr μ ∧ μ.1 111 9 + 0 ≤ μ.1 111 9 ∧ nn μ + 0 ≤ nn μ ∧ nn μ ≤ nn μ + 0 + 9 * wr μ ∧ nn μ ≤ 8 + wr μ ∧ 9 * wr μ ≤ nn μ ∧ nn μ ≤ 9 ∧ wr μ ≤ wr μ ∧ wr μ ≤ 1 ∧ wr μ ≤ bd μ ∧ bd μ ≤ 1 ∧ μ.1 111 29 ≤ μ.1 111 29 ∧ μ.1 111 31 ≤ μ.1 111 31 ∧ μ.1 111 31 ≤ 300 ∧ 0 ≤ μ.1 111 32 ∧ μ.1 111 32 ≤ μ.1 111 9 ∧ μ.1 111 9 ≤ 3000 := by (repeat' apply And.intro) <;> omega
  refine lv_aload_n hx hb dX12_named_14 rfl (lv_at hl 2 rfl) ?_
  have hPM_30 : PM μ4 := hPM.cg (hp_6 4 (by decide)) (hp_6 6 (by decide)) (hp_6 7 (by decide)) (hp_6 8 (by decide)) (hp_6 9 (by decide)) (hp_6 11 (by decide)) (hp_6 12 (by decide)) ((((hp_6 14 (by decide)).trans htt.symm)).trans (htt.symm).symm) (hp_6 15 (by decide)) (hp_6 29 (by decide)) (fun j => (F_5.1 123 (by decide) j))
  have e_31 : wr μ4 = wr μ := (wr_cg (hp_6 15 (by decide)))
  have hw_32 := wr_r (μ := μ)
  have e_33 : nn μ4 = nn μ := (nn_cg (hp_6 15 (by decide)) (hp_6 18 (by decide)))
  have e_34 : μ4.1 111 8 = μ.1 111 8 := (hp_6 8 (by decide))
  have e_36 : μ4.1 111 9 = μ.1 111 9 := (hp_6 9 (by decide))
  have e_39 : bd μ4 = bd μ := (bd_cg (hp_6 15 (by decide)) (hp_6 16 (by decide)) (hp_6 17 (by decide)))
  refine xc_vV G (b := 111) (rest := []) (As := []) (c_X12_next ω l μ4  hPM_30 (by (repeat' apply And.intro) <;> omega) (by (repeat' apply And.intro) <;> omega)) (wm 9 0 rfl rfl) (wm 9 2 rfl rfl) (wm 0 119 rfl rfl) rfl rfl (by decide) rfl (wm 1 18 rfl rfl) (wm 9 3 rfl rfl) (by decide) hR ⟨nfB hF (by decide), nlB hLo (by decide)⟩ (n := 0) rfl rfl (Nat.le_of_ble_eq_true rfl) hl.1 dX12_named_15 (fun μ41 ρ d0 H locs hp G => ?_)
  obtain ⟨F_42, hp_43, hp_44, hp_45, hp_46, hp_47⟩ := hp
  have hpl_48 := hp_44.pl
  have hw_49 := wr_r (μ := μ4)
  have hw_50 := wr_r (μ := μ41)
  have vl_51 := hp_45
  replace hp_45 := fun _ : Unit => hp_45
  have vl_52 := hp_46
  replace hp_46 := fun _ : Unit => hp_46
  have vl_53 := hp_47
  replace hp_47 := fun _ : Unit => hp_47
  obtain ⟨hv_56, hv_57, hv_58, hv_59, hv_60, hv_61, hv_62, hv_63, hv_64, hv_65, hv_66, hv_67, hv_68, hv_69, hv_70, hv_71, hv_72, hv_73⟩ : μ.1 111 22 ≤ μ.1 111 22 ∧ μ.1 111 22 ≤ μ.1 111 22 + 2 * (μ41.1 111 9 - μ.1 111 9) + 8 * (nn μ41 - nn μ) - 2 + -6 * wr μ41 ∧ μ.1 111 9 + 1 ≤ μ41.1 111 9 ∧ nn μ + 0 ≤ nn μ41 ∧ nn μ41 ≤ nn μ + 0 + 9 * wr μ41 ∧ nn μ41 ≤ 8 + wr μ41 ∧ 9 * wr μ41 ≤ nn μ41 ∧ nn μ41 ≤ 9 ∧ wr μ ≤ wr μ41 ∧ wr μ41 ≤ 1 ∧ wr μ41 ≤ bd μ41 ∧ bd μ41 ≤ 1 ∧ μ.1 111 29 ≤ μ.1 111 29 ∧ μ.1 111 31 ≤ μ.1 111 31 ∧ μ.1 111 31 ≤ 300 ∧ 0 ≤ μ.1 111 32 ∧ μ.1 111 32 ≤ μ41.1 111 9 ∧ μ41.1 111 9 ≤ 3000 := by (repeat' apply And.intro) <;> omega
  clear hv_12 hv_13 hv_14 hv_15 hv_16 hv_17 hv_18 hv_19 hv_20 hv_21 hv_22 hv_23 hv_24 hv_25 hv_26 hv_27 hv_28 hv_29 e_31 hw_32 e_33 e_34 e_36 e_39 hpl_48 hw_49 hw_50 vl_51 vl_52 vl_53
  refine lv_aload_n hx hb dX12_named_18 rfl (lv_at hl 2 rfl) ?_
  refine lv_bipush (v := iv 61) hx hb dX12_named_19 rfl ?_
  have hw_74 := wr_r (μ := μ41)
  refine xc_iV G (b := 111) (rest := []) (As := [.int (iv 61)]) (c_X12_takesSign ω l μ41 61 (by unfold ir; decide) hp_44 (by (repeat' apply And.intro) <;> omega)) (wm 9 106 rfl rfl) (wm 9 108 rfl rfl) (wm 0 139 rfl rfl) rfl rfl (by decide) rfl (wm 1 18 rfl rfl) (wm 9 109 rfl rfl) (by decide) hR ⟨nfB hF (by decide), nlB hLo (by decide)⟩ (n := 1) rfl rfl (Nat.le_of_ble_eq_true rfl) hl.1 dX12_named_21 (fun r_76 μ75 ρ d0 H locs hr_r_76 hp G => ?_)
  have hr_r_76 : -2147483648 ≤ r_76 ∧ r_76 ≤ 2147483647 := hr_r_76
  obtain ⟨F_77, hp_78, hp_79, hp_80, hp_81, hp_82, hp_83⟩ := hp
  have hpl_84 := hp_79.pl
  have hw_85 := wr_r (μ := μ75)
  have vl_86 := hp_82
  replace hp_82 := fun _ : Unit => hp_82
  have vl_87 := hp_83
  replace hp_83 := fun _ : Unit => hp_83
  obtain ⟨hv_90, hv_91, hv_92, hv_93, hv_94, hv_95, hv_96, hv_97, hv_98, hv_99, hv_100, hv_101, hv_102, hv_103, hv_104, hv_105, hv_106, hv_107⟩ : μ.1 111 22 ≤ μ.1 111 22 ∧ μ.1 111 22 ≤ μ.1 111 22 + 2 * (μ75.1 111 9 - μ.1 111 9) + 8 * (nn μ75 - nn μ) - 2 + -6 * wr μ75 ∧ μ.1 111 9 + 1 ≤ μ75.1 111 9 ∧ nn μ + 0 ≤ nn μ75 ∧ nn μ75 ≤ nn μ + 0 + 9 * wr μ75 ∧ nn μ75 ≤ 8 + wr μ75 ∧ 9 * wr μ75 ≤ nn μ75 ∧ nn μ75 ≤ 9 ∧ wr μ ≤ wr μ75 ∧ wr μ75 ≤ 1 ∧ wr μ75 ≤ bd μ75 ∧ bd μ75 ≤ 1 ∧ μ.1 111 29 ≤ μ.1 111 29 ∧ μ.1 111 31 ≤ μ.1 111 31 ∧ μ.1 111 31 ≤ 300 ∧ 0 ≤ μ.1 111 32 ∧ μ.1 111 32 ≤ μ75.1 111 9 ∧ μ75.1 111 9 ≤ 3000 := by (repeat' apply And.intro) <;> omega
  clear hv_56 hv_57 hv_58 hv_59 hv_60 hv_61 hv_62 hv_63 hv_64 hv_65 hv_66 hv_67 hv_68 hv_69 hv_70 hv_71 hv_72 hv_73 hw_74 hpl_84 hw_85 vl_86 vl_87
  refine xb_if_eq (tgt := 56) hx hb (by unfold ir; exact ⟨by omega, by omega⟩) dX12_named_24 (by decide) (fun c_24 => ?_) (fun c_24 => ?_)
  · refine lv_aload_n hx hb dX12_named_56 rfl (lv_at hl 2 rfl) ?_
    refine lv_bipush (v := iv 91) hx hb dX12_named_57 rfl ?_
    have hw_108 := wr_r (μ := μ75)
    refine xc_iV G (b := 111) (rest := []) (As := [.int (iv 91)]) (c_X12_isSign ω l μ75 91 (by unfold ir; decide)) (wm 9 90 rfl rfl) (wm 9 92 rfl rfl) (wm 0 135 rfl rfl) rfl rfl (by decide) rfl (wm 1 18 rfl rfl) (wm 9 93 rfl rfl) (by decide) hR ⟨nfB hF (by decide), nlB hLo (by decide)⟩ (n := 1) rfl rfl (Nat.le_of_ble_eq_true rfl) hl.1 dX12_named_59 (fun r_110 μ109 ρ d0 H locs hr_r_110 hp G => ?_)
    have hr_r_110 : -2147483648 ≤ r_110 ∧ r_110 ≤ 2147483647 := hr_r_110
    obtain ⟨hsm_111, hp_112⟩ := hp
    have hsm_111 := Eq.symm hsm_111
    subst hsm_111
    have hrb_r_110 : 0 ≤ r_110 ∧ r_110 ≤ 1 := sf_r hp_112
    replace hp_112 := fun _ : Unit => hp_112
    refine xb_if_eq (tgt := 121) hx hb (by unfold ir; exact ⟨by omega, by omega⟩) dX12_named_62 (by decide) (fun c_62 => ?_) (fun c_62 => ?_)
    · refine lv_aload_n hx hb dX12_named_121 rfl (lv_at hl 2 rfl) ?_
      refine xc_iV G (b := 111) (rest := []) (As := []) (c_X12_isWrong ω l μ75  ) (wm 9 4 rfl rfl) (wm 9 6 rfl rfl) (wm 0 120 rfl rfl) rfl rfl (by decide) rfl (wm 1 18 rfl rfl) (wm 9 7 rfl rfl) (by decide) hR ⟨nfB hF (by decide), nlB hLo (by decide)⟩ (n := 0) rfl rfl (Nat.le_of_ble_eq_true rfl) hl.1 dX12_named_122 (fun r_114 μ113 ρ d0 H locs hr_r_114 hp G => ?_)
      have hr_r_114 : -2147483648 ≤ r_114 ∧ r_114 ≤ 2147483647 := hr_r_114
      obtain ⟨hsm_115, hp_116⟩ := hp
      have hsm_115 := Eq.symm hsm_115
      subst hsm_115
      refine xb_if_eq (tgt := 129) hx hb (by unfold ir; exact ⟨by omega, by omega⟩) dX12_named_125 (by decide) (fun c_125 => ?_) (fun c_125 => ?_)
      · refine lv_aload_n hx hb dX12_named_129 rfl (lv_at hl 2 rfl) ?_
        have hxt_117 : mEXT μ μ75 := (q0m.fr (K := [111]) (FrM.tr (FrM.tr (FrM.tr FrM.rf F_5 (by decide)) F_42 (by decide)) F_77 (by decide)) (by decide) (by decide) (by decide) ((hp_78 22 (by decide)).trans ((hp_43 22 (by decide)).trans (hp_6 22 (by decide)))) (nS.le (Int.le_trans (Int.le_trans (Int.le_of_eq (hp_6 29 (by decide)).symm) (Int.le_of_eq (hp_43 29 (by decide)).symm)) (Int.le_of_eq (hp_78 29 (by decide)).symm)) (Int.le_trans (Int.le_trans (Int.le_of_eq (hp_6 31 (by decide)).symm) (Int.le_of_eq (hp_43 31 (by decide)).symm)) (Int.le_of_eq (hp_78 31 (by decide)).symm)))).1
        have hwh_ := hp_79.1.2.2.2.2.1
        refine xc_vV G (b := 111) (rest := []) (As := []) (c_X12_goesBack ω l μ75  ) (wm 10 47 rfl rfl) (wm 10 49 rfl rfl) (wm 0 183 rfl rfl) rfl rfl (by decide) rfl (wm 1 18 rfl rfl) (wm 10 50 rfl rfl) (by decide) hR ⟨nfB hF (by decide), nlB hLo (by decide)⟩ (n := 0) rfl rfl (Nat.le_of_ble_eq_true rfl) hl.1 dX12_named_130 (fun μ118 ρ d0 H locs hp G => ?_)
        obtain ⟨F_119, hp_120, hs_121, hs_122, hs_123, hs_124⟩ := hp
        have hkb_126 : μ75.1 111 34 = μ.1 111 6 := ((hp_78 34 (by decide)).trans ((hp_43 34 (by decide)).trans hs_7))
        have hkb_127 : μ75.1 111 35 = μ.1 111 9 := ((hp_78 35 (by decide)).trans ((hp_43 35 (by decide)).trans hs_8))
        have hkb_128 : μ75.1 111 37 = μ.1 111 22 := ((hp_78 37 (by decide)).trans ((hp_43 37 (by decide)).trans hs_9))
        have h22_ : μ118.1 111 22 = μ.1 111 22 := by rw [show μ118.1 111 22 = μ75.1 111 37 from hs_123]; omega
        have hq_125 : ∀ _ : Unit, q0m μ μ118 := fun _ => q0m.back hxt_117 h22_ (nS.le (Int.le_of_eq (hp_120 29 (by decide)).symm) (Int.le_of_eq (hp_120 31 (by decide)).symm)) (fun j => F_119.1 115 (by decide) j) (fun j => F_119.1 116 (by decide) j) (fun j => F_119.1 117 (by decide) j)
        obtain ⟨hv_131, hv_132, hv_133, hv_134, hv_135, hv_136, hv_137, hv_138, hv_139, hv_140, hv_141, hv_142, hv_143, hv_144, hv_145, hv_146, hv_147, hv_148⟩ : μ.1 111 22 ≤ μ75.1 111 37 ∧ μ75.1 111 37 ≤ μ.1 111 22 + 2 * (μ75.1 111 35 - μ.1 111 9) + 8 * (nn μ75 - nn μ) + 0 + -100 * wr μ75 ∧ μ.1 111 9 + 0 ≤ μ75.1 111 35 ∧ nn μ + 0 ≤ nn μ75 ∧ nn μ75 ≤ nn μ + 0 + 9 * wr μ75 ∧ nn μ75 ≤ 8 + wr μ75 ∧ 9 * wr μ75 ≤ nn μ75 ∧ nn μ75 ≤ 9 ∧ wr μ ≤ wr μ75 ∧ wr μ75 ≤ 1 ∧ wr μ75 ≤ bd μ75 ∧ bd μ75 ≤ 1 ∧ μ.1 111 29 ≤ μ.1 111 29 ∧ μ.1 111 31 ≤ μ.1 111 31 ∧ μ.1 111 31 ≤ 300 ∧ 0 ≤ μ.1 111 32 ∧ μ.1 111 32 ≤ μ75.1 111 35 ∧ μ75.1 111 35 ≤ 3000 := by (repeat' apply And.intro) <;> omega
        clear hv_90 hv_91 hv_92 hv_93 hv_94 hv_95 hv_96 hv_97 hv_98 hv_99 hv_100 hv_101 hv_102 hv_103 hv_104 hv_105 hv_106 hv_107 hw_108
        have hht_149 : ∀ _ : Unit, bd μ118 = 0 → mHt μ118 0 := fun _ h0 => (hht_0 () (bd_z (Int.le_trans (Int.le_trans (Int.le_trans (Int.le_of_eq (bd_cg (hp_6 15 (by decide)) (hp_6 16 (by decide)) (hp_6 17 (by decide))).symm) ((hp_46 ()).2)) ((hp_82 ()).2)) (Int.le_of_eq (bd_cg (hp_120 15 (by decide)) (hp_120 16 (by decide)) (hp_120 17 (by decide))).symm)) h0)).qm (hq_125 ())
        obtain ⟨ht1, ht2, ht3, ht4, ht5, ht6⟩ := id hPM.1
        replace ht6 := fun _ : Unit => ht6
        replace ht3 := fun _ : Unit => ht3
        have ht3 : μ.1 111 9 + 1 ≤ μ.1 111 6 := by have h8 := (wr_0 (μ := μ)).1 (by omega); rcases ht3 () with q | q | q; omega; exact q; exact absurd h8 q
        have e_151 : μ118.1 111 6 = μ75.1 111 34 := hs_121
        have e_152 : μ118.1 111 7 = μ.1 111 7 := ((hp_120 7 (by decide)).trans ((hp_78 7 (by decide)).trans ((hp_43 7 (by decide)).trans (hp_6 7 (by decide)))))
        have e_153 : μ118.1 111 8 = 0 := hs_124
        have e_154 : μ118.1 111 9 = μ75.1 111 35 := hs_122
        have e_155 : μ118.1 111 11 = μ75.1 111 11 := (hp_120 11 (by decide))
        have e_156 : μ118.1 111 14 = tt := ((hp_120 14 (by decide)).trans ((hp_78 14 (by decide)).trans ((hp_43 14 (by decide)).trans ((hp_6 14 (by decide)).trans htt.symm))))
        have e_157 : wr μ118 = wr μ75 := (wr_cg (hp_120 15 (by decide)))
        have hw_158 := wr_r (μ := μ75)
        have hPM_150 : PM μ118 := ⟨by
          have hw9 := wr_0 (μ := μ118)
          refine ⟨by omega, by omega, ?_, by omega, by omega, fun q => absurd q (by omega)⟩
          by_cases q9 : μ118.1 111 8 = 4
          · exact Or.inl q9
          · exact Or.inr (Or.inl (by omega))
          , (NP.cg (hp_120 4 (by decide)) (hp_120 29 (by decide)) (fun j => F_119.1 123 (by decide) j) hp_79.2)⟩
        refine lv_aload_n hx hb dX12_named_133 rfl (lv_at hl 2 rfl) ?_
        have e_159 : μ118.1 111 29 = μ.1 111 29 := ((hp_120 29 (by decide)).trans ((hp_78 29 (by decide)).trans ((hp_43 29 (by decide)).trans (hp_6 29 (by decide)))))
        have e_162 : nn μ118 = nn μ75 := (nn_cg (hp_120 15 (by decide)) (hp_120 18 (by decide)))
        have e_165 : μ118.1 111 22 = μ75.1 111 37 := hs_123
        have e_169 : μ118.1 111 39 = μ.1 111 39 := ((hp_120 39 (by decide)).trans ((hp_78 39 (by decide)).trans ((hp_43 39 (by decide)).trans (hp_6 39 (by decide)))))
        have e_172 : μ118.1 111 31 = μ.1 111 31 := ((hp_120 31 (by decide)).trans ((hp_78 31 (by decide)).trans ((hp_43 31 (by decide)).trans (hp_6 31 (by decide)))))
        have e_174 : μ118.1 111 32 = μ.1 111 32 := ((hp_120 32 (by decide)).trans ((hp_78 32 (by decide)).trans ((hp_43 32 (by decide)).trans (hp_6 32 (by decide)))))
        have e_186 : bd μ118 = bd μ75 := (bd_cg (hp_120 15 (by decide)) (hp_120 16 (by decide)) (hp_120 17 (by decide)))
        refine xc_vV G (b := 111) (rest := []) (As := []) (c_X12_plain ω l μ118 F Lo kf tt (by (repeat' apply And.intro) <;> omega) hF hLo hK hPM_150 (by (repeat' apply And.intro) <;> omega) (by (repeat' apply And.intro) <;> omega) (by (repeat' apply And.intro) <;> omega) (by (repeat' apply And.intro) <;> omega) (by (repeat' apply And.intro) <;> omega) (by (repeat' apply And.intro) <;> omega) (by (repeat' apply And.intro) <;> omega) (by (repeat' apply And.intro) <;> omega) (fun _ h0 => ((hS1 () (bd_z (Int.le_trans (Int.le_trans (Int.le_trans (Int.le_of_eq (bd_cg (hp_6 15 (by decide)) (hp_6 16 (by decide)) (hp_6 17 (by decide))).symm) ((hp_46 ()).2)) ((hp_82 ()).2)) (Int.le_of_eq (bd_cg (hp_120 15 (by decide)) (hp_120 16 (by decide)) (hp_120 17 (by decide))).symm)) h0)).qm (hq_125 ())))) (wm 10 35 rfl rfl) (wm 10 37 rfl rfl) (wm 0 180 rfl rfl) rfl rfl (by decide) rfl (wm 1 18 rfl rfl) (wm 10 38 rfl rfl) (by decide) hR ⟨sfr (F := F) (a := 0) (by decide), slo (L := Lo) (m := 1) (a := 0) (by decide)⟩ (n := 0) rfl rfl (Nat.le_of_ble_eq_true rfl) hl.1 dX12_named_134 (fun μ190 ρ d0 H locs hp G => ?_)
        obtain ⟨F_191, hp_192, hp_193, hp_194, hp_195, hp_196, hp_197, hp_198, hp_199, hp_200, hp_201, hp_202, hp_203, hp_204⟩ := hp
        have hpl_205 := hp_193.pl
        have hw_206 := wr_r (μ := μ190)
        have hw_207 := wr_r (μ := μ118)
        have hxt_208 : mEXT μ μ190 := (hq_125 ()).1.tr hp_204
        have hwk_209 : ∀ j, j < μ.1 111 39 → μ190.1 126 j = μ118.1 126 j := fun j hj => hp_200 j (by omega)
        have hey_210 : ∀ _ : Unit, bd μ190 = 0 → mEY μ118 μ190 tt (2 * (9 - nn μ)) := fun _ h0 => (hp_203 () h0).mn (by omega)
        have vl_211 := hp_194
        replace hp_194 := fun _ : Unit => hp_194
        have vl_212 := hp_195
        replace hp_195 := fun _ : Unit => hp_195
        have vl_213 := hp_196
        replace hp_196 := fun _ : Unit => hp_196
        have vl_214 := hp_197
        replace hp_197 := fun _ : Unit => hp_197
        have vl_215 := hp_198
        replace hp_198 := fun _ : Unit => hp_198
        have vl_216 := hp_199
        replace hp_199 := fun _ : Unit => hp_199
        have vl_217 := hp_201
        replace hp_201 := fun _ : Unit => hp_201
        have vl_218 := hp_202
        replace hp_202 := fun _ : Unit => hp_202
        have h39_219 : μ190.1 111 39 = μ.1 111 39 := by omega
        obtain ⟨hv_222, hv_223, hv_224, hv_225, hv_226, hv_227, hv_228, hv_229, hv_230, hv_231, hv_232, hv_233, hv_234, hv_235, hv_236, hv_237, hv_238, hv_239, hv_240⟩ : μ.1 111 22 ≤ μ190.1 111 22 ∧ μ190.1 111 22 ≤ μ.1 111 22 + 2 * (μ190.1 111 9 - μ.1 111 9) + 8 * (nn μ190 - nn μ) - 1 + 0 * wr μ190 ∧ μ.1 111 9 + 0 ≤ μ190.1 111 9 ∧ μ.1 111 9 + 1 ≤ μ190.1 111 9 + wr μ190 ∧ nn μ + 0 ≤ nn μ190 ∧ nn μ190 ≤ nn μ + 0 + 9 * wr μ190 ∧ nn μ190 ≤ 8 + wr μ190 ∧ 9 * wr μ190 ≤ nn μ190 ∧ nn μ190 ≤ 9 ∧ wr μ ≤ wr μ190 ∧ wr μ190 ≤ 1 ∧ wr μ190 ≤ bd μ190 ∧ bd μ190 ≤ 1 ∧ μ.1 111 29 ≤ μ190.1 111 29 ∧ μ.1 111 31 ≤ μ190.1 111 31 ∧ μ190.1 111 31 ≤ 300 ∧ 0 ≤ μ190.1 111 32 ∧ μ190.1 111 32 ≤ μ190.1 111 9 ∧ μ190.1 111 9 ≤ 3000 := by (repeat' apply And.intro) <;> omega
        clear hv_131 hv_132 hv_133 hv_134 hv_135 hv_136 hv_137 hv_138 hv_139 hv_140 hv_141 hv_142 hv_143 hv_144 hv_145 hv_146 hv_147 hv_148 e_159 e_162 e_165 e_169 e_172 e_174 e_186 hpl_205 hw_206 hw_207 vl_211 vl_212 vl_213 vl_214 vl_215 vl_216 vl_217 vl_218
        have hw_241 := wr_r (μ := μ190)
        exact xr_v G hret hlk dX12_named_137 ⟨(FrM.tr (FrM.tr (FrM.tr (FrM.tr (FrM.tr FrM.rf F_5 (by decide)) F_42 (by decide)) F_77 (by decide)) F_119 (by decide)) F_191 (by decide)), (fun j hj => ((hp_192 j (fun h9 => hj ((by decide : ∀ x ∈ ([6, 8, 9, 10, 11, 12, 13, 15, 16, 17, 18, 22, 29, 31, 32, 34, 35, 36, 37, 39] : List Int), x ∈ ([6, 8, 9, 10, 11, 12, 13, 15, 16, 17, 18, 22, 29, 31, 32, 34, 35, 36, 37, 39] : List Int)) j h9))).trans ((hp_120 j (fun h9 => hj ((by decide : ∀ x ∈ ([6, 8, 9, 10, 22] : List Int), x ∈ ([6, 8, 9, 10, 11, 12, 13, 15, 16, 17, 18, 22, 29, 31, 32, 34, 35, 36, 37, 39] : List Int)) j h9))).trans ((hp_78 j (fun h9 => hj ((by decide : ∀ x ∈ ([6, 8, 9, 10, 11, 12, 13, 15] : List Int), x ∈ ([6, 8, 9, 10, 11, 12, 13, 15, 16, 17, 18, 22, 29, 31, 32, 34, 35, 36, 37, 39] : List Int)) j h9))).trans ((hp_43 j (fun h9 => hj ((by decide : ∀ x ∈ ([6, 8, 9, 10, 11, 12, 13, 15] : List Int), x ∈ ([6, 8, 9, 10, 11, 12, 13, 15, 16, 17, 18, 22, 29, 31, 32, 34, 35, 36, 37, 39] : List Int)) j h9))).trans (hp_6 j (fun h9 => hj ((by decide : ∀ x ∈ ([34, 35, 36, 37] : List Int), x ∈ ([6, 8, 9, 10, 11, 12, 13, 15, 16, 17, 18, 22, 29, 31, 32, 34, 35, 36, 37, 39] : List Int)) j h9)))))))), hp_193, (by (repeat' apply And.intro) <;> omega), (by (repeat' apply And.intro) <;> omega), (by (repeat' apply And.intro) <;> omega), ⟨by omega, (Int.le_trans (Int.le_trans (Int.le_trans (Int.le_trans (Int.le_of_eq (bd_cg (hp_6 15 (by decide)) (hp_6 16 (by decide)) (hp_6 17 (by decide))).symm) ((hp_46 ()).2)) ((hp_82 ()).2)) (Int.le_of_eq (bd_cg (hp_120 15 (by decide)) (hp_120 16 (by decide)) (hp_120 17 (by decide))).symm)) ((hp_197 ()).2))⟩, (by (repeat' apply And.intro) <;> omega), (by (repeat' apply And.intro) <;> omega), (fun j hj => ((hwk_209 j (by omega)).trans ((F_119.1 126 (by decide) j).trans ((F_77.1 126 (by decide) j).trans ((F_42.1 126 (by decide) j).trans (F_5.1 126 (by decide) j)))))), (by (repeat' apply And.intro) <;> omega), (by (repeat' apply And.intro) <;> omega), (fun _ h0 => mEY.ql (hq_125 ()) ((hey_210 () h0))), hxt_208⟩
      · have hb1_242 : r_114 = 1 := by omega
        replace c_125 := fun _ : Unit => c_125
        have e_243 : μ75.1 111 22 = μ.1 111 22 := ((hp_78 22 (by decide)).trans ((hp_43 22 (by decide)).trans (hp_6 22 (by decide))))
        have e_244 : μ75.1 111 29 = μ.1 111 29 := ((hp_78 29 (by decide)).trans ((hp_43 29 (by decide)).trans (hp_6 29 (by decide))))
        have e_245 : μ75.1 111 39 = μ.1 111 39 := ((hp_78 39 (by decide)).trans ((hp_43 39 (by decide)).trans (hp_6 39 (by decide))))
        have e_246 : μ75.1 111 31 = μ.1 111 31 := ((hp_78 31 (by decide)).trans ((hp_43 31 (by decide)).trans (hp_6 31 (by decide))))
        have e_247 : μ75.1 111 32 = μ.1 111 32 := ((hp_78 32 (by decide)).trans ((hp_43 32 (by decide)).trans (hp_6 32 (by decide))))
        have hxt_248 : mEXT μ μ75 := (q0m.fr (K := [111]) (FrM.tr (FrM.tr (FrM.tr FrM.rf F_5 (by decide)) F_42 (by decide)) F_77 (by decide)) (by decide) (by decide) (by decide) ((hp_78 22 (by decide)).trans ((hp_43 22 (by decide)).trans (hp_6 22 (by decide)))) (nS.le (Int.le_trans (Int.le_trans (Int.le_of_eq (hp_6 29 (by decide)).symm) (Int.le_of_eq (hp_43 29 (by decide)).symm)) (Int.le_of_eq (hp_78 29 (by decide)).symm)) (Int.le_trans (Int.le_trans (Int.le_of_eq (hp_6 31 (by decide)).symm) (Int.le_of_eq (hp_43 31 (by decide)).symm)) (Int.le_of_eq (hp_78 31 (by decide)).symm)))).1
        exact xr_v G hret hlk dX12_named_128 ⟨(FrM.tr (FrM.tr (FrM.tr FrM.rf F_5 (by decide)) F_42 (by decide)) F_77 (by decide)), (fun j hj => ((hp_78 j (fun h9 => hj ((by decide : ∀ x ∈ ([6, 8, 9, 10, 11, 12, 13, 15] : List Int), x ∈ ([6, 8, 9, 10, 11, 12, 13, 15, 16, 17, 18, 22, 29, 31, 32, 34, 35, 36, 37, 39] : List Int)) j h9))).trans ((hp_43 j (fun h9 => hj ((by decide : ∀ x ∈ ([6, 8, 9, 10, 11, 12, 13, 15] : List Int), x ∈ ([6, 8, 9, 10, 11, 12, 13, 15, 16, 17, 18, 22, 29, 31, 32, 34, 35, 36, 37, 39] : List Int)) j h9))).trans (hp_6 j (fun h9 => hj ((by decide : ∀ x ∈ ([34, 35, 36, 37] : List Int), x ∈ ([6, 8, 9, 10, 11, 12, 13, 15, 16, 17, 18, 22, 29, 31, 32, 34, 35, 36, 37, 39] : List Int)) j h9)))))), hp_79, (by (repeat' apply And.intro) <;> omega), (by (repeat' apply And.intro) <;> omega), (by (repeat' apply And.intro) <;> omega), ⟨by omega, (Int.le_trans (Int.le_trans (Int.le_of_eq (bd_cg (hp_6 15 (by decide)) (hp_6 16 (by decide)) (hp_6 17 (by decide))).symm) ((hp_46 ()).2)) ((hp_82 ()).2))⟩, (by (repeat' apply And.intro) <;> omega), (by (repeat' apply And.intro) <;> omega), (fun j hj => ((F_77.1 126 (by decide) j).trans ((F_42.1 126 (by decide) j).trans (F_5.1 126 (by decide) j)))), (by (repeat' apply And.intro) <;> omega), (by (repeat' apply And.intro) <;> omega), (fun _ h0 => (by exfalso; omega)), hxt_248⟩
    · have hsg_257 := sf_t (hp_112 ()) c_62
      have hb1_258 : r_110 = 1 := by omega
      replace c_62 := fun _ : Unit => c_62
      refine lv_aload_n hx hb dX12_named_65 rfl (lv_at hl 2 rfl) ?_
      refine lv_iconst (v := iv 3) hx hb dX12_named_66 rfl ?_
      refine lv_aload_n hx hb dX12_named_67 rfl (lv_at hl 2 rfl) ?_
      refine lv_iload_n hx hb dX12_named_68 rfl (lv_at hl 1 rfl) ?_
      refine lv_lload_n hx hb dX12_named_69 rfl (lv_at hl 0 rfl) ?_
      have e_259 : μ75.1 111 31 = μ.1 111 31 := ((hp_78 31 (by decide)).trans ((hp_43 31 (by decide)).trans (hp_6 31 (by decide))))
      refine xc_iV G (b := 111) (rest := [.int (iv 3), .ref (oP ω 111)]) (As := [.int (iv (μ.1 111 9)), .long (jv (μ.1 111 10))]) (c_X12_slot ω l μ75 (μ.1 111 9) (μ.1 111 10) (by unfold ir; exact ⟨by omega, by omega⟩) hj_3 (by (repeat' apply And.intro) <;> omega) (by (repeat' apply And.intro) <;> omega)) (wm 9 171 rfl rfl) (wm 9 173 rfl rfl) (wm 0 155 rfl rfl) rfl rfl (by decide) rfl (wm 1 18 rfl rfl) (wm 9 174 rfl rfl) (by decide) hR ⟨nfB hF (by decide), nlB hLo (by decide)⟩ (n := 2) rfl rfl (Nat.le_of_ble_eq_true rfl) hl.1 dX12_named_70 (fun r_263 μ262 ρ d0 H locs hr_r_263 hp G => ?_)
      have hr_r_263 : -2147483648 ≤ r_263 ∧ r_263 ≤ 2147483647 := hr_r_263
      obtain ⟨F_264, hp_265, hp_266, hp_267, hp_268, hp_269⟩ := hp
      have hw_270 := wr_r (μ := μ262)
      have e_271 : μ262.1 111 31 = μ.1 111 31 := ((hp_265 31 (by decide)).trans ((hp_78 31 (by decide)).trans ((hp_43 31 (by decide)).trans (hp_6 31 (by decide)))))
      have hsl_272 : r_263 < μ262.1 111 31 + 300 * bd μ262 := by omega
      have vl_273 := hp_268
      replace hp_268 := fun _ : Unit => hp_268
      have vl_274 := hp_269
      replace hp_269 := fun _ : Unit => hp_269
      obtain ⟨hv_277, hv_278, hv_279, hv_280, hv_281, hv_282, hv_283, hv_284, hv_285, hv_286, hv_287, hv_288, hv_289, hv_290, hv_291, hv_292, hv_293, hv_294⟩ : μ.1 111 22 ≤ μ.1 111 22 ∧ μ.1 111 22 ≤ μ.1 111 22 + 2 * (μ75.1 111 9 - μ.1 111 9) + 8 * (nn μ75 - nn μ) - 2 + -6 * wr μ75 ∧ μ.1 111 9 + 1 ≤ μ75.1 111 9 ∧ nn μ + 0 ≤ nn μ75 ∧ nn μ75 ≤ nn μ + 0 + 9 * wr μ75 ∧ nn μ75 ≤ 8 + wr μ75 ∧ 9 * wr μ75 ≤ nn μ75 ∧ nn μ75 ≤ 9 ∧ wr μ ≤ wr μ75 ∧ wr μ75 ≤ 1 ∧ wr μ75 ≤ bd μ262 ∧ bd μ262 ≤ 1 ∧ μ.1 111 29 ≤ μ.1 111 29 ∧ μ.1 111 31 ≤ μ.1 111 31 ∧ μ.1 111 31 ≤ 300 ∧ 0 ≤ μ.1 111 32 ∧ μ.1 111 32 ≤ μ75.1 111 9 ∧ μ75.1 111 9 ≤ 3000 := by (repeat' apply And.intro) <;> omega
      clear hv_90 hv_91 hv_92 hv_93 hv_94 hv_95 hv_96 hv_97 hv_98 hv_99 hv_100 hv_101 hv_102 hv_103 hv_104 hv_105 hv_106 hv_107 hw_108 e_259 hw_270 e_271 vl_273 vl_274
      refine xb_i2l hx hb (by unfold ir; exact ⟨by omega, by omega⟩) dX12_named_73 ?_
      refine lv_iconst (v := iv 0) hx hb dX12_named_74 rfl ?_
      have hq_295 : ∀ _ : Unit, q0m μ μ262 := fun _ => (q0m.fr (K := [111]) (FrM.tr (FrM.tr (FrM.tr (FrM.tr FrM.rf F_5 (by decide)) F_42 (by decide)) F_77 (by decide)) F_264 (by decide)) (by decide) (by decide) (by decide) ((hp_265 22 (by decide)).trans ((hp_78 22 (by decide)).trans ((hp_43 22 (by decide)).trans (hp_6 22 (by decide))))) (nS.le (Int.le_trans (Int.le_trans (Int.le_trans (Int.le_of_eq (hp_6 29 (by decide)).symm) (Int.le_of_eq (hp_43 29 (by decide)).symm)) (Int.le_of_eq (hp_78 29 (by decide)).symm)) (Int.le_of_eq (hp_265 29 (by decide)).symm)) (Int.le_trans (Int.le_trans (Int.le_trans (Int.le_of_eq (hp_6 31 (by decide)).symm) (Int.le_of_eq (hp_43 31 (by decide)).symm)) (Int.le_of_eq (hp_78 31 (by decide)).symm)) (Int.le_of_eq (hp_265 31 (by decide)).symm))))
      have e_296 : wr μ262 = wr μ75 := (wr_cg (hp_265 15 (by decide)))
      have hw_297 := wr_r (μ := μ75)
      have hw_298 := wr_r (μ := μ262)
      have e_299 : nn μ262 = nn μ75 := (nn_cg (hp_265 15 (by decide)) (hp_265 18 (by decide)))
      have hht_300 : ∀ _ : Unit, bd μ262 = 0 → mHt μ262 0 := fun _ h0 => (hht_0 () (bd_z (Int.le_trans (Int.le_trans (Int.le_trans (Int.le_of_eq (bd_cg (hp_6 15 (by decide)) (hp_6 16 (by decide)) (hp_6 17 (by decide))).symm) ((hp_46 ()).2)) ((hp_82 ()).2)) ((hp_268 ()).2)) h0)).qm (hq_295 ())
      have e_301 : μ262.1 111 29 = μ.1 111 29 := ((hp_265 29 (by decide)).trans ((hp_78 29 (by decide)).trans ((hp_43 29 (by decide)).trans (hp_6 29 (by decide)))))
      have hxt_302 : mEXT μ μ262 := (q0m.fr (K := [111]) (FrM.tr (FrM.tr (FrM.tr (FrM.tr FrM.rf F_5 (by decide)) F_42 (by decide)) F_77 (by decide)) F_264 (by decide)) (by decide) (by decide) (by decide) ((hp_265 22 (by decide)).trans ((hp_78 22 (by decide)).trans ((hp_43 22 (by decide)).trans (hp_6 22 (by decide))))) (nS.le (Int.le_trans (Int.le_trans (Int.le_trans (Int.le_of_eq (hp_6 29 (by decide)).symm) (Int.le_of_eq (hp_43 29 (by decide)).symm)) (Int.le_of_eq (hp_78 29 (by decide)).symm)) (Int.le_of_eq (hp_265 29 (by decide)).symm)) (Int.le_trans (Int.le_trans (Int.le_trans (Int.le_of_eq (hp_6 31 (by decide)).symm) (Int.le_of_eq (hp_43 31 (by decide)).symm)) (Int.le_of_eq (hp_78 31 (by decide)).symm)) (Int.le_of_eq (hp_265 31 (by decide)).symm)))).1
      have e_303 : μ262.1 111 22 = μ.1 111 22 := ((hp_265 22 (by decide)).trans ((hp_78 22 (by decide)).trans ((hp_43 22 (by decide)).trans (hp_6 22 (by decide)))))
      refine xc_iV G (b := 111) (rest := []) (As := [.int (iv 3), .long (jv r_263), .int (iv 0)]) (c_X12_emit ω l μ262 3 r_263 0 (by unfold ir; decide) (by unfold jr; omega) (by unfold ir; decide) (by (repeat' apply And.intro) <;> omega)) (wm 9 126 rfl rfl) (wm 9 128 rfl rfl) (wm 0 144 rfl rfl) rfl rfl (by decide) rfl (wm 1 18 rfl rfl) (wm 9 129 rfl rfl) (by decide) hR ⟨nfB hF (by decide), nlB hLo (by decide)⟩ (n := 3) rfl rfl (Nat.le_of_ble_eq_true rfl) hl.1 dX12_named_75 (fun r_308 μ307 ρ d0 H locs hr_r_308 hp G => ?_)
      have hr_r_308 : -2147483648 ≤ r_308 ∧ r_308 ≤ 2147483647 := hr_r_308
      obtain ⟨F_309, hp_310, hp_311, hp_312, hp_313⟩ := hp
      have hxt_314 : mEXT μ μ307 := hxt_302.tr hp_311.1
      have hht_315 : ∀ _ : Unit, bd μ307 = 0 → mHt μ307 1 := fun _ h0 => (hht_300 () (bd_z (Int.le_of_eq (bd_cg (hp_310 15 (by decide)) (hp_310 16 (by decide)) (hp_310 17 (by decide))).symm) h0)).ad hp_311 rfl
      have vl_316 := hp_313
      replace hp_313 := fun _ : Unit => hp_313
      obtain ⟨hv_319, hv_320, hv_321, hv_322, hv_323, hv_324, hv_325, hv_326, hv_327, hv_328, hv_329, hv_330, hv_331, hv_332, hv_333, hv_334, hv_335, hv_336⟩ : μ.1 111 22 ≤ μ307.1 111 22 ∧ μ307.1 111 22 ≤ μ.1 111 22 + 2 * (μ75.1 111 9 - μ.1 111 9) + 8 * (nn μ75 - nn μ) - 1 + -6 * wr μ75 ∧ μ.1 111 9 + 1 ≤ μ75.1 111 9 ∧ nn μ + 0 ≤ nn μ75 ∧ nn μ75 ≤ nn μ + 0 + 9 * wr μ75 ∧ nn μ75 ≤ 8 + wr μ75 ∧ 9 * wr μ75 ≤ nn μ75 ∧ nn μ75 ≤ 9 ∧ wr μ ≤ wr μ75 ∧ wr μ75 ≤ 1 ∧ wr μ75 ≤ bd μ262 ∧ bd μ262 ≤ 1 ∧ μ.1 111 29 ≤ μ.1 111 29 ∧ μ.1 111 31 ≤ μ.1 111 31 ∧ μ.1 111 31 ≤ 300 ∧ 0 ≤ μ.1 111 32 ∧ μ.1 111 32 ≤ μ75.1 111 9 ∧ μ75.1 111 9 ≤ 3000 := by (repeat' apply And.intro) <;> omega
      clear hv_277 hv_278 hv_279 hv_280 hv_281 hv_282 hv_283 hv_284 hv_285 hv_286 hv_287 hv_288 hv_289 hv_290 hv_291 hv_292 hv_293 hv_294 e_296 hw_297 hw_298 e_299 e_301 e_303 vl_316
      refine lv_pop hx hb dX12_named_78 rfl ?_
      refine lv_aload_n hx hb dX12_named_79 rfl (lv_at hl 2 rfl) ?_
      have hPM_337 : PM μ307 := hp_79.cg ((((hp_310 4 (by decide)).trans ((hp_265 4 (by decide)).trans ((hp_78 4 (by decide)).trans ((hp_43 4 (by decide)).trans (hp_6 4 (by decide))))))).trans (((hp_78 4 (by decide)).trans ((hp_43 4 (by decide)).trans (hp_6 4 (by decide))))).symm) ((hp_310 6 (by decide)).trans (hp_265 6 (by decide))) ((((hp_310 7 (by decide)).trans ((hp_265 7 (by decide)).trans ((hp_78 7 (by decide)).trans ((hp_43 7 (by decide)).trans (hp_6 7 (by decide))))))).trans (((hp_78 7 (by decide)).trans ((hp_43 7 (by decide)).trans (hp_6 7 (by decide))))).symm) ((hp_310 8 (by decide)).trans (hp_265 8 (by decide))) ((hp_310 9 (by decide)).trans (hp_265 9 (by decide))) ((hp_310 11 (by decide)).trans (hp_265 11 (by decide))) ((hp_310 12 (by decide)).trans (hp_265 12 (by decide))) ((((hp_310 14 (by decide)).trans ((hp_265 14 (by decide)).trans ((hp_78 14 (by decide)).trans ((hp_43 14 (by decide)).trans ((hp_6 14 (by decide)).trans htt.symm)))))).trans (((hp_78 14 (by decide)).trans ((hp_43 14 (by decide)).trans ((hp_6 14 (by decide)).trans htt.symm)))).symm) ((hp_310 15 (by decide)).trans (hp_265 15 (by decide))) ((((hp_310 29 (by decide)).trans ((hp_265 29 (by decide)).trans ((hp_78 29 (by decide)).trans ((hp_43 29 (by decide)).trans (hp_6 29 (by decide))))))).trans (((hp_78 29 (by decide)).trans ((hp_43 29 (by decide)).trans (hp_6 29 (by decide))))).symm) (fun j => ((F_309.1 123 (by decide) j).trans (F_264.1 123 (by decide) j)))
      have e_338 : wr μ307 = wr μ75 := ((wr_cg (hp_310 15 (by decide))).trans (wr_cg (hp_265 15 (by decide))))
      have hw_339 := wr_r (μ := μ75)
      have e_340 : nn μ307 = nn μ75 := ((nn_cg (hp_310 15 (by decide)) (hp_310 18 (by decide))).trans (nn_cg (hp_265 15 (by decide)) (hp_265 18 (by decide))))
      have e_341 : μ307.1 111 8 = μ75.1 111 8 := ((hp_310 8 (by decide)).trans (hp_265 8 (by decide)))
      have e_345 : μ307.1 111 9 = μ75.1 111 9 := ((hp_310 9 (by decide)).trans (hp_265 9 (by decide)))
      have e_348 : bd μ307 = bd μ262 := (bd_cg (hp_310 15 (by decide)) (hp_310 16 (by decide)) (hp_310 17 (by decide)))
      have hw_349 := wr_r (μ := μ262)
      refine xc_vV G (b := 111) (rest := []) (As := []) (c_X12_opens ω l μ307  hPM_337 (by (repeat' apply And.intro) <;> omega) (by (repeat' apply And.intro) <;> omega) (by (repeat' apply And.intro) <;> omega)) (wm 9 94 rfl rfl) (wm 9 96 rfl rfl) (wm 0 136 rfl rfl) rfl rfl (by decide) rfl (wm 1 18 rfl rfl) (wm 9 97 rfl rfl) (by decide) hR ⟨nfB hF (by decide), nlB hLo (by decide)⟩ (n := 0) rfl rfl (Nat.le_of_ble_eq_true rfl) hl.1 dX12_named_80 (fun μ352 ρ d0 H locs hp G => ?_)
      obtain ⟨F_353, hp_354, hp_355, hp_356, hp_357, hp_358, hp_359⟩ := hp
      have hpl_360 := hp_355.pl
      have hw_361 := wr_r (μ := μ352)
      have hw_362 := wr_r (μ := μ307)
      have vl_363 := hp_356
      replace hp_356 := fun _ : Unit => hp_356
      have vl_364 := hp_357
      replace hp_357 := fun _ : Unit => hp_357
      have vl_365 := hp_358
      replace hp_358 := fun _ : Unit => hp_358
      have vl_366 := hp_359
      replace hp_359 := fun _ : Unit => hp_359
      obtain ⟨hv_369, hv_370, hv_371, hv_372, hv_373, hv_374, hv_375, hv_376, hv_377, hv_378, hv_379, hv_380, hv_381, hv_382, hv_383, hv_384, hv_385, hv_386⟩ : μ.1 111 22 ≤ μ307.1 111 22 ∧ μ307.1 111 22 ≤ μ.1 111 22 + 2 * (μ352.1 111 9 - μ.1 111 9) + 8 * (nn μ352 - nn μ) - 11 + 4 * wr μ352 ∧ μ.1 111 9 + 1 ≤ μ352.1 111 9 ∧ nn μ + 1 ≤ nn μ352 ∧ nn μ352 ≤ nn μ + 1 + 9 * wr μ352 ∧ nn μ352 ≤ 8 + wr μ352 ∧ 9 * wr μ352 ≤ nn μ352 ∧ nn μ352 ≤ 9 ∧ wr μ ≤ wr μ352 ∧ wr μ352 ≤ 1 ∧ wr μ352 ≤ bd μ352 ∧ bd μ352 ≤ 1 ∧ μ.1 111 29 ≤ μ.1 111 29 ∧ μ.1 111 31 ≤ μ.1 111 31 ∧ μ.1 111 31 ≤ 300 ∧ 0 ≤ μ.1 111 32 ∧ μ.1 111 32 ≤ μ352.1 111 9 ∧ μ352.1 111 9 ≤ 3000 := by (repeat' apply And.intro) <;> omega
      clear hv_319 hv_320 hv_321 hv_322 hv_323 hv_324 hv_325 hv_326 hv_327 hv_328 hv_329 hv_330 hv_331 hv_332 hv_333 hv_334 hv_335 hv_336 e_338 hw_339 e_340 e_341 e_345 e_348 hw_349 hpl_360 hw_361 hw_362 vl_363 vl_364 vl_365 vl_366
      refine lv_aload_n hx hb dX12_named_83 rfl (lv_at hl 2 rfl) ?_
      have hq_387 : ∀ _ : Unit, q0m μ307 μ352 := fun _ => (q0m.fr (K := [111]) (FrM.tr FrM.rf F_353 (by decide)) (by decide) (by decide) (by decide) (hp_354 22 (by decide)) (nS.le (Int.le_of_eq (hp_354 29 (by decide)).symm) (Int.le_of_eq (hp_354 31 (by decide)).symm)))
      have hw_388 := wr_r (μ := μ352)
      have hht_389 : ∀ _ : Unit, bd μ352 = 0 → mHt μ352 1 := fun _ h0 => (hht_315 () (bd_z ((hp_358 ()).2) h0)).qm (hq_387 ())
      have e_390 : μ352.1 111 29 = μ.1 111 29 := ((hp_354 29 (by decide)).trans ((hp_310 29 (by decide)).trans ((hp_265 29 (by decide)).trans ((hp_78 29 (by decide)).trans ((hp_43 29 (by decide)).trans (hp_6 29 (by decide)))))))
      have hxt_391 : mEXT μ μ352 := hxt_314.tr (q0m.fr (K := [111]) (FrM.tr FrM.rf F_353 (by decide)) (by decide) (by decide) (by decide) (hp_354 22 (by decide)) (nS.le (Int.le_of_eq (hp_354 29 (by decide)).symm) (Int.le_of_eq (hp_354 31 (by decide)).symm))).1
      have e_392 : μ352.1 111 14 = tt := ((hp_354 14 (by decide)).trans ((hp_310 14 (by decide)).trans ((hp_265 14 (by decide)).trans ((hp_78 14 (by decide)).trans ((hp_43 14 (by decide)).trans ((hp_6 14 (by decide)).trans htt.symm))))))
      have e_393 : μ352.1 111 22 = μ307.1 111 22 := (hp_354 22 (by decide))
      have e_395 : μ352.1 111 39 = μ.1 111 39 := ((hp_354 39 (by decide)).trans ((hp_310 39 (by decide)).trans ((hp_265 39 (by decide)).trans ((hp_78 39 (by decide)).trans ((hp_43 39 (by decide)).trans (hp_6 39 (by decide)))))))
      have e_398 : μ352.1 111 31 = μ.1 111 31 := ((hp_354 31 (by decide)).trans ((hp_310 31 (by decide)).trans ((hp_265 31 (by decide)).trans ((hp_78 31 (by decide)).trans ((hp_43 31 (by decide)).trans (hp_6 31 (by decide)))))))
      refine xc_vV G (b := 111) (rest := []) (As := []) (c_X12_expr_a ω l μ352 tt (by (repeat' apply And.intro) <;> omega) hp_355 (by (repeat' apply And.intro) <;> omega) (by (repeat' apply And.intro) <;> omega) (by (repeat' apply And.intro) <;> omega) (by (repeat' apply And.intro) <;> omega) (by (repeat' apply And.intro) <;> omega) (fun _ h0 => (hht_389 () h0).p (by decide))) (wm 9 139 rfl rfl) (wm 9 141 rfl rfl) (wm 0 147 rfl rfl) rfl rfl (by decide) rfl (wm 1 18 rfl rfl) (wm 9 142 rfl rfl) (by decide) hR ⟨nfB hF (by decide), nlB hLo (by decide)⟩ (n := 0) rfl rfl (Nat.le_of_ble_eq_true rfl) hl.1 dX12_named_84 (fun μ404 ρ d0 H locs hp G => ?_)
      obtain ⟨F_405, hp_406, hp_407, hp_408, hp_409, hp_410, hp_411, hp_412, hp_413, hp_414, hp_415, hp_416⟩ := hp
      have hpl_417 := hp_407.pl
      have hw_418 := wr_r (μ := μ404)
      have hxt_419 : mEXT μ μ404 := hxt_391.tr hp_416
      have hwk_420 : ∀ j, j < μ.1 111 39 → μ404.1 126 j = μ352.1 126 j := fun j hj => hp_414 j (by omega)
      have hex_421 : ∀ _ : Unit, bd μ404 = 0 → mEX μ352 μ404 tt 1 0 99 := fun _ h0 => (hp_415 () h0).mn (Int.le_refl _) (by omega)
      have hht_422 : ∀ _ : Unit, bd μ404 = 0 → mHt μ404 2 := fun _ h0 => (hht_389 () (bd_z (hp_411.2) h0)).ex (hex_421 () h0) rfl
      have vl_423 := hp_408
      replace hp_408 := fun _ : Unit => hp_408
      have vl_424 := hp_409
      replace hp_409 := fun _ : Unit => hp_409
      have vl_425 := hp_410
      replace hp_410 := fun _ : Unit => hp_410
      have vl_426 := hp_411
      replace hp_411 := fun _ : Unit => hp_411
      have vl_427 := hp_412
      replace hp_412 := fun _ : Unit => hp_412
      have vl_428 := hp_413
      replace hp_413 := fun _ : Unit => hp_413
      have h39_429 : μ404.1 111 39 = μ.1 111 39 := by omega
      obtain ⟨hv_432, hv_433, hv_434, hv_435, hv_436, hv_437, hv_438, hv_439, hv_440, hv_441, hv_442, hv_443, hv_444, hv_445, hv_446, hv_447, hv_448, hv_449⟩ : μ.1 111 22 ≤ μ404.1 111 22 ∧ μ404.1 111 22 ≤ μ.1 111 22 + 2 * (μ404.1 111 9 - μ.1 111 9) + 8 * (nn μ404 - nn μ) - 12 + 5 * wr μ404 ∧ μ.1 111 9 + 1 ≤ μ404.1 111 9 ∧ nn μ + 1 ≤ nn μ404 ∧ nn μ404 ≤ nn μ + 1 + 9 * wr μ404 ∧ nn μ404 ≤ 8 + wr μ404 ∧ 9 * wr μ404 ≤ nn μ404 ∧ nn μ404 ≤ 9 ∧ wr μ ≤ wr μ404 ∧ wr μ404 ≤ 1 ∧ wr μ404 ≤ bd μ404 ∧ bd μ404 ≤ 1 ∧ μ.1 111 29 ≤ μ404.1 111 29 ∧ μ.1 111 31 ≤ μ.1 111 31 ∧ μ.1 111 31 ≤ 300 ∧ 0 ≤ μ.1 111 32 ∧ μ.1 111 32 ≤ μ404.1 111 9 ∧ μ404.1 111 9 ≤ 3000 := by (repeat' apply And.intro) <;> omega
      clear hv_369 hv_370 hv_371 hv_372 hv_373 hv_374 hv_375 hv_376 hv_377 hv_378 hv_379 hv_380 hv_381 hv_382 hv_383 hv_384 hv_385 hv_386 hw_388 e_390 e_392 e_393 e_395 e_398 hpl_417 hw_418 vl_423 vl_424 vl_425 vl_426 vl_427 vl_428
      refine lv_aload_n hx hb dX12_named_87 rfl (lv_at hl 2 rfl) ?_
      refine lv_bipush (v := iv 93) hx hb dX12_named_88 rfl ?_
      have hw_450 := wr_r (μ := μ404)
      refine xc_vV G (b := 111) (rest := []) (As := [.int (iv 93)]) (c_X12_closesWith ω l μ404 93 (by unfold ir; decide) hp_407 (by (repeat' apply And.intro) <;> omega) (by (repeat' apply And.intro) <;> omega)) (wm 9 110 rfl rfl) (wm 9 112 rfl rfl) (wm 0 140 rfl rfl) rfl rfl (by decide) rfl (wm 1 18 rfl rfl) (wm 9 113 rfl rfl) (by decide) hR ⟨nfB hF (by decide), nlB hLo (by decide)⟩ (n := 1) rfl rfl (Nat.le_of_ble_eq_true rfl) hl.1 dX12_named_90 (fun μ451 ρ d0 H locs hp G => ?_)
      obtain ⟨F_452, hp_453, hp_454, hp_455, hp_456, hp_457, hp_458⟩ := hp
      have hpl_459 := hp_454.pl
      have hw_460 := wr_r (μ := μ451)
      have vl_461 := hp_455
      replace hp_455 := fun _ : Unit => hp_455
      have vl_462 := hp_456
      replace hp_456 := fun _ : Unit => hp_456
      have vl_463 := hp_457
      replace hp_457 := fun _ : Unit => hp_457
      have vl_464 := hp_458
      replace hp_458 := fun _ : Unit => hp_458
      obtain ⟨hv_467, hv_468, hv_469, hv_470, hv_471, hv_472, hv_473, hv_474, hv_475, hv_476, hv_477, hv_478, hv_479, hv_480, hv_481, hv_482, hv_483, hv_484⟩ : μ.1 111 22 ≤ μ404.1 111 22 ∧ μ404.1 111 22 ≤ μ.1 111 22 + 2 * (μ451.1 111 9 - μ.1 111 9) + 8 * (nn μ451 - nn μ) - 6 + -1 * wr μ451 ∧ μ.1 111 9 + 1 ≤ μ451.1 111 9 ∧ nn μ + 0 ≤ nn μ451 ∧ nn μ451 ≤ nn μ + 0 + 9 * wr μ451 ∧ nn μ451 ≤ 8 + wr μ451 ∧ 9 * wr μ451 ≤ nn μ451 ∧ nn μ451 ≤ 9 ∧ wr μ ≤ wr μ451 ∧ wr μ451 ≤ 1 ∧ wr μ451 ≤ bd μ451 ∧ bd μ451 ≤ 1 ∧ μ.1 111 29 ≤ μ404.1 111 29 ∧ μ.1 111 31 ≤ μ.1 111 31 ∧ μ.1 111 31 ≤ 300 ∧ 0 ≤ μ.1 111 32 ∧ μ.1 111 32 ≤ μ451.1 111 9 ∧ μ451.1 111 9 ≤ 3000 := by (repeat' apply And.intro) <;> omega
      clear hv_432 hv_433 hv_434 hv_435 hv_436 hv_437 hv_438 hv_439 hv_440 hv_441 hv_442 hv_443 hv_444 hv_445 hv_446 hv_447 hv_448 hv_449 hw_450 hpl_459 hw_460 vl_461 vl_462 vl_463 vl_464
      refine lv_aload_n hx hb dX12_named_93 rfl (lv_at hl 2 rfl) ?_
      refine lv_bipush (v := iv 61) hx hb dX12_named_94 rfl ?_
      have hw_485 := wr_r (μ := μ451)
      refine xc_iV G (b := 111) (rest := []) (As := [.int (iv 61)]) (c_X12_takesSign ω l μ451 61 (by unfold ir; decide) hp_454 (by (repeat' apply And.intro) <;> omega)) (wm 9 106 rfl rfl) (wm 9 108 rfl rfl) (wm 0 139 rfl rfl) rfl rfl (by decide) rfl (wm 1 18 rfl rfl) (wm 9 109 rfl rfl) (by decide) hR ⟨nfB hF (by decide), nlB hLo (by decide)⟩ (n := 1) rfl rfl (Nat.le_of_ble_eq_true rfl) hl.1 dX12_named_96 (fun r_487 μ486 ρ d0 H locs hr_r_487 hp G => ?_)
      have hr_r_487 : -2147483648 ≤ r_487 ∧ r_487 ≤ 2147483647 := hr_r_487
      obtain ⟨F_488, hp_489, hp_490, hp_491, hp_492, hp_493, hp_494⟩ := hp
      have hpl_495 := hp_490.pl
      have hw_496 := wr_r (μ := μ486)
      have vl_497 := hp_493
      replace hp_493 := fun _ : Unit => hp_493
      have vl_498 := hp_494
      replace hp_494 := fun _ : Unit => hp_494
      obtain ⟨hv_501, hv_502, hv_503, hv_504, hv_505, hv_506, hv_507, hv_508, hv_509, hv_510, hv_511, hv_512, hv_513, hv_514, hv_515, hv_516, hv_517, hv_518⟩ : μ.1 111 22 ≤ μ404.1 111 22 ∧ μ404.1 111 22 ≤ μ.1 111 22 + 2 * (μ486.1 111 9 - μ.1 111 9) + 8 * (nn μ486 - nn μ) - 6 + -1 * wr μ486 ∧ μ.1 111 9 + 1 ≤ μ486.1 111 9 ∧ nn μ + 0 ≤ nn μ486 ∧ nn μ486 ≤ nn μ + 0 + 9 * wr μ486 ∧ nn μ486 ≤ 8 + wr μ486 ∧ 9 * wr μ486 ≤ nn μ486 ∧ nn μ486 ≤ 9 ∧ wr μ ≤ wr μ486 ∧ wr μ486 ≤ 1 ∧ wr μ486 ≤ bd μ486 ∧ bd μ486 ≤ 1 ∧ μ.1 111 29 ≤ μ404.1 111 29 ∧ μ.1 111 31 ≤ μ.1 111 31 ∧ μ.1 111 31 ≤ 300 ∧ 0 ≤ μ.1 111 32 ∧ μ.1 111 32 ≤ μ486.1 111 9 ∧ μ486.1 111 9 ≤ 3000 := by (repeat' apply And.intro) <;> omega
      clear hv_467 hv_468 hv_469 hv_470 hv_471 hv_472 hv_473 hv_474 hv_475 hv_476 hv_477 hv_478 hv_479 hv_480 hv_481 hv_482 hv_483 hv_484 hw_485 hpl_495 hw_496 vl_497 vl_498
      refine xb_if_eq (tgt := 121) hx hb (by unfold ir; exact ⟨by omega, by omega⟩) dX12_named_99 (by decide) (fun c_99 => ?_) (fun c_99 => ?_)
      · refine lv_aload_n hx hb dX12_named_121 rfl (lv_at hl 2 rfl) ?_
        have hw_519 := wr_r (μ := μ486)
        refine xc_iV G (b := 111) (rest := []) (As := []) (c_X12_isWrong ω l μ486  ) (wm 9 4 rfl rfl) (wm 9 6 rfl rfl) (wm 0 120 rfl rfl) rfl rfl (by decide) rfl (wm 1 18 rfl rfl) (wm 9 7 rfl rfl) (by decide) hR ⟨nfB hF (by decide), nlB hLo (by decide)⟩ (n := 0) rfl rfl (Nat.le_of_ble_eq_true rfl) hl.1 dX12_named_122 (fun r_521 μ520 ρ d0 H locs hr_r_521 hp G => ?_)
        have hr_r_521 : -2147483648 ≤ r_521 ∧ r_521 ≤ 2147483647 := hr_r_521
        obtain ⟨hsm_522, hp_523⟩ := hp
        have hsm_522 := Eq.symm hsm_522
        subst hsm_522
        refine xb_if_eq (tgt := 129) hx hb (by unfold ir; exact ⟨by omega, by omega⟩) dX12_named_125 (by decide) (fun c_125 => ?_) (fun c_125 => ?_)
        · refine lv_aload_n hx hb dX12_named_129 rfl (lv_at hl 2 rfl) ?_
          have hxt_524 : mEXT μ μ486 := hxt_419.tr (q0m.fr (K := [111]) (FrM.tr (FrM.tr FrM.rf F_452 (by decide)) F_488 (by decide)) (by decide) (by decide) (by decide) ((hp_489 22 (by decide)).trans (hp_453 22 (by decide))) (nS.le (Int.le_trans (Int.le_of_eq (hp_453 29 (by decide)).symm) (Int.le_of_eq (hp_489 29 (by decide)).symm)) (Int.le_trans (Int.le_of_eq (hp_453 31 (by decide)).symm) (Int.le_of_eq (hp_489 31 (by decide)).symm)))).1
          have hwh_ := hp_490.1.2.2.2.2.1
          refine xc_vV G (b := 111) (rest := []) (As := []) (c_X12_goesBack ω l μ486  ) (wm 10 47 rfl rfl) (wm 10 49 rfl rfl) (wm 0 183 rfl rfl) rfl rfl (by decide) rfl (wm 1 18 rfl rfl) (wm 10 50 rfl rfl) (by decide) hR ⟨nfB hF (by decide), nlB hLo (by decide)⟩ (n := 0) rfl rfl (Nat.le_of_ble_eq_true rfl) hl.1 dX12_named_130 (fun μ525 ρ d0 H locs hp G => ?_)
          obtain ⟨F_526, hp_527, hs_528, hs_529, hs_530, hs_531⟩ := hp
          have hkb_533 : μ486.1 111 34 = μ.1 111 6 := ((hp_489 34 (by decide)).trans ((hp_453 34 (by decide)).trans ((hp_406 34 (by decide)).trans ((hp_354 34 (by decide)).trans ((hp_310 34 (by decide)).trans ((hp_265 34 (by decide)).trans ((hp_78 34 (by decide)).trans ((hp_43 34 (by decide)).trans hs_7))))))))
          have hkb_534 : μ486.1 111 35 = μ.1 111 9 := ((hp_489 35 (by decide)).trans ((hp_453 35 (by decide)).trans ((hp_406 35 (by decide)).trans ((hp_354 35 (by decide)).trans ((hp_310 35 (by decide)).trans ((hp_265 35 (by decide)).trans ((hp_78 35 (by decide)).trans ((hp_43 35 (by decide)).trans hs_8))))))))
          have hkb_535 : μ486.1 111 37 = μ.1 111 22 := ((hp_489 37 (by decide)).trans ((hp_453 37 (by decide)).trans ((hp_406 37 (by decide)).trans ((hp_354 37 (by decide)).trans ((hp_310 37 (by decide)).trans ((hp_265 37 (by decide)).trans ((hp_78 37 (by decide)).trans ((hp_43 37 (by decide)).trans hs_9))))))))
          have h22_ : μ525.1 111 22 = μ.1 111 22 := by rw [show μ525.1 111 22 = μ486.1 111 37 from hs_530]; omega
          have hq_532 : ∀ _ : Unit, q0m μ μ525 := fun _ => q0m.back hxt_524 h22_ (nS.le (Int.le_of_eq (hp_527 29 (by decide)).symm) (Int.le_of_eq (hp_527 31 (by decide)).symm)) (fun j => F_526.1 115 (by decide) j) (fun j => F_526.1 116 (by decide) j) (fun j => F_526.1 117 (by decide) j)
          obtain ⟨hv_538, hv_539, hv_540, hv_541, hv_542, hv_543, hv_544, hv_545, hv_546, hv_547, hv_548, hv_549, hv_550, hv_551, hv_552, hv_553, hv_554, hv_555⟩ : μ.1 111 22 ≤ μ486.1 111 37 ∧ μ486.1 111 37 ≤ μ.1 111 22 + 2 * (μ486.1 111 35 - μ.1 111 9) + 8 * (nn μ486 - nn μ) + 0 + -100 * wr μ486 ∧ μ.1 111 9 + 0 ≤ μ486.1 111 35 ∧ nn μ + 0 ≤ nn μ486 ∧ nn μ486 ≤ nn μ + 0 + 9 * wr μ486 ∧ nn μ486 ≤ 8 + wr μ486 ∧ 9 * wr μ486 ≤ nn μ486 ∧ nn μ486 ≤ 9 ∧ wr μ ≤ wr μ486 ∧ wr μ486 ≤ 1 ∧ wr μ486 ≤ bd μ486 ∧ bd μ486 ≤ 1 ∧ μ.1 111 29 ≤ μ404.1 111 29 ∧ μ.1 111 31 ≤ μ.1 111 31 ∧ μ.1 111 31 ≤ 300 ∧ 0 ≤ μ.1 111 32 ∧ μ.1 111 32 ≤ μ486.1 111 35 ∧ μ486.1 111 35 ≤ 3000 := by (repeat' apply And.intro) <;> omega
          clear hv_501 hv_502 hv_503 hv_504 hv_505 hv_506 hv_507 hv_508 hv_509 hv_510 hv_511 hv_512 hv_513 hv_514 hv_515 hv_516 hv_517 hv_518 hw_519
          have hht_556 : ∀ _ : Unit, bd μ525 = 0 → mHt μ525 0 := fun _ h0 => (hht_0 () (bd_z (Int.le_trans (Int.le_trans (Int.le_trans (Int.le_trans (Int.le_trans (Int.le_trans (Int.le_trans (Int.le_trans (Int.le_trans (Int.le_of_eq (bd_cg (hp_6 15 (by decide)) (hp_6 16 (by decide)) (hp_6 17 (by decide))).symm) ((hp_46 ()).2)) ((hp_82 ()).2)) ((hp_268 ()).2)) (Int.le_of_eq (bd_cg (hp_310 15 (by decide)) (hp_310 16 (by decide)) (hp_310 17 (by decide))).symm)) ((hp_358 ()).2)) ((hp_411 ()).2)) ((hp_457 ()).2)) ((hp_493 ()).2)) (Int.le_of_eq (bd_cg (hp_527 15 (by decide)) (hp_527 16 (by decide)) (hp_527 17 (by decide))).symm)) h0)).qm (hq_532 ())
          obtain ⟨ht1, ht2, ht3, ht4, ht5, ht6⟩ := id hPM.1
          replace ht6 := fun _ : Unit => ht6
          replace ht3 := fun _ : Unit => ht3
          have ht3 : μ.1 111 9 + 1 ≤ μ.1 111 6 := by have h8 := (wr_0 (μ := μ)).1 (by omega); rcases ht3 () with q | q | q; omega; exact q; exact absurd h8 q
          have e_558 : μ525.1 111 6 = μ486.1 111 34 := hs_528
          have e_559 : μ525.1 111 7 = μ.1 111 7 := ((hp_527 7 (by decide)).trans ((hp_489 7 (by decide)).trans ((hp_453 7 (by decide)).trans ((hp_406 7 (by decide)).trans ((hp_354 7 (by decide)).trans ((hp_310 7 (by decide)).trans ((hp_265 7 (by decide)).trans ((hp_78 7 (by decide)).trans ((hp_43 7 (by decide)).trans (hp_6 7 (by decide)))))))))))
          have e_560 : μ525.1 111 8 = 0 := hs_531
          have e_561 : μ525.1 111 9 = μ486.1 111 35 := hs_529
          have e_562 : μ525.1 111 11 = μ486.1 111 11 := (hp_527 11 (by decide))
          have e_563 : μ525.1 111 14 = tt := ((hp_527 14 (by decide)).trans ((hp_489 14 (by decide)).trans ((hp_453 14 (by decide)).trans ((hp_406 14 (by decide)).trans ((hp_354 14 (by decide)).trans ((hp_310 14 (by decide)).trans ((hp_265 14 (by decide)).trans ((hp_78 14 (by decide)).trans ((hp_43 14 (by decide)).trans ((hp_6 14 (by decide)).trans htt.symm))))))))))
          have e_564 : wr μ525 = wr μ486 := (wr_cg (hp_527 15 (by decide)))
          have hw_565 := wr_r (μ := μ486)
          have hPM_557 : PM μ525 := ⟨by
            have hw9 := wr_0 (μ := μ525)
            refine ⟨by omega, by omega, ?_, by omega, by omega, fun q => absurd q (by omega)⟩
            by_cases q9 : μ525.1 111 8 = 4
            · exact Or.inl q9
            · exact Or.inr (Or.inl (by omega))
            , (NP.cg (hp_527 4 (by decide)) (hp_527 29 (by decide)) (fun j => F_526.1 123 (by decide) j) hp_490.2)⟩
          refine lv_aload_n hx hb dX12_named_133 rfl (lv_at hl 2 rfl) ?_
          have e_566 : μ525.1 111 29 = μ404.1 111 29 := ((hp_527 29 (by decide)).trans ((hp_489 29 (by decide)).trans (hp_453 29 (by decide))))
          have e_569 : nn μ525 = nn μ486 := (nn_cg (hp_527 15 (by decide)) (hp_527 18 (by decide)))
          have e_572 : μ525.1 111 22 = μ486.1 111 37 := hs_530
          have e_576 : μ525.1 111 39 = μ404.1 111 39 := ((hp_527 39 (by decide)).trans ((hp_489 39 (by decide)).trans (hp_453 39 (by decide))))
          have e_579 : μ525.1 111 31 = μ.1 111 31 := ((hp_527 31 (by decide)).trans ((hp_489 31 (by decide)).trans ((hp_453 31 (by decide)).trans ((hp_406 31 (by decide)).trans ((hp_354 31 (by decide)).trans ((hp_310 31 (by decide)).trans ((hp_265 31 (by decide)).trans ((hp_78 31 (by decide)).trans ((hp_43 31 (by decide)).trans (hp_6 31 (by decide)))))))))))
          have e_581 : μ525.1 111 32 = μ.1 111 32 := ((hp_527 32 (by decide)).trans ((hp_489 32 (by decide)).trans ((hp_453 32 (by decide)).trans ((hp_406 32 (by decide)).trans ((hp_354 32 (by decide)).trans ((hp_310 32 (by decide)).trans ((hp_265 32 (by decide)).trans ((hp_78 32 (by decide)).trans ((hp_43 32 (by decide)).trans (hp_6 32 (by decide)))))))))))
          have e_593 : bd μ525 = bd μ486 := (bd_cg (hp_527 15 (by decide)) (hp_527 16 (by decide)) (hp_527 17 (by decide)))
          refine xc_vV G (b := 111) (rest := []) (As := []) (c_X12_plain ω l μ525 F Lo kf tt (by (repeat' apply And.intro) <;> omega) hF hLo hK hPM_557 (by (repeat' apply And.intro) <;> omega) (by (repeat' apply And.intro) <;> omega) (by (repeat' apply And.intro) <;> omega) (by (repeat' apply And.intro) <;> omega) (by (repeat' apply And.intro) <;> omega) (by (repeat' apply And.intro) <;> omega) (by (repeat' apply And.intro) <;> omega) (by (repeat' apply And.intro) <;> omega) (fun _ h0 => ((hS1 () (bd_z (Int.le_trans (Int.le_trans (Int.le_trans (Int.le_trans (Int.le_trans (Int.le_trans (Int.le_trans (Int.le_trans (Int.le_trans (Int.le_of_eq (bd_cg (hp_6 15 (by decide)) (hp_6 16 (by decide)) (hp_6 17 (by decide))).symm) ((hp_46 ()).2)) ((hp_82 ()).2)) ((hp_268 ()).2)) (Int.le_of_eq (bd_cg (hp_310 15 (by decide)) (hp_310 16 (by decide)) (hp_310 17 (by decide))).symm)) ((hp_358 ()).2)) ((hp_411 ()).2)) ((hp_457 ()).2)) ((hp_493 ()).2)) (Int.le_of_eq (bd_cg (hp_527 15 (by decide)) (hp_527 16 (by decide)) (hp_527 17 (by decide))).symm)) h0)).qm (hq_532 ())))) (wm 10 35 rfl rfl) (wm 10 37 rfl rfl) (wm 0 180 rfl rfl) rfl rfl (by decide) rfl (wm 1 18 rfl rfl) (wm 10 38 rfl rfl) (by decide) hR ⟨sfr (F := F) (a := 0) (by decide), slo (L := Lo) (m := 1) (a := 0) (by decide)⟩ (n := 0) rfl rfl (Nat.le_of_ble_eq_true rfl) hl.1 dX12_named_134 (fun μ597 ρ d0 H locs hp G => ?_)
          obtain ⟨F_598, hp_599, hp_600, hp_601, hp_602, hp_603, hp_604, hp_605, hp_606, hp_607, hp_608, hp_609, hp_610, hp_611⟩ := hp
          have hpl_612 := hp_600.pl
          have hw_613 := wr_r (μ := μ597)
          have hw_614 := wr_r (μ := μ525)
          have hxt_615 : mEXT μ μ597 := (hq_532 ()).1.tr hp_611
          have hwk_616 : ∀ j, j < μ.1 111 39 → μ597.1 126 j = μ525.1 126 j := fun j hj => hp_607 j (by omega)
          have hey_617 : ∀ _ : Unit, bd μ597 = 0 → mEY μ525 μ597 tt (2 * (9 - nn μ)) := fun _ h0 => (hp_610 () h0).mn (by omega)
          have vl_618 := hp_601
          replace hp_601 := fun _ : Unit => hp_601
          have vl_619 := hp_602
          replace hp_602 := fun _ : Unit => hp_602
          have vl_620 := hp_603
          replace hp_603 := fun _ : Unit => hp_603
          have vl_621 := hp_604
          replace hp_604 := fun _ : Unit => hp_604
          have vl_622 := hp_605
          replace hp_605 := fun _ : Unit => hp_605
          have vl_623 := hp_606
          replace hp_606 := fun _ : Unit => hp_606
          have vl_624 := hp_608
          replace hp_608 := fun _ : Unit => hp_608
          have vl_625 := hp_609
          replace hp_609 := fun _ : Unit => hp_609
          have h39_626 : μ597.1 111 39 = μ.1 111 39 := by omega
          obtain ⟨hv_629, hv_630, hv_631, hv_632, hv_633, hv_634, hv_635, hv_636, hv_637, hv_638, hv_639, hv_640, hv_641, hv_642, hv_643, hv_644, hv_645, hv_646, hv_647⟩ : μ.1 111 22 ≤ μ597.1 111 22 ∧ μ597.1 111 22 ≤ μ.1 111 22 + 2 * (μ597.1 111 9 - μ.1 111 9) + 8 * (nn μ597 - nn μ) - 1 + 0 * wr μ597 ∧ μ.1 111 9 + 0 ≤ μ597.1 111 9 ∧ μ.1 111 9 + 1 ≤ μ597.1 111 9 + wr μ597 ∧ nn μ + 0 ≤ nn μ597 ∧ nn μ597 ≤ nn μ + 0 + 9 * wr μ597 ∧ nn μ597 ≤ 8 + wr μ597 ∧ 9 * wr μ597 ≤ nn μ597 ∧ nn μ597 ≤ 9 ∧ wr μ ≤ wr μ597 ∧ wr μ597 ≤ 1 ∧ wr μ597 ≤ bd μ597 ∧ bd μ597 ≤ 1 ∧ μ.1 111 29 ≤ μ597.1 111 29 ∧ μ.1 111 31 ≤ μ597.1 111 31 ∧ μ597.1 111 31 ≤ 300 ∧ 0 ≤ μ597.1 111 32 ∧ μ597.1 111 32 ≤ μ597.1 111 9 ∧ μ597.1 111 9 ≤ 3000 := by (repeat' apply And.intro) <;> omega
          clear hv_538 hv_539 hv_540 hv_541 hv_542 hv_543 hv_544 hv_545 hv_546 hv_547 hv_548 hv_549 hv_550 hv_551 hv_552 hv_553 hv_554 hv_555 e_566 e_569 e_572 e_576 e_579 e_581 e_593 hpl_612 hw_613 hw_614 vl_618 vl_619 vl_620 vl_621 vl_622 vl_623 vl_624 vl_625
          have hw_648 := wr_r (μ := μ597)
          exact xr_v G hret hlk dX12_named_137 ⟨(FrM.tr (FrM.tr (FrM.tr (FrM.tr (FrM.tr (FrM.tr (FrM.tr (FrM.tr (FrM.tr (FrM.tr (FrM.tr FrM.rf F_5 (by decide)) F_42 (by decide)) F_77 (by decide)) F_264 (by decide)) F_309 (by decide)) F_353 (by decide)) F_405 (by decide)) F_452 (by decide)) F_488 (by decide)) F_526 (by decide)) F_598 (by decide)), (fun j hj => ((hp_599 j (fun h9 => hj ((by decide : ∀ x ∈ ([6, 8, 9, 10, 11, 12, 13, 15, 16, 17, 18, 22, 29, 31, 32, 34, 35, 36, 37, 39] : List Int), x ∈ ([6, 8, 9, 10, 11, 12, 13, 15, 16, 17, 18, 22, 29, 31, 32, 34, 35, 36, 37, 39] : List Int)) j h9))).trans ((hp_527 j (fun h9 => hj ((by decide : ∀ x ∈ ([6, 8, 9, 10, 22] : List Int), x ∈ ([6, 8, 9, 10, 11, 12, 13, 15, 16, 17, 18, 22, 29, 31, 32, 34, 35, 36, 37, 39] : List Int)) j h9))).trans ((hp_489 j (fun h9 => hj ((by decide : ∀ x ∈ ([6, 8, 9, 10, 11, 12, 13, 15] : List Int), x ∈ ([6, 8, 9, 10, 11, 12, 13, 15, 16, 17, 18, 22, 29, 31, 32, 34, 35, 36, 37, 39] : List Int)) j h9))).trans ((hp_453 j (fun h9 => hj ((by decide : ∀ x ∈ ([6, 8, 9, 10, 11, 12, 13, 15, 18] : List Int), x ∈ ([6, 8, 9, 10, 11, 12, 13, 15, 16, 17, 18, 22, 29, 31, 32, 34, 35, 36, 37, 39] : List Int)) j h9))).trans ((hp_406 j (fun h9 => hj ((by decide : ∀ x ∈ ([6, 8, 9, 10, 11, 12, 13, 15, 16, 17, 18, 22, 29, 39] : List Int), x ∈ ([6, 8, 9, 10, 11, 12, 13, 15, 16, 17, 18, 22, 29, 31, 32, 34, 35, 36, 37, 39] : List Int)) j h9))).trans ((hp_354 j (fun h9 => hj ((by decide : ∀ x ∈ ([6, 8, 9, 10, 11, 12, 13, 15, 18] : List Int), x ∈ ([6, 8, 9, 10, 11, 12, 13, 15, 16, 17, 18, 22, 29, 31, 32, 34, 35, 36, 37, 39] : List Int)) j h9))).trans ((hp_310 j (fun h9 => hj ((by decide : ∀ x ∈ ([22] : List Int), x ∈ ([6, 8, 9, 10, 11, 12, 13, 15, 16, 17, 18, 22, 29, 31, 32, 34, 35, 36, 37, 39] : List Int)) j h9))).trans ((hp_265 j (fun h9 => hj ((by decide : ∀ x ∈ ([17] : List Int), x ∈ ([6, 8, 9, 10, 11, 12, 13, 15, 16, 17, 18, 22, 29, 31, 32, 34, 35, 36, 37, 39] : List Int)) j h9))).trans ((hp_78 j (fun h9 => hj ((by decide : ∀ x ∈ ([6, 8, 9, 10, 11, 12, 13, 15] : List Int), x ∈ ([6, 8, 9, 10, 11, 12, 13, 15, 16, 17, 18, 22, 29, 31, 32, 34, 35, 36, 37, 39] : List Int)) j h9))).trans ((hp_43 j (fun h9 => hj ((by decide : ∀ x ∈ ([6, 8, 9, 10, 11, 12, 13, 15] : List Int), x ∈ ([6, 8, 9, 10, 11, 12, 13, 15, 16, 17, 18, 22, 29, 31, 32, 34, 35, 36, 37, 39] : List Int)) j h9))).trans (hp_6 j (fun h9 => hj ((by decide : ∀ x ∈ ([34, 35, 36, 37] : List Int), x ∈ ([6, 8, 9, 10, 11, 12, 13, 15, 16, 17, 18, 22, 29, 31, 32, 34, 35, 36, 37, 39] : List Int)) j h9)))))))))))))), hp_600, (by (repeat' apply And.intro) <;> omega), (by (repeat' apply And.intro) <;> omega), (by (repeat' apply And.intro) <;> omega), ⟨by omega, (Int.le_trans (Int.le_trans (Int.le_trans (Int.le_trans (Int.le_trans (Int.le_trans (Int.le_trans (Int.le_trans (Int.le_trans (Int.le_trans (Int.le_of_eq (bd_cg (hp_6 15 (by decide)) (hp_6 16 (by decide)) (hp_6 17 (by decide))).symm) ((hp_46 ()).2)) ((hp_82 ()).2)) ((hp_268 ()).2)) (Int.le_of_eq (bd_cg (hp_310 15 (by decide)) (hp_310 16 (by decide)) (hp_310 17 (by decide))).symm)) ((hp_358 ()).2)) ((hp_411 ()).2)) ((hp_457 ()).2)) ((hp_493 ()).2)) (Int.le_of_eq (bd_cg (hp_527 15 (by decide)) (hp_527 16 (by decide)) (hp_527 17 (by decide))).symm)) ((hp_604 ()).2))⟩, (by (repeat' apply And.intro) <;> omega), (by (repeat' apply And.intro) <;> omega), (fun j hj => ((hwk_616 j (by omega)).trans ((F_526.1 126 (by decide) j).trans ((F_488.1 126 (by decide) j).trans ((F_452.1 126 (by decide) j).trans ((hwk_420 j (by omega)).trans ((F_353.1 126 (by decide) j).trans ((F_309.1 126 (by decide) j).trans ((F_264.1 126 (by decide) j).trans ((F_77.1 126 (by decide) j).trans ((F_42.1 126 (by decide) j).trans (F_5.1 126 (by decide) j)))))))))))), (by (repeat' apply And.intro) <;> omega), (by (repeat' apply And.intro) <;> omega), (fun _ h0 => mEY.ql (hq_532 ()) ((hey_617 () h0))), hxt_615⟩
        · have hb1_649 : r_521 = 1 := by omega
          replace c_125 := fun _ : Unit => c_125
          have hq_650 : ∀ _ : Unit, q0m μ404 μ486 := fun _ => (q0m.fr (K := [111]) (FrM.tr (FrM.tr FrM.rf F_452 (by decide)) F_488 (by decide)) (by decide) (by decide) (by decide) ((hp_489 22 (by decide)).trans (hp_453 22 (by decide))) (nS.le (Int.le_trans (Int.le_of_eq (hp_453 29 (by decide)).symm) (Int.le_of_eq (hp_489 29 (by decide)).symm)) (Int.le_trans (Int.le_of_eq (hp_453 31 (by decide)).symm) (Int.le_of_eq (hp_489 31 (by decide)).symm))))
          have hht_651 : ∀ _ : Unit, bd μ486 = 0 → mHt μ486 2 := fun _ h0 => (hht_422 () (bd_z (Int.le_trans ((hp_457 ()).2) ((hp_493 ()).2)) h0)).qm (hq_650 ())
          have e_652 : μ486.1 111 22 = μ404.1 111 22 := ((hp_489 22 (by decide)).trans (hp_453 22 (by decide)))
          have e_653 : μ486.1 111 29 = μ404.1 111 29 := ((hp_489 29 (by decide)).trans (hp_453 29 (by decide)))
          have e_654 : μ486.1 111 39 = μ404.1 111 39 := ((hp_489 39 (by decide)).trans (hp_453 39 (by decide)))
          have e_655 : μ486.1 111 31 = μ.1 111 31 := ((hp_489 31 (by decide)).trans ((hp_453 31 (by decide)).trans ((hp_406 31 (by decide)).trans ((hp_354 31 (by decide)).trans ((hp_310 31 (by decide)).trans ((hp_265 31 (by decide)).trans ((hp_78 31 (by decide)).trans ((hp_43 31 (by decide)).trans (hp_6 31 (by decide))))))))))
          have e_656 : μ486.1 111 32 = μ.1 111 32 := ((hp_489 32 (by decide)).trans ((hp_453 32 (by decide)).trans ((hp_406 32 (by decide)).trans ((hp_354 32 (by decide)).trans ((hp_310 32 (by decide)).trans ((hp_265 32 (by decide)).trans ((hp_78 32 (by decide)).trans ((hp_43 32 (by decide)).trans (hp_6 32 (by decide))))))))))
          have hxt_657 : mEXT μ μ486 := hxt_419.tr (q0m.fr (K := [111]) (FrM.tr (FrM.tr FrM.rf F_452 (by decide)) F_488 (by decide)) (by decide) (by decide) (by decide) ((hp_489 22 (by decide)).trans (hp_453 22 (by decide))) (nS.le (Int.le_trans (Int.le_of_eq (hp_453 29 (by decide)).symm) (Int.le_of_eq (hp_489 29 (by decide)).symm)) (Int.le_trans (Int.le_of_eq (hp_453 31 (by decide)).symm) (Int.le_of_eq (hp_489 31 (by decide)).symm)))).1
          exact xr_v G hret hlk dX12_named_128 ⟨(FrM.tr (FrM.tr (FrM.tr (FrM.tr (FrM.tr (FrM.tr (FrM.tr (FrM.tr (FrM.tr FrM.rf F_5 (by decide)) F_42 (by decide)) F_77 (by decide)) F_264 (by decide)) F_309 (by decide)) F_353 (by decide)) F_405 (by decide)) F_452 (by decide)) F_488 (by decide)), (fun j hj => ((hp_489 j (fun h9 => hj ((by decide : ∀ x ∈ ([6, 8, 9, 10, 11, 12, 13, 15] : List Int), x ∈ ([6, 8, 9, 10, 11, 12, 13, 15, 16, 17, 18, 22, 29, 31, 32, 34, 35, 36, 37, 39] : List Int)) j h9))).trans ((hp_453 j (fun h9 => hj ((by decide : ∀ x ∈ ([6, 8, 9, 10, 11, 12, 13, 15, 18] : List Int), x ∈ ([6, 8, 9, 10, 11, 12, 13, 15, 16, 17, 18, 22, 29, 31, 32, 34, 35, 36, 37, 39] : List Int)) j h9))).trans ((hp_406 j (fun h9 => hj ((by decide : ∀ x ∈ ([6, 8, 9, 10, 11, 12, 13, 15, 16, 17, 18, 22, 29, 39] : List Int), x ∈ ([6, 8, 9, 10, 11, 12, 13, 15, 16, 17, 18, 22, 29, 31, 32, 34, 35, 36, 37, 39] : List Int)) j h9))).trans ((hp_354 j (fun h9 => hj ((by decide : ∀ x ∈ ([6, 8, 9, 10, 11, 12, 13, 15, 18] : List Int), x ∈ ([6, 8, 9, 10, 11, 12, 13, 15, 16, 17, 18, 22, 29, 31, 32, 34, 35, 36, 37, 39] : List Int)) j h9))).trans ((hp_310 j (fun h9 => hj ((by decide : ∀ x ∈ ([22] : List Int), x ∈ ([6, 8, 9, 10, 11, 12, 13, 15, 16, 17, 18, 22, 29, 31, 32, 34, 35, 36, 37, 39] : List Int)) j h9))).trans ((hp_265 j (fun h9 => hj ((by decide : ∀ x ∈ ([17] : List Int), x ∈ ([6, 8, 9, 10, 11, 12, 13, 15, 16, 17, 18, 22, 29, 31, 32, 34, 35, 36, 37, 39] : List Int)) j h9))).trans ((hp_78 j (fun h9 => hj ((by decide : ∀ x ∈ ([6, 8, 9, 10, 11, 12, 13, 15] : List Int), x ∈ ([6, 8, 9, 10, 11, 12, 13, 15, 16, 17, 18, 22, 29, 31, 32, 34, 35, 36, 37, 39] : List Int)) j h9))).trans ((hp_43 j (fun h9 => hj ((by decide : ∀ x ∈ ([6, 8, 9, 10, 11, 12, 13, 15] : List Int), x ∈ ([6, 8, 9, 10, 11, 12, 13, 15, 16, 17, 18, 22, 29, 31, 32, 34, 35, 36, 37, 39] : List Int)) j h9))).trans (hp_6 j (fun h9 => hj ((by decide : ∀ x ∈ ([34, 35, 36, 37] : List Int), x ∈ ([6, 8, 9, 10, 11, 12, 13, 15, 16, 17, 18, 22, 29, 31, 32, 34, 35, 36, 37, 39] : List Int)) j h9)))))))))))), hp_490, (by (repeat' apply And.intro) <;> omega), (by (repeat' apply And.intro) <;> omega), (by (repeat' apply And.intro) <;> omega), ⟨by omega, (Int.le_trans (Int.le_trans (Int.le_trans (Int.le_trans (Int.le_trans (Int.le_trans (Int.le_trans (Int.le_trans (Int.le_of_eq (bd_cg (hp_6 15 (by decide)) (hp_6 16 (by decide)) (hp_6 17 (by decide))).symm) ((hp_46 ()).2)) ((hp_82 ()).2)) ((hp_268 ()).2)) (Int.le_of_eq (bd_cg (hp_310 15 (by decide)) (hp_310 16 (by decide)) (hp_310 17 (by decide))).symm)) ((hp_358 ()).2)) ((hp_411 ()).2)) ((hp_457 ()).2)) ((hp_493 ()).2))⟩, (by (repeat' apply And.intro) <;> omega), (by (repeat' apply And.intro) <;> omega), (fun j hj => ((F_488.1 126 (by decide) j).trans ((F_452.1 126 (by decide) j).trans ((hwk_420 j (by omega)).trans ((F_353.1 126 (by decide) j).trans ((F_309.1 126 (by decide) j).trans ((F_264.1 126 (by decide) j).trans ((F_77.1 126 (by decide) j).trans ((F_42.1 126 (by decide) j).trans (F_5.1 126 (by decide) j)))))))))), (by (repeat' apply And.intro) <;> omega), (by (repeat' apply And.intro) <;> omega), (fun _ h0 => (by exfalso; omega)), hxt_657⟩
      · have hb1_666 : r_487 = 1 := by omega
        replace c_99 := fun _ : Unit => c_99
        refine lv_aload_n hx hb dX12_named_102 rfl (lv_at hl 2 rfl) ?_
        have hq_667 : ∀ _ : Unit, q0m μ404 μ486 := fun _ => (q0m.fr (K := [111]) (FrM.tr (FrM.tr FrM.rf F_452 (by decide)) F_488 (by decide)) (by decide) (by decide) (by decide) ((hp_489 22 (by decide)).trans (hp_453 22 (by decide))) (nS.le (Int.le_trans (Int.le_of_eq (hp_453 29 (by decide)).symm) (Int.le_of_eq (hp_489 29 (by decide)).symm)) (Int.le_trans (Int.le_of_eq (hp_453 31 (by decide)).symm) (Int.le_of_eq (hp_489 31 (by decide)).symm))))
        have hw_668 := wr_r (μ := μ486)
        have hht_669 : ∀ _ : Unit, bd μ486 = 0 → mHt μ486 2 := fun _ h0 => (hht_422 () (bd_z (Int.le_trans ((hp_457 ()).2) ((hp_493 ()).2)) h0)).qm (hq_667 ())
        have e_670 : μ486.1 111 29 = μ404.1 111 29 := ((hp_489 29 (by decide)).trans (hp_453 29 (by decide)))
        have hxt_671 : mEXT μ μ486 := hxt_419.tr (q0m.fr (K := [111]) (FrM.tr (FrM.tr FrM.rf F_452 (by decide)) F_488 (by decide)) (by decide) (by decide) (by decide) ((hp_489 22 (by decide)).trans (hp_453 22 (by decide))) (nS.le (Int.le_trans (Int.le_of_eq (hp_453 29 (by decide)).symm) (Int.le_of_eq (hp_489 29 (by decide)).symm)) (Int.le_trans (Int.le_of_eq (hp_453 31 (by decide)).symm) (Int.le_of_eq (hp_489 31 (by decide)).symm)))).1
        have e_672 : μ486.1 111 14 = tt := ((hp_489 14 (by decide)).trans ((hp_453 14 (by decide)).trans ((hp_406 14 (by decide)).trans ((hp_354 14 (by decide)).trans ((hp_310 14 (by decide)).trans ((hp_265 14 (by decide)).trans ((hp_78 14 (by decide)).trans ((hp_43 14 (by decide)).trans ((hp_6 14 (by decide)).trans htt.symm)))))))))
        have e_673 : μ486.1 111 22 = μ404.1 111 22 := ((hp_489 22 (by decide)).trans (hp_453 22 (by decide)))
        have e_675 : μ486.1 111 39 = μ404.1 111 39 := ((hp_489 39 (by decide)).trans (hp_453 39 (by decide)))
        have e_678 : μ486.1 111 31 = μ.1 111 31 := ((hp_489 31 (by decide)).trans ((hp_453 31 (by decide)).trans ((hp_406 31 (by decide)).trans ((hp_354 31 (by decide)).trans ((hp_310 31 (by decide)).trans ((hp_265 31 (by decide)).trans ((hp_78 31 (by decide)).trans ((hp_43 31 (by decide)).trans (hp_6 31 (by decide))))))))))
        refine xc_vV G (b := 111) (rest := []) (As := []) (c_X12_expr_a ω l μ486 tt (by (repeat' apply And.intro) <;> omega) hp_490 (by (repeat' apply And.intro) <;> omega) (by (repeat' apply And.intro) <;> omega) (by (repeat' apply And.intro) <;> omega) (by (repeat' apply And.intro) <;> omega) (by (repeat' apply And.intro) <;> omega) (fun _ h0 => (hht_669 () h0).p (by decide))) (wm 9 139 rfl rfl) (wm 9 141 rfl rfl) (wm 0 147 rfl rfl) rfl rfl (by decide) rfl (wm 1 18 rfl rfl) (wm 9 142 rfl rfl) (by decide) hR ⟨nfB hF (by decide), nlB hLo (by decide)⟩ (n := 0) rfl rfl (Nat.le_of_ble_eq_true rfl) hl.1 dX12_named_103 (fun μ684 ρ d0 H locs hp G => ?_)
        obtain ⟨F_685, hp_686, hp_687, hp_688, hp_689, hp_690, hp_691, hp_692, hp_693, hp_694, hp_695, hp_696⟩ := hp
        have hpl_697 := hp_687.pl
        have hw_698 := wr_r (μ := μ684)
        have hxt_699 : mEXT μ μ684 := hxt_671.tr hp_696
        have hwk_700 : ∀ j, j < μ.1 111 39 → μ684.1 126 j = μ486.1 126 j := fun j hj => hp_694 j (by omega)
        have hex_701 : ∀ _ : Unit, bd μ684 = 0 → mEX μ486 μ684 tt 1 0 99 := fun _ h0 => (hp_695 () h0).mn (Int.le_refl _) (by omega)
        have hht_702 : ∀ _ : Unit, bd μ684 = 0 → mHt μ684 3 := fun _ h0 => (hht_669 () (bd_z (hp_691.2) h0)).ex (hex_701 () h0) rfl
        have vl_703 := hp_688
        replace hp_688 := fun _ : Unit => hp_688
        have vl_704 := hp_689
        replace hp_689 := fun _ : Unit => hp_689
        have vl_705 := hp_690
        replace hp_690 := fun _ : Unit => hp_690
        have vl_706 := hp_691
        replace hp_691 := fun _ : Unit => hp_691
        have vl_707 := hp_692
        replace hp_692 := fun _ : Unit => hp_692
        have vl_708 := hp_693
        replace hp_693 := fun _ : Unit => hp_693
        have h39_709 : μ684.1 111 39 = μ.1 111 39 := by omega
        obtain ⟨hv_712, hv_713, hv_714, hv_715, hv_716, hv_717, hv_718, hv_719, hv_720, hv_721, hv_722, hv_723, hv_724, hv_725, hv_726, hv_727, hv_728, hv_729⟩ : μ.1 111 22 ≤ μ684.1 111 22 ∧ μ684.1 111 22 ≤ μ.1 111 22 + 2 * (μ684.1 111 9 - μ.1 111 9) + 8 * (nn μ684 - nn μ) - 7 + 0 * wr μ684 ∧ μ.1 111 9 + 1 ≤ μ684.1 111 9 ∧ nn μ + 0 ≤ nn μ684 ∧ nn μ684 ≤ nn μ + 0 + 9 * wr μ684 ∧ nn μ684 ≤ 8 + wr μ684 ∧ 9 * wr μ684 ≤ nn μ684 ∧ nn μ684 ≤ 9 ∧ wr μ ≤ wr μ684 ∧ wr μ684 ≤ 1 ∧ wr μ684 ≤ bd μ684 ∧ bd μ684 ≤ 1 ∧ μ.1 111 29 ≤ μ684.1 111 29 ∧ μ.1 111 31 ≤ μ.1 111 31 ∧ μ.1 111 31 ≤ 300 ∧ 0 ≤ μ.1 111 32 ∧ μ.1 111 32 ≤ μ684.1 111 9 ∧ μ684.1 111 9 ≤ 3000 := by (repeat' apply And.intro) <;> omega
        clear hv_501 hv_502 hv_503 hv_504 hv_505 hv_506 hv_507 hv_508 hv_509 hv_510 hv_511 hv_512 hv_513 hv_514 hv_515 hv_516 hv_517 hv_518 hw_668 e_670 e_672 e_673 e_675 e_678 hpl_697 hw_698 vl_703 vl_704 vl_705 vl_706 vl_707 vl_708
        refine lv_aload_n hx hb dX12_named_106 rfl (lv_at hl 2 rfl) ?_
        refine lv_bipush (v := iv 59) hx hb dX12_named_107 rfl ?_
        have hw_730 := wr_r (μ := μ684)
        refine xc_vV G (b := 111) (rest := []) (As := [.int (iv 59)]) (c_X12_wantsSign ω l μ684 59 (by unfold ir; decide) hp_687 (by (repeat' apply And.intro) <;> omega)) (wm 9 114 rfl rfl) (wm 9 116 rfl rfl) (wm 0 141 rfl rfl) rfl rfl (by decide) rfl (wm 1 18 rfl rfl) (wm 9 117 rfl rfl) (by decide) hR ⟨nfB hF (by decide), nlB hLo (by decide)⟩ (n := 1) rfl rfl (Nat.le_of_ble_eq_true rfl) hl.1 dX12_named_109 (fun μ731 ρ d0 H locs hp G => ?_)
        obtain ⟨F_732, hp_733, hp_734, hp_735, hp_736, hp_737, hp_738⟩ := hp
        have hpl_739 := hp_734.pl
        have hw_740 := wr_r (μ := μ731)
        have vl_741 := hp_735
        replace hp_735 := fun _ : Unit => hp_735
        have vl_742 := hp_736
        replace hp_736 := fun _ : Unit => hp_736
        have vl_743 := hp_737
        replace hp_737 := fun _ : Unit => hp_737
        have vl_744 := hp_738
        replace hp_738 := fun _ : Unit => hp_738
        obtain ⟨hv_747, hv_748, hv_749, hv_750, hv_751, hv_752, hv_753, hv_754, hv_755, hv_756, hv_757, hv_758, hv_759, hv_760, hv_761, hv_762, hv_763, hv_764⟩ : μ.1 111 22 ≤ μ684.1 111 22 ∧ μ684.1 111 22 ≤ μ.1 111 22 + 2 * (μ731.1 111 9 - μ.1 111 9) + 8 * (nn μ731 - nn μ) - 9 + 2 * wr μ731 ∧ μ.1 111 9 + 1 ≤ μ731.1 111 9 ∧ nn μ + 0 ≤ nn μ731 ∧ nn μ731 ≤ nn μ + 0 + 9 * wr μ731 ∧ nn μ731 ≤ 8 + wr μ731 ∧ 9 * wr μ731 ≤ nn μ731 ∧ nn μ731 ≤ 9 ∧ wr μ ≤ wr μ731 ∧ wr μ731 ≤ 1 ∧ wr μ731 ≤ bd μ731 ∧ bd μ731 ≤ 1 ∧ μ.1 111 29 ≤ μ684.1 111 29 ∧ μ.1 111 31 ≤ μ.1 111 31 ∧ μ.1 111 31 ≤ 300 ∧ 0 ≤ μ.1 111 32 ∧ μ.1 111 32 ≤ μ731.1 111 9 ∧ μ731.1 111 9 ≤ 3000 := by (repeat' apply And.intro) <;> omega
        clear hv_712 hv_713 hv_714 hv_715 hv_716 hv_717 hv_718 hv_719 hv_720 hv_721 hv_722 hv_723 hv_724 hv_725 hv_726 hv_727 hv_728 hv_729 hw_730 hpl_739 hw_740 vl_741 vl_742 vl_743 vl_744
        refine lv_aload_n hx hb dX12_named_112 rfl (lv_at hl 2 rfl) ?_
        refine lv_iconst (v := iv 5) hx hb dX12_named_113 rfl ?_
        refine lv_lconst (v := jv 0) hx hb dX12_named_114 rfl ?_
        refine lv_iconst (v := iv 0) hx hb dX12_named_115 rfl ?_
        have hq_765 : ∀ _ : Unit, q0m μ684 μ731 := fun _ => (q0m.fr (K := [111]) (FrM.tr FrM.rf F_732 (by decide)) (by decide) (by decide) (by decide) (hp_733 22 (by decide)) (nS.le (Int.le_of_eq (hp_733 29 (by decide)).symm) (Int.le_of_eq (hp_733 31 (by decide)).symm)))
        have hw_766 := wr_r (μ := μ731)
        have hht_767 : ∀ _ : Unit, bd μ731 = 0 → mHt μ731 3 := fun _ h0 => (hht_702 () (bd_z ((hp_737 ()).2) h0)).qm (hq_765 ())
        have e_768 : μ731.1 111 29 = μ684.1 111 29 := (hp_733 29 (by decide))
        have hxt_769 : mEXT μ μ731 := hxt_699.tr (q0m.fr (K := [111]) (FrM.tr FrM.rf F_732 (by decide)) (by decide) (by decide) (by decide) (hp_733 22 (by decide)) (nS.le (Int.le_of_eq (hp_733 29 (by decide)).symm) (Int.le_of_eq (hp_733 31 (by decide)).symm))).1
        have e_770 : μ731.1 111 22 = μ684.1 111 22 := (hp_733 22 (by decide))
        refine xc_iV G (b := 111) (rest := []) (As := [.int (iv 5), .long (jv 0), .int (iv 0)]) (c_X12_emit ω l μ731 5 0 0 (by unfold ir; decide) (by unfold jr; omega) (by unfold ir; decide) (by (repeat' apply And.intro) <;> omega)) (wm 9 126 rfl rfl) (wm 9 128 rfl rfl) (wm 0 144 rfl rfl) rfl rfl (by decide) rfl (wm 1 18 rfl rfl) (wm 9 129 rfl rfl) (by decide) hR ⟨nfB hF (by decide), nlB hLo (by decide)⟩ (n := 3) rfl rfl (Nat.le_of_ble_eq_true rfl) hl.1 dX12_named_116 (fun r_775 μ774 ρ d0 H locs hr_r_775 hp G => ?_)
        have hr_r_775 : -2147483648 ≤ r_775 ∧ r_775 ≤ 2147483647 := hr_r_775
        obtain ⟨F_776, hp_777, hp_778, hp_779, hp_780⟩ := hp
        have hxt_781 : mEXT μ μ774 := hxt_769.tr hp_778.1
        have hht_782 : ∀ _ : Unit, bd μ774 = 0 → mHt μ774 0 := fun _ h0 => (hht_767 () (bd_z (Int.le_of_eq (bd_cg (hp_777 15 (by decide)) (hp_777 16 (by decide)) (hp_777 17 (by decide))).symm) h0)).ad hp_778 rfl
        have vl_783 := hp_780
        replace hp_780 := fun _ : Unit => hp_780
        obtain ⟨hv_786, hv_787, hv_788, hv_789, hv_790, hv_791, hv_792, hv_793, hv_794, hv_795, hv_796, hv_797, hv_798, hv_799, hv_800, hv_801, hv_802, hv_803⟩ : μ.1 111 22 ≤ μ774.1 111 22 ∧ μ774.1 111 22 ≤ μ.1 111 22 + 2 * (μ731.1 111 9 - μ.1 111 9) + 8 * (nn μ731 - nn μ) - 8 + 2 * wr μ731 ∧ μ.1 111 9 + 1 ≤ μ731.1 111 9 ∧ nn μ + 0 ≤ nn μ731 ∧ nn μ731 ≤ nn μ + 0 + 9 * wr μ731 ∧ nn μ731 ≤ 8 + wr μ731 ∧ 9 * wr μ731 ≤ nn μ731 ∧ nn μ731 ≤ 9 ∧ wr μ ≤ wr μ731 ∧ wr μ731 ≤ 1 ∧ wr μ731 ≤ bd μ731 ∧ bd μ731 ≤ 1 ∧ μ.1 111 29 ≤ μ684.1 111 29 ∧ μ.1 111 31 ≤ μ.1 111 31 ∧ μ.1 111 31 ≤ 300 ∧ 0 ≤ μ.1 111 32 ∧ μ.1 111 32 ≤ μ731.1 111 9 ∧ μ731.1 111 9 ≤ 3000 := by (repeat' apply And.intro) <;> omega
        clear hv_747 hv_748 hv_749 hv_750 hv_751 hv_752 hv_753 hv_754 hv_755 hv_756 hv_757 hv_758 hv_759 hv_760 hv_761 hv_762 hv_763 hv_764 hw_766 e_768 e_770 vl_783
        refine lv_pop hx hb dX12_named_119 rfl ?_
        have e_804 : μ774.1 111 9 = μ731.1 111 9 := (hp_777 9 (by decide))
        have e_805 : μ774.1 111 29 = μ684.1 111 29 := ((hp_777 29 (by decide)).trans (hp_733 29 (by decide)))
        have e_806 : μ774.1 111 39 = μ684.1 111 39 := ((hp_777 39 (by decide)).trans (hp_733 39 (by decide)))
        have e_807 : μ774.1 111 31 = μ.1 111 31 := ((hp_777 31 (by decide)).trans ((hp_733 31 (by decide)).trans ((hp_686 31 (by decide)).trans ((hp_489 31 (by decide)).trans ((hp_453 31 (by decide)).trans ((hp_406 31 (by decide)).trans ((hp_354 31 (by decide)).trans ((hp_310 31 (by decide)).trans ((hp_265 31 (by decide)).trans ((hp_78 31 (by decide)).trans ((hp_43 31 (by decide)).trans (hp_6 31 (by decide)))))))))))))
        have e_808 : μ774.1 111 32 = μ.1 111 32 := ((hp_777 32 (by decide)).trans ((hp_733 32 (by decide)).trans ((hp_686 32 (by decide)).trans ((hp_489 32 (by decide)).trans ((hp_453 32 (by decide)).trans ((hp_406 32 (by decide)).trans ((hp_354 32 (by decide)).trans ((hp_310 32 (by decide)).trans ((hp_265 32 (by decide)).trans ((hp_78 32 (by decide)).trans ((hp_43 32 (by decide)).trans (hp_6 32 (by decide)))))))))))))
        have e_809 : μ774.1 111 6 = μ731.1 111 6 := (hp_777 6 (by decide))
        have e_810 : wr μ774 = wr μ731 := (wr_cg (hp_777 15 (by decide)))
        have hw_811 := wr_r (μ := μ731)
        have e_812 : bd μ774 = bd μ731 := (bd_cg (hp_777 15 (by decide)) (hp_777 16 (by decide)) (hp_777 17 (by decide)))
        have e_813 : nn μ774 = nn μ731 := (nn_cg (hp_777 15 (by decide)) (hp_777 18 (by decide)))
        have hPM_814 : PM μ774 := hp_734.cg ((((hp_777 4 (by decide)).trans ((hp_733 4 (by decide)).trans ((hp_686 4 (by decide)).trans ((hp_489 4 (by decide)).trans ((hp_453 4 (by decide)).trans ((hp_406 4 (by decide)).trans ((hp_354 4 (by decide)).trans ((hp_310 4 (by decide)).trans ((hp_265 4 (by decide)).trans ((hp_78 4 (by decide)).trans ((hp_43 4 (by decide)).trans (hp_6 4 (by decide)))))))))))))).trans (((hp_733 4 (by decide)).trans ((hp_686 4 (by decide)).trans ((hp_489 4 (by decide)).trans ((hp_453 4 (by decide)).trans ((hp_406 4 (by decide)).trans ((hp_354 4 (by decide)).trans ((hp_310 4 (by decide)).trans ((hp_265 4 (by decide)).trans ((hp_78 4 (by decide)).trans ((hp_43 4 (by decide)).trans (hp_6 4 (by decide))))))))))))).symm) (hp_777 6 (by decide)) ((((hp_777 7 (by decide)).trans ((hp_733 7 (by decide)).trans ((hp_686 7 (by decide)).trans ((hp_489 7 (by decide)).trans ((hp_453 7 (by decide)).trans ((hp_406 7 (by decide)).trans ((hp_354 7 (by decide)).trans ((hp_310 7 (by decide)).trans ((hp_265 7 (by decide)).trans ((hp_78 7 (by decide)).trans ((hp_43 7 (by decide)).trans (hp_6 7 (by decide)))))))))))))).trans (((hp_733 7 (by decide)).trans ((hp_686 7 (by decide)).trans ((hp_489 7 (by decide)).trans ((hp_453 7 (by decide)).trans ((hp_406 7 (by decide)).trans ((hp_354 7 (by decide)).trans ((hp_310 7 (by decide)).trans ((hp_265 7 (by decide)).trans ((hp_78 7 (by decide)).trans ((hp_43 7 (by decide)).trans (hp_6 7 (by decide))))))))))))).symm) (hp_777 8 (by decide)) (hp_777 9 (by decide)) (hp_777 11 (by decide)) (hp_777 12 (by decide)) ((((hp_777 14 (by decide)).trans ((hp_733 14 (by decide)).trans ((hp_686 14 (by decide)).trans ((hp_489 14 (by decide)).trans ((hp_453 14 (by decide)).trans ((hp_406 14 (by decide)).trans ((hp_354 14 (by decide)).trans ((hp_310 14 (by decide)).trans ((hp_265 14 (by decide)).trans ((hp_78 14 (by decide)).trans ((hp_43 14 (by decide)).trans ((hp_6 14 (by decide)).trans htt.symm))))))))))))).trans (((hp_733 14 (by decide)).trans ((hp_686 14 (by decide)).trans ((hp_489 14 (by decide)).trans ((hp_453 14 (by decide)).trans ((hp_406 14 (by decide)).trans ((hp_354 14 (by decide)).trans ((hp_310 14 (by decide)).trans ((hp_265 14 (by decide)).trans ((hp_78 14 (by decide)).trans ((hp_43 14 (by decide)).trans ((hp_6 14 (by decide)).trans htt.symm)))))))))))).symm) (hp_777 15 (by decide)) ((((hp_777 29 (by decide)).trans (hp_733 29 (by decide)))).trans ((hp_733 29 (by decide))).symm) (fun j => (F_776.1 123 (by decide) j))
        exact xr_v G hret hlk dX12_named_120 ⟨(FrM.tr (FrM.tr (FrM.tr (FrM.tr (FrM.tr (FrM.tr (FrM.tr (FrM.tr (FrM.tr (FrM.tr (FrM.tr (FrM.tr FrM.rf F_5 (by decide)) F_42 (by decide)) F_77 (by decide)) F_264 (by decide)) F_309 (by decide)) F_353 (by decide)) F_405 (by decide)) F_452 (by decide)) F_488 (by decide)) F_685 (by decide)) F_732 (by decide)) F_776 (by decide)), (fun j hj => ((hp_777 j (fun h9 => hj ((by decide : ∀ x ∈ ([22] : List Int), x ∈ ([6, 8, 9, 10, 11, 12, 13, 15, 16, 17, 18, 22, 29, 31, 32, 34, 35, 36, 37, 39] : List Int)) j h9))).trans ((hp_733 j (fun h9 => hj ((by decide : ∀ x ∈ ([6, 8, 9, 10, 11, 12, 13, 15] : List Int), x ∈ ([6, 8, 9, 10, 11, 12, 13, 15, 16, 17, 18, 22, 29, 31, 32, 34, 35, 36, 37, 39] : List Int)) j h9))).trans ((hp_686 j (fun h9 => hj ((by decide : ∀ x ∈ ([6, 8, 9, 10, 11, 12, 13, 15, 16, 17, 18, 22, 29, 39] : List Int), x ∈ ([6, 8, 9, 10, 11, 12, 13, 15, 16, 17, 18, 22, 29, 31, 32, 34, 35, 36, 37, 39] : List Int)) j h9))).trans ((hp_489 j (fun h9 => hj ((by decide : ∀ x ∈ ([6, 8, 9, 10, 11, 12, 13, 15] : List Int), x ∈ ([6, 8, 9, 10, 11, 12, 13, 15, 16, 17, 18, 22, 29, 31, 32, 34, 35, 36, 37, 39] : List Int)) j h9))).trans ((hp_453 j (fun h9 => hj ((by decide : ∀ x ∈ ([6, 8, 9, 10, 11, 12, 13, 15, 18] : List Int), x ∈ ([6, 8, 9, 10, 11, 12, 13, 15, 16, 17, 18, 22, 29, 31, 32, 34, 35, 36, 37, 39] : List Int)) j h9))).trans ((hp_406 j (fun h9 => hj ((by decide : ∀ x ∈ ([6, 8, 9, 10, 11, 12, 13, 15, 16, 17, 18, 22, 29, 39] : List Int), x ∈ ([6, 8, 9, 10, 11, 12, 13, 15, 16, 17, 18, 22, 29, 31, 32, 34, 35, 36, 37, 39] : List Int)) j h9))).trans ((hp_354 j (fun h9 => hj ((by decide : ∀ x ∈ ([6, 8, 9, 10, 11, 12, 13, 15, 18] : List Int), x ∈ ([6, 8, 9, 10, 11, 12, 13, 15, 16, 17, 18, 22, 29, 31, 32, 34, 35, 36, 37, 39] : List Int)) j h9))).trans ((hp_310 j (fun h9 => hj ((by decide : ∀ x ∈ ([22] : List Int), x ∈ ([6, 8, 9, 10, 11, 12, 13, 15, 16, 17, 18, 22, 29, 31, 32, 34, 35, 36, 37, 39] : List Int)) j h9))).trans ((hp_265 j (fun h9 => hj ((by decide : ∀ x ∈ ([17] : List Int), x ∈ ([6, 8, 9, 10, 11, 12, 13, 15, 16, 17, 18, 22, 29, 31, 32, 34, 35, 36, 37, 39] : List Int)) j h9))).trans ((hp_78 j (fun h9 => hj ((by decide : ∀ x ∈ ([6, 8, 9, 10, 11, 12, 13, 15] : List Int), x ∈ ([6, 8, 9, 10, 11, 12, 13, 15, 16, 17, 18, 22, 29, 31, 32, 34, 35, 36, 37, 39] : List Int)) j h9))).trans ((hp_43 j (fun h9 => hj ((by decide : ∀ x ∈ ([6, 8, 9, 10, 11, 12, 13, 15] : List Int), x ∈ ([6, 8, 9, 10, 11, 12, 13, 15, 16, 17, 18, 22, 29, 31, 32, 34, 35, 36, 37, 39] : List Int)) j h9))).trans (hp_6 j (fun h9 => hj ((by decide : ∀ x ∈ ([34, 35, 36, 37] : List Int), x ∈ ([6, 8, 9, 10, 11, 12, 13, 15, 16, 17, 18, 22, 29, 31, 32, 34, 35, 36, 37, 39] : List Int)) j h9))))))))))))))), hPM_814, (by (repeat' apply And.intro) <;> omega), (by (repeat' apply And.intro) <;> omega), (by (repeat' apply And.intro) <;> omega), ⟨by omega, (Int.le_trans (Int.le_trans (Int.le_trans (Int.le_trans (Int.le_trans (Int.le_trans (Int.le_trans (Int.le_trans (Int.le_trans (Int.le_trans (Int.le_trans (Int.le_of_eq (bd_cg (hp_6 15 (by decide)) (hp_6 16 (by decide)) (hp_6 17 (by decide))).symm) ((hp_46 ()).2)) ((hp_82 ()).2)) ((hp_268 ()).2)) (Int.le_of_eq (bd_cg (hp_310 15 (by decide)) (hp_310 16 (by decide)) (hp_310 17 (by decide))).symm)) ((hp_358 ()).2)) ((hp_411 ()).2)) ((hp_457 ()).2)) ((hp_493 ()).2)) ((hp_691 ()).2)) ((hp_737 ()).2)) (Int.le_of_eq (bd_cg (hp_777 15 (by decide)) (hp_777 16 (by decide)) (hp_777 17 (by decide))).symm))⟩, (by (repeat' apply And.intro) <;> omega), (by (repeat' apply And.intro) <;> omega), (fun j hj => ((F_776.1 126 (by decide) j).trans ((F_732.1 126 (by decide) j).trans ((hwk_700 j (by omega)).trans ((F_488.1 126 (by decide) j).trans ((F_452.1 126 (by decide) j).trans ((hwk_420 j (by omega)).trans ((F_353.1 126 (by decide) j).trans ((F_309.1 126 (by decide) j).trans ((F_264.1 126 (by decide) j).trans ((F_77.1 126 (by decide) j).trans ((F_42.1 126 (by decide) j).trans (F_5.1 126 (by decide) j))))))))))))), (by (repeat' apply And.intro) <;> omega), (by (repeat' apply And.intro) <;> omega), (fun _ h0 => mEY.ql (hq_295 ()) (as_setc (M := (2 * (9 - nn μ))) ((hS1 () (bd_z (Int.le_trans (Int.le_trans (Int.le_trans (Int.le_trans (Int.le_trans (Int.le_trans (Int.le_trans (Int.le_trans (Int.le_trans (Int.le_trans (Int.le_trans (Int.le_of_eq (bd_cg (hp_6 15 (by decide)) (hp_6 16 (by decide)) (hp_6 17 (by decide))).symm) ((hp_46 ()).2)) ((hp_82 ()).2)) ((hp_268 ()).2)) (Int.le_of_eq (bd_cg (hp_310 15 (by decide)) (hp_310 16 (by decide)) (hp_310 17 (by decide))).symm)) ((hp_358 ()).2)) ((hp_411 ()).2)) ((hp_457 ()).2)) ((hp_493 ()).2)) ((hp_691 ()).2)) ((hp_737 ()).2)) (Int.le_of_eq (bd_cg (hp_777 15 (by decide)) (hp_777 16 (by decide)) (hp_777 17 (by decide))).symm)) h0)).qm (hq_295 ())).s (hp_311.qm (hq_387 ())) (by omega) (by have h9 := hsl_272; have h8 : bd μ262 = 0 := (bd_z (Int.le_trans (Int.le_trans (Int.le_trans (Int.le_trans (Int.le_trans (Int.le_trans (Int.le_trans (Int.le_of_eq (bd_cg (hp_310 15 (by decide)) (hp_310 16 (by decide)) (hp_310 17 (by decide))).symm) ((hp_358 ()).2)) ((hp_411 ()).2)) ((hp_457 ()).2)) ((hp_493 ()).2)) ((hp_691 ()).2)) ((hp_737 ()).2)) (Int.le_of_eq (bd_cg (hp_777 15 (by decide)) (hp_777 16 (by decide)) (hp_777 17 (by decide))).symm)) h0); omega) ((hex_421 () (bd_z (Int.le_trans (Int.le_trans (Int.le_trans (Int.le_trans ((hp_457 ()).2) ((hp_493 ()).2)) ((hp_691 ()).2)) ((hp_737 ()).2)) (Int.le_of_eq (bd_cg (hp_777 15 (by decide)) (hp_777 16 (by decide)) (hp_777 17 (by decide))).symm)) h0)).qm (hq_667 ())) ((hex_701 () (bd_z (Int.le_trans ((hp_737 ()).2) (Int.le_of_eq (bd_cg (hp_777 15 (by decide)) (hp_777 16 (by decide)) (hp_777 17 (by decide))).symm)) h0)).qm (hq_765 ())) (by omega) (by omega) (by omega) hp_778)), hxt_781⟩
  · have hb1_828 : r_76 = 1 := by omega
    replace c_24 := fun _ : Unit => c_24
    refine lv_aload_n hx hb dX12_named_27 rfl (lv_at hl 2 rfl) ?_
    refine lv_iload_n hx hb dX12_named_28 rfl (lv_at hl 1 rfl) ?_
    refine lv_lload_n hx hb dX12_named_29 rfl (lv_at hl 0 rfl) ?_
    have e_829 : μ75.1 111 31 = μ.1 111 31 := ((hp_78 31 (by decide)).trans ((hp_43 31 (by decide)).trans (hp_6 31 (by decide))))
    have hw_832 := wr_r (μ := μ75)
    refine xc_iV G (b := 111) (rest := []) (As := [.int (iv (μ.1 111 9)), .long (jv (μ.1 111 10))]) (c_X12_slot ω l μ75 (μ.1 111 9) (μ.1 111 10) (by unfold ir; exact ⟨by omega, by omega⟩) hj_3 (by (repeat' apply And.intro) <;> omega) (by (repeat' apply And.intro) <;> omega)) (wm 9 171 rfl rfl) (wm 9 173 rfl rfl) (wm 0 155 rfl rfl) rfl rfl (by decide) rfl (wm 1 18 rfl rfl) (wm 9 174 rfl rfl) (by decide) hR ⟨nfB hF (by decide), nlB hLo (by decide)⟩ (n := 2) rfl rfl (Nat.le_of_ble_eq_true rfl) hl.1 dX12_named_30 (fun r_834 μ833 ρ d0 H locs hr_r_834 hp G => ?_)
    have hr_r_834 : -2147483648 ≤ r_834 ∧ r_834 ≤ 2147483647 := hr_r_834
    obtain ⟨F_835, hp_836, hp_837, hp_838, hp_839, hp_840⟩ := hp
    have hw_841 := wr_r (μ := μ833)
    have e_842 : μ833.1 111 31 = μ.1 111 31 := ((hp_836 31 (by decide)).trans ((hp_78 31 (by decide)).trans ((hp_43 31 (by decide)).trans (hp_6 31 (by decide)))))
    have hsl_843 : r_834 < μ833.1 111 31 + 300 * bd μ833 := by omega
    have vl_844 := hp_839
    replace hp_839 := fun _ : Unit => hp_839
    have vl_845 := hp_840
    replace hp_840 := fun _ : Unit => hp_840
    obtain ⟨hv_848, hv_849, hv_850, hv_851, hv_852, hv_853, hv_854, hv_855, hv_856, hv_857, hv_858, hv_859, hv_860, hv_861, hv_862, hv_863, hv_864, hv_865⟩ : μ.1 111 22 ≤ μ.1 111 22 ∧ μ.1 111 22 ≤ μ.1 111 22 + 2 * (μ75.1 111 9 - μ.1 111 9) + 8 * (nn μ75 - nn μ) - 2 + -6 * wr μ75 ∧ μ.1 111 9 + 1 ≤ μ75.1 111 9 ∧ nn μ + 0 ≤ nn μ75 ∧ nn μ75 ≤ nn μ + 0 + 9 * wr μ75 ∧ nn μ75 ≤ 8 + wr μ75 ∧ 9 * wr μ75 ≤ nn μ75 ∧ nn μ75 ≤ 9 ∧ wr μ ≤ wr μ75 ∧ wr μ75 ≤ 1 ∧ wr μ75 ≤ bd μ833 ∧ bd μ833 ≤ 1 ∧ μ.1 111 29 ≤ μ.1 111 29 ∧ μ.1 111 31 ≤ μ.1 111 31 ∧ μ.1 111 31 ≤ 300 ∧ 0 ≤ μ.1 111 32 ∧ μ.1 111 32 ≤ μ75.1 111 9 ∧ μ75.1 111 9 ≤ 3000 := by (repeat' apply And.intro) <;> omega
    clear hv_90 hv_91 hv_92 hv_93 hv_94 hv_95 hv_96 hv_97 hv_98 hv_99 hv_100 hv_101 hv_102 hv_103 hv_104 hv_105 hv_106 hv_107 e_829 hw_832 hw_841 e_842 vl_844 vl_845
    refine lv_istore (lv' := [(4, .int (iv r_834)), (2, .long (jv (μ.1 111 10))), (1, .int (iv (μ.1 111 9))), (0, .ref (oP ω 111))]) hx hb dX12_named_33 hl (by decide) rfl (fun ls hl => ?_)
    refine lv_aload_n hx hb dX12_named_35 rfl (lv_at hl 3 rfl) ?_
    have hq_866 : ∀ _ : Unit, q0m μ μ833 := fun _ => (q0m.fr (K := [111]) (FrM.tr (FrM.tr (FrM.tr (FrM.tr FrM.rf F_5 (by decide)) F_42 (by decide)) F_77 (by decide)) F_835 (by decide)) (by decide) (by decide) (by decide) ((hp_836 22 (by decide)).trans ((hp_78 22 (by decide)).trans ((hp_43 22 (by decide)).trans (hp_6 22 (by decide))))) (nS.le (Int.le_trans (Int.le_trans (Int.le_trans (Int.le_of_eq (hp_6 29 (by decide)).symm) (Int.le_of_eq (hp_43 29 (by decide)).symm)) (Int.le_of_eq (hp_78 29 (by decide)).symm)) (Int.le_of_eq (hp_836 29 (by decide)).symm)) (Int.le_trans (Int.le_trans (Int.le_trans (Int.le_of_eq (hp_6 31 (by decide)).symm) (Int.le_of_eq (hp_43 31 (by decide)).symm)) (Int.le_of_eq (hp_78 31 (by decide)).symm)) (Int.le_of_eq (hp_836 31 (by decide)).symm))))
    have e_867 : wr μ833 = wr μ75 := (wr_cg (hp_836 15 (by decide)))
    have hw_868 := wr_r (μ := μ75)
    have hw_869 := wr_r (μ := μ833)
    have e_870 : nn μ833 = nn μ75 := (nn_cg (hp_836 15 (by decide)) (hp_836 18 (by decide)))
    have hht_871 : ∀ _ : Unit, bd μ833 = 0 → mHt μ833 0 := fun _ h0 => (hht_0 () (bd_z (Int.le_trans (Int.le_trans (Int.le_trans (Int.le_of_eq (bd_cg (hp_6 15 (by decide)) (hp_6 16 (by decide)) (hp_6 17 (by decide))).symm) ((hp_46 ()).2)) ((hp_82 ()).2)) ((hp_839 ()).2)) h0)).qm (hq_866 ())
    have e_872 : μ833.1 111 29 = μ.1 111 29 := ((hp_836 29 (by decide)).trans ((hp_78 29 (by decide)).trans ((hp_43 29 (by decide)).trans (hp_6 29 (by decide)))))
    have hxt_873 : mEXT μ μ833 := (q0m.fr (K := [111]) (FrM.tr (FrM.tr (FrM.tr (FrM.tr FrM.rf F_5 (by decide)) F_42 (by decide)) F_77 (by decide)) F_835 (by decide)) (by decide) (by decide) (by decide) ((hp_836 22 (by decide)).trans ((hp_78 22 (by decide)).trans ((hp_43 22 (by decide)).trans (hp_6 22 (by decide))))) (nS.le (Int.le_trans (Int.le_trans (Int.le_trans (Int.le_of_eq (hp_6 29 (by decide)).symm) (Int.le_of_eq (hp_43 29 (by decide)).symm)) (Int.le_of_eq (hp_78 29 (by decide)).symm)) (Int.le_of_eq (hp_836 29 (by decide)).symm)) (Int.le_trans (Int.le_trans (Int.le_trans (Int.le_of_eq (hp_6 31 (by decide)).symm) (Int.le_of_eq (hp_43 31 (by decide)).symm)) (Int.le_of_eq (hp_78 31 (by decide)).symm)) (Int.le_of_eq (hp_836 31 (by decide)).symm)))).1
    have e_874 : μ833.1 111 14 = tt := ((hp_836 14 (by decide)).trans ((hp_78 14 (by decide)).trans ((hp_43 14 (by decide)).trans ((hp_6 14 (by decide)).trans htt.symm))))
    have hPM_875 : PM μ833 := hp_79.cg ((((hp_836 4 (by decide)).trans ((hp_78 4 (by decide)).trans ((hp_43 4 (by decide)).trans (hp_6 4 (by decide)))))).trans (((hp_78 4 (by decide)).trans ((hp_43 4 (by decide)).trans (hp_6 4 (by decide))))).symm) (hp_836 6 (by decide)) ((((hp_836 7 (by decide)).trans ((hp_78 7 (by decide)).trans ((hp_43 7 (by decide)).trans (hp_6 7 (by decide)))))).trans (((hp_78 7 (by decide)).trans ((hp_43 7 (by decide)).trans (hp_6 7 (by decide))))).symm) (hp_836 8 (by decide)) (hp_836 9 (by decide)) (hp_836 11 (by decide)) (hp_836 12 (by decide)) ((((hp_836 14 (by decide)).trans ((hp_78 14 (by decide)).trans ((hp_43 14 (by decide)).trans ((hp_6 14 (by decide)).trans htt.symm))))).trans (((hp_78 14 (by decide)).trans ((hp_43 14 (by decide)).trans ((hp_6 14 (by decide)).trans htt.symm)))).symm) (hp_836 15 (by decide)) ((((hp_836 29 (by decide)).trans ((hp_78 29 (by decide)).trans ((hp_43 29 (by decide)).trans (hp_6 29 (by decide)))))).trans (((hp_78 29 (by decide)).trans ((hp_43 29 (by decide)).trans (hp_6 29 (by decide))))).symm) (fun j => (F_835.1 123 (by decide) j))
    have e_880 : μ833.1 111 22 = μ.1 111 22 := ((hp_836 22 (by decide)).trans ((hp_78 22 (by decide)).trans ((hp_43 22 (by decide)).trans (hp_6 22 (by decide)))))
    have e_882 : μ833.1 111 9 = μ75.1 111 9 := (hp_836 9 (by decide))
    have e_884 : μ833.1 111 39 = μ.1 111 39 := ((hp_836 39 (by decide)).trans ((hp_78 39 (by decide)).trans ((hp_43 39 (by decide)).trans (hp_6 39 (by decide)))))
    have e_887 : μ833.1 111 31 = μ.1 111 31 := ((hp_836 31 (by decide)).trans ((hp_78 31 (by decide)).trans ((hp_43 31 (by decide)).trans (hp_6 31 (by decide)))))
    refine xc_vV G (b := 111) (rest := []) (As := []) (c_X12_expr_a ω l μ833 tt (by (repeat' apply And.intro) <;> omega) hPM_875 (by (repeat' apply And.intro) <;> omega) (by (repeat' apply And.intro) <;> omega) (by (repeat' apply And.intro) <;> omega) (by (repeat' apply And.intro) <;> omega) (by (repeat' apply And.intro) <;> omega) (fun _ h0 => (hht_871 () h0).p (by decide))) (wm 9 139 rfl rfl) (wm 9 141 rfl rfl) (wm 0 147 rfl rfl) rfl rfl (by decide) rfl (wm 1 18 rfl rfl) (wm 9 142 rfl rfl) (by decide) hR ⟨nfB hF (by decide), nlB hLo (by decide)⟩ (n := 0) rfl rfl (Nat.le_of_ble_eq_true rfl) hl.1 dX12_named_36 (fun μ898 ρ d0 H locs hp G => ?_)
    obtain ⟨F_899, hp_900, hp_901, hp_902, hp_903, hp_904, hp_905, hp_906, hp_907, hp_908, hp_909, hp_910⟩ := hp
    have hpl_911 := hp_901.pl
    have hw_912 := wr_r (μ := μ898)
    have hxt_913 : mEXT μ μ898 := hxt_873.tr hp_910
    have hwk_914 : ∀ j, j < μ.1 111 39 → μ898.1 126 j = μ833.1 126 j := fun j hj => hp_908 j (by omega)
    have hex_915 : ∀ _ : Unit, bd μ898 = 0 → mEX μ833 μ898 tt 1 0 99 := fun _ h0 => (hp_909 () h0).mn (Int.le_refl _) (by omega)
    have hht_916 : ∀ _ : Unit, bd μ898 = 0 → mHt μ898 1 := fun _ h0 => (hht_871 () (bd_z (hp_905.2) h0)).ex (hex_915 () h0) rfl
    have vl_917 := hp_902
    replace hp_902 := fun _ : Unit => hp_902
    have vl_918 := hp_903
    replace hp_903 := fun _ : Unit => hp_903
    have vl_919 := hp_904
    replace hp_904 := fun _ : Unit => hp_904
    have vl_920 := hp_905
    replace hp_905 := fun _ : Unit => hp_905
    have vl_921 := hp_906
    replace hp_906 := fun _ : Unit => hp_906
    have vl_922 := hp_907
    replace hp_907 := fun _ : Unit => hp_907
    have h39_923 : μ898.1 111 39 = μ.1 111 39 := by omega
    obtain ⟨hv_926, hv_927, hv_928, hv_929, hv_930, hv_931, hv_932, hv_933, hv_934, hv_935, hv_936, hv_937, hv_938, hv_939, hv_940, hv_941, hv_942, hv_943⟩ : μ.1 111 22 ≤ μ898.1 111 22 ∧ μ898.1 111 22 ≤ μ.1 111 22 + 2 * (μ898.1 111 9 - μ.1 111 9) + 8 * (nn μ898 - nn μ) - 3 + -5 * wr μ898 ∧ μ.1 111 9 + 1 ≤ μ898.1 111 9 ∧ nn μ + 0 ≤ nn μ898 ∧ nn μ898 ≤ nn μ + 0 + 9 * wr μ898 ∧ nn μ898 ≤ 8 + wr μ898 ∧ 9 * wr μ898 ≤ nn μ898 ∧ nn μ898 ≤ 9 ∧ wr μ ≤ wr μ898 ∧ wr μ898 ≤ 1 ∧ wr μ898 ≤ bd μ898 ∧ bd μ898 ≤ 1 ∧ μ.1 111 29 ≤ μ898.1 111 29 ∧ μ.1 111 31 ≤ μ.1 111 31 ∧ μ.1 111 31 ≤ 300 ∧ 0 ≤ μ.1 111 32 ∧ μ.1 111 32 ≤ μ898.1 111 9 ∧ μ898.1 111 9 ≤ 3000 := by (repeat' apply And.intro) <;> omega
    clear hv_848 hv_849 hv_850 hv_851 hv_852 hv_853 hv_854 hv_855 hv_856 hv_857 hv_858 hv_859 hv_860 hv_861 hv_862 hv_863 hv_864 hv_865 e_867 hw_868 hw_869 e_870 e_872 e_874 e_880 e_882 e_884 e_887 hpl_911 hw_912 vl_917 vl_918 vl_919 vl_920 vl_921 vl_922
    refine lv_aload_n hx hb dX12_named_39 rfl (lv_at hl 3 rfl) ?_
    refine lv_bipush (v := iv 59) hx hb dX12_named_40 rfl ?_
    have hw_944 := wr_r (μ := μ898)
    refine xc_vV G (b := 111) (rest := []) (As := [.int (iv 59)]) (c_X12_wantsSign ω l μ898 59 (by unfold ir; decide) hp_901 (by (repeat' apply And.intro) <;> omega)) (wm 9 114 rfl rfl) (wm 9 116 rfl rfl) (wm 0 141 rfl rfl) rfl rfl (by decide) rfl (wm 1 18 rfl rfl) (wm 9 117 rfl rfl) (by decide) hR ⟨nfB hF (by decide), nlB hLo (by decide)⟩ (n := 1) rfl rfl (Nat.le_of_ble_eq_true rfl) hl.1 dX12_named_42 (fun μ945 ρ d0 H locs hp G => ?_)
    obtain ⟨F_946, hp_947, hp_948, hp_949, hp_950, hp_951, hp_952⟩ := hp
    have hpl_953 := hp_948.pl
    have hw_954 := wr_r (μ := μ945)
    have vl_955 := hp_949
    replace hp_949 := fun _ : Unit => hp_949
    have vl_956 := hp_950
    replace hp_950 := fun _ : Unit => hp_950
    have vl_957 := hp_951
    replace hp_951 := fun _ : Unit => hp_951
    have vl_958 := hp_952
    replace hp_952 := fun _ : Unit => hp_952
    obtain ⟨hv_961, hv_962, hv_963, hv_964, hv_965, hv_966, hv_967, hv_968, hv_969, hv_970, hv_971, hv_972, hv_973, hv_974, hv_975, hv_976, hv_977, hv_978⟩ : μ.1 111 22 ≤ μ898.1 111 22 ∧ μ898.1 111 22 ≤ μ.1 111 22 + 2 * (μ945.1 111 9 - μ.1 111 9) + 8 * (nn μ945 - nn μ) - 5 + -3 * wr μ945 ∧ μ.1 111 9 + 1 ≤ μ945.1 111 9 ∧ nn μ + 0 ≤ nn μ945 ∧ nn μ945 ≤ nn μ + 0 + 9 * wr μ945 ∧ nn μ945 ≤ 8 + wr μ945 ∧ 9 * wr μ945 ≤ nn μ945 ∧ nn μ945 ≤ 9 ∧ wr μ ≤ wr μ945 ∧ wr μ945 ≤ 1 ∧ wr μ945 ≤ bd μ945 ∧ bd μ945 ≤ 1 ∧ μ.1 111 29 ≤ μ898.1 111 29 ∧ μ.1 111 31 ≤ μ.1 111 31 ∧ μ.1 111 31 ≤ 300 ∧ 0 ≤ μ.1 111 32 ∧ μ.1 111 32 ≤ μ945.1 111 9 ∧ μ945.1 111 9 ≤ 3000 := by (repeat' apply And.intro) <;> omega
    clear hv_926 hv_927 hv_928 hv_929 hv_930 hv_931 hv_932 hv_933 hv_934 hv_935 hv_936 hv_937 hv_938 hv_939 hv_940 hv_941 hv_942 hv_943 hw_944 hpl_953 hw_954 vl_955 vl_956 vl_957 vl_958
    refine lv_aload_n hx hb dX12_named_45 rfl (lv_at hl 3 rfl) ?_
    refine lv_iconst (v := iv 4) hx hb dX12_named_46 rfl ?_
    refine lv_iload hx hb dX12_named_47 (lv_at hl 0 rfl) ?_
    refine xb_i2l hx hb (by unfold ir; exact ⟨by omega, by omega⟩) dX12_named_49 ?_
    refine lv_iconst (v := iv 0) hx hb dX12_named_50 rfl ?_
    have hq_979 : ∀ _ : Unit, q0m μ898 μ945 := fun _ => (q0m.fr (K := [111]) (FrM.tr FrM.rf F_946 (by decide)) (by decide) (by decide) (by decide) (hp_947 22 (by decide)) (nS.le (Int.le_of_eq (hp_947 29 (by decide)).symm) (Int.le_of_eq (hp_947 31 (by decide)).symm)))
    have hw_980 := wr_r (μ := μ945)
    have hht_981 : ∀ _ : Unit, bd μ945 = 0 → mHt μ945 1 := fun _ h0 => (hht_916 () (bd_z ((hp_951 ()).2) h0)).qm (hq_979 ())
    have e_982 : μ945.1 111 29 = μ898.1 111 29 := (hp_947 29 (by decide))
    have hxt_983 : mEXT μ μ945 := hxt_913.tr (q0m.fr (K := [111]) (FrM.tr FrM.rf F_946 (by decide)) (by decide) (by decide) (by decide) (hp_947 22 (by decide)) (nS.le (Int.le_of_eq (hp_947 29 (by decide)).symm) (Int.le_of_eq (hp_947 31 (by decide)).symm))).1
    have e_984 : μ945.1 111 22 = μ898.1 111 22 := (hp_947 22 (by decide))
    refine xc_iV G (b := 111) (rest := []) (As := [.int (iv 4), .long (jv r_834), .int (iv 0)]) (c_X12_emit ω l μ945 4 r_834 0 (by unfold ir; decide) (by unfold jr; omega) (by unfold ir; decide) (by (repeat' apply And.intro) <;> omega)) (wm 9 126 rfl rfl) (wm 9 128 rfl rfl) (wm 0 144 rfl rfl) rfl rfl (by decide) rfl (wm 1 18 rfl rfl) (wm 9 129 rfl rfl) (by decide) hR ⟨nfB hF (by decide), nlB hLo (by decide)⟩ (n := 3) rfl rfl (Nat.le_of_ble_eq_true rfl) hl.1 dX12_named_51 (fun r_989 μ988 ρ d0 H locs hr_r_989 hp G => ?_)
    have hr_r_989 : -2147483648 ≤ r_989 ∧ r_989 ≤ 2147483647 := hr_r_989
    obtain ⟨F_990, hp_991, hp_992, hp_993, hp_994⟩ := hp
    have hxt_995 : mEXT μ μ988 := hxt_983.tr hp_992.1
    have hht_996 : ∀ _ : Unit, bd μ988 = 0 → mHt μ988 0 := fun _ h0 => (hht_981 () (bd_z (Int.le_of_eq (bd_cg (hp_991 15 (by decide)) (hp_991 16 (by decide)) (hp_991 17 (by decide))).symm) h0)).ad hp_992 rfl
    have vl_997 := hp_994
    replace hp_994 := fun _ : Unit => hp_994
    obtain ⟨hv_1000, hv_1001, hv_1002, hv_1003, hv_1004, hv_1005, hv_1006, hv_1007, hv_1008, hv_1009, hv_1010, hv_1011, hv_1012, hv_1013, hv_1014, hv_1015, hv_1016, hv_1017⟩ : μ.1 111 22 ≤ μ988.1 111 22 ∧ μ988.1 111 22 ≤ μ.1 111 22 + 2 * (μ945.1 111 9 - μ.1 111 9) + 8 * (nn μ945 - nn μ) - 4 + -3 * wr μ945 ∧ μ.1 111 9 + 1 ≤ μ945.1 111 9 ∧ nn μ + 0 ≤ nn μ945 ∧ nn μ945 ≤ nn μ + 0 + 9 * wr μ945 ∧ nn μ945 ≤ 8 + wr μ945 ∧ 9 * wr μ945 ≤ nn μ945 ∧ nn μ945 ≤ 9 ∧ wr μ ≤ wr μ945 ∧ wr μ945 ≤ 1 ∧ wr μ945 ≤ bd μ945 ∧ bd μ945 ≤ 1 ∧ μ.1 111 29 ≤ μ898.1 111 29 ∧ μ.1 111 31 ≤ μ.1 111 31 ∧ μ.1 111 31 ≤ 300 ∧ 0 ≤ μ.1 111 32 ∧ μ.1 111 32 ≤ μ945.1 111 9 ∧ μ945.1 111 9 ≤ 3000 := by (repeat' apply And.intro) <;> omega
    clear hv_961 hv_962 hv_963 hv_964 hv_965 hv_966 hv_967 hv_968 hv_969 hv_970 hv_971 hv_972 hv_973 hv_974 hv_975 hv_976 hv_977 hv_978 hw_980 e_982 e_984 vl_997
    refine lv_pop hx hb dX12_named_54 rfl ?_
    have e_1018 : μ988.1 111 9 = μ945.1 111 9 := (hp_991 9 (by decide))
    have e_1019 : μ988.1 111 29 = μ898.1 111 29 := ((hp_991 29 (by decide)).trans (hp_947 29 (by decide)))
    have e_1020 : μ988.1 111 39 = μ898.1 111 39 := ((hp_991 39 (by decide)).trans (hp_947 39 (by decide)))
    have e_1021 : μ988.1 111 31 = μ.1 111 31 := ((hp_991 31 (by decide)).trans ((hp_947 31 (by decide)).trans ((hp_900 31 (by decide)).trans ((hp_836 31 (by decide)).trans ((hp_78 31 (by decide)).trans ((hp_43 31 (by decide)).trans (hp_6 31 (by decide))))))))
    have e_1022 : μ988.1 111 32 = μ.1 111 32 := ((hp_991 32 (by decide)).trans ((hp_947 32 (by decide)).trans ((hp_900 32 (by decide)).trans ((hp_836 32 (by decide)).trans ((hp_78 32 (by decide)).trans ((hp_43 32 (by decide)).trans (hp_6 32 (by decide))))))))
    have e_1023 : μ988.1 111 6 = μ945.1 111 6 := (hp_991 6 (by decide))
    have e_1024 : wr μ988 = wr μ945 := (wr_cg (hp_991 15 (by decide)))
    have hw_1025 := wr_r (μ := μ945)
    have e_1026 : bd μ988 = bd μ945 := (bd_cg (hp_991 15 (by decide)) (hp_991 16 (by decide)) (hp_991 17 (by decide)))
    have e_1027 : nn μ988 = nn μ945 := (nn_cg (hp_991 15 (by decide)) (hp_991 18 (by decide)))
    have hPM_1028 : PM μ988 := hp_948.cg ((((hp_991 4 (by decide)).trans ((hp_947 4 (by decide)).trans ((hp_900 4 (by decide)).trans ((hp_836 4 (by decide)).trans ((hp_78 4 (by decide)).trans ((hp_43 4 (by decide)).trans (hp_6 4 (by decide))))))))).trans (((hp_947 4 (by decide)).trans ((hp_900 4 (by decide)).trans ((hp_836 4 (by decide)).trans ((hp_78 4 (by decide)).trans ((hp_43 4 (by decide)).trans (hp_6 4 (by decide)))))))).symm) (hp_991 6 (by decide)) ((((hp_991 7 (by decide)).trans ((hp_947 7 (by decide)).trans ((hp_900 7 (by decide)).trans ((hp_836 7 (by decide)).trans ((hp_78 7 (by decide)).trans ((hp_43 7 (by decide)).trans (hp_6 7 (by decide))))))))).trans (((hp_947 7 (by decide)).trans ((hp_900 7 (by decide)).trans ((hp_836 7 (by decide)).trans ((hp_78 7 (by decide)).trans ((hp_43 7 (by decide)).trans (hp_6 7 (by decide)))))))).symm) (hp_991 8 (by decide)) (hp_991 9 (by decide)) (hp_991 11 (by decide)) (hp_991 12 (by decide)) ((((hp_991 14 (by decide)).trans ((hp_947 14 (by decide)).trans ((hp_900 14 (by decide)).trans ((hp_836 14 (by decide)).trans ((hp_78 14 (by decide)).trans ((hp_43 14 (by decide)).trans ((hp_6 14 (by decide)).trans htt.symm)))))))).trans (((hp_947 14 (by decide)).trans ((hp_900 14 (by decide)).trans ((hp_836 14 (by decide)).trans ((hp_78 14 (by decide)).trans ((hp_43 14 (by decide)).trans ((hp_6 14 (by decide)).trans htt.symm))))))).symm) (hp_991 15 (by decide)) ((((hp_991 29 (by decide)).trans (hp_947 29 (by decide)))).trans ((hp_947 29 (by decide))).symm) (fun j => (F_990.1 123 (by decide) j))
    exact xr_v G hret hlk dX12_named_55 ⟨(FrM.tr (FrM.tr (FrM.tr (FrM.tr (FrM.tr (FrM.tr (FrM.tr FrM.rf F_5 (by decide)) F_42 (by decide)) F_77 (by decide)) F_835 (by decide)) F_899 (by decide)) F_946 (by decide)) F_990 (by decide)), (fun j hj => ((hp_991 j (fun h9 => hj ((by decide : ∀ x ∈ ([22] : List Int), x ∈ ([6, 8, 9, 10, 11, 12, 13, 15, 16, 17, 18, 22, 29, 31, 32, 34, 35, 36, 37, 39] : List Int)) j h9))).trans ((hp_947 j (fun h9 => hj ((by decide : ∀ x ∈ ([6, 8, 9, 10, 11, 12, 13, 15] : List Int), x ∈ ([6, 8, 9, 10, 11, 12, 13, 15, 16, 17, 18, 22, 29, 31, 32, 34, 35, 36, 37, 39] : List Int)) j h9))).trans ((hp_900 j (fun h9 => hj ((by decide : ∀ x ∈ ([6, 8, 9, 10, 11, 12, 13, 15, 16, 17, 18, 22, 29, 39] : List Int), x ∈ ([6, 8, 9, 10, 11, 12, 13, 15, 16, 17, 18, 22, 29, 31, 32, 34, 35, 36, 37, 39] : List Int)) j h9))).trans ((hp_836 j (fun h9 => hj ((by decide : ∀ x ∈ ([17] : List Int), x ∈ ([6, 8, 9, 10, 11, 12, 13, 15, 16, 17, 18, 22, 29, 31, 32, 34, 35, 36, 37, 39] : List Int)) j h9))).trans ((hp_78 j (fun h9 => hj ((by decide : ∀ x ∈ ([6, 8, 9, 10, 11, 12, 13, 15] : List Int), x ∈ ([6, 8, 9, 10, 11, 12, 13, 15, 16, 17, 18, 22, 29, 31, 32, 34, 35, 36, 37, 39] : List Int)) j h9))).trans ((hp_43 j (fun h9 => hj ((by decide : ∀ x ∈ ([6, 8, 9, 10, 11, 12, 13, 15] : List Int), x ∈ ([6, 8, 9, 10, 11, 12, 13, 15, 16, 17, 18, 22, 29, 31, 32, 34, 35, 36, 37, 39] : List Int)) j h9))).trans (hp_6 j (fun h9 => hj ((by decide : ∀ x ∈ ([34, 35, 36, 37] : List Int), x ∈ ([6, 8, 9, 10, 11, 12, 13, 15, 16, 17, 18, 22, 29, 31, 32, 34, 35, 36, 37, 39] : List Int)) j h9)))))))))), hPM_1028, (by (repeat' apply And.intro) <;> omega), (by (repeat' apply And.intro) <;> omega), (by (repeat' apply And.intro) <;> omega), ⟨by omega, (Int.le_trans (Int.le_trans (Int.le_trans (Int.le_trans (Int.le_trans (Int.le_trans (Int.le_of_eq (bd_cg (hp_6 15 (by decide)) (hp_6 16 (by decide)) (hp_6 17 (by decide))).symm) ((hp_46 ()).2)) ((hp_82 ()).2)) ((hp_839 ()).2)) ((hp_905 ()).2)) ((hp_951 ()).2)) (Int.le_of_eq (bd_cg (hp_991 15 (by decide)) (hp_991 16 (by decide)) (hp_991 17 (by decide))).symm))⟩, (by (repeat' apply And.intro) <;> omega), (by (repeat' apply And.intro) <;> omega), (fun j hj => ((F_990.1 126 (by decide) j).trans ((F_946.1 126 (by decide) j).trans ((hwk_914 j (by omega)).trans ((F_835.1 126 (by decide) j).trans ((F_77.1 126 (by decide) j).trans ((F_42.1 126 (by decide) j).trans (F_5.1 126 (by decide) j)))))))), (by (repeat' apply And.intro) <;> omega), (by (repeat' apply And.intro) <;> omega), (fun _ h0 => mEY.ql (hq_866 ()) (as_one (M := (2 * (9 - nn μ))) ((hS1 () (bd_z (Int.le_trans (Int.le_trans (Int.le_trans (Int.le_trans (Int.le_trans (Int.le_trans (Int.le_of_eq (bd_cg (hp_6 15 (by decide)) (hp_6 16 (by decide)) (hp_6 17 (by decide))).symm) ((hp_46 ()).2)) ((hp_82 ()).2)) ((hp_839 ()).2)) ((hp_905 ()).2)) ((hp_951 ()).2)) (Int.le_of_eq (bd_cg (hp_991 15 (by decide)) (hp_991 16 (by decide)) (hp_991 17 (by decide))).symm)) h0)).qm (hq_866 ())).s ((hex_915 () (bd_z (Int.le_trans ((hp_951 ()).2) (Int.le_of_eq (bd_cg (hp_991 15 (by decide)) (hp_991 16 (by decide)) (hp_991 17 (by decide))).symm)) h0)).qm (hq_979 ())) (by omega) (by omega) hp_992 (by unfold mpl; omega) rfl rfl (fun h1 => ⟨fun q => absurd q (by decide), ⟨fun _ => by omega, fun q => absurd q (by decide)⟩, fun _ => by omega, fun q => absurd q (by decide), fun q => absurd q (by decide), fun q => absurd q (by decide), fun q => absurd q (by decide), fun q => absurd q (by decide), fun q => absurd q (by decide), fun q => absurd q (by decide), fun q => absurd q (by decide), fun q => absurd q (by decide), fun q => absurd q (by decide), fun q => absurd q (by decide), fun q => absurd q (by decide), fun q => absurd q (by decide), fun q => absurd q (by decide), fun q => absurd q (by decide), fun q => absurd q (by decide), fun q => absurd q (by decide), fun q => absurd q (by decide), ⟨fun q => absurd q (by decide), fun q => absurd q (by decide), fun q => absurd q (by decide)⟩, ⟨by decide, by decide⟩⟩))), hxt_995⟩
