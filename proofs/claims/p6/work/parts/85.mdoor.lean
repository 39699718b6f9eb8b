abbrev cX12_door : ByteArray := prog_14_method_47_code
def yX12_door : MethodName := ⟨RX12, "door", "(II)V"⟩
abbrev cX12_keeps : ByteArray := prog_14_method_53_code
def yX12_keeps : MethodName := ⟨RX12, "keeps", "()V"⟩
abbrev cX12_goesBack : ByteArray := prog_14_method_54_code
def yX12_goesBack : MethodName := ⟨RX12, "goesBack", "()V"⟩
abbrev cX12_named : ByteArray := prog_14_method_55_code
def yX12_named : MethodName := ⟨RX12, "named", "()V"⟩
theorem dX12_door_0 : decode cX12_door 0 = .ok (.aload_n 0, 1) := by decide +kernel
theorem dX12_door_1 : decode cX12_door 1 = .ok (.invokevirtual 371, 3) := by decide +kernel
theorem dX12_door_4 : decode cX12_door 4 = .ok (.aload_n 0, 1) := by decide +kernel
theorem dX12_door_5 : decode cX12_door 5 = .ok (.bipush 15, 2) := by decide +kernel
theorem dX12_door_7 : decode cX12_door 7 = .ok (.lconst 0, 1) := by decide +kernel
theorem dX12_door_8 : decode cX12_door 8 = .ok (.iconst 0, 1) := by decide +kernel
theorem dX12_door_9 : decode cX12_door 9 = .ok (.invokevirtual 374, 3) := by decide +kernel
theorem dX12_door_12 : decode cX12_door 12 = .ok (.pop, 1) := by decide +kernel
theorem dX12_door_13 : decode cX12_door 13 = .ok (.aload_n 0, 1) := by decide +kernel
theorem dX12_door_14 : decode cX12_door 14 = .ok (.bipush 8, 2) := by decide +kernel
theorem dX12_door_16 : decode cX12_door 16 = .ok (.lconst 0, 1) := by decide +kernel
theorem dX12_door_17 : decode cX12_door 17 = .ok (.iconst 0, 1) := by decide +kernel
theorem dX12_door_18 : decode cX12_door 18 = .ok (.invokevirtual 374, 3) := by decide +kernel
theorem dX12_door_21 : decode cX12_door 21 = .ok (.istore_n 3, 1) := by decide +kernel
theorem dX12_door_22 : decode cX12_door 22 = .ok (.aload_n 0, 1) := by decide +kernel
theorem dX12_door_23 : decode cX12_door 23 = .ok (.iload_n 2, 1) := by decide +kernel
theorem dX12_door_24 : decode cX12_door 24 = .ok (.invokevirtual 349, 3) := by decide +kernel
theorem dX12_door_27 : decode cX12_door 27 = .ok (.aload_n 0, 1) := by decide +kernel
theorem dX12_door_28 : decode cX12_door 28 = .ok (.iload_n 1, 1) := by decide +kernel
theorem dX12_door_29 : decode cX12_door 29 = .ok (.invokevirtual 421, 3) := by decide +kernel
theorem dX12_door_32 : decode cX12_door 32 = .ok (.aload_n 0, 1) := by decide +kernel
theorem dX12_door_33 : decode cX12_door 33 = .ok (.invokevirtual 371, 3) := by decide +kernel
theorem dX12_door_36 : decode cX12_door 36 = .ok (.aload_n 0, 1) := by decide +kernel
theorem dX12_door_37 : decode cX12_door 37 = .ok (.iload_n 3, 1) := by decide +kernel
theorem dX12_door_38 : decode cX12_door 38 = .ok (.invokevirtual 421, 3) := by decide +kernel
theorem dX12_door_41 : decode cX12_door 41 = .ok (.return_, 1) := by decide +kernel
theorem dX12_keeps_0 : decode cX12_keeps 0 = .ok (.aload_n 0, 1) := by decide +kernel
theorem dX12_keeps_1 : decode cX12_keeps 1 = .ok (.aload_n 0, 1) := by decide +kernel
theorem dX12_keeps_2 : decode cX12_keeps 2 = .ok (.getfield 206, 3) := by decide +kernel
theorem dX12_keeps_5 : decode cX12_keeps 5 = .ok (.putfield 432, 3) := by decide +kernel
theorem dX12_keeps_8 : decode cX12_keeps 8 = .ok (.aload_n 0, 1) := by decide +kernel
theorem dX12_keeps_9 : decode cX12_keeps 9 = .ok (.aload_n 0, 1) := by decide +kernel
theorem dX12_keeps_10 : decode cX12_keeps 10 = .ok (.getfield 222, 3) := by decide +kernel
theorem dX12_keeps_13 : decode cX12_keeps 13 = .ok (.putfield 435, 3) := by decide +kernel
theorem dX12_keeps_16 : decode cX12_keeps 16 = .ok (.aload_n 0, 1) := by decide +kernel
theorem dX12_keeps_17 : decode cX12_keeps 17 = .ok (.aload_n 0, 1) := by decide +kernel
theorem dX12_keeps_18 : decode cX12_keeps 18 = .ok (.getfield 245, 3) := by decide +kernel
theorem dX12_keeps_21 : decode cX12_keeps 21 = .ok (.putfield 438, 3) := by decide +kernel
theorem dX12_keeps_24 : decode cX12_keeps 24 = .ok (.aload_n 0, 1) := by decide +kernel
theorem dX12_keeps_25 : decode cX12_keeps 25 = .ok (.aload_n 0, 1) := by decide +kernel
theorem dX12_keeps_26 : decode cX12_keeps 26 = .ok (.getfield 317, 3) := by decide +kernel
theorem dX12_keeps_29 : decode cX12_keeps 29 = .ok (.putfield 441, 3) := by decide +kernel
theorem dX12_keeps_32 : decode cX12_keeps 32 = .ok (.return_, 1) := by decide +kernel
theorem dX12_goesBack_0 : decode cX12_goesBack 0 = .ok (.aload_n 0, 1) := by decide +kernel
theorem dX12_goesBack_1 : decode cX12_goesBack 1 = .ok (.aload_n 0, 1) := by decide +kernel
theorem dX12_goesBack_2 : decode cX12_goesBack 2 = .ok (.getfield 432, 3) := by decide +kernel
theorem dX12_goesBack_5 : decode cX12_goesBack 5 = .ok (.putfield 206, 3) := by decide +kernel
theorem dX12_goesBack_8 : decode cX12_goesBack 8 = .ok (.aload_n 0, 1) := by decide +kernel
theorem dX12_goesBack_9 : decode cX12_goesBack 9 = .ok (.aload_n 0, 1) := by decide +kernel
theorem dX12_goesBack_10 : decode cX12_goesBack 10 = .ok (.getfield 435, 3) := by decide +kernel
theorem dX12_goesBack_13 : decode cX12_goesBack 13 = .ok (.putfield 222, 3) := by decide +kernel
theorem dX12_goesBack_16 : decode cX12_goesBack 16 = .ok (.aload_n 0, 1) := by decide +kernel
theorem dX12_goesBack_17 : decode cX12_goesBack 17 = .ok (.aload_n 0, 1) := by decide +kernel
theorem dX12_goesBack_18 : decode cX12_goesBack 18 = .ok (.getfield 438, 3) := by decide +kernel
theorem dX12_goesBack_21 : decode cX12_goesBack 21 = .ok (.putfield 245, 3) := by decide +kernel
theorem dX12_goesBack_24 : decode cX12_goesBack 24 = .ok (.aload_n 0, 1) := by decide +kernel
theorem dX12_goesBack_25 : decode cX12_goesBack 25 = .ok (.aload_n 0, 1) := by decide +kernel
theorem dX12_goesBack_26 : decode cX12_goesBack 26 = .ok (.getfield 441, 3) := by decide +kernel
theorem dX12_goesBack_29 : decode cX12_goesBack 29 = .ok (.putfield 317, 3) := by decide +kernel
theorem dX12_goesBack_32 : decode cX12_goesBack 32 = .ok (.aload_n 0, 1) := by decide +kernel
theorem dX12_goesBack_33 : decode cX12_goesBack 33 = .ok (.iconst 0, 1) := by decide +kernel
theorem dX12_goesBack_34 : decode cX12_goesBack 34 = .ok (.putfield 225, 3) := by decide +kernel
theorem dX12_goesBack_37 : decode cX12_goesBack 37 = .ok (.return_, 1) := by decide +kernel
theorem dX12_named_0 : decode cX12_named 0 = .ok (.aload_n 0, 1) := by decide +kernel
theorem dX12_named_1 : decode cX12_named 1 = .ok (.getfield 222, 3) := by decide +kernel
theorem dX12_named_4 : decode cX12_named 4 = .ok (.istore_n 1, 1) := by decide +kernel
theorem dX12_named_5 : decode cX12_named 5 = .ok (.aload_n 0, 1) := by decide +kernel
theorem dX12_named_6 : decode cX12_named 6 = .ok (.getfield 245, 3) := by decide +kernel
theorem dX12_named_9 : decode cX12_named 9 = .ok (.lstore_n 2, 1) := by decide +kernel
theorem dX12_named_10 : decode cX12_named 10 = .ok (.aload_n 0, 1) := by decide +kernel
theorem dX12_named_11 : decode cX12_named 11 = .ok (.invokevirtual 444, 3) := by decide +kernel
theorem dX12_named_14 : decode cX12_named 14 = .ok (.aload_n 0, 1) := by decide +kernel
theorem dX12_named_15 : decode cX12_named 15 = .ok (.invokevirtual 295, 3) := by decide +kernel
theorem dX12_named_18 : decode cX12_named 18 = .ok (.aload_n 0, 1) := by decide +kernel
theorem dX12_named_19 : decode cX12_named 19 = .ok (.bipush 61, 2) := by decide +kernel
theorem dX12_named_21 : decode cX12_named 21 = .ok (.invokevirtual 301, 3) := by decide +kernel
theorem dX12_named_24 : decode cX12_named 24 = .ok (.ifCond .eq 32, 3) := by decide +kernel
theorem dX12_named_27 : decode cX12_named 27 = .ok (.aload_n 0, 1) := by decide +kernel
theorem dX12_named_28 : decode cX12_named 28 = .ok (.iload_n 1, 1) := by decide +kernel
theorem dX12_named_29 : decode cX12_named 29 = .ok (.lload_n 2, 1) := by decide +kernel
theorem dX12_named_30 : decode cX12_named 30 = .ok (.invokevirtual 447, 3) := by decide +kernel
theorem dX12_named_33 : decode cX12_named 33 = .ok (.istore 4, 2) := by decide +kernel
theorem dX12_named_35 : decode cX12_named 35 = .ok (.aload_n 0, 1) := by decide +kernel
theorem dX12_named_36 : decode cX12_named 36 = .ok (.invokevirtual 402, 3) := by decide +kernel
theorem dX12_named_39 : decode cX12_named 39 = .ok (.aload_n 0, 1) := by decide +kernel
theorem dX12_named_40 : decode cX12_named 40 = .ok (.bipush 59, 2) := by decide +kernel
theorem dX12_named_42 : decode cX12_named 42 = .ok (.invokevirtual 313, 3) := by decide +kernel
theorem dX12_named_45 : decode cX12_named 45 = .ok (.aload_n 0, 1) := by decide +kernel
theorem dX12_named_46 : decode cX12_named 46 = .ok (.iconst 4, 1) := by decide +kernel
theorem dX12_named_47 : decode cX12_named 47 = .ok (.iload 4, 2) := by decide +kernel
theorem dX12_named_49 : decode cX12_named 49 = .ok (.i2l, 1) := by decide +kernel
theorem dX12_named_50 : decode cX12_named 50 = .ok (.iconst 0, 1) := by decide +kernel
theorem dX12_named_51 : decode cX12_named 51 = .ok (.invokevirtual 374, 3) := by decide +kernel
theorem dX12_named_54 : decode cX12_named 54 = .ok (.pop, 1) := by decide +kernel
theorem dX12_named_55 : decode cX12_named 55 = .ok (.return_, 1) := by decide +kernel
theorem dX12_named_56 : decode cX12_named 56 = .ok (.aload_n 0, 1) := by decide +kernel
theorem dX12_named_57 : decode cX12_named 57 = .ok (.bipush 91, 2) := by decide +kernel
theorem dX12_named_59 : decode cX12_named 59 = .ok (.invokevirtual 292, 3) := by decide +kernel
theorem dX12_named_62 : decode cX12_named 62 = .ok (.ifCond .eq 59, 3) := by decide +kernel
theorem dX12_named_65 : decode cX12_named 65 = .ok (.aload_n 0, 1) := by decide +kernel
theorem dX12_named_66 : decode cX12_named 66 = .ok (.iconst 3, 1) := by decide +kernel
theorem dX12_named_67 : decode cX12_named 67 = .ok (.aload_n 0, 1) := by decide +kernel
theorem dX12_named_68 : decode cX12_named 68 = .ok (.iload_n 1, 1) := by decide +kernel
theorem dX12_named_69 : decode cX12_named 69 = .ok (.lload_n 2, 1) := by decide +kernel
theorem dX12_named_70 : decode cX12_named 70 = .ok (.invokevirtual 447, 3) := by decide +kernel
theorem dX12_named_73 : decode cX12_named 73 = .ok (.i2l, 1) := by decide +kernel
theorem dX12_named_74 : decode cX12_named 74 = .ok (.iconst 0, 1) := by decide +kernel
theorem dX12_named_75 : decode cX12_named 75 = .ok (.invokevirtual 374, 3) := by decide +kernel
theorem dX12_named_78 : decode cX12_named 78 = .ok (.pop, 1) := by decide +kernel
theorem dX12_named_79 : decode cX12_named 79 = .ok (.aload_n 0, 1) := by decide +kernel
theorem dX12_named_80 : decode cX12_named 80 = .ok (.invokevirtual 310, 3) := by decide +kernel
theorem dX12_named_83 : decode cX12_named 83 = .ok (.aload_n 0, 1) := by decide +kernel
theorem dX12_named_84 : decode cX12_named 84 = .ok (.invokevirtual 402, 3) := by decide +kernel
theorem dX12_named_87 : decode cX12_named 87 = .ok (.aload_n 0, 1) := by decide +kernel
theorem dX12_named_88 : decode cX12_named 88 = .ok (.bipush 93, 2) := by decide +kernel
theorem dX12_named_90 : decode cX12_named 90 = .ok (.invokevirtual 387, 3) := by decide +kernel
theorem dX12_named_93 : decode cX12_named 93 = .ok (.aload_n 0, 1) := by decide +kernel
theorem dX12_named_94 : decode cX12_named 94 = .ok (.bipush 61, 2) := by decide +kernel
theorem dX12_named_96 : decode cX12_named 96 = .ok (.invokevirtual 301, 3) := by decide +kernel
theorem dX12_named_99 : decode cX12_named 99 = .ok (.ifCond .eq 22, 3) := by decide +kernel
theorem dX12_named_102 : decode cX12_named 102 = .ok (.aload_n 0, 1) := by decide +kernel
theorem dX12_named_103 : decode cX12_named 103 = .ok (.invokevirtual 402, 3) := by decide +kernel
theorem dX12_named_106 : decode cX12_named 106 = .ok (.aload_n 0, 1) := by decide +kernel
theorem dX12_named_107 : decode cX12_named 107 = .ok (.bipush 59, 2) := by decide +kernel
theorem dX12_named_109 : decode cX12_named 109 = .ok (.invokevirtual 313, 3) := by decide +kernel
theorem dX12_named_112 : decode cX12_named 112 = .ok (.aload_n 0, 1) := by decide +kernel
theorem dX12_named_113 : decode cX12_named 113 = .ok (.iconst 5, 1) := by decide +kernel
theorem dX12_named_114 : decode cX12_named 114 = .ok (.lconst 0, 1) := by decide +kernel
theorem dX12_named_115 : decode cX12_named 115 = .ok (.iconst 0, 1) := by decide +kernel
theorem dX12_named_116 : decode cX12_named 116 = .ok (.invokevirtual 374, 3) := by decide +kernel
theorem dX12_named_119 : decode cX12_named 119 = .ok (.pop, 1) := by decide +kernel
theorem dX12_named_120 : decode cX12_named 120 = .ok (.return_, 1) := by decide +kernel
theorem dX12_named_121 : decode cX12_named 121 = .ok (.aload_n 0, 1) := by decide +kernel
theorem dX12_named_122 : decode cX12_named 122 = .ok (.invokevirtual 215, 3) := by decide +kernel
theorem dX12_named_125 : decode cX12_named 125 = .ok (.ifCond .eq 4, 3) := by decide +kernel
theorem dX12_named_128 : decode cX12_named 128 = .ok (.return_, 1) := by decide +kernel
theorem dX12_named_129 : decode cX12_named 129 = .ok (.aload_n 0, 1) := by decide +kernel
theorem dX12_named_130 : decode cX12_named 130 = .ok (.invokevirtual 450, 3) := by decide +kernel
theorem dX12_named_133 : decode cX12_named 133 = .ok (.aload_n 0, 1) := by decide +kernel
theorem dX12_named_134 : decode cX12_named 134 = .ok (.invokevirtual 408, 3) := by decide +kernel
theorem dX12_named_137 : decode cX12_named 137 = .ok (.return_, 1) := by decide +kernel
theorem mDO.ht {μo μ : M3} {t M q : Int} (h : mDO μo μ t M q) : mHt μ 0 := by
  obtain ⟨o, s, cq, dA, KA, K, a1, a2, a3, a4, a5, a6⟩ := h
  exact ⟨a4.2.2.1.1.1, a4.2.2.1.2.1⟩
set_option maxHeartbeats 4000000 in
set_option maxRecDepth 100000 in
theorem c_X12_keeps (ω : Om) (l : Launch) (μ : M3) : CtV ω l yX12_keeps cX12_keeps 1 0 0 [.ref (oP ω 111)] μ (fun (μ' : M3) => (Fr [111] μ μ') ∧ (∀ j, j ∉ ([34, 35, 36, 37] : List Int) → μ'.1 111 j = μ.1 111 j) ∧ (μ'.1 111 34 = μ.1 111 6) ∧ (μ'.1 111 35 = μ.1 111 9) ∧ (μ'.1 111 37 = μ.1 111 22)) := by
  refine CtV.go (by decide) (Nat.le_of_ble_eq_true rfl) (fun ρ p e s m below meth c R ls G hR hret hlk hl => ?_)
  have hx := G.1.1
  have hb := G.1.2.1
  have hl : lv_has ls 1 [(0, .ref (oP ω 111))] := hl
  generalize s.drawn = d0 at G ⊢
  refine lv_aload_n hx hb dX12_keeps_0 rfl (lv_at hl 0 rfl) ?_
  refine lv_aload_n hx hb dX12_keeps_1 rfl (lv_at hl 0 rfl) ?_
  refine xa_geti G fd_X12 (a := 111) (x := μ.1 111 6) 6 rfl (by decide) rfl (wm 7 155 rfl rfl) ⟨rfl, rfl, rfl⟩ dX12_keeps_2 rfl rfl ?_
  have hr_1 : -2147483648 ≤ μ.1 111 6 ∧ μ.1 111 6 ≤ 2147483647 := by have h9 := G.hr (a := 111) (k := 6) rfl; exact h9
  refine xa_puti G fd_X12 (a := 111) (x := μ.1 111 6) 34 (kz := 34) rfl rfl (by decide) rfl (by unfold ir; omega) (wm 7 183 rfl rfl) ⟨rfl, rfl, rfl, rfl⟩ rfl dX12_keeps_5 rfl (fun H locs G => ?_)
  refine lv_aload_n hx hb dX12_keeps_8 rfl (lv_at hl 0 rfl) ?_
  refine lv_aload_n hx hb dX12_keeps_9 rfl (lv_at hl 0 rfl) ?_
  refine xa_geti G fd_X12 (a := 111) (x := μ.1 111 9) 9 rfl (by decide) rfl (wm 7 158 rfl rfl) ⟨rfl, rfl, rfl⟩ dX12_keeps_10 rfl (sv_n _ (by decide)) ?_
  have hr_2 : -2147483648 ≤ μ.1 111 9 ∧ μ.1 111 9 ≤ 2147483647 := by have h9 := G.hr (a := 111) (k := 9) rfl; rw [show (sv μ 111 34 (μ.1 111 6)).1 111 9 = μ.1 111 9 from (sv_n _ (by decide))] at h9; exact h9
  refine xa_puti G fd_X12 (a := 111) (x := μ.1 111 9) 35 (kz := 35) rfl rfl (by decide) rfl (by unfold ir; omega) (wm 7 184 rfl rfl) ⟨rfl, rfl, rfl, rfl⟩ rfl dX12_keeps_13 rfl (fun H locs G => ?_)
  refine lv_aload_n hx hb dX12_keeps_16 rfl (lv_at hl 0 rfl) ?_
  refine lv_aload_n hx hb dX12_keeps_17 rfl (lv_at hl 0 rfl) ?_
  refine xa_getl G fd_X12 (a := 111) (x := μ.1 111 10) 10 rfl (by decide) rfl (wm 7 159 rfl rfl) ⟨rfl, rfl, rfl⟩ dX12_keeps_18 rfl ((sv_n _ (by decide)).trans (sv_n _ (by decide))) ?_
  have hj_3 : jr (μ.1 111 10) := by have h9 := G.hj (a := 111) (k := 10) rfl; rw [show (sv (sv μ 111 34 (μ.1 111 6)) 111 35 (μ.1 111 9)).1 111 10 = μ.1 111 10 from ((sv_n _ (by decide)).trans (sv_n _ (by decide)))] at h9; exact h9
  refine xa_putl G fd_X12 (a := 111) (x := μ.1 111 10) 36 (kz := 36) rfl rfl (by decide) rfl hj_3 (wm 7 185 rfl rfl) ⟨rfl, rfl, rfl, rfl⟩ rfl dX12_keeps_21 rfl (fun H locs G => ?_)
  refine lv_aload_n hx hb dX12_keeps_24 rfl (lv_at hl 0 rfl) ?_
  refine lv_aload_n hx hb dX12_keeps_25 rfl (lv_at hl 0 rfl) ?_
  refine xa_geti G fd_X12 (a := 111) (x := μ.1 111 22) 22 rfl (by decide) rfl (wm 7 171 rfl rfl) ⟨rfl, rfl, rfl⟩ dX12_keeps_26 rfl ((sv_n _ (by decide)).trans ((sv_n _ (by decide)).trans (sv_n _ (by decide)))) ?_
  have hr_4 : -2147483648 ≤ μ.1 111 22 ∧ μ.1 111 22 ≤ 2147483647 := by have h9 := G.hr (a := 111) (k := 22) rfl; rw [show (sv (sv (sv μ 111 34 (μ.1 111 6)) 111 35 (μ.1 111 9)) 111 36 (μ.1 111 10)).1 111 22 = μ.1 111 22 from ((sv_n _ (by decide)).trans ((sv_n _ (by decide)).trans (sv_n _ (by decide))))] at h9; exact h9
  refine xa_puti G fd_X12 (a := 111) (x := μ.1 111 22) 37 (kz := 37) rfl rfl (by decide) rfl (by unfold ir; omega) (wm 7 186 rfl rfl) ⟨rfl, rfl, rfl, rfl⟩ rfl dX12_keeps_29 rfl (fun H locs G => ?_)
  have e_5 : (sv (sv (sv (sv μ 111 34 (μ.1 111 6)) 111 35 (μ.1 111 9)) 111 36 (μ.1 111 10)) 111 37 (μ.1 111 22)).1 111 34 = μ.1 111 6 := ((sv_n _ (by decide)).trans ((sv_n _ (by decide)).trans ((sv_n _ (by decide)).trans (sv_s _ _ _ _))))
  have e_6 : (sv (sv (sv (sv μ 111 34 (μ.1 111 6)) 111 35 (μ.1 111 9)) 111 36 (μ.1 111 10)) 111 37 (μ.1 111 22)).1 111 35 = μ.1 111 9 := ((sv_n _ (by decide)).trans ((sv_n _ (by decide)).trans (sv_s _ _ _ _)))
  have e_7 : (sv (sv (sv (sv μ 111 34 (μ.1 111 6)) 111 35 (μ.1 111 9)) 111 36 (μ.1 111 10)) 111 37 (μ.1 111 22)).1 111 37 = μ.1 111 22 := (sv_s _ _ _ _)
  exact xr_v G hret hlk dX12_keeps_32 ⟨(Fr.put (Fr.put (Fr.put (Fr.put Fr.rf (by decide)) (by decide)) (by decide)) (by decide)), (fun j hj => ((sv_n _ (fun h9 => hj (by rw [h9.2]; decide))).trans ((sv_n _ (fun h9 => hj (by rw [h9.2]; decide))).trans ((sv_n _ (fun h9 => hj (by rw [h9.2]; decide))).trans (sv_n _ (fun h9 => hj (by rw [h9.2]; decide))))))), (by omega), (by omega), (by omega)⟩

set_option maxHeartbeats 4000000 in
set_option maxRecDepth 100000 in
theorem c_X12_goesBack (ω : Om) (l : Launch) (μ : M3) : CtV ω l yX12_goesBack cX12_goesBack 1 0 0 [.ref (oP ω 111)] μ (fun (μ' : M3) => (Fr [111] μ μ') ∧ (∀ j, j ∉ ([6, 8, 9, 10, 22] : List Int) → μ'.1 111 j = μ.1 111 j) ∧ (μ'.1 111 6 = μ.1 111 34) ∧ (μ'.1 111 9 = μ.1 111 35) ∧ (μ'.1 111 22 = μ.1 111 37) ∧ (μ'.1 111 8 = 0)) := by
  refine CtV.go (by decide) (Nat.le_of_ble_eq_true rfl) (fun ρ p e s m below meth c R ls G hR hret hlk hl => ?_)
  have hx := G.1.1
  have hb := G.1.2.1
  have hl : lv_has ls 1 [(0, .ref (oP ω 111))] := hl
  generalize s.drawn = d0 at G ⊢
  refine lv_aload_n hx hb dX12_goesBack_0 rfl (lv_at hl 0 rfl) ?_
  refine lv_aload_n hx hb dX12_goesBack_1 rfl (lv_at hl 0 rfl) ?_
  refine xa_geti G fd_X12 (a := 111) (x := μ.1 111 34) 34 rfl (by decide) rfl (wm 7 183 rfl rfl) ⟨rfl, rfl, rfl⟩ dX12_goesBack_2 rfl rfl ?_
  have hr_1 : -2147483648 ≤ μ.1 111 34 ∧ μ.1 111 34 ≤ 2147483647 := by have h9 := G.hr (a := 111) (k := 34) rfl; exact h9
  refine xa_puti G fd_X12 (a := 111) (x := μ.1 111 34) 6 (kz := 6) rfl rfl (by decide) rfl (by unfold ir; omega) (wm 7 155 rfl rfl) ⟨rfl, rfl, rfl, rfl⟩ rfl dX12_goesBack_5 rfl (fun H locs G => ?_)
  refine lv_aload_n hx hb dX12_goesBack_8 rfl (lv_at hl 0 rfl) ?_
  refine lv_aload_n hx hb dX12_goesBack_9 rfl (lv_at hl 0 rfl) ?_
  refine xa_geti G fd_X12 (a := 111) (x := μ.1 111 35) 35 rfl (by decide) rfl (wm 7 184 rfl rfl) ⟨rfl, rfl, rfl⟩ dX12_goesBack_10 rfl (sv_n _ (by decide)) ?_
  have hr_2 : -2147483648 ≤ μ.1 111 35 ∧ μ.1 111 35 ≤ 2147483647 := by have h9 := G.hr (a := 111) (k := 35) rfl; rw [show (sv μ 111 6 (μ.1 111 34)).1 111 35 = μ.1 111 35 from (sv_n _ (by decide))] at h9; exact h9
  refine xa_puti G fd_X12 (a := 111) (x := μ.1 111 35) 9 (kz := 9) rfl rfl (by decide) rfl (by unfold ir; omega) (wm 7 158 rfl rfl) ⟨rfl, rfl, rfl, rfl⟩ rfl dX12_goesBack_13 rfl (fun H locs G => ?_)
  refine lv_aload_n hx hb dX12_goesBack_16 rfl (lv_at hl 0 rfl) ?_
  refine lv_aload_n hx hb dX12_goesBack_17 rfl (lv_at hl 0 rfl) ?_
  refine xa_getl G fd_X12 (a := 111) (x := μ.1 111 36) 36 rfl (by decide) rfl (wm 7 185 rfl rfl) ⟨rfl, rfl, rfl⟩ dX12_goesBack_18 rfl ((sv_n _ (by decide)).trans (sv_n _ (by decide))) ?_
  have hj_3 : jr (μ.1 111 36) := by have h9 := G.hj (a := 111) (k := 36) rfl; rw [show (sv (sv μ 111 6 (μ.1 111 34)) 111 9 (μ.1 111 35)).1 111 36 = μ.1 111 36 from ((sv_n _ (by decide)).trans (sv_n _ (by decide)))] at h9; exact h9
  refine xa_putl G fd_X12 (a := 111) (x := μ.1 111 36) 10 (kz := 10) rfl rfl (by decide) rfl hj_3 (wm 7 159 rfl rfl) ⟨rfl, rfl, rfl, rfl⟩ rfl dX12_goesBack_21 rfl (fun H locs G => ?_)
  refine lv_aload_n hx hb dX12_goesBack_24 rfl (lv_at hl 0 rfl) ?_
  refine lv_aload_n hx hb dX12_goesBack_25 rfl (lv_at hl 0 rfl) ?_
  refine xa_geti G fd_X12 (a := 111) (x := μ.1 111 37) 37 rfl (by decide) rfl (wm 7 186 rfl rfl) ⟨rfl, rfl, rfl⟩ dX12_goesBack_26 rfl ((sv_n _ (by decide)).trans ((sv_n _ (by decide)).trans (sv_n _ (by decide)))) ?_
  have hr_4 : -2147483648 ≤ μ.1 111 37 ∧ μ.1 111 37 ≤ 2147483647 := by have h9 := G.hr (a := 111) (k := 37) rfl; rw [show (sv (sv (sv μ 111 6 (μ.1 111 34)) 111 9 (μ.1 111 35)) 111 10 (μ.1 111 36)).1 111 37 = μ.1 111 37 from ((sv_n _ (by decide)).trans ((sv_n _ (by decide)).trans (sv_n _ (by decide))))] at h9; exact h9
  refine xa_puti G fd_X12 (a := 111) (x := μ.1 111 37) 22 (kz := 22) rfl rfl (by decide) rfl (by unfold ir; omega) (wm 7 171 rfl rfl) ⟨rfl, rfl, rfl, rfl⟩ rfl dX12_goesBack_29 rfl (fun H locs G => ?_)
  refine lv_aload_n hx hb dX12_goesBack_32 rfl (lv_at hl 0 rfl) ?_
  refine lv_iconst (v := iv 0) hx hb dX12_goesBack_33 rfl ?_
  refine xa_puti G fd_X12 (a := 111) (x := 0) 8 (kz := 8) rfl rfl (by decide) rfl (by unfold ir; omega) (wm 7 157 rfl rfl) ⟨rfl, rfl, rfl, rfl⟩ rfl dX12_goesBack_34 rfl (fun H locs G => ?_)
  have e_5 : (sv (sv (sv (sv (sv μ 111 6 (μ.1 111 34)) 111 9 (μ.1 111 35)) 111 10 (μ.1 111 36)) 111 22 (μ.1 111 37)) 111 8 0).1 111 6 = μ.1 111 34 := ((sv_n _ (by decide)).trans ((sv_n _ (by decide)).trans ((sv_n _ (by decide)).trans ((sv_n _ (by decide)).trans (sv_s _ _ _ _)))))
  have e_6 : (sv (sv (sv (sv (sv μ 111 6 (μ.1 111 34)) 111 9 (μ.1 111 35)) 111 10 (μ.1 111 36)) 111 22 (μ.1 111 37)) 111 8 0).1 111 9 = μ.1 111 35 := ((sv_n _ (by decide)).trans ((sv_n _ (by decide)).trans ((sv_n _ (by decide)).trans (sv_s _ _ _ _))))
  have e_7 : (sv (sv (sv (sv (sv μ 111 6 (μ.1 111 34)) 111 9 (μ.1 111 35)) 111 10 (μ.1 111 36)) 111 22 (μ.1 111 37)) 111 8 0).1 111 22 = μ.1 111 37 := ((sv_n _ (by decide)).trans (sv_s _ _ _ _))
  have e_8 : (sv (sv (sv (sv (sv μ 111 6 (μ.1 111 34)) 111 9 (μ.1 111 35)) 111 10 (μ.1 111 36)) 111 22 (μ.1 111 37)) 111 8 0).1 111 8 = 0 := (sv_s _ _ _ _)
  exact xr_v G hret hlk dX12_goesBack_37 ⟨(Fr.put (Fr.put (Fr.put (Fr.put (Fr.put Fr.rf (by decide)) (by decide)) (by decide)) (by decide)) (by decide)), (fun j hj => ((sv_n _ (fun h9 => hj (by rw [h9.2]; decide))).trans ((sv_n _ (fun h9 => hj (by rw [h9.2]; decide))).trans ((sv_n _ (fun h9 => hj (by rw [h9.2]; decide))).trans ((sv_n _ (fun h9 => hj (by rw [h9.2]; decide))).trans (sv_n _ (fun h9 => hj (by rw [h9.2]; decide)))))))), (by omega), (by omega), (by omega), (by omega)⟩

set_option maxHeartbeats 4000000 in
set_option maxRecDepth 100000 in
theorem c_X12_door (ω : Om) (l : Launch) (μ : M3) (x1 : Int) (x2 : Int) (F : Nat) (Lo : Nat) (kf : Int) (μo : M3) (μx : M3) (tt : Int) (hx1 : ir x1) (hx2 : ir x2) (htt : tt = μ.1 111 14) (hF : 200 ≤ F) (hLo : 6000 ≤ Lo) (hK : ∀ (μ : M3) (tt : Int) (htt : tt = μ.1 111 14) (hPM : PM μ) (hnn : 0 ≤ nn μ ∧ nn μ ≤ 9 ∧ 9 * wr μ ≤ nn μ) (hn8 : nn μ ≤ 8 + wr μ) (hcd : 0 ≤ μ.1 111 22 ∧ μ.1 111 22 ≤ 2 * μ.1 111 9 + 8 * nn μ + 60) (hW : 0 ≤ μ.1 111 39 ∧ μ.1 111 39 ≤ μ.1 111 22) (hsl : 0 ≤ μ.1 111 31 ∧ μ.1 111 31 ≤ 300) (hvr : 0 ≤ μ.1 111 32 ∧ μ.1 111 32 ≤ μ.1 111 9) (hfu : 0 ≤ (kf - 1) ∧ 8 ≤ nn μ + (kf - 1)) (hS0 : ∀ _ : Unit, bd μ = 0 → mS0 μ), CtV ω l yX12_block cX12_block 1 (F + 0) (Lo + 0) [.ref (oP ω 111)] μ (fun (μ' : M3) => (Fr [111, 113, 115, 116, 117, 123, 124, 126] μ μ') ∧ (∀ j, j ∉ ([6, 8, 9, 10, 11, 12, 13, 15, 16, 17, 18, 22, 29, 31, 32, 34, 35, 36, 37, 39] : List Int) → μ'.1 111 j = μ.1 111 j) ∧ (PM μ') ∧ (μ.1 111 22 ≤ μ'.1 111 22 ∧ μ'.1 111 22 ≤ μ.1 111 22 + 2 * (μ'.1 111 9 - μ.1 111 9) + 8 * (nn μ' - nn μ) + (- 4 - 4 * wr μ' + 8 * wr μ)) ∧ (μ.1 111 9 + 1 ≤ μ'.1 111 9 + wr μ') ∧ (μ.1 111 29 ≤ μ'.1 111 29) ∧ (wr μ ≤ wr μ' ∧ bd μ ≤ bd μ') ∧ (nn μ ≤ nn μ' ∧ nn μ' ≤ nn μ + 9 * wr μ' ∧ nn μ' ≤ 9 ∧ 9 * wr μ' ≤ nn μ') ∧ (μ'.1 111 39 = μ.1 111 39) ∧ (∀ j, j < μ.1 111 39 → μ'.1 126 j = μ.1 126 j) ∧ (μ.1 111 31 ≤ μ'.1 111 31 ∧ μ'.1 111 31 ≤ 300) ∧ (0 ≤ μ'.1 111 32 ∧ μ'.1 111 32 ≤ μ'.1 111 9) ∧ (∀ _ : Unit, bd μ' = 0 → mEX μ μ' tt 0 (2 * (8 - nn μ)) 101) ∧ (mEXT μ μ'))) (hPM : PM μ) (hnn : 0 ≤ nn μ ∧ nn μ ≤ 9 ∧ 9 * wr μ ≤ nn μ) (hn8 : nn μ ≤ 8 + wr μ) (hcd : 0 ≤ μ.1 111 22 ∧ μ.1 111 22 ≤ 2 * μ.1 111 9 + 8 * nn μ + 58) (hW : 0 ≤ μ.1 111 39 ∧ μ.1 111 39 ≤ μ.1 111 22) (hsl : 0 ≤ μ.1 111 31 ∧ μ.1 111 31 ≤ 300) (hvr : 0 ≤ μ.1 111 32 ∧ μ.1 111 32 ≤ μ.1 111 9) (hfu : 1 ≤ kf ∧ 9 ≤ nn μ + kf) (hDO : ∀ _ : Unit, bd μ = 0 → mDO μo μ tt (2 * (8 - nn μ)) x1) (hxo : mEXT μx μ) (hxk : μx.1 111 22 ≤ x1) (hqk : 0 ≤ x1 ∧ x1 < μ.1 111 22) : CtV ω l yX12_door cX12_door 4 (F + 1) (Lo + 20) [.ref (oP ω 111), .int (iv x1), .int (iv x2)] μ (fun (μ' : M3) => (Fr [111, 113, 115, 116, 117, 123, 124, 126] μ μ') ∧ (∀ j, j ∉ ([6, 8, 9, 10, 11, 12, 13, 15, 16, 17, 18, 22, 29, 31, 32, 34, 35, 36, 37, 39] : List Int) → μ'.1 111 j = μ.1 111 j) ∧ (PM μ') ∧ (μ.1 111 22 ≤ μ'.1 111 22 ∧ μ'.1 111 22 ≤ μ.1 111 22 + 2 * (μ'.1 111 9 - μ.1 111 9) + 8 * (nn μ' - nn μ) + (- 8 + 2 * wr μ' + 8 * wr μ)) ∧ (μ.1 111 9 + 1 ≤ μ'.1 111 9 + wr μ') ∧ (μ.1 111 29 ≤ μ'.1 111 29) ∧ (wr μ ≤ wr μ' ∧ bd μ ≤ bd μ') ∧ (nn μ ≤ nn μ' ∧ nn μ' ≤ nn μ + 9 * wr μ' ∧ nn μ' ≤ 9 ∧ 9 * wr μ' ≤ nn μ') ∧ (μ'.1 111 39 = μ.1 111 39) ∧ (∀ j, j < μ.1 111 39 → μ'.1 126 j = μ.1 126 j) ∧ (μ.1 111 31 ≤ μ'.1 111 31 ∧ μ'.1 111 31 ≤ 300) ∧ (0 ≤ μ'.1 111 32 ∧ μ'.1 111 32 ≤ μ'.1 111 9) ∧ (∀ _ : Unit, bd μ' = 0 → mEY μo μ' tt (2 * (8 - nn μ) + 1)) ∧ (mEXT μx μ')) := by
  refine CtV.go (by decide) (Nat.le_of_ble_eq_true rfl) (fun ρ p e s m below meth c R ls G hR hret hlk hl => ?_)
  have hx := G.1.1
  have hb := G.1.2.1
  have hl : lv_has ls 4 [(0, .ref (oP ω 111)), (1, .int (iv x1)), (2, .int (iv x2))] := hl
  generalize s.drawn = d0 at G ⊢
  have hr_x1 : -2147483648 ≤ x1 ∧ x1 ≤ 2147483647 := hx1
  have hr_x2 : -2147483648 ≤ x2 ∧ x2 ≤ 2147483647 := hx2
  have hw_0 := wr_r (μ := μ)
  have hpp_ := hPM.1.2.1
  have hpn_ := hPM.2.1
  have hpt_ := hPM.1.2.2.2.1
  have hpw_ := hPM.1.2.2.2.2.1
  have hpa_ := hPM.1.1
  have hps_x1 : μx.1 111 22 ≤ x1 := hxk
  have hxl_ := hxo.1
  have hht_0 : ∀ _ : Unit, bd μ = 0 → mHt μ 0 := fun _ h0 => (hDO () h0).ht
  refine lv_aload_n hx hb dX12_door_0 rfl (lv_at hl 0 rfl) ?_
  have e_1 : μ.1 111 14 = tt := htt.symm
  refine xc_vV G (b := 111) (rest := []) (As := []) (((fun (_ : Om) (_ : Launch) => hK)) ω l μ tt (by (repeat' apply And.intro) <;> omega) hPM (by (repeat' apply And.intro) <;> omega) (by (repeat' apply And.intro) <;> omega) (by (repeat' apply And.intro) <;> omega) (by (repeat' apply And.intro) <;> omega) (by (repeat' apply And.intro) <;> omega) (by (repeat' apply And.intro) <;> omega) (by (repeat' apply And.intro) <;> omega) (fun _ h0 => (hht_0 () h0).s)) (wm 9 118 rfl rfl) (wm 9 120 rfl rfl) (wm 0 142 rfl rfl) rfl rfl (by decide) rfl (wm 1 18 rfl rfl) (wm 9 121 rfl rfl) (by decide) hR ⟨sfr (F := F) (a := 0) (by decide), slo (L := Lo) (m := 1) (a := 0) (by decide)⟩ (n := 0) rfl rfl (Nat.le_of_ble_eq_true rfl) hl.1 dX12_door_1 (fun μ2 ρ d0 H locs hp G => ?_)
  obtain ⟨F_3, hp_4, hp_5, hp_6, hp_7, hp_8, hp_9, hp_10, hp_11, hp_12, hp_13, hp_14, hp_15, hp_16⟩ := hp
  have hpl_17 := hp_5.pl
  have hw_18 := wr_r (μ := μ2)
  have hxt_19 : mEXT μx μ2 := hxo.tr hp_16
  have hwk_20 : ∀ j, j < μ.1 111 39 → μ2.1 126 j = μ.1 126 j := fun j hj => hp_12 j (by omega)
  have hex_21 : ∀ _ : Unit, bd μ2 = 0 → mEX μ μ2 tt 0 (2 * (8 - nn μ)) 101 := fun _ h0 => (hp_15 () h0).mn (by omega) (Int.le_refl _)
  have hht_22 : ∀ _ : Unit, bd μ2 = 0 → mHt μ2 0 := fun _ h0 => (hht_0 () (bd_z (hp_9.2) h0)).ex (hex_21 () h0) rfl
  have vl_23 := hp_6
  replace hp_6 := fun _ : Unit => hp_6
  have vl_24 := hp_7
  replace hp_7 := fun _ : Unit => hp_7
  have vl_25 := hp_8
  replace hp_8 := fun _ : Unit => hp_8
  have vl_26 := hp_9
  replace hp_9 := fun _ : Unit => hp_9
  have vl_27 := hp_10
  replace hp_10 := fun _ : Unit => hp_10
  have vl_28 := hp_11
  replace hp_11 := fun _ : Unit => hp_11
  have vl_29 := hp_13
  replace hp_13 := fun _ : Unit => hp_13
  have vl_30 := hp_14
  replace hp_14 := fun _ : Unit => hp_14
  have h39_31 : μ2.1 111 39 = μ.1 111 39 := by omega
  obtain ⟨hv_34, hv_35, hv_36, hv_37, hv_38, hv_39, hv_40, hv_41, hv_42, hv_43, hv_44, hv_45, hv_46, hv_47, hv_48, hv_49, hv_50, hv_51, hv_52, hv_53⟩ : μ.1 111 22 ≤ μ2.1 111 22 ∧ μ2.1 111 22 ≤ μ.1 111 22 + 2 * (μ2.1 111 9 - μ.1 111 9) + 8 * (nn μ2 - nn μ) - 4 + -4 * wr μ2 + 8 * wr μ ∧ μ.1 111 9 + 0 ≤ μ2.1 111 9 ∧ μ.1 111 9 + 1 ≤ μ2.1 111 9 + wr μ2 ∧ nn μ + 0 ≤ nn μ2 + 0 * wr μ ∧ nn μ2 ≤ nn μ + 0 + 9 * wr μ2 ∧ nn μ2 ≤ 8 + wr μ2 ∧ 9 * wr μ2 ≤ nn μ2 ∧ nn μ2 ≤ 9 ∧ wr μ ≤ wr μ2 ∧ wr μ2 ≤ 1 ∧ wr μ2 ≤ bd μ2 ∧ bd μ2 ≤ 1 ∧ x1 + 1 ≤ μ2.1 111 22 ∧ μ.1 111 29 ≤ μ2.1 111 29 ∧ μ.1 111 31 ≤ μ2.1 111 31 ∧ μ2.1 111 31 ≤ 300 ∧ 0 ≤ μ2.1 111 32 ∧ μ2.1 111 32 ≤ μ2.1 111 9 ∧ μ2.1 111 9 ≤ 3000 := by (repeat' apply And.intro) <;> omega
  clear e_1 hpl_17 hw_18 vl_23 vl_24 vl_25 vl_26 vl_27 vl_28 vl_29 vl_30
  refine lv_aload_n hx hb dX12_door_4 rfl (lv_at hl 0 rfl) ?_
  refine lv_bipush (v := iv 15) hx hb dX12_door_5 rfl ?_
  refine lv_lconst (v := jv 0) hx hb dX12_door_7 rfl ?_
  refine lv_iconst (v := iv 0) hx hb dX12_door_8 rfl ?_
  refine xc_iV G (b := 111) (rest := []) (As := [.int (iv 15), .long (jv 0), .int (iv 0)]) (c_X12_emit ω l μ2 15 0 0 (by unfold ir; decide) (by unfold jr; omega) (by unfold ir; decide) (by (repeat' apply And.intro) <;> omega)) (wm 9 126 rfl rfl) (wm 9 128 rfl rfl) (wm 0 144 rfl rfl) rfl rfl (by decide) rfl (wm 1 18 rfl rfl) (wm 9 129 rfl rfl) (by decide) hR ⟨nfB hF (by decide), nlB hLo (by decide)⟩ (n := 3) rfl rfl (Nat.le_of_ble_eq_true rfl) hl.1 dX12_door_9 (fun r_55 μ54 ρ d0 H locs hr_r_55 hp G => ?_)
  have hr_r_55 : -2147483648 ≤ r_55 ∧ r_55 ≤ 2147483647 := hr_r_55
  obtain ⟨F_56, hp_57, hp_58, hp_59, hp_60⟩ := hp
  have hxt_61 : mEXT μx μ54 := hxt_19.tr hp_58.1
  have hht_62 : ∀ _ : Unit, bd μ54 = 0 → mHt μ54 0 := fun _ h0 => (hht_22 () (bd_z (Int.le_of_eq (bd_cg (hp_57 15 (by decide)) (hp_57 16 (by decide))).symm) h0)).ad hp_58 rfl
  have vl_63 := hp_60
  replace hp_60 := fun _ : Unit => hp_60
  have hw_64 := wr_r (μ := μ2)
  obtain ⟨hv_66, hv_67, hv_68, hv_69, hv_70, hv_71, hv_72, hv_73, hv_74, hv_75, hv_76, hv_77, hv_78, hv_79, hv_80, hv_81, hv_82, hv_83, hv_84, hv_85⟩ : μ.1 111 22 ≤ μ54.1 111 22 ∧ μ54.1 111 22 ≤ μ.1 111 22 + 2 * (μ2.1 111 9 - μ.1 111 9) + 8 * (nn μ2 - nn μ) - 3 + -4 * wr μ2 + 8 * wr μ ∧ μ.1 111 9 + 0 ≤ μ2.1 111 9 ∧ μ.1 111 9 + 1 ≤ μ2.1 111 9 + wr μ2 ∧ nn μ + 0 ≤ nn μ2 + 0 * wr μ ∧ nn μ2 ≤ nn μ + 0 + 9 * wr μ2 ∧ nn μ2 ≤ 8 + wr μ2 ∧ 9 * wr μ2 ≤ nn μ2 ∧ nn μ2 ≤ 9 ∧ wr μ ≤ wr μ2 ∧ wr μ2 ≤ 1 ∧ wr μ2 ≤ bd μ2 ∧ bd μ2 ≤ 1 ∧ x1 + 1 ≤ μ54.1 111 22 ∧ μ.1 111 29 ≤ μ2.1 111 29 ∧ μ.1 111 31 ≤ μ2.1 111 31 ∧ μ2.1 111 31 ≤ 300 ∧ 0 ≤ μ2.1 111 32 ∧ μ2.1 111 32 ≤ μ2.1 111 9 ∧ μ2.1 111 9 ≤ 3000 := by (repeat' apply And.intro) <;> omega
  clear hv_34 hv_35 hv_36 hv_37 hv_38 hv_39 hv_40 hv_41 hv_42 hv_43 hv_44 hv_45 hv_46 hv_47 hv_48 hv_49 hv_50 hv_51 hv_52 hv_53 vl_63 hw_64
  refine lv_pop hx hb dX12_door_12 rfl ?_
  refine lv_aload_n hx hb dX12_door_13 rfl (lv_at hl 0 rfl) ?_
  refine lv_bipush (v := iv 8) hx hb dX12_door_14 rfl ?_
  refine lv_lconst (v := jv 0) hx hb dX12_door_16 rfl ?_
  refine lv_iconst (v := iv 0) hx hb dX12_door_17 rfl ?_
  have e_86 : μ54.1 111 29 = μ2.1 111 29 := (hp_57 29 (by decide))
  refine xc_iV G (b := 111) (rest := []) (As := [.int (iv 8), .long (jv 0), .int (iv 0)]) (c_X12_emit ω l μ54 8 0 0 (by unfold ir; decide) (by unfold jr; omega) (by unfold ir; decide) (by (repeat' apply And.intro) <;> omega)) (wm 9 126 rfl rfl) (wm 9 128 rfl rfl) (wm 0 144 rfl rfl) rfl rfl (by decide) rfl (wm 1 18 rfl rfl) (wm 9 129 rfl rfl) (by decide) hR ⟨nfB hF (by decide), nlB hLo (by decide)⟩ (n := 3) rfl rfl (Nat.le_of_ble_eq_true rfl) hl.1 dX12_door_18 (fun r_88 μ87 ρ d0 H locs hr_r_88 hp G => ?_)
  have hr_r_88 : -2147483648 ≤ r_88 ∧ r_88 ≤ 2147483647 := hr_r_88
  obtain ⟨F_89, hp_90, hp_91, hp_92, hp_93⟩ := hp
  have hxt_94 : mEXT μx μ87 := hxt_61.tr hp_91.1
  have hht_95 : ∀ _ : Unit, bd μ87 = 0 → mHt μ87 0 := fun _ h0 => (hht_62 () (bd_z (Int.le_of_eq (bd_cg (hp_90 15 (by decide)) (hp_90 16 (by decide))).symm) h0)).ad hp_91 rfl
  have hps_r_88 : μ.1 111 22 ≤ r_88 := by omega
  have vl_96 := hp_93
  replace hp_93 := fun _ : Unit => hp_93
  have hw_97 := wr_r (μ := μ2)
  obtain ⟨hv_99, hv_100, hv_101, hv_102, hv_103, hv_104, hv_105, hv_106, hv_107, hv_108, hv_109, hv_110, hv_111, hv_112, hv_113, hv_114, hv_115, hv_116, hv_117, hv_118, hv_119⟩ : μ.1 111 22 ≤ μ87.1 111 22 ∧ μ87.1 111 22 ≤ μ.1 111 22 + 2 * (μ2.1 111 9 - μ.1 111 9) + 8 * (nn μ2 - nn μ) - 2 + -4 * wr μ2 + 8 * wr μ ∧ μ.1 111 9 + 0 ≤ μ2.1 111 9 ∧ μ.1 111 9 + 1 ≤ μ2.1 111 9 + wr μ2 ∧ nn μ + 0 ≤ nn μ2 + 0 * wr μ ∧ nn μ2 ≤ nn μ + 0 + 9 * wr μ2 ∧ nn μ2 ≤ 8 + wr μ2 ∧ 9 * wr μ2 ≤ nn μ2 ∧ nn μ2 ≤ 9 ∧ wr μ ≤ wr μ2 ∧ wr μ2 ≤ 1 ∧ wr μ2 ≤ bd μ2 ∧ bd μ2 ≤ 1 ∧ x1 + 1 ≤ μ87.1 111 22 ∧ r_88 + 1 ≤ μ87.1 111 22 ∧ μ.1 111 29 ≤ μ2.1 111 29 ∧ μ.1 111 31 ≤ μ2.1 111 31 ∧ μ2.1 111 31 ≤ 300 ∧ 0 ≤ μ2.1 111 32 ∧ μ2.1 111 32 ≤ μ2.1 111 9 ∧ μ2.1 111 9 ≤ 3000 := by (repeat' apply And.intro) <;> omega
  clear hv_66 hv_67 hv_68 hv_69 hv_70 hv_71 hv_72 hv_73 hv_74 hv_75 hv_76 hv_77 hv_78 hv_79 hv_80 hv_81 hv_82 hv_83 hv_84 hv_85 e_86 vl_96 hw_97
  refine lv_istore_n (lv' := [(3, .int (iv r_88)), (0, .ref (oP ω 111)), (1, .int (iv x1)), (2, .int (iv x2))]) hx hb dX12_door_21 rfl hl (by decide) rfl (fun ls hl => ?_)
  refine lv_aload_n hx hb dX12_door_22 rfl (lv_at hl 1 rfl) ?_
  refine lv_iload_n hx hb dX12_door_23 rfl (lv_at hl 3 rfl) ?_
  have hPM_120 : PM μ87 := hp_5.cg ((((hp_90 4 (by decide)).trans ((hp_57 4 (by decide)).trans (hp_4 4 (by decide))))).trans ((hp_4 4 (by decide))).symm) ((hp_90 6 (by decide)).trans (hp_57 6 (by decide))) ((((hp_90 7 (by decide)).trans ((hp_57 7 (by decide)).trans (hp_4 7 (by decide))))).trans ((hp_4 7 (by decide))).symm) ((hp_90 8 (by decide)).trans (hp_57 8 (by decide))) ((hp_90 9 (by decide)).trans (hp_57 9 (by decide))) ((hp_90 11 (by decide)).trans (hp_57 11 (by decide))) ((hp_90 12 (by decide)).trans (hp_57 12 (by decide))) ((((hp_90 14 (by decide)).trans ((hp_57 14 (by decide)).trans ((hp_4 14 (by decide)).trans htt.symm)))).trans (((hp_4 14 (by decide)).trans htt.symm)).symm) ((hp_90 15 (by decide)).trans (hp_57 15 (by decide))) ((hp_90 29 (by decide)).trans (hp_57 29 (by decide))) (fun j => ((F_89.1 123 (by decide) j).trans (F_56.1 123 (by decide) j)))
  have e_121 : wr μ87 = wr μ2 := ((wr_cg (hp_90 15 (by decide))).trans (wr_cg (hp_57 15 (by decide))))
  have hw_122 := wr_r (μ := μ2)
  have e_123 : nn μ87 = nn μ2 := ((nn_cg (hp_90 15 (by decide)) (hp_90 18 (by decide))).trans (nn_cg (hp_57 15 (by decide)) (hp_57 18 (by decide))))
  have e_124 : μ87.1 111 9 = μ2.1 111 9 := ((hp_90 9 (by decide)).trans (hp_57 9 (by decide)))
  have e_127 : bd μ87 = bd μ2 := ((bd_cg (hp_90 15 (by decide)) (hp_90 16 (by decide))).trans (bd_cg (hp_57 15 (by decide)) (hp_57 16 (by decide))))
  refine xc_vV G (b := 111) (rest := []) (As := [.int (iv x2)]) (c_X12_wantsWord ω l μ87 x2 (by unfold ir; exact ⟨by omega, by omega⟩) hPM_120 (by (repeat' apply And.intro) <;> omega)) (wm 10 27 rfl rfl) (wm 10 29 rfl rfl) (wm 0 178 rfl rfl) rfl rfl (by decide) rfl (wm 1 18 rfl rfl) (wm 10 30 rfl rfl) (by decide) hR ⟨nfB hF (by decide), nlB hLo (by decide)⟩ (n := 1) rfl rfl (Nat.le_of_ble_eq_true rfl) hl.1 dX12_door_24 (fun μ129 ρ d0 H locs hp G => ?_)
  obtain ⟨F_130, hp_131, hp_132, hp_133, hp_134, hp_135, hp_136⟩ := hp
  have hpl_137 := hp_132.pl
  have hw_138 := wr_r (μ := μ129)
  have hw_139 := wr_r (μ := μ87)
  have vl_140 := hp_133
  replace hp_133 := fun _ : Unit => hp_133
  have vl_141 := hp_134
  replace hp_134 := fun _ : Unit => hp_134
  have vl_142 := hp_135
  replace hp_135 := fun _ : Unit => hp_135
  have vl_143 := hp_136
  replace hp_136 := fun _ : Unit => hp_136
  obtain ⟨hv_146, hv_147, hv_148, hv_149, hv_150, hv_151, hv_152, hv_153, hv_154, hv_155, hv_156, hv_157, hv_158, hv_159, hv_160, hv_161, hv_162, hv_163, hv_164, hv_165, hv_166⟩ : μ.1 111 22 ≤ μ87.1 111 22 ∧ μ87.1 111 22 ≤ μ.1 111 22 + 2 * (μ129.1 111 9 - μ.1 111 9) + 8 * (nn μ129 - nn μ) - 4 + -2 * wr μ129 + 8 * wr μ ∧ μ.1 111 9 + 0 ≤ μ129.1 111 9 ∧ μ.1 111 9 + 1 ≤ μ129.1 111 9 + wr μ129 ∧ nn μ + 0 ≤ nn μ129 + 0 * wr μ ∧ nn μ129 ≤ nn μ + 0 + 9 * wr μ129 ∧ nn μ129 ≤ 8 + wr μ129 ∧ 9 * wr μ129 ≤ nn μ129 ∧ nn μ129 ≤ 9 ∧ wr μ ≤ wr μ129 ∧ wr μ129 ≤ 1 ∧ wr μ129 ≤ bd μ129 ∧ bd μ129 ≤ 1 ∧ x1 + 1 ≤ μ87.1 111 22 ∧ r_88 + 1 ≤ μ87.1 111 22 ∧ μ.1 111 29 ≤ μ2.1 111 29 ∧ μ.1 111 31 ≤ μ2.1 111 31 ∧ μ2.1 111 31 ≤ 300 ∧ 0 ≤ μ2.1 111 32 ∧ μ2.1 111 32 ≤ μ129.1 111 9 ∧ μ129.1 111 9 ≤ 3000 := by (repeat' apply And.intro) <;> omega
  clear hv_99 hv_100 hv_101 hv_102 hv_103 hv_104 hv_105 hv_106 hv_107 hv_108 hv_109 hv_110 hv_111 hv_112 hv_113 hv_114 hv_115 hv_116 hv_117 hv_118 hv_119 e_121 hw_122 e_123 e_124 e_127 hpl_137 hw_138 hw_139 vl_140 vl_141 vl_142 vl_143
  refine lv_aload_n hx hb dX12_door_27 rfl (lv_at hl 1 rfl) ?_
  refine lv_iload_n hx hb dX12_door_28 rfl (lv_at hl 2 rfl) ?_
  have hq_167 : ∀ _ : Unit, q0m μ87 μ129 := fun _ => (q0m.fr (K := [111]) (Fr.tr Fr.rf F_130 (by decide)) (by decide) (by decide) (by decide) (hp_131 22 (by decide)) (Int.le_of_eq (hp_131 29 (by decide)).symm))
  have hw_168 := wr_r (μ := μ129)
  have hht_169 : ∀ _ : Unit, bd μ129 = 0 → mHt μ129 0 := fun _ h0 => (hht_95 () (bd_z ((hp_135 ()).2) h0)).qm (hq_167 ())
  have e_170 : μ129.1 111 29 = μ2.1 111 29 := ((hp_131 29 (by decide)).trans ((hp_90 29 (by decide)).trans (hp_57 29 (by decide))))
  have hxt_171 : mEXT μx μ129 := hxt_94.tr (q0m.fr (K := [111]) (Fr.tr Fr.rf F_130 (by decide)) (by decide) (by decide) (by decide) (hp_131 22 (by decide)) (Int.le_of_eq (hp_131 29 (by decide)).symm)).1
  have e_172 : μ129.1 111 22 = μ87.1 111 22 := (hp_131 22 (by decide))
  refine xc_vV G (b := 111) (rest := []) (As := [.int (iv x1)]) (c_X12_lands ω l μ129 x1 (by unfold ir; exact ⟨by omega, by omega⟩) (by (repeat' apply And.intro) <;> omega) (by (repeat' apply And.intro) <;> omega)) (wm 9 167 rfl rfl) (wm 9 169 rfl rfl) (wm 0 154 rfl rfl) rfl rfl (by decide) rfl (wm 1 18 rfl rfl) (wm 9 170 rfl rfl) (by decide) hR ⟨nfB hF (by decide), nlB hLo (by decide)⟩ (n := 1) rfl rfl (Nat.le_of_ble_eq_true rfl) hl.1 dX12_door_29 (fun μ176 ρ d0 H locs hp G => ?_)
  obtain ⟨F_177, hp_178⟩ := hp
  have hxt_179 : mEXT μx μ176 := hxt_171.mf hp_178 (by omega)
  have hht_180 : ∀ _ : Unit, bd μ176 = 0 → mHt μ176 0 := fun _ h0 => (hht_169 () (bd_z (Int.le_of_eq (bd_cg (F_177.1 111 (by decide) 15) (F_177.1 111 (by decide) 16)).symm) h0)).mf hp_178
  obtain ⟨hv_183, hv_184, hv_185, hv_186, hv_187, hv_188, hv_189, hv_190, hv_191, hv_192, hv_193, hv_194, hv_195, hv_196, hv_197, hv_198, hv_199, hv_200, hv_201, hv_202, hv_203⟩ : μ.1 111 22 ≤ μ87.1 111 22 ∧ μ87.1 111 22 ≤ μ.1 111 22 + 2 * (μ129.1 111 9 - μ.1 111 9) + 8 * (nn μ129 - nn μ) - 4 + -2 * wr μ129 + 8 * wr μ ∧ μ.1 111 9 + 0 ≤ μ129.1 111 9 ∧ μ.1 111 9 + 1 ≤ μ129.1 111 9 + wr μ129 ∧ nn μ + 0 ≤ nn μ129 + 0 * wr μ ∧ nn μ129 ≤ nn μ + 0 + 9 * wr μ129 ∧ nn μ129 ≤ 8 + wr μ129 ∧ 9 * wr μ129 ≤ nn μ129 ∧ nn μ129 ≤ 9 ∧ wr μ ≤ wr μ129 ∧ wr μ129 ≤ 1 ∧ wr μ129 ≤ bd μ129 ∧ bd μ129 ≤ 1 ∧ x1 + 1 ≤ μ87.1 111 22 ∧ r_88 + 1 ≤ μ87.1 111 22 ∧ μ.1 111 29 ≤ μ2.1 111 29 ∧ μ.1 111 31 ≤ μ2.1 111 31 ∧ μ2.1 111 31 ≤ 300 ∧ 0 ≤ μ2.1 111 32 ∧ μ2.1 111 32 ≤ μ129.1 111 9 ∧ μ129.1 111 9 ≤ 3000 := by (repeat' apply And.intro) <;> omega
  clear hv_146 hv_147 hv_148 hv_149 hv_150 hv_151 hv_152 hv_153 hv_154 hv_155 hv_156 hv_157 hv_158 hv_159 hv_160 hv_161 hv_162 hv_163 hv_164 hv_165 hv_166 hw_168 e_170 e_172
  refine lv_aload_n hx hb dX12_door_32 rfl (lv_at hl 1 rfl) ?_
  have e_204 : μ176.1 111 29 = μ2.1 111 29 := ((F_177.1 111 (by decide) 29).trans ((hp_131 29 (by decide)).trans ((hp_90 29 (by decide)).trans (hp_57 29 (by decide)))))
  have e_205 : μ176.1 111 14 = tt := ((F_177.1 111 (by decide) 14).trans ((hp_131 14 (by decide)).trans ((hp_90 14 (by decide)).trans ((hp_57 14 (by decide)).trans ((hp_4 14 (by decide)).trans htt.symm)))))
  have hPM_206 : PM μ176 := hp_132.cg ((((F_177.1 111 (by decide) 4).trans ((hp_131 4 (by decide)).trans ((hp_90 4 (by decide)).trans ((hp_57 4 (by decide)).trans (hp_4 4 (by decide))))))).trans (((hp_131 4 (by decide)).trans ((hp_90 4 (by decide)).trans ((hp_57 4 (by decide)).trans (hp_4 4 (by decide)))))).symm) (F_177.1 111 (by decide) 6) ((((F_177.1 111 (by decide) 7).trans ((hp_131 7 (by decide)).trans ((hp_90 7 (by decide)).trans ((hp_57 7 (by decide)).trans (hp_4 7 (by decide))))))).trans (((hp_131 7 (by decide)).trans ((hp_90 7 (by decide)).trans ((hp_57 7 (by decide)).trans (hp_4 7 (by decide)))))).symm) (F_177.1 111 (by decide) 8) (F_177.1 111 (by decide) 9) (F_177.1 111 (by decide) 11) (F_177.1 111 (by decide) 12) ((((F_177.1 111 (by decide) 14).trans ((hp_131 14 (by decide)).trans ((hp_90 14 (by decide)).trans ((hp_57 14 (by decide)).trans ((hp_4 14 (by decide)).trans htt.symm)))))).trans (((hp_131 14 (by decide)).trans ((hp_90 14 (by decide)).trans ((hp_57 14 (by decide)).trans ((hp_4 14 (by decide)).trans htt.symm))))).symm) (F_177.1 111 (by decide) 15) ((((F_177.1 111 (by decide) 29).trans ((hp_131 29 (by decide)).trans ((hp_90 29 (by decide)).trans (hp_57 29 (by decide)))))).trans (((hp_131 29 (by decide)).trans ((hp_90 29 (by decide)).trans (hp_57 29 (by decide))))).symm) (fun j => (F_177.1 123 (by decide) j))
  have e_207 : wr μ176 = wr μ129 := (wr_cg (F_177.1 111 (by decide) 15))
  have hw_208 := wr_r (μ := μ129)
  have e_209 : nn μ176 = nn μ129 := (nn_cg (F_177.1 111 (by decide) 15) (F_177.1 111 (by decide) 18))
  have e_212 : μ176.1 111 22 = μ87.1 111 22 := ((F_177.1 111 (by decide) 22).trans (hp_131 22 (by decide)))
  have e_214 : μ176.1 111 9 = μ129.1 111 9 := (F_177.1 111 (by decide) 9)
  have e_216 : μ176.1 111 39 = μ2.1 111 39 := ((F_177.1 111 (by decide) 39).trans ((hp_131 39 (by decide)).trans ((hp_90 39 (by decide)).trans (hp_57 39 (by decide)))))
  have e_219 : μ176.1 111 31 = μ2.1 111 31 := ((F_177.1 111 (by decide) 31).trans ((hp_131 31 (by decide)).trans ((hp_90 31 (by decide)).trans (hp_57 31 (by decide)))))
  have e_221 : μ176.1 111 32 = μ2.1 111 32 := ((F_177.1 111 (by decide) 32).trans ((hp_131 32 (by decide)).trans ((hp_90 32 (by decide)).trans (hp_57 32 (by decide)))))
  have e_233 : bd μ176 = bd μ129 := (bd_cg (F_177.1 111 (by decide) 15) (F_177.1 111 (by decide) 16))
  refine xc_vV G (b := 111) (rest := []) (As := []) (((fun (_ : Om) (_ : Launch) => hK)) ω l μ176 tt (by (repeat' apply And.intro) <;> omega) hPM_206 (by (repeat' apply And.intro) <;> omega) (by (repeat' apply And.intro) <;> omega) (by (repeat' apply And.intro) <;> omega) (by (repeat' apply And.intro) <;> omega) (by (repeat' apply And.intro) <;> omega) (by (repeat' apply And.intro) <;> omega) (by (repeat' apply And.intro) <;> omega) (fun _ h0 => (hht_180 () h0).s)) (wm 9 118 rfl rfl) (wm 9 120 rfl rfl) (wm 0 142 rfl rfl) rfl rfl (by decide) rfl (wm 1 18 rfl rfl) (wm 9 121 rfl rfl) (by decide) hR ⟨sfr (F := F) (a := 0) (by decide), slo (L := Lo) (m := 1) (a := 0) (by decide)⟩ (n := 0) rfl rfl (Nat.le_of_ble_eq_true rfl) hl.1 dX12_door_33 (fun μ237 ρ d0 H locs hp G => ?_)
  obtain ⟨F_238, hp_239, hp_240, hp_241, hp_242, hp_243, hp_244, hp_245, hp_246, hp_247, hp_248, hp_249, hp_250, hp_251⟩ := hp
  have hpl_252 := hp_240.pl
  have hw_253 := wr_r (μ := μ237)
  have hw_254 := wr_r (μ := μ176)
  have hxt_255 : mEXT μx μ237 := hxt_179.tr hp_251
  have hwk_256 : ∀ j, j < μ.1 111 39 → μ237.1 126 j = μ176.1 126 j := fun j hj => hp_247 j (by omega)
  have hex_257 : ∀ _ : Unit, bd μ237 = 0 → mEX μ176 μ237 tt 0 (2 * (8 - nn μ)) 101 := fun _ h0 => (hp_250 () h0).mn (by omega) (Int.le_refl _)
  have hht_258 : ∀ _ : Unit, bd μ237 = 0 → mHt μ237 0 := fun _ h0 => (hht_180 () (bd_z (hp_244.2) h0)).ex (hex_257 () h0) rfl
  have vl_259 := hp_241
  replace hp_241 := fun _ : Unit => hp_241
  have vl_260 := hp_242
  replace hp_242 := fun _ : Unit => hp_242
  have vl_261 := hp_243
  replace hp_243 := fun _ : Unit => hp_243
  have vl_262 := hp_244
  replace hp_244 := fun _ : Unit => hp_244
  have vl_263 := hp_245
  replace hp_245 := fun _ : Unit => hp_245
  have vl_264 := hp_246
  replace hp_246 := fun _ : Unit => hp_246
  have vl_265 := hp_248
  replace hp_248 := fun _ : Unit => hp_248
  have vl_266 := hp_249
  replace hp_249 := fun _ : Unit => hp_249
  have h39_267 : μ237.1 111 39 = μ.1 111 39 := by omega
  obtain ⟨hv_270, hv_271, hv_272, hv_273, hv_274, hv_275, hv_276, hv_277, hv_278, hv_279, hv_280, hv_281, hv_282, hv_283, hv_284, hv_285, hv_286, hv_287, hv_288, hv_289, hv_290⟩ : μ.1 111 22 ≤ μ237.1 111 22 ∧ μ237.1 111 22 ≤ μ.1 111 22 + 2 * (μ237.1 111 9 - μ.1 111 9) + 8 * (nn μ237 - nn μ) - 8 + 2 * wr μ237 + 8 * wr μ ∧ μ.1 111 9 + 0 ≤ μ237.1 111 9 ∧ μ.1 111 9 + 1 ≤ μ237.1 111 9 + wr μ237 ∧ nn μ + 0 ≤ nn μ237 + 0 * wr μ ∧ nn μ237 ≤ nn μ + 0 + 9 * wr μ237 ∧ nn μ237 ≤ 8 + wr μ237 ∧ 9 * wr μ237 ≤ nn μ237 ∧ nn μ237 ≤ 9 ∧ wr μ ≤ wr μ237 ∧ wr μ237 ≤ 1 ∧ wr μ237 ≤ bd μ237 ∧ bd μ237 ≤ 1 ∧ x1 + 1 ≤ μ237.1 111 22 ∧ r_88 + 1 ≤ μ237.1 111 22 ∧ μ.1 111 29 ≤ μ237.1 111 29 ∧ μ.1 111 31 ≤ μ237.1 111 31 ∧ μ237.1 111 31 ≤ 300 ∧ 0 ≤ μ237.1 111 32 ∧ μ237.1 111 32 ≤ μ237.1 111 9 ∧ μ237.1 111 9 ≤ 3000 := by (repeat' apply And.intro) <;> omega
  clear hv_183 hv_184 hv_185 hv_186 hv_187 hv_188 hv_189 hv_190 hv_191 hv_192 hv_193 hv_194 hv_195 hv_196 hv_197 hv_198 hv_199 hv_200 hv_201 hv_202 hv_203 e_204 e_205 e_207 hw_208 e_209 e_212 e_214 e_216 e_219 e_221 e_233 hpl_252 hw_253 hw_254 vl_259 vl_260 vl_261 vl_262 vl_263 vl_264 vl_265 vl_266
  refine lv_aload_n hx hb dX12_door_36 rfl (lv_at hl 1 rfl) ?_
  refine lv_iload_n hx hb dX12_door_37 rfl (lv_at hl 0 rfl) ?_
  refine xc_vV G (b := 111) (rest := []) (As := [.int (iv r_88)]) (c_X12_lands ω l μ237 r_88 (by unfold ir; exact ⟨by omega, by omega⟩) (by (repeat' apply And.intro) <;> omega) (by (repeat' apply And.intro) <;> omega)) (wm 9 167 rfl rfl) (wm 9 169 rfl rfl) (wm 0 154 rfl rfl) rfl rfl (by decide) rfl (wm 1 18 rfl rfl) (wm 9 170 rfl rfl) (by decide) hR ⟨nfB hF (by decide), nlB hLo (by decide)⟩ (n := 1) rfl rfl (Nat.le_of_ble_eq_true rfl) hl.1 dX12_door_38 (fun μ291 ρ d0 H locs hp G => ?_)
  obtain ⟨F_292, hp_293⟩ := hp
  have hxt_294 : mEXT μx μ291 := hxt_255.mf hp_293 (by omega)
  have hht_295 : ∀ _ : Unit, bd μ291 = 0 → mHt μ291 0 := fun _ h0 => (hht_258 () (bd_z (Int.le_of_eq (bd_cg (F_292.1 111 (by decide) 15) (F_292.1 111 (by decide) 16)).symm) h0)).mf hp_293
  have hw_296 := wr_r (μ := μ237)
  obtain ⟨hv_298, hv_299, hv_300, hv_301, hv_302, hv_303, hv_304, hv_305, hv_306, hv_307, hv_308, hv_309, hv_310, hv_311, hv_312, hv_313, hv_314, hv_315, hv_316, hv_317, hv_318⟩ : μ.1 111 22 ≤ μ237.1 111 22 ∧ μ237.1 111 22 ≤ μ.1 111 22 + 2 * (μ237.1 111 9 - μ.1 111 9) + 8 * (nn μ237 - nn μ) - 8 + 2 * wr μ237 + 8 * wr μ ∧ μ.1 111 9 + 0 ≤ μ237.1 111 9 ∧ μ.1 111 9 + 1 ≤ μ237.1 111 9 + wr μ237 ∧ nn μ + 0 ≤ nn μ237 + 0 * wr μ ∧ nn μ237 ≤ nn μ + 0 + 9 * wr μ237 ∧ nn μ237 ≤ 8 + wr μ237 ∧ 9 * wr μ237 ≤ nn μ237 ∧ nn μ237 ≤ 9 ∧ wr μ ≤ wr μ237 ∧ wr μ237 ≤ 1 ∧ wr μ237 ≤ bd μ237 ∧ bd μ237 ≤ 1 ∧ x1 + 1 ≤ μ237.1 111 22 ∧ r_88 + 1 ≤ μ237.1 111 22 ∧ μ.1 111 29 ≤ μ237.1 111 29 ∧ μ.1 111 31 ≤ μ237.1 111 31 ∧ μ237.1 111 31 ≤ 300 ∧ 0 ≤ μ237.1 111 32 ∧ μ237.1 111 32 ≤ μ237.1 111 9 ∧ μ237.1 111 9 ≤ 3000 := by (repeat' apply And.intro) <;> omega
  clear hv_270 hv_271 hv_272 hv_273 hv_274 hv_275 hv_276 hv_277 hv_278 hv_279 hv_280 hv_281 hv_282 hv_283 hv_284 hv_285 hv_286 hv_287 hv_288 hv_289 hv_290 hw_296
  have e_319 : μ291.1 111 22 = μ237.1 111 22 := (F_292.1 111 (by decide) 22)
  have e_320 : μ291.1 111 9 = μ237.1 111 9 := (F_292.1 111 (by decide) 9)
  have e_321 : μ291.1 111 29 = μ237.1 111 29 := (F_292.1 111 (by decide) 29)
  have e_322 : μ291.1 111 39 = μ237.1 111 39 := (F_292.1 111 (by decide) 39)
  have e_323 : μ291.1 111 31 = μ237.1 111 31 := (F_292.1 111 (by decide) 31)
  have e_324 : μ291.1 111 32 = μ237.1 111 32 := (F_292.1 111 (by decide) 32)
  have e_325 : μ291.1 111 6 = μ237.1 111 6 := (F_292.1 111 (by decide) 6)
  have e_326 : wr μ291 = wr μ237 := (wr_cg (F_292.1 111 (by decide) 15))
  have hw_327 := wr_r (μ := μ237)
  have e_328 : bd μ291 = bd μ237 := (bd_cg (F_292.1 111 (by decide) 15) (F_292.1 111 (by decide) 16))
  have e_329 : nn μ291 = nn μ237 := (nn_cg (F_292.1 111 (by decide) 15) (F_292.1 111 (by decide) 18))
  have hPM_330 : PM μ291 := hp_240.cg ((((F_292.1 111 (by decide) 4).trans ((hp_239 4 (by decide)).trans ((F_177.1 111 (by decide) 4).trans ((hp_131 4 (by decide)).trans ((hp_90 4 (by decide)).trans ((hp_57 4 (by decide)).trans (hp_4 4 (by decide))))))))).trans (((hp_239 4 (by decide)).trans ((F_177.1 111 (by decide) 4).trans ((hp_131 4 (by decide)).trans ((hp_90 4 (by decide)).trans ((hp_57 4 (by decide)).trans (hp_4 4 (by decide)))))))).symm) (F_292.1 111 (by decide) 6) ((((F_292.1 111 (by decide) 7).trans ((hp_239 7 (by decide)).trans ((F_177.1 111 (by decide) 7).trans ((hp_131 7 (by decide)).trans ((hp_90 7 (by decide)).trans ((hp_57 7 (by decide)).trans (hp_4 7 (by decide))))))))).trans (((hp_239 7 (by decide)).trans ((F_177.1 111 (by decide) 7).trans ((hp_131 7 (by decide)).trans ((hp_90 7 (by decide)).trans ((hp_57 7 (by decide)).trans (hp_4 7 (by decide)))))))).symm) (F_292.1 111 (by decide) 8) (F_292.1 111 (by decide) 9) (F_292.1 111 (by decide) 11) (F_292.1 111 (by decide) 12) ((((F_292.1 111 (by decide) 14).trans ((hp_239 14 (by decide)).trans ((F_177.1 111 (by decide) 14).trans ((hp_131 14 (by decide)).trans ((hp_90 14 (by decide)).trans ((hp_57 14 (by decide)).trans ((hp_4 14 (by decide)).trans htt.symm)))))))).trans (((hp_239 14 (by decide)).trans ((F_177.1 111 (by decide) 14).trans ((hp_131 14 (by decide)).trans ((hp_90 14 (by decide)).trans ((hp_57 14 (by decide)).trans ((hp_4 14 (by decide)).trans htt.symm))))))).symm) (F_292.1 111 (by decide) 15) (F_292.1 111 (by decide) 29) (fun j => (F_292.1 123 (by decide) j))
  exact xr_v G hret hlk dX12_door_41 ⟨(Fr.tr (Fr.tr (Fr.tr (Fr.tr (Fr.tr (Fr.tr (Fr.tr Fr.rf F_3 (by decide)) F_56 (by decide)) F_89 (by decide)) F_130 (by decide)) F_177 (by decide)) F_238 (by decide)) F_292 (by decide)), (fun j hj => ((F_292.1 111 (by decide) j).trans ((hp_239 j (fun h9 => hj ((by decide : ∀ x ∈ ([6, 8, 9, 10, 11, 12, 13, 15, 16, 17, 18, 22, 29, 31, 32, 34, 35, 36, 37, 39] : List Int), x ∈ ([6, 8, 9, 10, 11, 12, 13, 15, 16, 17, 18, 22, 29, 31, 32, 34, 35, 36, 37, 39] : List Int)) j h9))).trans ((F_177.1 111 (by decide) j).trans ((hp_131 j (fun h9 => hj ((by decide : ∀ x ∈ ([6, 8, 9, 10, 11, 12, 13, 15] : List Int), x ∈ ([6, 8, 9, 10, 11, 12, 13, 15, 16, 17, 18, 22, 29, 31, 32, 34, 35, 36, 37, 39] : List Int)) j h9))).trans ((hp_90 j (fun h9 => hj ((by decide : ∀ x ∈ ([22] : List Int), x ∈ ([6, 8, 9, 10, 11, 12, 13, 15, 16, 17, 18, 22, 29, 31, 32, 34, 35, 36, 37, 39] : List Int)) j h9))).trans ((hp_57 j (fun h9 => hj ((by decide : ∀ x ∈ ([22] : List Int), x ∈ ([6, 8, 9, 10, 11, 12, 13, 15, 16, 17, 18, 22, 29, 31, 32, 34, 35, 36, 37, 39] : List Int)) j h9))).trans (hp_4 j (fun h9 => hj ((by decide : ∀ x ∈ ([6, 8, 9, 10, 11, 12, 13, 15, 16, 17, 18, 22, 29, 31, 32, 34, 35, 36, 37, 39] : List Int), x ∈ ([6, 8, 9, 10, 11, 12, 13, 15, 16, 17, 18, 22, 29, 31, 32, 34, 35, 36, 37, 39] : List Int)) j h9)))))))))), hPM_330, (by (repeat' apply And.intro) <;> omega), (by (repeat' apply And.intro) <;> omega), (by (repeat' apply And.intro) <;> omega), ⟨by omega, (Int.le_trans (Int.le_trans (Int.le_trans (Int.le_trans (Int.le_trans (Int.le_trans ((hp_9 ()).2) (Int.le_of_eq (bd_cg (hp_57 15 (by decide)) (hp_57 16 (by decide))).symm)) (Int.le_of_eq (bd_cg (hp_90 15 (by decide)) (hp_90 16 (by decide))).symm)) ((hp_135 ()).2)) (Int.le_of_eq (bd_cg (F_177.1 111 (by decide) 15) (F_177.1 111 (by decide) 16)).symm)) ((hp_244 ()).2)) (Int.le_of_eq (bd_cg (F_292.1 111 (by decide) 15) (F_292.1 111 (by decide) 16)).symm))⟩, (by (repeat' apply And.intro) <;> omega), (by (repeat' apply And.intro) <;> omega), (fun j hj => ((F_292.1 126 (by decide) j).trans ((hwk_256 j (by omega)).trans ((F_177.1 126 (by decide) j).trans ((F_130.1 126 (by decide) j).trans ((F_89.1 126 (by decide) j).trans ((F_56.1 126 (by decide) j).trans (hwk_20 j (by omega))))))))), (by (repeat' apply And.intro) <;> omega), (by (repeat' apply And.intro) <;> omega), (fun _ h0 => as_mdoor ((hDO () (bd_z (Int.le_trans (Int.le_trans (Int.le_trans (Int.le_trans (Int.le_trans (Int.le_trans ((hp_9 ()).2) (Int.le_of_eq (bd_cg (hp_57 15 (by decide)) (hp_57 16 (by decide))).symm)) (Int.le_of_eq (bd_cg (hp_90 15 (by decide)) (hp_90 16 (by decide))).symm)) ((hp_135 ()).2)) (Int.le_of_eq (bd_cg (F_177.1 111 (by decide) 15) (F_177.1 111 (by decide) 16)).symm)) ((hp_244 ()).2)) (Int.le_of_eq (bd_cg (F_292.1 111 (by decide) 15) (F_292.1 111 (by decide) 16)).symm)) h0))) (hex_21 () (bd_z (Int.le_trans (Int.le_trans (Int.le_trans (Int.le_trans (Int.le_trans (Int.le_of_eq (bd_cg (hp_57 15 (by decide)) (hp_57 16 (by decide))).symm) (Int.le_of_eq (bd_cg (hp_90 15 (by decide)) (hp_90 16 (by decide))).symm)) ((hp_135 ()).2)) (Int.le_of_eq (bd_cg (F_177.1 111 (by decide) 15) (F_177.1 111 (by decide) 16)).symm)) ((hp_244 ()).2)) (Int.le_of_eq (bd_cg (F_292.1 111 (by decide) 15) (F_292.1 111 (by decide) 16)).symm)) h0)) hp_58 (hp_91.qm (hq_167 ())) hp_178 (hex_257 () (bd_z (Int.le_of_eq (bd_cg (F_292.1 111 (by decide) 15) (F_292.1 111 (by decide) 16)).symm) h0)) hp_293 (by omega) rfl rfl (by omega)), hxt_294⟩

set_option maxHeartbeats 4000000 in
set_option maxRecDepth 100000 in
theorem c_X12_named (ω : Om) (l : Launch) (μ : M3) (F : Nat) (Lo : Nat) (kf : Int) (tt : Int) (htt : tt = μ.1 111 14) (hF : 200 ≤ F) (hLo : 6000 ≤ Lo) (hK : ∀ (μ : M3) (tt : Int) (htt : tt = μ.1 111 14) (hPM : PM μ) (hnn : 0 ≤ nn μ ∧ nn μ ≤ 9 ∧ 9 * wr μ ≤ nn μ) (hn8 : nn μ ≤ 8 + wr μ) (hcd : 0 ≤ μ.1 111 22 ∧ μ.1 111 22 ≤ 2 * μ.1 111 9 + 8 * nn μ + 60) (hW : 0 ≤ μ.1 111 39 ∧ μ.1 111 39 ≤ μ.1 111 22) (hsl : 0 ≤ μ.1 111 31 ∧ μ.1 111 31 ≤ 300) (hvr : 0 ≤ μ.1 111 32 ∧ μ.1 111 32 ≤ μ.1 111 9) (hfu : 0 ≤ (kf - 1) ∧ 8 ≤ nn μ + (kf - 1)) (hS0 : ∀ _ : Unit, bd μ = 0 → mS0 μ), CtV ω l yX12_block cX12_block 1 (F + 0) (Lo + 0) [.ref (oP ω 111)] μ (fun (μ' : M3) => (Fr [111, 113, 115, 116, 117, 123, 124, 126] μ μ') ∧ (∀ j, j ∉ ([6, 8, 9, 10, 11, 12, 13, 15, 16, 17, 18, 22, 29, 31, 32, 34, 35, 36, 37, 39] : List Int) → μ'.1 111 j = μ.1 111 j) ∧ (PM μ') ∧ (μ.1 111 22 ≤ μ'.1 111 22 ∧ μ'.1 111 22 ≤ μ.1 111 22 + 2 * (μ'.1 111 9 - μ.1 111 9) + 8 * (nn μ' - nn μ) + (- 4 - 4 * wr μ' + 8 * wr μ)) ∧ (μ.1 111 9 + 1 ≤ μ'.1 111 9 + wr μ') ∧ (μ.1 111 29 ≤ μ'.1 111 29) ∧ (wr μ ≤ wr μ' ∧ bd μ ≤ bd μ') ∧ (nn μ ≤ nn μ' ∧ nn μ' ≤ nn μ + 9 * wr μ' ∧ nn μ' ≤ 9 ∧ 9 * wr μ' ≤ nn μ') ∧ (μ'.1 111 39 = μ.1 111 39) ∧ (∀ j, j < μ.1 111 39 → μ'.1 126 j = μ.1 126 j) ∧ (μ.1 111 31 ≤ μ'.1 111 31 ∧ μ'.1 111 31 ≤ 300) ∧ (0 ≤ μ'.1 111 32 ∧ μ'.1 111 32 ≤ μ'.1 111 9) ∧ (∀ _ : Unit, bd μ' = 0 → mEX μ μ' tt 0 (2 * (8 - nn μ)) 101) ∧ (mEXT μ μ'))) (hPM : PM μ) (hnn : 0 ≤ nn μ ∧ nn μ ≤ 9 ∧ 9 * wr μ ≤ nn μ) (hn8 : nn μ ≤ 8 + wr μ) (hcd : 0 ≤ μ.1 111 22 ∧ μ.1 111 22 ≤ 2 * μ.1 111 9 + 8 * nn μ + 54) (hW : 0 ≤ μ.1 111 39 ∧ μ.1 111 39 ≤ μ.1 111 22) (hsl : 0 ≤ μ.1 111 31 ∧ μ.1 111 31 ≤ 300) (hvr : 0 ≤ μ.1 111 32 ∧ μ.1 111 32 ≤ μ.1 111 9) (hw0 : wr μ = 0) (hfu : 1 ≤ kf ∧ 9 ≤ nn μ + kf) (hS1 : ∀ _ : Unit, bd μ = 0 → mS1 μ tt) (hst : μ.1 111 8 = 0) : CtV ω l yX12_named cX12_named 5 (F + 1) (Lo + 20) [.ref (oP ω 111)] μ (fun (μ' : M3) => (Fr [111, 113, 115, 116, 117, 123, 124, 126] μ μ') ∧ (∀ j, j ∉ ([6, 8, 9, 10, 11, 12, 13, 15, 16, 17, 18, 22, 29, 31, 32, 34, 35, 36, 37, 39] : List Int) → μ'.1 111 j = μ.1 111 j) ∧ (PM μ') ∧ (μ.1 111 22 ≤ μ'.1 111 22 ∧ μ'.1 111 22 ≤ μ.1 111 22 + 2 * (μ'.1 111 9 - μ.1 111 9) + 8 * (nn μ' - nn μ) + (- 1)) ∧ (μ.1 111 9 + 1 ≤ μ'.1 111 9 + wr μ') ∧ (μ.1 111 29 ≤ μ'.1 111 29) ∧ (wr μ ≤ wr μ' ∧ bd μ ≤ bd μ') ∧ (nn μ ≤ nn μ' ∧ nn μ' ≤ nn μ + 9 * wr μ' ∧ nn μ' ≤ 9 ∧ 9 * wr μ' ≤ nn μ') ∧ (μ'.1 111 39 = μ.1 111 39) ∧ (∀ j, j < μ.1 111 39 → μ'.1 126 j = μ.1 126 j) ∧ (μ.1 111 31 ≤ μ'.1 111 31 ∧ μ'.1 111 31 ≤ 300) ∧ (0 ≤ μ'.1 111 32 ∧ μ'.1 111 32 ≤ μ'.1 111 9) ∧ (∀ _ : Unit, bd μ' = 0 → mEY μ μ' tt ((2 * (9 - nn μ)))) ∧ (mEXT μ μ')) := by
  refine CtV.go (by decide) (Nat.le_of_ble_eq_true rfl) (fun ρ p e s m below meth c R ls G hR hret hlk hl => ?_)
  have hx := G.1.1
  have hb := G.1.2.1
  have hl : lv_has ls 5 [(0, .ref (oP ω 111))] := hl
  generalize s.drawn = d0 at G ⊢
  have hw_0 := wr_r (μ := μ)
  have hpp_ := hPM.1.2.1
  have hpn_ := hPM.2.1
  have hpt_ := hPM.1.2.2.2.1
  have hpw_ := hPM.1.2.2.2.2.1
  have hpa_ := hPM.1.1
  have hht_0 : ∀ _ : Unit, bd μ = 0 → mHt μ 0 := fun _ h0 => (hS1 () h0).h
  refine lv_aload_n hx hb dX12_named_0 rfl (lv_at hl 0 rfl) ?_
  refine xa_geti G fd_X12 (a := 111) (x := μ.1 111 9) 9 rfl (by decide) rfl (wm 7 158 rfl rfl) ⟨rfl, rfl, rfl⟩ dX12_named_1 rfl rfl ?_
  have hr_1 : -2147483648 ≤ μ.1 111 9 ∧ μ.1 111 9 ≤ 2147483647 := by have h9 := G.hr (a := 111) (k := 9) rfl; exact h9
  have hpg_2 : 0 ≤ μ.1 111 9 := by omega
  refine lv_istore_n (lv' := [(1, .int (iv (μ.1 111 9))), (0, .ref (oP ω 111))]) hx hb dX12_named_4 rfl hl (by decide) rfl (fun ls hl => ?_)
  refine lv_aload_n hx hb dX12_named_5 rfl (lv_at hl 1 rfl) ?_
  refine xa_getl G fd_X12 (a := 111) (x := μ.1 111 10) 10 rfl (by decide) rfl (wm 7 159 rfl rfl) ⟨rfl, rfl, rfl⟩ dX12_named_6 rfl rfl ?_
  have hj_3 : jr (μ.1 111 10) := by have h9 := G.hj (a := 111) (k := 10) rfl; exact h9
  refine lv_lstore_n (lv' := [(2, .long (jv (μ.1 111 10))), (1, .int (iv (μ.1 111 9))), (0, .ref (oP ω 111))]) hx hb dX12_named_9 rfl hl (by decide) rfl (fun ls hl => ?_)
  refine lv_aload_n hx hb dX12_named_10 rfl (lv_at hl 2 rfl) ?_
  refine xc_vV G (b := 111) (rest := []) (As := []) (c_X12_keeps ω l μ  ) (wm 10 43 rfl rfl) (wm 10 45 rfl rfl) (wm 0 182 rfl rfl) rfl rfl (by decide) rfl (wm 1 18 rfl rfl) (wm 10 46 rfl rfl) (by decide) hR ⟨nfB hF (by decide), nlB hLo (by decide)⟩ (n := 0) rfl rfl (Nat.le_of_ble_eq_true rfl) hl.1 dX12_named_11 (fun μ4 ρ d0 H locs hp G => ?_)
  obtain ⟨F_5, hp_6, hs_7, hs_8, hs_9⟩ := hp
  obtain ⟨hv_12, hv_13, hv_14, hv_15, hv_16, hv_17, hv_18, hv_19, hv_20, hv_21, hv_22, hv_23, hv_24, hv_25, hv_26, hv_27, hv_28, hv_29⟩ : μ.1 111 22 ≤ μ.1 111 22 ∧ μ.1 111 22 ≤ μ.1 111 22 + 2 * (μ.1 111 9 - μ.1 111 9) + 8 * (nn μ - nn μ) + 0 + -100 * wr μ ∧ μ.1 111 9 + 0 ≤ μ.1 111 9 ∧ nn μ + 0 ≤ nn μ ∧ nn μ ≤ nn μ + 0 + 9 * wr μ ∧ nn μ ≤ 8 + wr μ ∧ 9 * wr μ ≤ nn μ ∧ nn μ ≤ 9 ∧ wr μ ≤ wr μ ∧ wr μ ≤ 1 ∧ wr μ ≤ bd μ ∧ bd μ ≤ 1 ∧ μ.1 111 29 ≤ μ.1 111 29 ∧ μ.1 111 31 ≤ μ.1 111 31 ∧ μ.1 111 31 ≤ 300 ∧ 0 ≤ μ.1 111 32 ∧ μ.1 111 32 ≤ μ.1 111 9 ∧ μ.1 111 9 ≤ 3000 := by (repeat' apply And.intro) <;> omega
  refine lv_aload_n hx hb dX12_named_14 rfl (lv_at hl 2 rfl) ?_
  have hPM_30 : PM μ4 := hPM.cg (hp_6 4 (by decide)) (hp_6 6 (by decide)) (hp_6 7 (by decide)) (hp_6 8 (by decide)) (hp_6 9 (by decide)) (hp_6 11 (by decide)) (hp_6 12 (by decide)) ((((hp_6 14 (by decide)).trans htt.symm)).trans (htt.symm).symm) (hp_6 15 (by decide)) (hp_6 29 (by decide)) (fun j => (F_5.1 123 (by decide) j))
  have e_31 : wr μ4 = wr μ := (wr_cg (hp_6 15 (by decide)))
  have hw_32 := wr_r (μ := μ)
  have e_33 : nn μ4 = nn μ := (nn_cg (hp_6 15 (by decide)) (hp_6 18 (by decide)))
  have e_34 : μ4.1 111 8 = μ.1 111 8 := (hp_6 8 (by decide))
  have e_36 : μ4.1 111 9 = μ.1 111 9 := (hp_6 9 (by decide))
  have e_39 : bd μ4 = bd μ := (bd_cg (hp_6 15 (by decide)) (hp_6 16 (by decide)))
  refine xc_vV G (b := 111) (rest := []) (As := []) (c_X12_next ω l μ4  hPM_30 (by (repeat' apply And.intro) <;> omega) (by (repeat' apply And.intro) <;> omega)) (wm 9 0 rfl rfl) (wm 9 2 rfl rfl) (wm 0 119 rfl rfl) rfl rfl (by decide) rfl (wm 1 18 rfl rfl) (wm 9 3 rfl rfl) (by decide) hR ⟨nfB hF (by decide), nlB hLo (by decide)⟩ (n := 0) rfl rfl (Nat.le_of_ble_eq_true rfl) hl.1 dX12_named_15 (fun μ41 ρ d0 H locs hp G => ?_)
  obtain ⟨F_42, hp_43, hp_44, hp_45, hp_46, hp_47⟩ := hp
  have hpl_48 := hp_44.pl
  have hw_49 := wr_r (μ := μ4)
  have hw_50 := wr_r (μ := μ41)
  have vl_51 := hp_45
  replace hp_45 := fun _ : Unit => hp_45
  have vl_52 := hp_46
  replace hp_46 := fun _ : Unit => hp_46
  have vl_53 := hp_47
  replace hp_47 := fun _ : Unit => hp_47
  obtain ⟨hv_56, hv_57, hv_58, hv_59, hv_60, hv_61, hv_62, hv_63, hv_64, hv_65, hv_66, hv_67, hv_68, hv_69, hv_70, hv_71, hv_72, hv_73⟩ : μ.1 111 22 ≤ μ.1 111 22 ∧ μ.1 111 22 ≤ μ.1 111 22 + 2 * (μ41.1 111 9 - μ.1 111 9) + 8 * (nn μ41 - nn μ) - 2 + -6 * wr μ41 ∧ μ.1 111 9 + 1 ≤ μ41.1 111 9 ∧ nn μ + 0 ≤ nn μ41 ∧ nn μ41 ≤ nn μ + 0 + 9 * wr μ41 ∧ nn μ41 ≤ 8 + wr μ41 ∧ 9 * wr μ41 ≤ nn μ41 ∧ nn μ41 ≤ 9 ∧ wr μ ≤ wr μ41 ∧ wr μ41 ≤ 1 ∧ wr μ41 ≤ bd μ41 ∧ bd μ41 ≤ 1 ∧ μ.1 111 29 ≤ μ.1 111 29 ∧ μ.1 111 31 ≤ μ.1 111 31 ∧ μ.1 111 31 ≤ 300 ∧ 0 ≤ μ.1 111 32 ∧ μ.1 111 32 ≤ μ41.1 111 9 ∧ μ41.1 111 9 ≤ 3000 := by (repeat' apply And.intro) <;> omega
  clear hv_12 hv_13 hv_14 hv_15 hv_16 hv_17 hv_18 hv_19 hv_20 hv_21 hv_22 hv_23 hv_24 hv_25 hv_26 hv_27 hv_28 hv_29 e_31 hw_32 e_33 e_34 e_36 e_39 hpl_48 hw_49 hw_50 vl_51 vl_52 vl_53
  refine lv_aload_n hx hb dX12_named_18 rfl (lv_at hl 2 rfl) ?_
  refine lv_bipush (v := iv 61) hx hb dX12_named_19 rfl ?_
  have hw_74 := wr_r (μ := μ41)
  refine xc_iV G (b := 111) (rest := []) (As := [.int (iv 61)]) (c_X12_takesSign ω l μ41 61 (by unfold ir; decide) hp_44 (by (repeat' apply And.intro) <;> omega)) (wm 9 106 rfl rfl) (wm 9 108 rfl rfl) (wm 0 139 rfl rfl) rfl rfl (by decide) rfl (wm 1 18 rfl rfl) (wm 9 109 rfl rfl) (by decide) hR ⟨nfB hF (by decide), nlB hLo (by decide)⟩ (n := 1) rfl rfl (Nat.le_of_ble_eq_true rfl) hl.1 dX12_named_21 (fun r_76 μ75 ρ d0 H locs hr_r_76 hp G => ?_)
  have hr_r_76 : -2147483648 ≤ r_76 ∧ r_76 ≤ 2147483647 := hr_r_76
  obtain ⟨F_77, hp_78, hp_79, hp_80, hp_81, hp_82, hp_83⟩ := hp
  have hpl_84 := hp_79.pl
  have hw_85 := wr_r (μ := μ75)
  have vl_86 := hp_82
  replace hp_82 := fun _ : Unit => hp_82
  have vl_87 := hp_83
  replace hp_83 := fun _ : Unit => hp_83
  obtain ⟨hv_90, hv_91, hv_92, hv_93, hv_94, hv_95, hv_96, hv_97, hv_98, hv_99, hv_100, hv_101, hv_102, hv_103, hv_104, hv_105, hv_106, hv_107⟩ : μ.1 111 22 ≤ μ.1 111 22 ∧ μ.1 111 22 ≤ μ.1 111 22 + 2 * (μ75.1 111 9 - μ.1 111 9) + 8 * (nn μ75 - nn μ) - 2 + -6 * wr μ75 ∧ μ.1 111 9 + 1 ≤ μ75.1 111 9 ∧ nn μ + 0 ≤ nn μ75 ∧ nn μ75 ≤ nn μ + 0 + 9 * wr μ75 ∧ nn μ75 ≤ 8 + wr μ75 ∧ 9 * wr μ75 ≤ nn μ75 ∧ nn μ75 ≤ 9 ∧ wr μ ≤ wr μ75 ∧ wr μ75 ≤ 1 ∧ wr μ75 ≤ bd μ75 ∧ bd μ75 ≤ 1 ∧ μ.1 111 29 ≤ μ.1 111 29 ∧ μ.1 111 31 ≤ μ.1 111 31 ∧ μ.1 111 31 ≤ 300 ∧ 0 ≤ μ.1 111 32 ∧ μ.1 111 32 ≤ μ75.1 111 9 ∧ μ75.1 111 9 ≤ 3000 := by (repeat' apply And.intro) <;> omega
  clear hv_56 hv_57 hv_58 hv_59 hv_60 hv_61 hv_62 hv_63 hv_64 hv_65 hv_66 hv_67 hv_68 hv_69 hv_70 hv_71 hv_72 hv_73 hw_74 hpl_84 hw_85 vl_86 vl_87
  refine xb_if_eq (tgt := 56) hx hb (by unfold ir; exact ⟨by omega, by omega⟩) dX12_named_24 (by decide) (fun c_24 => ?_) (fun c_24 => ?_)
  · refine lv_aload_n hx hb dX12_named_56 rfl (lv_at hl 2 rfl) ?_
    refine lv_bipush (v := iv 91) hx hb dX12_named_57 rfl ?_
    have hw_108 := wr_r (μ := μ75)
    refine xc_iV G (b := 111) (rest := []) (As := [.int (iv 91)]) (c_X12_isSign ω l μ75 91 (by unfold ir; decide)) (wm 9 90 rfl rfl) (wm 9 92 rfl rfl) (wm 0 135 rfl rfl) rfl rfl (by decide) rfl (wm 1 18 rfl rfl) (wm 9 93 rfl rfl) (by decide) hR ⟨nfB hF (by decide), nlB hLo (by decide)⟩ (n := 1) rfl rfl (Nat.le_of_ble_eq_true rfl) hl.1 dX12_named_59 (fun r_110 μ109 ρ d0 H locs hr_r_110 hp G => ?_)
    have hr_r_110 : -2147483648 ≤ r_110 ∧ r_110 ≤ 2147483647 := hr_r_110
    obtain ⟨hsm_111, hp_112⟩ := hp
    have hsm_111 := Eq.symm hsm_111
    subst hsm_111
    have hrb_r_110 : 0 ≤ r_110 ∧ r_110 ≤ 1 := sf_r hp_112
    replace hp_112 := fun _ : Unit => hp_112
    refine xb_if_eq (tgt := 121) hx hb (by unfold ir; exact ⟨by omega, by omega⟩) dX12_named_62 (by decide) (fun c_62 => ?_) (fun c_62 => ?_)
    · refine lv_aload_n hx hb dX12_named_121 rfl (lv_at hl 2 rfl) ?_
      refine xc_iV G (b := 111) (rest := []) (As := []) (c_X12_isWrong ω l μ75  ) (wm 9 4 rfl rfl) (wm 9 6 rfl rfl) (wm 0 120 rfl rfl) rfl rfl (by decide) rfl (wm 1 18 rfl rfl) (wm 9 7 rfl rfl) (by decide) hR ⟨nfB hF (by decide), nlB hLo (by decide)⟩ (n := 0) rfl rfl (Nat.le_of_ble_eq_true rfl) hl.1 dX12_named_122 (fun r_114 μ113 ρ d0 H locs hr_r_114 hp G => ?_)
      have hr_r_114 : -2147483648 ≤ r_114 ∧ r_114 ≤ 2147483647 := hr_r_114
      obtain ⟨hsm_115, hp_116⟩ := hp
      have hsm_115 := Eq.symm hsm_115
      subst hsm_115
      refine xb_if_eq (tgt := 129) hx hb (by unfold ir; exact ⟨by omega, by omega⟩) dX12_named_125 (by decide) (fun c_125 => ?_) (fun c_125 => ?_)
      · refine lv_aload_n hx hb dX12_named_129 rfl (lv_at hl 2 rfl) ?_
        have hxt_117 : mEXT μ μ75 := (q0m.fr (K := [111]) (Fr.tr (Fr.tr (Fr.tr Fr.rf F_5 (by decide)) F_42 (by decide)) F_77 (by decide)) (by decide) (by decide) (by decide) ((hp_78 22 (by decide)).trans ((hp_43 22 (by decide)).trans (hp_6 22 (by decide)))) (Int.le_trans (Int.le_trans (Int.le_of_eq (hp_6 29 (by decide)).symm) (Int.le_of_eq (hp_43 29 (by decide)).symm)) (Int.le_of_eq (hp_78 29 (by decide)).symm))).1
        have hwh_ := hp_79.1.2.2.2.2.1
        refine xc_vV G (b := 111) (rest := []) (As := []) (c_X12_goesBack ω l μ75  ) (wm 10 47 rfl rfl) (wm 10 49 rfl rfl) (wm 0 183 rfl rfl) rfl rfl (by decide) rfl (wm 1 18 rfl rfl) (wm 10 50 rfl rfl) (by decide) hR ⟨nfB hF (by decide), nlB hLo (by decide)⟩ (n := 0) rfl rfl (Nat.le_of_ble_eq_true rfl) hl.1 dX12_named_130 (fun μ118 ρ d0 H locs hp G => ?_)
        obtain ⟨F_119, hp_120, hs_121, hs_122, hs_123, hs_124⟩ := hp
        have hkb_126 : μ75.1 111 34 = μ.1 111 6 := ((hp_78 34 (by decide)).trans ((hp_43 34 (by decide)).trans hs_7))
        have hkb_127 : μ75.1 111 35 = μ.1 111 9 := ((hp_78 35 (by decide)).trans ((hp_43 35 (by decide)).trans hs_8))
        have hkb_128 : μ75.1 111 37 = μ.1 111 22 := ((hp_78 37 (by decide)).trans ((hp_43 37 (by decide)).trans hs_9))
        have h22_ : μ118.1 111 22 = μ.1 111 22 := by rw [show μ118.1 111 22 = μ75.1 111 37 from hs_123]; omega
        have hq_125 : ∀ _ : Unit, q0m μ μ118 := fun _ => q0m.back hxt_117 h22_ (Int.le_of_eq (hp_120 29 (by decide)).symm) (fun j => F_119.1 115 (by decide) j) (fun j => F_119.1 116 (by decide) j) (fun j => F_119.1 117 (by decide) j)
        obtain ⟨hv_131, hv_132, hv_133, hv_134, hv_135, hv_136, hv_137, hv_138, hv_139, hv_140, hv_141, hv_142, hv_143, hv_144, hv_145, hv_146, hv_147, hv_148⟩ : μ.1 111 22 ≤ μ75.1 111 37 ∧ μ75.1 111 37 ≤ μ.1 111 22 + 2 * (μ75.1 111 35 - μ.1 111 9) + 8 * (nn μ75 - nn μ) + 0 + -100 * wr μ75 ∧ μ.1 111 9 + 0 ≤ μ75.1 111 35 ∧ nn μ + 0 ≤ nn μ75 ∧ nn μ75 ≤ nn μ + 0 + 9 * wr μ75 ∧ nn μ75 ≤ 8 + wr μ75 ∧ 9 * wr μ75 ≤ nn μ75 ∧ nn μ75 ≤ 9 ∧ wr μ ≤ wr μ75 ∧ wr μ75 ≤ 1 ∧ wr μ75 ≤ bd μ75 ∧ bd μ75 ≤ 1 ∧ μ.1 111 29 ≤ μ.1 111 29 ∧ μ.1 111 31 ≤ μ.1 111 31 ∧ μ.1 111 31 ≤ 300 ∧ 0 ≤ μ.1 111 32 ∧ μ.1 111 32 ≤ μ75.1 111 35 ∧ μ75.1 111 35 ≤ 3000 := by (repeat' apply And.intro) <;> omega
        clear hv_90 hv_91 hv_92 hv_93 hv_94 hv_95 hv_96 hv_97 hv_98 hv_99 hv_100 hv_101 hv_102 hv_103 hv_104 hv_105 hv_106 hv_107 hw_108
        have hht_149 : ∀ _ : Unit, bd μ118 = 0 → mHt μ118 0 := fun _ h0 => (hht_0 () (bd_z (Int.le_trans (Int.le_trans (Int.le_trans (Int.le_of_eq (bd_cg (hp_6 15 (by decide)) (hp_6 16 (by decide))).symm) ((hp_46 ()).2)) ((hp_82 ()).2)) (Int.le_of_eq (bd_cg (hp_120 15 (by decide)) (hp_120 16 (by decide))).symm)) h0)).qm (hq_125 ())
        obtain ⟨ht1, ht2, ht3, ht4, ht5, ht6⟩ := id hPM.1
        replace ht6 := fun _ : Unit => ht6
        replace ht3 := fun _ : Unit => ht3
        have ht3 : μ.1 111 9 + 1 ≤ μ.1 111 6 := by have h8 := (wr_0 (μ := μ)).1 (by omega); rcases ht3 () with q | q | q; omega; exact q; exact absurd h8 q
        have e_151 : μ118.1 111 6 = μ75.1 111 34 := hs_121
        have e_152 : μ118.1 111 7 = μ.1 111 7 := ((hp_120 7 (by decide)).trans ((hp_78 7 (by decide)).trans ((hp_43 7 (by decide)).trans (hp_6 7 (by decide)))))
        have e_153 : μ118.1 111 8 = 0 := hs_124
        have e_154 : μ118.1 111 9 = μ75.1 111 35 := hs_122
        have e_155 : μ118.1 111 11 = μ75.1 111 11 := (hp_120 11 (by decide))
        have e_156 : μ118.1 111 14 = tt := ((hp_120 14 (by decide)).trans ((hp_78 14 (by decide)).trans ((hp_43 14 (by decide)).trans ((hp_6 14 (by decide)).trans htt.symm))))
        have e_157 : wr μ118 = wr μ75 := (wr_cg (hp_120 15 (by decide)))
        have hw_158 := wr_r (μ := μ75)
        have hPM_150 : PM μ118 := ⟨by
          have hw9 := wr_0 (μ := μ118)
          refine ⟨by omega, by omega, ?_, by omega, by omega, fun q => absurd q (by omega)⟩
          by_cases q9 : μ118.1 111 8 = 4
          · exact Or.inl q9
          · exact Or.inr (Or.inl (by omega))
          , (NP.cg (hp_120 4 (by decide)) (hp_120 29 (by decide)) (fun j => F_119.1 123 (by decide) j) hp_79.2)⟩
        refine lv_aload_n hx hb dX12_named_133 rfl (lv_at hl 2 rfl) ?_
        have e_159 : μ118.1 111 29 = μ.1 111 29 := ((hp_120 29 (by decide)).trans ((hp_78 29 (by decide)).trans ((hp_43 29 (by decide)).trans (hp_6 29 (by decide)))))
        have e_162 : nn μ118 = nn μ75 := (nn_cg (hp_120 15 (by decide)) (hp_120 18 (by decide)))
        have e_165 : μ118.1 111 22 = μ75.1 111 37 := hs_123
        have e_169 : μ118.1 111 39 = μ.1 111 39 := ((hp_120 39 (by decide)).trans ((hp_78 39 (by decide)).trans ((hp_43 39 (by decide)).trans (hp_6 39 (by decide)))))
        have e_172 : μ118.1 111 31 = μ.1 111 31 := ((hp_120 31 (by decide)).trans ((hp_78 31 (by decide)).trans ((hp_43 31 (by decide)).trans (hp_6 31 (by decide)))))
        have e_174 : μ118.1 111 32 = μ.1 111 32 := ((hp_120 32 (by decide)).trans ((hp_78 32 (by decide)).trans ((hp_43 32 (by decide)).trans (hp_6 32 (by decide)))))
        have e_186 : bd μ118 = bd μ75 := (bd_cg (hp_120 15 (by decide)) (hp_120 16 (by decide)))
        refine xc_vV G (b := 111) (rest := []) (As := []) (c_X12_plain ω l μ118 F Lo kf tt (by (repeat' apply And.intro) <;> omega) hF hLo hK hPM_150 (by (repeat' apply And.intro) <;> omega) (by (repeat' apply And.intro) <;> omega) (by (repeat' apply And.intro) <;> omega) (by (repeat' apply And.intro) <;> omega) (by (repeat' apply And.intro) <;> omega) (by (repeat' apply And.intro) <;> omega) (by (repeat' apply And.intro) <;> omega) (by (repeat' apply And.intro) <;> omega) (fun _ h0 => ((hS1 () (bd_z (Int.le_trans (Int.le_trans (Int.le_trans (Int.le_of_eq (bd_cg (hp_6 15 (by decide)) (hp_6 16 (by decide))).symm) ((hp_46 ()).2)) ((hp_82 ()).2)) (Int.le_of_eq (bd_cg (hp_120 15 (by decide)) (hp_120 16 (by decide))).symm)) h0)).qm (hq_125 ())))) (wm 10 35 rfl rfl) (wm 10 37 rfl rfl) (wm 0 180 rfl rfl) rfl rfl (by decide) rfl (wm 1 18 rfl rfl) (wm 10 38 rfl rfl) (by decide) hR ⟨sfr (F := F) (a := 0) (by decide), slo (L := Lo) (m := 1) (a := 0) (by decide)⟩ (n := 0) rfl rfl (Nat.le_of_ble_eq_true rfl) hl.1 dX12_named_134 (fun μ190 ρ d0 H locs hp G => ?_)
        obtain ⟨F_191, hp_192, hp_193, hp_194, hp_195, hp_196, hp_197, hp_198, hp_199, hp_200, hp_201, hp_202, hp_203, hp_204⟩ := hp
        have hpl_205 := hp_193.pl
        have hw_206 := wr_r (μ := μ190)
        have hw_207 := wr_r (μ := μ118)
        have hxt_208 : mEXT μ μ190 := (hq_125 ()).1.tr hp_204
        have hwk_209 : ∀ j, j < μ.1 111 39 → μ190.1 126 j = μ118.1 126 j := fun j hj => hp_200 j (by omega)
        have hey_210 : ∀ _ : Unit, bd μ190 = 0 → mEY μ118 μ190 tt (2 * (9 - nn μ)) := fun _ h0 => (hp_203 () h0).mn (by omega)
        have vl_211 := hp_194
        replace hp_194 := fun _ : Unit => hp_194
        have vl_212 := hp_195
        replace hp_195 := fun _ : Unit => hp_195
        have vl_213 := hp_196
        replace hp_196 := fun _ : Unit => hp_196
        have vl_214 := hp_197
        replace hp_197 := fun _ : Unit => hp_197
        have vl_215 := hp_198
        replace hp_198 := fun _ : Unit => hp_198
        have vl_216 := hp_199
        replace hp_199 := fun _ : Unit => hp_199
        have vl_217 := hp_201
        replace hp_201 := fun _ : Unit => hp_201
        have vl_218 := hp_202
        replace hp_202 := fun _ : Unit => hp_202
        have h39_219 : μ190.1 111 39 = μ.1 111 39 := by omega
        obtain ⟨hv_222, hv_223, hv_224, hv_225, hv_226, hv_227, hv_228, hv_229, hv_230, hv_231, hv_232, hv_233, hv_234, hv_235, hv_236, hv_237, hv_238, hv_239, hv_240⟩ : μ.1 111 22 ≤ μ190.1 111 22 ∧ μ190.1 111 22 ≤ μ.1 111 22 + 2 * (μ190.1 111 9 - μ.1 111 9) + 8 * (nn μ190 - nn μ) - 1 + 0 * wr μ190 ∧ μ.1 111 9 + 0 ≤ μ190.1 111 9 ∧ μ.1 111 9 + 1 ≤ μ190.1 111 9 + wr μ190 ∧ nn μ + 0 ≤ nn μ190 ∧ nn μ190 ≤ nn μ + 0 + 9 * wr μ190 ∧ nn μ190 ≤ 8 + wr μ190 ∧ 9 * wr μ190 ≤ nn μ190 ∧ nn μ190 ≤ 9 ∧ wr μ ≤ wr μ190 ∧ wr μ190 ≤ 1 ∧ wr μ190 ≤ bd μ190 ∧ bd μ190 ≤ 1 ∧ μ.1 111 29 ≤ μ190.1 111 29 ∧ μ.1 111 31 ≤ μ190.1 111 31 ∧ μ190.1 111 31 ≤ 300 ∧ 0 ≤ μ190.1 111 32 ∧ μ190.1 111 32 ≤ μ190.1 111 9 ∧ μ190.1 111 9 ≤ 3000 := by (repeat' apply And.intro) <;> omega
        clear hv_131 hv_132 hv_133 hv_134 hv_135 hv_136 hv_137 hv_138 hv_139 hv_140 hv_141 hv_142 hv_143 hv_144 hv_145 hv_146 hv_147 hv_148 e_159 e_162 e_165 e_169 e_172 e_174 e_186 hpl_205 hw_206 hw_207 vl_211 vl_212 vl_213 vl_214 vl_215 vl_216 vl_217 vl_218
        have hw_241 := wr_r (μ := μ190)
        exact xr_v G hret hlk dX12_named_137 ⟨(Fr.tr (Fr.tr (Fr.tr (Fr.tr (Fr.tr Fr.rf F_5 (by decide)) F_42 (by decide)) F_77 (by decide)) F_119 (by decide)) F_191 (by decide)), (fun j hj => ((hp_192 j (fun h9 => hj ((by decide : ∀ x ∈ ([6, 8, 9, 10, 11, 12, 13, 15, 16, 17, 18, 22, 29, 31, 32, 34, 35, 36, 37, 39] : List Int), x ∈ ([6, 8, 9, 10, 11, 12, 13, 15, 16, 17, 18, 22, 29, 31, 32, 34, 35, 36, 37, 39] : List Int)) j h9))).trans ((hp_120 j (fun h9 => hj ((by decide : ∀ x ∈ ([6, 8, 9, 10, 22] : List Int), x ∈ ([6, 8, 9, 10, 11, 12, 13, 15, 16, 17, 18, 22, 29, 31, 32, 34, 35, 36, 37, 39] : List Int)) j h9))).trans ((hp_78 j (fun h9 => hj ((by decide : ∀ x ∈ ([6, 8, 9, 10, 11, 12, 13, 15] : List Int), x ∈ ([6, 8, 9, 10, 11, 12, 13, 15, 16, 17, 18, 22, 29, 31, 32, 34, 35, 36, 37, 39] : List Int)) j h9))).trans ((hp_43 j (fun h9 => hj ((by decide : ∀ x ∈ ([6, 8, 9, 10, 11, 12, 13, 15] : List Int), x ∈ ([6, 8, 9, 10, 11, 12, 13, 15, 16, 17, 18, 22, 29, 31, 32, 34, 35, 36, 37, 39] : List Int)) j h9))).trans (hp_6 j (fun h9 => hj ((by decide : ∀ x ∈ ([34, 35, 36, 37] : List Int), x ∈ ([6, 8, 9, 10, 11, 12, 13, 15, 16, 17, 18, 22, 29, 31, 32, 34, 35, 36, 37, 39] : List Int)) j h9)))))))), hp_193, (by (repeat' apply And.intro) <;> omega), (by (repeat' apply And.intro) <;> omega), (by (repeat' apply And.intro) <;> omega), ⟨by omega, (Int.le_trans (Int.le_trans (Int.le_trans (Int.le_trans (Int.le_of_eq (bd_cg (hp_6 15 (by decide)) (hp_6 16 (by decide))).symm) ((hp_46 ()).2)) ((hp_82 ()).2)) (Int.le_of_eq (bd_cg (hp_120 15 (by decide)) (hp_120 16 (by decide))).symm)) ((hp_197 ()).2))⟩, (by (repeat' apply And.intro) <;> omega), (by (repeat' apply And.intro) <;> omega), (fun j hj => ((hwk_209 j (by omega)).trans ((F_119.1 126 (by decide) j).trans ((F_77.1 126 (by decide) j).trans ((F_42.1 126 (by decide) j).trans (F_5.1 126 (by decide) j)))))), (by (repeat' apply And.intro) <;> omega), (by (repeat' apply And.intro) <;> omega), (fun _ h0 => mEY.ql (hq_125 ()) ((hey_210 () h0))), hxt_208⟩
      · have hb1_242 : r_114 = 1 := by omega
        replace c_125 := fun _ : Unit => c_125
        have e_243 : μ75.1 111 22 = μ.1 111 22 := ((hp_78 22 (by decide)).trans ((hp_43 22 (by decide)).trans (hp_6 22 (by decide))))
        have e_244 : μ75.1 111 29 = μ.1 111 29 := ((hp_78 29 (by decide)).trans ((hp_43 29 (by decide)).trans (hp_6 29 (by decide))))
        have e_245 : μ75.1 111 39 = μ.1 111 39 := ((hp_78 39 (by decide)).trans ((hp_43 39 (by decide)).trans (hp_6 39 (by decide))))
        have e_246 : μ75.1 111 31 = μ.1 111 31 := ((hp_78 31 (by decide)).trans ((hp_43 31 (by decide)).trans (hp_6 31 (by decide))))
        have e_247 : μ75.1 111 32 = μ.1 111 32 := ((hp_78 32 (by decide)).trans ((hp_43 32 (by decide)).trans (hp_6 32 (by decide))))
        have hxt_248 : mEXT μ μ75 := (q0m.fr (K := [111]) (Fr.tr (Fr.tr (Fr.tr Fr.rf F_5 (by decide)) F_42 (by decide)) F_77 (by decide)) (by decide) (by decide) (by decide) ((hp_78 22 (by decide)).trans ((hp_43 22 (by decide)).trans (hp_6 22 (by decide)))) (Int.le_trans (Int.le_trans (Int.le_of_eq (hp_6 29 (by decide)).symm) (Int.le_of_eq (hp_43 29 (by decide)).symm)) (Int.le_of_eq (hp_78 29 (by decide)).symm))).1
        exact xr_v G hret hlk dX12_named_128 ⟨(Fr.tr (Fr.tr (Fr.tr Fr.rf F_5 (by decide)) F_42 (by decide)) F_77 (by decide)), (fun j hj => ((hp_78 j (fun h9 => hj ((by decide : ∀ x ∈ ([6, 8, 9, 10, 11, 12, 13, 15] : List Int), x ∈ ([6, 8, 9, 10, 11, 12, 13, 15, 16, 17, 18, 22, 29, 31, 32, 34, 35, 36, 37, 39] : List Int)) j h9))).trans ((hp_43 j (fun h9 => hj ((by decide : ∀ x ∈ ([6, 8, 9, 10, 11, 12, 13, 15] : List Int), x ∈ ([6, 8, 9, 10, 11, 12, 13, 15, 16, 17, 18, 22, 29, 31, 32, 34, 35, 36, 37, 39] : List Int)) j h9))).trans (hp_6 j (fun h9 => hj ((by decide : ∀ x ∈ ([34, 35, 36, 37] : List Int), x ∈ ([6, 8, 9, 10, 11, 12, 13, 15, 16, 17, 18, 22, 29, 31, 32, 34, 35, 36, 37, 39] : List Int)) j h9)))))), hp_79, (by (repeat' apply And.intro) <;> omega), (by (repeat' apply And.intro) <;> omega), (by (repeat' apply And.intro) <;> omega), ⟨by omega, (Int.le_trans (Int.le_trans (Int.le_of_eq (bd_cg (hp_6 15 (by decide)) (hp_6 16 (by decide))).symm) ((hp_46 ()).2)) ((hp_82 ()).2))⟩, (by (repeat' apply And.intro) <;> omega), (by (repeat' apply And.intro) <;> omega), (fun j hj => ((F_77.1 126 (by decide) j).trans ((F_42.1 126 (by decide) j).trans (F_5.1 126 (by decide) j)))), (by (repeat' apply And.intro) <;> omega), (by (repeat' apply And.intro) <;> omega), (fun _ h0 => (by exfalso; omega)), hxt_248⟩
    · have hsg_257 := sf_t (hp_112 ()) c_62
      have hb1_258 : r_110 = 1 := by omega
      replace c_62 := fun _ : Unit => c_62
      refine lv_aload_n hx hb dX12_named_65 rfl (lv_at hl 2 rfl) ?_
      refine lv_iconst (v := iv 3) hx hb dX12_named_66 rfl ?_
      refine lv_aload_n hx hb dX12_named_67 rfl (lv_at hl 2 rfl) ?_
      refine lv_iload_n hx hb dX12_named_68 rfl (lv_at hl 1 rfl) ?_
      refine lv_lload_n hx hb dX12_named_69 rfl (lv_at hl 0 rfl) ?_
      have e_259 : μ75.1 111 31 = μ.1 111 31 := ((hp_78 31 (by decide)).trans ((hp_43 31 (by decide)).trans (hp_6 31 (by decide))))
      refine xc_iV G (b := 111) (rest := [.int (iv 3), .ref (oP ω 111)]) (As := [.int (iv (μ.1 111 9)), .long (jv (μ.1 111 10))]) (c_X12_slot ω l μ75 (μ.1 111 9) (μ.1 111 10) (by unfold ir; exact ⟨by omega, by omega⟩) hj_3 (by (repeat' apply And.intro) <;> omega)) (wm 9 171 rfl rfl) (wm 9 173 rfl rfl) (wm 0 155 rfl rfl) rfl rfl (by decide) rfl (wm 1 18 rfl rfl) (wm 9 174 rfl rfl) (by decide) hR ⟨nfB hF (by decide), nlB hLo (by decide)⟩ (n := 2) rfl rfl (Nat.le_of_ble_eq_true rfl) hl.1 dX12_named_70 (fun r_262 μ261 ρ d0 H locs hr_r_262 hp G => ?_)
      have hr_r_262 : -2147483648 ≤ r_262 ∧ r_262 ≤ 2147483647 := hr_r_262
      obtain ⟨F_263, hp_264, hp_265⟩ := hp
      obtain ⟨hv_268, hv_269, hv_270, hv_271, hv_272, hv_273, hv_274, hv_275, hv_276, hv_277, hv_278, hv_279, hv_280, hv_281, hv_282, hv_283, hv_284, hv_285⟩ : μ.1 111 22 ≤ μ.1 111 22 ∧ μ.1 111 22 ≤ μ.1 111 22 + 2 * (μ75.1 111 9 - μ.1 111 9) + 8 * (nn μ75 - nn μ) - 2 + -6 * wr μ75 ∧ μ.1 111 9 + 1 ≤ μ75.1 111 9 ∧ nn μ + 0 ≤ nn μ75 ∧ nn μ75 ≤ nn μ + 0 + 9 * wr μ75 ∧ nn μ75 ≤ 8 + wr μ75 ∧ 9 * wr μ75 ≤ nn μ75 ∧ nn μ75 ≤ 9 ∧ wr μ ≤ wr μ75 ∧ wr μ75 ≤ 1 ∧ wr μ75 ≤ bd μ75 ∧ bd μ75 ≤ 1 ∧ μ.1 111 29 ≤ μ.1 111 29 ∧ μ.1 111 31 ≤ μ.1 111 31 ∧ μ.1 111 31 ≤ 300 ∧ 0 ≤ μ.1 111 32 ∧ μ.1 111 32 ≤ μ75.1 111 9 ∧ μ75.1 111 9 ≤ 3000 := by (repeat' apply And.intro) <;> omega
      clear hv_90 hv_91 hv_92 hv_93 hv_94 hv_95 hv_96 hv_97 hv_98 hv_99 hv_100 hv_101 hv_102 hv_103 hv_104 hv_105 hv_106 hv_107 hw_108 e_259
      refine xb_i2l hx hb (by unfold ir; exact ⟨by omega, by omega⟩) dX12_named_73 ?_
      refine lv_iconst (v := iv 0) hx hb dX12_named_74 rfl ?_
      have hq_286 : ∀ _ : Unit, q0m μ μ261 := fun _ => (q0m.fr (K := [111]) (Fr.tr (Fr.tr (Fr.tr (Fr.tr Fr.rf F_5 (by decide)) F_42 (by decide)) F_77 (by decide)) F_263 (by decide)) (by decide) (by decide) (by decide) ((hp_264 22 (by decide)).trans ((hp_78 22 (by decide)).trans ((hp_43 22 (by decide)).trans (hp_6 22 (by decide))))) (Int.le_trans (Int.le_trans (Int.le_trans (Int.le_of_eq (hp_6 29 (by decide)).symm) (Int.le_of_eq (hp_43 29 (by decide)).symm)) (Int.le_of_eq (hp_78 29 (by decide)).symm)) (Int.le_of_eq (hp_264 29 (by decide)).symm)))
      have e_287 : wr μ261 = wr μ75 := (wr_cg (hp_264 15 (by decide)))
      have hw_288 := wr_r (μ := μ75)
      have e_289 : bd μ261 = bd μ75 := (bd_cg (hp_264 15 (by decide)) (hp_264 16 (by decide)))
      have e_290 : nn μ261 = nn μ75 := (nn_cg (hp_264 15 (by decide)) (hp_264 18 (by decide)))
      have hht_291 : ∀ _ : Unit, bd μ261 = 0 → mHt μ261 0 := fun _ h0 => (hht_0 () (bd_z (Int.le_trans (Int.le_trans (Int.le_trans (Int.le_of_eq (bd_cg (hp_6 15 (by decide)) (hp_6 16 (by decide))).symm) ((hp_46 ()).2)) ((hp_82 ()).2)) (Int.le_of_eq (bd_cg (hp_264 15 (by decide)) (hp_264 16 (by decide))).symm)) h0)).qm (hq_286 ())
      have e_292 : μ261.1 111 29 = μ.1 111 29 := ((hp_264 29 (by decide)).trans ((hp_78 29 (by decide)).trans ((hp_43 29 (by decide)).trans (hp_6 29 (by decide)))))
      have hxt_293 : mEXT μ μ261 := (q0m.fr (K := [111]) (Fr.tr (Fr.tr (Fr.tr (Fr.tr Fr.rf F_5 (by decide)) F_42 (by decide)) F_77 (by decide)) F_263 (by decide)) (by decide) (by decide) (by decide) ((hp_264 22 (by decide)).trans ((hp_78 22 (by decide)).trans ((hp_43 22 (by decide)).trans (hp_6 22 (by decide))))) (Int.le_trans (Int.le_trans (Int.le_trans (Int.le_of_eq (hp_6 29 (by decide)).symm) (Int.le_of_eq (hp_43 29 (by decide)).symm)) (Int.le_of_eq (hp_78 29 (by decide)).symm)) (Int.le_of_eq (hp_264 29 (by decide)).symm))).1
      have e_294 : μ261.1 111 22 = μ.1 111 22 := ((hp_264 22 (by decide)).trans ((hp_78 22 (by decide)).trans ((hp_43 22 (by decide)).trans (hp_6 22 (by decide)))))
      refine xc_iV G (b := 111) (rest := []) (As := [.int (iv 3), .long (jv r_262), .int (iv 0)]) (c_X12_emit ω l μ261 3 r_262 0 (by unfold ir; decide) (by unfold jr; omega) (by unfold ir; decide) (by (repeat' apply And.intro) <;> omega)) (wm 9 126 rfl rfl) (wm 9 128 rfl rfl) (wm 0 144 rfl rfl) rfl rfl (by decide) rfl (wm 1 18 rfl rfl) (wm 9 129 rfl rfl) (by decide) hR ⟨nfB hF (by decide), nlB hLo (by decide)⟩ (n := 3) rfl rfl (Nat.le_of_ble_eq_true rfl) hl.1 dX12_named_75 (fun r_299 μ298 ρ d0 H locs hr_r_299 hp G => ?_)
      have hr_r_299 : -2147483648 ≤ r_299 ∧ r_299 ≤ 2147483647 := hr_r_299
      obtain ⟨F_300, hp_301, hp_302, hp_303, hp_304⟩ := hp
      have hxt_305 : mEXT μ μ298 := hxt_293.tr hp_302.1
      have hht_306 : ∀ _ : Unit, bd μ298 = 0 → mHt μ298 1 := fun _ h0 => (hht_291 () (bd_z (Int.le_of_eq (bd_cg (hp_301 15 (by decide)) (hp_301 16 (by decide))).symm) h0)).ad hp_302 rfl
      have vl_307 := hp_304
      replace hp_304 := fun _ : Unit => hp_304
      obtain ⟨hv_310, hv_311, hv_312, hv_313, hv_314, hv_315, hv_316, hv_317, hv_318, hv_319, hv_320, hv_321, hv_322, hv_323, hv_324, hv_325, hv_326, hv_327⟩ : μ.1 111 22 ≤ μ298.1 111 22 ∧ μ298.1 111 22 ≤ μ.1 111 22 + 2 * (μ75.1 111 9 - μ.1 111 9) + 8 * (nn μ75 - nn μ) - 1 + -6 * wr μ75 ∧ μ.1 111 9 + 1 ≤ μ75.1 111 9 ∧ nn μ + 0 ≤ nn μ75 ∧ nn μ75 ≤ nn μ + 0 + 9 * wr μ75 ∧ nn μ75 ≤ 8 + wr μ75 ∧ 9 * wr μ75 ≤ nn μ75 ∧ nn μ75 ≤ 9 ∧ wr μ ≤ wr μ75 ∧ wr μ75 ≤ 1 ∧ wr μ75 ≤ bd μ75 ∧ bd μ75 ≤ 1 ∧ μ.1 111 29 ≤ μ.1 111 29 ∧ μ.1 111 31 ≤ μ.1 111 31 ∧ μ.1 111 31 ≤ 300 ∧ 0 ≤ μ.1 111 32 ∧ μ.1 111 32 ≤ μ75.1 111 9 ∧ μ75.1 111 9 ≤ 3000 := by (repeat' apply And.intro) <;> omega
      clear hv_268 hv_269 hv_270 hv_271 hv_272 hv_273 hv_274 hv_275 hv_276 hv_277 hv_278 hv_279 hv_280 hv_281 hv_282 hv_283 hv_284 hv_285 e_287 hw_288 e_289 e_290 e_292 e_294 vl_307
      refine lv_pop hx hb dX12_named_78 rfl ?_
      refine lv_aload_n hx hb dX12_named_79 rfl (lv_at hl 2 rfl) ?_
      have hPM_328 : PM μ298 := hp_79.cg ((((hp_301 4 (by decide)).trans ((hp_264 4 (by decide)).trans ((hp_78 4 (by decide)).trans ((hp_43 4 (by decide)).trans (hp_6 4 (by decide))))))).trans (((hp_78 4 (by decide)).trans ((hp_43 4 (by decide)).trans (hp_6 4 (by decide))))).symm) ((hp_301 6 (by decide)).trans (hp_264 6 (by decide))) ((((hp_301 7 (by decide)).trans ((hp_264 7 (by decide)).trans ((hp_78 7 (by decide)).trans ((hp_43 7 (by decide)).trans (hp_6 7 (by decide))))))).trans (((hp_78 7 (by decide)).trans ((hp_43 7 (by decide)).trans (hp_6 7 (by decide))))).symm) ((hp_301 8 (by decide)).trans (hp_264 8 (by decide))) ((hp_301 9 (by decide)).trans (hp_264 9 (by decide))) ((hp_301 11 (by decide)).trans (hp_264 11 (by decide))) ((hp_301 12 (by decide)).trans (hp_264 12 (by decide))) ((((hp_301 14 (by decide)).trans ((hp_264 14 (by decide)).trans ((hp_78 14 (by decide)).trans ((hp_43 14 (by decide)).trans ((hp_6 14 (by decide)).trans htt.symm)))))).trans (((hp_78 14 (by decide)).trans ((hp_43 14 (by decide)).trans ((hp_6 14 (by decide)).trans htt.symm)))).symm) ((hp_301 15 (by decide)).trans (hp_264 15 (by decide))) ((((hp_301 29 (by decide)).trans ((hp_264 29 (by decide)).trans ((hp_78 29 (by decide)).trans ((hp_43 29 (by decide)).trans (hp_6 29 (by decide))))))).trans (((hp_78 29 (by decide)).trans ((hp_43 29 (by decide)).trans (hp_6 29 (by decide))))).symm) (fun j => ((F_300.1 123 (by decide) j).trans (F_263.1 123 (by decide) j)))
      have e_329 : wr μ298 = wr μ75 := ((wr_cg (hp_301 15 (by decide))).trans (wr_cg (hp_264 15 (by decide))))
      have hw_330 := wr_r (μ := μ75)
      have e_331 : nn μ298 = nn μ75 := ((nn_cg (hp_301 15 (by decide)) (hp_301 18 (by decide))).trans (nn_cg (hp_264 15 (by decide)) (hp_264 18 (by decide))))
      have e_332 : μ298.1 111 8 = μ75.1 111 8 := ((hp_301 8 (by decide)).trans (hp_264 8 (by decide)))
      have e_336 : μ298.1 111 9 = μ75.1 111 9 := ((hp_301 9 (by decide)).trans (hp_264 9 (by decide)))
      have e_339 : bd μ298 = bd μ75 := ((bd_cg (hp_301 15 (by decide)) (hp_301 16 (by decide))).trans (bd_cg (hp_264 15 (by decide)) (hp_264 16 (by decide))))
      refine xc_vV G (b := 111) (rest := []) (As := []) (c_X12_opens ω l μ298  hPM_328 (by (repeat' apply And.intro) <;> omega) (by (repeat' apply And.intro) <;> omega) (by (repeat' apply And.intro) <;> omega)) (wm 9 94 rfl rfl) (wm 9 96 rfl rfl) (wm 0 136 rfl rfl) rfl rfl (by decide) rfl (wm 1 18 rfl rfl) (wm 9 97 rfl rfl) (by decide) hR ⟨nfB hF (by decide), nlB hLo (by decide)⟩ (n := 0) rfl rfl (Nat.le_of_ble_eq_true rfl) hl.1 dX12_named_80 (fun μ342 ρ d0 H locs hp G => ?_)
      obtain ⟨F_343, hp_344, hp_345, hp_346, hp_347, hp_348, hp_349⟩ := hp
      have hpl_350 := hp_345.pl
      have hw_351 := wr_r (μ := μ342)
      have hw_352 := wr_r (μ := μ298)
      have vl_353 := hp_346
      replace hp_346 := fun _ : Unit => hp_346
      have vl_354 := hp_347
      replace hp_347 := fun _ : Unit => hp_347
      have vl_355 := hp_348
      replace hp_348 := fun _ : Unit => hp_348
      have vl_356 := hp_349
      replace hp_349 := fun _ : Unit => hp_349
      obtain ⟨hv_359, hv_360, hv_361, hv_362, hv_363, hv_364, hv_365, hv_366, hv_367, hv_368, hv_369, hv_370, hv_371, hv_372, hv_373, hv_374, hv_375, hv_376⟩ : μ.1 111 22 ≤ μ298.1 111 22 ∧ μ298.1 111 22 ≤ μ.1 111 22 + 2 * (μ342.1 111 9 - μ.1 111 9) + 8 * (nn μ342 - nn μ) - 11 + 4 * wr μ342 ∧ μ.1 111 9 + 1 ≤ μ342.1 111 9 ∧ nn μ + 1 ≤ nn μ342 ∧ nn μ342 ≤ nn μ + 1 + 9 * wr μ342 ∧ nn μ342 ≤ 8 + wr μ342 ∧ 9 * wr μ342 ≤ nn μ342 ∧ nn μ342 ≤ 9 ∧ wr μ ≤ wr μ342 ∧ wr μ342 ≤ 1 ∧ wr μ342 ≤ bd μ342 ∧ bd μ342 ≤ 1 ∧ μ.1 111 29 ≤ μ.1 111 29 ∧ μ.1 111 31 ≤ μ.1 111 31 ∧ μ.1 111 31 ≤ 300 ∧ 0 ≤ μ.1 111 32 ∧ μ.1 111 32 ≤ μ342.1 111 9 ∧ μ342.1 111 9 ≤ 3000 := by (repeat' apply And.intro) <;> omega
      clear hv_310 hv_311 hv_312 hv_313 hv_314 hv_315 hv_316 hv_317 hv_318 hv_319 hv_320 hv_321 hv_322 hv_323 hv_324 hv_325 hv_326 hv_327 e_329 hw_330 e_331 e_332 e_336 e_339 hpl_350 hw_351 hw_352 vl_353 vl_354 vl_355 vl_356
      refine lv_aload_n hx hb dX12_named_83 rfl (lv_at hl 2 rfl) ?_
      have hq_377 : ∀ _ : Unit, q0m μ298 μ342 := fun _ => (q0m.fr (K := [111]) (Fr.tr Fr.rf F_343 (by decide)) (by decide) (by decide) (by decide) (hp_344 22 (by decide)) (Int.le_of_eq (hp_344 29 (by decide)).symm))
      have hw_378 := wr_r (μ := μ342)
      have hht_379 : ∀ _ : Unit, bd μ342 = 0 → mHt μ342 1 := fun _ h0 => (hht_306 () (bd_z ((hp_348 ()).2) h0)).qm (hq_377 ())
      have e_380 : μ342.1 111 29 = μ.1 111 29 := ((hp_344 29 (by decide)).trans ((hp_301 29 (by decide)).trans ((hp_264 29 (by decide)).trans ((hp_78 29 (by decide)).trans ((hp_43 29 (by decide)).trans (hp_6 29 (by decide)))))))
      have hxt_381 : mEXT μ μ342 := hxt_305.tr (q0m.fr (K := [111]) (Fr.tr Fr.rf F_343 (by decide)) (by decide) (by decide) (by decide) (hp_344 22 (by decide)) (Int.le_of_eq (hp_344 29 (by decide)).symm)).1
      have e_382 : μ342.1 111 14 = tt := ((hp_344 14 (by decide)).trans ((hp_301 14 (by decide)).trans ((hp_264 14 (by decide)).trans ((hp_78 14 (by decide)).trans ((hp_43 14 (by decide)).trans ((hp_6 14 (by decide)).trans htt.symm))))))
      have e_383 : μ342.1 111 22 = μ298.1 111 22 := (hp_344 22 (by decide))
      have e_385 : μ342.1 111 39 = μ.1 111 39 := ((hp_344 39 (by decide)).trans ((hp_301 39 (by decide)).trans ((hp_264 39 (by decide)).trans ((hp_78 39 (by decide)).trans ((hp_43 39 (by decide)).trans (hp_6 39 (by decide)))))))
      have e_388 : μ342.1 111 31 = μ.1 111 31 := ((hp_344 31 (by decide)).trans ((hp_301 31 (by decide)).trans ((hp_264 31 (by decide)).trans ((hp_78 31 (by decide)).trans ((hp_43 31 (by decide)).trans (hp_6 31 (by decide)))))))
      refine xc_vV G (b := 111) (rest := []) (As := []) (c_X12_expr_a ω l μ342 tt (by (repeat' apply And.intro) <;> omega) hp_345 (by (repeat' apply And.intro) <;> omega) (by (repeat' apply And.intro) <;> omega) (by (repeat' apply And.intro) <;> omega) (by (repeat' apply And.intro) <;> omega) (by (repeat' apply And.intro) <;> omega) (fun _ h0 => (hht_379 () h0).p (by decide))) (wm 9 139 rfl rfl) (wm 9 141 rfl rfl) (wm 0 147 rfl rfl) rfl rfl (by decide) rfl (wm 1 18 rfl rfl) (wm 9 142 rfl rfl) (by decide) hR ⟨nfB hF (by decide), nlB hLo (by decide)⟩ (n := 0) rfl rfl (Nat.le_of_ble_eq_true rfl) hl.1 dX12_named_84 (fun μ394 ρ d0 H locs hp G => ?_)
      obtain ⟨F_395, hp_396, hp_397, hp_398, hp_399, hp_400, hp_401, hp_402, hp_403, hp_404, hp_405, hp_406⟩ := hp
      have hpl_407 := hp_397.pl
      have hw_408 := wr_r (μ := μ394)
      have hxt_409 : mEXT μ μ394 := hxt_381.tr hp_406
      have hwk_410 : ∀ j, j < μ.1 111 39 → μ394.1 126 j = μ342.1 126 j := fun j hj => hp_404 j (by omega)
      have hex_411 : ∀ _ : Unit, bd μ394 = 0 → mEX μ342 μ394 tt 1 0 99 := fun _ h0 => (hp_405 () h0).mn (Int.le_refl _) (by omega)
      have hht_412 : ∀ _ : Unit, bd μ394 = 0 → mHt μ394 2 := fun _ h0 => (hht_379 () (bd_z (hp_401.2) h0)).ex (hex_411 () h0) rfl
      have vl_413 := hp_398
      replace hp_398 := fun _ : Unit => hp_398
      have vl_414 := hp_399
      replace hp_399 := fun _ : Unit => hp_399
      have vl_415 := hp_400
      replace hp_400 := fun _ : Unit => hp_400
      have vl_416 := hp_401
      replace hp_401 := fun _ : Unit => hp_401
      have vl_417 := hp_402
      replace hp_402 := fun _ : Unit => hp_402
      have vl_418 := hp_403
      replace hp_403 := fun _ : Unit => hp_403
      have h39_419 : μ394.1 111 39 = μ.1 111 39 := by omega
      obtain ⟨hv_422, hv_423, hv_424, hv_425, hv_426, hv_427, hv_428, hv_429, hv_430, hv_431, hv_432, hv_433, hv_434, hv_435, hv_436, hv_437, hv_438, hv_439⟩ : μ.1 111 22 ≤ μ394.1 111 22 ∧ μ394.1 111 22 ≤ μ.1 111 22 + 2 * (μ394.1 111 9 - μ.1 111 9) + 8 * (nn μ394 - nn μ) - 12 + 5 * wr μ394 ∧ μ.1 111 9 + 1 ≤ μ394.1 111 9 ∧ nn μ + 1 ≤ nn μ394 ∧ nn μ394 ≤ nn μ + 1 + 9 * wr μ394 ∧ nn μ394 ≤ 8 + wr μ394 ∧ 9 * wr μ394 ≤ nn μ394 ∧ nn μ394 ≤ 9 ∧ wr μ ≤ wr μ394 ∧ wr μ394 ≤ 1 ∧ wr μ394 ≤ bd μ394 ∧ bd μ394 ≤ 1 ∧ μ.1 111 29 ≤ μ394.1 111 29 ∧ μ.1 111 31 ≤ μ.1 111 31 ∧ μ.1 111 31 ≤ 300 ∧ 0 ≤ μ.1 111 32 ∧ μ.1 111 32 ≤ μ394.1 111 9 ∧ μ394.1 111 9 ≤ 3000 := by (repeat' apply And.intro) <;> omega
      clear hv_359 hv_360 hv_361 hv_362 hv_363 hv_364 hv_365 hv_366 hv_367 hv_368 hv_369 hv_370 hv_371 hv_372 hv_373 hv_374 hv_375 hv_376 hw_378 e_380 e_382 e_383 e_385 e_388 hpl_407 hw_408 vl_413 vl_414 vl_415 vl_416 vl_417 vl_418
      refine lv_aload_n hx hb dX12_named_87 rfl (lv_at hl 2 rfl) ?_
      refine lv_bipush (v := iv 93) hx hb dX12_named_88 rfl ?_
      have hw_440 := wr_r (μ := μ394)
      refine xc_vV G (b := 111) (rest := []) (As := [.int (iv 93)]) (c_X12_closesWith ω l μ394 93 (by unfold ir; decide) hp_397 (by (repeat' apply And.intro) <;> omega) (by (repeat' apply And.intro) <;> omega)) (wm 9 110 rfl rfl) (wm 9 112 rfl rfl) (wm 0 140 rfl rfl) rfl rfl (by decide) rfl (wm 1 18 rfl rfl) (wm 9 113 rfl rfl) (by decide) hR ⟨nfB hF (by decide), nlB hLo (by decide)⟩ (n := 1) rfl rfl (Nat.le_of_ble_eq_true rfl) hl.1 dX12_named_90 (fun μ441 ρ d0 H locs hp G => ?_)
      obtain ⟨F_442, hp_443, hp_444, hp_445, hp_446, hp_447, hp_448⟩ := hp
      have hpl_449 := hp_444.pl
      have hw_450 := wr_r (μ := μ441)
      have vl_451 := hp_445
      replace hp_445 := fun _ : Unit => hp_445
      have vl_452 := hp_446
      replace hp_446 := fun _ : Unit => hp_446
      have vl_453 := hp_447
      replace hp_447 := fun _ : Unit => hp_447
      have vl_454 := hp_448
      replace hp_448 := fun _ : Unit => hp_448
      obtain ⟨hv_457, hv_458, hv_459, hv_460, hv_461, hv_462, hv_463, hv_464, hv_465, hv_466, hv_467, hv_468, hv_469, hv_470, hv_471, hv_472, hv_473, hv_474⟩ : μ.1 111 22 ≤ μ394.1 111 22 ∧ μ394.1 111 22 ≤ μ.1 111 22 + 2 * (μ441.1 111 9 - μ.1 111 9) + 8 * (nn μ441 - nn μ) - 6 + -1 * wr μ441 ∧ μ.1 111 9 + 1 ≤ μ441.1 111 9 ∧ nn μ + 0 ≤ nn μ441 ∧ nn μ441 ≤ nn μ + 0 + 9 * wr μ441 ∧ nn μ441 ≤ 8 + wr μ441 ∧ 9 * wr μ441 ≤ nn μ441 ∧ nn μ441 ≤ 9 ∧ wr μ ≤ wr μ441 ∧ wr μ441 ≤ 1 ∧ wr μ441 ≤ bd μ441 ∧ bd μ441 ≤ 1 ∧ μ.1 111 29 ≤ μ394.1 111 29 ∧ μ.1 111 31 ≤ μ.1 111 31 ∧ μ.1 111 31 ≤ 300 ∧ 0 ≤ μ.1 111 32 ∧ μ.1 111 32 ≤ μ441.1 111 9 ∧ μ441.1 111 9 ≤ 3000 := by (repeat' apply And.intro) <;> omega
      clear hv_422 hv_423 hv_424 hv_425 hv_426 hv_427 hv_428 hv_429 hv_430 hv_431 hv_432 hv_433 hv_434 hv_435 hv_436 hv_437 hv_438 hv_439 hw_440 hpl_449 hw_450 vl_451 vl_452 vl_453 vl_454
      refine lv_aload_n hx hb dX12_named_93 rfl (lv_at hl 2 rfl) ?_
      refine lv_bipush (v := iv 61) hx hb dX12_named_94 rfl ?_
      have hw_475 := wr_r (μ := μ441)
      refine xc_iV G (b := 111) (rest := []) (As := [.int (iv 61)]) (c_X12_takesSign ω l μ441 61 (by unfold ir; decide) hp_444 (by (repeat' apply And.intro) <;> omega)) (wm 9 106 rfl rfl) (wm 9 108 rfl rfl) (wm 0 139 rfl rfl) rfl rfl (by decide) rfl (wm 1 18 rfl rfl) (wm 9 109 rfl rfl) (by decide) hR ⟨nfB hF (by decide), nlB hLo (by decide)⟩ (n := 1) rfl rfl (Nat.le_of_ble_eq_true rfl) hl.1 dX12_named_96 (fun r_477 μ476 ρ d0 H locs hr_r_477 hp G => ?_)
      have hr_r_477 : -2147483648 ≤ r_477 ∧ r_477 ≤ 2147483647 := hr_r_477
      obtain ⟨F_478, hp_479, hp_480, hp_481, hp_482, hp_483, hp_484⟩ := hp
      have hpl_485 := hp_480.pl
      have hw_486 := wr_r (μ := μ476)
      have vl_487 := hp_483
      replace hp_483 := fun _ : Unit => hp_483
      have vl_488 := hp_484
      replace hp_484 := fun _ : Unit => hp_484
      obtain ⟨hv_491, hv_492, hv_493, hv_494, hv_495, hv_496, hv_497, hv_498, hv_499, hv_500, hv_501, hv_502, hv_503, hv_504, hv_505, hv_506, hv_507, hv_508⟩ : μ.1 111 22 ≤ μ394.1 111 22 ∧ μ394.1 111 22 ≤ μ.1 111 22 + 2 * (μ476.1 111 9 - μ.1 111 9) + 8 * (nn μ476 - nn μ) - 6 + -1 * wr μ476 ∧ μ.1 111 9 + 1 ≤ μ476.1 111 9 ∧ nn μ + 0 ≤ nn μ476 ∧ nn μ476 ≤ nn μ + 0 + 9 * wr μ476 ∧ nn μ476 ≤ 8 + wr μ476 ∧ 9 * wr μ476 ≤ nn μ476 ∧ nn μ476 ≤ 9 ∧ wr μ ≤ wr μ476 ∧ wr μ476 ≤ 1 ∧ wr μ476 ≤ bd μ476 ∧ bd μ476 ≤ 1 ∧ μ.1 111 29 ≤ μ394.1 111 29 ∧ μ.1 111 31 ≤ μ.1 111 31 ∧ μ.1 111 31 ≤ 300 ∧ 0 ≤ μ.1 111 32 ∧ μ.1 111 32 ≤ μ476.1 111 9 ∧ μ476.1 111 9 ≤ 3000 := by (repeat' apply And.intro) <;> omega
      clear hv_457 hv_458 hv_459 hv_460 hv_461 hv_462 hv_463 hv_464 hv_465 hv_466 hv_467 hv_468 hv_469 hv_470 hv_471 hv_472 hv_473 hv_474 hw_475 hpl_485 hw_486 vl_487 vl_488
      refine xb_if_eq (tgt := 121) hx hb (by unfold ir; exact ⟨by omega, by omega⟩) dX12_named_99 (by decide) (fun c_99 => ?_) (fun c_99 => ?_)
      · refine lv_aload_n hx hb dX12_named_121 rfl (lv_at hl 2 rfl) ?_
        have hw_509 := wr_r (μ := μ476)
        refine xc_iV G (b := 111) (rest := []) (As := []) (c_X12_isWrong ω l μ476  ) (wm 9 4 rfl rfl) (wm 9 6 rfl rfl) (wm 0 120 rfl rfl) rfl rfl (by decide) rfl (wm 1 18 rfl rfl) (wm 9 7 rfl rfl) (by decide) hR ⟨nfB hF (by decide), nlB hLo (by decide)⟩ (n := 0) rfl rfl (Nat.le_of_ble_eq_true rfl) hl.1 dX12_named_122 (fun r_511 μ510 ρ d0 H locs hr_r_511 hp G => ?_)
        have hr_r_511 : -2147483648 ≤ r_511 ∧ r_511 ≤ 2147483647 := hr_r_511
        obtain ⟨hsm_512, hp_513⟩ := hp
        have hsm_512 := Eq.symm hsm_512
        subst hsm_512
        refine xb_if_eq (tgt := 129) hx hb (by unfold ir; exact ⟨by omega, by omega⟩) dX12_named_125 (by decide) (fun c_125 => ?_) (fun c_125 => ?_)
        · refine lv_aload_n hx hb dX12_named_129 rfl (lv_at hl 2 rfl) ?_
          have hxt_514 : mEXT μ μ476 := hxt_409.tr (q0m.fr (K := [111]) (Fr.tr (Fr.tr Fr.rf F_442 (by decide)) F_478 (by decide)) (by decide) (by decide) (by decide) ((hp_479 22 (by decide)).trans (hp_443 22 (by decide))) (Int.le_trans (Int.le_of_eq (hp_443 29 (by decide)).symm) (Int.le_of_eq (hp_479 29 (by decide)).symm))).1
          have hwh_ := hp_480.1.2.2.2.2.1
          refine xc_vV G (b := 111) (rest := []) (As := []) (c_X12_goesBack ω l μ476  ) (wm 10 47 rfl rfl) (wm 10 49 rfl rfl) (wm 0 183 rfl rfl) rfl rfl (by decide) rfl (wm 1 18 rfl rfl) (wm 10 50 rfl rfl) (by decide) hR ⟨nfB hF (by decide), nlB hLo (by decide)⟩ (n := 0) rfl rfl (Nat.le_of_ble_eq_true rfl) hl.1 dX12_named_130 (fun μ515 ρ d0 H locs hp G => ?_)
          obtain ⟨F_516, hp_517, hs_518, hs_519, hs_520, hs_521⟩ := hp
          have hkb_523 : μ476.1 111 34 = μ.1 111 6 := ((hp_479 34 (by decide)).trans ((hp_443 34 (by decide)).trans ((hp_396 34 (by decide)).trans ((hp_344 34 (by decide)).trans ((hp_301 34 (by decide)).trans ((hp_264 34 (by decide)).trans ((hp_78 34 (by decide)).trans ((hp_43 34 (by decide)).trans hs_7))))))))
          have hkb_524 : μ476.1 111 35 = μ.1 111 9 := ((hp_479 35 (by decide)).trans ((hp_443 35 (by decide)).trans ((hp_396 35 (by decide)).trans ((hp_344 35 (by decide)).trans ((hp_301 35 (by decide)).trans ((hp_264 35 (by decide)).trans ((hp_78 35 (by decide)).trans ((hp_43 35 (by decide)).trans hs_8))))))))
          have hkb_525 : μ476.1 111 37 = μ.1 111 22 := ((hp_479 37 (by decide)).trans ((hp_443 37 (by decide)).trans ((hp_396 37 (by decide)).trans ((hp_344 37 (by decide)).trans ((hp_301 37 (by decide)).trans ((hp_264 37 (by decide)).trans ((hp_78 37 (by decide)).trans ((hp_43 37 (by decide)).trans hs_9))))))))
          have h22_ : μ515.1 111 22 = μ.1 111 22 := by rw [show μ515.1 111 22 = μ476.1 111 37 from hs_520]; omega
          have hq_522 : ∀ _ : Unit, q0m μ μ515 := fun _ => q0m.back hxt_514 h22_ (Int.le_of_eq (hp_517 29 (by decide)).symm) (fun j => F_516.1 115 (by decide) j) (fun j => F_516.1 116 (by decide) j) (fun j => F_516.1 117 (by decide) j)
          obtain ⟨hv_528, hv_529, hv_530, hv_531, hv_532, hv_533, hv_534, hv_535, hv_536, hv_537, hv_538, hv_539, hv_540, hv_541, hv_542, hv_543, hv_544, hv_545⟩ : μ.1 111 22 ≤ μ476.1 111 37 ∧ μ476.1 111 37 ≤ μ.1 111 22 + 2 * (μ476.1 111 35 - μ.1 111 9) + 8 * (nn μ476 - nn μ) + 0 + -100 * wr μ476 ∧ μ.1 111 9 + 0 ≤ μ476.1 111 35 ∧ nn μ + 0 ≤ nn μ476 ∧ nn μ476 ≤ nn μ + 0 + 9 * wr μ476 ∧ nn μ476 ≤ 8 + wr μ476 ∧ 9 * wr μ476 ≤ nn μ476 ∧ nn μ476 ≤ 9 ∧ wr μ ≤ wr μ476 ∧ wr μ476 ≤ 1 ∧ wr μ476 ≤ bd μ476 ∧ bd μ476 ≤ 1 ∧ μ.1 111 29 ≤ μ394.1 111 29 ∧ μ.1 111 31 ≤ μ.1 111 31 ∧ μ.1 111 31 ≤ 300 ∧ 0 ≤ μ.1 111 32 ∧ μ.1 111 32 ≤ μ476.1 111 35 ∧ μ476.1 111 35 ≤ 3000 := by (repeat' apply And.intro) <;> omega
          clear hv_491 hv_492 hv_493 hv_494 hv_495 hv_496 hv_497 hv_498 hv_499 hv_500 hv_501 hv_502 hv_503 hv_504 hv_505 hv_506 hv_507 hv_508 hw_509
          have hht_546 : ∀ _ : Unit, bd μ515 = 0 → mHt μ515 0 := fun _ h0 => (hht_0 () (bd_z (Int.le_trans (Int.le_trans (Int.le_trans (Int.le_trans (Int.le_trans (Int.le_trans (Int.le_trans (Int.le_trans (Int.le_trans (Int.le_of_eq (bd_cg (hp_6 15 (by decide)) (hp_6 16 (by decide))).symm) ((hp_46 ()).2)) ((hp_82 ()).2)) (Int.le_of_eq (bd_cg (hp_264 15 (by decide)) (hp_264 16 (by decide))).symm)) (Int.le_of_eq (bd_cg (hp_301 15 (by decide)) (hp_301 16 (by decide))).symm)) ((hp_348 ()).2)) ((hp_401 ()).2)) ((hp_447 ()).2)) ((hp_483 ()).2)) (Int.le_of_eq (bd_cg (hp_517 15 (by decide)) (hp_517 16 (by decide))).symm)) h0)).qm (hq_522 ())
          obtain ⟨ht1, ht2, ht3, ht4, ht5, ht6⟩ := id hPM.1
          replace ht6 := fun _ : Unit => ht6
          replace ht3 := fun _ : Unit => ht3
          have ht3 : μ.1 111 9 + 1 ≤ μ.1 111 6 := by have h8 := (wr_0 (μ := μ)).1 (by omega); rcases ht3 () with q | q | q; omega; exact q; exact absurd h8 q
          have e_548 : μ515.1 111 6 = μ476.1 111 34 := hs_518
          have e_549 : μ515.1 111 7 = μ.1 111 7 := ((hp_517 7 (by decide)).trans ((hp_479 7 (by decide)).trans ((hp_443 7 (by decide)).trans ((hp_396 7 (by decide)).trans ((hp_344 7 (by decide)).trans ((hp_301 7 (by decide)).trans ((hp_264 7 (by decide)).trans ((hp_78 7 (by decide)).trans ((hp_43 7 (by decide)).trans (hp_6 7 (by decide)))))))))))
          have e_550 : μ515.1 111 8 = 0 := hs_521
          have e_551 : μ515.1 111 9 = μ476.1 111 35 := hs_519
          have e_552 : μ515.1 111 11 = μ476.1 111 11 := (hp_517 11 (by decide))
          have e_553 : μ515.1 111 14 = tt := ((hp_517 14 (by decide)).trans ((hp_479 14 (by decide)).trans ((hp_443 14 (by decide)).trans ((hp_396 14 (by decide)).trans ((hp_344 14 (by decide)).trans ((hp_301 14 (by decide)).trans ((hp_264 14 (by decide)).trans ((hp_78 14 (by decide)).trans ((hp_43 14 (by decide)).trans ((hp_6 14 (by decide)).trans htt.symm))))))))))
          have e_554 : wr μ515 = wr μ476 := (wr_cg (hp_517 15 (by decide)))
          have hw_555 := wr_r (μ := μ476)
          have hPM_547 : PM μ515 := ⟨by
            have hw9 := wr_0 (μ := μ515)
            refine ⟨by omega, by omega, ?_, by omega, by omega, fun q => absurd q (by omega)⟩
            by_cases q9 : μ515.1 111 8 = 4
            · exact Or.inl q9
            · exact Or.inr (Or.inl (by omega))
            , (NP.cg (hp_517 4 (by decide)) (hp_517 29 (by decide)) (fun j => F_516.1 123 (by decide) j) hp_480.2)⟩
          refine lv_aload_n hx hb dX12_named_133 rfl (lv_at hl 2 rfl) ?_
          have e_556 : μ515.1 111 29 = μ394.1 111 29 := ((hp_517 29 (by decide)).trans ((hp_479 29 (by decide)).trans (hp_443 29 (by decide))))
          have e_559 : nn μ515 = nn μ476 := (nn_cg (hp_517 15 (by decide)) (hp_517 18 (by decide)))
          have e_562 : μ515.1 111 22 = μ476.1 111 37 := hs_520
          have e_566 : μ515.1 111 39 = μ394.1 111 39 := ((hp_517 39 (by decide)).trans ((hp_479 39 (by decide)).trans (hp_443 39 (by decide))))
          have e_569 : μ515.1 111 31 = μ.1 111 31 := ((hp_517 31 (by decide)).trans ((hp_479 31 (by decide)).trans ((hp_443 31 (by decide)).trans ((hp_396 31 (by decide)).trans ((hp_344 31 (by decide)).trans ((hp_301 31 (by decide)).trans ((hp_264 31 (by decide)).trans ((hp_78 31 (by decide)).trans ((hp_43 31 (by decide)).trans (hp_6 31 (by decide)))))))))))
          have e_571 : μ515.1 111 32 = μ.1 111 32 := ((hp_517 32 (by decide)).trans ((hp_479 32 (by decide)).trans ((hp_443 32 (by decide)).trans ((hp_396 32 (by decide)).trans ((hp_344 32 (by decide)).trans ((hp_301 32 (by decide)).trans ((hp_264 32 (by decide)).trans ((hp_78 32 (by decide)).trans ((hp_43 32 (by decide)).trans (hp_6 32 (by decide)))))))))))
          have e_583 : bd μ515 = bd μ476 := (bd_cg (hp_517 15 (by decide)) (hp_517 16 (by decide)))
          refine xc_vV G (b := 111) (rest := []) (As := []) (c_X12_plain ω l μ515 F Lo kf tt (by (repeat' apply And.intro) <;> omega) hF hLo hK hPM_547 (by (repeat' apply And.intro) <;> omega) (by (repeat' apply And.intro) <;> omega) (by (repeat' apply And.intro) <;> omega) (by (repeat' apply And.intro) <;> omega) (by (repeat' apply And.intro) <;> omega) (by (repeat' apply And.intro) <;> omega) (by (repeat' apply And.intro) <;> omega) (by (repeat' apply And.intro) <;> omega) (fun _ h0 => ((hS1 () (bd_z (Int.le_trans (Int.le_trans (Int.le_trans (Int.le_trans (Int.le_trans (Int.le_trans (Int.le_trans (Int.le_trans (Int.le_trans (Int.le_of_eq (bd_cg (hp_6 15 (by decide)) (hp_6 16 (by decide))).symm) ((hp_46 ()).2)) ((hp_82 ()).2)) (Int.le_of_eq (bd_cg (hp_264 15 (by decide)) (hp_264 16 (by decide))).symm)) (Int.le_of_eq (bd_cg (hp_301 15 (by decide)) (hp_301 16 (by decide))).symm)) ((hp_348 ()).2)) ((hp_401 ()).2)) ((hp_447 ()).2)) ((hp_483 ()).2)) (Int.le_of_eq (bd_cg (hp_517 15 (by decide)) (hp_517 16 (by decide))).symm)) h0)).qm (hq_522 ())))) (wm 10 35 rfl rfl) (wm 10 37 rfl rfl) (wm 0 180 rfl rfl) rfl rfl (by decide) rfl (wm 1 18 rfl rfl) (wm 10 38 rfl rfl) (by decide) hR ⟨sfr (F := F) (a := 0) (by decide), slo (L := Lo) (m := 1) (a := 0) (by decide)⟩ (n := 0) rfl rfl (Nat.le_of_ble_eq_true rfl) hl.1 dX12_named_134 (fun μ587 ρ d0 H locs hp G => ?_)
          obtain ⟨F_588, hp_589, hp_590, hp_591, hp_592, hp_593, hp_594, hp_595, hp_596, hp_597, hp_598, hp_599, hp_600, hp_601⟩ := hp
          have hpl_602 := hp_590.pl
          have hw_603 := wr_r (μ := μ587)
          have hw_604 := wr_r (μ := μ515)
          have hxt_605 : mEXT μ μ587 := (hq_522 ()).1.tr hp_601
          have hwk_606 : ∀ j, j < μ.1 111 39 → μ587.1 126 j = μ515.1 126 j := fun j hj => hp_597 j (by omega)
          have hey_607 : ∀ _ : Unit, bd μ587 = 0 → mEY μ515 μ587 tt (2 * (9 - nn μ)) := fun _ h0 => (hp_600 () h0).mn (by omega)
          have vl_608 := hp_591
          replace hp_591 := fun _ : Unit => hp_591
          have vl_609 := hp_592
          replace hp_592 := fun _ : Unit => hp_592
          have vl_610 := hp_593
          replace hp_593 := fun _ : Unit => hp_593
          have vl_611 := hp_594
          replace hp_594 := fun _ : Unit => hp_594
          have vl_612 := hp_595
          replace hp_595 := fun _ : Unit => hp_595
          have vl_613 := hp_596
          replace hp_596 := fun _ : Unit => hp_596
          have vl_614 := hp_598
          replace hp_598 := fun _ : Unit => hp_598
          have vl_615 := hp_599
          replace hp_599 := fun _ : Unit => hp_599
          have h39_616 : μ587.1 111 39 = μ.1 111 39 := by omega
          obtain ⟨hv_619, hv_620, hv_621, hv_622, hv_623, hv_624, hv_625, hv_626, hv_627, hv_628, hv_629, hv_630, hv_631, hv_632, hv_633, hv_634, hv_635, hv_636, hv_637⟩ : μ.1 111 22 ≤ μ587.1 111 22 ∧ μ587.1 111 22 ≤ μ.1 111 22 + 2 * (μ587.1 111 9 - μ.1 111 9) + 8 * (nn μ587 - nn μ) - 1 + 0 * wr μ587 ∧ μ.1 111 9 + 0 ≤ μ587.1 111 9 ∧ μ.1 111 9 + 1 ≤ μ587.1 111 9 + wr μ587 ∧ nn μ + 0 ≤ nn μ587 ∧ nn μ587 ≤ nn μ + 0 + 9 * wr μ587 ∧ nn μ587 ≤ 8 + wr μ587 ∧ 9 * wr μ587 ≤ nn μ587 ∧ nn μ587 ≤ 9 ∧ wr μ ≤ wr μ587 ∧ wr μ587 ≤ 1 ∧ wr μ587 ≤ bd μ587 ∧ bd μ587 ≤ 1 ∧ μ.1 111 29 ≤ μ587.1 111 29 ∧ μ.1 111 31 ≤ μ587.1 111 31 ∧ μ587.1 111 31 ≤ 300 ∧ 0 ≤ μ587.1 111 32 ∧ μ587.1 111 32 ≤ μ587.1 111 9 ∧ μ587.1 111 9 ≤ 3000 := by (repeat' apply And.intro) <;> omega
          clear hv_528 hv_529 hv_530 hv_531 hv_532 hv_533 hv_534 hv_535 hv_536 hv_537 hv_538 hv_539 hv_540 hv_541 hv_542 hv_543 hv_544 hv_545 e_556 e_559 e_562 e_566 e_569 e_571 e_583 hpl_602 hw_603 hw_604 vl_608 vl_609 vl_610 vl_611 vl_612 vl_613 vl_614 vl_615
          have hw_638 := wr_r (μ := μ587)
          exact xr_v G hret hlk dX12_named_137 ⟨(Fr.tr (Fr.tr (Fr.tr (Fr.tr (Fr.tr (Fr.tr (Fr.tr (Fr.tr (Fr.tr (Fr.tr (Fr.tr Fr.rf F_5 (by decide)) F_42 (by decide)) F_77 (by decide)) F_263 (by decide)) F_300 (by decide)) F_343 (by decide)) F_395 (by decide)) F_442 (by decide)) F_478 (by decide)) F_516 (by decide)) F_588 (by decide)), (fun j hj => ((hp_589 j (fun h9 => hj ((by decide : ∀ x ∈ ([6, 8, 9, 10, 11, 12, 13, 15, 16, 17, 18, 22, 29, 31, 32, 34, 35, 36, 37, 39] : List Int), x ∈ ([6, 8, 9, 10, 11, 12, 13, 15, 16, 17, 18, 22, 29, 31, 32, 34, 35, 36, 37, 39] : List Int)) j h9))).trans ((hp_517 j (fun h9 => hj ((by decide : ∀ x ∈ ([6, 8, 9, 10, 22] : List Int), x ∈ ([6, 8, 9, 10, 11, 12, 13, 15, 16, 17, 18, 22, 29, 31, 32, 34, 35, 36, 37, 39] : List Int)) j h9))).trans ((hp_479 j (fun h9 => hj ((by decide : ∀ x ∈ ([6, 8, 9, 10, 11, 12, 13, 15] : List Int), x ∈ ([6, 8, 9, 10, 11, 12, 13, 15, 16, 17, 18, 22, 29, 31, 32, 34, 35, 36, 37, 39] : List Int)) j h9))).trans ((hp_443 j (fun h9 => hj ((by decide : ∀ x ∈ ([6, 8, 9, 10, 11, 12, 13, 15, 18] : List Int), x ∈ ([6, 8, 9, 10, 11, 12, 13, 15, 16, 17, 18, 22, 29, 31, 32, 34, 35, 36, 37, 39] : List Int)) j h9))).trans ((hp_396 j (fun h9 => hj ((by decide : ∀ x ∈ ([6, 8, 9, 10, 11, 12, 13, 15, 16, 17, 18, 22, 29, 39] : List Int), x ∈ ([6, 8, 9, 10, 11, 12, 13, 15, 16, 17, 18, 22, 29, 31, 32, 34, 35, 36, 37, 39] : List Int)) j h9))).trans ((hp_344 j (fun h9 => hj ((by decide : ∀ x ∈ ([6, 8, 9, 10, 11, 12, 13, 15, 18] : List Int), x ∈ ([6, 8, 9, 10, 11, 12, 13, 15, 16, 17, 18, 22, 29, 31, 32, 34, 35, 36, 37, 39] : List Int)) j h9))).trans ((hp_301 j (fun h9 => hj ((by decide : ∀ x ∈ ([22] : List Int), x ∈ ([6, 8, 9, 10, 11, 12, 13, 15, 16, 17, 18, 22, 29, 31, 32, 34, 35, 36, 37, 39] : List Int)) j h9))).trans ((hp_264 j (fun h9 => hj ((by decide : ∀ x ∈ ([17] : List Int), x ∈ ([6, 8, 9, 10, 11, 12, 13, 15, 16, 17, 18, 22, 29, 31, 32, 34, 35, 36, 37, 39] : List Int)) j h9))).trans ((hp_78 j (fun h9 => hj ((by decide : ∀ x ∈ ([6, 8, 9, 10, 11, 12, 13, 15] : List Int), x ∈ ([6, 8, 9, 10, 11, 12, 13, 15, 16, 17, 18, 22, 29, 31, 32, 34, 35, 36, 37, 39] : List Int)) j h9))).trans ((hp_43 j (fun h9 => hj ((by decide : ∀ x ∈ ([6, 8, 9, 10, 11, 12, 13, 15] : List Int), x ∈ ([6, 8, 9, 10, 11, 12, 13, 15, 16, 17, 18, 22, 29, 31, 32, 34, 35, 36, 37, 39] : List Int)) j h9))).trans (hp_6 j (fun h9 => hj ((by decide : ∀ x ∈ ([34, 35, 36, 37] : List Int), x ∈ ([6, 8, 9, 10, 11, 12, 13, 15, 16, 17, 18, 22, 29, 31, 32, 34, 35, 36, 37, 39] : List Int)) j h9)))))))))))))), hp_590, (by (repeat' apply And.intro) <;> omega), (by (repeat' apply And.intro) <;> omega), (by (repeat' apply And.intro) <;> omega), ⟨by omega, (Int.le_trans (Int.le_trans (Int.le_trans (Int.le_trans (Int.le_trans (Int.le_trans (Int.le_trans (Int.le_trans (Int.le_trans (Int.le_trans (Int.le_of_eq (bd_cg (hp_6 15 (by decide)) (hp_6 16 (by decide))).symm) ((hp_46 ()).2)) ((hp_82 ()).2)) (Int.le_of_eq (bd_cg (hp_264 15 (by decide)) (hp_264 16 (by decide))).symm)) (Int.le_of_eq (bd_cg (hp_301 15 (by decide)) (hp_301 16 (by decide))).symm)) ((hp_348 ()).2)) ((hp_401 ()).2)) ((hp_447 ()).2)) ((hp_483 ()).2)) (Int.le_of_eq (bd_cg (hp_517 15 (by decide)) (hp_517 16 (by decide))).symm)) ((hp_594 ()).2))⟩, (by (repeat' apply And.intro) <;> omega), (by (repeat' apply And.intro) <;> omega), (fun j hj => ((hwk_606 j (by omega)).trans ((F_516.1 126 (by decide) j).trans ((F_478.1 126 (by decide) j).trans ((F_442.1 126 (by decide) j).trans ((hwk_410 j (by omega)).trans ((F_343.1 126 (by decide) j).trans ((F_300.1 126 (by decide) j).trans ((F_263.1 126 (by decide) j).trans ((F_77.1 126 (by decide) j).trans ((F_42.1 126 (by decide) j).trans (F_5.1 126 (by decide) j)))))))))))), (by (repeat' apply And.intro) <;> omega), (by (repeat' apply And.intro) <;> omega), (fun _ h0 => mEY.ql (hq_522 ()) ((hey_607 () h0))), hxt_605⟩
        · have hb1_639 : r_511 = 1 := by omega
          replace c_125 := fun _ : Unit => c_125
          have hq_640 : ∀ _ : Unit, q0m μ394 μ476 := fun _ => (q0m.fr (K := [111]) (Fr.tr (Fr.tr Fr.rf F_442 (by decide)) F_478 (by decide)) (by decide) (by decide) (by decide) ((hp_479 22 (by decide)).trans (hp_443 22 (by decide))) (Int.le_trans (Int.le_of_eq (hp_443 29 (by decide)).symm) (Int.le_of_eq (hp_479 29 (by decide)).symm)))
          have hht_641 : ∀ _ : Unit, bd μ476 = 0 → mHt μ476 2 := fun _ h0 => (hht_412 () (bd_z (Int.le_trans ((hp_447 ()).2) ((hp_483 ()).2)) h0)).qm (hq_640 ())
          have e_642 : μ476.1 111 22 = μ394.1 111 22 := ((hp_479 22 (by decide)).trans (hp_443 22 (by decide)))
          have e_643 : μ476.1 111 29 = μ394.1 111 29 := ((hp_479 29 (by decide)).trans (hp_443 29 (by decide)))
          have e_644 : μ476.1 111 39 = μ394.1 111 39 := ((hp_479 39 (by decide)).trans (hp_443 39 (by decide)))
          have e_645 : μ476.1 111 31 = μ.1 111 31 := ((hp_479 31 (by decide)).trans ((hp_443 31 (by decide)).trans ((hp_396 31 (by decide)).trans ((hp_344 31 (by decide)).trans ((hp_301 31 (by decide)).trans ((hp_264 31 (by decide)).trans ((hp_78 31 (by decide)).trans ((hp_43 31 (by decide)).trans (hp_6 31 (by decide))))))))))
          have e_646 : μ476.1 111 32 = μ.1 111 32 := ((hp_479 32 (by decide)).trans ((hp_443 32 (by decide)).trans ((hp_396 32 (by decide)).trans ((hp_344 32 (by decide)).trans ((hp_301 32 (by decide)).trans ((hp_264 32 (by decide)).trans ((hp_78 32 (by decide)).trans ((hp_43 32 (by decide)).trans (hp_6 32 (by decide))))))))))
          have hxt_647 : mEXT μ μ476 := hxt_409.tr (q0m.fr (K := [111]) (Fr.tr (Fr.tr Fr.rf F_442 (by decide)) F_478 (by decide)) (by decide) (by decide) (by decide) ((hp_479 22 (by decide)).trans (hp_443 22 (by decide))) (Int.le_trans (Int.le_of_eq (hp_443 29 (by decide)).symm) (Int.le_of_eq (hp_479 29 (by decide)).symm))).1
          exact xr_v G hret hlk dX12_named_128 ⟨(Fr.tr (Fr.tr (Fr.tr (Fr.tr (Fr.tr (Fr.tr (Fr.tr (Fr.tr (Fr.tr Fr.rf F_5 (by decide)) F_42 (by decide)) F_77 (by decide)) F_263 (by decide)) F_300 (by decide)) F_343 (by decide)) F_395 (by decide)) F_442 (by decide)) F_478 (by decide)), (fun j hj => ((hp_479 j (fun h9 => hj ((by decide : ∀ x ∈ ([6, 8, 9, 10, 11, 12, 13, 15] : List Int), x ∈ ([6, 8, 9, 10, 11, 12, 13, 15, 16, 17, 18, 22, 29, 31, 32, 34, 35, 36, 37, 39] : List Int)) j h9))).trans ((hp_443 j (fun h9 => hj ((by decide : ∀ x ∈ ([6, 8, 9, 10, 11, 12, 13, 15, 18] : List Int), x ∈ ([6, 8, 9, 10, 11, 12, 13, 15, 16, 17, 18, 22, 29, 31, 32, 34, 35, 36, 37, 39] : List Int)) j h9))).trans ((hp_396 j (fun h9 => hj ((by decide : ∀ x ∈ ([6, 8, 9, 10, 11, 12, 13, 15, 16, 17, 18, 22, 29, 39] : List Int), x ∈ ([6, 8, 9, 10, 11, 12, 13, 15, 16, 17, 18, 22, 29, 31, 32, 34, 35, 36, 37, 39] : List Int)) j h9))).trans ((hp_344 j (fun h9 => hj ((by decide : ∀ x ∈ ([6, 8, 9, 10, 11, 12, 13, 15, 18] : List Int), x ∈ ([6, 8, 9, 10, 11, 12, 13, 15, 16, 17, 18, 22, 29, 31, 32, 34, 35, 36, 37, 39] : List Int)) j h9))).trans ((hp_301 j (fun h9 => hj ((by decide : ∀ x ∈ ([22] : List Int), x ∈ ([6, 8, 9, 10, 11, 12, 13, 15, 16, 17, 18, 22, 29, 31, 32, 34, 35, 36, 37, 39] : List Int)) j h9))).trans ((hp_264 j (fun h9 => hj ((by decide : ∀ x ∈ ([17] : List Int), x ∈ ([6, 8, 9, 10, 11, 12, 13, 15, 16, 17, 18, 22, 29, 31, 32, 34, 35, 36, 37, 39] : List Int)) j h9))).trans ((hp_78 j (fun h9 => hj ((by decide : ∀ x ∈ ([6, 8, 9, 10, 11, 12, 13, 15] : List Int), x ∈ ([6, 8, 9, 10, 11, 12, 13, 15, 16, 17, 18, 22, 29, 31, 32, 34, 35, 36, 37, 39] : List Int)) j h9))).trans ((hp_43 j (fun h9 => hj ((by decide : ∀ x ∈ ([6, 8, 9, 10, 11, 12, 13, 15] : List Int), x ∈ ([6, 8, 9, 10, 11, 12, 13, 15, 16, 17, 18, 22, 29, 31, 32, 34, 35, 36, 37, 39] : List Int)) j h9))).trans (hp_6 j (fun h9 => hj ((by decide : ∀ x ∈ ([34, 35, 36, 37] : List Int), x ∈ ([6, 8, 9, 10, 11, 12, 13, 15, 16, 17, 18, 22, 29, 31, 32, 34, 35, 36, 37, 39] : List Int)) j h9)))))))))))), hp_480, (by (repeat' apply And.intro) <;> omega), (by (repeat' apply And.intro) <;> omega), (by (repeat' apply And.intro) <;> omega), ⟨by omega, (Int.le_trans (Int.le_trans (Int.le_trans (Int.le_trans (Int.le_trans (Int.le_trans (Int.le_trans (Int.le_trans (Int.le_of_eq (bd_cg (hp_6 15 (by decide)) (hp_6 16 (by decide))).symm) ((hp_46 ()).2)) ((hp_82 ()).2)) (Int.le_of_eq (bd_cg (hp_264 15 (by decide)) (hp_264 16 (by decide))).symm)) (Int.le_of_eq (bd_cg (hp_301 15 (by decide)) (hp_301 16 (by decide))).symm)) ((hp_348 ()).2)) ((hp_401 ()).2)) ((hp_447 ()).2)) ((hp_483 ()).2))⟩, (by (repeat' apply And.intro) <;> omega), (by (repeat' apply And.intro) <;> omega), (fun j hj => ((F_478.1 126 (by decide) j).trans ((F_442.1 126 (by decide) j).trans ((hwk_410 j (by omega)).trans ((F_343.1 126 (by decide) j).trans ((F_300.1 126 (by decide) j).trans ((F_263.1 126 (by decide) j).trans ((F_77.1 126 (by decide) j).trans ((F_42.1 126 (by decide) j).trans (F_5.1 126 (by decide) j)))))))))), (by (repeat' apply And.intro) <;> omega), (by (repeat' apply And.intro) <;> omega), (fun _ h0 => (by exfalso; omega)), hxt_647⟩
      · have hb1_656 : r_477 = 1 := by omega
        replace c_99 := fun _ : Unit => c_99
        refine lv_aload_n hx hb dX12_named_102 rfl (lv_at hl 2 rfl) ?_
        have hq_657 : ∀ _ : Unit, q0m μ394 μ476 := fun _ => (q0m.fr (K := [111]) (Fr.tr (Fr.tr Fr.rf F_442 (by decide)) F_478 (by decide)) (by decide) (by decide) (by decide) ((hp_479 22 (by decide)).trans (hp_443 22 (by decide))) (Int.le_trans (Int.le_of_eq (hp_443 29 (by decide)).symm) (Int.le_of_eq (hp_479 29 (by decide)).symm)))
        have hw_658 := wr_r (μ := μ476)
        have hht_659 : ∀ _ : Unit, bd μ476 = 0 → mHt μ476 2 := fun _ h0 => (hht_412 () (bd_z (Int.le_trans ((hp_447 ()).2) ((hp_483 ()).2)) h0)).qm (hq_657 ())
        have e_660 : μ476.1 111 29 = μ394.1 111 29 := ((hp_479 29 (by decide)).trans (hp_443 29 (by decide)))
        have hxt_661 : mEXT μ μ476 := hxt_409.tr (q0m.fr (K := [111]) (Fr.tr (Fr.tr Fr.rf F_442 (by decide)) F_478 (by decide)) (by decide) (by decide) (by decide) ((hp_479 22 (by decide)).trans (hp_443 22 (by decide))) (Int.le_trans (Int.le_of_eq (hp_443 29 (by decide)).symm) (Int.le_of_eq (hp_479 29 (by decide)).symm))).1
        have e_662 : μ476.1 111 14 = tt := ((hp_479 14 (by decide)).trans ((hp_443 14 (by decide)).trans ((hp_396 14 (by decide)).trans ((hp_344 14 (by decide)).trans ((hp_301 14 (by decide)).trans ((hp_264 14 (by decide)).trans ((hp_78 14 (by decide)).trans ((hp_43 14 (by decide)).trans ((hp_6 14 (by decide)).trans htt.symm)))))))))
        have e_663 : μ476.1 111 22 = μ394.1 111 22 := ((hp_479 22 (by decide)).trans (hp_443 22 (by decide)))
        have e_665 : μ476.1 111 39 = μ394.1 111 39 := ((hp_479 39 (by decide)).trans (hp_443 39 (by decide)))
        have e_668 : μ476.1 111 31 = μ.1 111 31 := ((hp_479 31 (by decide)).trans ((hp_443 31 (by decide)).trans ((hp_396 31 (by decide)).trans ((hp_344 31 (by decide)).trans ((hp_301 31 (by decide)).trans ((hp_264 31 (by decide)).trans ((hp_78 31 (by decide)).trans ((hp_43 31 (by decide)).trans (hp_6 31 (by decide))))))))))
        refine xc_vV G (b := 111) (rest := []) (As := []) (c_X12_expr_a ω l μ476 tt (by (repeat' apply And.intro) <;> omega) hp_480 (by (repeat' apply And.intro) <;> omega) (by (repeat' apply And.intro) <;> omega) (by (repeat' apply And.intro) <;> omega) (by (repeat' apply And.intro) <;> omega) (by (repeat' apply And.intro) <;> omega) (fun _ h0 => (hht_659 () h0).p (by decide))) (wm 9 139 rfl rfl) (wm 9 141 rfl rfl) (wm 0 147 rfl rfl) rfl rfl (by decide) rfl (wm 1 18 rfl rfl) (wm 9 142 rfl rfl) (by decide) hR ⟨nfB hF (by decide), nlB hLo (by decide)⟩ (n := 0) rfl rfl (Nat.le_of_ble_eq_true rfl) hl.1 dX12_named_103 (fun μ674 ρ d0 H locs hp G => ?_)
        obtain ⟨F_675, hp_676, hp_677, hp_678, hp_679, hp_680, hp_681, hp_682, hp_683, hp_684, hp_685, hp_686⟩ := hp
        have hpl_687 := hp_677.pl
        have hw_688 := wr_r (μ := μ674)
        have hxt_689 : mEXT μ μ674 := hxt_661.tr hp_686
        have hwk_690 : ∀ j, j < μ.1 111 39 → μ674.1 126 j = μ476.1 126 j := fun j hj => hp_684 j (by omega)
        have hex_691 : ∀ _ : Unit, bd μ674 = 0 → mEX μ476 μ674 tt 1 0 99 := fun _ h0 => (hp_685 () h0).mn (Int.le_refl _) (by omega)
        have hht_692 : ∀ _ : Unit, bd μ674 = 0 → mHt μ674 3 := fun _ h0 => (hht_659 () (bd_z (hp_681.2) h0)).ex (hex_691 () h0) rfl
        have vl_693 := hp_678
        replace hp_678 := fun _ : Unit => hp_678
        have vl_694 := hp_679
        replace hp_679 := fun _ : Unit => hp_679
        have vl_695 := hp_680
        replace hp_680 := fun _ : Unit => hp_680
        have vl_696 := hp_681
        replace hp_681 := fun _ : Unit => hp_681
        have vl_697 := hp_682
        replace hp_682 := fun _ : Unit => hp_682
        have vl_698 := hp_683
        replace hp_683 := fun _ : Unit => hp_683
        have h39_699 : μ674.1 111 39 = μ.1 111 39 := by omega
        obtain ⟨hv_702, hv_703, hv_704, hv_705, hv_706, hv_707, hv_708, hv_709, hv_710, hv_711, hv_712, hv_713, hv_714, hv_715, hv_716, hv_717, hv_718, hv_719⟩ : μ.1 111 22 ≤ μ674.1 111 22 ∧ μ674.1 111 22 ≤ μ.1 111 22 + 2 * (μ674.1 111 9 - μ.1 111 9) + 8 * (nn μ674 - nn μ) - 7 + 0 * wr μ674 ∧ μ.1 111 9 + 1 ≤ μ674.1 111 9 ∧ nn μ + 0 ≤ nn μ674 ∧ nn μ674 ≤ nn μ + 0 + 9 * wr μ674 ∧ nn μ674 ≤ 8 + wr μ674 ∧ 9 * wr μ674 ≤ nn μ674 ∧ nn μ674 ≤ 9 ∧ wr μ ≤ wr μ674 ∧ wr μ674 ≤ 1 ∧ wr μ674 ≤ bd μ674 ∧ bd μ674 ≤ 1 ∧ μ.1 111 29 ≤ μ674.1 111 29 ∧ μ.1 111 31 ≤ μ.1 111 31 ∧ μ.1 111 31 ≤ 300 ∧ 0 ≤ μ.1 111 32 ∧ μ.1 111 32 ≤ μ674.1 111 9 ∧ μ674.1 111 9 ≤ 3000 := by (repeat' apply And.intro) <;> omega
        clear hv_491 hv_492 hv_493 hv_494 hv_495 hv_496 hv_497 hv_498 hv_499 hv_500 hv_501 hv_502 hv_503 hv_504 hv_505 hv_506 hv_507 hv_508 hw_658 e_660 e_662 e_663 e_665 e_668 hpl_687 hw_688 vl_693 vl_694 vl_695 vl_696 vl_697 vl_698
        refine lv_aload_n hx hb dX12_named_106 rfl (lv_at hl 2 rfl) ?_
        refine lv_bipush (v := iv 59) hx hb dX12_named_107 rfl ?_
        have hw_720 := wr_r (μ := μ674)
        refine xc_vV G (b := 111) (rest := []) (As := [.int (iv 59)]) (c_X12_wantsSign ω l μ674 59 (by unfold ir; decide) hp_677 (by (repeat' apply And.intro) <;> omega)) (wm 9 114 rfl rfl) (wm 9 116 rfl rfl) (wm 0 141 rfl rfl) rfl rfl (by decide) rfl (wm 1 18 rfl rfl) (wm 9 117 rfl rfl) (by decide) hR ⟨nfB hF (by decide), nlB hLo (by decide)⟩ (n := 1) rfl rfl (Nat.le_of_ble_eq_true rfl) hl.1 dX12_named_109 (fun μ721 ρ d0 H locs hp G => ?_)
        obtain ⟨F_722, hp_723, hp_724, hp_725, hp_726, hp_727, hp_728⟩ := hp
        have hpl_729 := hp_724.pl
        have hw_730 := wr_r (μ := μ721)
        have vl_731 := hp_725
        replace hp_725 := fun _ : Unit => hp_725
        have vl_732 := hp_726
        replace hp_726 := fun _ : Unit => hp_726
        have vl_733 := hp_727
        replace hp_727 := fun _ : Unit => hp_727
        have vl_734 := hp_728
        replace hp_728 := fun _ : Unit => hp_728
        obtain ⟨hv_737, hv_738, hv_739, hv_740, hv_741, hv_742, hv_743, hv_744, hv_745, hv_746, hv_747, hv_748, hv_749, hv_750, hv_751, hv_752, hv_753, hv_754⟩ : μ.1 111 22 ≤ μ674.1 111 22 ∧ μ674.1 111 22 ≤ μ.1 111 22 + 2 * (μ721.1 111 9 - μ.1 111 9) + 8 * (nn μ721 - nn μ) - 9 + 2 * wr μ721 ∧ μ.1 111 9 + 1 ≤ μ721.1 111 9 ∧ nn μ + 0 ≤ nn μ721 ∧ nn μ721 ≤ nn μ + 0 + 9 * wr μ721 ∧ nn μ721 ≤ 8 + wr μ721 ∧ 9 * wr μ721 ≤ nn μ721 ∧ nn μ721 ≤ 9 ∧ wr μ ≤ wr μ721 ∧ wr μ721 ≤ 1 ∧ wr μ721 ≤ bd μ721 ∧ bd μ721 ≤ 1 ∧ μ.1 111 29 ≤ μ674.1 111 29 ∧ μ.1 111 31 ≤ μ.1 111 31 ∧ μ.1 111 31 ≤ 300 ∧ 0 ≤ μ.1 111 32 ∧ μ.1 111 32 ≤ μ721.1 111 9 ∧ μ721.1 111 9 ≤ 3000 := by (repeat' apply And.intro) <;> omega
        clear hv_702 hv_703 hv_704 hv_705 hv_706 hv_707 hv_708 hv_709 hv_710 hv_711 hv_712 hv_713 hv_714 hv_715 hv_716 hv_717 hv_718 hv_719 hw_720 hpl_729 hw_730 vl_731 vl_732 vl_733 vl_734
        refine lv_aload_n hx hb dX12_named_112 rfl (lv_at hl 2 rfl) ?_
        refine lv_iconst (v := iv 5) hx hb dX12_named_113 rfl ?_
        refine lv_lconst (v := jv 0) hx hb dX12_named_114 rfl ?_
        refine lv_iconst (v := iv 0) hx hb dX12_named_115 rfl ?_
        have hq_755 : ∀ _ : Unit, q0m μ674 μ721 := fun _ => (q0m.fr (K := [111]) (Fr.tr Fr.rf F_722 (by decide)) (by decide) (by decide) (by decide) (hp_723 22 (by decide)) (Int.le_of_eq (hp_723 29 (by decide)).symm))
        have hw_756 := wr_r (μ := μ721)
        have hht_757 : ∀ _ : Unit, bd μ721 = 0 → mHt μ721 3 := fun _ h0 => (hht_692 () (bd_z ((hp_727 ()).2) h0)).qm (hq_755 ())
        have e_758 : μ721.1 111 29 = μ674.1 111 29 := (hp_723 29 (by decide))
        have hxt_759 : mEXT μ μ721 := hxt_689.tr (q0m.fr (K := [111]) (Fr.tr Fr.rf F_722 (by decide)) (by decide) (by decide) (by decide) (hp_723 22 (by decide)) (Int.le_of_eq (hp_723 29 (by decide)).symm)).1
        have e_760 : μ721.1 111 22 = μ674.1 111 22 := (hp_723 22 (by decide))
        refine xc_iV G (b := 111) (rest := []) (As := [.int (iv 5), .long (jv 0), .int (iv 0)]) (c_X12_emit ω l μ721 5 0 0 (by unfold ir; decide) (by unfold jr; omega) (by unfold ir; decide) (by (repeat' apply And.intro) <;> omega)) (wm 9 126 rfl rfl) (wm 9 128 rfl rfl) (wm 0 144 rfl rfl) rfl rfl (by decide) rfl (wm 1 18 rfl rfl) (wm 9 129 rfl rfl) (by decide) hR ⟨nfB hF (by decide), nlB hLo (by decide)⟩ (n := 3) rfl rfl (Nat.le_of_ble_eq_true rfl) hl.1 dX12_named_116 (fun r_765 μ764 ρ d0 H locs hr_r_765 hp G => ?_)
        have hr_r_765 : -2147483648 ≤ r_765 ∧ r_765 ≤ 2147483647 := hr_r_765
        obtain ⟨F_766, hp_767, hp_768, hp_769, hp_770⟩ := hp
        have hxt_771 : mEXT μ μ764 := hxt_759.tr hp_768.1
        have hht_772 : ∀ _ : Unit, bd μ764 = 0 → mHt μ764 0 := fun _ h0 => (hht_757 () (bd_z (Int.le_of_eq (bd_cg (hp_767 15 (by decide)) (hp_767 16 (by decide))).symm) h0)).ad hp_768 rfl
        have vl_773 := hp_770
        replace hp_770 := fun _ : Unit => hp_770
        obtain ⟨hv_776, hv_777, hv_778, hv_779, hv_780, hv_781, hv_782, hv_783, hv_784, hv_785, hv_786, hv_787, hv_788, hv_789, hv_790, hv_791, hv_792, hv_793⟩ : μ.1 111 22 ≤ μ764.1 111 22 ∧ μ764.1 111 22 ≤ μ.1 111 22 + 2 * (μ721.1 111 9 - μ.1 111 9) + 8 * (nn μ721 - nn μ) - 8 + 2 * wr μ721 ∧ μ.1 111 9 + 1 ≤ μ721.1 111 9 ∧ nn μ + 0 ≤ nn μ721 ∧ nn μ721 ≤ nn μ + 0 + 9 * wr μ721 ∧ nn μ721 ≤ 8 + wr μ721 ∧ 9 * wr μ721 ≤ nn μ721 ∧ nn μ721 ≤ 9 ∧ wr μ ≤ wr μ721 ∧ wr μ721 ≤ 1 ∧ wr μ721 ≤ bd μ721 ∧ bd μ721 ≤ 1 ∧ μ.1 111 29 ≤ μ674.1 111 29 ∧ μ.1 111 31 ≤ μ.1 111 31 ∧ μ.1 111 31 ≤ 300 ∧ 0 ≤ μ.1 111 32 ∧ μ.1 111 32 ≤ μ721.1 111 9 ∧ μ721.1 111 9 ≤ 3000 := by (repeat' apply And.intro) <;> omega
        clear hv_737 hv_738 hv_739 hv_740 hv_741 hv_742 hv_743 hv_744 hv_745 hv_746 hv_747 hv_748 hv_749 hv_750 hv_751 hv_752 hv_753 hv_754 hw_756 e_758 e_760 vl_773
        refine lv_pop hx hb dX12_named_119 rfl ?_
        have e_794 : μ764.1 111 9 = μ721.1 111 9 := (hp_767 9 (by decide))
        have e_795 : μ764.1 111 29 = μ674.1 111 29 := ((hp_767 29 (by decide)).trans (hp_723 29 (by decide)))
        have e_796 : μ764.1 111 39 = μ674.1 111 39 := ((hp_767 39 (by decide)).trans (hp_723 39 (by decide)))
        have e_797 : μ764.1 111 31 = μ.1 111 31 := ((hp_767 31 (by decide)).trans ((hp_723 31 (by decide)).trans ((hp_676 31 (by decide)).trans ((hp_479 31 (by decide)).trans ((hp_443 31 (by decide)).trans ((hp_396 31 (by decide)).trans ((hp_344 31 (by decide)).trans ((hp_301 31 (by decide)).trans ((hp_264 31 (by decide)).trans ((hp_78 31 (by decide)).trans ((hp_43 31 (by decide)).trans (hp_6 31 (by decide)))))))))))))
        have e_798 : μ764.1 111 32 = μ.1 111 32 := ((hp_767 32 (by decide)).trans ((hp_723 32 (by decide)).trans ((hp_676 32 (by decide)).trans ((hp_479 32 (by decide)).trans ((hp_443 32 (by decide)).trans ((hp_396 32 (by decide)).trans ((hp_344 32 (by decide)).trans ((hp_301 32 (by decide)).trans ((hp_264 32 (by decide)).trans ((hp_78 32 (by decide)).trans ((hp_43 32 (by decide)).trans (hp_6 32 (by decide)))))))))))))
        have e_799 : μ764.1 111 6 = μ721.1 111 6 := (hp_767 6 (by decide))
        have e_800 : wr μ764 = wr μ721 := (wr_cg (hp_767 15 (by decide)))
        have hw_801 := wr_r (μ := μ721)
        have e_802 : bd μ764 = bd μ721 := (bd_cg (hp_767 15 (by decide)) (hp_767 16 (by decide)))
        have e_803 : nn μ764 = nn μ721 := (nn_cg (hp_767 15 (by decide)) (hp_767 18 (by decide)))
        have hPM_804 : PM μ764 := hp_724.cg ((((hp_767 4 (by decide)).trans ((hp_723 4 (by decide)).trans ((hp_676 4 (by decide)).trans ((hp_479 4 (by decide)).trans ((hp_443 4 (by decide)).trans ((hp_396 4 (by decide)).trans ((hp_344 4 (by decide)).trans ((hp_301 4 (by decide)).trans ((hp_264 4 (by decide)).trans ((hp_78 4 (by decide)).trans ((hp_43 4 (by decide)).trans (hp_6 4 (by decide)))))))))))))).trans (((hp_723 4 (by decide)).trans ((hp_676 4 (by decide)).trans ((hp_479 4 (by decide)).trans ((hp_443 4 (by decide)).trans ((hp_396 4 (by decide)).trans ((hp_344 4 (by decide)).trans ((hp_301 4 (by decide)).trans ((hp_264 4 (by decide)).trans ((hp_78 4 (by decide)).trans ((hp_43 4 (by decide)).trans (hp_6 4 (by decide))))))))))))).symm) (hp_767 6 (by decide)) ((((hp_767 7 (by decide)).trans ((hp_723 7 (by decide)).trans ((hp_676 7 (by decide)).trans ((hp_479 7 (by decide)).trans ((hp_443 7 (by decide)).trans ((hp_396 7 (by decide)).trans ((hp_344 7 (by decide)).trans ((hp_301 7 (by decide)).trans ((hp_264 7 (by decide)).trans ((hp_78 7 (by decide)).trans ((hp_43 7 (by decide)).trans (hp_6 7 (by decide)))))))))))))).trans (((hp_723 7 (by decide)).trans ((hp_676 7 (by decide)).trans ((hp_479 7 (by decide)).trans ((hp_443 7 (by decide)).trans ((hp_396 7 (by decide)).trans ((hp_344 7 (by decide)).trans ((hp_301 7 (by decide)).trans ((hp_264 7 (by decide)).trans ((hp_78 7 (by decide)).trans ((hp_43 7 (by decide)).trans (hp_6 7 (by decide))))))))))))).symm) (hp_767 8 (by decide)) (hp_767 9 (by decide)) (hp_767 11 (by decide)) (hp_767 12 (by decide)) ((((hp_767 14 (by decide)).trans ((hp_723 14 (by decide)).trans ((hp_676 14 (by decide)).trans ((hp_479 14 (by decide)).trans ((hp_443 14 (by decide)).trans ((hp_396 14 (by decide)).trans ((hp_344 14 (by decide)).trans ((hp_301 14 (by decide)).trans ((hp_264 14 (by decide)).trans ((hp_78 14 (by decide)).trans ((hp_43 14 (by decide)).trans ((hp_6 14 (by decide)).trans htt.symm))))))))))))).trans (((hp_723 14 (by decide)).trans ((hp_676 14 (by decide)).trans ((hp_479 14 (by decide)).trans ((hp_443 14 (by decide)).trans ((hp_396 14 (by decide)).trans ((hp_344 14 (by decide)).trans ((hp_301 14 (by decide)).trans ((hp_264 14 (by decide)).trans ((hp_78 14 (by decide)).trans ((hp_43 14 (by decide)).trans ((hp_6 14 (by decide)).trans htt.symm)))))))))))).symm) (hp_767 15 (by decide)) ((((hp_767 29 (by decide)).trans (hp_723 29 (by decide)))).trans ((hp_723 29 (by decide))).symm) (fun j => (F_766.1 123 (by decide) j))
        exact xr_v G hret hlk dX12_named_120 ⟨(Fr.tr (Fr.tr (Fr.tr (Fr.tr (Fr.tr (Fr.tr (Fr.tr (Fr.tr (Fr.tr (Fr.tr (Fr.tr (Fr.tr Fr.rf F_5 (by decide)) F_42 (by decide)) F_77 (by decide)) F_263 (by decide)) F_300 (by decide)) F_343 (by decide)) F_395 (by decide)) F_442 (by decide)) F_478 (by decide)) F_675 (by decide)) F_722 (by decide)) F_766 (by decide)), (fun j hj => ((hp_767 j (fun h9 => hj ((by decide : ∀ x ∈ ([22] : List Int), x ∈ ([6, 8, 9, 10, 11, 12, 13, 15, 16, 17, 18, 22, 29, 31, 32, 34, 35, 36, 37, 39] : List Int)) j h9))).trans ((hp_723 j (fun h9 => hj ((by decide : ∀ x ∈ ([6, 8, 9, 10, 11, 12, 13, 15] : List Int), x ∈ ([6, 8, 9, 10, 11, 12, 13, 15, 16, 17, 18, 22, 29, 31, 32, 34, 35, 36, 37, 39] : List Int)) j h9))).trans ((hp_676 j (fun h9 => hj ((by decide : ∀ x ∈ ([6, 8, 9, 10, 11, 12, 13, 15, 16, 17, 18, 22, 29, 39] : List Int), x ∈ ([6, 8, 9, 10, 11, 12, 13, 15, 16, 17, 18, 22, 29, 31, 32, 34, 35, 36, 37, 39] : List Int)) j h9))).trans ((hp_479 j (fun h9 => hj ((by decide : ∀ x ∈ ([6, 8, 9, 10, 11, 12, 13, 15] : List Int), x ∈ ([6, 8, 9, 10, 11, 12, 13, 15, 16, 17, 18, 22, 29, 31, 32, 34, 35, 36, 37, 39] : List Int)) j h9))).trans ((hp_443 j (fun h9 => hj ((by decide : ∀ x ∈ ([6, 8, 9, 10, 11, 12, 13, 15, 18] : List Int), x ∈ ([6, 8, 9, 10, 11, 12, 13, 15, 16, 17, 18, 22, 29, 31, 32, 34, 35, 36, 37, 39] : List Int)) j h9))).trans ((hp_396 j (fun h9 => hj ((by decide : ∀ x ∈ ([6, 8, 9, 10, 11, 12, 13, 15, 16, 17, 18, 22, 29, 39] : List Int), x ∈ ([6, 8, 9, 10, 11, 12, 13, 15, 16, 17, 18, 22, 29, 31, 32, 34, 35, 36, 37, 39] : List Int)) j h9))).trans ((hp_344 j (fun h9 => hj ((by decide : ∀ x ∈ ([6, 8, 9, 10, 11, 12, 13, 15, 18] : List Int), x ∈ ([6, 8, 9, 10, 11, 12, 13, 15, 16, 17, 18, 22, 29, 31, 32, 34, 35, 36, 37, 39] : List Int)) j h9))).trans ((hp_301 j (fun h9 => hj ((by decide : ∀ x ∈ ([22] : List Int), x ∈ ([6, 8, 9, 10, 11, 12, 13, 15, 16, 17, 18, 22, 29, 31, 32, 34, 35, 36, 37, 39] : List Int)) j h9))).trans ((hp_264 j (fun h9 => hj ((by decide : ∀ x ∈ ([17] : List Int), x ∈ ([6, 8, 9, 10, 11, 12, 13, 15, 16, 17, 18, 22, 29, 31, 32, 34, 35, 36, 37, 39] : List Int)) j h9))).trans ((hp_78 j (fun h9 => hj ((by decide : ∀ x ∈ ([6, 8, 9, 10, 11, 12, 13, 15] : List Int), x ∈ ([6, 8, 9, 10, 11, 12, 13, 15, 16, 17, 18, 22, 29, 31, 32, 34, 35, 36, 37, 39] : List Int)) j h9))).trans ((hp_43 j (fun h9 => hj ((by decide : ∀ x ∈ ([6, 8, 9, 10, 11, 12, 13, 15] : List Int), x ∈ ([6, 8, 9, 10, 11, 12, 13, 15, 16, 17, 18, 22, 29, 31, 32, 34, 35, 36, 37, 39] : List Int)) j h9))).trans (hp_6 j (fun h9 => hj ((by decide : ∀ x ∈ ([34, 35, 36, 37] : List Int), x ∈ ([6, 8, 9, 10, 11, 12, 13, 15, 16, 17, 18, 22, 29, 31, 32, 34, 35, 36, 37, 39] : List Int)) j h9))))))))))))))), hPM_804, (by (repeat' apply And.intro) <;> omega), (by (repeat' apply And.intro) <;> omega), (by (repeat' apply And.intro) <;> omega), ⟨by omega, (Int.le_trans (Int.le_trans (Int.le_trans (Int.le_trans (Int.le_trans (Int.le_trans (Int.le_trans (Int.le_trans (Int.le_trans (Int.le_trans (Int.le_trans (Int.le_of_eq (bd_cg (hp_6 15 (by decide)) (hp_6 16 (by decide))).symm) ((hp_46 ()).2)) ((hp_82 ()).2)) (Int.le_of_eq (bd_cg (hp_264 15 (by decide)) (hp_264 16 (by decide))).symm)) (Int.le_of_eq (bd_cg (hp_301 15 (by decide)) (hp_301 16 (by decide))).symm)) ((hp_348 ()).2)) ((hp_401 ()).2)) ((hp_447 ()).2)) ((hp_483 ()).2)) ((hp_681 ()).2)) ((hp_727 ()).2)) (Int.le_of_eq (bd_cg (hp_767 15 (by decide)) (hp_767 16 (by decide))).symm))⟩, (by (repeat' apply And.intro) <;> omega), (by (repeat' apply And.intro) <;> omega), (fun j hj => ((F_766.1 126 (by decide) j).trans ((F_722.1 126 (by decide) j).trans ((hwk_690 j (by omega)).trans ((F_478.1 126 (by decide) j).trans ((F_442.1 126 (by decide) j).trans ((hwk_410 j (by omega)).trans ((F_343.1 126 (by decide) j).trans ((F_300.1 126 (by decide) j).trans ((F_263.1 126 (by decide) j).trans ((F_77.1 126 (by decide) j).trans ((F_42.1 126 (by decide) j).trans (F_5.1 126 (by decide) j))))))))))))), (by (repeat' apply And.intro) <;> omega), (by (repeat' apply And.intro) <;> omega), (fun _ h0 => mEY.ql (hq_286 ()) (as_setc (M := (2 * (9 - nn μ))) ((hS1 () (bd_z (Int.le_trans (Int.le_trans (Int.le_trans (Int.le_trans (Int.le_trans (Int.le_trans (Int.le_trans (Int.le_trans (Int.le_trans (Int.le_trans (Int.le_trans (Int.le_of_eq (bd_cg (hp_6 15 (by decide)) (hp_6 16 (by decide))).symm) ((hp_46 ()).2)) ((hp_82 ()).2)) (Int.le_of_eq (bd_cg (hp_264 15 (by decide)) (hp_264 16 (by decide))).symm)) (Int.le_of_eq (bd_cg (hp_301 15 (by decide)) (hp_301 16 (by decide))).symm)) ((hp_348 ()).2)) ((hp_401 ()).2)) ((hp_447 ()).2)) ((hp_483 ()).2)) ((hp_681 ()).2)) ((hp_727 ()).2)) (Int.le_of_eq (bd_cg (hp_767 15 (by decide)) (hp_767 16 (by decide))).symm)) h0)).qm (hq_286 ())).s (hp_302.qm (hq_377 ())) (by omega) ((hex_411 () (bd_z (Int.le_trans (Int.le_trans (Int.le_trans (Int.le_trans ((hp_447 ()).2) ((hp_483 ()).2)) ((hp_681 ()).2)) ((hp_727 ()).2)) (Int.le_of_eq (bd_cg (hp_767 15 (by decide)) (hp_767 16 (by decide))).symm)) h0)).qm (hq_657 ())) ((hex_691 () (bd_z (Int.le_trans ((hp_727 ()).2) (Int.le_of_eq (bd_cg (hp_767 15 (by decide)) (hp_767 16 (by decide))).symm)) h0)).qm (hq_755 ())) (by omega) (by omega) (by omega) hp_768)), hxt_771⟩
  · have hb1_818 : r_76 = 1 := by omega
    replace c_24 := fun _ : Unit => c_24
    refine lv_aload_n hx hb dX12_named_27 rfl (lv_at hl 2 rfl) ?_
    refine lv_iload_n hx hb dX12_named_28 rfl (lv_at hl 1 rfl) ?_
    refine lv_lload_n hx hb dX12_named_29 rfl (lv_at hl 0 rfl) ?_
    have e_819 : μ75.1 111 31 = μ.1 111 31 := ((hp_78 31 (by decide)).trans ((hp_43 31 (by decide)).trans (hp_6 31 (by decide))))
    refine xc_iV G (b := 111) (rest := []) (As := [.int (iv (μ.1 111 9)), .long (jv (μ.1 111 10))]) (c_X12_slot ω l μ75 (μ.1 111 9) (μ.1 111 10) (by unfold ir; exact ⟨by omega, by omega⟩) hj_3 (by (repeat' apply And.intro) <;> omega)) (wm 9 171 rfl rfl) (wm 9 173 rfl rfl) (wm 0 155 rfl rfl) rfl rfl (by decide) rfl (wm 1 18 rfl rfl) (wm 9 174 rfl rfl) (by decide) hR ⟨nfB hF (by decide), nlB hLo (by decide)⟩ (n := 2) rfl rfl (Nat.le_of_ble_eq_true rfl) hl.1 dX12_named_30 (fun r_822 μ821 ρ d0 H locs hr_r_822 hp G => ?_)
    have hr_r_822 : -2147483648 ≤ r_822 ∧ r_822 ≤ 2147483647 := hr_r_822
    obtain ⟨F_823, hp_824, hp_825⟩ := hp
    have hw_826 := wr_r (μ := μ75)
    obtain ⟨hv_828, hv_829, hv_830, hv_831, hv_832, hv_833, hv_834, hv_835, hv_836, hv_837, hv_838, hv_839, hv_840, hv_841, hv_842, hv_843, hv_844, hv_845⟩ : μ.1 111 22 ≤ μ.1 111 22 ∧ μ.1 111 22 ≤ μ.1 111 22 + 2 * (μ75.1 111 9 - μ.1 111 9) + 8 * (nn μ75 - nn μ) - 2 + -6 * wr μ75 ∧ μ.1 111 9 + 1 ≤ μ75.1 111 9 ∧ nn μ + 0 ≤ nn μ75 ∧ nn μ75 ≤ nn μ + 0 + 9 * wr μ75 ∧ nn μ75 ≤ 8 + wr μ75 ∧ 9 * wr μ75 ≤ nn μ75 ∧ nn μ75 ≤ 9 ∧ wr μ ≤ wr μ75 ∧ wr μ75 ≤ 1 ∧ wr μ75 ≤ bd μ75 ∧ bd μ75 ≤ 1 ∧ μ.1 111 29 ≤ μ.1 111 29 ∧ μ.1 111 31 ≤ μ.1 111 31 ∧ μ.1 111 31 ≤ 300 ∧ 0 ≤ μ.1 111 32 ∧ μ.1 111 32 ≤ μ75.1 111 9 ∧ μ75.1 111 9 ≤ 3000 := by (repeat' apply And.intro) <;> omega
    clear hv_90 hv_91 hv_92 hv_93 hv_94 hv_95 hv_96 hv_97 hv_98 hv_99 hv_100 hv_101 hv_102 hv_103 hv_104 hv_105 hv_106 hv_107 e_819 hw_826
    refine lv_istore (lv' := [(4, .int (iv r_822)), (2, .long (jv (μ.1 111 10))), (1, .int (iv (μ.1 111 9))), (0, .ref (oP ω 111))]) hx hb dX12_named_33 hl (by decide) rfl (fun ls hl => ?_)
    refine lv_aload_n hx hb dX12_named_35 rfl (lv_at hl 3 rfl) ?_
    have hq_846 : ∀ _ : Unit, q0m μ μ821 := fun _ => (q0m.fr (K := [111]) (Fr.tr (Fr.tr (Fr.tr (Fr.tr Fr.rf F_5 (by decide)) F_42 (by decide)) F_77 (by decide)) F_823 (by decide)) (by decide) (by decide) (by decide) ((hp_824 22 (by decide)).trans ((hp_78 22 (by decide)).trans ((hp_43 22 (by decide)).trans (hp_6 22 (by decide))))) (Int.le_trans (Int.le_trans (Int.le_trans (Int.le_of_eq (hp_6 29 (by decide)).symm) (Int.le_of_eq (hp_43 29 (by decide)).symm)) (Int.le_of_eq (hp_78 29 (by decide)).symm)) (Int.le_of_eq (hp_824 29 (by decide)).symm)))
    have e_847 : wr μ821 = wr μ75 := (wr_cg (hp_824 15 (by decide)))
    have hw_848 := wr_r (μ := μ75)
    have e_849 : bd μ821 = bd μ75 := (bd_cg (hp_824 15 (by decide)) (hp_824 16 (by decide)))
    have e_850 : nn μ821 = nn μ75 := (nn_cg (hp_824 15 (by decide)) (hp_824 18 (by decide)))
    have hht_851 : ∀ _ : Unit, bd μ821 = 0 → mHt μ821 0 := fun _ h0 => (hht_0 () (bd_z (Int.le_trans (Int.le_trans (Int.le_trans (Int.le_of_eq (bd_cg (hp_6 15 (by decide)) (hp_6 16 (by decide))).symm) ((hp_46 ()).2)) ((hp_82 ()).2)) (Int.le_of_eq (bd_cg (hp_824 15 (by decide)) (hp_824 16 (by decide))).symm)) h0)).qm (hq_846 ())
    have e_852 : μ821.1 111 29 = μ.1 111 29 := ((hp_824 29 (by decide)).trans ((hp_78 29 (by decide)).trans ((hp_43 29 (by decide)).trans (hp_6 29 (by decide)))))
    have hxt_853 : mEXT μ μ821 := (q0m.fr (K := [111]) (Fr.tr (Fr.tr (Fr.tr (Fr.tr Fr.rf F_5 (by decide)) F_42 (by decide)) F_77 (by decide)) F_823 (by decide)) (by decide) (by decide) (by decide) ((hp_824 22 (by decide)).trans ((hp_78 22 (by decide)).trans ((hp_43 22 (by decide)).trans (hp_6 22 (by decide))))) (Int.le_trans (Int.le_trans (Int.le_trans (Int.le_of_eq (hp_6 29 (by decide)).symm) (Int.le_of_eq (hp_43 29 (by decide)).symm)) (Int.le_of_eq (hp_78 29 (by decide)).symm)) (Int.le_of_eq (hp_824 29 (by decide)).symm))).1
    have e_854 : μ821.1 111 14 = tt := ((hp_824 14 (by decide)).trans ((hp_78 14 (by decide)).trans ((hp_43 14 (by decide)).trans ((hp_6 14 (by decide)).trans htt.symm))))
    have hPM_855 : PM μ821 := hp_79.cg ((((hp_824 4 (by decide)).trans ((hp_78 4 (by decide)).trans ((hp_43 4 (by decide)).trans (hp_6 4 (by decide)))))).trans (((hp_78 4 (by decide)).trans ((hp_43 4 (by decide)).trans (hp_6 4 (by decide))))).symm) (hp_824 6 (by decide)) ((((hp_824 7 (by decide)).trans ((hp_78 7 (by decide)).trans ((hp_43 7 (by decide)).trans (hp_6 7 (by decide)))))).trans (((hp_78 7 (by decide)).trans ((hp_43 7 (by decide)).trans (hp_6 7 (by decide))))).symm) (hp_824 8 (by decide)) (hp_824 9 (by decide)) (hp_824 11 (by decide)) (hp_824 12 (by decide)) ((((hp_824 14 (by decide)).trans ((hp_78 14 (by decide)).trans ((hp_43 14 (by decide)).trans ((hp_6 14 (by decide)).trans htt.symm))))).trans (((hp_78 14 (by decide)).trans ((hp_43 14 (by decide)).trans ((hp_6 14 (by decide)).trans htt.symm)))).symm) (hp_824 15 (by decide)) ((((hp_824 29 (by decide)).trans ((hp_78 29 (by decide)).trans ((hp_43 29 (by decide)).trans (hp_6 29 (by decide)))))).trans (((hp_78 29 (by decide)).trans ((hp_43 29 (by decide)).trans (hp_6 29 (by decide))))).symm) (fun j => (F_823.1 123 (by decide) j))
    have e_860 : μ821.1 111 22 = μ.1 111 22 := ((hp_824 22 (by decide)).trans ((hp_78 22 (by decide)).trans ((hp_43 22 (by decide)).trans (hp_6 22 (by decide)))))
    have e_862 : μ821.1 111 9 = μ75.1 111 9 := (hp_824 9 (by decide))
    have e_864 : μ821.1 111 39 = μ.1 111 39 := ((hp_824 39 (by decide)).trans ((hp_78 39 (by decide)).trans ((hp_43 39 (by decide)).trans (hp_6 39 (by decide)))))
    have e_867 : μ821.1 111 31 = μ.1 111 31 := ((hp_824 31 (by decide)).trans ((hp_78 31 (by decide)).trans ((hp_43 31 (by decide)).trans (hp_6 31 (by decide)))))
    refine xc_vV G (b := 111) (rest := []) (As := []) (c_X12_expr_a ω l μ821 tt (by (repeat' apply And.intro) <;> omega) hPM_855 (by (repeat' apply And.intro) <;> omega) (by (repeat' apply And.intro) <;> omega) (by (repeat' apply And.intro) <;> omega) (by (repeat' apply And.intro) <;> omega) (by (repeat' apply And.intro) <;> omega) (fun _ h0 => (hht_851 () h0).p (by decide))) (wm 9 139 rfl rfl) (wm 9 141 rfl rfl) (wm 0 147 rfl rfl) rfl rfl (by decide) rfl (wm 1 18 rfl rfl) (wm 9 142 rfl rfl) (by decide) hR ⟨nfB hF (by decide), nlB hLo (by decide)⟩ (n := 0) rfl rfl (Nat.le_of_ble_eq_true rfl) hl.1 dX12_named_36 (fun μ879 ρ d0 H locs hp G => ?_)
    obtain ⟨F_880, hp_881, hp_882, hp_883, hp_884, hp_885, hp_886, hp_887, hp_888, hp_889, hp_890, hp_891⟩ := hp
    have hpl_892 := hp_882.pl
    have hw_893 := wr_r (μ := μ879)
    have hw_894 := wr_r (μ := μ821)
    have hxt_895 : mEXT μ μ879 := hxt_853.tr hp_891
    have hwk_896 : ∀ j, j < μ.1 111 39 → μ879.1 126 j = μ821.1 126 j := fun j hj => hp_889 j (by omega)
    have hex_897 : ∀ _ : Unit, bd μ879 = 0 → mEX μ821 μ879 tt 1 0 99 := fun _ h0 => (hp_890 () h0).mn (Int.le_refl _) (by omega)
    have hht_898 : ∀ _ : Unit, bd μ879 = 0 → mHt μ879 1 := fun _ h0 => (hht_851 () (bd_z (hp_886.2) h0)).ex (hex_897 () h0) rfl
    have vl_899 := hp_883
    replace hp_883 := fun _ : Unit => hp_883
    have vl_900 := hp_884
    replace hp_884 := fun _ : Unit => hp_884
    have vl_901 := hp_885
    replace hp_885 := fun _ : Unit => hp_885
    have vl_902 := hp_886
    replace hp_886 := fun _ : Unit => hp_886
    have vl_903 := hp_887
    replace hp_887 := fun _ : Unit => hp_887
    have vl_904 := hp_888
    replace hp_888 := fun _ : Unit => hp_888
    have h39_905 : μ879.1 111 39 = μ.1 111 39 := by omega
    obtain ⟨hv_908, hv_909, hv_910, hv_911, hv_912, hv_913, hv_914, hv_915, hv_916, hv_917, hv_918, hv_919, hv_920, hv_921, hv_922, hv_923, hv_924, hv_925⟩ : μ.1 111 22 ≤ μ879.1 111 22 ∧ μ879.1 111 22 ≤ μ.1 111 22 + 2 * (μ879.1 111 9 - μ.1 111 9) + 8 * (nn μ879 - nn μ) - 3 + -5 * wr μ879 ∧ μ.1 111 9 + 1 ≤ μ879.1 111 9 ∧ nn μ + 0 ≤ nn μ879 ∧ nn μ879 ≤ nn μ + 0 + 9 * wr μ879 ∧ nn μ879 ≤ 8 + wr μ879 ∧ 9 * wr μ879 ≤ nn μ879 ∧ nn μ879 ≤ 9 ∧ wr μ ≤ wr μ879 ∧ wr μ879 ≤ 1 ∧ wr μ879 ≤ bd μ879 ∧ bd μ879 ≤ 1 ∧ μ.1 111 29 ≤ μ879.1 111 29 ∧ μ.1 111 31 ≤ μ.1 111 31 ∧ μ.1 111 31 ≤ 300 ∧ 0 ≤ μ.1 111 32 ∧ μ.1 111 32 ≤ μ879.1 111 9 ∧ μ879.1 111 9 ≤ 3000 := by (repeat' apply And.intro) <;> omega
    clear hv_828 hv_829 hv_830 hv_831 hv_832 hv_833 hv_834 hv_835 hv_836 hv_837 hv_838 hv_839 hv_840 hv_841 hv_842 hv_843 hv_844 hv_845 e_847 hw_848 e_849 e_850 e_852 e_854 e_860 e_862 e_864 e_867 hpl_892 hw_893 hw_894 vl_899 vl_900 vl_901 vl_902 vl_903 vl_904
    refine lv_aload_n hx hb dX12_named_39 rfl (lv_at hl 3 rfl) ?_
    refine lv_bipush (v := iv 59) hx hb dX12_named_40 rfl ?_
    have hw_926 := wr_r (μ := μ879)
    refine xc_vV G (b := 111) (rest := []) (As := [.int (iv 59)]) (c_X12_wantsSign ω l μ879 59 (by unfold ir; decide) hp_882 (by (repeat' apply And.intro) <;> omega)) (wm 9 114 rfl rfl) (wm 9 116 rfl rfl) (wm 0 141 rfl rfl) rfl rfl (by decide) rfl (wm 1 18 rfl rfl) (wm 9 117 rfl rfl) (by decide) hR ⟨nfB hF (by decide), nlB hLo (by decide)⟩ (n := 1) rfl rfl (Nat.le_of_ble_eq_true rfl) hl.1 dX12_named_42 (fun μ927 ρ d0 H locs hp G => ?_)
    obtain ⟨F_928, hp_929, hp_930, hp_931, hp_932, hp_933, hp_934⟩ := hp
    have hpl_935 := hp_930.pl
    have hw_936 := wr_r (μ := μ927)
    have vl_937 := hp_931
    replace hp_931 := fun _ : Unit => hp_931
    have vl_938 := hp_932
    replace hp_932 := fun _ : Unit => hp_932
    have vl_939 := hp_933
    replace hp_933 := fun _ : Unit => hp_933
    have vl_940 := hp_934
    replace hp_934 := fun _ : Unit => hp_934
    obtain ⟨hv_943, hv_944, hv_945, hv_946, hv_947, hv_948, hv_949, hv_950, hv_951, hv_952, hv_953, hv_954, hv_955, hv_956, hv_957, hv_958, hv_959, hv_960⟩ : μ.1 111 22 ≤ μ879.1 111 22 ∧ μ879.1 111 22 ≤ μ.1 111 22 + 2 * (μ927.1 111 9 - μ.1 111 9) + 8 * (nn μ927 - nn μ) - 5 + -3 * wr μ927 ∧ μ.1 111 9 + 1 ≤ μ927.1 111 9 ∧ nn μ + 0 ≤ nn μ927 ∧ nn μ927 ≤ nn μ + 0 + 9 * wr μ927 ∧ nn μ927 ≤ 8 + wr μ927 ∧ 9 * wr μ927 ≤ nn μ927 ∧ nn μ927 ≤ 9 ∧ wr μ ≤ wr μ927 ∧ wr μ927 ≤ 1 ∧ wr μ927 ≤ bd μ927 ∧ bd μ927 ≤ 1 ∧ μ.1 111 29 ≤ μ879.1 111 29 ∧ μ.1 111 31 ≤ μ.1 111 31 ∧ μ.1 111 31 ≤ 300 ∧ 0 ≤ μ.1 111 32 ∧ μ.1 111 32 ≤ μ927.1 111 9 ∧ μ927.1 111 9 ≤ 3000 := by (repeat' apply And.intro) <;> omega
    clear hv_908 hv_909 hv_910 hv_911 hv_912 hv_913 hv_914 hv_915 hv_916 hv_917 hv_918 hv_919 hv_920 hv_921 hv_922 hv_923 hv_924 hv_925 hw_926 hpl_935 hw_936 vl_937 vl_938 vl_939 vl_940
    refine lv_aload_n hx hb dX12_named_45 rfl (lv_at hl 3 rfl) ?_
    refine lv_iconst (v := iv 4) hx hb dX12_named_46 rfl ?_
    refine lv_iload hx hb dX12_named_47 (lv_at hl 0 rfl) ?_
    refine xb_i2l hx hb (by unfold ir; exact ⟨by omega, by omega⟩) dX12_named_49 ?_
    refine lv_iconst (v := iv 0) hx hb dX12_named_50 rfl ?_
    have hq_961 : ∀ _ : Unit, q0m μ879 μ927 := fun _ => (q0m.fr (K := [111]) (Fr.tr Fr.rf F_928 (by decide)) (by decide) (by decide) (by decide) (hp_929 22 (by decide)) (Int.le_of_eq (hp_929 29 (by decide)).symm))
    have hw_962 := wr_r (μ := μ927)
    have hht_963 : ∀ _ : Unit, bd μ927 = 0 → mHt μ927 1 := fun _ h0 => (hht_898 () (bd_z ((hp_933 ()).2) h0)).qm (hq_961 ())
    have e_964 : μ927.1 111 29 = μ879.1 111 29 := (hp_929 29 (by decide))
    have hxt_965 : mEXT μ μ927 := hxt_895.tr (q0m.fr (K := [111]) (Fr.tr Fr.rf F_928 (by decide)) (by decide) (by decide) (by decide) (hp_929 22 (by decide)) (Int.le_of_eq (hp_929 29 (by decide)).symm)).1
    have e_966 : μ927.1 111 22 = μ879.1 111 22 := (hp_929 22 (by decide))
    refine xc_iV G (b := 111) (rest := []) (As := [.int (iv 4), .long (jv r_822), .int (iv 0)]) (c_X12_emit ω l μ927 4 r_822 0 (by unfold ir; decide) (by unfold jr; omega) (by unfold ir; decide) (by (repeat' apply And.intro) <;> omega)) (wm 9 126 rfl rfl) (wm 9 128 rfl rfl) (wm 0 144 rfl rfl) rfl rfl (by decide) rfl (wm 1 18 rfl rfl) (wm 9 129 rfl rfl) (by decide) hR ⟨nfB hF (by decide), nlB hLo (by decide)⟩ (n := 3) rfl rfl (Nat.le_of_ble_eq_true rfl) hl.1 dX12_named_51 (fun r_971 μ970 ρ d0 H locs hr_r_971 hp G => ?_)
    have hr_r_971 : -2147483648 ≤ r_971 ∧ r_971 ≤ 2147483647 := hr_r_971
    obtain ⟨F_972, hp_973, hp_974, hp_975, hp_976⟩ := hp
    have hxt_977 : mEXT μ μ970 := hxt_965.tr hp_974.1
    have hht_978 : ∀ _ : Unit, bd μ970 = 0 → mHt μ970 0 := fun _ h0 => (hht_963 () (bd_z (Int.le_of_eq (bd_cg (hp_973 15 (by decide)) (hp_973 16 (by decide))).symm) h0)).ad hp_974 rfl
    have vl_979 := hp_976
    replace hp_976 := fun _ : Unit => hp_976
    obtain ⟨hv_982, hv_983, hv_984, hv_985, hv_986, hv_987, hv_988, hv_989, hv_990, hv_991, hv_992, hv_993, hv_994, hv_995, hv_996, hv_997, hv_998, hv_999⟩ : μ.1 111 22 ≤ μ970.1 111 22 ∧ μ970.1 111 22 ≤ μ.1 111 22 + 2 * (μ927.1 111 9 - μ.1 111 9) + 8 * (nn μ927 - nn μ) - 4 + -3 * wr μ927 ∧ μ.1 111 9 + 1 ≤ μ927.1 111 9 ∧ nn μ + 0 ≤ nn μ927 ∧ nn μ927 ≤ nn μ + 0 + 9 * wr μ927 ∧ nn μ927 ≤ 8 + wr μ927 ∧ 9 * wr μ927 ≤ nn μ927 ∧ nn μ927 ≤ 9 ∧ wr μ ≤ wr μ927 ∧ wr μ927 ≤ 1 ∧ wr μ927 ≤ bd μ927 ∧ bd μ927 ≤ 1 ∧ μ.1 111 29 ≤ μ879.1 111 29 ∧ μ.1 111 31 ≤ μ.1 111 31 ∧ μ.1 111 31 ≤ 300 ∧ 0 ≤ μ.1 111 32 ∧ μ.1 111 32 ≤ μ927.1 111 9 ∧ μ927.1 111 9 ≤ 3000 := by (repeat' apply And.intro) <;> omega
    clear hv_943 hv_944 hv_945 hv_946 hv_947 hv_948 hv_949 hv_950 hv_951 hv_952 hv_953 hv_954 hv_955 hv_956 hv_957 hv_958 hv_959 hv_960 hw_962 e_964 e_966 vl_979
    refine lv_pop hx hb dX12_named_54 rfl ?_
    have e_1000 : μ970.1 111 9 = μ927.1 111 9 := (hp_973 9 (by decide))
    have e_1001 : μ970.1 111 29 = μ879.1 111 29 := ((hp_973 29 (by decide)).trans (hp_929 29 (by decide)))
    have e_1002 : μ970.1 111 39 = μ879.1 111 39 := ((hp_973 39 (by decide)).trans (hp_929 39 (by decide)))
    have e_1003 : μ970.1 111 31 = μ.1 111 31 := ((hp_973 31 (by decide)).trans ((hp_929 31 (by decide)).trans ((hp_881 31 (by decide)).trans ((hp_824 31 (by decide)).trans ((hp_78 31 (by decide)).trans ((hp_43 31 (by decide)).trans (hp_6 31 (by decide))))))))
    have e_1004 : μ970.1 111 32 = μ.1 111 32 := ((hp_973 32 (by decide)).trans ((hp_929 32 (by decide)).trans ((hp_881 32 (by decide)).trans ((hp_824 32 (by decide)).trans ((hp_78 32 (by decide)).trans ((hp_43 32 (by decide)).trans (hp_6 32 (by decide))))))))
    have e_1005 : μ970.1 111 6 = μ927.1 111 6 := (hp_973 6 (by decide))
    have e_1006 : wr μ970 = wr μ927 := (wr_cg (hp_973 15 (by decide)))
    have hw_1007 := wr_r (μ := μ927)
    have e_1008 : bd μ970 = bd μ927 := (bd_cg (hp_973 15 (by decide)) (hp_973 16 (by decide)))
    have e_1009 : nn μ970 = nn μ927 := (nn_cg (hp_973 15 (by decide)) (hp_973 18 (by decide)))
    have hPM_1010 : PM μ970 := hp_930.cg ((((hp_973 4 (by decide)).trans ((hp_929 4 (by decide)).trans ((hp_881 4 (by decide)).trans ((hp_824 4 (by decide)).trans ((hp_78 4 (by decide)).trans ((hp_43 4 (by decide)).trans (hp_6 4 (by decide))))))))).trans (((hp_929 4 (by decide)).trans ((hp_881 4 (by decide)).trans ((hp_824 4 (by decide)).trans ((hp_78 4 (by decide)).trans ((hp_43 4 (by decide)).trans (hp_6 4 (by decide)))))))).symm) (hp_973 6 (by decide)) ((((hp_973 7 (by decide)).trans ((hp_929 7 (by decide)).trans ((hp_881 7 (by decide)).trans ((hp_824 7 (by decide)).trans ((hp_78 7 (by decide)).trans ((hp_43 7 (by decide)).trans (hp_6 7 (by decide))))))))).trans (((hp_929 7 (by decide)).trans ((hp_881 7 (by decide)).trans ((hp_824 7 (by decide)).trans ((hp_78 7 (by decide)).trans ((hp_43 7 (by decide)).trans (hp_6 7 (by decide)))))))).symm) (hp_973 8 (by decide)) (hp_973 9 (by decide)) (hp_973 11 (by decide)) (hp_973 12 (by decide)) ((((hp_973 14 (by decide)).trans ((hp_929 14 (by decide)).trans ((hp_881 14 (by decide)).trans ((hp_824 14 (by decide)).trans ((hp_78 14 (by decide)).trans ((hp_43 14 (by decide)).trans ((hp_6 14 (by decide)).trans htt.symm)))))))).trans (((hp_929 14 (by decide)).trans ((hp_881 14 (by decide)).trans ((hp_824 14 (by decide)).trans ((hp_78 14 (by decide)).trans ((hp_43 14 (by decide)).trans ((hp_6 14 (by decide)).trans htt.symm))))))).symm) (hp_973 15 (by decide)) ((((hp_973 29 (by decide)).trans (hp_929 29 (by decide)))).trans ((hp_929 29 (by decide))).symm) (fun j => (F_972.1 123 (by decide) j))
    exact xr_v G hret hlk dX12_named_55 ⟨(Fr.tr (Fr.tr (Fr.tr (Fr.tr (Fr.tr (Fr.tr (Fr.tr Fr.rf F_5 (by decide)) F_42 (by decide)) F_77 (by decide)) F_823 (by decide)) F_880 (by decide)) F_928 (by decide)) F_972 (by decide)), (fun j hj => ((hp_973 j (fun h9 => hj ((by decide : ∀ x ∈ ([22] : List Int), x ∈ ([6, 8, 9, 10, 11, 12, 13, 15, 16, 17, 18, 22, 29, 31, 32, 34, 35, 36, 37, 39] : List Int)) j h9))).trans ((hp_929 j (fun h9 => hj ((by decide : ∀ x ∈ ([6, 8, 9, 10, 11, 12, 13, 15] : List Int), x ∈ ([6, 8, 9, 10, 11, 12, 13, 15, 16, 17, 18, 22, 29, 31, 32, 34, 35, 36, 37, 39] : List Int)) j h9))).trans ((hp_881 j (fun h9 => hj ((by decide : ∀ x ∈ ([6, 8, 9, 10, 11, 12, 13, 15, 16, 17, 18, 22, 29, 39] : List Int), x ∈ ([6, 8, 9, 10, 11, 12, 13, 15, 16, 17, 18, 22, 29, 31, 32, 34, 35, 36, 37, 39] : List Int)) j h9))).trans ((hp_824 j (fun h9 => hj ((by decide : ∀ x ∈ ([17] : List Int), x ∈ ([6, 8, 9, 10, 11, 12, 13, 15, 16, 17, 18, 22, 29, 31, 32, 34, 35, 36, 37, 39] : List Int)) j h9))).trans ((hp_78 j (fun h9 => hj ((by decide : ∀ x ∈ ([6, 8, 9, 10, 11, 12, 13, 15] : List Int), x ∈ ([6, 8, 9, 10, 11, 12, 13, 15, 16, 17, 18, 22, 29, 31, 32, 34, 35, 36, 37, 39] : List Int)) j h9))).trans ((hp_43 j (fun h9 => hj ((by decide : ∀ x ∈ ([6, 8, 9, 10, 11, 12, 13, 15] : List Int), x ∈ ([6, 8, 9, 10, 11, 12, 13, 15, 16, 17, 18, 22, 29, 31, 32, 34, 35, 36, 37, 39] : List Int)) j h9))).trans (hp_6 j (fun h9 => hj ((by decide : ∀ x ∈ ([34, 35, 36, 37] : List Int), x ∈ ([6, 8, 9, 10, 11, 12, 13, 15, 16, 17, 18, 22, 29, 31, 32, 34, 35, 36, 37, 39] : List Int)) j h9)))))))))), hPM_1010, (by (repeat' apply And.intro) <;> omega), (by (repeat' apply And.intro) <;> omega), (by (repeat' apply And.intro) <;> omega), ⟨by omega, (Int.le_trans (Int.le_trans (Int.le_trans (Int.le_trans (Int.le_trans (Int.le_trans (Int.le_of_eq (bd_cg (hp_6 15 (by decide)) (hp_6 16 (by decide))).symm) ((hp_46 ()).2)) ((hp_82 ()).2)) (Int.le_of_eq (bd_cg (hp_824 15 (by decide)) (hp_824 16 (by decide))).symm)) ((hp_886 ()).2)) ((hp_933 ()).2)) (Int.le_of_eq (bd_cg (hp_973 15 (by decide)) (hp_973 16 (by decide))).symm))⟩, (by (repeat' apply And.intro) <;> omega), (by (repeat' apply And.intro) <;> omega), (fun j hj => ((F_972.1 126 (by decide) j).trans ((F_928.1 126 (by decide) j).trans ((hwk_896 j (by omega)).trans ((F_823.1 126 (by decide) j).trans ((F_77.1 126 (by decide) j).trans ((F_42.1 126 (by decide) j).trans (F_5.1 126 (by decide) j)))))))), (by (repeat' apply And.intro) <;> omega), (by (repeat' apply And.intro) <;> omega), (fun _ h0 => mEY.ql (hq_846 ()) (as_one (M := (2 * (9 - nn μ))) ((hS1 () (bd_z (Int.le_trans (Int.le_trans (Int.le_trans (Int.le_trans (Int.le_trans (Int.le_trans (Int.le_of_eq (bd_cg (hp_6 15 (by decide)) (hp_6 16 (by decide))).symm) ((hp_46 ()).2)) ((hp_82 ()).2)) (Int.le_of_eq (bd_cg (hp_824 15 (by decide)) (hp_824 16 (by decide))).symm)) ((hp_886 ()).2)) ((hp_933 ()).2)) (Int.le_of_eq (bd_cg (hp_973 15 (by decide)) (hp_973 16 (by decide))).symm)) h0)).qm (hq_846 ())).s ((hex_897 () (bd_z (Int.le_trans ((hp_933 ()).2) (Int.le_of_eq (bd_cg (hp_973 15 (by decide)) (hp_973 16 (by decide))).symm)) h0)).qm (hq_961 ())) (by omega) (by omega) hp_974 (by unfold mpl; omega) rfl rfl (fun h1 => ⟨fun q => absurd q (by decide), fun _ => by omega, fun _ => by omega, fun q => absurd q (by decide), fun q => absurd q (by decide), fun q => absurd q (by decide), fun q => absurd q (by decide), fun q => absurd q (by decide), fun q => absurd q (by decide), fun q => absurd q (by decide), fun q => absurd q (by decide), fun q => absurd q (by decide), fun q => absurd q (by decide), fun q => absurd q (by decide), fun q => absurd q (by decide), fun q => absurd q (by decide), fun q => absurd q (by decide), fun q => absurd q (by decide), fun q => absurd q (by decide), fun q => absurd q (by decide), fun q => absurd q (by decide), fun q => absurd q (by decide), ⟨by decide, by decide⟩⟩))), hxt_977⟩
