abbrev cX12_asksNumber : ByteArray := prog_14_method_112_code
def yX12_asksNumber : MethodName := ⟨RX12, "asksNumber", "()Z"⟩
abbrev cX12_arisesHere : ByteArray := prog_14_method_113_code
def yX12_arisesHere : MethodName := ⟨RX12, "arisesHere", "(I)V"⟩
abbrev cX12_isOpen : ByteArray := prog_14_method_117_code
def yX12_isOpen : MethodName := ⟨RX12, "isOpen", "(I)Z"⟩
abbrev cX12_exits : ByteArray := prog_14_method_118_code
def yX12_exits : MethodName := ⟨RX12, "exits", "(IIJ)V"⟩
theorem dX12_asksNumber_0 : decode cX12_asksNumber 0 = .ok (.aload_n 0, 1) := by decide +kernel
theorem dX12_asksNumber_1 : decode cX12_asksNumber 1 = .ok (.invokevirtual 690, 3) := by decide +kernel
theorem dX12_asksNumber_4 : decode cX12_asksNumber 4 = .ok (.iconst 1, 1) := by decide +kernel
theorem dX12_asksNumber_5 : decode cX12_asksNumber 5 = .ok (.if_icmp .ne 5, 3) := by decide +kernel
theorem dX12_asksNumber_8 : decode cX12_asksNumber 8 = .ok (.iconst 1, 1) := by decide +kernel
theorem dX12_asksNumber_9 : decode cX12_asksNumber 9 = .ok (.ireturn, 1) := by decide +kernel
theorem dX12_asksNumber_10 : decode cX12_asksNumber 10 = .ok (.aload_n 0, 1) := by decide +kernel
theorem dX12_asksNumber_11 : decode cX12_asksNumber 11 = .ok (.invokevirtual 690, 3) := by decide +kernel
theorem dX12_asksNumber_14 : decode cX12_asksNumber 14 = .ok (.istore_n 1, 1) := by decide +kernel
theorem dX12_asksNumber_15 : decode cX12_asksNumber 15 = .ok (.aload_n 0, 1) := by decide +kernel
theorem dX12_asksNumber_16 : decode cX12_asksNumber 16 = .ok (.getfield 85, 3) := by decide +kernel
theorem dX12_asksNumber_19 : decode cX12_asksNumber 19 = .ok (.aload_n 0, 1) := by decide +kernel
theorem dX12_asksNumber_20 : decode cX12_asksNumber 20 = .ok (.getfield 574, 3) := by decide +kernel
theorem dX12_asksNumber_23 : decode cX12_asksNumber 23 = .ok (.iconst 1, 1) := by decide +kernel
theorem dX12_asksNumber_24 : decode cX12_asksNumber 24 = .ok (.isub, 1) := by decide +kernel
theorem dX12_asksNumber_25 : decode cX12_asksNumber 25 = .ok (.laload, 1) := by decide +kernel
theorem dX12_asksNumber_26 : decode cX12_asksNumber 26 = .ok (.lstore_n 2, 1) := by decide +kernel
theorem dX12_asksNumber_27 : decode cX12_asksNumber 27 = .ok (.aload_n 0, 1) := by decide +kernel
theorem dX12_asksNumber_28 : decode cX12_asksNumber 28 = .ok (.dup, 1) := by decide +kernel
theorem dX12_asksNumber_29 : decode cX12_asksNumber 29 = .ok (.getfield 574, 3) := by decide +kernel
theorem dX12_asksNumber_32 : decode cX12_asksNumber 32 = .ok (.iconst 1, 1) := by decide +kernel
theorem dX12_asksNumber_33 : decode cX12_asksNumber 33 = .ok (.isub, 1) := by decide +kernel
theorem dX12_asksNumber_34 : decode cX12_asksNumber 34 = .ok (.putfield 574, 3) := by decide +kernel
theorem dX12_asksNumber_37 : decode cX12_asksNumber 37 = .ok (.iload_n 1, 1) := by decide +kernel
theorem dX12_asksNumber_38 : decode cX12_asksNumber 38 = .ok (.iconst 4, 1) := by decide +kernel
theorem dX12_asksNumber_39 : decode cX12_asksNumber 39 = .ok (.if_icmp .ne 13, 3) := by decide +kernel
theorem dX12_asksNumber_42 : decode cX12_asksNumber 42 = .ok (.aload_n 0, 1) := by decide +kernel
theorem dX12_asksNumber_43 : decode cX12_asksNumber 43 = .ok (.iconst 1, 1) := by decide +kernel
theorem dX12_asksNumber_44 : decode cX12_asksNumber 44 = .ok (.iconst 4, 1) := by decide +kernel
theorem dX12_asksNumber_45 : decode cX12_asksNumber 45 = .ok (.lload_n 2, 1) := by decide +kernel
theorem dX12_asksNumber_46 : decode cX12_asksNumber 46 = .ok (.invokevirtual 623, 3) := by decide +kernel
theorem dX12_asksNumber_49 : decode cX12_asksNumber 49 = .ok (.goto 8, 3) := by decide +kernel
theorem dX12_asksNumber_52 : decode cX12_asksNumber 52 = .ok (.aload_n 0, 1) := by decide +kernel
theorem dX12_asksNumber_53 : decode cX12_asksNumber 53 = .ok (.iconst 4, 1) := by decide +kernel
theorem dX12_asksNumber_54 : decode cX12_asksNumber 54 = .ok (.invokevirtual 693, 3) := by decide +kernel
theorem dX12_asksNumber_57 : decode cX12_asksNumber 57 = .ok (.iconst 0, 1) := by decide +kernel
theorem dX12_asksNumber_58 : decode cX12_asksNumber 58 = .ok (.ireturn, 1) := by decide +kernel
theorem dX12_arisesHere_0 : decode cX12_arisesHere 0 = .ok (.aload_n 0, 1) := by decide +kernel
theorem dX12_arisesHere_1 : decode cX12_arisesHere 1 = .ok (.invokevirtual 609, 3) := by decide +kernel
theorem dX12_arisesHere_4 : decode cX12_arisesHere 4 = .ok (.iconst 2, 1) := by decide +kernel
theorem dX12_arisesHere_5 : decode cX12_arisesHere 5 = .ok (.if_icmp .ne 7, 3) := by decide +kernel
theorem dX12_arisesHere_8 : decode cX12_arisesHere 8 = .ok (.iconst 1, 1) := by decide +kernel
theorem dX12_arisesHere_9 : decode cX12_arisesHere 9 = .ok (.goto 4, 3) := by decide +kernel
theorem dX12_arisesHere_12 : decode cX12_arisesHere 12 = .ok (.iconst 0, 1) := by decide +kernel
theorem dX12_arisesHere_13 : decode cX12_arisesHere 13 = .ok (.istore_n 2, 1) := by decide +kernel
theorem dX12_arisesHere_14 : decode cX12_arisesHere 14 = .ok (.aload_n 0, 1) := by decide +kernel
theorem dX12_arisesHere_15 : decode cX12_arisesHere 15 = .ok (.iload_n 1, 1) := by decide +kernel
theorem dX12_arisesHere_16 : decode cX12_arisesHere 16 = .ok (.invokevirtual 678, 3) := by decide +kernel
theorem dX12_arisesHere_19 : decode cX12_arisesHere 19 = .ok (.aload_n 0, 1) := by decide +kernel
theorem dX12_arisesHere_20 : decode cX12_arisesHere 20 = .ok (.getfield 593, 3) := by decide +kernel
theorem dX12_arisesHere_23 : decode cX12_arisesHere 23 = .ok (.ifCond .ne 7, 3) := by decide +kernel
theorem dX12_arisesHere_26 : decode cX12_arisesHere 26 = .ok (.iload_n 2, 1) := by decide +kernel
theorem dX12_arisesHere_27 : decode cX12_arisesHere 27 = .ok (.ifCond .ne 4, 3) := by decide +kernel
theorem dX12_arisesHere_30 : decode cX12_arisesHere 30 = .ok (.return_, 1) := by decide +kernel
theorem dX12_arisesHere_31 : decode cX12_arisesHere 31 = .ok (.aload_n 0, 1) := by decide +kernel
theorem dX12_arisesHere_32 : decode cX12_arisesHere 32 = .ok (.dup, 1) := by decide +kernel
theorem dX12_arisesHere_33 : decode cX12_arisesHere 33 = .ok (.getfield 574, 3) := by decide +kernel
theorem dX12_arisesHere_36 : decode cX12_arisesHere 36 = .ok (.iconst 1, 1) := by decide +kernel
theorem dX12_arisesHere_37 : decode cX12_arisesHere 37 = .ok (.isub, 1) := by decide +kernel
theorem dX12_arisesHere_38 : decode cX12_arisesHere 38 = .ok (.putfield 574, 3) := by decide +kernel
theorem dX12_arisesHere_41 : decode cX12_arisesHere 41 = .ok (.aload_n 0, 1) := by decide +kernel
theorem dX12_arisesHere_42 : decode cX12_arisesHere 42 = .ok (.iconst 1, 1) := by decide +kernel
theorem dX12_arisesHere_43 : decode cX12_arisesHere 43 = .ok (.iconst 4, 1) := by decide +kernel
theorem dX12_arisesHere_44 : decode cX12_arisesHere 44 = .ok (.aload_n 0, 1) := by decide +kernel
theorem dX12_arisesHere_45 : decode cX12_arisesHere 45 = .ok (.getfield 85, 3) := by decide +kernel
theorem dX12_arisesHere_48 : decode cX12_arisesHere 48 = .ok (.aload_n 0, 1) := by decide +kernel
theorem dX12_arisesHere_49 : decode cX12_arisesHere 49 = .ok (.getfield 574, 3) := by decide +kernel
theorem dX12_arisesHere_52 : decode cX12_arisesHere 52 = .ok (.laload, 1) := by decide +kernel
theorem dX12_arisesHere_53 : decode cX12_arisesHere 53 = .ok (.invokevirtual 623, 3) := by decide +kernel
theorem dX12_arisesHere_56 : decode cX12_arisesHere 56 = .ok (.return_, 1) := by decide +kernel
theorem dX12_isOpen_0 : decode cX12_isOpen 0 = .ok (.aload_n 0, 1) := by decide +kernel
theorem dX12_isOpen_1 : decode cX12_isOpen 1 = .ok (.getfield 580, 3) := by decide +kernel
theorem dX12_isOpen_4 : decode cX12_isOpen 4 = .ok (.iconst 1, 1) := by decide +kernel
theorem dX12_isOpen_5 : decode cX12_isOpen 5 = .ok (.isub, 1) := by decide +kernel
theorem dX12_isOpen_6 : decode cX12_isOpen 6 = .ok (.istore_n 2, 1) := by decide +kernel
theorem dX12_isOpen_7 : decode cX12_isOpen 7 = .ok (.iload_n 2, 1) := by decide +kernel
theorem dX12_isOpen_8 : decode cX12_isOpen 8 = .ok (.ifCond .le 21, 3) := by decide +kernel
theorem dX12_isOpen_11 : decode cX12_isOpen 11 = .ok (.aload_n 0, 1) := by decide +kernel
theorem dX12_isOpen_12 : decode cX12_isOpen 12 = .ok (.getfield 57, 3) := by decide +kernel
theorem dX12_isOpen_15 : decode cX12_isOpen 15 = .ok (.iload_n 2, 1) := by decide +kernel
theorem dX12_isOpen_16 : decode cX12_isOpen 16 = .ok (.iconst 1, 1) := by decide +kernel
theorem dX12_isOpen_17 : decode cX12_isOpen 17 = .ok (.isub, 1) := by decide +kernel
theorem dX12_isOpen_18 : decode cX12_isOpen 18 = .ok (.iaload, 1) := by decide +kernel
theorem dX12_isOpen_19 : decode cX12_isOpen 19 = .ok (.iconst 3, 1) := by decide +kernel
theorem dX12_isOpen_20 : decode cX12_isOpen 20 = .ok (.if_icmp .ne 9, 3) := by decide +kernel
theorem dX12_isOpen_23 : decode cX12_isOpen 23 = .ok (.iinc 2 (-1), 3) := by decide +kernel
theorem dX12_isOpen_26 : decode cX12_isOpen 26 = .ok (.goto (-19), 3) := by decide +kernel
theorem dX12_isOpen_29 : decode cX12_isOpen 29 = .ok (.aload_n 0, 1) := by decide +kernel
theorem dX12_isOpen_30 : decode cX12_isOpen 30 = .ok (.getfield 72, 3) := by decide +kernel
theorem dX12_isOpen_33 : decode cX12_isOpen 33 = .ok (.iload_n 2, 1) := by decide +kernel
theorem dX12_isOpen_34 : decode cX12_isOpen 34 = .ok (.iaload, 1) := by decide +kernel
theorem dX12_isOpen_35 : decode cX12_isOpen 35 = .ok (.istore_n 3, 1) := by decide +kernel
theorem dX12_isOpen_36 : decode cX12_isOpen 36 = .ok (.iload_n 3, 1) := by decide +kernel
theorem dX12_isOpen_37 : decode cX12_isOpen 37 = .ok (.aload_n 0, 1) := by decide +kernel
theorem dX12_isOpen_38 : decode cX12_isOpen 38 = .ok (.getfield 596, 3) := by decide +kernel
theorem dX12_isOpen_41 : decode cX12_isOpen 41 = .ok (.if_icmp .ge 31, 3) := by decide +kernel
theorem dX12_isOpen_44 : decode cX12_isOpen 44 = .ok (.aload_n 0, 1) := by decide +kernel
theorem dX12_isOpen_45 : decode cX12_isOpen 45 = .ok (.getfield 88, 3) := by decide +kernel
theorem dX12_isOpen_48 : decode cX12_isOpen 48 = .ok (.iload_n 3, 1) := by decide +kernel
theorem dX12_isOpen_49 : decode cX12_isOpen 49 = .ok (.iaload, 1) := by decide +kernel
theorem dX12_isOpen_50 : decode cX12_isOpen 50 = .ok (.iconst 4, 1) := by decide +kernel
theorem dX12_isOpen_51 : decode cX12_isOpen 51 = .ok (.if_icmp .ne 15, 3) := by decide +kernel
theorem dX12_isOpen_54 : decode cX12_isOpen 54 = .ok (.aload_n 0, 1) := by decide +kernel
theorem dX12_isOpen_55 : decode cX12_isOpen 55 = .ok (.getfield 94, 3) := by decide +kernel
theorem dX12_isOpen_58 : decode cX12_isOpen 58 = .ok (.iload_n 3, 1) := by decide +kernel
theorem dX12_isOpen_59 : decode cX12_isOpen 59 = .ok (.iaload, 1) := by decide +kernel
theorem dX12_isOpen_60 : decode cX12_isOpen 60 = .ok (.iload_n 1, 1) := by decide +kernel
theorem dX12_isOpen_61 : decode cX12_isOpen 61 = .ok (.if_icmp .ne 5, 3) := by decide +kernel
theorem dX12_isOpen_64 : decode cX12_isOpen 64 = .ok (.iconst 1, 1) := by decide +kernel
theorem dX12_isOpen_65 : decode cX12_isOpen 65 = .ok (.ireturn, 1) := by decide +kernel
theorem dX12_isOpen_66 : decode cX12_isOpen 66 = .ok (.iinc 3 1, 3) := by decide +kernel
theorem dX12_isOpen_69 : decode cX12_isOpen 69 = .ok (.goto (-33), 3) := by decide +kernel
theorem dX12_isOpen_72 : decode cX12_isOpen 72 = .ok (.iconst 0, 1) := by decide +kernel
theorem dX12_isOpen_73 : decode cX12_isOpen 73 = .ok (.ireturn, 1) := by decide +kernel
theorem dX12_exits_0 : decode cX12_exits 0 = .ok (.aload_n 0, 1) := by decide +kernel
theorem dX12_exits_1 : decode cX12_exits 1 = .ok (.iload_n 1, 1) := by decide +kernel
theorem dX12_exits_2 : decode cX12_exits 2 = .ok (.invokevirtual 717, 3) := by decide +kernel
theorem dX12_exits_5 : decode cX12_exits 5 = .ok (.ifCond .eq 13, 3) := by decide +kernel
theorem dX12_exits_8 : decode cX12_exits 8 = .ok (.aload_n 0, 1) := by decide +kernel
theorem dX12_exits_9 : decode cX12_exits 9 = .ok (.iload_n 1, 1) := by decide +kernel
theorem dX12_exits_10 : decode cX12_exits 10 = .ok (.iload_n 2, 1) := by decide +kernel
theorem dX12_exits_11 : decode cX12_exits 11 = .ok (.lload_n 3, 1) := by decide +kernel
theorem dX12_exits_12 : decode cX12_exits 12 = .ok (.invokevirtual 602, 3) := by decide +kernel
theorem dX12_exits_15 : decode cX12_exits 15 = .ok (.goto 9, 3) := by decide +kernel
theorem dX12_exits_18 : decode cX12_exits 18 = .ok (.aload_n 0, 1) := by decide +kernel
theorem dX12_exits_19 : decode cX12_exits 19 = .ok (.bipush 8, 2) := by decide +kernel
theorem dX12_exits_21 : decode cX12_exits 21 = .ok (.invokevirtual 678, 3) := by decide +kernel
theorem dX12_exits_24 : decode cX12_exits 24 = .ok (.return_, 1) := by decide +kernel
/-! arrays made, cells put -/
theorem MZ.stv {μ : M3} (h : MZ μ) : ∀ j, 0 ≤ j → j < μ.1 111 53 → vv μ (μ.1 135 j) (μ.1 136 j) := h.2.2.2.2.2.2.2.2
theorem MZ.ar {μ : M3} (h : MZ μ) : ∀ a, 0 ≤ a → a < μ.1 111 65 → (0 ≤ μ.1 144 a ∧ 0 ≤ μ.1 145 a ∧ μ.1 145 a ≤ 400 ∧ μ.1 144 a + μ.1 145 a ≤ μ.1 111 68) ∧ (0 ≤ μ.1 146 a ∧ μ.1 146 a ≤ 3) := h.1.2.2.1.2.1
theorem MZ.ce {μ : M3} (h : MZ μ) : ∀ j, 0 ≤ j → j < μ.1 111 68 → vv μ (μ.1 147 j) (μ.1 148 j) := h.1.2.2.1.2.2
/-- a part of the heap of arrays is told anew -/
theorem MZ.ha {μ ν : M3} (h : MZ μ) (A : Eqa [129, 114, 115, 116, 117, 119, 120, 121, 122, 127, 128, 131, 132, 133, 134, 135, 136, 137, 138, 140, 141, 142, 143, 149, 150, 151, 152, 156, 157, 158, 159, 163, 165, 166] μ ν) (F : Eqf [4, 47, 53, 61, 81, 82, 83, 84, 95, 96, 97, 104] μ ν) (e65 : μ.1 111 65 ≤ ν.1 111 65) (hH : HA ν) : MZ ν := by
  obtain ⟨b1, b2, b3, b4, b5, b6, b7, b8, b9⟩ := h
  have c : Cs μ ν := A.cs (by decide) (F 4 (by decide))
  have u : up2 μ ν := ⟨e65, Int.le_of_eq (F 82 (by decide)).symm⟩
  obtain ⟨d1, d2, d3, d4, d5, d6, d7⟩ := b1
  unfold MZ
  rw [F 47 (by decide), F 53 (by decide), F 61 (by decide)]
  refine ⟨⟨d1.cs c, d2.cs c, hH, ⟨?_, ?_, ?_, ?_⟩, ?_, ⟨?_, ?_⟩, ?_⟩, b2, b3.mv b4.1 c (Int.le_refl _) (fun _ => ?_) (fun j _ => A 127 (by decide) j) (fun j _ => A 128 (by decide) j) (fun j _ => A 129 (by decide) j) (fun j _ => A 131 (by decide) j) (fun j _ => A 132 (by decide) j) (fun j _ => A 137 (by decide) j) (fun j _ => A 138 (by decide) j) (fun j _ => A 140 (by decide) j) (fun j _ => A 141 (by decide) j) (fun j _ => A 143 (by decide) j) u.2 (fun j _ _ => A 149 (by decide) j), ⟨?_, b4.2⟩, ?_, b6.mv (Int.le_refl _) c u (fun j _ => A 127 (by decide) j) (fun j _ => A 128 (by decide) j) (fun j _ => A 133 (by decide) j) (fun j _ => A 134 (by decide) j), b7.mv (Int.le_refl _) u (fun j _ => A 137 (by decide) j) (fun j _ => A 141 (by decide) j) (fun j _ => A 142 (by decide) j) (fun j _ => A 143 (by decide) j), ⟨?_, b8.2⟩, b9.mv u (Int.le_refl _) (fun j _ _ => A 135 (by decide) j) (fun j _ _ => A 136 (by decide) j)⟩
  · rw [F 82 (by decide), F 83 (by decide), F 81 (by decide)]; exact d4.1
  · intro g g0 g1
    rw [F 82 (by decide)] at g1
    rw [A 149 (by decide), A 150 (by decide), A 156 (by decide), A 157 (by decide), F 4 (by decide), F 81 (by decide)]
    exact d4.2.1 g g0 g1
  · exact d4.2.2.1.mv u (by rw [F 82 (by decide)]; exact Int.le_refl _) (fun j _ _ => A 151 (by decide) j) (fun j _ _ => A 152 (by decide) j)
  · intro j j0 j1
    rw [F 81 (by decide)] at j1
    rw [A 158 (by decide), A 159 (by decide), F 82 (by decide)]
    exact d4.2.2.2 j j0 j1
  · unfold EN
    rw [F 104 (by decide), F 4 (by decide)]
    refine ⟨d5.1, fun k t u k0 k1 e => ?_, fun t u => ?_⟩
    · rw [A 163 (by decide)] at e
      rw [A 165 (by decide)]
      exact d5.2.1 k t u k0 k1 e
    · rw [A 166 (by decide)]
      exact d5.2.2 t u
  · rw [F 95 (by decide), F 96 (by decide)]; exact VV.u d6.1 u
  · rw [F 97 (by decide), F 82 (by decide)]; exact d6.2
  · rw [F 84 (by decide)]; exact d7
  · unfold nb
    rw [if_neg (by omega)]; exact Int.le_refl _
  · rw [FB.eq (fun j _ => A 132 (by decide) j)]; exact b4.1
  · rw [F 81 (by decide), F 83 (by decide)]; exact b5
  · rw [FL.eq (fun j _ => A 131 (by decide) j)]; exact b8.1
/-- a cell is put -/
theorem MZ.sc {μ ν : M3} {j0 : Int} (h : MZ μ) (A : Eqa (144 :: 145 :: 146 :: [129, 114, 115, 116, 117, 119, 120, 121, 122, 127, 128, 131, 132, 133, 134, 135, 136, 137, 138, 140, 141, 142, 143, 149, 150, 151, 152, 156, 157, 158, 159, 163, 165, 166]) μ ν) (F : Eqf [4, 47, 53, 61, 65, 68, 69, 81, 82, 83, 84, 95, 96, 97, 104] μ ν) (e47 : ∀ j, j ≠ j0 → ν.1 147 j = μ.1 147 j) (e48 : ∀ j, j ≠ j0 → ν.1 148 j = μ.1 148 j) (hv : vv μ (ν.1 147 j0) (ν.1 148 j0)) : MZ ν := by
  have u : up2 μ ν := up2.eq (F 65 (by decide)) (F 82 (by decide))
  have d := h.1.2.2.1
  refine h.ha (A.sb (by decide)) (fun j hj => F j ((by decide : ∀ j ∈ ([4, 47, 53, 61, 81, 82, 83, 84, 95, 96, 97, 104] : List Int), j ∈ ([4, 47, 53, 61, 65, 68, 69, 81, 82, 83, 84, 95, 96, 97, 104] : List Int)) j hj)) u.1 ⟨?_, ?_, ?_⟩
  · rw [F 65 (by decide), F 68 (by decide), F 69 (by decide)]; exact d.1
  · intro a a0 a1
    rw [F 65 (by decide)] at a1
    rw [A 144 (by decide), A 145 (by decide), A 146 (by decide), F 68 (by decide)]
    exact d.2.1 a a0 a1
  · intro j k0 k1
    rw [F 68 (by decide)] at k1
    by_cases e : j = j0
    · rw [e]; exact VV.u hv u
    · rw [e47 j e, e48 j e]; exact VV.u (d.2.2 j k0 k1) u
/-- an array is made, and pushed -/
theorem MZ.mkp {μ ν : M3} {t x mo na : Int} (h : MZ μ) (hmo : mo = μ.1 111 53) (hna : na = μ.1 111 65) (ht : 0 ≤ t ∧ t ≤ 3) (hx : 0 ≤ x ∧ x ≤ 400) (hc : μ.1 111 69 + x + 1 ≤ 20000) (hm : mo < 8000) (A : Eqa [129, 148, 114, 115, 116, 117, 119, 120, 121, 122, 127, 128, 131, 132, 133, 134, 137, 138, 140, 141, 142, 143, 149, 150, 151, 152, 156, 157, 158, 159, 163, 165, 166] μ ν) (F : Eqf [4, 47, 61, 81, 82, 83, 84, 95, 96, 97, 104] μ ν) (e65 : ν.1 111 65 = na + 1) (e68 : ν.1 111 68 = μ.1 111 68 + x) (e69 : ν.1 111 69 = μ.1 111 69 + (x + 1)) (e53 : ν.1 111 53 = mo + 1) (a4 : ∀ j, j ≠ na → ν.1 144 j = μ.1 144 j) (a5 : ∀ j, j ≠ na → ν.1 145 j = μ.1 145 j) (a6 : ∀ j, j ≠ na → ν.1 146 j = μ.1 146 j) (v4 : ν.1 144 na = μ.1 111 68) (v5 : ν.1 145 na = x) (v6 : ν.1 146 na = t) (c7 : ∀ j, j < μ.1 111 68 → ν.1 147 j = μ.1 147 j) (z7 : ∀ j, 0 ≤ j → j < x → ν.1 147 (μ.1 111 68 + j) = 0) (p5 : ∀ j, j ≠ mo → ν.1 135 j = μ.1 135 j) (p6 : ∀ j, j ≠ mo → ν.1 136 j = μ.1 136 j) (w5 : ν.1 135 mo = 2) (w6 : ν.1 136 mo = na) : MZ ν := by
  subst hmo hna
  have hN := h.n
  have d := h.1.2.2.1
  let π : M3 := (fun a k => if a = 135 then μ.1 135 k else if a = 136 then μ.1 136 k else if a = 111 ∧ k = 53 then μ.1 111 53 else ν.1 a k, ν.2)
  have q : ∀ a, a ≠ 135 → a ≠ 136 → a ≠ 111 → ∀ k, π.1 a k = ν.1 a k := fun a h1 h2 h3 k => by
    show (if a = 135 then μ.1 135 k else if a = 136 then μ.1 136 k else if a = 111 ∧ k = 53 then μ.1 111 53 else ν.1 a k) = _
    rw [if_neg h1, if_neg h2, if_neg (fun z => h3 z.1)]
  have q1 : ∀ k, k ≠ 53 → π.1 111 k = ν.1 111 k := fun k hk => by
    show (if (111 : Int) = 135 then μ.1 135 k else if (111 : Int) = 136 then μ.1 136 k else if (111 : Int) = 111 ∧ k = 53 then μ.1 111 53 else ν.1 111 k) = _
    rw [if_neg (by decide), if_neg (by decide), if_neg (fun z => hk z.2)]
  have q2 : π.1 111 53 = μ.1 111 53 := by
    show (if (111 : Int) = 135 then μ.1 135 53 else if (111 : Int) = 136 then μ.1 136 53 else if (111 : Int) = 111 ∧ (53 : Int) = 53 then μ.1 111 53 else ν.1 111 53) = _
    rw [if_neg (by decide), if_neg (by decide), if_pos ⟨rfl, rfl⟩]
  have q5 : ∀ k, π.1 135 k = μ.1 135 k := fun k => by
    show (if (135 : Int) = 135 then μ.1 135 k else if (135 : Int) = 136 then μ.1 136 k else if (135 : Int) = 111 ∧ k = 53 then μ.1 111 53 else ν.1 135 k) = _
    rw [if_pos rfl]
  have q6 : ∀ k, π.1 136 k = μ.1 136 k := fun k => by
    show (if (136 : Int) = 135 then μ.1 135 k else if (136 : Int) = 136 then μ.1 136 k else if (136 : Int) = 111 ∧ k = 53 then μ.1 111 53 else ν.1 136 k) = _
    rw [if_neg (by decide), if_pos rfl]
  have hπ : MZ π := by
    refine h.ha (fun a ha j => ?_) (fun k hk => ?_) (by rw [q1 65 (by decide), e65]; omega) ⟨?_, ?_, ?_⟩
    · by_cases e5 : a = 135
      · rw [e5]; exact q5 j
      · by_cases e6 : a = 136
        · rw [e6]; exact q6 j
        · rw [q a e5 e6 (fun z => by rw [z] at ha; revert ha; decide)]
          exact A a (by revert ha; simp only [List.mem_cons, List.not_mem_nil, or_false]; omega) j
    · by_cases e : k = 53
      · rw [e]; exact q2
      · rw [q1 k e]
        exact F k (by revert hk; simp only [List.mem_cons, List.not_mem_nil, or_false]; omega)
    · rw [q1 65 (by decide), q1 68 (by decide), q1 69 (by decide), e65, e68, e69]; omega
    · intro a a0 a1
      rw [q1 65 (by decide), e65] at a1
      rw [q 144 (by decide) (by decide) (by decide), q 145 (by decide) (by decide) (by decide), q 146 (by decide) (by decide) (by decide), q1 68 (by decide), e68]
      by_cases e : a = μ.1 111 65
      · rw [e, v4, v5, v6]; omega
      · rw [a4 a e, a5 a e, a6 a e]
        have := d.2.1 a a0 (by omega)
        omega
    · intro j j0 j1
      rw [q1 68 (by decide), e68] at j1
      rw [q 147 (by decide) (by decide) (by decide), q 148 (by decide) (by decide) (by decide)]
      by_cases e : j < μ.1 111 68
      · rw [c7 j e, A 148 (by decide)]
        have := d.2.2 j j0 e
        unfold vv at *
        rw [q1 65 (by decide), q1 82 (by decide), e65, F 82 (by decide)]
        exact this.up (by omega) (Int.le_refl _)
      · have := z7 (j - μ.1 111 68) (by omega) (by omega)
        rw [show μ.1 111 68 + (j - μ.1 111 68) = j by omega] at this
        rw [this]; exact VV.n0
  refine MZ.ps hπ (fun a ha j => (q a (fun z => by rw [z] at ha; revert ha; decide) (fun z => by rw [z] at ha; revert ha; decide) (fun z => by rw [z] at ha; revert ha; decide) j).symm) (fun k hk => (q1 k (fun z => by rw [z] at hk; revert hk; decide)).symm) (by rw [q2]; exact e53) (by rw [q2]; exact hm) (fun j hj => by rw [q2] at hj; rw [q5]; exact p5 j hj) (fun j hj => by rw [q2] at hj; rw [q6]; exact p6 j hj) ?_
  rw [q2, w5, w6]
  unfold vv
  rw [q1 65 (by decide), e65]
  exact ⟨by decide, fun _ => by omega, fun z => absurd z (by decide), fun z => absurd z (by decide)⟩
set_option maxHeartbeats 4000000 in
set_option maxRecDepth 100000 in
theorem c_X12_push_r (ω : Om) (l : Launch) (μ : M3) (x1 : Int) (x2 : Int) (mo : Int) (hx1 : ir x1) (hx2 : jr x2) (hmo : mo = μ.1 111 53) (hv5 : 0 ≤ x1 ∧ x1 ≤ 4) (hm8 : 0 ≤ mo ∧ mo < 9000) : CtV ω l yX12_push cX12_push 4 0 0 [.ref (oP ω 111), .int (iv x1), .long (jv x2)] μ (fun (μ' : M3) => (FrM [111, 135, 136] μ μ') ∧ (∀ j, j ∉ ([53] : List Int) → μ'.1 111 j = μ.1 111 j) ∧ (μ'.1 111 53 = mo + 1) ∧ (μ'.1 135 mo = x1) ∧ (μ'.1 136 mo = x2) ∧ (∀ j, j ≠ mo → μ'.1 135 j = μ.1 135 j) ∧ (∀ j, j ≠ mo → μ'.1 136 j = μ.1 136 j)) := by
  refine CtV.go (by decide) (Nat.le_of_ble_eq_true rfl) (fun ρ p e s m below meth c R ls G hR hret hlk hl => ?_)
  have hx := G.1.1
  have hb := G.1.2.1
  have hl : lv_has ls 4 [(0, .ref (oP ω 111)), (1, .int (iv x1)), (2, .long (jv x2))] := hl
  generalize s.drawn = d0 at G ⊢
  have hr_x1 : -2147483648 ≤ x1 ∧ x1 ≤ 2147483647 := hx1
  refine lv_aload_n hx hb dX12_push_0 rfl (lv_at hl 0 rfl) ?_
  refine xa_getr G fd_X12 (a := 111) (x := 135) 51 rfl (by decide) rfl (wm 7 200 rfl rfl) ⟨rfl, rfl, rfl⟩ dX12_push_1 rfl (G.sk 133 rfl) (by decide) rfl ?_
  refine lv_aload_n hx hb dX12_push_4 rfl (lv_at hl 0 rfl) ?_
  refine xa_geti G fd_X12 (a := 111) (x := mo) 53 rfl (by decide) rfl (wm 7 202 rfl rfl) ⟨rfl, rfl, rfl⟩ dX12_push_5 rfl hmo.symm ?_
  have hr_1 : -2147483648 ≤ mo ∧ mo ≤ 2147483647 := by have h9 := G.hr (a := 111) (k := 53) rfl; rw [show μ.1 111 53 = mo from hmo.symm] at h9; exact h9
  refine lv_iload_n hx hb dX12_push_8 rfl (lv_at hl 1 rfl) ?_
  refine xb_i2bx hx hb (x := x1) (by omega) dX12_push_9 ?_
  refine xa_bast G (a := 135) (i := mo) (x := x1) rfl (by have h9 := G.lc (a := 135) (n := 9000) 73 rfl; omega) (by omega) dX12_push_10 rfl (fun H locs G => ?_)
  refine lv_aload_n hx hb dX12_push_11 rfl (lv_at hl 0 rfl) ?_
  refine xa_getr G fd_X12 (a := 111) (x := 136) 52 rfl (by decide) rfl (wm 7 201 rfl rfl) ⟨rfl, rfl, rfl⟩ dX12_push_12 rfl (G.sk 134 rfl) (by decide) rfl ?_
  refine lv_aload_n hx hb dX12_push_15 rfl (lv_at hl 0 rfl) ?_
  refine xa_geti G fd_X12 (a := 111) (x := mo) 53 rfl (by decide) rfl (wm 7 202 rfl rfl) ⟨rfl, rfl, rfl⟩ dX12_push_16 rfl ((sv_n _ (fun h9 => absurd h9.1 (by decide))).trans hmo.symm) ?_
  refine lv_lload_n hx hb dX12_push_19 rfl (lv_at hl 2 rfl) ?_
  refine xa_last G (a := 136) (i := mo) (x := x2) rfl (by have h9 := G.lc (a := 136) (n := 9000) 74 rfl; omega) hx2 dX12_push_20 rfl (fun H locs G => ?_)
  refine lv_aload_n hx hb dX12_push_21 rfl (lv_at hl 0 rfl) ?_
  refine lv_dup hx hb dX12_push_22 rfl ?_
  refine xa_geti G fd_X12 (a := 111) (x := mo) 53 rfl (by decide) rfl (wm 7 202 rfl rfl) ⟨rfl, rfl, rfl⟩ dX12_push_23 rfl ((sv_n _ (fun h9 => absurd h9.1 (by decide))).trans ((sv_n _ (fun h9 => absurd h9.1 (by decide))).trans hmo.symm)) ?_
  refine lv_iconst (v := iv 1) hx hb dX12_push_26 rfl ?_
  refine xb_iadd hx hb dX12_push_27 ?_
  refine xa_puti G fd_X12 (a := 111) (x := mo + 1) 53 (kz := 53) rfl rfl (by decide) rfl (by unfold ir; omega) (wm 7 202 rfl rfl) ⟨rfl, rfl, rfl, rfl⟩ rfl dX12_push_28 rfl (fun H locs G => ?_)
  have e_2 : (sv (sv (sv μ 135 mo x1) 136 mo x2) 111 53 (mo + 1)).1 111 53 = mo + 1 := (sv_s _ _ _ _)
  have e_3 : (sv (sv (sv μ 135 mo x1) 136 mo x2) 111 53 (mo + 1)).1 135 mo = x1 := ((sv_n _ (fun h9 => absurd h9.1 (by decide))).trans ((sv_n _ (fun h9 => absurd h9.1 (by decide))).trans (sv_s _ _ _ _)))
  have e_4 : (sv (sv (sv μ 135 mo x1) 136 mo x2) 111 53 (mo + 1)).1 136 mo = x2 := ((sv_n _ (fun h9 => absurd h9.1 (by decide))).trans (sv_s _ _ _ _))
  exact xr_v G hret hlk dX12_push_31 ⟨(FrM.put (FrM.put (FrM.put FrM.rf (by decide)) (by decide)) (by decide)), (fun j hj => ((sv_n _ (fun h9 => hj (by rw [h9.2]; decide))).trans ((sv_n _ (fun h9 => absurd h9.1 (by decide))).trans (sv_n _ (fun h9 => absurd h9.1 (by decide)))))), (by omega), (by omega), (by omega), (fun j hj => ((sv_n _ (by omega)).trans ((sv_n _ (by omega)).trans (sv_n _ (by omega))))), (fun j hj => ((sv_n _ (by omega)).trans ((sv_n _ (by omega)).trans (sv_n _ (by omega)))))⟩

set_option maxHeartbeats 4000000 in
set_option maxRecDepth 100000 in
theorem c_X12_arisesWith_v (ω : Om) (l : Launch) (μ : M3) (x1 : Int) (x2 : Int) (x3 : Int) (n : Int) (hx1 : ir x1) (hx2 : ir x2) (hx3 : jr x3) (hn : n = μ.1 111 47) (hMZ : MZ μ) (h1 : 1 ≤ n ∧ n ≤ 24) (h94 : μ.1 111 94 = 0) (hv : VV (μ.1 111 65) (μ.1 111 82) x2 x3) (h2v : μ.1 127 (n - 1) = 2) (hw : μ.1 127 (n - 1) = 0 → 1 ≤ x1 ∧ x1 < μ.1 111 4) (hmm : μ.1 111 53 ≤ 3000) : CtV ω l yX12_arisesWith cX12_arisesWith 6 1 26 [.ref (oP ω 111), .int (iv x1), .int (iv x2), .long (jv x3)] μ (fun (μ' : M3) => (FrM [111, 135, 136, 149, 150, 151, 152, 153, 154, 155, 156, 157] μ μ') ∧ (∀ j, j ∉ ([53, 82, 83, 84, 93, 94] : List Int) → μ'.1 111 j = μ.1 111 j) ∧ (MZ μ') ∧ (μ'.1 111 94 = 1 ∨ (μ'.1 111 94 = 0 ∧ μ'.1 111 53 = μ.1 111 53 + 1 ∧ μ'.1 135 (μ.1 111 53) = 4 ∧ 0 ≤ μ'.1 136 (μ.1 111 53) ∧ μ'.1 136 (μ.1 111 53) < μ'.1 111 82)) ∧ (μ.1 111 83 ≤ μ'.1 111 83)) := by
  refine CtV.go (by decide) (Nat.le_of_ble_eq_true rfl) (fun ρ p e s m below meth c R ls G hR hret hlk hl => ?_)
  have hx := G.1.1
  have hb := G.1.2.1
  have hl : lv_has ls 6 [(0, .ref (oP ω 111)), (1, .int (iv x1)), (2, .int (iv x2)), (3, .long (jv x3))] := hl
  generalize s.drawn = d0 at G ⊢
  have hr_x1 : -2147483648 ≤ x1 ∧ x1 ≤ 2147483647 := hx1
  have hr_x2 : -2147483648 ≤ x2 ∧ x2 ≤ 2147483647 := hx2
  have hzn_ := hMZ.n
  rw [← hn] at hzn_
  obtain ⟨hz47, hzFB, hzFL, hz81, hz82, hz84, hz65, hz4, hz104⟩ := hzn_
  have hfr_ := (hMZ.2.2.1 (n - 1) (by omega) (by omega)).1.1
  have hzB := FB_1 (μ := μ) (n := n) (by omega)
  have hzL := FL_1 (μ := μ) (n := n) (by omega)
  refine lv_aload_n hx hb dX12_arisesWith_0 rfl (lv_at hl 0 rfl) ?_
  refine xc_iV G (b := 111) (rest := []) (As := []) (c_X12_step ω l μ (μ.1 111 83) (by omega) hMZ) (wm 10 122 rfl rfl) (wm 10 124 rfl rfl) (wm 0 194 rfl rfl) rfl rfl (by decide) rfl (wm 1 18 rfl rfl) (wm 10 125 rfl rfl) (by decide) hR (by decide) (n := 0) rfl rfl (Nat.le_of_ble_eq_true rfl) hl.1 dX12_arisesWith_1 (fun r_2 μ1 ρ d0 H locs hr_r_2 hp G => ?_)
  have hr_r_2 : -2147483648 ≤ r_2 ∧ r_2 ≤ 2147483647 := hr_r_2
  obtain ⟨F_3, hp_4, hp_5, hp_6⟩ := hp
  refine xb_if_ne (tgt := 8) hx hb (by unfold ir; omega) dX12_arisesWith_4 (by decide) (fun c_4 => ?_) (fun c_4 => ?_)
  · refine lv_aload_n hx hb dX12_arisesWith_8 rfl (lv_at hl 0 rfl) ?_
    refine lv_aload_n hx hb dX12_arisesWith_9 rfl (lv_at hl 0 rfl) ?_
    have e_7 : μ1.1 111 47 = n := ((hp_4 47 (by decide)).trans hn.symm)
    have e_8 : μ1.1 127 (n - 1) = μ.1 127 (n - 1) := (F_3.1 127 (by decide) (n - 1))
    refine xc_iV G (b := 111) (rest := [.ref (oP ω 111)]) (As := []) (c_X12_now ω l μ1 n (by omega) (by omega)) (wm 10 163 rfl rfl) (wm 10 165 rfl rfl) (wm 0 204 rfl rfl) rfl rfl (by decide) rfl (wm 1 18 rfl rfl) (wm 10 166 rfl rfl) (by decide) hR (by decide) (n := 0) rfl rfl (Nat.le_of_ble_eq_true rfl) hl.1 dX12_arisesWith_10 (fun r_10 μ9 ρ d0 H locs hr_r_10 hp G => ?_)
    have hr_r_10 : -2147483648 ≤ r_10 ∧ r_10 ≤ 2147483647 := hr_r_10
    obtain ⟨hsm_11, hp_12⟩ := hp
    have hsm_11 := Eq.symm hsm_11
    subst hsm_11
    have hp_12t : r_10 = μ.1 127 (n - 1) := hp_12.trans (F_3.1 127 (by decide) (n - 1))
    refine xb_ti (y := μ.1 127 (n - 1)) hp_12t ?_
    have hr_13 : -2147483648 ≤ μ.1 127 (n - 1) ∧ μ.1 127 (n - 1) ≤ 2147483647 := by omega
    refine lv_iload_n hx hb dX12_arisesWith_13 rfl (lv_at hl 1 rfl) ?_
    refine lv_iload_n hx hb dX12_arisesWith_14 rfl (lv_at hl 2 rfl) ?_
    refine lv_lload_n hx hb dX12_arisesWith_15 rfl (lv_at hl 3 rfl) ?_
    have e_14 : μ1.1 111 47 = n := ((hp_4 47 (by decide)).trans hn.symm)
    have e_15 : μ1.1 111 82 = μ.1 111 82 := (hp_4 82 (by decide))
    have e_16 : μ1.1 111 82 = μ.1 111 82 := (hp_4 82 (by decide))
    have e_17 : μ1.1 111 82 = μ.1 111 82 := (hp_4 82 (by decide))
    have e_18 : μ1.1 127 (n - 1) = μ.1 127 (n - 1) := (F_3.1 127 (by decide) (n - 1))
    have e_19 : μ1.1 127 (n - 1) = μ.1 127 (n - 1) := (F_3.1 127 (by decide) (n - 1))
    have e_20 : μ1.1 111 82 = μ.1 111 82 := (hp_4 82 (by decide))
    have e_21 : μ1.1 111 82 = μ.1 111 82 := (hp_4 82 (by decide))
    have e_22 : μ1.1 111 82 = μ.1 111 82 := (hp_4 82 (by decide))
    have e_23 : μ1.1 127 (n - 1) = μ.1 127 (n - 1) := (F_3.1 127 (by decide) (n - 1))
    have e_24 : μ1.1 111 82 = μ.1 111 82 := (hp_4 82 (by decide))
    refine xc_iV G (b := 111) (rest := []) (As := [.int (iv (μ.1 127 (n - 1))), .int (iv x1), .int (iv x2), .long (jv x3)]) (c_X12_newFailure ω l μ1 (μ.1 127 (n - 1)) x1 x2 x3 n (μ.1 111 82) (by unfold ir; omega) (by unfold ir; omega) (by unfold ir; omega) hx3 (by omega) (by omega) hp_5 (by omega) (by omega) (by omega) (fun h9 => by rw [(show μ1.1 111 4 = μ.1 111 4 from (hp_4 4 (by decide)))]; exact hw (by omega)) (by rw [(show μ1.1 111 65 = μ.1 111 65 from (hp_4 65 (by decide))), (show μ1.1 111 82 = μ.1 111 82 from (hp_4 82 (by decide)))]; exact hv)) (wm 10 183 rfl rfl) (wm 10 185 rfl rfl) (wm 0 209 rfl rfl) rfl rfl (by decide) rfl (wm 1 18 rfl rfl) (wm 10 186 rfl rfl) (by decide) hR (by decide) (n := 4) rfl rfl (Nat.le_of_ble_eq_true rfl) hl.1 dX12_arisesWith_16 (fun r_26 μ25 ρ d0 H locs hr_r_26 hp G => ?_)
    have hr_r_26 : -2147483648 ≤ r_26 ∧ r_26 ≤ 2147483647 := hr_r_26
    obtain ⟨F_27, hp_28, hp_29, hp_30, hs_31, hs_32, hs_33⟩ := hp
    refine xb_ti (y := μ.1 111 82) hp_30 ?_
    have hr_34 : -2147483648 ≤ μ.1 111 82 ∧ μ.1 111 82 ≤ 2147483647 := by omega
    refine lv_istore (lv' := [(5, .int (iv (μ.1 111 82))), (0, .ref (oP ω 111)), (1, .int (iv x1)), (2, .int (iv x2)), (3, .long (jv x3))]) hx hb dX12_arisesWith_19 hl (by decide) rfl (fun ls hl => ?_)
    refine lv_aload_n hx hb dX12_arisesWith_21 rfl (lv_at hl 1 rfl) ?_
    have e_35 : μ25.1 111 47 = n := ((hp_28 47 (by decide)).trans ((hp_4 47 (by decide)).trans hn.symm))
    have e_36 : μ25.1 127 (n - 1) = μ.1 127 (n - 1) := ((F_27.1 127 (by decide) (n - 1)).trans (F_3.1 127 (by decide) (n - 1)))
    refine xc_iV G (b := 111) (rest := []) (As := []) (c_X12_now ω l μ25 n (by omega) (by omega)) (wm 10 163 rfl rfl) (wm 10 165 rfl rfl) (wm 0 204 rfl rfl) rfl rfl (by decide) rfl (wm 1 18 rfl rfl) (wm 10 166 rfl rfl) (by decide) hR (by decide) (n := 0) rfl rfl (Nat.le_of_ble_eq_true rfl) hl.1 dX12_arisesWith_22 (fun r_38 μ37 ρ d0 H locs hr_r_38 hp G => ?_)
    have hr_r_38 : -2147483648 ≤ r_38 ∧ r_38 ≤ 2147483647 := hr_r_38
    obtain ⟨hsm_39, hp_40⟩ := hp
    have hsm_39 := Eq.symm hsm_39
    subst hsm_39
    have hp_40t : r_38 = μ.1 127 (n - 1) := hp_40.trans ((F_27.1 127 (by decide) (n - 1)).trans (F_3.1 127 (by decide) (n - 1)))
    refine xb_ti (y := μ.1 127 (n - 1)) hp_40t ?_
    refine lv_iconst (v := iv 2) hx hb dX12_arisesWith_25 rfl ?_
    refine xb_icmp_ne (tgt := 40) hx hb (by unfold ir; omega) (by unfold ir; omega) dX12_arisesWith_26 (by decide) (fun c_26 => absurd c_26 (fun h9 => h9 (by omega))) (fun c_26 => ?_)
    refine lv_aload_n hx hb dX12_arisesWith_29 rfl (lv_at hl 1 rfl) ?_
    refine lv_iconst (v := iv 4) hx hb dX12_arisesWith_30 rfl ?_
    refine lv_iload hx hb dX12_arisesWith_31 (lv_at hl 0 rfl) ?_
    refine xb_i2l hx hb (by unfold ir; omega) dX12_arisesWith_33 ?_
    have e_41 : μ25.1 111 53 = μ.1 111 53 := ((hp_28 53 (by decide)).trans (hp_4 53 (by decide)))
    have e_42 : μ25.1 111 53 = μ.1 111 53 := ((hp_28 53 (by decide)).trans (hp_4 53 (by decide)))
    have e_43 : μ25.1 111 53 = μ.1 111 53 := ((hp_28 53 (by decide)).trans (hp_4 53 (by decide)))
    have e_44 : μ25.1 111 53 = μ.1 111 53 := ((hp_28 53 (by decide)).trans (hp_4 53 (by decide)))
    have e_45 : μ25.1 111 53 = μ.1 111 53 := ((hp_28 53 (by decide)).trans (hp_4 53 (by decide)))
    have e_46 : μ25.1 111 53 = μ.1 111 53 := ((hp_28 53 (by decide)).trans (hp_4 53 (by decide)))
    have e_47 : μ25.1 111 82 = (μ.1 111 82) + 1 := hs_31
    refine xc_vV G (b := 111) (rest := []) (As := [.int (iv 4), .long (jv (μ.1 111 82))]) (c_X12_push ω l μ25 4 (μ.1 111 82) (μ.1 111 53) (by unfold ir; omega) (by unfold jr; omega) (by omega) hp_29 (VV.n4 (by have h9 : μ25.1 111 82 = (μ.1 111 82) + 1 := hs_31; omega)) (by omega)) (wm 10 127 rfl rfl) (wm 10 129 rfl rfl) (wm 0 195 rfl rfl) rfl rfl (by decide) rfl (wm 1 18 rfl rfl) (wm 10 130 rfl rfl) (by decide) hR (by decide) (n := 2) rfl rfl (Nat.le_of_ble_eq_true rfl) hl.1 dX12_arisesWith_34 (fun μ48 ρ d0 H locs hp G => ?_)
    obtain ⟨F_49, hp_50, hp_51, hs_52, hs_53, hs_54, ha_55, ha_56⟩ := hp
    refine lv_goto (tgt := 47) hx hb dX12_arisesWith_37 (by decide) ?_
    have e_57 : μ48.1 111 94 = μ1.1 111 94 := ((hp_50 94 (by decide)).trans (hp_28 94 (by decide)))
    have e_58 : μ48.1 111 83 = μ1.1 111 83 := ((hp_50 83 (by decide)).trans (hp_28 83 (by decide)))
    have e_59 : μ48.1 111 53 = (μ.1 111 53) + 1 := hs_52
    have e_60 : μ48.1 111 82 = (μ.1 111 82) + 1 := ((hp_50 82 (by decide)).trans hs_31)
    exact xr_v G hret hlk dX12_arisesWith_47 ⟨(FrM.tr (FrM.tr (FrM.tr FrM.rf F_3 (by decide)) F_27 (by decide)) F_49 (by decide)), (fun j hj => ((hp_50 j (fun h9 => hj ((by decide : ∀ x ∈ ([53] : List Int), x ∈ ([53, 82, 83, 84, 93, 94] : List Int)) j h9))).trans ((hp_28 j (fun h9 => hj ((by decide : ∀ x ∈ ([82] : List Int), x ∈ ([53, 82, 83, 84, 93, 94] : List Int)) j h9))).trans (hp_4 j (fun h9 => hj ((by decide : ∀ x ∈ ([83, 84, 93, 94] : List Int), x ∈ ([53, 82, 83, 84, 93, 94] : List Int)) j h9)))))), hp_51, (Or.inr ⟨by omega, by omega, (by have h9 : μ48.1 135 (μ.1 111 53) = 4 := hs_53; omega), by rw [show μ48.1 136 (μ.1 111 53) = (μ.1 111 82) from hs_54]; omega, by rw [show μ48.1 136 (μ.1 111 53) = (μ.1 111 82) from hs_54]; omega⟩), (by omega)⟩
  · have e_61 : μ1.1 111 53 = μ.1 111 53 := (hp_4 53 (by decide))
    have e_62 : μ1.1 111 82 = μ.1 111 82 := (hp_4 82 (by decide))
    exact xr_v G hret hlk dX12_arisesWith_7 ⟨(FrM.tr FrM.rf F_3 (by decide)), (fun j hj => (hp_4 j (fun h9 => hj ((by decide : ∀ x ∈ ([83, 84, 93, 94] : List Int), x ∈ ([53, 82, 83, 84, 93, 94] : List Int)) j h9)))), hp_5, (Or.inl (by omega)), (by omega)⟩

set_option maxHeartbeats 4000000 in
set_option maxRecDepth 100000 in
theorem c_X12_arises_v (ω : Om) (l : Launch) (μ : M3) (x1 : Int) (n : Int) (hx1 : ir x1) (hn : n = μ.1 111 47) (hMZ : MZ μ) (h1 : 1 ≤ n ∧ n ≤ 24) (h94 : μ.1 111 94 = 0) (h2v : μ.1 127 (n - 1) = 2) (hw : μ.1 127 (n - 1) = 0 → 1 ≤ x1 ∧ x1 < μ.1 111 4) (hmm : μ.1 111 53 ≤ 3000) : CtV ω l yX12_arises cX12_arises 2 2 51 [.ref (oP ω 111), .int (iv x1)] μ (fun (μ' : M3) => (FrM [111, 135, 136, 149, 150, 151, 152, 153, 154, 155, 156, 157] μ μ') ∧ (∀ j, j ∉ ([53, 82, 83, 84, 93, 94] : List Int) → μ'.1 111 j = μ.1 111 j) ∧ (MZ μ') ∧ (μ'.1 111 94 = 1 ∨ (μ'.1 111 94 = 0 ∧ μ'.1 111 53 = μ.1 111 53 + 1 ∧ μ'.1 135 (μ.1 111 53) = 4 ∧ 0 ≤ μ'.1 136 (μ.1 111 53) ∧ μ'.1 136 (μ.1 111 53) < μ'.1 111 82)) ∧ (μ.1 111 83 ≤ μ'.1 111 83)) := by
  refine CtV.go (by decide) (Nat.le_of_ble_eq_true rfl) (fun ρ p e s m below meth c R ls G hR hret hlk hl => ?_)
  have hx := G.1.1
  have hb := G.1.2.1
  have hl : lv_has ls 2 [(0, .ref (oP ω 111)), (1, .int (iv x1))] := hl
  generalize s.drawn = d0 at G ⊢
  have hr_x1 : -2147483648 ≤ x1 ∧ x1 ≤ 2147483647 := hx1
  have hzn_ := hMZ.n
  rw [← hn] at hzn_
  obtain ⟨hz47, hzFB, hzFL, hz81, hz82, hz84, hz65, hz4, hz104⟩ := hzn_
  have hfr_ := (hMZ.2.2.1 (n - 1) (by omega) (by omega)).1.1
  have hzB := FB_1 (μ := μ) (n := n) (by omega)
  have hzL := FL_1 (μ := μ) (n := n) (by omega)
  refine lv_aload_n hx hb dX12_arises_0 rfl (lv_at hl 0 rfl) ?_
  refine lv_iload_n hx hb dX12_arises_1 rfl (lv_at hl 1 rfl) ?_
  refine lv_iconst (v := iv 0) hx hb dX12_arises_2 rfl ?_
  refine lv_lconst (v := jv 0) hx hb dX12_arises_3 rfl ?_
  have e_1 : μ.1 111 47 = n := hn.symm
  refine xc_vV G (b := 111) (rest := []) (As := [.int (iv x1), .int (iv 0), .long (jv 0)]) (c_X12_arisesWith_v ω l μ x1 0 0 n (by unfold ir; omega) (by unfold ir; omega) (by unfold jr; omega) (by omega) hMZ (by omega) (by omega) VV.n0 (by omega) hw (by omega)) (wm 10 203 rfl rfl) (wm 10 205 rfl rfl) (wm 0 214 rfl rfl) rfl rfl (by decide) rfl (wm 1 18 rfl rfl) (wm 10 206 rfl rfl) (by decide) hR (by decide) (n := 3) rfl rfl (Nat.le_of_ble_eq_true rfl) hl.1 dX12_arises_4 (fun μ2 ρ d0 H locs hp G => ?_)
  obtain ⟨F_3, hp_4, hp_5, hp_6, hp_7⟩ := hp
  exact xr_v G hret hlk dX12_arises_7 ⟨(FrM.tr FrM.rf F_3 (by decide)), (fun j hj => (hp_4 j (fun h9 => hj ((by decide : ∀ x ∈ ([53, 82, 83, 84, 93, 94] : List Int), x ∈ ([53, 82, 83, 84, 93, 94] : List Int)) j h9)))), hp_5, hp_6, hp_7⟩

set_option maxHeartbeats 4000000 in
set_option maxRecDepth 100000 in
theorem c_X12_arisesHere (ω : Om) (l : Launch) (μ : M3) (x1 : Int) (n : Int) (hx1 : ir x1) (hn : n = μ.1 111 47) (hMZ : MZ μ) (h1 : 1 ≤ n ∧ n ≤ 24) (h94 : μ.1 111 94 = 0) (hw : μ.1 127 (n - 1) = 0 → 1 ≤ x1 ∧ x1 < μ.1 111 4) (hmm : μ.1 111 53 ≤ 3000) : CtV ω l yX12_arisesHere cX12_arisesHere 3 185 5025 [.ref (oP ω 111), .int (iv x1)] μ (fun (μ' : M3) => (FrM [111, 129, 133, 134, 135, 136, 137, 138, 139, 140, 141, 142, 143, 149, 150, 151, 152, 153, 154, 155, 156, 157, 158, 159] μ μ') ∧ (∀ j, j ∉ ([47, 53, 61, 81, 82, 83, 84, 90, 91, 93, 94, 95, 96, 97, 98, 99] : List Int) → μ'.1 111 j = μ.1 111 j) ∧ (RES μ' (RX μ - 1))) := by
  refine CtV.go (by decide) (Nat.le_of_ble_eq_true rfl) (fun ρ p e s m below meth c R ls G hR hret hlk hl => ?_)
  have hx := G.1.1
  have hb := G.1.2.1
  have hl : lv_has ls 3 [(0, .ref (oP ω 111)), (1, .int (iv x1))] := hl
  generalize s.drawn = d0 at G ⊢
  have hr_x1 : -2147483648 ≤ x1 ∧ x1 ≤ 2147483647 := hx1
  have hzn_ := hMZ.n
  rw [← hn] at hzn_
  obtain ⟨hz47, hzFB, hzFL, hz81, hz82, hz84, hz65, hz4, hz104⟩ := hzn_
  have hfr_ := (hMZ.2.2.1 (n - 1) (by omega) (by omega)).1.1
  have hzB := FB_1 (μ := μ) (n := n) (by omega)
  have hzL := FL_1 (μ := μ) (n := n) (by omega)
  refine lv_aload_n hx hb dX12_arisesHere_0 rfl (lv_at hl 0 rfl) ?_
  have e_1 : μ.1 111 47 = n := hn.symm
  refine xc_iV G (b := 111) (rest := []) (As := []) (c_X12_now ω l μ n (by omega) (by omega)) (wm 10 163 rfl rfl) (wm 10 165 rfl rfl) (wm 0 204 rfl rfl) rfl rfl (by decide) rfl (wm 1 18 rfl rfl) (wm 10 166 rfl rfl) (by decide) hR (by decide) (n := 0) rfl rfl (Nat.le_of_ble_eq_true rfl) hl.1 dX12_arisesHere_1 (fun r_3 μ2 ρ d0 H locs hr_r_3 hp G => ?_)
  have hr_r_3 : -2147483648 ≤ r_3 ∧ r_3 ≤ 2147483647 := hr_r_3
  obtain ⟨hsm_4, hp_5⟩ := hp
  have hsm_4 := Eq.symm hsm_4
  subst hsm_4
  refine xb_ti (y := μ.1 127 (n - 1)) hp_5 ?_
  have hr_6 : -2147483648 ≤ μ.1 127 (n - 1) ∧ μ.1 127 (n - 1) ≤ 2147483647 := by omega
  refine lv_iconst (v := iv 2) hx hb dX12_arisesHere_4 rfl ?_
  refine xb_icmp_ne (tgt := 12) hx hb (by unfold ir; omega) (by unfold ir; omega) dX12_arisesHere_5 (by decide) (fun c_5 => ?_) (fun c_5 => ?_)
  · refine lv_iconst (v := iv 0) hx hb dX12_arisesHere_12 rfl ?_
    refine lv_istore_n (lv' := [(2, .int (iv 0)), (0, .ref (oP ω 111)), (1, .int (iv x1))]) hx hb dX12_arisesHere_13 rfl hl (by decide) rfl (fun ls hl => ?_)
    refine lv_aload_n hx hb dX12_arisesHere_14 rfl (lv_at hl 1 rfl) ?_
    refine lv_iload_n hx hb dX12_arisesHere_15 rfl (lv_at hl 2 rfl) ?_
    have e_7 : μ.1 111 47 = n := hn.symm
    refine xc_vV G (b := 111) (rest := []) (As := [.int (iv x1)]) (c_X12_arises_a ω l μ x1 n (by unfold ir; omega) (by omega) hMZ (by omega) (by omega) hw (fun h9 => absurd h9 (by omega))) (wm 10 199 rfl rfl) (wm 10 201 rfl rfl) (wm 0 213 rfl rfl) rfl rfl (by decide) rfl (wm 1 18 rfl rfl) (wm 10 202 rfl rfl) (by decide) hR (by decide) (n := 1) rfl rfl (Nat.le_of_ble_eq_true rfl) hl.1 dX12_arisesHere_16 (fun μ8 ρ d0 H locs hp G => ?_)
    obtain ⟨F_9, hp_10, hp_11⟩ := hp
    refine lv_aload_n hx hb dX12_arisesHere_19 rfl (lv_at hl 1 rfl) ?_
    refine xa_geti G fd_X12 (a := 111) (x := μ8.1 111 94) 94 rfl (by decide) rfl (wm 8 3 rfl rfl) ⟨rfl, rfl, rfl⟩ dX12_arisesHere_20 rfl rfl ?_
    have hr_12 : -2147483648 ≤ μ8.1 111 94 ∧ μ8.1 111 94 ≤ 2147483647 := by have h9 := G.hr (a := 111) (k := 94) rfl; exact h9
    refine xb_if_ne (tgt := 30) hx hb (by unfold ir; omega) dX12_arisesHere_23 (by decide) (fun c_23 => ?_) (fun c_23 => ?_)
    · exact xr_v G hret hlk dX12_arisesHere_30 ⟨(FrM.tr FrM.rf F_9 (by decide)), (fun j hj => (hp_10 j (fun h9 => hj ((by decide : ∀ x ∈ ([47, 53, 61, 81, 82, 83, 84, 90, 91, 93, 94, 95, 96, 97, 98, 99] : List Int), x ∈ ([47, 53, 61, 81, 82, 83, 84, 90, 91, 93, 94, 95, 96, 97, 98, 99] : List Int)) j h9)))), (hp_11.le (by omega))⟩
    · refine lv_iload_n hx hb dX12_arisesHere_26 rfl (lv_at hl 0 rfl) ?_
      refine xb_if_ne (tgt := 31) hx hb (x := 0) (by unfold ir; omega) dX12_arisesHere_27 (by decide) (fun c_27 => absurd c_27 (by decide)) (fun c_27 => ?_)
      exact xr_v G hret hlk dX12_arisesHere_30 ⟨(FrM.tr FrM.rf F_9 (by decide)), (fun j hj => (hp_10 j (fun h9 => hj ((by decide : ∀ x ∈ ([47, 53, 61, 81, 82, 83, 84, 90, 91, 93, 94, 95, 96, 97, 98, 99] : List Int), x ∈ ([47, 53, 61, 81, 82, 83, 84, 90, 91, 93, 94, 95, 96, 97, 98, 99] : List Int)) j h9)))), (hp_11.le (by omega))⟩
  · refine lv_iconst (v := iv 1) hx hb dX12_arisesHere_8 rfl ?_
    refine lv_goto (tgt := 13) hx hb dX12_arisesHere_9 (by decide) ?_
    refine lv_istore_n (lv' := [(2, .int (iv 1)), (0, .ref (oP ω 111)), (1, .int (iv x1))]) hx hb dX12_arisesHere_13 rfl hl (by decide) rfl (fun ls hl => ?_)
    refine lv_aload_n hx hb dX12_arisesHere_14 rfl (lv_at hl 1 rfl) ?_
    refine lv_iload_n hx hb dX12_arisesHere_15 rfl (lv_at hl 2 rfl) ?_
    have e_13 : μ.1 111 47 = n := hn.symm
    refine xc_vV G (b := 111) (rest := []) (As := [.int (iv x1)]) (c_X12_arises_v ω l μ x1 n (by unfold ir; omega) (by omega) hMZ (by omega) (by omega) (by omega) hw (by omega)) (wm 10 199 rfl rfl) (wm 10 201 rfl rfl) (wm 0 213 rfl rfl) rfl rfl (by decide) rfl (wm 1 18 rfl rfl) (wm 10 202 rfl rfl) (by decide) hR (by decide) (n := 1) rfl rfl (Nat.le_of_ble_eq_true rfl) hl.1 dX12_arisesHere_16 (fun μ14 ρ d0 H locs hp G => ?_)
    obtain ⟨F_15, hp_16, hp_17, hp_18, hp_19⟩ := hp
    refine lv_aload_n hx hb dX12_arisesHere_19 rfl (lv_at hl 1 rfl) ?_
    refine xa_geti G fd_X12 (a := 111) (x := μ14.1 111 94) 94 rfl (by decide) rfl (wm 8 3 rfl rfl) ⟨rfl, rfl, rfl⟩ dX12_arisesHere_20 rfl rfl ?_
    have hr_20 : -2147483648 ≤ μ14.1 111 94 ∧ μ14.1 111 94 ≤ 2147483647 := by have h9 := G.hr (a := 111) (k := 94) rfl; exact h9
    refine xb_if_ne (tgt := 30) hx hb (by unfold ir; omega) dX12_arisesHere_23 (by decide) (fun c_23 => ?_) (fun c_23 => ?_)
    · exact xr_v G hret hlk dX12_arisesHere_30 ⟨(FrM.tr FrM.rf F_15 (by decide)), (fun j hj => (hp_16 j (fun h9 => hj ((by decide : ∀ x ∈ ([53, 82, 83, 84, 93, 94] : List Int), x ∈ ([47, 53, 61, 81, 82, 83, 84, 90, 91, 93, 94, 95, 96, 97, 98, 99] : List Int)) j h9)))), (RES.ov hp_17 (by omega))⟩
    · refine lv_iload_n hx hb dX12_arisesHere_26 rfl (lv_at hl 0 rfl) ?_
      refine xb_if_ne (tgt := 31) hx hb (x := 1) (by unfold ir; omega) dX12_arisesHere_27 (by decide) (fun c_27 => ?_) (fun c_27 => absurd c_27 (by decide))
      have hrx_21 := RX.eq (μ := μ) (ν := μ14) (Eqa.fr (L := [111, 135, 136, 149, 150, 151, 152, 153, 154, 155, 156, 157]) (FrM.tr FrM.rf F_15 (by decide)) (by decide)) (Eqf.fd (L := [53, 82, 83, 84, 93, 94]) (fun j hj => (hp_16 j (fun h9 => hj ((by decide : ∀ x ∈ ([53, 82, 83, 84, 93, 94] : List Int), x ∈ ([53, 82, 83, 84, 93, 94] : List Int)) j h9)))) (by decide))
      have hav_ := hp_18.resolve_left (by omega)
      have hzv_ := hp_17.n
      have e_22 : μ14.1 111 47 = n := ((hp_16 47 (by decide)).trans hn.symm)
      refine lv_aload_n hx hb dX12_arisesHere_31 rfl (lv_at hl 1 rfl) ?_
      refine lv_dup hx hb dX12_arisesHere_32 rfl ?_
      refine xa_geti G fd_X12 (a := 111) (x := μ14.1 111 53) 53 rfl (by decide) rfl (wm 7 202 rfl rfl) ⟨rfl, rfl, rfl⟩ dX12_arisesHere_33 rfl rfl ?_
      have hr_23 : -2147483648 ≤ μ14.1 111 53 ∧ μ14.1 111 53 ≤ 2147483647 := by have h9 := G.hr (a := 111) (k := 53) rfl; exact h9
      refine lv_iconst (v := iv 1) hx hb dX12_arisesHere_36 rfl ?_
      refine xb_isub hx hb dX12_arisesHere_37 ?_
      refine xa_puti G fd_X12 (a := 111) (x := (μ14.1 111 53) - 1) 53 (kz := 53) rfl rfl (by decide) rfl (by unfold ir; omega) (wm 7 202 rfl rfl) ⟨rfl, rfl, rfl, rfl⟩ rfl dX12_arisesHere_38 rfl (fun H locs G => ?_)
      refine lv_aload_n hx hb dX12_arisesHere_41 rfl (lv_at hl 1 rfl) ?_
      refine lv_iconst (v := iv 1) hx hb dX12_arisesHere_42 rfl ?_
      refine lv_iconst (v := iv 4) hx hb dX12_arisesHere_43 rfl ?_
      refine lv_aload_n hx hb dX12_arisesHere_44 rfl (lv_at hl 1 rfl) ?_
      refine xa_getr G fd_X12 (a := 111) (x := 136) 52 rfl (by decide) rfl (wm 7 201 rfl rfl) ⟨rfl, rfl, rfl⟩ dX12_arisesHere_45 rfl (G.sk 134 rfl) (by decide) rfl ?_
      refine lv_aload_n hx hb dX12_arisesHere_48 rfl (lv_at hl 1 rfl) ?_
      refine xa_geti G fd_X12 (a := 111) (x := (μ14.1 111 53) - 1) 53 rfl (by decide) rfl (wm 7 202 rfl rfl) ⟨rfl, rfl, rfl⟩ dX12_arisesHere_49 rfl (sv_s _ _ _ _) ?_
      have hr_24 : -2147483648 ≤ (μ14.1 111 53) - 1 ∧ (μ14.1 111 53) - 1 ≤ 2147483647 := by have h9 := G.hr (a := 111) (k := 53) rfl; rw [show (sv μ14 111 53 ((μ14.1 111 53) - 1)).1 111 53 = (μ14.1 111 53) - 1 from (sv_s _ _ _ _)] at h9; exact h9
      refine xa_lald G (a := 136) (i := (μ14.1 111 53) - 1) rfl (by have h9 := G.lc (a := 136) (n := 9000) 74 rfl; omega) dX12_arisesHere_52 rfl ?_
      refine xb_tl (y := μ14.1 136 (μ14.1 111 53 - 1)) (sv_n _ (fun h9 => absurd h9.1 (by decide))) ?_
      have hj_25 : jr (μ14.1 136 (μ14.1 111 53 - 1)) := (by have h9 := G.hj (a := 136) (k := (μ14.1 111 53) - 1) rfl; rw [(sv_n _ (fun h9 => absurd h9.1 (by decide)))] at h9; exact h9)
      have hvb_ : 0 ≤ μ14.1 136 (μ14.1 111 53 - 1) ∧ μ14.1 136 (μ14.1 111 53 - 1) < μ14.1 111 82 := by have h9 := hav_.2.2.2; rw [show μ.1 111 53 = μ14.1 111 53 - 1 by omega] at h9; exact h9
      have e_26 : (sv μ14 111 53 ((μ14.1 111 53) - 1)).1 111 83 = μ14.1 111 83 := (sv_n _ (by decide))
      have hrx_27 := RX.eq (μ := μ) (ν := (sv μ14 111 53 ((μ14.1 111 53) - 1))) (Eqa.fr (L := [111, 135, 136, 149, 150, 151, 152, 153, 154, 155, 156, 157]) (FrM.put (FrM.tr FrM.rf F_15 (by decide)) (by decide)) (by decide)) (Eqf.fd (L := [53, 82, 83, 84, 93, 94]) (fun j hj => ((sv_n _ (fun h9 => hj (by rw [h9.2]; decide))).trans (hp_16 j (fun h9 => hj ((by decide : ∀ x ∈ ([53, 82, 83, 84, 93, 94] : List Int), x ∈ ([53, 82, 83, 84, 93, 94] : List Int)) j h9))))) (by decide))
      have e_28 : (sv μ14 111 53 ((μ14.1 111 53) - 1)).1 111 94 = μ14.1 111 94 := (sv_n _ (by decide))
      have e_29 : (sv μ14 111 53 ((μ14.1 111 53) - 1)).1 111 47 = n := ((sv_n _ (by decide)).trans ((hp_16 47 (by decide)).trans hn.symm))
      have hMZ_30 : MZ (sv μ14 111 53 ((μ14.1 111 53) - 1)) := MZ.mn1 hp_17 (n := n) (s := μ.1 131 (n - 1)) (((hp_16 47 (by decide)).trans hn.symm)) (by have h9 : μ14.1 131 (n - 1) = μ.1 131 (n - 1) := (F_15.1 131 (by decide) (n - 1)); exact h9) (by omega) (by have h9 : μ14.1 111 53 = μ14.1 111 53 := rfl; omega)
      have e_31 : (sv μ14 111 53 ((μ14.1 111 53) - 1)).1 111 94 = μ14.1 111 94 := (sv_n _ (by decide))
      refine xc_vV G (b := 111) (rest := []) (As := [.int (iv 1), .int (iv 4), .long (jv (μ14.1 136 (μ14.1 111 53 - 1)))]) (c_X12_unwinds_a ω l (sv μ14 111 53 ((μ14.1 111 53) - 1)) 1 4 (μ14.1 136 (μ14.1 111 53 - 1)) n (by unfold ir; omega) (by unfold ir; omega) hj_25 (by omega) hMZ_30 (by omega) (by omega) (by omega) (fun _ => VV.n4 (by rw [(show (sv μ14 111 53 ((μ14.1 111 53) - 1)).1 111 82 = μ14.1 111 82 from (sv_n _ (by decide)))]; exact hvb_)) (fun h9 => absurd h9 (by decide))) (wm 10 135 rfl rfl) (wm 10 137 rfl rfl) (wm 0 197 rfl rfl) rfl rfl (by decide) rfl (wm 1 18 rfl rfl) (wm 10 138 rfl rfl) (by decide) hR (by decide) (n := 3) rfl rfl (Nat.le_of_ble_eq_true rfl) hl.1 dX12_arisesHere_53 (fun μ32 ρ d0 H locs hp G => ?_)
      obtain ⟨F_33, hp_34, hp_35⟩ := hp
      exact xr_v G hret hlk dX12_arisesHere_56 ⟨(FrM.tr (FrM.put (FrM.tr FrM.rf F_15 (by decide)) (by decide)) F_33 (by decide)), (fun j hj => ((hp_34 j (fun h9 => hj ((by decide : ∀ x ∈ ([47, 53, 61, 81, 82, 83, 84, 90, 91, 93, 94, 95, 96, 97, 98, 99] : List Int), x ∈ ([47, 53, 61, 81, 82, 83, 84, 90, 91, 93, 94, 95, 96, 97, 98, 99] : List Int)) j h9))).trans ((sv_n _ (fun h9 => hj (by rw [h9.2]; decide))).trans (hp_16 j (fun h9 => hj ((by decide : ∀ x ∈ ([53, 82, 83, 84, 93, 94] : List Int), x ∈ ([47, 53, 61, 81, 82, 83, 84, 90, 91, 93, 94, 95, 96, 97, 98, 99] : List Int)) j h9)))))), (hp_35.le (by omega))⟩

set_option maxHeartbeats 4000000 in
set_option maxRecDepth 100000 in
theorem c_X12_asksNumber (ω : Om) (l : Launch) (μ : M3) (n : Int) (mo : Int) (hn : n = μ.1 111 47) (hmo : mo = μ.1 111 53) (hMZ : MZ μ) (h1 : 1 ≤ n ∧ n ≤ 24) (h94 : μ.1 111 94 = 0) (hlo : μ.1 131 (n - 1) + 1 ≤ mo) (hmm : mo ≤ 3000) : CtI ω l yX12_asksNumber cX12_asksNumber 4 .boolean 186 5047 [.ref (oP ω 111)] μ (fun (r : Int) (μ' : M3) => (FrM [111, 129, 133, 134, 135, 136, 137, 138, 139, 140, 141, 142, 143, 149, 150, 151, 152, 153, 154, 155, 156, 157, 158, 159] μ μ') ∧ (∀ j, j ∉ ([47, 53, 61, 81, 82, 83, 84, 90, 91, 93, 94, 95, 96, 97, 98, 99] : List Int) → μ'.1 111 j = μ.1 111 j) ∧ (MZ μ') ∧ (0 ≤ r ∧ r ≤ 1) ∧ (r = 1 → μ' = μ ∧ μ.1 135 (mo - 1) = 1) ∧ (r = 0 → RES μ' (RX μ - 1))) := by
  refine CtI.go (by decide) (Nat.le_of_ble_eq_true rfl) (fun ρ p e s m below meth c R ls G hR hret hlk hl => ?_)
  have hx := G.1.1
  have hb := G.1.2.1
  have hl : lv_has ls 4 [(0, .ref (oP ω 111))] := hl
  generalize s.drawn = d0 at G ⊢
  have hzn_ := hMZ.n
  rw [← hn] at hzn_
  obtain ⟨hz47, hzFB, hzFL, hz81, hz82, hz84, hz65, hz4, hz104⟩ := hzn_
  have hfr_ := (hMZ.2.2.1 (n - 1) (by omega) (by omega)).1.1
  have hzB := FB_1 (μ := μ) (n := n) (by omega)
  have hzL := FL_1 (μ := μ) (n := n) (by omega)
  have hz131 := (hMZ.2.2.1 (n - 1) (by omega) (by omega)).1.2.2.1
  refine lv_aload_n hx hb dX12_asksNumber_0 rfl (lv_at hl 0 rfl) ?_
  have e_1 : μ.1 111 53 = mo := hmo.symm
  refine xc_iV G (b := 111) (rest := []) (As := []) (c_X12_top ω l μ mo (by omega) (by omega)) (wm 10 219 rfl rfl) (wm 10 221 rfl rfl) (wm 0 218 rfl rfl) rfl rfl (by decide) rfl (wm 1 18 rfl rfl) (wm 10 222 rfl rfl) (by decide) hR (by decide) (n := 0) rfl rfl (Nat.le_of_ble_eq_true rfl) hl.1 dX12_asksNumber_1 (fun r_3 μ2 ρ d0 H locs hr_r_3 hp G => ?_)
  have hr_r_3 : -2147483648 ≤ r_3 ∧ r_3 ≤ 2147483647 := hr_r_3
  obtain ⟨hsm_4, hp_5⟩ := hp
  have hsm_4 := Eq.symm hsm_4
  subst hsm_4
  refine xb_ti (y := μ.1 135 (mo - 1)) hp_5 ?_
  have hr_6 : -2147483648 ≤ μ.1 135 (mo - 1) ∧ μ.1 135 (mo - 1) ≤ 2147483647 := by omega
  refine lv_iconst (v := iv 1) hx hb dX12_asksNumber_4 rfl ?_
  refine xb_icmp_ne (tgt := 10) hx hb (by unfold ir; omega) (by unfold ir; omega) dX12_asksNumber_5 (by decide) (fun c_5 => ?_) (fun c_5 => ?_)
  · refine lv_aload_n hx hb dX12_asksNumber_10 rfl (lv_at hl 0 rfl) ?_
    have e_7 : μ.1 111 53 = mo := hmo.symm
    refine xc_iV G (b := 111) (rest := []) (As := []) (c_X12_top ω l μ mo (by omega) (by omega)) (wm 10 219 rfl rfl) (wm 10 221 rfl rfl) (wm 0 218 rfl rfl) rfl rfl (by decide) rfl (wm 1 18 rfl rfl) (wm 10 222 rfl rfl) (by decide) hR (by decide) (n := 0) rfl rfl (Nat.le_of_ble_eq_true rfl) hl.1 dX12_asksNumber_11 (fun r_9 μ8 ρ d0 H locs hr_r_9 hp G => ?_)
    have hr_r_9 : -2147483648 ≤ r_9 ∧ r_9 ≤ 2147483647 := hr_r_9
    obtain ⟨hsm_10, hp_11⟩ := hp
    have hsm_10 := Eq.symm hsm_10
    subst hsm_10
    refine xb_ti (y := μ.1 135 (mo - 1)) hp_11 ?_
    refine lv_istore_n (lv' := [(1, .int (iv (μ.1 135 (mo - 1)))), (0, .ref (oP ω 111))]) hx hb dX12_asksNumber_14 rfl hl (by decide) rfl (fun ls hl => ?_)
    refine lv_aload_n hx hb dX12_asksNumber_15 rfl (lv_at hl 1 rfl) ?_
    refine xa_getr G fd_X12 (a := 111) (x := 136) 52 rfl (by decide) rfl (wm 7 201 rfl rfl) ⟨rfl, rfl, rfl⟩ dX12_asksNumber_16 rfl (G.sk 134 rfl) (by decide) rfl ?_
    refine lv_aload_n hx hb dX12_asksNumber_19 rfl (lv_at hl 1 rfl) ?_
    refine xa_geti G fd_X12 (a := 111) (x := mo) 53 rfl (by decide) rfl (wm 7 202 rfl rfl) ⟨rfl, rfl, rfl⟩ dX12_asksNumber_20 rfl hmo.symm ?_
    have hr_12 : -2147483648 ≤ mo ∧ mo ≤ 2147483647 := by have h9 := G.hr (a := 111) (k := 53) rfl; rw [show μ.1 111 53 = mo from hmo.symm] at h9; exact h9
    refine lv_iconst (v := iv 1) hx hb dX12_asksNumber_23 rfl ?_
    refine xb_isub hx hb dX12_asksNumber_24 ?_
    refine xa_lald G (a := 136) (i := mo - 1) rfl (by have h9 := G.lc (a := 136) (n := 9000) 74 rfl; omega) dX12_asksNumber_25 rfl ?_
    have hj_13 : jr (μ.1 136 (mo - 1)) := (by have h9 := G.hj (a := 136) (k := mo - 1) rfl; exact h9)
    refine lv_lstore_n (lv' := [(2, .long (jv (μ.1 136 (mo - 1)))), (1, .int (iv (μ.1 135 (mo - 1)))), (0, .ref (oP ω 111))]) hx hb dX12_asksNumber_26 rfl hl (by decide) rfl (fun ls hl => ?_)
    refine lv_aload_n hx hb dX12_asksNumber_27 rfl (lv_at hl 2 rfl) ?_
    refine lv_dup hx hb dX12_asksNumber_28 rfl ?_
    refine xa_geti G fd_X12 (a := 111) (x := mo) 53 rfl (by decide) rfl (wm 7 202 rfl rfl) ⟨rfl, rfl, rfl⟩ dX12_asksNumber_29 rfl hmo.symm ?_
    refine lv_iconst (v := iv 1) hx hb dX12_asksNumber_32 rfl ?_
    refine xb_isub hx hb dX12_asksNumber_33 ?_
    refine xa_puti G fd_X12 (a := 111) (x := mo - 1) 53 (kz := 53) rfl rfl (by decide) rfl (by unfold ir; omega) (wm 7 202 rfl rfl) ⟨rfl, rfl, rfl, rfl⟩ rfl dX12_asksNumber_34 rfl (fun H locs G => ?_)
    refine lv_iload_n hx hb dX12_asksNumber_37 rfl (lv_at hl 1 rfl) ?_
    refine lv_iconst (v := iv 4) hx hb dX12_asksNumber_38 rfl ?_
    refine xb_icmp_ne (tgt := 52) hx hb (by unfold ir; omega) (by unfold ir; omega) dX12_asksNumber_39 (by decide) (fun c_39 => ?_) (fun c_39 => ?_)
    · refine lv_aload_n hx hb dX12_asksNumber_52 rfl (lv_at hl 2 rfl) ?_
      refine lv_iconst (v := iv 4) hx hb dX12_asksNumber_53 rfl ?_
      have e_14 : (sv μ 111 53 (mo - 1)).1 111 4 = μ.1 111 4 := (sv_n _ (by decide))
      have e_15 : (sv μ 111 53 (mo - 1)).1 111 83 = μ.1 111 83 := (sv_n _ (by decide))
      have hrx_16 := RX.eq (μ := μ) (ν := (sv μ 111 53 (mo - 1))) (Eqa.fr (L := [111]) (FrM.put FrM.rf (by decide)) (by decide)) (Eqf.fd (L := [53]) (fun j hj => (sv_n _ (fun h9 => hj (by rw [h9.2]; decide)))) (by decide))
      have e_17 : (sv μ 111 53 (mo - 1)).1 111 94 = μ.1 111 94 := (sv_n _ (by decide))
      have e_18 : (sv μ 111 53 (mo - 1)).1 111 47 = n := ((sv_n _ (by decide)).trans hn.symm)
      have hMZ_19 : MZ (sv μ 111 53 (mo - 1)) := MZ.mn1 hMZ (n := n) (s := μ.1 131 (n - 1)) (hn.symm) (by have h9 : μ.1 131 (n - 1) = μ.1 131 (n - 1) := rfl; exact h9) (by omega) (by have h9 : μ.1 111 53 = mo := hmo.symm; omega)
      have e_20 : (sv μ 111 53 (mo - 1)).1 111 94 = μ.1 111 94 := (sv_n _ (by decide))
      have e_21 : (sv μ 111 53 (mo - 1)).1 111 53 = mo - 1 := (sv_s _ _ _ _)
      refine xc_vV G (b := 111) (rest := []) (As := [.int (iv 4)]) (c_X12_arisesHere ω l (sv μ 111 53 (mo - 1)) 4 n (by unfold ir; omega) (by omega) hMZ_19 (by omega) (by omega) (fun _ => by omega) (by omega)) (wm 10 207 rfl rfl) (wm 10 209 rfl rfl) (wm 0 215 rfl rfl) rfl rfl (by decide) rfl (wm 1 18 rfl rfl) (wm 10 210 rfl rfl) (by decide) hR (by decide) (n := 1) rfl rfl (Nat.le_of_ble_eq_true rfl) hl.1 dX12_asksNumber_54 (fun μ22 ρ d0 H locs hp G => ?_)
      obtain ⟨F_23, hp_24, hp_25⟩ := hp
      refine lv_iconst (v := iv 0) hx hb dX12_asksNumber_57 rfl ?_
      exact xr_i G (x := 0) hret hlk (by unfold ir; omega) (zr (by omega)) dX12_asksNumber_58 ⟨(FrM.tr (FrM.put FrM.rf (by decide)) F_23 (by decide)), (fun j hj => ((hp_24 j (fun h9 => hj ((by decide : ∀ x ∈ ([47, 53, 61, 81, 82, 83, 84, 90, 91, 93, 94, 95, 96, 97, 98, 99] : List Int), x ∈ ([47, 53, 61, 81, 82, 83, 84, 90, 91, 93, 94, 95, 96, 97, 98, 99] : List Int)) j h9))).trans (sv_n _ (fun h9 => hj (by rw [h9.2]; decide))))), hp_25.1, ⟨by decide, by decide⟩, (fun h9 => absurd h9 (by decide)), (fun _ => hp_25.le (by omega))⟩
    · refine lv_aload_n hx hb dX12_asksNumber_42 rfl (lv_at hl 2 rfl) ?_
      refine lv_iconst (v := iv 1) hx hb dX12_asksNumber_43 rfl ?_
      refine lv_iconst (v := iv 4) hx hb dX12_asksNumber_44 rfl ?_
      refine lv_lload_n hx hb dX12_asksNumber_45 rfl (lv_at hl 0 rfl) ?_
      have e_26 : (sv μ 111 53 (mo - 1)).1 111 83 = μ.1 111 83 := (sv_n _ (by decide))
      have hrx_27 := RX.eq (μ := μ) (ν := (sv μ 111 53 (mo - 1))) (Eqa.fr (L := [111]) (FrM.put FrM.rf (by decide)) (by decide)) (Eqf.fd (L := [53]) (fun j hj => (sv_n _ (fun h9 => hj (by rw [h9.2]; decide)))) (by decide))
      have e_28 : (sv μ 111 53 (mo - 1)).1 111 94 = μ.1 111 94 := (sv_n _ (by decide))
      have e_29 : (sv μ 111 53 (mo - 1)).1 111 47 = n := ((sv_n _ (by decide)).trans hn.symm)
      have hMZ_30 : MZ (sv μ 111 53 (mo - 1)) := MZ.mn1 hMZ (n := n) (s := μ.1 131 (n - 1)) (hn.symm) (by have h9 : μ.1 131 (n - 1) = μ.1 131 (n - 1) := rfl; exact h9) (by omega) (by have h9 : μ.1 111 53 = mo := hmo.symm; omega)
      have e_31 : (sv μ 111 53 (mo - 1)).1 111 94 = μ.1 111 94 := (sv_n _ (by decide))
      refine xc_vV G (b := 111) (rest := []) (As := [.int (iv 1), .int (iv 4), .long (jv (μ.1 136 (mo - 1)))]) (c_X12_unwinds_a ω l (sv μ 111 53 (mo - 1)) 1 4 (μ.1 136 (mo - 1)) n (by unfold ir; omega) (by unfold ir; omega) hj_13 (by omega) hMZ_30 (by omega) (by omega) (by omega) (fun _ => by rw [(show (sv μ 111 53 (mo - 1)).1 111 65 = μ.1 111 65 from (sv_n _ (by decide))), (show (sv μ 111 53 (mo - 1)).1 111 82 = μ.1 111 82 from (sv_n _ (by decide)))]; have h9 := hMZ.stv (mo - 1) (by omega) (by omega); rw [show μ.1 135 (mo - 1) = 4 by omega] at h9; exact h9) (fun h9 => absurd h9 (by decide))) (wm 10 135 rfl rfl) (wm 10 137 rfl rfl) (wm 0 197 rfl rfl) rfl rfl (by decide) rfl (wm 1 18 rfl rfl) (wm 10 138 rfl rfl) (by decide) hR (by decide) (n := 3) rfl rfl (Nat.le_of_ble_eq_true rfl) hl.1 dX12_asksNumber_46 (fun μ32 ρ d0 H locs hp G => ?_)
      obtain ⟨F_33, hp_34, hp_35⟩ := hp
      refine lv_goto (tgt := 57) hx hb dX12_asksNumber_49 (by decide) ?_
      refine lv_iconst (v := iv 0) hx hb dX12_asksNumber_57 rfl ?_
      exact xr_i G (x := 0) hret hlk (by unfold ir; omega) (zr (by omega)) dX12_asksNumber_58 ⟨(FrM.tr (FrM.put FrM.rf (by decide)) F_33 (by decide)), (fun j hj => ((hp_34 j (fun h9 => hj ((by decide : ∀ x ∈ ([47, 53, 61, 81, 82, 83, 84, 90, 91, 93, 94, 95, 96, 97, 98, 99] : List Int), x ∈ ([47, 53, 61, 81, 82, 83, 84, 90, 91, 93, 94, 95, 96, 97, 98, 99] : List Int)) j h9))).trans (sv_n _ (fun h9 => hj (by rw [h9.2]; decide))))), hp_35.1, ⟨by decide, by decide⟩, (fun h9 => absurd h9 (by decide)), (fun _ => hp_35.le (by omega))⟩
  · refine lv_iconst (v := iv 1) hx hb dX12_asksNumber_8 rfl ?_
    exact xr_i G (x := 1) hret hlk (by unfold ir; omega) (zr (by omega)) dX12_asksNumber_9 ⟨FrM.rf, (fun j hj => rfl), hMZ, ⟨by decide, by decide⟩, (fun _ => ⟨rfl, by omega⟩), (fun h9 => absurd h9 (by decide))⟩

set_option maxHeartbeats 4000000 in
set_option maxRecDepth 100000 in
theorem c_X12_isOpen (ω : Om) (l : Launch) (μ : M3) (x1 : Int) (n : Int) (hx1 : ir x1) (hn : n = μ.1 111 47) (hMZ : MZ μ) (h1 : 1 ≤ n ∧ n ≤ 24) : CtI ω l yX12_isOpen cX12_isOpen 4 .boolean 0 0 [.ref (oP ω 111), .int (iv x1)] μ (fun (r : Int) (μ' : M3) => (μ' = μ) ∧ (0 ≤ r ∧ r ≤ 1)) := by
  refine CtI.go (by decide) (Nat.le_of_ble_eq_true rfl) (fun ρ p e s m below meth c R ls G hR hret hlk hl => ?_)
  have hx := G.1.1
  have hb := G.1.2.1
  have hl : lv_has ls 4 [(0, .ref (oP ω 111)), (1, .int (iv x1))] := hl
  generalize s.drawn = d0 at G ⊢
  have hr_x1 : -2147483648 ≤ x1 ∧ x1 ≤ 2147483647 := hx1
  have hzn_ := hMZ.n
  rw [← hn] at hzn_
  obtain ⟨hz47, hzFB, hzFL, hz81, hz82, hz84, hz65, hz4, hz104⟩ := hzn_
  have hfr_ := (hMZ.2.2.1 (n - 1) (by omega) (by omega)).1.1
  have hzB := FB_1 (μ := μ) (n := n) (by omega)
  have hzL := FL_1 (μ := μ) (n := n) (by omega)
  refine lv_aload_n hx hb dX12_isOpen_0 rfl (lv_at hl 0 rfl) ?_
  refine xa_geti G fd_X12 (a := 111) (x := n) 47 rfl (by decide) rfl (wm 7 196 rfl rfl) ⟨rfl, rfl, rfl⟩ dX12_isOpen_1 rfl hn.symm ?_
  have hr_1 : -2147483648 ≤ n ∧ n ≤ 2147483647 := by have h9 := G.hr (a := 111) (k := 47) rfl; rw [show μ.1 111 47 = n from hn.symm] at h9; exact h9
  refine lv_iconst (v := iv 1) hx hb dX12_isOpen_4 rfl ?_
  refine xb_isub hx hb dX12_isOpen_5 ?_
  refine lv_istore_n (lv' := [(2, .int (iv (n - 1))), (0, .ref (oP ω 111)), (1, .int (iv x1))]) hx hb dX12_isOpen_6 rfl hl (by decide) rfl (fun ls hl => ?_)
  refine xl (fun n_9 μ' ls => ∃ (f9 : Int), (μ' = μ) ∧ (-2147483648 ≤ f9 ∧ f9 ≤ 2147483647) ∧ (0 ≤ f9 ∧ f9 ≤ n - 1) ∧ n_9 = Int.toNat (f9) ∧ lv_has ls 4 [(2, .int (iv f9)), (0, .ref (oP ω 111)), (1, .int (iv x1))]) (fun n_9 ρ μL2 d0 H locs ls hI_l G ih => ?_) _ _ _ _ _ _ _ ⟨n - 1, rfl, (by omega), (by omega), rfl, lv_sub hl [0, 1, 2] rfl⟩ G
  obtain ⟨f9, FL3, hi_5, hi_6, hn4, hl⟩ := hI_l
  have FL3 := Eq.symm FL3
  subst FL3
  refine lv_iload_n hx hb dX12_isOpen_7 rfl (lv_at hl 0 rfl) ?_
  refine xb_if_le (tgt := 29) hx hb (by unfold ir; omega) dX12_isOpen_8 (by decide) (fun c_8 => ?_) (fun c_8 => ?_)
  · refine lv_aload_n hx hb dX12_isOpen_29 rfl (lv_at hl 1 rfl) ?_
    refine xa_getr G fd_X12 (a := 111) (x := 132) 46 rfl (by decide) rfl (wm 7 195 rfl rfl) ⟨rfl, rfl, rfl⟩ dX12_isOpen_30 rfl (G.sk 130 rfl) (by decide) rfl ?_
    refine lv_iload_n hx hb dX12_isOpen_33 rfl (lv_at hl 0 rfl) ?_
    refine xa_iald G (a := 132) (i := f9) rfl (by have h9 := G.lc (a := 132) (n := 26) 70 rfl; omega) dX12_isOpen_34 rfl ?_
    have hr_7 : -2147483648 ≤ μ.1 132 f9 ∧ μ.1 132 f9 ≤ 2147483647 := by have h9 := G.hr (a := 132) (k := f9) rfl; exact h9
    refine lv_istore_n (lv' := [(3, .int (iv (μ.1 132 f9))), (2, .int (iv f9)), (0, .ref (oP ω 111)), (1, .int (iv x1))]) hx hb dX12_isOpen_35 rfl hl (by decide) rfl (fun ls hl => ?_)
    refine xl (fun n_9 μ' ls => ∃ (k9 : Int), (μ' = μ) ∧ (-2147483648 ≤ k9 ∧ k9 ≤ 2147483647) ∧ (0 ≤ k9 ∧ k9 ≤ 400) ∧ n_9 = Int.toNat (400 - k9) ∧ lv_has ls 4 [(3, .int (iv k9)), (2, .int (iv f9)), (0, .ref (oP ω 111)), (1, .int (iv x1))]) (fun n_9 ρ μL8 d0 H locs ls hI_l G ih => ?_) _ _ _ _ _ _ _ ⟨μ.1 132 f9, rfl, (by omega), (by have h9 := (hMZ.2.2.1 f9 (by omega) (by omega)).1.2.2.2; omega), rfl, lv_sub hl [0, 1, 2, 3] rfl⟩ G
    obtain ⟨k9, FL9, hi_11, hi_12, hn10, hl⟩ := hI_l
    have FL9 := Eq.symm FL9
    subst FL9
    refine lv_iload_n hx hb dX12_isOpen_36 rfl (lv_at hl 0 rfl) ?_
    refine lv_aload_n hx hb dX12_isOpen_37 rfl (lv_at hl 2 rfl) ?_
    refine xa_geti G fd_X12 (a := 111) (x := μ.1 111 61) 61 rfl (by decide) rfl (wm 7 210 rfl rfl) ⟨rfl, rfl, rfl⟩ dX12_isOpen_38 rfl rfl ?_
    have hr_13 : -2147483648 ≤ μ.1 111 61 ∧ μ.1 111 61 ≤ 2147483647 := by have h9 := G.hr (a := 111) (k := 61) rfl; exact h9
    refine xb_icmp_ge (tgt := 72) hx hb (by unfold ir; omega) (by unfold ir; omega) dX12_isOpen_41 (by decide) (fun c_41 => ?_) (fun c_41 => ?_)
    · refine lv_iconst (v := iv 0) hx hb dX12_isOpen_72 rfl ?_
      exact xr_i G (x := 0) hret hlk (by unfold ir; omega) (zr (by omega)) dX12_isOpen_73 ⟨rfl, (by omega)⟩
    · refine lv_aload_n hx hb dX12_isOpen_44 rfl (lv_at hl 2 rfl) ?_
      refine xa_getr G fd_X12 (a := 111) (x := 137) 54 rfl (by decide) rfl (wm 7 203 rfl rfl) ⟨rfl, rfl, rfl⟩ dX12_isOpen_45 rfl (G.sk 135 rfl) (by decide) rfl ?_
      refine lv_iload_n hx hb dX12_isOpen_48 rfl (lv_at hl 0 rfl) ?_
      refine xa_iald G (a := 137) (i := k9) rfl (by have h9 := G.lc (a := 137) (n := 900) 75 rfl; omega) dX12_isOpen_49 rfl ?_
      have hr_14 : -2147483648 ≤ μ.1 137 k9 ∧ μ.1 137 k9 ≤ 2147483647 := by have h9 := G.hr (a := 137) (k := k9) rfl; exact h9
      refine lv_iconst (v := iv 4) hx hb dX12_isOpen_50 rfl ?_
      refine xb_icmp_ne (tgt := 66) hx hb (by unfold ir; omega) (by unfold ir; omega) dX12_isOpen_51 (by decide) (fun c_51 => ?_) (fun c_51 => ?_)
      · refine lv_iinc (v := iv (k9 + 1)) (lv' := [(3, .int (iv (k9 + 1))), (2, .int (iv f9)), (0, .ref (oP ω 111)), (1, .int (iv x1))]) hx hb dX12_isOpen_66 hl (k := 0) rfl (by rw [show Int32.ofInt 1 = iv 1 from rfl, iv_add]) (by decide) rfl (fun ls hl => ?_)
        refine lv_goto (tgt := 36) hx hb dX12_isOpen_69 (by decide) ?_
        exact ih _ _ _ _ _ _ _ (by omega) ⟨k9 + 1, rfl, (by omega), (by omega), rfl, lv_sub hl [0, 1, 2, 3] rfl⟩ G
      · refine lv_aload_n hx hb dX12_isOpen_54 rfl (lv_at hl 2 rfl) ?_
        refine xa_getr G fd_X12 (a := 111) (x := 139) 56 rfl (by decide) rfl (wm 7 205 rfl rfl) ⟨rfl, rfl, rfl⟩ dX12_isOpen_55 rfl (G.sk 137 rfl) (by decide) rfl ?_
        refine lv_iload_n hx hb dX12_isOpen_58 rfl (lv_at hl 0 rfl) ?_
        refine xa_iald G (a := 139) (i := k9) rfl (by have h9 := G.lc (a := 139) (n := 900) 77 rfl; omega) dX12_isOpen_59 rfl ?_
        have hr_15 : -2147483648 ≤ μ.1 139 k9 ∧ μ.1 139 k9 ≤ 2147483647 := by have h9 := G.hr (a := 139) (k := k9) rfl; exact h9
        refine lv_iload_n hx hb dX12_isOpen_60 rfl (lv_at hl 3 rfl) ?_
        refine xb_icmp_ne (tgt := 66) hx hb (by unfold ir; omega) (by unfold ir; omega) dX12_isOpen_61 (by decide) (fun c_61 => ?_) (fun c_61 => ?_)
        · refine lv_iinc (v := iv (k9 + 1)) (lv' := [(3, .int (iv (k9 + 1))), (2, .int (iv f9)), (0, .ref (oP ω 111)), (1, .int (iv x1))]) hx hb dX12_isOpen_66 hl (k := 0) rfl (by rw [show Int32.ofInt 1 = iv 1 from rfl, iv_add]) (by decide) rfl (fun ls hl => ?_)
          refine lv_goto (tgt := 36) hx hb dX12_isOpen_69 (by decide) ?_
          exact ih _ _ _ _ _ _ _ (by omega) ⟨k9 + 1, rfl, (by omega), (by omega), rfl, lv_sub hl [0, 1, 2, 3] rfl⟩ G
        · refine lv_iconst (v := iv 1) hx hb dX12_isOpen_64 rfl ?_
          exact xr_i G (x := 1) hret hlk (by unfold ir; omega) (zr (by omega)) dX12_isOpen_65 ⟨rfl, (by omega)⟩
  · refine lv_aload_n hx hb dX12_isOpen_11 rfl (lv_at hl 1 rfl) ?_
    refine xa_getr G fd_X12 (a := 111) (x := 127) 41 rfl (by decide) rfl (wm 7 190 rfl rfl) ⟨rfl, rfl, rfl⟩ dX12_isOpen_12 rfl (G.sk 125 rfl) (by decide) rfl ?_
    refine lv_iload_n hx hb dX12_isOpen_15 rfl (lv_at hl 0 rfl) ?_
    refine lv_iconst (v := iv 1) hx hb dX12_isOpen_16 rfl ?_
    refine xb_isub hx hb dX12_isOpen_17 ?_
    refine xa_iald G (a := 127) (i := f9 - 1) rfl (by have h9 := G.lc (a := 127) (n := 26) 65 rfl; omega) dX12_isOpen_18 rfl ?_
    have hr_16 : -2147483648 ≤ μ.1 127 (f9 - 1) ∧ μ.1 127 (f9 - 1) ≤ 2147483647 := by have h9 := G.hr (a := 127) (k := f9 - 1) rfl; exact h9
    refine lv_iconst (v := iv 3) hx hb dX12_isOpen_19 rfl ?_
    refine xb_icmp_ne (tgt := 29) hx hb (by unfold ir; omega) (by unfold ir; omega) dX12_isOpen_20 (by decide) (fun c_20 => ?_) (fun c_20 => ?_)
    · refine lv_aload_n hx hb dX12_isOpen_29 rfl (lv_at hl 1 rfl) ?_
      refine xa_getr G fd_X12 (a := 111) (x := 132) 46 rfl (by decide) rfl (wm 7 195 rfl rfl) ⟨rfl, rfl, rfl⟩ dX12_isOpen_30 rfl (G.sk 130 rfl) (by decide) rfl ?_
      refine lv_iload_n hx hb dX12_isOpen_33 rfl (lv_at hl 0 rfl) ?_
      refine xa_iald G (a := 132) (i := f9) rfl (by have h9 := G.lc (a := 132) (n := 26) 70 rfl; omega) dX12_isOpen_34 rfl ?_
      have hr_17 : -2147483648 ≤ μ.1 132 f9 ∧ μ.1 132 f9 ≤ 2147483647 := by have h9 := G.hr (a := 132) (k := f9) rfl; exact h9
      refine lv_istore_n (lv' := [(3, .int (iv (μ.1 132 f9))), (2, .int (iv f9)), (0, .ref (oP ω 111)), (1, .int (iv x1))]) hx hb dX12_isOpen_35 rfl hl (by decide) rfl (fun ls hl => ?_)
      refine xl (fun n_9 μ' ls => ∃ (k9 : Int), (μ' = μ) ∧ (-2147483648 ≤ k9 ∧ k9 ≤ 2147483647) ∧ (0 ≤ k9 ∧ k9 ≤ 400) ∧ n_9 = Int.toNat (400 - k9) ∧ lv_has ls 4 [(3, .int (iv k9)), (2, .int (iv f9)), (0, .ref (oP ω 111)), (1, .int (iv x1))]) (fun n_9 ρ μL18 d0 H locs ls hI_l G ih => ?_) _ _ _ _ _ _ _ ⟨μ.1 132 f9, rfl, (by omega), (by have h9 := (hMZ.2.2.1 f9 (by omega) (by omega)).1.2.2.2; omega), rfl, lv_sub hl [0, 1, 2, 3] rfl⟩ G
      obtain ⟨k9, FL19, hi_21, hi_22, hn20, hl⟩ := hI_l
      have FL19 := Eq.symm FL19
      subst FL19
      refine lv_iload_n hx hb dX12_isOpen_36 rfl (lv_at hl 0 rfl) ?_
      refine lv_aload_n hx hb dX12_isOpen_37 rfl (lv_at hl 2 rfl) ?_
      refine xa_geti G fd_X12 (a := 111) (x := μ.1 111 61) 61 rfl (by decide) rfl (wm 7 210 rfl rfl) ⟨rfl, rfl, rfl⟩ dX12_isOpen_38 rfl rfl ?_
      have hr_23 : -2147483648 ≤ μ.1 111 61 ∧ μ.1 111 61 ≤ 2147483647 := by have h9 := G.hr (a := 111) (k := 61) rfl; exact h9
      refine xb_icmp_ge (tgt := 72) hx hb (by unfold ir; omega) (by unfold ir; omega) dX12_isOpen_41 (by decide) (fun c_41 => ?_) (fun c_41 => ?_)
      · refine lv_iconst (v := iv 0) hx hb dX12_isOpen_72 rfl ?_
        exact xr_i G (x := 0) hret hlk (by unfold ir; omega) (zr (by omega)) dX12_isOpen_73 ⟨rfl, (by omega)⟩
      · refine lv_aload_n hx hb dX12_isOpen_44 rfl (lv_at hl 2 rfl) ?_
        refine xa_getr G fd_X12 (a := 111) (x := 137) 54 rfl (by decide) rfl (wm 7 203 rfl rfl) ⟨rfl, rfl, rfl⟩ dX12_isOpen_45 rfl (G.sk 135 rfl) (by decide) rfl ?_
        refine lv_iload_n hx hb dX12_isOpen_48 rfl (lv_at hl 0 rfl) ?_
        refine xa_iald G (a := 137) (i := k9) rfl (by have h9 := G.lc (a := 137) (n := 900) 75 rfl; omega) dX12_isOpen_49 rfl ?_
        have hr_24 : -2147483648 ≤ μ.1 137 k9 ∧ μ.1 137 k9 ≤ 2147483647 := by have h9 := G.hr (a := 137) (k := k9) rfl; exact h9
        refine lv_iconst (v := iv 4) hx hb dX12_isOpen_50 rfl ?_
        refine xb_icmp_ne (tgt := 66) hx hb (by unfold ir; omega) (by unfold ir; omega) dX12_isOpen_51 (by decide) (fun c_51 => ?_) (fun c_51 => ?_)
        · refine lv_iinc (v := iv (k9 + 1)) (lv' := [(3, .int (iv (k9 + 1))), (2, .int (iv f9)), (0, .ref (oP ω 111)), (1, .int (iv x1))]) hx hb dX12_isOpen_66 hl (k := 0) rfl (by rw [show Int32.ofInt 1 = iv 1 from rfl, iv_add]) (by decide) rfl (fun ls hl => ?_)
          refine lv_goto (tgt := 36) hx hb dX12_isOpen_69 (by decide) ?_
          exact ih _ _ _ _ _ _ _ (by omega) ⟨k9 + 1, rfl, (by omega), (by omega), rfl, lv_sub hl [0, 1, 2, 3] rfl⟩ G
        · refine lv_aload_n hx hb dX12_isOpen_54 rfl (lv_at hl 2 rfl) ?_
          refine xa_getr G fd_X12 (a := 111) (x := 139) 56 rfl (by decide) rfl (wm 7 205 rfl rfl) ⟨rfl, rfl, rfl⟩ dX12_isOpen_55 rfl (G.sk 137 rfl) (by decide) rfl ?_
          refine lv_iload_n hx hb dX12_isOpen_58 rfl (lv_at hl 0 rfl) ?_
          refine xa_iald G (a := 139) (i := k9) rfl (by have h9 := G.lc (a := 139) (n := 900) 77 rfl; omega) dX12_isOpen_59 rfl ?_
          have hr_25 : -2147483648 ≤ μ.1 139 k9 ∧ μ.1 139 k9 ≤ 2147483647 := by have h9 := G.hr (a := 139) (k := k9) rfl; exact h9
          refine lv_iload_n hx hb dX12_isOpen_60 rfl (lv_at hl 3 rfl) ?_
          refine xb_icmp_ne (tgt := 66) hx hb (by unfold ir; omega) (by unfold ir; omega) dX12_isOpen_61 (by decide) (fun c_61 => ?_) (fun c_61 => ?_)
          · refine lv_iinc (v := iv (k9 + 1)) (lv' := [(3, .int (iv (k9 + 1))), (2, .int (iv f9)), (0, .ref (oP ω 111)), (1, .int (iv x1))]) hx hb dX12_isOpen_66 hl (k := 0) rfl (by rw [show Int32.ofInt 1 = iv 1 from rfl, iv_add]) (by decide) rfl (fun ls hl => ?_)
            refine lv_goto (tgt := 36) hx hb dX12_isOpen_69 (by decide) ?_
            exact ih _ _ _ _ _ _ _ (by omega) ⟨k9 + 1, rfl, (by omega), (by omega), rfl, lv_sub hl [0, 1, 2, 3] rfl⟩ G
          · refine lv_iconst (v := iv 1) hx hb dX12_isOpen_64 rfl ?_
            exact xr_i G (x := 1) hret hlk (by unfold ir; omega) (zr (by omega)) dX12_isOpen_65 ⟨rfl, (by omega)⟩
    · refine lv_iinc (v := iv (f9 - 1)) (lv' := [(2, .int (iv (f9 - 1))), (0, .ref (oP ω 111)), (1, .int (iv x1))]) hx hb dX12_isOpen_23 hl (k := 0) rfl (by rw [show Int32.ofInt (-1) = iv (-1) from rfl, iv_add] <;> (congr 1 <;> omega)) (by decide) rfl (fun ls hl => ?_)
      refine lv_goto (tgt := 7) hx hb dX12_isOpen_26 (by decide) ?_
      exact ih _ _ _ _ _ _ _ (by omega) ⟨f9 - 1, rfl, (by omega), (by omega), rfl, lv_sub hl [0, 1, 2] rfl⟩ G

set_option maxHeartbeats 4000000 in
set_option maxRecDepth 100000 in
theorem c_X12_exits (ω : Om) (l : Launch) (μ : M3) (x1 : Int) (x2 : Int) (x3 : Int) (n : Int) (hx1 : ir x1) (hx2 : ir x2) (hx3 : jr x3) (hn : n = μ.1 111 47) (hMZ : MZ μ) (h1 : 1 ≤ n ∧ n ≤ 24) (h94 : μ.1 111 94 = 0) (hv : VV (μ.1 111 65) (μ.1 111 82) x2 x3) (hwx : 1 ≤ x1 ∧ x1 < μ.1 111 4) (ht2 : μ.1 127 (n - 1) ≠ 2) : CtV ω l yX12_exits cX12_exits 5 183 4972 [.ref (oP ω 111), .int (iv x1), .int (iv x2), .long (jv x3)] μ (fun (μ' : M3) => (FrM [111, 129, 133, 134, 135, 136, 137, 138, 139, 140, 141, 142, 143, 149, 150, 151, 152, 153, 154, 155, 156, 157, 158, 159] μ μ') ∧ (∀ j, j ∉ ([47, 53, 61, 81, 82, 83, 84, 90, 91, 93, 94, 95, 96, 97, 98, 99] : List Int) → μ'.1 111 j = μ.1 111 j) ∧ (RES μ' (RX μ - 190000))) := by
  refine CtV.go (by decide) (Nat.le_of_ble_eq_true rfl) (fun ρ p e s m below meth c R ls G hR hret hlk hl => ?_)
  have hx := G.1.1
  have hb := G.1.2.1
  have hl : lv_has ls 5 [(0, .ref (oP ω 111)), (1, .int (iv x1)), (2, .int (iv x2)), (3, .long (jv x3))] := hl
  generalize s.drawn = d0 at G ⊢
  have hr_x1 : -2147483648 ≤ x1 ∧ x1 ≤ 2147483647 := hx1
  have hr_x2 : -2147483648 ≤ x2 ∧ x2 ≤ 2147483647 := hx2
  have hzn_ := hMZ.n
  rw [← hn] at hzn_
  obtain ⟨hz47, hzFB, hzFL, hz81, hz82, hz84, hz65, hz4, hz104⟩ := hzn_
  have hfr_ := (hMZ.2.2.1 (n - 1) (by omega) (by omega)).1.1
  have hzB := FB_1 (μ := μ) (n := n) (by omega)
  have hzL := FL_1 (μ := μ) (n := n) (by omega)
  refine lv_aload_n hx hb dX12_exits_0 rfl (lv_at hl 0 rfl) ?_
  refine lv_iload_n hx hb dX12_exits_1 rfl (lv_at hl 1 rfl) ?_
  have e_1 : μ.1 111 47 = n := hn.symm
  refine xc_iV G (b := 111) (rest := []) (As := [.int (iv x1)]) (c_X12_isOpen ω l μ x1 n (by unfold ir; omega) (by omega) hMZ (by omega)) (wm 10 235 rfl rfl) (wm 10 237 rfl rfl) (wm 0 222 rfl rfl) rfl rfl (by decide) rfl (wm 1 18 rfl rfl) (wm 10 238 rfl rfl) (by decide) hR (by decide) (n := 1) rfl rfl (Nat.le_of_ble_eq_true rfl) hl.1 dX12_exits_2 (fun r_3 μ2 ρ d0 H locs hr_r_3 hp G => ?_)
  have hr_r_3 : -2147483648 ≤ r_3 ∧ r_3 ≤ 2147483647 := hr_r_3
  obtain ⟨hsm_4, hp_5⟩ := hp
  have hsm_4 := Eq.symm hsm_4
  subst hsm_4
  refine xb_if_eq (tgt := 18) hx hb (by unfold ir; omega) dX12_exits_5 (by decide) (fun c_5 => ?_) (fun c_5 => ?_)
  · refine lv_aload_n hx hb dX12_exits_18 rfl (lv_at hl 0 rfl) ?_
    refine lv_bipush (v := iv 8) hx hb dX12_exits_19 rfl ?_
    have e_6 : μ.1 111 47 = n := hn.symm
    refine xc_vV G (b := 111) (rest := []) (As := [.int (iv 8)]) (c_X12_arises_a ω l μ 8 n (by unfold ir; omega) (by omega) hMZ (by omega) (by omega) (fun _ => by omega) (fun h9 => absurd h9 ht2)) (wm 10 199 rfl rfl) (wm 10 201 rfl rfl) (wm 0 213 rfl rfl) rfl rfl (by decide) rfl (wm 1 18 rfl rfl) (wm 10 202 rfl rfl) (by decide) hR (by decide) (n := 1) rfl rfl (Nat.le_of_ble_eq_true rfl) hl.1 dX12_exits_21 (fun μ7 ρ d0 H locs hp G => ?_)
    obtain ⟨F_8, hp_9, hp_10⟩ := hp
    exact xr_v G hret hlk dX12_exits_24 ⟨(FrM.tr FrM.rf F_8 (by decide)), (fun j hj => (hp_9 j (fun h9 => hj ((by decide : ∀ x ∈ ([47, 53, 61, 81, 82, 83, 84, 90, 91, 93, 94, 95, 96, 97, 98, 99] : List Int), x ∈ ([47, 53, 61, 81, 82, 83, 84, 90, 91, 93, 94, 95, 96, 97, 98, 99] : List Int)) j h9)))), (hp_10.le (by omega))⟩
  · refine lv_aload_n hx hb dX12_exits_8 rfl (lv_at hl 0 rfl) ?_
    refine lv_iload_n hx hb dX12_exits_9 rfl (lv_at hl 1 rfl) ?_
    refine lv_iload_n hx hb dX12_exits_10 rfl (lv_at hl 2 rfl) ?_
    refine lv_lload_n hx hb dX12_exits_11 rfl (lv_at hl 3 rfl) ?_
    have e_11 : μ.1 111 47 = n := hn.symm
    refine xc_vV G (b := 111) (rest := []) (As := [.int (iv x1), .int (iv x2), .long (jv x3)]) (c_X12_arisesWith_a ω l μ x1 x2 x3 n (by unfold ir; omega) (by unfold ir; omega) hx3 (by omega) hMZ (by omega) (by omega) hv (fun _ => hwx) (fun h9 => absurd h9 ht2)) (wm 10 203 rfl rfl) (wm 10 205 rfl rfl) (wm 0 214 rfl rfl) rfl rfl (by decide) rfl (wm 1 18 rfl rfl) (wm 10 206 rfl rfl) (by decide) hR (by decide) (n := 3) rfl rfl (Nat.le_of_ble_eq_true rfl) hl.1 dX12_exits_12 (fun μ12 ρ d0 H locs hp G => ?_)
    obtain ⟨F_13, hp_14, hp_15⟩ := hp
    refine lv_goto (tgt := 24) hx hb dX12_exits_15 (by decide) ?_
    exact xr_v G hret hlk dX12_exits_24 ⟨(FrM.tr FrM.rf F_13 (by decide)), (fun j hj => (hp_14 j (fun h9 => hj ((by decide : ∀ x ∈ ([47, 53, 61, 81, 82, 83, 84, 90, 91, 93, 94, 95, 96, 97, 98, 99] : List Int), x ∈ ([47, 53, 61, 81, 82, 83, 84, 90, 91, 93, 94, 95, 96, 97, 98, 99] : List Int)) j h9)))), (hp_15.le (by omega))⟩
