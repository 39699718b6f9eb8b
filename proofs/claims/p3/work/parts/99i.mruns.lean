abbrev cX12_runs : ByteArray := prog_14_method_111_code
def yX12_runs : MethodName := ⟨RX12, "runs", "()V"⟩
abbrev cX12_call_ : ByteArray := prog_14_method_133_code
def yX12_call_ : MethodName := ⟨RX12, "call", "(IIJ)I"⟩
theorem dX12_runs_0 : decode cX12_runs 0 = .ok (.aload_n 0, 1) := by decide +kernel
theorem dX12_runs_1 : decode cX12_runs 1 = .ok (.getfield 593, 3) := by decide +kernel
theorem dX12_runs_4 : decode cX12_runs 4 = .ok (.ifCond .ne 67, 3) := by decide +kernel
theorem dX12_runs_7 : decode cX12_runs 7 = .ok (.aload_n 0, 1) := by decide +kernel
theorem dX12_runs_8 : decode cX12_runs 8 = .ok (.getfield 580, 3) := by decide +kernel
theorem dX12_runs_11 : decode cX12_runs 11 = .ok (.iconst 1, 1) := by decide +kernel
theorem dX12_runs_12 : decode cX12_runs 12 = .ok (.isub, 1) := by decide +kernel
theorem dX12_runs_13 : decode cX12_runs 13 = .ok (.istore_n 1, 1) := by decide +kernel
theorem dX12_runs_14 : decode cX12_runs 14 = .ok (.sipush 9000, 3) := by decide +kernel
theorem dX12_runs_17 : decode cX12_runs 17 = .ok (.aload_n 0, 1) := by decide +kernel
theorem dX12_runs_18 : decode cX12_runs 18 = .ok (.getfield 57, 3) := by decide +kernel
theorem dX12_runs_21 : decode cX12_runs 21 = .ok (.iload_n 1, 1) := by decide +kernel
theorem dX12_runs_22 : decode cX12_runs 22 = .ok (.iaload, 1) := by decide +kernel
theorem dX12_runs_23 : decode cX12_runs 23 = .ok (.imul, 1) := by decide +kernel
theorem dX12_runs_24 : decode cX12_runs 24 = .ok (.aload_n 0, 1) := by decide +kernel
theorem dX12_runs_25 : decode cX12_runs 25 = .ok (.getfield 63, 3) := by decide +kernel
theorem dX12_runs_28 : decode cX12_runs 28 = .ok (.iload_n 1, 1) := by decide +kernel
theorem dX12_runs_29 : decode cX12_runs 29 = .ok (.iaload, 1) := by decide +kernel
theorem dX12_runs_30 : decode cX12_runs 30 = .ok (.iadd, 1) := by decide +kernel
theorem dX12_runs_31 : decode cX12_runs 31 = .ok (.istore_n 2, 1) := by decide +kernel
theorem dX12_runs_32 : decode cX12_runs 32 = .ok (.aload_n 0, 1) := by decide +kernel
theorem dX12_runs_33 : decode cX12_runs 33 = .ok (.getfield 63, 3) := by decide +kernel
theorem dX12_runs_36 : decode cX12_runs 36 = .ok (.iload_n 1, 1) := by decide +kernel
theorem dX12_runs_37 : decode cX12_runs 37 = .ok (.dup2, 1) := by decide +kernel
theorem dX12_runs_38 : decode cX12_runs 38 = .ok (.iaload, 1) := by decide +kernel
theorem dX12_runs_39 : decode cX12_runs 39 = .ok (.iconst 1, 1) := by decide +kernel
theorem dX12_runs_40 : decode cX12_runs 40 = .ok (.iadd, 1) := by decide +kernel
theorem dX12_runs_41 : decode cX12_runs 41 = .ok (.iastore, 1) := by decide +kernel
theorem dX12_runs_42 : decode cX12_runs 42 = .ok (.aload_n 0, 1) := by decide +kernel
theorem dX12_runs_43 : decode cX12_runs 43 = .ok (.getfield 21, 3) := by decide +kernel
theorem dX12_runs_46 : decode cX12_runs 46 = .ok (.iload_n 2, 1) := by decide +kernel
theorem dX12_runs_47 : decode cX12_runs 47 = .ok (.iaload, 1) := by decide +kernel
theorem dX12_runs_48 : decode cX12_runs 48 = .ok (.bipush 21, 2) := by decide +kernel
theorem dX12_runs_50 : decode cX12_runs 50 = .ok (.if_icmp .gt 12, 3) := by decide +kernel
theorem dX12_runs_53 : decode cX12_runs 53 = .ok (.aload_n 0, 1) := by decide +kernel
theorem dX12_runs_54 : decode cX12_runs 54 = .ok (.iload_n 1, 1) := by decide +kernel
theorem dX12_runs_55 : decode cX12_runs 55 = .ok (.iload_n 2, 1) := by decide +kernel
theorem dX12_runs_56 : decode cX12_runs 56 = .ok (.invokevirtual 684, 3) := by decide +kernel
theorem dX12_runs_59 : decode cX12_runs 59 = .ok (.goto 9, 3) := by decide +kernel
theorem dX12_runs_62 : decode cX12_runs 62 = .ok (.aload_n 0, 1) := by decide +kernel
theorem dX12_runs_63 : decode cX12_runs 63 = .ok (.iload_n 1, 1) := by decide +kernel
theorem dX12_runs_64 : decode cX12_runs 64 = .ok (.iload_n 2, 1) := by decide +kernel
theorem dX12_runs_65 : decode cX12_runs 65 = .ok (.invokevirtual 687, 3) := by decide +kernel
theorem dX12_runs_68 : decode cX12_runs 68 = .ok (.goto (-68), 3) := by decide +kernel
theorem dX12_runs_71 : decode cX12_runs 71 = .ok (.return_, 1) := by decide +kernel
theorem dX12_call__0 : decode cX12_call_ 0 = .ok (.aload_n 0, 1) := by decide +kernel
theorem dX12_call__1 : decode cX12_call_ 1 = .ok (.iconst 0, 1) := by decide +kernel
theorem dX12_call__2 : decode cX12_call_ 2 = .ok (.putfield 200, 3) := by decide +kernel
theorem dX12_call__5 : decode cX12_call_ 5 = .ok (.iload_n 1, 1) := by decide +kernel
theorem dX12_call__6 : decode cX12_call_ 6 = .ok (.ifCond .lt 22, 3) := by decide +kernel
theorem dX12_call__9 : decode cX12_call_ 9 = .ok (.iload_n 1, 1) := by decide +kernel
theorem dX12_call__10 : decode cX12_call_ 10 = .ok (.iconst 3, 1) := by decide +kernel
theorem dX12_call__11 : decode cX12_call_ 11 = .ok (.if_icmp .gt 17, 3) := by decide +kernel
theorem dX12_call__14 : decode cX12_call_ 14 = .ok (.iload_n 2, 1) := by decide +kernel
theorem dX12_call__15 : decode cX12_call_ 15 = .ok (.ifCond .lt 13, 3) := by decide +kernel
theorem dX12_call__18 : decode cX12_call_ 18 = .ok (.iload_n 2, 1) := by decide +kernel
theorem dX12_call__19 : decode cX12_call_ 19 = .ok (.aload_n 0, 1) := by decide +kernel
theorem dX12_call__20 : decode cX12_call_ 20 = .ok (.getfield 42, 3) := by decide +kernel
theorem dX12_call__23 : decode cX12_call_ 23 = .ok (.iload_n 1, 1) := by decide +kernel
theorem dX12_call__24 : decode cX12_call_ 24 = .ok (.iaload, 1) := by decide +kernel
theorem dX12_call__25 : decode cX12_call_ 25 = .ok (.if_icmp .lt 5, 3) := by decide +kernel
theorem dX12_call__28 : decode cX12_call_ 28 = .ok (.iconst 3, 1) := by decide +kernel
theorem dX12_call__29 : decode cX12_call_ 29 = .ok (.ireturn, 1) := by decide +kernel
theorem dX12_call__30 : decode cX12_call_ 30 = .ok (.aload_n 0, 1) := by decide +kernel
theorem dX12_call__31 : decode cX12_call_ 31 = .ok (.iconst 0, 1) := by decide +kernel
theorem dX12_call__32 : decode cX12_call_ 32 = .ok (.iload_n 1, 1) := by decide +kernel
theorem dX12_call__33 : decode cX12_call_ 33 = .ok (.iconst 0, 1) := by decide +kernel
theorem dX12_call__34 : decode cX12_call_ 34 = .ok (.lload_n 3, 1) := by decide +kernel
theorem dX12_call__35 : decode cX12_call_ 35 = .ok (.invokevirtual 560, 3) := by decide +kernel
theorem dX12_call__38 : decode cX12_call_ 38 = .ok (.aload_n 0, 1) := by decide +kernel
theorem dX12_call__39 : decode cX12_call_ 39 = .ok (.getfield 534, 3) := by decide +kernel
theorem dX12_call__42 : decode cX12_call_ 42 = .ok (.ifCond .ne 5, 3) := by decide +kernel
theorem dX12_call__45 : decode cX12_call_ 45 = .ok (.iconst 4, 1) := by decide +kernel
theorem dX12_call__46 : decode cX12_call_ 46 = .ok (.ireturn, 1) := by decide +kernel
theorem dX12_call__47 : decode cX12_call_ 47 = .ok (.aload_n 0, 1) := by decide +kernel
theorem dX12_call__48 : decode cX12_call_ 48 = .ok (.iconst 1, 1) := by decide +kernel
theorem dX12_call__49 : decode cX12_call_ 49 = .ok (.putfield 786, 3) := by decide +kernel
theorem dX12_call__52 : decode cX12_call_ 52 = .ok (.aload_n 0, 1) := by decide +kernel
theorem dX12_call__53 : decode cX12_call_ 53 = .ok (.iconst 0, 1) := by decide +kernel
theorem dX12_call__54 : decode cX12_call_ 54 = .ok (.putfield 593, 3) := by decide +kernel
theorem dX12_call__57 : decode cX12_call_ 57 = .ok (.aload_n 0, 1) := by decide +kernel
theorem dX12_call__58 : decode cX12_call_ 58 = .ok (.iconst 0, 1) := by decide +kernel
theorem dX12_call__59 : decode cX12_call_ 59 = .ok (.putfield 583, 3) := by decide +kernel
theorem dX12_call__62 : decode cX12_call_ 62 = .ok (.aload_n 0, 1) := by decide +kernel
theorem dX12_call__63 : decode cX12_call_ 63 = .ok (.iconst 0, 1) := by decide +kernel
theorem dX12_call__64 : decode cX12_call_ 64 = .ok (.putfield 708, 3) := by decide +kernel
theorem dX12_call__67 : decode cX12_call_ 67 = .ok (.aload_n 0, 1) := by decide +kernel
theorem dX12_call__68 : decode cX12_call_ 68 = .ok (.iconst 0, 1) := by decide +kernel
theorem dX12_call__69 : decode cX12_call_ 69 = .ok (.putfield 699, 3) := by decide +kernel
theorem dX12_call__72 : decode cX12_call_ 72 = .ok (.aload_n 0, 1) := by decide +kernel
theorem dX12_call__73 : decode cX12_call_ 73 = .ok (.iconst 0, 1) := by decide +kernel
theorem dX12_call__74 : decode cX12_call_ 74 = .ok (.putfield 757, 3) := by decide +kernel
theorem dX12_call__77 : decode cX12_call_ 77 = .ok (.aload_n 0, 1) := by decide +kernel
theorem dX12_call__78 : decode cX12_call_ 78 = .ok (.iconst 0, 1) := by decide +kernel
theorem dX12_call__79 : decode cX12_call_ 79 = .ok (.putfield 681, 3) := by decide +kernel
theorem dX12_call__82 : decode cX12_call_ 82 = .ok (.aload_n 0, 1) := by decide +kernel
theorem dX12_call__83 : decode cX12_call_ 83 = .ok (.iconst 0, 1) := by decide +kernel
theorem dX12_call__84 : decode cX12_call_ 84 = .ok (.putfield 580, 3) := by decide +kernel
theorem dX12_call__87 : decode cX12_call_ 87 = .ok (.aload_n 0, 1) := by decide +kernel
theorem dX12_call__88 : decode cX12_call_ 88 = .ok (.iconst 0, 1) := by decide +kernel
theorem dX12_call__89 : decode cX12_call_ 89 = .ok (.putfield 763, 3) := by decide +kernel
theorem dX12_call__92 : decode cX12_call_ 92 = .ok (.aload_n 0, 1) := by decide +kernel
theorem dX12_call__93 : decode cX12_call_ 93 = .ok (.iconst 0, 1) := by decide +kernel
theorem dX12_call__94 : decode cX12_call_ 94 = .ok (.putfield 574, 3) := by decide +kernel
theorem dX12_call__97 : decode cX12_call_ 97 = .ok (.aload_n 0, 1) := by decide +kernel
theorem dX12_call__98 : decode cX12_call_ 98 = .ok (.iconst 0, 1) := by decide +kernel
theorem dX12_call__99 : decode cX12_call_ 99 = .ok (.putfield 596, 3) := by decide +kernel
theorem dX12_call__102 : decode cX12_call_ 102 = .ok (.aload_n 0, 1) := by decide +kernel
theorem dX12_call__103 : decode cX12_call_ 103 = .ok (.iconst 0, 1) := by decide +kernel
theorem dX12_call__104 : decode cX12_call_ 104 = .ok (.putfield 751, 3) := by decide +kernel
theorem dX12_call__107 : decode cX12_call_ 107 = .ok (.aload_n 0, 1) := by decide +kernel
theorem dX12_call__108 : decode cX12_call_ 108 = .ok (.iconst 0, 1) := by decide +kernel
theorem dX12_call__109 : decode cX12_call_ 109 = .ok (.putfield 754, 3) := by decide +kernel
theorem dX12_call__112 : decode cX12_call_ 112 = .ok (.aload_n 0, 1) := by decide +kernel
theorem dX12_call__113 : decode cX12_call_ 113 = .ok (.iconst 0, 1) := by decide +kernel
theorem dX12_call__114 : decode cX12_call_ 114 = .ok (.putfield 748, 3) := by decide +kernel
theorem dX12_call__117 : decode cX12_call_ 117 = .ok (.aload_n 0, 1) := by decide +kernel
theorem dX12_call__118 : decode cX12_call_ 118 = .ok (.iconst 0, 1) := by decide +kernel
theorem dX12_call__119 : decode cX12_call_ 119 = .ok (.putfield 599, 3) := by decide +kernel
theorem dX12_call__122 : decode cX12_call_ 122 = .ok (.aload_n 0, 1) := by decide +kernel
theorem dX12_call__123 : decode cX12_call_ 123 = .ok (.iconst 0, 1) := by decide +kernel
theorem dX12_call__124 : decode cX12_call_ 124 = .ok (.putfield 648, 3) := by decide +kernel
theorem dX12_call__127 : decode cX12_call_ 127 = .ok (.aload_n 0, 1) := by decide +kernel
theorem dX12_call__128 : decode cX12_call_ 128 = .ok (.iconst (-1), 1) := by decide +kernel
theorem dX12_call__129 : decode cX12_call_ 129 = .ok (.putfield 663, 3) := by decide +kernel
theorem dX12_call__132 : decode cX12_call_ 132 = .ok (.aload_n 0, 1) := by decide +kernel
theorem dX12_call__133 : decode cX12_call_ 133 = .ok (.iconst 0, 1) := by decide +kernel
theorem dX12_call__134 : decode cX12_call_ 134 = .ok (.putfield 657, 3) := by decide +kernel
theorem dX12_call__137 : decode cX12_call_ 137 = .ok (.aload_n 0, 1) := by decide +kernel
theorem dX12_call__138 : decode cX12_call_ 138 = .ok (.lconst 0, 1) := by decide +kernel
theorem dX12_call__139 : decode cX12_call_ 139 = .ok (.putfield 660, 3) := by decide +kernel
theorem dX12_call__142 : decode cX12_call_ 142 = .ok (.aload_n 0, 1) := by decide +kernel
theorem dX12_call__143 : decode cX12_call_ 143 = .ok (.getfield 538, 3) := by decide +kernel
theorem dX12_call__146 : decode cX12_call_ 146 = .ok (.lstore 5, 2) := by decide +kernel
theorem dX12_call__148 : decode cX12_call_ 148 = .ok (.aload_n 0, 1) := by decide +kernel
theorem dX12_call__149 : decode cX12_call_ 149 = .ok (.iload_n 1, 1) := by decide +kernel
theorem dX12_call__150 : decode cX12_call_ 150 = .ok (.iload_n 2, 1) := by decide +kernel
theorem dX12_call__151 : decode cX12_call_ 151 = .ok (.invokevirtual 760, 3) := by decide +kernel
theorem dX12_call__154 : decode cX12_call_ 154 = .ok (.aload_n 0, 1) := by decide +kernel
theorem dX12_call__155 : decode cX12_call_ 155 = .ok (.getfield 36, 3) := by decide +kernel
theorem dX12_call__158 : decode cX12_call_ 158 = .ok (.bipush 40, 2) := by decide +kernel
theorem dX12_call__160 : decode cX12_call_ 160 = .ok (.iload_n 1, 1) := by decide +kernel
theorem dX12_call__161 : decode cX12_call_ 161 = .ok (.imul, 1) := by decide +kernel
theorem dX12_call__162 : decode cX12_call_ 162 = .ok (.iload_n 2, 1) := by decide +kernel
theorem dX12_call__163 : decode cX12_call_ 163 = .ok (.iadd, 1) := by decide +kernel
theorem dX12_call__164 : decode cX12_call_ 164 = .ok (.iaload, 1) := by decide +kernel
theorem dX12_call__165 : decode cX12_call_ 165 = .ok (.ifCond .le 11, 3) := by decide +kernel
theorem dX12_call__168 : decode cX12_call_ 168 = .ok (.aload_n 0, 1) := by decide +kernel
theorem dX12_call__169 : decode cX12_call_ 169 = .ok (.iconst 0, 1) := by decide +kernel
theorem dX12_call__170 : decode cX12_call_ 170 = .ok (.iconst 1, 1) := by decide +kernel
theorem dX12_call__171 : decode cX12_call_ 171 = .ok (.lload 5, 2) := by decide +kernel
theorem dX12_call__173 : decode cX12_call_ 173 = .ok (.invokevirtual 654, 3) := by decide +kernel
theorem dX12_call__176 : decode cX12_call_ 176 = .ok (.aload_n 0, 1) := by decide +kernel
theorem dX12_call__177 : decode cX12_call_ 177 = .ok (.invokevirtual 789, 3) := by decide +kernel
theorem dX12_call__180 : decode cX12_call_ 180 = .ok (.aload_n 0, 1) := by decide +kernel
theorem dX12_call__181 : decode cX12_call_ 181 = .ok (.getfield 590, 3) := by decide +kernel
theorem dX12_call__184 : decode cX12_call_ 184 = .ok (.ireturn, 1) := by decide +kernel
/-! runs -/
def RKm (μ : M3) : Int := if μ.1 111 94 = 1 then 0 else RK μ + 1
def RN0 (μ : M3) (K : Int) : Prop := MZ μ ∧ (μ.1 111 94 = 1 ∨ (μ.1 111 94 = 0 ∧ 1 ≤ μ.1 111 47 ∧ A0 μ)) ∧ (0 ≤ μ.1 111 85 ∧ μ.1 111 85 + RKm μ ≤ K)
theorem RK_0 {μ : M3} (h : MZ μ) (h1 : 1 ≤ μ.1 111 47) (hA : A0 μ) : 11 ≤ RK μ := by
  have q := hA.1.pc
  have z := h.n
  have c := (cB_r (μ := μ) (b := μ.1 111 61) (by omega)).1
  have c1 : 0 ≤ fC μ (μ.1 111 47 - 1) (μ.1 129 (μ.1 111 47 - 1)) := mc_r.1
  unfold RK RX RKa bj
  split <;> omega
theorem RES.rn {μ : M3} {r K : Int} (h : RES μ r) (h0 : 0 ≤ r) (hm : 0 ≤ μ.1 111 85 ∧ μ.1 111 85 + r + 1 ≤ K) : RN0 μ K ∧ 0 ≤ RKm μ ∧ RKm μ ≤ r + 1 := by
  obtain ⟨hM, z⟩ := h
  rcases z with z | ⟨z1, z2, z3, z4⟩
  · have e : RKm μ = 0 := if_pos z
    refine ⟨⟨hM, Or.inl z, hm.1, by omega⟩, by omega, by omega⟩
  · have e : RKm μ = RK μ + 1 := if_neg (by omega)
    have q := RK_0 hM z2 z3
    refine ⟨⟨hM, Or.inr ⟨z1, z2, z3⟩, hm.1, by omega⟩, by omega, by omega⟩
/-- an instruction is taken up -/
theorem MI.of {μ : M3} {n i : Int} (h : MZ μ) (h94 : μ.1 111 94 = 0) (h1 : 1 ≤ μ.1 111 47) (hA : A0 μ) (hn : n = μ.1 111 47) (hi : i = μ.1 129 (n - 1)) : MI (sv μ 129 (n - 1) (i + 1)) n i (9000 * μ.1 127 (n - 1) + i) ∧ RK0 (sv μ 129 (n - 1) (i + 1)) n i = RK μ := by
  have e1 : ∀ a, a ≠ 129 → ∀ j, (sv μ 129 (n - 1) (i + 1)).1 a j = μ.1 a j := fun a ha j => sv_a μ (n - 1) j (i + 1) ha
  have A : Eqa [114, 115, 116, 117, 119, 120, 121, 122, 127, 128, 131, 132, 137] μ (sv μ 129 (n - 1) (i + 1)) := Eqa.put (by decide)
  have hA1 : TP μ (n - 1) i (μ.1 111 53) (μ.1 111 61) := by
    have q := hA.1
    rw [← hn, ← hi] at q; exact q
  have hA2 : μ.1 111 81 + μ.1 111 61 + fC μ (n - 1) i ≤ 2 * μ.1 111 83 := by
    have q := hA.2
    rw [← hn, ← hi] at q; exact q
  refine ⟨⟨h.pc (by rw [hn]), ⟨by omega, by rw [e1 111 (by decide)]; exact hn⟩, by rw [e1 127 (by decide)], ?_, ?_, sv_s _ _ _ _, by rw [e1 111 (by decide)]; exact h94⟩, ?_⟩
  · rw [e1 111 (by decide), e1 111 (by decide)]
    exact hA1.mv2 A (e1 111 (by decide) 4) rfl rfl
  · rw [e1 111 (by decide), e1 111 (by decide), e1 111 (by decide), fC.mv A (e1 111 (by decide) 4)]; exact hA2
  · unfold RK0 RK
    rw [RKa.mv (A.cs (by decide) (e1 111 (by decide) 4)) (e1 127 (by decide) _) (e1 128 (by decide) _), RX.eq (μ := μ) (A.sb (by decide)) (fun k _ => e1 111 (by decide) k), e1 111 (by decide), ← hn, ← hi]
    omega
/-- before the first call nothing is said of the failure told -/
def BASEi (μ : M3) : Prop := NMs μ ∧ mPR μ ∧ HA μ ∧ HF μ ∧ EN μ ∧ (vv μ (μ.1 111 95) (μ.1 111 96) ∧ (μ.1 111 92 = 0 ∨ (-1 ≤ μ.1 111 97 ∧ μ.1 111 97 < μ.1 111 82))) ∧ (0 ≤ μ.1 111 84 ∧ μ.1 111 84 ≤ 80000)
theorem BASE.i {μ : M3} (h : BASE μ) : BASEi μ := ⟨h.1, h.2.1, h.2.2.1, h.2.2.2.1, h.2.2.2.2.1, ⟨h.2.2.2.2.2.1.1, Or.inr h.2.2.2.2.2.1.2⟩, h.2.2.2.2.2.2⟩
theorem BASEi.gn {μ ν : M3} (h : BASEi μ) (l : NMs ν) (l2 : mPR ν) (A : Eqa [144, 145, 146, 147, 148, 149, 150, 151, 152, 156, 157, 158, 159] μ ν) (F : Eqf [65, 68, 69, 81, 82, 83, 84, 92, 95, 96, 97] μ ν) (h4 : μ.1 111 4 ≤ ν.1 111 4) (e : EN ν) : BASEi ν := by
  obtain ⟨h1, h2, h3, h4_, h5, h6, h7⟩ := h
  have u : up2 μ ν := up2.eq (F 65 (by decide)) (F 82 (by decide))
  refine ⟨l, l2, ⟨?_, ?_, ?_⟩, ⟨?_, ?_, ?_, ?_⟩, e, ?_, ?_⟩
  · rw [F 65 (by decide), F 68 (by decide), F 69 (by decide)]; exact h3.1
  · intro x x0 x1
    rw [F 65 (by decide)] at x1
    rw [A 144 (by decide), A 145 (by decide), A 146 (by decide), F 68 (by decide)]
    exact h3.2.1 x x0 x1
  · exact h3.2.2.mv u (by rw [F 68 (by decide)]; exact Int.le_refl _) (fun j _ _ => A 147 (by decide) j) (fun j _ _ => A 148 (by decide) j)
  · rw [F 82 (by decide), F 83 (by decide), F 81 (by decide)]; exact h4_.1
  · intro g g0 g1
    rw [F 82 (by decide)] at g1
    obtain ⟨z1, z2, z3, z4⟩ := h4_.2.1 g g0 g1
    rw [A 149 (by decide), A 150 (by decide), A 156 (by decide), A 157 (by decide), F 81 (by decide)]
    exact ⟨z1, fun q => by have := z2 q; omega, z3, z4⟩
  · exact h4_.2.2.1.mv u (by rw [F 82 (by decide)]; exact Int.le_refl _) (fun j _ _ => A 151 (by decide) j) (fun j _ _ => A 152 (by decide) j)
  · intro j j0 j1
    rw [F 81 (by decide)] at j1
    rw [A 158 (by decide), A 159 (by decide), F 82 (by decide)]
    exact h4_.2.2.2 j j0 j1
  · refine ⟨?_, ?_⟩
    · rw [F 95 (by decide), F 96 (by decide)]; exact VV.u h6.1 u
    · rw [F 92 (by decide), F 97 (by decide), F 82 (by decide)]; exact h6.2
  · rw [F 84 (by decide)]; exact h7
theorem EN.up {μ ν : M3} (h : EN μ) (A : Eqa [163, 165, 166] μ ν) (e : ν.1 111 104 = μ.1 111 104) (h4 : μ.1 111 4 ≤ ν.1 111 4) : EN ν := by
  obtain ⟨h1, h2, h3⟩ := h
  unfold EN
  rw [e]
  refine ⟨h1, fun k t u k0 k1 q u0 u1 u2 => ?_, fun t u t0 t1 u0 u1 u2 => ?_⟩
  · rw [A 163 (by decide)] at q
    rw [A 165 (by decide)]
    have := h2 k t u k0 k1 q u0 u1 u2
    omega
  · rw [A 166 (by decide)]
    have := h3 t u t0 t1 u0 u1 u2
    omega
theorem BASEi.mv {μ ν : M3} (h : BASEi μ) (A : Eqa [114, 115, 116, 117, 119, 120, 121, 122, 144, 145, 146, 147, 148, 149, 150, 151, 152, 156, 157, 158, 159, 163, 165, 166] μ ν) (F : Eqf [4, 65, 68, 69, 81, 82, 83, 84, 92, 95, 96, 97, 104] μ ν) : BASEi ν := by
  have c : Cs μ ν := A.cs (by decide) (F 4 (by decide))
  exact h.gn (h.1.cs c) (h.2.1.cs c) (A.sb (by decide)) (fun k hk => F k (by revert k; decide)) (Int.le_of_eq (F 4 (by decide)).symm) (h.2.2.2.2.1.up (A.sb (by decide)) (F 104 (by decide)) (Int.le_of_eq (F 4 (by decide)).symm))
/-- a run begins -/
theorem MZ.new {μ ν : M3} (h : BASEi μ) (A : Eqa [114, 115, 116, 117, 119, 120, 121, 122, 144, 145, 146, 147, 148, 149, 150, 151, 152, 156, 157, 158, 159, 163, 165, 166] μ ν) (F : Eqf [4, 84, 104] μ ν) (z : ∀ k, k ∈ ([47, 53, 61, 65, 68, 69, 81, 82, 83, 95, 96] : List Int) → ν.1 111 k = 0) (e97 : ν.1 111 97 = -1) : MZ ν := by
  have c : Cs μ ν := A.cs (by decide) (F 4 (by decide))
  obtain ⟨d1, d2, d3, d4, d5, d6, d7⟩ := h
  unfold MZ
  rw [z 47 (by decide), z 53 (by decide), z 61 (by decide)]
  refine ⟨⟨d1.cs c, d2.cs c, ⟨?_, ?_, ?_⟩, ⟨?_, ?_, ?_, ?_⟩, ?_, ⟨?_, ?_⟩, ?_⟩, by decide, fun i i0 i1 => absurd i1 (by omega), ⟨Int.le_of_eq (if_pos rfl), by decide⟩, ?_, fun i v i0 i1 => absurd i1 (by omega), fun k k0 k1 => absurd k1 (by omega), ⟨Int.le_of_eq (if_pos rfl), by decide⟩, fun j j0 j1 => absurd j1 (by omega)⟩
  · rw [z 65 (by decide), z 68 (by decide), z 69 (by decide)]; decide
  · intro a a0 a1
    rw [z 65 (by decide)] at a1; omega
  · intro j j0 j1
    rw [z 68 (by decide)] at j1; omega
  · rw [z 82 (by decide), z 83 (by decide), z 81 (by decide)]; decide
  · intro g g0 g1
    rw [z 82 (by decide)] at g1; omega
  · intro j j0 j1
    rw [z 82 (by decide)] at j1; omega
  · intro j j0 j1
    rw [z 81 (by decide)] at j1; omega
  · unfold EN
    rw [F 104 (by decide), F 4 (by decide)]
    refine ⟨d5.1, fun k t u k0 k1 e => ?_, fun t u => ?_⟩
    · rw [A 163 (by decide)] at e
      rw [A 165 (by decide)]
      exact d5.2.1 k t u k0 k1 e
    · rw [A 166 (by decide)]
      exact d5.2.2 t u
  · rw [z 95 (by decide), z 96 (by decide)]; exact VV.n0
  · rw [e97, z 82 (by decide)]; decide
  · rw [F 84 (by decide)]; exact d7
  · rw [z 81 (by decide), z 83 (by decide)]; decide
/-- between two calls -/
def CIr (μ : M3) : Prop := mLI μ ∧ BASEi μ
set_option maxHeartbeats 4000000 in
set_option maxRecDepth 100000 in
theorem c_X12_runs (ω : Om) (l : Launch) (μ : M3) (r0 : Int) (hRs : RES μ r0) (hr0 : 0 ≤ r0 ∧ r0 ≤ 1100000000) (hmk : μ.1 111 85 = 0) : CtV ω l yX12_runs cX12_runs 3 189 5116 [.ref (oP ω 111)] μ (fun (μ' : M3) => (FrM [111, 127, 128, 129, 130, 131, 132, 133, 134, 135, 136, 137, 138, 139, 140, 141, 142, 143, 144, 145, 146, 147, 148, 149, 150, 151, 152, 153, 154, 155, 156, 157, 158, 159, 160, 161] μ μ') ∧ (∀ j, j ∉ ([47, 48, 53, 61, 65, 68, 69, 81, 82, 83, 84, 85, 88, 89, 90, 91, 93, 94, 95, 96, 97, 98, 99] : List Int) → μ'.1 111 j = μ.1 111 j) ∧ (MZ μ')) := by
  refine CtV.go (by decide) (Nat.le_of_ble_eq_true rfl) (fun ρ p e s m below meth c R ls G hR hret hlk hl => ?_)
  have hx := G.1.1
  have hb := G.1.2.1
  have hl : lv_has ls 3 [(0, .ref (oP ω 111))] := hl
  generalize s.drawn = d0 at G ⊢
  refine xl (fun n_9 μ' ls => (FrM [111, 127, 128, 129, 130, 131, 132, 133, 134, 135, 136, 137, 138, 139, 140, 141, 142, 143, 144, 145, 146, 147, 148, 149, 150, 151, 152, 153, 154, 155, 156, 157, 158, 159, 160, 161] μ μ') ∧ (∀ j, j ∉ ([47, 48, 53, 61, 65, 68, 69, 81, 82, 83, 84, 85, 88, 89, 90, 91, 93, 94, 95, 96, 97, 98, 99] : List Int) → μ'.1 111 j = μ.1 111 j) ∧ (RN0 μ' 1190000000) ∧ n_9 = Int.toNat (RKm μ') ∧ lv_has ls 3 [(0, .ref (oP ω 111))]) (fun n_9 ρ μL1 d0 H locs ls hI_l G ih => ?_) _ _ _ _ _ _ _ ⟨FrM.rf, (fun j hj => rfl), (hRs.rn (by omega) (by omega)).1, rfl, lv_sub hl [0] rfl⟩ G
  obtain ⟨FL2, hi_4, hi_5, hn3, hl⟩ := hI_l
  refine lv_aload_n hx hb dX12_runs_0 rfl (lv_at hl 0 rfl) ?_
  refine xa_geti G fd_X12 (a := 111) (x := μL1.1 111 94) 94 rfl (by decide) rfl (wm 8 3 rfl rfl) ⟨rfl, rfl, rfl⟩ dX12_runs_1 rfl rfl ?_
  have hr_6 : -2147483648 ≤ μL1.1 111 94 ∧ μL1.1 111 94 ≤ 2147483647 := by have h9 := G.hr (a := 111) (k := 94) rfl; exact h9
  refine xb_if_ne (tgt := 71) hx hb (by unfold ir; omega) dX12_runs_4 (by decide) (fun c_4 => ?_) (fun c_4 => ?_)
  · exact xr_v G hret hlk dX12_runs_71 ⟨(FrM.tr FrM.rf FL2 (by decide)), (fun j hj => (hi_4 j (fun h9 => hj ((by decide : ∀ x ∈ ([47, 48, 53, 61, 65, 68, 69, 81, 82, 83, 84, 85, 88, 89, 90, 91, 93, 94, 95, 96, 97, 98, 99] : List Int), x ∈ ([47, 48, 53, 61, 65, 68, 69, 81, 82, 83, 84, 85, 88, 89, 90, 91, 93, 94, 95, 96, 97, 98, 99] : List Int)) j h9)))), hi_5.1⟩
  · have hz94_ := hi_5.2.1.resolve_left (by omega)
    have hmz_ := hi_5.1
    have hnz_ := hmz_.n
    have hfr_ := (hmz_.2.2.1 (μL1.1 111 47 - 1) (by omega) (by omega)).1.1
    obtain ⟨hmi_, hrk0_⟩ := MI.of (n := μL1.1 111 47) (i := μL1.1 129 (μL1.1 111 47 - 1)) hmz_ hz94_.1 hz94_.2.1 hz94_.2.2 rfl rfl
    have hik_ := hmi_.k0.2
    have hrkm_ : RKm μL1 = RK μL1 + 1 := if_neg (by omega)
    have hrk9_ := RK_0 hmz_ hz94_.2.1 hz94_.2.2
    have hrm9_ := hi_5.2.2
    have hlow_ := hmi_.low.2.2.2.2.2.2.2
    refine lv_aload_n hx hb dX12_runs_7 rfl (lv_at hl 0 rfl) ?_
    refine xa_geti G fd_X12 (a := 111) (x := μL1.1 111 47) 47 rfl (by decide) rfl (wm 7 196 rfl rfl) ⟨rfl, rfl, rfl⟩ dX12_runs_8 rfl rfl ?_
    have hr_7 : -2147483648 ≤ μL1.1 111 47 ∧ μL1.1 111 47 ≤ 2147483647 := by have h9 := G.hr (a := 111) (k := 47) rfl; exact h9
    refine lv_iconst (v := iv 1) hx hb dX12_runs_11 rfl ?_
    refine xb_isub hx hb dX12_runs_12 ?_
    refine lv_istore_n (lv' := [(1, .int (iv ((μL1.1 111 47) - 1))), (0, .ref (oP ω 111))]) hx hb dX12_runs_13 rfl hl (by decide) rfl (fun ls hl => ?_)
    refine lv_sipush (v := iv 9000) hx hb dX12_runs_14 rfl ?_
    refine lv_aload_n hx hb dX12_runs_17 rfl (lv_at hl 1 rfl) ?_
    refine xa_getr G fd_X12 (a := 111) (x := 127) 41 rfl (by decide) rfl (wm 7 190 rfl rfl) ⟨rfl, rfl, rfl⟩ dX12_runs_18 rfl (G.sk 125 rfl) (by decide) rfl ?_
    refine lv_iload_n hx hb dX12_runs_21 rfl (lv_at hl 0 rfl) ?_
    refine xa_iald G (a := 127) (i := (μL1.1 111 47) - 1) rfl (by have h9 := G.lc (a := 127) (n := 26) 65 rfl; omega) dX12_runs_22 rfl ?_
    refine xb_ti (y := μL1.1 127 (μL1.1 111 47 - 1)) rfl ?_
    have hr_8 : -2147483648 ≤ μL1.1 127 (μL1.1 111 47 - 1) ∧ μL1.1 127 (μL1.1 111 47 - 1) ≤ 2147483647 := by have h9 := G.hr (a := 127) (k := (μL1.1 111 47) - 1) rfl; exact h9
    refine xb_imul hx hb dX12_runs_23 ?_
    refine lv_aload_n hx hb dX12_runs_24 rfl (lv_at hl 1 rfl) ?_
    refine xa_getr G fd_X12 (a := 111) (x := 129) 43 rfl (by decide) rfl (wm 7 192 rfl rfl) ⟨rfl, rfl, rfl⟩ dX12_runs_25 rfl (G.sk 127 rfl) (by decide) rfl ?_
    refine lv_iload_n hx hb dX12_runs_28 rfl (lv_at hl 0 rfl) ?_
    refine xa_iald G (a := 129) (i := (μL1.1 111 47) - 1) rfl (by have h9 := G.lc (a := 129) (n := 26) 67 rfl; omega) dX12_runs_29 rfl ?_
    refine xb_ti (y := μL1.1 129 (μL1.1 111 47 - 1)) rfl ?_
    have hr_9 : -2147483648 ≤ μL1.1 129 (μL1.1 111 47 - 1) ∧ μL1.1 129 (μL1.1 111 47 - 1) ≤ 2147483647 := by have h9 := G.hr (a := 129) (k := (μL1.1 111 47) - 1) rfl; exact h9
    refine xb_iadd hx hb dX12_runs_30 ?_
    refine lv_istore_n (lv' := [(2, .int (iv ((9000 * (μL1.1 127 (μL1.1 111 47 - 1))) + (μL1.1 129 (μL1.1 111 47 - 1))))), (1, .int (iv ((μL1.1 111 47) - 1))), (0, .ref (oP ω 111))]) hx hb dX12_runs_31 rfl hl (by decide) rfl (fun ls hl => ?_)
    refine lv_aload_n hx hb dX12_runs_32 rfl (lv_at hl 2 rfl) ?_
    refine xa_getr G fd_X12 (a := 111) (x := 129) 43 rfl (by decide) rfl (wm 7 192 rfl rfl) ⟨rfl, rfl, rfl⟩ dX12_runs_33 rfl (G.sk 127 rfl) (by decide) rfl ?_
    refine lv_iload_n hx hb dX12_runs_36 rfl (lv_at hl 1 rfl) ?_
    refine lv_dup2_11 hx hb dX12_runs_37 rfl rfl ?_
    refine xa_iald G (a := 129) (i := (μL1.1 111 47) - 1) rfl (by have h9 := G.lc (a := 129) (n := 26) 67 rfl; omega) dX12_runs_38 rfl ?_
    refine xb_ti (y := μL1.1 129 (μL1.1 111 47 - 1)) rfl ?_
    refine lv_iconst (v := iv 1) hx hb dX12_runs_39 rfl ?_
    refine xb_iadd hx hb dX12_runs_40 ?_
    refine xa_iast G (a := 129) (i := (μL1.1 111 47) - 1) (x := (μL1.1 129 (μL1.1 111 47 - 1)) + 1) rfl (by have h9 := G.lc (a := 129) (n := 26) 67 rfl; omega) (by unfold ir; omega) dX12_runs_41 rfl (fun H locs G => ?_)
    refine lv_aload_n hx hb dX12_runs_42 rfl (lv_at hl 2 rfl) ?_
    refine xa_getr G fd_X12 (a := 111) (x := 115) 19 rfl (by decide) rfl (wm 7 168 rfl rfl) ⟨rfl, rfl, rfl⟩ dX12_runs_43 rfl (G.sk 113 rfl) (by decide) rfl ?_
    refine lv_iload_n hx hb dX12_runs_46 rfl (lv_at hl 0 rfl) ?_
    refine xa_iald G (a := 115) (i := (9000 * (μL1.1 127 (μL1.1 111 47 - 1))) + (μL1.1 129 (μL1.1 111 47 - 1))) rfl (by have h9 := G.lc (a := 115) (n := 45000) 53 rfl; omega) dX12_runs_47 rfl ?_
    refine xb_ti (y := μ.1 115 ((9000 * (μL1.1 127 (μL1.1 111 47 - 1))) + (μL1.1 129 (μL1.1 111 47 - 1)))) ((sv_n _ (fun h9 => absurd h9.1 (by decide))).trans (FL2.1 115 (by decide) ((9000 * (μL1.1 127 (μL1.1 111 47 - 1))) + (μL1.1 129 (μL1.1 111 47 - 1))))) ?_
    have hr_10 : -2147483648 ≤ μ.1 115 ((9000 * (μL1.1 127 (μL1.1 111 47 - 1))) + (μL1.1 129 (μL1.1 111 47 - 1))) ∧ μ.1 115 ((9000 * (μL1.1 127 (μL1.1 111 47 - 1))) + (μL1.1 129 (μL1.1 111 47 - 1))) ≤ 2147483647 := by have h9 := G.hr (a := 115) (k := (9000 * (μL1.1 127 (μL1.1 111 47 - 1))) + (μL1.1 129 (μL1.1 111 47 - 1))) rfl; rw [((sv_n _ (fun h9 => absurd h9.1 (by decide))).trans (FL2.1 115 (by decide) ((9000 * (μL1.1 127 (μL1.1 111 47 - 1))) + (μL1.1 129 (μL1.1 111 47 - 1)))))] at h9; exact h9
    refine lv_bipush (v := iv 21) hx hb dX12_runs_48 rfl ?_
    refine xb_icmp_gt (tgt := 62) hx hb (by unfold ir; omega) (by unfold ir; omega) dX12_runs_50 (by decide) (fun c_50 => ?_) (fun c_50 => ?_)
    · refine lv_aload_n hx hb dX12_runs_62 rfl (lv_at hl 2 rfl) ?_
      refine lv_iload_n hx hb dX12_runs_63 rfl (lv_at hl 1 rfl) ?_
      refine lv_iload_n hx hb dX12_runs_64 rfl (lv_at hl 0 rfl) ?_
      have e_11 : (sv μL1 129 ((μL1.1 111 47) - 1) ((μL1.1 129 (μL1.1 111 47 - 1)) + 1)).1 111 85 = μL1.1 111 85 := (sv_n _ (fun h9 => absurd h9.1 (by decide)))
      have e_12 : (sv μL1 129 ((μL1.1 111 47) - 1) ((μL1.1 129 (μL1.1 111 47 - 1)) + 1)).1 111 94 = μL1.1 111 94 := (sv_n _ (fun h9 => absurd h9.1 (by decide)))
      have e_13 : (sv μL1 129 ((μL1.1 111 47) - 1) ((μL1.1 129 (μL1.1 111 47 - 1)) + 1)).1 111 47 = μL1.1 111 47 := (sv_n _ (fun h9 => absurd h9.1 (by decide)))
      have hx2_ : (9000 * (μL1.1 127 (μL1.1 111 47 - 1))) + (μL1.1 129 (μL1.1 111 47 - 1)) = 9000 * μL1.1 127 (μL1.1 111 47 - 1) + μL1.1 129 (μL1.1 111 47 - 1) := by omega
      have e_14 : (sv μL1 129 ((μL1.1 111 47) - 1) ((μL1.1 129 (μL1.1 111 47 - 1)) + 1)).1 111 94 = μL1.1 111 94 := (sv_n _ (fun h9 => absurd h9.1 (by decide)))
      have e_15 : (sv μL1 129 ((μL1.1 111 47) - 1) ((μL1.1 129 (μL1.1 111 47 - 1)) + 1)).1 111 47 = μL1.1 111 47 := (sv_n _ (fun h9 => absurd h9.1 (by decide)))
      have hMZ_16 : MZ (sv μL1 129 ((μL1.1 111 47) - 1) ((μL1.1 129 (μL1.1 111 47 - 1)) + 1)) := MZ.pc hmz_ (by have h9 : μL1.1 111 47 = μL1.1 111 47 := rfl; omega)
      have e_17 : (sv μL1 129 ((μL1.1 111 47) - 1) ((μL1.1 129 (μL1.1 111 47 - 1)) + 1)).1 111 94 = μL1.1 111 94 := (sv_n _ (fun h9 => absurd h9.1 (by decide)))
      refine xc_vV G (b := 111) (rest := []) (As := [.int (iv ((μL1.1 111 47) - 1)), .int (iv ((9000 * (μL1.1 127 (μL1.1 111 47 - 1))) + (μL1.1 129 (μL1.1 111 47 - 1))))]) (c_X12_works ω l (sv μL1 129 ((μL1.1 111 47) - 1) ((μL1.1 129 (μL1.1 111 47 - 1)) + 1)) ((9000 * (μL1.1 127 (μL1.1 111 47 - 1))) + (μL1.1 129 (μL1.1 111 47 - 1))) (μL1.1 129 (μL1.1 111 47 - 1)) (μL1.1 111 47) (by unfold ir; omega) (by omega) hMZ_16 (by omega) (by omega) (by rw [hx2_]; exact hmi_) (by have h9 := hlow_; rw [(show (sv μL1 129 ((μL1.1 111 47) - 1) ((μL1.1 129 (μL1.1 111 47 - 1)) + 1)).1 115 ((9000 * (μL1.1 127 (μL1.1 111 47 - 1))) + (μL1.1 129 (μL1.1 111 47 - 1))) = μ.1 115 ((9000 * (μL1.1 127 (μL1.1 111 47 - 1))) + (μL1.1 129 (μL1.1 111 47 - 1))) from ((sv_n _ (fun h9 => absurd h9.1 (by decide))).trans (FL2.1 115 (by decide) ((9000 * (μL1.1 127 (μL1.1 111 47 - 1))) + (μL1.1 129 (μL1.1 111 47 - 1))))))] at h9 ⊢; omega)) (wm 10 239 rfl rfl) (wm 11 1 rfl rfl) (wm 0 223 rfl rfl) rfl rfl (by decide) rfl (wm 1 18 rfl rfl) (wm 11 2 rfl rfl) (by decide) hR (by decide) (n := 2) rfl rfl (Nat.le_of_ble_eq_true rfl) hl.1 dX12_runs_65 (fun μ18 ρ d0 H locs hp G => ?_)
      obtain ⟨F_19, hp_20, hp_21⟩ := hp
      have e_22 : μ18.1 111 85 = μL1.1 111 85 := ((hp_20 85 (by decide)).trans (sv_n _ (fun h9 => absurd h9.1 (by decide))))
      rw [hrk0_] at hp_21
      have hrn_ := hp_21.rn (K := 1190000000) (by omega) (by omega)
      refine lv_goto (tgt := 0) hx hb dX12_runs_68 (by decide) ?_
      exact ih _ _ _ _ _ _ _ (by omega) ⟨(FrM.tr (FrM.put FL2 (by decide)) F_19 (by decide)), (fun j hj => ((hp_20 j (fun h9 => hj ((by decide : ∀ x ∈ ([47, 48, 53, 61, 65, 68, 69, 81, 82, 83, 84, 89, 90, 91, 93, 94, 95, 96, 97, 98, 99] : List Int), x ∈ ([47, 48, 53, 61, 65, 68, 69, 81, 82, 83, 84, 85, 88, 89, 90, 91, 93, 94, 95, 96, 97, 98, 99] : List Int)) j h9))).trans ((sv_n _ (fun h9 => absurd h9.1 (by decide))).trans (hi_4 j (fun h9 => hj ((by decide : ∀ x ∈ ([47, 48, 53, 61, 65, 68, 69, 81, 82, 83, 84, 85, 88, 89, 90, 91, 93, 94, 95, 96, 97, 98, 99] : List Int), x ∈ ([47, 48, 53, 61, 65, 68, 69, 81, 82, 83, 84, 85, 88, 89, 90, 91, 93, 94, 95, 96, 97, 98, 99] : List Int)) j h9)))))), hrn_.1, rfl, lv_sub hl [2] rfl⟩ G
    · refine lv_aload_n hx hb dX12_runs_53 rfl (lv_at hl 2 rfl) ?_
      refine lv_iload_n hx hb dX12_runs_54 rfl (lv_at hl 1 rfl) ?_
      refine lv_iload_n hx hb dX12_runs_55 rfl (lv_at hl 0 rfl) ?_
      have e_23 : (sv μL1 129 ((μL1.1 111 47) - 1) ((μL1.1 129 (μL1.1 111 47 - 1)) + 1)).1 111 85 = μL1.1 111 85 := (sv_n _ (fun h9 => absurd h9.1 (by decide)))
      have e_24 : (sv μL1 129 ((μL1.1 111 47) - 1) ((μL1.1 129 (μL1.1 111 47 - 1)) + 1)).1 111 94 = μL1.1 111 94 := (sv_n _ (fun h9 => absurd h9.1 (by decide)))
      have e_25 : (sv μL1 129 ((μL1.1 111 47) - 1) ((μL1.1 129 (μL1.1 111 47 - 1)) + 1)).1 111 47 = μL1.1 111 47 := (sv_n _ (fun h9 => absurd h9.1 (by decide)))
      have hx2_ : (9000 * (μL1.1 127 (μL1.1 111 47 - 1))) + (μL1.1 129 (μL1.1 111 47 - 1)) = 9000 * μL1.1 127 (μL1.1 111 47 - 1) + μL1.1 129 (μL1.1 111 47 - 1) := by omega
      have e_26 : (sv μL1 129 ((μL1.1 111 47) - 1) ((μL1.1 129 (μL1.1 111 47 - 1)) + 1)).1 111 94 = μL1.1 111 94 := (sv_n _ (fun h9 => absurd h9.1 (by decide)))
      have e_27 : (sv μL1 129 ((μL1.1 111 47) - 1) ((μL1.1 129 (μL1.1 111 47 - 1)) + 1)).1 111 47 = μL1.1 111 47 := (sv_n _ (fun h9 => absurd h9.1 (by decide)))
      have hMZ_28 : MZ (sv μL1 129 ((μL1.1 111 47) - 1) ((μL1.1 129 (μL1.1 111 47 - 1)) + 1)) := MZ.pc hmz_ (by have h9 : μL1.1 111 47 = μL1.1 111 47 := rfl; omega)
      have e_29 : (sv μL1 129 ((μL1.1 111 47) - 1) ((μL1.1 129 (μL1.1 111 47 - 1)) + 1)).1 111 94 = μL1.1 111 94 := (sv_n _ (fun h9 => absurd h9.1 (by decide)))
      have e_30 : (sv μL1 129 ((μL1.1 111 47) - 1) ((μL1.1 129 (μL1.1 111 47 - 1)) + 1)).1 111 85 = μL1.1 111 85 := (sv_n _ (fun h9 => absurd h9.1 (by decide)))
      have e_31 : (sv μL1 129 ((μL1.1 111 47) - 1) ((μL1.1 129 (μL1.1 111 47 - 1)) + 1)).1 111 85 = μL1.1 111 85 := (sv_n _ (fun h9 => absurd h9.1 (by decide)))
      have e_32 : (sv μL1 129 ((μL1.1 111 47) - 1) ((μL1.1 129 (μL1.1 111 47 - 1)) + 1)).1 111 85 = μL1.1 111 85 := (sv_n _ (fun h9 => absurd h9.1 (by decide)))
      refine xc_vV G (b := 111) (rest := []) (As := [.int (iv ((μL1.1 111 47) - 1)), .int (iv ((9000 * (μL1.1 127 (μL1.1 111 47 - 1))) + (μL1.1 129 (μL1.1 111 47 - 1))))]) (c_X12_acts ω l (sv μL1 129 ((μL1.1 111 47) - 1) ((μL1.1 129 (μL1.1 111 47 - 1)) + 1)) ((9000 * (μL1.1 127 (μL1.1 111 47 - 1))) + (μL1.1 129 (μL1.1 111 47 - 1))) (μL1.1 129 (μL1.1 111 47 - 1)) (μL1.1 111 47) (by unfold ir; omega) (by omega) hMZ_28 (by omega) (by omega) (by rw [hx2_]; exact hmi_) (by have h9 := hlow_; rw [(show (sv μL1 129 ((μL1.1 111 47) - 1) ((μL1.1 129 (μL1.1 111 47 - 1)) + 1)).1 115 ((9000 * (μL1.1 127 (μL1.1 111 47 - 1))) + (μL1.1 129 (μL1.1 111 47 - 1))) = μ.1 115 ((9000 * (μL1.1 127 (μL1.1 111 47 - 1))) + (μL1.1 129 (μL1.1 111 47 - 1))) from ((sv_n _ (fun h9 => absurd h9.1 (by decide))).trans (FL2.1 115 (by decide) ((9000 * (μL1.1 127 (μL1.1 111 47 - 1))) + (μL1.1 129 (μL1.1 111 47 - 1))))))] at h9 ⊢; omega) (by omega)) (wm 10 118 rfl rfl) (wm 10 120 rfl rfl) (wm 0 193 rfl rfl) rfl rfl (by decide) rfl (wm 1 18 rfl rfl) (wm 10 121 rfl rfl) (by decide) hR (by decide) (n := 2) rfl rfl (Nat.le_of_ble_eq_true rfl) hl.1 dX12_runs_56 (fun μ33 ρ d0 H locs hp G => ?_)
      obtain ⟨F_34, hp_35, hp_36, hp_37⟩ := hp
      rw [hrk0_] at hp_36
      have hrn_ := hp_36.rn (K := 1190000000) (by omega) (by omega)
      refine lv_goto (tgt := 68) hx hb dX12_runs_59 (by decide) ?_
      refine lv_goto (tgt := 0) hx hb dX12_runs_68 (by decide) ?_
      exact ih _ _ _ _ _ _ _ (by omega) ⟨(FrM.tr (FrM.put FL2 (by decide)) F_34 (by decide)), (fun j hj => ((hp_35 j (fun h9 => hj ((by decide : ∀ x ∈ ([47, 53, 61, 81, 82, 83, 84, 90, 91, 93, 94, 95, 96, 97, 98, 99, 85, 88] : List Int), x ∈ ([47, 48, 53, 61, 65, 68, 69, 81, 82, 83, 84, 85, 88, 89, 90, 91, 93, 94, 95, 96, 97, 98, 99] : List Int)) j h9))).trans ((sv_n _ (fun h9 => absurd h9.1 (by decide))).trans (hi_4 j (fun h9 => hj ((by decide : ∀ x ∈ ([47, 48, 53, 61, 65, 68, 69, 81, 82, 83, 84, 85, 88, 89, 90, 91, 93, 94, 95, 96, 97, 98, 99] : List Int), x ∈ ([47, 48, 53, 61, 65, 68, 69, 81, 82, 83, 84, 85, 88, 89, 90, 91, 93, 94, 95, 96, 97, 98, 99] : List Int)) j h9)))))), hrn_.1, rfl, lv_sub hl [2] rfl⟩ G

set_option maxHeartbeats 4000000 in
set_option maxRecDepth 100000 in
theorem c_X12_call_ (ω : Om) (l : Launch) (μ : M3) (x1 : Int) (x2 : Int) (x3 : Int) (hx1 : ir x1) (hx2 : ir x2) (hx3 : jr x3) (hC : CIr μ) : CtI ω l yX12_call_ cX12_call_ 7 .int 190 5138 [.ref (oP ω 111), .int (iv x1), .int (iv x2), .long (jv x3)] μ (fun (r : Int) (μ' : M3) => (FrM [111, 127, 128, 129, 130, 131, 132, 133, 134, 135, 136, 137, 138, 139, 140, 141, 142, 143, 144, 145, 146, 147, 148, 149, 150, 151, 152, 153, 154, 155, 156, 157, 158, 159, 160, 161] μ μ') ∧ (∀ j, j ∉ ([0, 47, 48, 53, 61, 65, 68, 69, 81, 82, 83, 84, 85, 88, 89, 90, 91, 92, 93, 94, 95, 96, 97, 98, 99] : List Int) → μ'.1 111 j = μ.1 111 j) ∧ (CIr μ')) := by
  refine CtI.go (by decide) (Nat.le_of_ble_eq_true rfl) (fun ρ p e s m below meth c R ls G hR hret hlk hl => ?_)
  have hx := G.1.1
  have hb := G.1.2.1
  have hl : lv_has ls 7 [(0, .ref (oP ω 111)), (1, .int (iv x1)), (2, .int (iv x2)), (3, .long (jv x3))] := hl
  generalize s.drawn = d0 at G ⊢
  have hr_x1 : -2147483648 ≤ x1 ∧ x1 ≤ 2147483647 := hx1
  have hr_x2 : -2147483648 ≤ x2 ∧ x2 ≤ 2147483647 := hx2
  obtain ⟨hLI, hB⟩ := id hC
  have hst_ := hB.2.2.2.1.1
  have hst2_ := hB.2.2.2.2.2.2
  have hnm_ := hB.1.1
  have hen_ := hB.2.2.2.2.1.1
  refine lv_aload_n hx hb dX12_call__0 rfl (lv_at hl 0 rfl) ?_
  refine lv_iconst (v := iv 0) hx hb dX12_call__1 rfl ?_
  refine xa_puti G fd_X12 (a := 111) (x := 0) 0 (kz := 0) rfl rfl (by decide) rfl (by unfold ir; omega) (wm 7 149 rfl rfl) ⟨rfl, rfl, rfl, rfl⟩ rfl dX12_call__2 rfl (fun H locs G => ?_)
  refine lv_iload_n hx hb dX12_call__5 rfl (lv_at hl 1 rfl) ?_
  refine xb_if_lt (tgt := 28) hx hb (by unfold ir; omega) dX12_call__6 (by decide) (fun c_6 => ?_) (fun c_6 => ?_)
  · refine lv_iconst (v := iv 3) hx hb dX12_call__28 rfl ?_
    have hbs_ : BASEi (sv μ 111 0 0) := (hB.mv (Eqa.fr (L := [111]) (FrM.put FrM.rf (by decide)) (by decide)) (Eqf.fd (L := [0]) (fun j hj => (sv_n _ (fun h9 => hj (by rw [h9.2]; decide)))) (by decide)))
    exact xr_i G (x := 3) hret hlk (by unfold ir; omega) rfl dX12_call__29 ⟨(FrM.put FrM.rf (by decide)), (fun j hj => (sv_n _ (fun h9 => hj (by rw [h9.2]; decide)))), ⟨⟨hbs_.1.1, hbs_.1.2, by rw [(show (sv μ 111 0 0).1 111 31 = μ.1 111 31 from (sv_n _ (by decide)))]; exact hLI.2.2.1, by rw [(show (sv μ 111 0 0).1 111 11 = μ.1 111 11 from (sv_n _ (by decide)))]; exact hLI.2.2.2.1, by rw [(show (sv μ 111 0 0).1 111 2 = μ.1 111 2 from (sv_n _ (by decide)))]; exact hLI.2.2.2.2.1, hbs_.2.1⟩, hbs_⟩⟩
  · refine lv_iload_n hx hb dX12_call__9 rfl (lv_at hl 1 rfl) ?_
    refine lv_iconst (v := iv 3) hx hb dX12_call__10 rfl ?_
    refine xb_icmp_gt (tgt := 28) hx hb (by unfold ir; omega) (by unfold ir; omega) dX12_call__11 (by decide) (fun c_11 => ?_) (fun c_11 => ?_)
    · refine lv_iconst (v := iv 3) hx hb dX12_call__28 rfl ?_
      have hbs_ : BASEi (sv μ 111 0 0) := (hB.mv (Eqa.fr (L := [111]) (FrM.put FrM.rf (by decide)) (by decide)) (Eqf.fd (L := [0]) (fun j hj => (sv_n _ (fun h9 => hj (by rw [h9.2]; decide)))) (by decide)))
      exact xr_i G (x := 3) hret hlk (by unfold ir; omega) rfl dX12_call__29 ⟨(FrM.put FrM.rf (by decide)), (fun j hj => (sv_n _ (fun h9 => hj (by rw [h9.2]; decide)))), ⟨⟨hbs_.1.1, hbs_.1.2, by rw [(show (sv μ 111 0 0).1 111 31 = μ.1 111 31 from (sv_n _ (by decide)))]; exact hLI.2.2.1, by rw [(show (sv μ 111 0 0).1 111 11 = μ.1 111 11 from (sv_n _ (by decide)))]; exact hLI.2.2.2.1, by rw [(show (sv μ 111 0 0).1 111 2 = μ.1 111 2 from (sv_n _ (by decide)))]; exact hLI.2.2.2.2.1, hbs_.2.1⟩, hbs_⟩⟩
    · refine lv_iload_n hx hb dX12_call__14 rfl (lv_at hl 2 rfl) ?_
      refine xb_if_lt (tgt := 28) hx hb (by unfold ir; omega) dX12_call__15 (by decide) (fun c_15 => ?_) (fun c_15 => ?_)
      · refine lv_iconst (v := iv 3) hx hb dX12_call__28 rfl ?_
        have hbs_ : BASEi (sv μ 111 0 0) := (hB.mv (Eqa.fr (L := [111]) (FrM.put FrM.rf (by decide)) (by decide)) (Eqf.fd (L := [0]) (fun j hj => (sv_n _ (fun h9 => hj (by rw [h9.2]; decide)))) (by decide)))
        exact xr_i G (x := 3) hret hlk (by unfold ir; omega) rfl dX12_call__29 ⟨(FrM.put FrM.rf (by decide)), (fun j hj => (sv_n _ (fun h9 => hj (by rw [h9.2]; decide)))), ⟨⟨hbs_.1.1, hbs_.1.2, by rw [(show (sv μ 111 0 0).1 111 31 = μ.1 111 31 from (sv_n _ (by decide)))]; exact hLI.2.2.1, by rw [(show (sv μ 111 0 0).1 111 11 = μ.1 111 11 from (sv_n _ (by decide)))]; exact hLI.2.2.2.1, by rw [(show (sv μ 111 0 0).1 111 2 = μ.1 111 2 from (sv_n _ (by decide)))]; exact hLI.2.2.2.2.1, hbs_.2.1⟩, hbs_⟩⟩
      · have hfn_ := (hB.2.1 x1 (by omega) (by omega)).1
        refine lv_iload_n hx hb dX12_call__18 rfl (lv_at hl 2 rfl) ?_
        refine lv_aload_n hx hb dX12_call__19 rfl (lv_at hl 0 rfl) ?_
        refine xa_getr G fd_X12 (a := 111) (x := 122) 27 rfl (by decide) rfl (wm 7 176 rfl rfl) ⟨rfl, rfl, rfl⟩ dX12_call__20 rfl (G.sk 120 rfl) (by decide) rfl ?_
        refine lv_iload_n hx hb dX12_call__23 rfl (lv_at hl 1 rfl) ?_
        refine xa_iald G (a := 122) (i := x1) rfl (by have h9 := G.lc (a := 122) (n := 5) 60 rfl; omega) dX12_call__24 rfl ?_
        refine xb_ti (y := μ.1 122 x1) (sv_n _ (fun h9 => absurd h9.1 (by decide))) ?_
        have hr_1 : -2147483648 ≤ μ.1 122 x1 ∧ μ.1 122 x1 ≤ 2147483647 := by have h9 := G.hr (a := 122) (k := x1) rfl; rw [(sv_n _ (fun h9 => absurd h9.1 (by decide)))] at h9; exact h9
        refine xb_icmp_lt (tgt := 30) hx hb (by unfold ir; omega) (by unfold ir; omega) dX12_call__25 (by decide) (fun c_25 => ?_) (fun c_25 => ?_)
        · refine lv_aload_n hx hb dX12_call__30 rfl (lv_at hl 0 rfl) ?_
          refine lv_iconst (v := iv 0) hx hb dX12_call__31 rfl ?_
          refine lv_iload_n hx hb dX12_call__32 rfl (lv_at hl 1 rfl) ?_
          refine lv_iconst (v := iv 0) hx hb dX12_call__33 rfl ?_
          refine lv_lload_n hx hb dX12_call__34 rfl (lv_at hl 3 rfl) ?_
          refine xc_vV G (b := 111) (rest := []) (As := [.int (iv 0), .int (iv x1), .int (iv 0), .long (jv x3)]) (c_X12_turns ω l (sv μ 111 0 0) 0 x1 0 x3 (by unfold ir; omega) (by unfold ir; omega) (by unfold ir; omega) hx3) (wm 10 83 rfl rfl) (wm 10 85 rfl rfl) (wm 0 188 rfl rfl) rfl rfl (by decide) rfl (wm 1 18 rfl rfl) (wm 10 86 rfl rfl) (by decide) hR (by decide) (n := 4) rfl rfl (Nat.le_of_ble_eq_true rfl) hl.1 dX12_call__35 (fun μ2 ρ d0 H locs hp G => ?_)
          obtain ⟨F_3, hp_4⟩ := hp
          refine lv_aload_n hx hb dX12_call__38 rfl (lv_at hl 0 rfl) ?_
          refine xa_geti G fd_X12 (a := 111) (x := μ2.1 111 98) 98 rfl (by decide) rfl (wm 8 7 rfl rfl) ⟨rfl, rfl, rfl⟩ dX12_call__39 rfl rfl ?_
          have hr_5 : -2147483648 ≤ μ2.1 111 98 ∧ μ2.1 111 98 ≤ 2147483647 := by have h9 := G.hr (a := 111) (k := 98) rfl; exact h9
          refine xb_if_ne (tgt := 47) hx hb (by unfold ir; omega) dX12_call__42 (by decide) (fun c_42 => ?_) (fun c_42 => ?_)
          · refine lv_aload_n hx hb dX12_call__47 rfl (lv_at hl 0 rfl) ?_
            refine lv_iconst (v := iv 1) hx hb dX12_call__48 rfl ?_
            refine xa_putz G fd_X12 (a := 111) (x := 1) 92 (kz := 92) rfl rfl (by decide) rfl (by omega) (wm 8 1 rfl rfl) ⟨rfl, rfl, rfl, rfl⟩ rfl dX12_call__49 rfl (fun H locs G => ?_)
            refine lv_aload_n hx hb dX12_call__52 rfl (lv_at hl 0 rfl) ?_
            refine lv_iconst (v := iv 0) hx hb dX12_call__53 rfl ?_
            refine xa_putz G fd_X12 (a := 111) (x := 0) 94 (kz := 94) rfl rfl (by decide) rfl (by omega) (wm 8 3 rfl rfl) ⟨rfl, rfl, rfl, rfl⟩ rfl dX12_call__54 rfl (fun H locs G => ?_)
            refine lv_aload_n hx hb dX12_call__57 rfl (lv_at hl 0 rfl) ?_
            refine lv_iconst (v := iv 0) hx hb dX12_call__58 rfl ?_
            refine xa_puti G fd_X12 (a := 111) (x := 0) 83 (kz := 83) rfl rfl (by decide) rfl (by unfold ir; omega) (wm 7 232 rfl rfl) ⟨rfl, rfl, rfl, rfl⟩ rfl dX12_call__59 rfl (fun H locs G => ?_)
            refine lv_aload_n hx hb dX12_call__62 rfl (lv_at hl 0 rfl) ?_
            refine lv_iconst (v := iv 0) hx hb dX12_call__63 rfl ?_
            refine xa_puti G fd_X12 (a := 111) (x := 0) 85 (kz := 85) rfl rfl (by decide) rfl (by unfold ir; omega) (wm 7 234 rfl rfl) ⟨rfl, rfl, rfl, rfl⟩ rfl dX12_call__64 rfl (fun H locs G => ?_)
            refine lv_aload_n hx hb dX12_call__67 rfl (lv_at hl 0 rfl) ?_
            refine lv_iconst (v := iv 0) hx hb dX12_call__68 rfl ?_
            refine xa_puti G fd_X12 (a := 111) (x := 0) 88 (kz := 88) rfl rfl (by decide) rfl (by unfold ir; omega) (wm 7 237 rfl rfl) ⟨rfl, rfl, rfl, rfl⟩ rfl dX12_call__69 rfl (fun H locs G => ?_)
            refine lv_aload_n hx hb dX12_call__72 rfl (lv_at hl 0 rfl) ?_
            refine lv_iconst (v := iv 0) hx hb dX12_call__73 rfl ?_
            refine xa_puti G fd_X12 (a := 111) (x := 0) 89 (kz := 89) rfl rfl (by decide) rfl (by unfold ir; omega) (wm 7 238 rfl rfl) ⟨rfl, rfl, rfl, rfl⟩ rfl dX12_call__74 rfl (fun H locs G => ?_)
            refine lv_aload_n hx hb dX12_call__77 rfl (lv_at hl 0 rfl) ?_
            refine lv_iconst (v := iv 0) hx hb dX12_call__78 rfl ?_
            refine xa_puti G fd_X12 (a := 111) (x := 0) 90 (kz := 90) rfl rfl (by decide) rfl (by unfold ir; omega) (wm 7 239 rfl rfl) ⟨rfl, rfl, rfl, rfl⟩ rfl dX12_call__79 rfl (fun H locs G => ?_)
            refine lv_aload_n hx hb dX12_call__82 rfl (lv_at hl 0 rfl) ?_
            refine lv_iconst (v := iv 0) hx hb dX12_call__83 rfl ?_
            refine xa_puti G fd_X12 (a := 111) (x := 0) 47 (kz := 47) rfl rfl (by decide) rfl (by unfold ir; omega) (wm 7 196 rfl rfl) ⟨rfl, rfl, rfl, rfl⟩ rfl dX12_call__84 rfl (fun H locs G => ?_)
            refine lv_aload_n hx hb dX12_call__87 rfl (lv_at hl 0 rfl) ?_
            refine lv_iconst (v := iv 0) hx hb dX12_call__88 rfl ?_
            refine xa_puti G fd_X12 (a := 111) (x := 0) 48 (kz := 48) rfl rfl (by decide) rfl (by unfold ir; omega) (wm 7 197 rfl rfl) ⟨rfl, rfl, rfl, rfl⟩ rfl dX12_call__89 rfl (fun H locs G => ?_)
            refine lv_aload_n hx hb dX12_call__92 rfl (lv_at hl 0 rfl) ?_
            refine lv_iconst (v := iv 0) hx hb dX12_call__93 rfl ?_
            refine xa_puti G fd_X12 (a := 111) (x := 0) 53 (kz := 53) rfl rfl (by decide) rfl (by unfold ir; omega) (wm 7 202 rfl rfl) ⟨rfl, rfl, rfl, rfl⟩ rfl dX12_call__94 rfl (fun H locs G => ?_)
            refine lv_aload_n hx hb dX12_call__97 rfl (lv_at hl 0 rfl) ?_
            refine lv_iconst (v := iv 0) hx hb dX12_call__98 rfl ?_
            refine xa_puti G fd_X12 (a := 111) (x := 0) 61 (kz := 61) rfl rfl (by decide) rfl (by unfold ir; omega) (wm 7 210 rfl rfl) ⟨rfl, rfl, rfl, rfl⟩ rfl dX12_call__99 rfl (fun H locs G => ?_)
            refine lv_aload_n hx hb dX12_call__102 rfl (lv_at hl 0 rfl) ?_
            refine lv_iconst (v := iv 0) hx hb dX12_call__103 rfl ?_
            refine xa_puti G fd_X12 (a := 111) (x := 0) 65 (kz := 65) rfl rfl (by decide) rfl (by unfold ir; omega) (wm 7 214 rfl rfl) ⟨rfl, rfl, rfl, rfl⟩ rfl dX12_call__104 rfl (fun H locs G => ?_)
            refine lv_aload_n hx hb dX12_call__107 rfl (lv_at hl 0 rfl) ?_
            refine lv_iconst (v := iv 0) hx hb dX12_call__108 rfl ?_
            refine xa_puti G fd_X12 (a := 111) (x := 0) 68 (kz := 68) rfl rfl (by decide) rfl (by unfold ir; omega) (wm 7 217 rfl rfl) ⟨rfl, rfl, rfl, rfl⟩ rfl dX12_call__109 rfl (fun H locs G => ?_)
            refine lv_aload_n hx hb dX12_call__112 rfl (lv_at hl 0 rfl) ?_
            refine lv_iconst (v := iv 0) hx hb dX12_call__113 rfl ?_
            refine xa_puti G fd_X12 (a := 111) (x := 0) 69 (kz := 69) rfl rfl (by decide) rfl (by unfold ir; omega) (wm 7 218 rfl rfl) ⟨rfl, rfl, rfl, rfl⟩ rfl dX12_call__114 rfl (fun H locs G => ?_)
            refine lv_aload_n hx hb dX12_call__117 rfl (lv_at hl 0 rfl) ?_
            refine lv_iconst (v := iv 0) hx hb dX12_call__118 rfl ?_
            refine xa_puti G fd_X12 (a := 111) (x := 0) 82 (kz := 82) rfl rfl (by decide) rfl (by unfold ir; omega) (wm 7 231 rfl rfl) ⟨rfl, rfl, rfl, rfl⟩ rfl dX12_call__119 rfl (fun H locs G => ?_)
            refine lv_aload_n hx hb dX12_call__122 rfl (lv_at hl 0 rfl) ?_
            refine lv_iconst (v := iv 0) hx hb dX12_call__123 rfl ?_
            refine xa_puti G fd_X12 (a := 111) (x := 0) 81 (kz := 81) rfl rfl (by decide) rfl (by unfold ir; omega) (wm 7 230 rfl rfl) ⟨rfl, rfl, rfl, rfl⟩ rfl dX12_call__124 rfl (fun H locs G => ?_)
            refine lv_aload_n hx hb dX12_call__127 rfl (lv_at hl 0 rfl) ?_
            refine lv_iconst (v := iv (-1)) hx hb dX12_call__128 rfl ?_
            refine xa_puti G fd_X12 (a := 111) (x := (-1)) 97 (kz := 97) rfl rfl (by decide) rfl (by unfold ir; omega) (wm 8 6 rfl rfl) ⟨rfl, rfl, rfl, rfl⟩ rfl dX12_call__129 rfl (fun H locs G => ?_)
            refine lv_aload_n hx hb dX12_call__132 rfl (lv_at hl 0 rfl) ?_
            refine lv_iconst (v := iv 0) hx hb dX12_call__133 rfl ?_
            refine xa_puti G fd_X12 (a := 111) (x := 0) 95 (kz := 95) rfl rfl (by decide) rfl (by unfold ir; omega) (wm 8 4 rfl rfl) ⟨rfl, rfl, rfl, rfl⟩ rfl dX12_call__134 rfl (fun H locs G => ?_)
            refine lv_aload_n hx hb dX12_call__137 rfl (lv_at hl 0 rfl) ?_
            refine lv_lconst (v := jv 0) hx hb dX12_call__138 rfl ?_
            refine xa_putl G fd_X12 (a := 111) (x := 0) 96 (kz := 96) rfl rfl (by decide) rfl (by unfold jr; omega) (wm 8 5 rfl rfl) ⟨rfl, rfl, rfl, rfl⟩ rfl dX12_call__139 rfl (fun H locs G => ?_)
            refine lv_aload_n hx hb dX12_call__142 rfl (lv_at hl 0 rfl) ?_
            refine xa_getl G fd_X12 (a := 111) (x := μ2.1 111 99) 99 rfl (by decide) rfl (wm 8 8 rfl rfl) ⟨rfl, rfl, rfl⟩ dX12_call__143 rfl ((sv_n _ (by decide)).trans ((sv_n _ (by decide)).trans ((sv_n _ (by decide)).trans ((sv_n _ (by decide)).trans ((sv_n _ (by decide)).trans ((sv_n _ (by decide)).trans ((sv_n _ (by decide)).trans ((sv_n _ (by decide)).trans ((sv_n _ (by decide)).trans ((sv_n _ (by decide)).trans ((sv_n _ (by decide)).trans ((sv_n _ (by decide)).trans ((sv_n _ (by decide)).trans ((sv_n _ (by decide)).trans ((sv_n _ (by decide)).trans ((sv_n _ (by decide)).trans ((sv_n _ (by decide)).trans ((sv_n _ (by decide)).trans (sv_n _ (by decide)))))))))))))))))))) ?_
            have hj_6 : jr (μ2.1 111 99) := by have h9 := G.hj (a := 111) (k := 99) rfl; rw [show (sv (sv (sv (sv (sv (sv (sv (sv (sv (sv (sv (sv (sv (sv (sv (sv (sv (sv (sv μ2 111 92 1) 111 94 0) 111 83 0) 111 85 0) 111 88 0) 111 89 0) 111 90 0) 111 47 0) 111 48 0) 111 53 0) 111 61 0) 111 65 0) 111 68 0) 111 69 0) 111 82 0) 111 81 0) 111 97 (-1)) 111 95 0) 111 96 0).1 111 99 = μ2.1 111 99 from ((sv_n _ (by decide)).trans ((sv_n _ (by decide)).trans ((sv_n _ (by decide)).trans ((sv_n _ (by decide)).trans ((sv_n _ (by decide)).trans ((sv_n _ (by decide)).trans ((sv_n _ (by decide)).trans ((sv_n _ (by decide)).trans ((sv_n _ (by decide)).trans ((sv_n _ (by decide)).trans ((sv_n _ (by decide)).trans ((sv_n _ (by decide)).trans ((sv_n _ (by decide)).trans ((sv_n _ (by decide)).trans ((sv_n _ (by decide)).trans ((sv_n _ (by decide)).trans ((sv_n _ (by decide)).trans ((sv_n _ (by decide)).trans (sv_n _ (by decide))))))))))))))))))))] at h9; exact h9
            refine lv_lstore (lv' := [(5, .long (jv (μ2.1 111 99))), (0, .ref (oP ω 111)), (1, .int (iv x1)), (2, .int (iv x2)), (3, .long (jv x3))]) hx hb dX12_call__146 hl (by decide) rfl (fun ls hl => ?_)
            refine lv_aload_n hx hb dX12_call__148 rfl (lv_at hl 1 rfl) ?_
            refine lv_iload_n hx hb dX12_call__149 rfl (lv_at hl 2 rfl) ?_
            refine lv_iload_n hx hb dX12_call__150 rfl (lv_at hl 3 rfl) ?_
            have hnew_ := MZ.new (ν := (sv (sv (sv (sv (sv (sv (sv (sv (sv (sv (sv (sv (sv (sv (sv (sv (sv (sv (sv μ2 111 92 1) 111 94 0) 111 83 0) 111 85 0) 111 88 0) 111 89 0) 111 90 0) 111 47 0) 111 48 0) 111 53 0) 111 61 0) 111 65 0) 111 68 0) 111 69 0) 111 82 0) 111 81 0) 111 97 (-1)) 111 95 0) 111 96 0)) hB (Eqa.fr (L := [111]) (FrM.put (FrM.put (FrM.put (FrM.put (FrM.put (FrM.put (FrM.put (FrM.put (FrM.put (FrM.put (FrM.put (FrM.put (FrM.put (FrM.put (FrM.put (FrM.put (FrM.put (FrM.put (FrM.put (FrM.tr (FrM.put FrM.rf (by decide)) F_3 (by decide)) (by decide)) (by decide)) (by decide)) (by decide)) (by decide)) (by decide)) (by decide)) (by decide)) (by decide)) (by decide)) (by decide)) (by decide)) (by decide)) (by decide)) (by decide)) (by decide)) (by decide)) (by decide)) (by decide)) (by decide)) (Eqf.fd (L := [0, 47, 48, 53, 61, 65, 68, 69, 81, 82, 83, 85, 88, 89, 90, 92, 94, 95, 96, 97, 98, 99]) (fun j hj => ((sv_n _ (fun h9 => hj (by rw [h9.2]; decide))).trans ((sv_n _ (fun h9 => hj (by rw [h9.2]; decide))).trans ((sv_n _ (fun h9 => hj (by rw [h9.2]; decide))).trans ((sv_n _ (fun h9 => hj (by rw [h9.2]; decide))).trans ((sv_n _ (fun h9 => hj (by rw [h9.2]; decide))).trans ((sv_n _ (fun h9 => hj (by rw [h9.2]; decide))).trans ((sv_n _ (fun h9 => hj (by rw [h9.2]; decide))).trans ((sv_n _ (fun h9 => hj (by rw [h9.2]; decide))).trans ((sv_n _ (fun h9 => hj (by rw [h9.2]; decide))).trans ((sv_n _ (fun h9 => hj (by rw [h9.2]; decide))).trans ((sv_n _ (fun h9 => hj (by rw [h9.2]; decide))).trans ((sv_n _ (fun h9 => hj (by rw [h9.2]; decide))).trans ((sv_n _ (fun h9 => hj (by rw [h9.2]; decide))).trans ((sv_n _ (fun h9 => hj (by rw [h9.2]; decide))).trans ((sv_n _ (fun h9 => hj (by rw [h9.2]; decide))).trans ((sv_n _ (fun h9 => hj (by rw [h9.2]; decide))).trans ((sv_n _ (fun h9 => hj (by rw [h9.2]; decide))).trans ((sv_n _ (fun h9 => hj (by rw [h9.2]; decide))).trans ((sv_n _ (fun h9 => hj (by rw [h9.2]; decide))).trans ((hp_4 j (fun h9 => hj ((by decide : ∀ x ∈ ([98, 99] : List Int), x ∈ ([0, 47, 48, 53, 61, 65, 68, 69, 81, 82, 83, 85, 88, 89, 90, 92, 94, 95, 96, 97, 98, 99] : List Int)) j h9))).trans (sv_n _ (fun h9 => hj (by rw [h9.2]; decide)))))))))))))))))))))))) (by decide)) (fun k hk => by simp only [List.mem_cons, List.not_mem_nil, or_false] at hk; rcases hk with rfl | rfl | rfl | rfl | rfl | rfl | rfl | rfl | rfl | rfl | rfl; exact ((sv_n _ (by decide)).trans ((sv_n _ (by decide)).trans ((sv_n _ (by decide)).trans ((sv_n _ (by decide)).trans ((sv_n _ (by decide)).trans ((sv_n _ (by decide)).trans ((sv_n _ (by decide)).trans ((sv_n _ (by decide)).trans ((sv_n _ (by decide)).trans ((sv_n _ (by decide)).trans ((sv_n _ (by decide)).trans (sv_s _ _ _ _)))))))))))); exact ((sv_n _ (by decide)).trans ((sv_n _ (by decide)).trans ((sv_n _ (by decide)).trans ((sv_n _ (by decide)).trans ((sv_n _ (by decide)).trans ((sv_n _ (by decide)).trans ((sv_n _ (by decide)).trans ((sv_n _ (by decide)).trans ((sv_n _ (by decide)).trans (sv_s _ _ _ _)))))))))); exact ((sv_n _ (by decide)).trans ((sv_n _ (by decide)).trans ((sv_n _ (by decide)).trans ((sv_n _ (by decide)).trans ((sv_n _ (by decide)).trans ((sv_n _ (by decide)).trans ((sv_n _ (by decide)).trans ((sv_n _ (by decide)).trans (sv_s _ _ _ _))))))))); exact ((sv_n _ (by decide)).trans ((sv_n _ (by decide)).trans ((sv_n _ (by decide)).trans ((sv_n _ (by decide)).trans ((sv_n _ (by decide)).trans ((sv_n _ (by decide)).trans ((sv_n _ (by decide)).trans (sv_s _ _ _ _)))))))); exact ((sv_n _ (by decide)).trans ((sv_n _ (by decide)).trans ((sv_n _ (by decide)).trans ((sv_n _ (by decide)).trans ((sv_n _ (by decide)).trans ((sv_n _ (by decide)).trans (sv_s _ _ _ _))))))); exact ((sv_n _ (by decide)).trans ((sv_n _ (by decide)).trans ((sv_n _ (by decide)).trans ((sv_n _ (by decide)).trans ((sv_n _ (by decide)).trans (sv_s _ _ _ _)))))); exact ((sv_n _ (by decide)).trans ((sv_n _ (by decide)).trans ((sv_n _ (by decide)).trans (sv_s _ _ _ _)))); exact ((sv_n _ (by decide)).trans ((sv_n _ (by decide)).trans ((sv_n _ (by decide)).trans ((sv_n _ (by decide)).trans (sv_s _ _ _ _))))); exact ((sv_n _ (by decide)).trans ((sv_n _ (by decide)).trans ((sv_n _ (by decide)).trans ((sv_n _ (by decide)).trans ((sv_n _ (by decide)).trans ((sv_n _ (by decide)).trans ((sv_n _ (by decide)).trans ((sv_n _ (by decide)).trans ((sv_n _ (by decide)).trans ((sv_n _ (by decide)).trans ((sv_n _ (by decide)).trans ((sv_n _ (by decide)).trans ((sv_n _ (by decide)).trans ((sv_n _ (by decide)).trans ((sv_n _ (by decide)).trans ((sv_n _ (by decide)).trans (sv_s _ _ _ _))))))))))))))))); exact ((sv_n _ (by decide)).trans (sv_s _ _ _ _)); exact (sv_s _ _ _ _)) ((sv_n _ (by decide)).trans ((sv_n _ (by decide)).trans (sv_s _ _ _ _)))
            have e_7 : (sv (sv (sv (sv (sv (sv (sv (sv (sv (sv (sv (sv (sv (sv (sv (sv (sv (sv (sv μ2 111 92 1) 111 94 0) 111 83 0) 111 85 0) 111 88 0) 111 89 0) 111 90 0) 111 47 0) 111 48 0) 111 53 0) 111 61 0) 111 65 0) 111 68 0) 111 69 0) 111 82 0) 111 81 0) 111 97 (-1)) 111 95 0) 111 96 0).1 111 94 = 0 := ((sv_n _ (by decide)).trans ((sv_n _ (by decide)).trans ((sv_n _ (by decide)).trans ((sv_n _ (by decide)).trans ((sv_n _ (by decide)).trans ((sv_n _ (by decide)).trans ((sv_n _ (by decide)).trans ((sv_n _ (by decide)).trans ((sv_n _ (by decide)).trans ((sv_n _ (by decide)).trans ((sv_n _ (by decide)).trans ((sv_n _ (by decide)).trans ((sv_n _ (by decide)).trans ((sv_n _ (by decide)).trans ((sv_n _ (by decide)).trans ((sv_n _ (by decide)).trans ((sv_n _ (by decide)).trans (sv_s _ _ _ _))))))))))))))))))
            have e_8 : (sv (sv (sv (sv (sv (sv (sv (sv (sv (sv (sv (sv (sv (sv (sv (sv (sv (sv (sv μ2 111 92 1) 111 94 0) 111 83 0) 111 85 0) 111 88 0) 111 89 0) 111 90 0) 111 47 0) 111 48 0) 111 53 0) 111 61 0) 111 65 0) 111 68 0) 111 69 0) 111 82 0) 111 81 0) 111 97 (-1)) 111 95 0) 111 96 0).1 111 47 = 0 := ((sv_n _ (by decide)).trans ((sv_n _ (by decide)).trans ((sv_n _ (by decide)).trans ((sv_n _ (by decide)).trans ((sv_n _ (by decide)).trans ((sv_n _ (by decide)).trans ((sv_n _ (by decide)).trans ((sv_n _ (by decide)).trans ((sv_n _ (by decide)).trans ((sv_n _ (by decide)).trans ((sv_n _ (by decide)).trans (sv_s _ _ _ _))))))))))))
            have e_9 : (sv (sv (sv (sv (sv (sv (sv (sv (sv (sv (sv (sv (sv (sv (sv (sv (sv (sv (sv μ2 111 92 1) 111 94 0) 111 83 0) 111 85 0) 111 88 0) 111 89 0) 111 90 0) 111 47 0) 111 48 0) 111 53 0) 111 61 0) 111 65 0) 111 68 0) 111 69 0) 111 82 0) 111 81 0) 111 97 (-1)) 111 95 0) 111 96 0).1 111 94 = 0 := ((sv_n _ (by decide)).trans ((sv_n _ (by decide)).trans ((sv_n _ (by decide)).trans ((sv_n _ (by decide)).trans ((sv_n _ (by decide)).trans ((sv_n _ (by decide)).trans ((sv_n _ (by decide)).trans ((sv_n _ (by decide)).trans ((sv_n _ (by decide)).trans ((sv_n _ (by decide)).trans ((sv_n _ (by decide)).trans ((sv_n _ (by decide)).trans ((sv_n _ (by decide)).trans ((sv_n _ (by decide)).trans ((sv_n _ (by decide)).trans ((sv_n _ (by decide)).trans ((sv_n _ (by decide)).trans (sv_s _ _ _ _))))))))))))))))))
            refine xc_vV G (b := 111) (rest := []) (As := [.int (iv x1), .int (iv x2)]) (c_X12_enters ω l (sv (sv (sv (sv (sv (sv (sv (sv (sv (sv (sv (sv (sv (sv (sv (sv (sv (sv (sv μ2 111 92 1) 111 94 0) 111 83 0) 111 85 0) 111 88 0) 111 89 0) 111 90 0) 111 47 0) 111 48 0) 111 53 0) 111 61 0) 111 65 0) 111 68 0) 111 69 0) 111 82 0) 111 81 0) 111 97 (-1)) 111 95 0) 111 96 0) x1 x2 0 (by unfold ir; omega) (by unfold ir; omega) (by omega) hnew_ (by omega) (by omega) (by rw [(show (sv (sv (sv (sv (sv (sv (sv (sv (sv (sv (sv (sv (sv (sv (sv (sv (sv (sv (sv μ2 111 92 1) 111 94 0) 111 83 0) 111 85 0) 111 88 0) 111 89 0) 111 90 0) 111 47 0) 111 48 0) 111 53 0) 111 61 0) 111 65 0) 111 68 0) 111 69 0) 111 82 0) 111 81 0) 111 97 (-1)) 111 95 0) 111 96 0).1 122 x1 = μ.1 122 x1 from ((sv_n _ (fun h9 => absurd h9.1 (by decide))).trans ((sv_n _ (fun h9 => absurd h9.1 (by decide))).trans ((sv_n _ (fun h9 => absurd h9.1 (by decide))).trans ((sv_n _ (fun h9 => absurd h9.1 (by decide))).trans ((sv_n _ (fun h9 => absurd h9.1 (by decide))).trans ((sv_n _ (fun h9 => absurd h9.1 (by decide))).trans ((sv_n _ (fun h9 => absurd h9.1 (by decide))).trans ((sv_n _ (fun h9 => absurd h9.1 (by decide))).trans ((sv_n _ (fun h9 => absurd h9.1 (by decide))).trans ((sv_n _ (fun h9 => absurd h9.1 (by decide))).trans ((sv_n _ (fun h9 => absurd h9.1 (by decide))).trans ((sv_n _ (fun h9 => absurd h9.1 (by decide))).trans ((sv_n _ (fun h9 => absurd h9.1 (by decide))).trans ((sv_n _ (fun h9 => absurd h9.1 (by decide))).trans ((sv_n _ (fun h9 => absurd h9.1 (by decide))).trans ((sv_n _ (fun h9 => absurd h9.1 (by decide))).trans ((sv_n _ (fun h9 => absurd h9.1 (by decide))).trans ((sv_n _ (fun h9 => absurd h9.1 (by decide))).trans ((sv_n _ (fun h9 => absurd h9.1 (by decide))).trans ((F_3.1 122 (by decide) x1).trans (sv_n _ (fun h9 => absurd h9.1 (by decide))))))))))))))))))))))))]; exact ⟨by omega, by omega⟩) (fun h9 => absurd h9 (by decide)) (fun _ => ⟨((sv_n _ (by decide)).trans ((sv_n _ (by decide)).trans ((sv_n _ (by decide)).trans ((sv_n _ (by decide)).trans ((sv_n _ (by decide)).trans ((sv_n _ (by decide)).trans ((sv_n _ (by decide)).trans ((sv_n _ (by decide)).trans ((sv_n _ (by decide)).trans (sv_s _ _ _ _)))))))))), ((sv_n _ (by decide)).trans ((sv_n _ (by decide)).trans ((sv_n _ (by decide)).trans ((sv_n _ (by decide)).trans ((sv_n _ (by decide)).trans ((sv_n _ (by decide)).trans ((sv_n _ (by decide)).trans ((sv_n _ (by decide)).trans (sv_s _ _ _ _)))))))))⟩) (by omega)) (wm 10 105 rfl rfl) (wm 10 107 rfl rfl) (wm 0 190 rfl rfl) rfl rfl (by decide) rfl (wm 1 18 rfl rfl) (wm 10 108 rfl rfl) (by decide) hR (by decide) (n := 2) rfl rfl (Nat.le_of_ble_eq_true rfl) hl.1 dX12_call__151 (fun μ10 ρ d0 H locs hp G => ?_)
            obtain ⟨F_11, hp_12, hp_13, hp_14, hs_15⟩ := hp
            have hrx0_ : RX (sv (sv (sv (sv (sv (sv (sv (sv (sv (sv (sv (sv (sv (sv (sv (sv (sv (sv (sv μ2 111 92 1) 111 94 0) 111 83 0) 111 85 0) 111 88 0) 111 89 0) 111 90 0) 111 47 0) 111 48 0) 111 53 0) 111 61 0) 111 65 0) 111 68 0) 111 69 0) 111 82 0) 111 81 0) 111 97 (-1)) 111 95 0) 111 96 0) = 1000000000 := by unfold RX; rw [show (sv (sv (sv (sv (sv (sv (sv (sv (sv (sv (sv (sv (sv (sv (sv (sv (sv (sv (sv μ2 111 92 1) 111 94 0) 111 83 0) 111 85 0) 111 88 0) 111 89 0) 111 90 0) 111 47 0) 111 48 0) 111 53 0) 111 61 0) 111 65 0) 111 68 0) 111 69 0) 111 82 0) 111 81 0) 111 97 (-1)) 111 95 0) 111 96 0).1 111 83 = 0 from ((sv_n _ (by decide)).trans ((sv_n _ (by decide)).trans ((sv_n _ (by decide)).trans ((sv_n _ (by decide)).trans ((sv_n _ (by decide)).trans ((sv_n _ (by decide)).trans ((sv_n _ (by decide)).trans ((sv_n _ (by decide)).trans ((sv_n _ (by decide)).trans ((sv_n _ (by decide)).trans ((sv_n _ (by decide)).trans ((sv_n _ (by decide)).trans ((sv_n _ (by decide)).trans ((sv_n _ (by decide)).trans ((sv_n _ (by decide)).trans ((sv_n _ (by decide)).trans (sv_s _ _ _ _))))))))))))))))), show (sv (sv (sv (sv (sv (sv (sv (sv (sv (sv (sv (sv (sv (sv (sv (sv (sv (sv (sv μ2 111 92 1) 111 94 0) 111 83 0) 111 85 0) 111 88 0) 111 89 0) 111 90 0) 111 47 0) 111 48 0) 111 53 0) 111 61 0) 111 65 0) 111 68 0) 111 69 0) 111 82 0) 111 81 0) 111 97 (-1)) 111 95 0) 111 96 0).1 111 47 = 0 from ((sv_n _ (by decide)).trans ((sv_n _ (by decide)).trans ((sv_n _ (by decide)).trans ((sv_n _ (by decide)).trans ((sv_n _ (by decide)).trans ((sv_n _ (by decide)).trans ((sv_n _ (by decide)).trans ((sv_n _ (by decide)).trans ((sv_n _ (by decide)).trans ((sv_n _ (by decide)).trans ((sv_n _ (by decide)).trans (sv_s _ _ _ _)))))))))))), show (sv (sv (sv (sv (sv (sv (sv (sv (sv (sv (sv (sv (sv (sv (sv (sv (sv (sv (sv μ2 111 92 1) 111 94 0) 111 83 0) 111 85 0) 111 88 0) 111 89 0) 111 90 0) 111 47 0) 111 48 0) 111 53 0) 111 61 0) 111 65 0) 111 68 0) 111 69 0) 111 82 0) 111 81 0) 111 97 (-1)) 111 95 0) 111 96 0).1 111 61 = 0 from ((sv_n _ (by decide)).trans ((sv_n _ (by decide)).trans ((sv_n _ (by decide)).trans ((sv_n _ (by decide)).trans ((sv_n _ (by decide)).trans ((sv_n _ (by decide)).trans ((sv_n _ (by decide)).trans ((sv_n _ (by decide)).trans (sv_s _ _ _ _)))))))))]; rfl
            have hrs_ := hp_14.le (r2 := 1000029000) (by omega)
            refine lv_aload_n hx hb dX12_call__154 rfl (lv_at hl 1 rfl) ?_
            refine xa_getr G fd_X12 (a := 111) (x := 120) 25 rfl (by decide) rfl (wm 7 174 rfl rfl) ⟨rfl, rfl, rfl⟩ dX12_call__155 rfl (G.sk 118 rfl) (by decide) rfl ?_
            refine lv_bipush (v := iv 40) hx hb dX12_call__158 rfl ?_
            refine lv_iload_n hx hb dX12_call__160 rfl (lv_at hl 2 rfl) ?_
            refine xb_imul hx hb dX12_call__161 ?_
            refine lv_iload_n hx hb dX12_call__162 rfl (lv_at hl 3 rfl) ?_
            refine xb_iadd hx hb dX12_call__163 ?_
            refine xa_iald G (a := 120) (i := (40 * x1) + x2) rfl (by have h9 := G.lc (a := 120) (n := 200) 58 rfl; omega) dX12_call__164 rfl ?_
            refine xb_ti (y := μ.1 120 ((40 * x1) + x2)) ((F_11.1 120 (by decide) ((40 * x1) + x2)).trans ((sv_n _ (fun h9 => absurd h9.1 (by decide))).trans ((sv_n _ (fun h9 => absurd h9.1 (by decide))).trans ((sv_n _ (fun h9 => absurd h9.1 (by decide))).trans ((sv_n _ (fun h9 => absurd h9.1 (by decide))).trans ((sv_n _ (fun h9 => absurd h9.1 (by decide))).trans ((sv_n _ (fun h9 => absurd h9.1 (by decide))).trans ((sv_n _ (fun h9 => absurd h9.1 (by decide))).trans ((sv_n _ (fun h9 => absurd h9.1 (by decide))).trans ((sv_n _ (fun h9 => absurd h9.1 (by decide))).trans ((sv_n _ (fun h9 => absurd h9.1 (by decide))).trans ((sv_n _ (fun h9 => absurd h9.1 (by decide))).trans ((sv_n _ (fun h9 => absurd h9.1 (by decide))).trans ((sv_n _ (fun h9 => absurd h9.1 (by decide))).trans ((sv_n _ (fun h9 => absurd h9.1 (by decide))).trans ((sv_n _ (fun h9 => absurd h9.1 (by decide))).trans ((sv_n _ (fun h9 => absurd h9.1 (by decide))).trans ((sv_n _ (fun h9 => absurd h9.1 (by decide))).trans ((sv_n _ (fun h9 => absurd h9.1 (by decide))).trans ((sv_n _ (fun h9 => absurd h9.1 (by decide))).trans ((F_3.1 120 (by decide) ((40 * x1) + x2)).trans (sv_n _ (fun h9 => absurd h9.1 (by decide)))))))))))))))))))))))) ?_
            have hr_16 : -2147483648 ≤ μ.1 120 ((40 * x1) + x2) ∧ μ.1 120 ((40 * x1) + x2) ≤ 2147483647 := by have h9 := G.hr (a := 120) (k := (40 * x1) + x2) rfl; rw [((F_11.1 120 (by decide) ((40 * x1) + x2)).trans ((sv_n _ (fun h9 => absurd h9.1 (by decide))).trans ((sv_n _ (fun h9 => absurd h9.1 (by decide))).trans ((sv_n _ (fun h9 => absurd h9.1 (by decide))).trans ((sv_n _ (fun h9 => absurd h9.1 (by decide))).trans ((sv_n _ (fun h9 => absurd h9.1 (by decide))).trans ((sv_n _ (fun h9 => absurd h9.1 (by decide))).trans ((sv_n _ (fun h9 => absurd h9.1 (by decide))).trans ((sv_n _ (fun h9 => absurd h9.1 (by decide))).trans ((sv_n _ (fun h9 => absurd h9.1 (by decide))).trans ((sv_n _ (fun h9 => absurd h9.1 (by decide))).trans ((sv_n _ (fun h9 => absurd h9.1 (by decide))).trans ((sv_n _ (fun h9 => absurd h9.1 (by decide))).trans ((sv_n _ (fun h9 => absurd h9.1 (by decide))).trans ((sv_n _ (fun h9 => absurd h9.1 (by decide))).trans ((sv_n _ (fun h9 => absurd h9.1 (by decide))).trans ((sv_n _ (fun h9 => absurd h9.1 (by decide))).trans ((sv_n _ (fun h9 => absurd h9.1 (by decide))).trans ((sv_n _ (fun h9 => absurd h9.1 (by decide))).trans ((sv_n _ (fun h9 => absurd h9.1 (by decide))).trans ((F_3.1 120 (by decide) ((40 * x1) + x2)).trans (sv_n _ (fun h9 => absurd h9.1 (by decide))))))))))))))))))))))))] at h9; exact h9
            refine xb_if_le (tgt := 176) hx hb (by unfold ir; omega) dX12_call__165 (by decide) (fun c_165 => ?_) (fun c_165 => ?_)
            · refine lv_aload_n hx hb dX12_call__176 rfl (lv_at hl 1 rfl) ?_
              have e_17 : μ10.1 111 85 = 0 := ((hp_12 85 (by decide)).trans ((sv_n _ (by decide)).trans ((sv_n _ (by decide)).trans ((sv_n _ (by decide)).trans ((sv_n _ (by decide)).trans ((sv_n _ (by decide)).trans ((sv_n _ (by decide)).trans ((sv_n _ (by decide)).trans ((sv_n _ (by decide)).trans ((sv_n _ (by decide)).trans ((sv_n _ (by decide)).trans ((sv_n _ (by decide)).trans ((sv_n _ (by decide)).trans ((sv_n _ (by decide)).trans ((sv_n _ (by decide)).trans ((sv_n _ (by decide)).trans (sv_s _ _ _ _)))))))))))))))))
              refine xc_vV G (b := 111) (rest := []) (As := []) (c_X12_runs ω l μ10 1000029000 hrs_ (by omega) (by omega)) (wm 10 114 rfl rfl) (wm 10 116 rfl rfl) (wm 0 192 rfl rfl) rfl rfl (by decide) rfl (wm 1 18 rfl rfl) (wm 10 117 rfl rfl) (by decide) hR (by decide) (n := 0) rfl rfl (Nat.le_of_ble_eq_true rfl) hl.1 dX12_call__177 (fun μ18 ρ d0 H locs hp G => ?_)
              obtain ⟨F_19, hp_20, hp_21⟩ := hp
              refine lv_aload_n hx hb dX12_call__180 rfl (lv_at hl 1 rfl) ?_
              refine xa_geti G fd_X12 (a := 111) (x := μ18.1 111 93) 93 rfl (by decide) rfl (wm 8 2 rfl rfl) ⟨rfl, rfl, rfl⟩ dX12_call__181 rfl rfl ?_
              have hr_22 : -2147483648 ≤ μ18.1 111 93 ∧ μ18.1 111 93 ≤ 2147483647 := by have h9 := G.hr (a := 111) (k := 93) rfl; exact h9
              have hbs_ : BASEi μ18 := (BASE.i hp_21.1)
              exact xr_i G (x := μ18.1 111 93) hret hlk (by unfold ir; omega) rfl dX12_call__184 ⟨(FrM.tr (FrM.tr (FrM.put (FrM.put (FrM.put (FrM.put (FrM.put (FrM.put (FrM.put (FrM.put (FrM.put (FrM.put (FrM.put (FrM.put (FrM.put (FrM.put (FrM.put (FrM.put (FrM.put (FrM.put (FrM.put (FrM.tr (FrM.put FrM.rf (by decide)) F_3 (by decide)) (by decide)) (by decide)) (by decide)) (by decide)) (by decide)) (by decide)) (by decide)) (by decide)) (by decide)) (by decide)) (by decide)) (by decide)) (by decide)) (by decide)) (by decide)) (by decide)) (by decide)) (by decide)) (by decide)) F_11 (by decide)) F_19 (by decide)), (fun j hj => ((hp_20 j (fun h9 => hj ((by decide : ∀ x ∈ ([47, 48, 53, 61, 65, 68, 69, 81, 82, 83, 84, 85, 88, 89, 90, 91, 93, 94, 95, 96, 97, 98, 99] : List Int), x ∈ ([0, 47, 48, 53, 61, 65, 68, 69, 81, 82, 83, 84, 85, 88, 89, 90, 91, 92, 93, 94, 95, 96, 97, 98, 99] : List Int)) j h9))).trans ((hp_12 j (fun h9 => hj ((by decide : ∀ x ∈ ([47, 48] : List Int), x ∈ ([0, 47, 48, 53, 61, 65, 68, 69, 81, 82, 83, 84, 85, 88, 89, 90, 91, 92, 93, 94, 95, 96, 97, 98, 99] : List Int)) j h9))).trans ((sv_n _ (fun h9 => hj (by rw [h9.2]; decide))).trans ((sv_n _ (fun h9 => hj (by rw [h9.2]; decide))).trans ((sv_n _ (fun h9 => hj (by rw [h9.2]; decide))).trans ((sv_n _ (fun h9 => hj (by rw [h9.2]; decide))).trans ((sv_n _ (fun h9 => hj (by rw [h9.2]; decide))).trans ((sv_n _ (fun h9 => hj (by rw [h9.2]; decide))).trans ((sv_n _ (fun h9 => hj (by rw [h9.2]; decide))).trans ((sv_n _ (fun h9 => hj (by rw [h9.2]; decide))).trans ((sv_n _ (fun h9 => hj (by rw [h9.2]; decide))).trans ((sv_n _ (fun h9 => hj (by rw [h9.2]; decide))).trans ((sv_n _ (fun h9 => hj (by rw [h9.2]; decide))).trans ((sv_n _ (fun h9 => hj (by rw [h9.2]; decide))).trans ((sv_n _ (fun h9 => hj (by rw [h9.2]; decide))).trans ((sv_n _ (fun h9 => hj (by rw [h9.2]; decide))).trans ((sv_n _ (fun h9 => hj (by rw [h9.2]; decide))).trans ((sv_n _ (fun h9 => hj (by rw [h9.2]; decide))).trans ((sv_n _ (fun h9 => hj (by rw [h9.2]; decide))).trans ((sv_n _ (fun h9 => hj (by rw [h9.2]; decide))).trans ((sv_n _ (fun h9 => hj (by rw [h9.2]; decide))).trans ((hp_4 j (fun h9 => hj ((by decide : ∀ x ∈ ([98, 99] : List Int), x ∈ ([0, 47, 48, 53, 61, 65, 68, 69, 81, 82, 83, 84, 85, 88, 89, 90, 91, 92, 93, 94, 95, 96, 97, 98, 99] : List Int)) j h9))).trans (sv_n _ (fun h9 => hj (by rw [h9.2]; decide)))))))))))))))))))))))))), ⟨⟨hbs_.1.1, hbs_.1.2, by rw [(show μ18.1 111 31 = μ.1 111 31 from ((hp_20 31 (by decide)).trans ((hp_12 31 (by decide)).trans ((sv_n _ (by decide)).trans ((sv_n _ (by decide)).trans ((sv_n _ (by decide)).trans ((sv_n _ (by decide)).trans ((sv_n _ (by decide)).trans ((sv_n _ (by decide)).trans ((sv_n _ (by decide)).trans ((sv_n _ (by decide)).trans ((sv_n _ (by decide)).trans ((sv_n _ (by decide)).trans ((sv_n _ (by decide)).trans ((sv_n _ (by decide)).trans ((sv_n _ (by decide)).trans ((sv_n _ (by decide)).trans ((sv_n _ (by decide)).trans ((sv_n _ (by decide)).trans ((sv_n _ (by decide)).trans ((sv_n _ (by decide)).trans ((sv_n _ (by decide)).trans ((hp_4 31 (by decide)).trans (sv_n _ (by decide)))))))))))))))))))))))))]; exact hLI.2.2.1, by rw [(show μ18.1 111 11 = μ.1 111 11 from ((hp_20 11 (by decide)).trans ((hp_12 11 (by decide)).trans ((sv_n _ (by decide)).trans ((sv_n _ (by decide)).trans ((sv_n _ (by decide)).trans ((sv_n _ (by decide)).trans ((sv_n _ (by decide)).trans ((sv_n _ (by decide)).trans ((sv_n _ (by decide)).trans ((sv_n _ (by decide)).trans ((sv_n _ (by decide)).trans ((sv_n _ (by decide)).trans ((sv_n _ (by decide)).trans ((sv_n _ (by decide)).trans ((sv_n _ (by decide)).trans ((sv_n _ (by decide)).trans ((sv_n _ (by decide)).trans ((sv_n _ (by decide)).trans ((sv_n _ (by decide)).trans ((sv_n _ (by decide)).trans ((sv_n _ (by decide)).trans ((hp_4 11 (by decide)).trans (sv_n _ (by decide)))))))))))))))))))))))))]; exact hLI.2.2.2.1, by rw [(show μ18.1 111 2 = μ.1 111 2 from ((hp_20 2 (by decide)).trans ((hp_12 2 (by decide)).trans ((sv_n _ (by decide)).trans ((sv_n _ (by decide)).trans ((sv_n _ (by decide)).trans ((sv_n _ (by decide)).trans ((sv_n _ (by decide)).trans ((sv_n _ (by decide)).trans ((sv_n _ (by decide)).trans ((sv_n _ (by decide)).trans ((sv_n _ (by decide)).trans ((sv_n _ (by decide)).trans ((sv_n _ (by decide)).trans ((sv_n _ (by decide)).trans ((sv_n _ (by decide)).trans ((sv_n _ (by decide)).trans ((sv_n _ (by decide)).trans ((sv_n _ (by decide)).trans ((sv_n _ (by decide)).trans ((sv_n _ (by decide)).trans ((sv_n _ (by decide)).trans ((hp_4 2 (by decide)).trans (sv_n _ (by decide)))))))))))))))))))))))))]; exact hLI.2.2.2.2.1, hbs_.2.1⟩, hbs_⟩⟩
            · refine lv_aload_n hx hb dX12_call__168 rfl (lv_at hl 1 rfl) ?_
              refine lv_iconst (v := iv 0) hx hb dX12_call__169 rfl ?_
              refine lv_iconst (v := iv 1) hx hb dX12_call__170 rfl ?_
              refine lv_lload hx hb dX12_call__171 (lv_at hl 0 rfl) ?_
              have e_23 : μ10.1 111 47 = 0 + 1 := hs_15
              refine xc_vV G (b := 111) (rest := []) (As := [.int (iv 0), .int (iv 1), .long (jv (μ2.1 111 99))]) (c_X12_puts ω l μ10 0 1 (μ2.1 111 99) (0 + 1) (by unfold ir; omega) (by unfold ir; omega) hj_6 (by omega) hp_14.1 (by omega) (by omega) VV.n1) (wm 10 110 rfl rfl) (wm 10 112 rfl rfl) (wm 0 191 rfl rfl) rfl rfl (by decide) rfl (wm 1 18 rfl rfl) (wm 10 113 rfl rfl) (by decide) hR (by decide) (n := 3) rfl rfl (Nat.le_of_ble_eq_true rfl) hl.1 dX12_call__173 (fun μ24 ρ d0 H locs hp G => ?_)
              obtain ⟨F_25, hp_26⟩ := hp
              have hrt_ := RES.pt hrs_ hp_26 (Eqa.fr (L := [133, 134]) (FrM.tr FrM.rf F_25 (by decide)) (by decide)) (Eqf.fd (L := []) (fun j hj => (F_25.1 111 (by decide) j)) (by decide))
              refine lv_aload_n hx hb dX12_call__176 rfl (lv_at hl 1 rfl) ?_
              have e_27 : μ24.1 111 85 = 0 := ((F_25.1 111 (by decide) 85).trans ((hp_12 85 (by decide)).trans ((sv_n _ (by decide)).trans ((sv_n _ (by decide)).trans ((sv_n _ (by decide)).trans ((sv_n _ (by decide)).trans ((sv_n _ (by decide)).trans ((sv_n _ (by decide)).trans ((sv_n _ (by decide)).trans ((sv_n _ (by decide)).trans ((sv_n _ (by decide)).trans ((sv_n _ (by decide)).trans ((sv_n _ (by decide)).trans ((sv_n _ (by decide)).trans ((sv_n _ (by decide)).trans ((sv_n _ (by decide)).trans ((sv_n _ (by decide)).trans (sv_s _ _ _ _))))))))))))))))))
              refine xc_vV G (b := 111) (rest := []) (As := []) (c_X12_runs ω l μ24 1000029000 hrt_ (by omega) (by omega)) (wm 10 114 rfl rfl) (wm 10 116 rfl rfl) (wm 0 192 rfl rfl) rfl rfl (by decide) rfl (wm 1 18 rfl rfl) (wm 10 117 rfl rfl) (by decide) hR (by decide) (n := 0) rfl rfl (Nat.le_of_ble_eq_true rfl) hl.1 dX12_call__177 (fun μ28 ρ d0 H locs hp G => ?_)
              obtain ⟨F_29, hp_30, hp_31⟩ := hp
              refine lv_aload_n hx hb dX12_call__180 rfl (lv_at hl 1 rfl) ?_
              refine xa_geti G fd_X12 (a := 111) (x := μ28.1 111 93) 93 rfl (by decide) rfl (wm 8 2 rfl rfl) ⟨rfl, rfl, rfl⟩ dX12_call__181 rfl rfl ?_
              have hr_32 : -2147483648 ≤ μ28.1 111 93 ∧ μ28.1 111 93 ≤ 2147483647 := by have h9 := G.hr (a := 111) (k := 93) rfl; exact h9
              have hbs_ : BASEi μ28 := (BASE.i hp_31.1)
              exact xr_i G (x := μ28.1 111 93) hret hlk (by unfold ir; omega) rfl dX12_call__184 ⟨(FrM.tr (FrM.tr (FrM.tr (FrM.put (FrM.put (FrM.put (FrM.put (FrM.put (FrM.put (FrM.put (FrM.put (FrM.put (FrM.put (FrM.put (FrM.put (FrM.put (FrM.put (FrM.put (FrM.put (FrM.put (FrM.put (FrM.put (FrM.tr (FrM.put FrM.rf (by decide)) F_3 (by decide)) (by decide)) (by decide)) (by decide)) (by decide)) (by decide)) (by decide)) (by decide)) (by decide)) (by decide)) (by decide)) (by decide)) (by decide)) (by decide)) (by decide)) (by decide)) (by decide)) (by decide)) (by decide)) (by decide)) F_11 (by decide)) F_25 (by decide)) F_29 (by decide)), (fun j hj => ((hp_30 j (fun h9 => hj ((by decide : ∀ x ∈ ([47, 48, 53, 61, 65, 68, 69, 81, 82, 83, 84, 85, 88, 89, 90, 91, 93, 94, 95, 96, 97, 98, 99] : List Int), x ∈ ([0, 47, 48, 53, 61, 65, 68, 69, 81, 82, 83, 84, 85, 88, 89, 90, 91, 92, 93, 94, 95, 96, 97, 98, 99] : List Int)) j h9))).trans ((F_25.1 111 (by decide) j).trans ((hp_12 j (fun h9 => hj ((by decide : ∀ x ∈ ([47, 48] : List Int), x ∈ ([0, 47, 48, 53, 61, 65, 68, 69, 81, 82, 83, 84, 85, 88, 89, 90, 91, 92, 93, 94, 95, 96, 97, 98, 99] : List Int)) j h9))).trans ((sv_n _ (fun h9 => hj (by rw [h9.2]; decide))).trans ((sv_n _ (fun h9 => hj (by rw [h9.2]; decide))).trans ((sv_n _ (fun h9 => hj (by rw [h9.2]; decide))).trans ((sv_n _ (fun h9 => hj (by rw [h9.2]; decide))).trans ((sv_n _ (fun h9 => hj (by rw [h9.2]; decide))).trans ((sv_n _ (fun h9 => hj (by rw [h9.2]; decide))).trans ((sv_n _ (fun h9 => hj (by rw [h9.2]; decide))).trans ((sv_n _ (fun h9 => hj (by rw [h9.2]; decide))).trans ((sv_n _ (fun h9 => hj (by rw [h9.2]; decide))).trans ((sv_n _ (fun h9 => hj (by rw [h9.2]; decide))).trans ((sv_n _ (fun h9 => hj (by rw [h9.2]; decide))).trans ((sv_n _ (fun h9 => hj (by rw [h9.2]; decide))).trans ((sv_n _ (fun h9 => hj (by rw [h9.2]; decide))).trans ((sv_n _ (fun h9 => hj (by rw [h9.2]; decide))).trans ((sv_n _ (fun h9 => hj (by rw [h9.2]; decide))).trans ((sv_n _ (fun h9 => hj (by rw [h9.2]; decide))).trans ((sv_n _ (fun h9 => hj (by rw [h9.2]; decide))).trans ((sv_n _ (fun h9 => hj (by rw [h9.2]; decide))).trans ((sv_n _ (fun h9 => hj (by rw [h9.2]; decide))).trans ((hp_4 j (fun h9 => hj ((by decide : ∀ x ∈ ([98, 99] : List Int), x ∈ ([0, 47, 48, 53, 61, 65, 68, 69, 81, 82, 83, 84, 85, 88, 89, 90, 91, 92, 93, 94, 95, 96, 97, 98, 99] : List Int)) j h9))).trans (sv_n _ (fun h9 => hj (by rw [h9.2]; decide))))))))))))))))))))))))))), ⟨⟨hbs_.1.1, hbs_.1.2, by rw [(show μ28.1 111 31 = μ.1 111 31 from ((hp_30 31 (by decide)).trans ((F_25.1 111 (by decide) 31).trans ((hp_12 31 (by decide)).trans ((sv_n _ (by decide)).trans ((sv_n _ (by decide)).trans ((sv_n _ (by decide)).trans ((sv_n _ (by decide)).trans ((sv_n _ (by decide)).trans ((sv_n _ (by decide)).trans ((sv_n _ (by decide)).trans ((sv_n _ (by decide)).trans ((sv_n _ (by decide)).trans ((sv_n _ (by decide)).trans ((sv_n _ (by decide)).trans ((sv_n _ (by decide)).trans ((sv_n _ (by decide)).trans ((sv_n _ (by decide)).trans ((sv_n _ (by decide)).trans ((sv_n _ (by decide)).trans ((sv_n _ (by decide)).trans ((sv_n _ (by decide)).trans ((sv_n _ (by decide)).trans ((hp_4 31 (by decide)).trans (sv_n _ (by decide))))))))))))))))))))))))))]; exact hLI.2.2.1, by rw [(show μ28.1 111 11 = μ.1 111 11 from ((hp_30 11 (by decide)).trans ((F_25.1 111 (by decide) 11).trans ((hp_12 11 (by decide)).trans ((sv_n _ (by decide)).trans ((sv_n _ (by decide)).trans ((sv_n _ (by decide)).trans ((sv_n _ (by decide)).trans ((sv_n _ (by decide)).trans ((sv_n _ (by decide)).trans ((sv_n _ (by decide)).trans ((sv_n _ (by decide)).trans ((sv_n _ (by decide)).trans ((sv_n _ (by decide)).trans ((sv_n _ (by decide)).trans ((sv_n _ (by decide)).trans ((sv_n _ (by decide)).trans ((sv_n _ (by decide)).trans ((sv_n _ (by decide)).trans ((sv_n _ (by decide)).trans ((sv_n _ (by decide)).trans ((sv_n _ (by decide)).trans ((sv_n _ (by decide)).trans ((hp_4 11 (by decide)).trans (sv_n _ (by decide))))))))))))))))))))))))))]; exact hLI.2.2.2.1, by rw [(show μ28.1 111 2 = μ.1 111 2 from ((hp_30 2 (by decide)).trans ((F_25.1 111 (by decide) 2).trans ((hp_12 2 (by decide)).trans ((sv_n _ (by decide)).trans ((sv_n _ (by decide)).trans ((sv_n _ (by decide)).trans ((sv_n _ (by decide)).trans ((sv_n _ (by decide)).trans ((sv_n _ (by decide)).trans ((sv_n _ (by decide)).trans ((sv_n _ (by decide)).trans ((sv_n _ (by decide)).trans ((sv_n _ (by decide)).trans ((sv_n _ (by decide)).trans ((sv_n _ (by decide)).trans ((sv_n _ (by decide)).trans ((sv_n _ (by decide)).trans ((sv_n _ (by decide)).trans ((sv_n _ (by decide)).trans ((sv_n _ (by decide)).trans ((sv_n _ (by decide)).trans ((sv_n _ (by decide)).trans ((hp_4 2 (by decide)).trans (sv_n _ (by decide))))))))))))))))))))))))))]; exact hLI.2.2.2.2.1, hbs_.2.1⟩, hbs_⟩⟩
          · refine lv_iconst (v := iv 4) hx hb dX12_call__45 rfl ?_
            have hbs_ : BASEi μ2 := (hB.mv (Eqa.fr (L := [111]) (FrM.tr (FrM.put FrM.rf (by decide)) F_3 (by decide)) (by decide)) (Eqf.fd (L := [0, 98, 99]) (fun j hj => ((hp_4 j (fun h9 => hj ((by decide : ∀ x ∈ ([98, 99] : List Int), x ∈ ([0, 98, 99] : List Int)) j h9))).trans (sv_n _ (fun h9 => hj (by rw [h9.2]; decide))))) (by decide)))
            exact xr_i G (x := 4) hret hlk (by unfold ir; omega) rfl dX12_call__46 ⟨(FrM.tr (FrM.put FrM.rf (by decide)) F_3 (by decide)), (fun j hj => ((hp_4 j (fun h9 => hj ((by decide : ∀ x ∈ ([98, 99] : List Int), x ∈ ([0, 47, 48, 53, 61, 65, 68, 69, 81, 82, 83, 84, 85, 88, 89, 90, 91, 92, 93, 94, 95, 96, 97, 98, 99] : List Int)) j h9))).trans (sv_n _ (fun h9 => hj (by rw [h9.2]; decide))))), ⟨⟨hbs_.1.1, hbs_.1.2, by rw [(show μ2.1 111 31 = μ.1 111 31 from ((hp_4 31 (by decide)).trans (sv_n _ (by decide))))]; exact hLI.2.2.1, by rw [(show μ2.1 111 11 = μ.1 111 11 from ((hp_4 11 (by decide)).trans (sv_n _ (by decide))))]; exact hLI.2.2.2.1, by rw [(show μ2.1 111 2 = μ.1 111 2 from ((hp_4 2 (by decide)).trans (sv_n _ (by decide))))]; exact hLI.2.2.2.2.1, hbs_.2.1⟩, hbs_⟩⟩
        · refine lv_iconst (v := iv 3) hx hb dX12_call__28 rfl ?_
          have hbs_ : BASEi (sv μ 111 0 0) := (hB.mv (Eqa.fr (L := [111]) (FrM.put FrM.rf (by decide)) (by decide)) (Eqf.fd (L := [0]) (fun j hj => (sv_n _ (fun h9 => hj (by rw [h9.2]; decide)))) (by decide)))
          exact xr_i G (x := 3) hret hlk (by unfold ir; omega) rfl dX12_call__29 ⟨(FrM.put FrM.rf (by decide)), (fun j hj => (sv_n _ (fun h9 => hj (by rw [h9.2]; decide)))), ⟨⟨hbs_.1.1, hbs_.1.2, by rw [(show (sv μ 111 0 0).1 111 31 = μ.1 111 31 from (sv_n _ (by decide)))]; exact hLI.2.2.1, by rw [(show (sv μ 111 0 0).1 111 11 = μ.1 111 11 from (sv_n _ (by decide)))]; exact hLI.2.2.2.1, by rw [(show (sv μ 111 0 0).1 111 2 = μ.1 111 2 from (sv_n _ (by decide)))]; exact hLI.2.2.2.2.1, hbs_.2.1⟩, hbs_⟩⟩
