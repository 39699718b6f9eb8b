abbrev cX7_expression : ByteArray := prog_9_method_39_code
def yX7_expression : MethodName := ⟨RX7, "expression", "(Z)V"⟩
abbrev cX7_unary : ByteArray := prog_9_method_43_code
def yX7_unary : MethodName := ⟨RX7, "unary", "(Z)V"⟩
abbrev cX7_number : ByteArray := prog_9_method_48_code
def yX7_number : MethodName := ⟨RX7, "number", "()V"⟩
abbrev cX7_inBrackets : ByteArray := prog_9_method_49_code
def yX7_inBrackets : MethodName := ⟨RX7, "inBrackets", "(II)V"⟩
abbrev cX7_functionItself : ByteArray := prog_9_method_51_code
def yX7_functionItself : MethodName := ⟨RX7, "functionItself", "()V"⟩
theorem dX7_number_0 : decode cX7_number 0 = .ok (.aload_n 0, 1) := by decide +kernel
theorem dX7_number_1 : decode cX7_number 1 = .ok (.getfield 29, 3) := by decide +kernel
theorem dX7_number_4 : decode cX7_number 4 = .ok (.iconst 3, 1) := by decide +kernel
theorem dX7_number_5 : decode cX7_number 5 = .ok (.if_icmp .ne 7, 3) := by decide +kernel
theorem dX7_number_8 : decode cX7_number 8 = .ok (.iconst 1, 1) := by decide +kernel
theorem dX7_number_9 : decode cX7_number 9 = .ok (.goto 4, 3) := by decide +kernel
theorem dX7_number_12 : decode cX7_number 12 = .ok (.iconst 0, 1) := by decide +kernel
theorem dX7_number_13 : decode cX7_number 13 = .ok (.istore_n 1, 1) := by decide +kernel
theorem dX7_number_14 : decode cX7_number 14 = .ok (.iload_n 1, 1) := by decide +kernel
theorem dX7_number_15 : decode cX7_number 15 = .ok (.ifCond .eq 7, 3) := by decide +kernel
theorem dX7_number_18 : decode cX7_number 18 = .ok (.lconst 0, 1) := by decide +kernel
theorem dX7_number_19 : decode cX7_number 19 = .ok (.goto 10, 3) := by decide +kernel
theorem dX7_number_22 : decode cX7_number 22 = .ok (.aload_n 0, 1) := by decide +kernel
theorem dX7_number_23 : decode cX7_number 23 = .ok (.getfield 43, 3) := by decide +kernel
theorem dX7_number_26 : decode cX7_number 26 = .ok (.getfield 133, 3) := by decide +kernel
theorem dX7_number_29 : decode cX7_number 29 = .ok (.lstore_n 2, 1) := by decide +kernel
theorem dX7_number_30 : decode cX7_number 30 = .ok (.iload_n 1, 1) := by decide +kernel
theorem dX7_number_31 : decode cX7_number 31 = .ok (.ifCond .eq 13, 3) := by decide +kernel
theorem dX7_number_34 : decode cX7_number 34 = .ok (.aload_n 0, 1) := by decide +kernel
theorem dX7_number_35 : decode cX7_number 35 = .ok (.getfield 43, 3) := by decide +kernel
theorem dX7_number_38 : decode cX7_number 38 = .ok (.getfield 304, 3) := by decide +kernel
theorem dX7_number_41 : decode cX7_number 41 = .ok (.goto 4, 3) := by decide +kernel
theorem dX7_number_44 : decode cX7_number 44 = .ok (.dconst 0, 1) := by decide +kernel
theorem dX7_number_45 : decode cX7_number 45 = .ok (.dstore 4, 2) := by decide +kernel
theorem dX7_number_47 : decode cX7_number 47 = .ok (.aload_n 0, 1) := by decide +kernel
theorem dX7_number_48 : decode cX7_number 48 = .ok (.iconst 2, 1) := by decide +kernel
theorem dX7_number_49 : decode cX7_number 49 = .ok (.aload_n 0, 1) := by decide +kernel
theorem dX7_number_50 : decode cX7_number 50 = .ok (.getfield 51, 3) := by decide +kernel
theorem dX7_number_53 : decode cX7_number 53 = .ok (.iconst 1, 1) := by decide +kernel
theorem dX7_number_54 : decode cX7_number 54 = .ok (.lload_n 2, 1) := by decide +kernel
theorem dX7_number_55 : decode cX7_number 55 = .ok (.dload 4, 2) := by decide +kernel
theorem dX7_number_57 : decode cX7_number 57 = .ok (.invokevirtual 310, 3) := by decide +kernel
theorem dX7_number_60 : decode cX7_number 60 = .ok (.iconst 0, 1) := by decide +kernel
theorem dX7_number_61 : decode cX7_number 61 = .ok (.invokevirtual 157, 3) := by decide +kernel
theorem dX7_number_64 : decode cX7_number 64 = .ok (.pop, 1) := by decide +kernel
theorem dX7_number_65 : decode cX7_number 65 = .ok (.aload_n 0, 1) := by decide +kernel
theorem dX7_number_66 : decode cX7_number 66 = .ok (.getfield 43, 3) := by decide +kernel
theorem dX7_number_69 : decode cX7_number 69 = .ok (.invokevirtual 97, 3) := by decide +kernel
theorem dX7_number_72 : decode cX7_number 72 = .ok (.return_, 1) := by decide +kernel
theorem dX7_inBrackets_0 : decode cX7_inBrackets 0 = .ok (.aload_n 0, 1) := by decide +kernel
theorem dX7_inBrackets_1 : decode cX7_inBrackets 1 = .ok (.iload_n 1, 1) := by decide +kernel
theorem dX7_inBrackets_2 : decode cX7_inBrackets 2 = .ok (.invokevirtual 164, 3) := by decide +kernel
theorem dX7_inBrackets_5 : decode cX7_inBrackets 5 = .ok (.aload_n 0, 1) := by decide +kernel
theorem dX7_inBrackets_6 : decode cX7_inBrackets 6 = .ok (.iconst 0, 1) := by decide +kernel
theorem dX7_inBrackets_7 : decode cX7_inBrackets 7 = .ok (.invokevirtual 216, 3) := by decide +kernel
theorem dX7_inBrackets_10 : decode cX7_inBrackets 10 = .ok (.aload_n 0, 1) := by decide +kernel
theorem dX7_inBrackets_11 : decode cX7_inBrackets 11 = .ok (.iload_n 2, 1) := by decide +kernel
theorem dX7_inBrackets_12 : decode cX7_inBrackets 12 = .ok (.invokevirtual 170, 3) := by decide +kernel
theorem dX7_inBrackets_15 : decode cX7_inBrackets 15 = .ok (.return_, 1) := by decide +kernel
theorem dX7_functionItself_0 : decode cX7_functionItself 0 = .ok (.aload_n 0, 1) := by decide +kernel
theorem dX7_functionItself_1 : decode cX7_functionItself 1 = .ok (.getfield 29, 3) := by decide +kernel
theorem dX7_functionItself_4 : decode cX7_functionItself 4 = .ok (.istore_n 1, 1) := by decide +kernel
theorem dX7_functionItself_5 : decode cX7_functionItself 5 = .ok (.aload_n 0, 1) := by decide +kernel
theorem dX7_functionItself_6 : decode cX7_functionItself 6 = .ok (.invokevirtual 294, 3) := by decide +kernel
theorem dX7_functionItself_9 : decode cX7_functionItself 9 = .ok (.ifCond .eq 28, 3) := by decide +kernel
theorem dX7_functionItself_12 : decode cX7_functionItself 12 = .ok (.aload_n 0, 1) := by decide +kernel
theorem dX7_functionItself_13 : decode cX7_functionItself 13 = .ok (.getfield 43, 3) := by decide +kernel
theorem dX7_functionItself_16 : decode cX7_functionItself 16 = .ok (.getfield 80, 3) := by decide +kernel
theorem dX7_functionItself_19 : decode cX7_functionItself 19 = .ok (.sipush 229, 3) := by decide +kernel
theorem dX7_functionItself_22 : decode cX7_functionItself 22 = .ok (.isub, 1) := by decide +kernel
theorem dX7_functionItself_23 : decode cX7_functionItself 23 = .ok (.istore_n 1, 1) := by decide +kernel
theorem dX7_functionItself_24 : decode cX7_functionItself 24 = .ok (.aload_n 0, 1) := by decide +kernel
theorem dX7_functionItself_25 : decode cX7_functionItself 25 = .ok (.getfield 43, 3) := by decide +kernel
theorem dX7_functionItself_28 : decode cX7_functionItself 28 = .ok (.invokevirtual 97, 3) := by decide +kernel
theorem dX7_functionItself_31 : decode cX7_functionItself 31 = .ok (.aload_n 0, 1) := by decide +kernel
theorem dX7_functionItself_32 : decode cX7_functionItself 32 = .ok (.bipush 46, 2) := by decide +kernel
theorem dX7_functionItself_34 : decode cX7_functionItself 34 = .ok (.invokevirtual 100, 3) := by decide +kernel
theorem dX7_functionItself_37 : decode cX7_functionItself 37 = .ok (.aload_n 0, 1) := by decide +kernel
theorem dX7_functionItself_38 : decode cX7_functionItself 38 = .ok (.getfield 43, 3) := by decide +kernel
theorem dX7_functionItself_41 : decode cX7_functionItself 41 = .ok (.getfield 133, 3) := by decide +kernel
theorem dX7_functionItself_44 : decode cX7_functionItself 44 = .ok (.lstore_n 2, 1) := by decide +kernel
theorem dX7_functionItself_45 : decode cX7_functionItself 45 = .ok (.aload_n 0, 1) := by decide +kernel
theorem dX7_functionItself_46 : decode cX7_functionItself 46 = .ok (.iconst 1, 1) := by decide +kernel
theorem dX7_functionItself_47 : decode cX7_functionItself 47 = .ok (.invokevirtual 100, 3) := by decide +kernel
theorem dX7_functionItself_50 : decode cX7_functionItself 50 = .ok (.aload_n 0, 1) := by decide +kernel
theorem dX7_functionItself_51 : decode cX7_functionItself 51 = .ok (.bipush 15, 2) := by decide +kernel
theorem dX7_functionItself_53 : decode cX7_functionItself 53 = .ok (.iload_n 1, 1) := by decide +kernel
theorem dX7_functionItself_54 : decode cX7_functionItself 54 = .ok (.aload_n 0, 1) := by decide +kernel
theorem dX7_functionItself_55 : decode cX7_functionItself 55 = .ok (.getfield 51, 3) := by decide +kernel
theorem dX7_functionItself_58 : decode cX7_functionItself 58 = .ok (.iconst 0, 1) := by decide +kernel
theorem dX7_functionItself_59 : decode cX7_functionItself 59 = .ok (.lload_n 2, 1) := by decide +kernel
theorem dX7_functionItself_60 : decode cX7_functionItself 60 = .ok (.dconst 0, 1) := by decide +kernel
theorem dX7_functionItself_61 : decode cX7_functionItself 61 = .ok (.invokevirtual 310, 3) := by decide +kernel
theorem dX7_functionItself_64 : decode cX7_functionItself 64 = .ok (.invokevirtual 157, 3) := by decide +kernel
theorem dX7_functionItself_67 : decode cX7_functionItself 67 = .ok (.pop, 1) := by decide +kernel
theorem dX7_functionItself_68 : decode cX7_functionItself 68 = .ok (.return_, 1) := by decide +kernel
/-- lists with a Program's places in them -/
def npm (a : Int → Int) (L : Int → List Int) : Bool := [(13 : Int), 71, 81, 91, 101].all (fun p => !(L p).contains (a p))
theorem ni {P : Int} (hp : isPr P) (a : Int → Int) (L : Int → List Int) (h : npm a L = true) : a P ∉ L P := by
  have h2 : ∀ p ∈ [(13 : Int), 71, 81, 91, 101], a p ∉ L p := by
    intro p q
    have := List.all_eq_true.1 h p q
    simpa using this
  rcases hp with rfl | rfl | rfl | rfl | rfl
  · exact h2 _ (by decide)
  · exact h2 _ (by decide)
  · exact h2 _ (by decide)
  · exact h2 _ (by decide)
  · exact h2 _ (by decide)
def sbm (K L : Int → List Int) : Bool := [(13 : Int), 71, 81, 91, 101].all (fun p => (K p).all (fun b => (L p).contains b))
theorem si {P : Int} (hp : isPr P) (K L : Int → List Int) (h : sbm K L = true) : ∀ b ∈ K P, b ∈ L P := by
  have h2 : ∀ p ∈ [(13 : Int), 71, 81, 91, 101], ∀ b ∈ K p, b ∈ L p := by
    intro p q b hb
    have := List.all_eq_true.1 (List.all_eq_true.1 h p q) b hb
    simpa using this
  rcases hp with rfl | rfl | rfl | rfl | rfl
  · exact h2 _ (by decide)
  · exact h2 _ (by decide)
  · exact h2 _ (by decide)
  · exact h2 _ (by decide)
  · exact h2 _ (by decide)
theorem sfr {F a b : Nat} (h : a + 1 ≤ b) : Nat.ble (F + a + 1) (F + b) = true := Nat.ble_eq_true_of_le (by omega)
theorem slo {L m a b : Nat} (h : 8 + (m + 11) + a ≤ b) : Nat.ble (8 + (m + 11) + (L + a)) (L + b) = true := Nat.ble_eq_true_of_le (by omega)
theorem nfr {F b m : Nat} (hF : 60 ≤ F) (h : m + 1 ≤ 60) : Nat.ble (m + 1) (F + b) = true := Nat.ble_eq_true_of_le (by omega)
theorem nlo {L m a b : Nat} (hL : 2000 ≤ L) (h : 8 + (m + 11) + a ≤ 2000) : Nat.ble (8 + (m + 11) + a) (L + b) = true := Nat.ble_eq_true_of_le (by omega)
set_option maxHeartbeats 4000000 in
set_option maxRecDepth 100000 in
theorem c_X7_inBrackets (ω : Om) (l : Launch) (μ : M3) (x1 : Int) (x2 : Int) (F : Nat) (Lo : Nat) (kf : Int) (P : Int) (tt : Int) (hx1 : ir x1) (hx2 : ir x2) (hI : IC μ) (hP : P = μ.1 23 2) (htt : tt = μ.1 23 8) (hF : 60 ≤ F) (hLo : 2000 ≤ Lo) (hE : ∀ (μ : M3) (x1 : Int) (P : Int) (tt : Int) (hx1 : x1 = 0 ∨ x1 = 1) (hI : IC μ) (hP : P = μ.1 23 2) (htt : tt = μ.1 23 8) (hTK : TK μ) (hB : μ.1 P 1 ≤ 2 * μ.1 26 10 + 100 + 40 * μ.1 26 11) (hKc : μ.1 (P + 2) 3 ≤ μ.1 P 1) (hdp : 0 ≤ μ.1 23 9 ∧ μ.1 23 9 ≤ 8 + μ.1 26 11) (hfu : (μ.1 26 11 = 1 ∧ 0 ≤ (kf - 1)) ∨ 9 ≤ μ.1 23 9 + (kf - 1)) (hbg : x1 = 0 ∨ μ.1 26 11 ≠ 0 ∨ 2 ≤ hs μ P (μ.1 P 1)), CtV ω l yX7_expression cX7_expression 3 (F + 0) (Lo + 0) [.ref (oP ω 23), .int (iv x1)] μ (fun (μ' : M3) => (Fr [2, 3, 4, 23, 24, 26, P, P + 1, P + 2, (P + 2) + 1, (P + 2) + 2, (P + 2) + 3] μ μ') ∧ (IC μ') ∧ (TK μ') ∧ (μ.1 26 11 ≤ μ'.1 26 11) ∧ (μ.1 26 10 ≤ μ'.1 26 10) ∧ (μ.1 P 1 ≤ μ'.1 P 1 ∧ μ'.1 P 1 ≤ μ.1 P 1 + 2 * (μ'.1 26 10 - μ.1 26 10) + (- 1 + 3 * μ'.1 26 11 - 2 * μ.1 26 11 + x1)) ∧ (μ'.1 (P + 2) 3 - μ.1 (P + 2) 3 ≤ μ'.1 P 1 - μ.1 P 1 ∧ μ.1 (P + 2) 3 ≤ μ'.1 (P + 2) 3) ∧ (μ'.1 26 11 = 0 → EX μ μ' P tt (1 - x1) 0) ∧ (μ'.1 23 2 = μ.1 23 2) ∧ (μ'.1 23 5 = μ.1 23 5) ∧ (μ'.1 23 6 = μ.1 23 6) ∧ (μ'.1 23 7 = μ.1 23 7) ∧ (μ'.1 23 8 = μ.1 23 8) ∧ (μ'.1 23 9 = μ.1 23 9) ∧ (μ'.1 23 10 = μ.1 23 10) ∧ (μ'.1 26 6 = μ.1 26 6) ∧ (μ'.1 P 7 = μ.1 P 7))) (hU : ∀ (μ : M3) (x1 : Int) (P : Int) (tt : Int) (hx1 : x1 = 0 ∨ x1 = 1) (hI : IC μ) (hP : P = μ.1 23 2) (htt : tt = μ.1 23 8) (hTK : TK μ) (hB : μ.1 P 1 ≤ 2 * μ.1 26 10 + 100 + 40 * μ.1 26 11) (hKc : μ.1 (P + 2) 3 ≤ μ.1 P 1) (hdp : 0 ≤ μ.1 23 9 ∧ μ.1 23 9 ≤ 8 + μ.1 26 11) (hfu : (μ.1 26 11 = 1 ∧ 0 ≤ (kf - 1)) ∨ 9 ≤ μ.1 23 9 + (kf - 1)) (hbg : x1 = 0 ∨ μ.1 26 11 ≠ 0 ∨ 2 ≤ hs μ P (μ.1 P 1)), CtV ω l yX7_unary cX7_unary 2 (F + 0) (Lo + 0) [.ref (oP ω 23), .int (iv x1)] μ (fun (μ' : M3) => (Fr [2, 3, 4, 23, 24, 26, P, P + 1, P + 2, (P + 2) + 1, (P + 2) + 2, (P + 2) + 3] μ μ') ∧ (IC μ') ∧ (TK μ') ∧ (μ.1 26 11 ≤ μ'.1 26 11) ∧ (μ.1 26 10 ≤ μ'.1 26 10) ∧ (μ.1 P 1 ≤ μ'.1 P 1 ∧ μ'.1 P 1 ≤ μ.1 P 1 + 2 * (μ'.1 26 10 - μ.1 26 10) + (- 1 + 3 * μ'.1 26 11 - 2 * μ.1 26 11 + x1)) ∧ (μ'.1 (P + 2) 3 - μ.1 (P + 2) 3 ≤ μ'.1 P 1 - μ.1 P 1 ∧ μ.1 (P + 2) 3 ≤ μ'.1 (P + 2) 3) ∧ (μ'.1 26 11 = 0 → EX μ μ' P tt (1 - x1) 0) ∧ (μ'.1 23 2 = μ.1 23 2) ∧ (μ'.1 23 5 = μ.1 23 5) ∧ (μ'.1 23 6 = μ.1 23 6) ∧ (μ'.1 23 7 = μ.1 23 7) ∧ (μ'.1 23 8 = μ.1 23 8) ∧ (μ'.1 23 9 = μ.1 23 9) ∧ (μ'.1 23 10 = μ.1 23 10) ∧ (μ'.1 26 6 = μ.1 26 6) ∧ (μ'.1 P 7 = μ.1 P 7))) (hTK : TK μ) (hB : μ.1 P 1 ≤ 2 * μ.1 26 10 + 100 + 40 * μ.1 26 11) (hKc : μ.1 (P + 2) 3 ≤ μ.1 P 1) (hdp : 0 ≤ μ.1 23 9 ∧ μ.1 23 9 ≤ 8) (hfu : 9 ≤ μ.1 23 9 + kf) (hk1 : x1 ≠ 0 ∧ x1 ≠ 3) (hk2 : x2 ≠ 0 ∧ x2 ≠ 3) : CtV ω l yX7_inBrackets cX7_inBrackets 3 (F + 1) (Lo + 22) [.ref (oP ω 23), .int (iv x1), .int (iv x2)] μ (fun (μ' : M3) => (Fr [2, 3, 4, 23, 24, 26, P, P + 1, P + 2, (P + 2) + 1, (P + 2) + 2, (P + 2) + 3] μ μ') ∧ (IC μ') ∧ (TK μ') ∧ (μ.1 26 11 ≤ μ'.1 26 11) ∧ (μ.1 26 10 ≤ μ'.1 26 10) ∧ (μ.1 P 1 ≤ μ'.1 P 1 ∧ μ'.1 P 1 ≤ μ.1 P 1 + 2 * (μ'.1 26 10 - μ.1 26 10) + (- 5 + 5 * μ'.1 26 11)) ∧ (μ'.1 (P + 2) 3 - μ.1 (P + 2) 3 ≤ μ'.1 P 1 - μ.1 P 1 ∧ μ.1 (P + 2) 3 ≤ μ'.1 (P + 2) 3) ∧ (μ'.1 26 11 = 0 → EX μ μ' P tt 1 0) ∧ (μ'.1 23 2 = μ.1 23 2) ∧ (μ'.1 23 5 = μ.1 23 5) ∧ (μ'.1 23 6 = μ.1 23 6) ∧ (μ'.1 23 7 = μ.1 23 7) ∧ (μ'.1 23 8 = μ.1 23 8) ∧ (μ'.1 23 9 = μ.1 23 9) ∧ (μ'.1 23 10 = μ.1 23 10) ∧ (μ'.1 26 6 = μ.1 26 6) ∧ (μ'.1 P 7 = μ.1 P 7)) := by
  refine CtV.go (by decide) (Nat.le_of_ble_eq_true rfl) (fun ρ p e s m below meth c R ls G hR hret hlk hl => ?_)
  have hx := G.1.1
  have hb := G.1.2.1
  have hl : lv_has ls 3 [(0, .ref (oP ω 23)), (1, .int (iv x1)), (2, .int (iv x2))] := hl
  generalize s.drawn = d0 at G ⊢
  have hr_x1 : -2147483648 ≤ x1 ∧ x1 ≤ 2147483647 := hx1
  have hr_x2 : -2147483648 ≤ x2 ∧ x2 ≤ 2147483647 := hx2
  have hTKb := hTK.b
  have hprP : isPr P := by have h9 := G.sr0.2.2.2.2.2; rw [← hP] at h9; exact h9
  have hprP_d : 13 ≤ P ∧ P ≤ 101 := by rcases hprP with h9 | h9 | h9 | h9 | h9 <;> omega
  have hk_1 := hI.pr (p := P) hprP
  unfold pk at hk_1
  have hc_2 : 16 ≤ μ.2.1 (P + 1) ∧ μ.2.1 (P + 1) ≤ 73024 := hI.rm.1 _ hprP.cap
  have hnil : μ.1 26 11 = 0 → PXE μ μ P tt 0 (-1) 1 := fun _ => PXE.nil (by omega)
  refine lv_aload_n hx hb dX7_inBrackets_0 rfl (lv_at hl 0 rfl) ?_
  refine lv_iload_n hx hb dX7_inBrackets_1 rfl (lv_at hl 1 rfl) ?_
  have hn_3 : -1 ≤ μ.1 26 10 ∧ μ.1 26 10 ≤ 3000 := hI.nm.2.2.2.2.2.2.2.2.2.2.2.2
  have hn_4 : 0 ≤ μ.1 26 6 ∧ μ.1 26 6 ≤ 3001 := hI.nm.2.2.2.2.2.2.2.2.2.1
  have hn_5 : 0 ≤ μ.1 26 7 ∧ μ.1 26 7 ≤ 3000 := hI.nm.2.2.2.2.2.2.2.2.2.2.1
  have hn_6 : 0 ≤ μ.1 26 9 ∧ μ.1 26 9 ≤ 3000 := hI.nm.2.2.2.2.2.2.2.2.2.2.2.1
  have e_7 : μ.1 23 2 = P := hP.symm
  have hn_8 : 0 ≤ μ.1 23 5 ∧ μ.1 23 5 ≤ 1000 := hI.nm.2.2.2.2.2.2.2.2.1
  have e_9 : μ.1 23 8 = tt := htt.symm
  refine xc_vV G (b := 23) (rest := []) (As := [.int (iv x1)]) (c_X7_needOpen ω l μ x1 (by unfold ir; omega) hI hTK (by omega) (by omega)) (wm 3 197 rfl rfl) (wm 3 199 rfl rfl) (wm 0 14 rfl rfl) rfl rfl (by decide) rfl (wm 1 12 rfl rfl) (wm 3 200 rfl rfl) (by decide) hR ⟨nfr hF (by decide), nlo hLo (by decide)⟩ (n := 1) rfl rfl (Nat.le_of_ble_eq_true rfl) hl.1 dX7_inBrackets_2 (fun μ10 ρ d0 H locs hp G => ?_)
  obtain ⟨F_11, hI_12, hp_13, hp_14, hp_15, hp_16, hs_17, hs_18, hs_19, hs_20, hs_21, hs_22, hs_23, hs_24, hs_25, hs_26, hs_27⟩ := hp
  have hn_28 : -1 ≤ μ10.1 26 10 ∧ μ10.1 26 10 ≤ 3000 := hI_12.nm.2.2.2.2.2.2.2.2.2.2.2.2
  have htb_29 := hp_13.b
  refine lv_aload_n hx hb dX7_inBrackets_5 rfl (lv_at hl 0 rfl) ?_
  refine lv_iconst (v := iv 0) hx hb dX7_inBrackets_6 rfl ?_
  have hpx_30 : μ10.1 26 11 = 0 → PXE μ μ10 P tt 0 (-1) 1 := fun h0 => (hnil (by have h9 : μ.1 26 11 = μ.1 26 11 := rfl; have h8 : μ10.1 26 11 = μ10.1 26 11 := rfl; omega)).fr (K := [26, 23]) (Fr.tr Fr.rf F_11 (by decide)) (npL_p (L := [26, 23]) (by decide) hprP).1 (npL_p (L := [26, 23]) (by decide) hprP).2.1
  have e_31 : μ10.1 23 2 = P := (hs_22.trans hP.symm)
  have e_32 : μ10.1 23 8 = tt := (hs_26.trans htt.symm)
  have e_33 : μ10.1 P 1 = μ.1 P 1 := (F_11.1 P (ni hprP (fun P => P) (fun P => [26, 23]) rfl) 1)
  have hk_34 := hI.row (r := P + 2) (hprP.row)
  unfold rk at hk_34
  have e_35 : μ10.1 (P + 2) 3 = μ.1 (P + 2) 3 := (F_11.1 (P + 2) (ni hprP (fun P => P + 2) (fun P => [26, 23]) rfl) 3)
  have e_36 : μ10.1 P 1 = μ.1 P 1 := (F_11.1 P (ni hprP (fun P => P) (fun P => [26, 23]) rfl) 1)
  have e_37 : μ10.1 23 9 = μ.1 23 9 + 1 := hs_17
  have e_38 : μ10.1 23 9 = μ.1 23 9 + 1 := hs_17
  have e_39 : μ10.1 23 9 = μ.1 23 9 + 1 := hs_17
  have e_40 : μ10.1 P 1 = μ.1 P 1 := (F_11.1 P (ni hprP (fun P => P) (fun P => [26, 23]) rfl) 1)
  have e_41 : μ10.1 P 1 = μ.1 P 1 := (F_11.1 P (ni hprP (fun P => P) (fun P => [26, 23]) rfl) 1)
  have e_42 : μ10.1 P 1 = μ.1 P 1 := (F_11.1 P (ni hprP (fun P => P) (fun P => [26, 23]) rfl) 1)
  have e_43 : μ10.1 (P + 2) 3 = μ.1 (P + 2) 3 := (F_11.1 (P + 2) (ni hprP (fun P => P + 2) (fun P => [26, 23]) rfl) 3)
  have e_44 : μ10.1 P 1 = μ.1 P 1 := (F_11.1 P (ni hprP (fun P => P) (fun P => [26, 23]) rfl) 1)
  have e_45 : μ10.1 (P + 2) 3 = μ.1 (P + 2) 3 := (F_11.1 (P + 2) (ni hprP (fun P => P + 2) (fun P => [26, 23]) rfl) 3)
  have e_46 : μ10.1 23 2 = P := (hs_22.trans hP.symm)
  have e_47 : μ10.1 23 5 = μ.1 23 5 := hs_23
  have e_48 : μ10.1 23 6 = μ.1 23 6 := hs_24
  have e_49 : μ10.1 23 7 = μ.1 23 7 := hs_25
  have e_50 : μ10.1 23 8 = tt := (hs_26.trans htt.symm)
  have e_51 : μ10.1 23 9 = μ.1 23 9 + 1 := hs_17
  have e_52 : μ10.1 23 10 = μ.1 23 10 := hs_27
  have e_53 : μ10.1 26 6 = μ.1 26 6 := hs_18
  have e_54 : μ10.1 P 7 = μ.1 P 7 := (F_11.1 P (ni hprP (fun P => P) (fun P => [26, 23]) rfl) 7)
  refine xc_vV G (b := 23) (rest := []) (As := [.int (iv 0)]) (((fun (_ : Om) (_ : Launch) => hE)) ω l μ10 0 P tt (by omega) hI_12 (by omega) (by omega) hp_13 (by omega) (by omega) (by omega) (by omega) (by omega)) (wm 4 3 rfl rfl) (wm 4 5 rfl rfl) (wm 0 24 rfl rfl) rfl rfl (by decide) rfl (wm 1 12 rfl rfl) (wm 4 6 rfl rfl) (by decide) hR ⟨sfr (F := F) (a := 0) (by decide), slo (L := Lo) (m := 3) (a := 0) (by decide)⟩ (n := 1) rfl rfl (Nat.le_of_ble_eq_true rfl) hl.1 dX7_inBrackets_7 (fun μ55 ρ d0 H locs hp G => ?_)
  obtain ⟨F_56, hI_57, hp_58, hp_59, hp_60, hp_61, hp_62, hp_63, hs_64, hs_65, hs_66, hs_67, hs_68, hs_69, hs_70, hs_71, hs_72⟩ := hp
  have hn_73 : -1 ≤ μ55.1 26 10 ∧ μ55.1 26 10 ≤ 3000 := hI_57.nm.2.2.2.2.2.2.2.2.2.2.2.2
  have hk_74 := hI_57.pr (p := P) hprP
  unfold pk at hk_74
  have hc_75 : 16 ≤ μ55.2.1 (P + 1) ∧ μ55.2.1 (P + 1) ≤ 73024 := hI_57.rm.1 _ hprP.cap
  have hk_76 := hI_57.row (r := P + 2) (hprP.row)
  unfold rk at hk_76
  have htb_77 := hp_58.b
  have hpx_78 : μ55.1 26 11 = 0 → PXE μ μ55 P tt (0 + (1 - 0)) (-1) 1 := fun h0 => (PXE.app (hpx_30 (by have h9 : μ10.1 26 11 = μ10.1 26 11 := rfl; have h8 : μ55.1 26 11 = μ55.1 26 11 := rfl; omega)) (hp_63 h0)).e (by omega)
  refine lv_aload_n hx hb dX7_inBrackets_10 rfl (lv_at hl 0 rfl) ?_
  refine lv_iload_n hx hb dX7_inBrackets_11 rfl (lv_at hl 2 rfl) ?_
  have e_79 : μ55.1 23 9 = μ.1 23 9 + 1 := (hs_69.trans hs_17)
  have e_80 : μ55.1 23 9 = μ.1 23 9 + 1 := (hs_69.trans hs_17)
  have e_81 : μ55.1 23 9 = μ.1 23 9 + 1 := (hs_69.trans hs_17)
  have e_82 : μ55.1 26 6 = μ.1 26 6 := (hs_71.trans hs_18)
  have hn_83 : 0 ≤ μ55.1 26 7 ∧ μ55.1 26 7 ≤ 3000 := hI_57.nm.2.2.2.2.2.2.2.2.2.2.1
  have hn_84 : 0 ≤ μ55.1 26 9 ∧ μ55.1 26 9 ≤ 3000 := hI_57.nm.2.2.2.2.2.2.2.2.2.2.2.1
  have e_85 : μ55.1 23 2 = P := (hs_64.trans (hs_22.trans hP.symm))
  have e_86 : μ55.1 23 5 = μ.1 23 5 := (hs_65.trans hs_23)
  have e_87 : μ55.1 23 6 = μ.1 23 6 := (hs_66.trans hs_24)
  have e_88 : μ55.1 23 7 = μ.1 23 7 := (hs_67.trans hs_25)
  have e_89 : μ55.1 23 8 = tt := (hs_68.trans (hs_26.trans htt.symm))
  have e_90 : μ55.1 23 10 = μ.1 23 10 := (hs_70.trans hs_27)
  refine xc_vV G (b := 23) (rest := []) (As := [.int (iv x2)]) (c_X7_needClosed ω l μ55 x2 (by unfold ir; omega) hI_57 hp_58 (by omega) (by omega)) (wm 3 214 rfl rfl) (wm 3 216 rfl rfl) (wm 0 18 rfl rfl) rfl rfl (by decide) rfl (wm 1 12 rfl rfl) (wm 3 217 rfl rfl) (by decide) hR ⟨nfr hF (by decide), nlo hLo (by decide)⟩ (n := 1) rfl rfl (Nat.le_of_ble_eq_true rfl) hl.1 dX7_inBrackets_12 (fun μ91 ρ d0 H locs hp G => ?_)
  obtain ⟨F_92, hI_93, hp_94, hp_95, hp_96, hs_97, hs_98, hs_99, hs_100, hs_101, hs_102, hs_103, hs_104, hs_105, hs_106, hs_107⟩ := hp
  have hn_108 : -1 ≤ μ91.1 26 10 ∧ μ91.1 26 10 ≤ 3000 := hI_93.nm.2.2.2.2.2.2.2.2.2.2.2.2
  have htb_109 := hp_94.b
  have hpx_110 : μ91.1 26 11 = 0 → PXE μ μ91 P tt (0 + (1 - 0)) (-1) 1 := fun h0 => (hpx_78 (by have h9 : μ55.1 26 11 = μ55.1 26 11 := rfl; have h8 : μ91.1 26 11 = μ91.1 26 11 := rfl; omega)).fr (K := [26, 23]) (Fr.tr Fr.rf F_92 (by decide)) (npL_p (L := [26, 23]) (by decide) hprP).1 (npL_p (L := [26, 23]) (by decide) hprP).2.1
  have e_111 : μ91.1 P 1 = μ55.1 P 1 := (F_92.1 P (ni hprP (fun P => P) (fun P => [26, 23]) rfl) 1)
  have e_112 : μ91.1 P 1 = μ55.1 P 1 := (F_92.1 P (ni hprP (fun P => P) (fun P => [26, 23]) rfl) 1)
  have e_113 : μ91.1 (P + 2) 3 = μ55.1 (P + 2) 3 := (F_92.1 (P + 2) (ni hprP (fun P => P + 2) (fun P => [26, 23]) rfl) 3)
  have e_114 : μ91.1 P 1 = μ55.1 P 1 := (F_92.1 P (ni hprP (fun P => P) (fun P => [26, 23]) rfl) 1)
  have e_115 : μ91.1 (P + 2) 3 = μ55.1 (P + 2) 3 := (F_92.1 (P + 2) (ni hprP (fun P => P + 2) (fun P => [26, 23]) rfl) 3)
  have e_116 : μ91.1 23 2 = P := (hs_102.trans (hs_64.trans (hs_22.trans hP.symm)))
  have e_117 : μ91.1 23 5 = μ.1 23 5 := (hs_103.trans (hs_65.trans hs_23))
  have e_118 : μ91.1 23 6 = μ.1 23 6 := (hs_104.trans (hs_66.trans hs_24))
  have e_119 : μ91.1 23 7 = μ.1 23 7 := (hs_105.trans (hs_67.trans hs_25))
  have e_120 : μ91.1 23 8 = tt := (hs_106.trans (hs_68.trans (hs_26.trans htt.symm)))
  have e_121 : μ91.1 23 9 = μ55.1 23 9 - 1 := hs_97
  have e_122 : μ91.1 23 10 = μ.1 23 10 := (hs_107.trans (hs_70.trans hs_27))
  have e_123 : μ91.1 26 6 = μ.1 26 6 := (hs_98.trans (hs_71.trans hs_18))
  have e_124 : μ91.1 P 7 = μ.1 P 7 := ((F_92.1 P (ni hprP (fun P => P) (fun P => [26, 23]) rfl) 7).trans (hs_72.trans (F_11.1 P (ni hprP (fun P => P) (fun P => [26, 23]) rfl) 7)))
  exact xr_v G hret hlk dX7_inBrackets_15 ⟨(Fr.tr (Fr.tr (Fr.tr Fr.rf F_11 (si hprP (fun P => [26, 23]) (fun P => [2, 3, 4, 23, 24, 26, P, P + 1, P + 2, (P + 2) + 1, (P + 2) + 2, (P + 2) + 3]) rfl)) F_56 (si hprP (fun P => [2, 3, 4, 23, 24, 26, P, P + 1, P + 2, (P + 2) + 1, (P + 2) + 2, (P + 2) + 3]) (fun P => [2, 3, 4, 23, 24, 26, P, P + 1, P + 2, (P + 2) + 1, (P + 2) + 2, (P + 2) + 3]) rfl)) F_92 (si hprP (fun P => [26, 23]) (fun P => [2, 3, 4, 23, 24, 26, P, P + 1, P + 2, (P + 2) + 1, (P + 2) + 2, (P + 2) + 3]) rfl)), hI_93, hp_94, (by omega), (by omega), (by omega), (by omega), (fun h0 => (PXE.ex (hpx_110 h0)).e (by omega)), (by omega), (by omega), (by omega), (by omega), (by omega), (by omega), (by omega), (by omega), (by omega)⟩

set_option maxHeartbeats 4000000 in
set_option maxRecDepth 100000 in
theorem c_X7_number (ω : Om) (l : Launch) (μ : M3) (F : Nat) (Lo : Nat) (kf : Int) (P : Int) (tt : Int) (hI : IC μ) (hP : P = μ.1 23 2) (htt : tt = μ.1 23 8) (hF : 60 ≤ F) (hLo : 2000 ≤ Lo) (hE : ∀ (μ : M3) (x1 : Int) (P : Int) (tt : Int) (hx1 : x1 = 0 ∨ x1 = 1) (hI : IC μ) (hP : P = μ.1 23 2) (htt : tt = μ.1 23 8) (hTK : TK μ) (hB : μ.1 P 1 ≤ 2 * μ.1 26 10 + 100 + 40 * μ.1 26 11) (hKc : μ.1 (P + 2) 3 ≤ μ.1 P 1) (hdp : 0 ≤ μ.1 23 9 ∧ μ.1 23 9 ≤ 8 + μ.1 26 11) (hfu : (μ.1 26 11 = 1 ∧ 0 ≤ (kf - 1)) ∨ 9 ≤ μ.1 23 9 + (kf - 1)) (hbg : x1 = 0 ∨ μ.1 26 11 ≠ 0 ∨ 2 ≤ hs μ P (μ.1 P 1)), CtV ω l yX7_expression cX7_expression 3 (F + 0) (Lo + 0) [.ref (oP ω 23), .int (iv x1)] μ (fun (μ' : M3) => (Fr [2, 3, 4, 23, 24, 26, P, P + 1, P + 2, (P + 2) + 1, (P + 2) + 2, (P + 2) + 3] μ μ') ∧ (IC μ') ∧ (TK μ') ∧ (μ.1 26 11 ≤ μ'.1 26 11) ∧ (μ.1 26 10 ≤ μ'.1 26 10) ∧ (μ.1 P 1 ≤ μ'.1 P 1 ∧ μ'.1 P 1 ≤ μ.1 P 1 + 2 * (μ'.1 26 10 - μ.1 26 10) + (- 1 + 3 * μ'.1 26 11 - 2 * μ.1 26 11 + x1)) ∧ (μ'.1 (P + 2) 3 - μ.1 (P + 2) 3 ≤ μ'.1 P 1 - μ.1 P 1 ∧ μ.1 (P + 2) 3 ≤ μ'.1 (P + 2) 3) ∧ (μ'.1 26 11 = 0 → EX μ μ' P tt (1 - x1) 0) ∧ (μ'.1 23 2 = μ.1 23 2) ∧ (μ'.1 23 5 = μ.1 23 5) ∧ (μ'.1 23 6 = μ.1 23 6) ∧ (μ'.1 23 7 = μ.1 23 7) ∧ (μ'.1 23 8 = μ.1 23 8) ∧ (μ'.1 23 9 = μ.1 23 9) ∧ (μ'.1 23 10 = μ.1 23 10) ∧ (μ'.1 26 6 = μ.1 26 6) ∧ (μ'.1 P 7 = μ.1 P 7))) (hU : ∀ (μ : M3) (x1 : Int) (P : Int) (tt : Int) (hx1 : x1 = 0 ∨ x1 = 1) (hI : IC μ) (hP : P = μ.1 23 2) (htt : tt = μ.1 23 8) (hTK : TK μ) (hB : μ.1 P 1 ≤ 2 * μ.1 26 10 + 100 + 40 * μ.1 26 11) (hKc : μ.1 (P + 2) 3 ≤ μ.1 P 1) (hdp : 0 ≤ μ.1 23 9 ∧ μ.1 23 9 ≤ 8 + μ.1 26 11) (hfu : (μ.1 26 11 = 1 ∧ 0 ≤ (kf - 1)) ∨ 9 ≤ μ.1 23 9 + (kf - 1)) (hbg : x1 = 0 ∨ μ.1 26 11 ≠ 0 ∨ 2 ≤ hs μ P (μ.1 P 1)), CtV ω l yX7_unary cX7_unary 2 (F + 0) (Lo + 0) [.ref (oP ω 23), .int (iv x1)] μ (fun (μ' : M3) => (Fr [2, 3, 4, 23, 24, 26, P, P + 1, P + 2, (P + 2) + 1, (P + 2) + 2, (P + 2) + 3] μ μ') ∧ (IC μ') ∧ (TK μ') ∧ (μ.1 26 11 ≤ μ'.1 26 11) ∧ (μ.1 26 10 ≤ μ'.1 26 10) ∧ (μ.1 P 1 ≤ μ'.1 P 1 ∧ μ'.1 P 1 ≤ μ.1 P 1 + 2 * (μ'.1 26 10 - μ.1 26 10) + (- 1 + 3 * μ'.1 26 11 - 2 * μ.1 26 11 + x1)) ∧ (μ'.1 (P + 2) 3 - μ.1 (P + 2) 3 ≤ μ'.1 P 1 - μ.1 P 1 ∧ μ.1 (P + 2) 3 ≤ μ'.1 (P + 2) 3) ∧ (μ'.1 26 11 = 0 → EX μ μ' P tt (1 - x1) 0) ∧ (μ'.1 23 2 = μ.1 23 2) ∧ (μ'.1 23 5 = μ.1 23 5) ∧ (μ'.1 23 6 = μ.1 23 6) ∧ (μ'.1 23 7 = μ.1 23 7) ∧ (μ'.1 23 8 = μ.1 23 8) ∧ (μ'.1 23 9 = μ.1 23 9) ∧ (μ'.1 23 10 = μ.1 23 10) ∧ (μ'.1 26 6 = μ.1 26 6) ∧ (μ'.1 P 7 = μ.1 P 7))) (hTK : TK μ) (hB : μ.1 P 1 ≤ 2 * μ.1 26 10 + 100 + 40 * μ.1 26 11) (hKc : μ.1 (P + 2) 3 ≤ μ.1 P 1) (hdp : 0 ≤ μ.1 23 9 ∧ μ.1 23 9 ≤ 8) (hfu : 9 ≤ μ.1 23 9 + kf) (hkd : μ.1 26 12 = 2) : CtV ω l yX7_number cX7_number 6 (F + 0) (Lo + 0) [.ref (oP ω 23)] μ (fun (μ' : M3) => (Fr [2, 3, 4, 23, 24, 26, P, P + 1, P + 2, (P + 2) + 1, (P + 2) + 2, (P + 2) + 3] μ μ') ∧ (IC μ') ∧ (TK μ') ∧ (μ.1 26 11 ≤ μ'.1 26 11) ∧ (μ.1 26 10 ≤ μ'.1 26 10) ∧ (μ.1 P 1 ≤ μ'.1 P 1 ∧ μ'.1 P 1 ≤ μ.1 P 1 + 2 * (μ'.1 26 10 - μ.1 26 10) + (- 1 + 3 * μ'.1 26 11 - 2 * μ.1 26 11)) ∧ (μ'.1 (P + 2) 3 - μ.1 (P + 2) 3 ≤ μ'.1 P 1 - μ.1 P 1 ∧ μ.1 (P + 2) 3 ≤ μ'.1 (P + 2) 3) ∧ (μ'.1 26 11 = 0 → EX μ μ' P tt 1 0) ∧ (μ'.1 23 2 = μ.1 23 2) ∧ (μ'.1 23 5 = μ.1 23 5) ∧ (μ'.1 23 6 = μ.1 23 6) ∧ (μ'.1 23 7 = μ.1 23 7) ∧ (μ'.1 23 8 = μ.1 23 8) ∧ (μ'.1 23 9 = μ.1 23 9) ∧ (μ'.1 23 10 = μ.1 23 10) ∧ (μ'.1 26 6 = μ.1 26 6) ∧ (μ'.1 P 7 = μ.1 P 7)) := by
  refine CtV.go (by decide) (Nat.le_of_ble_eq_true rfl) (fun ρ p e s m below meth c R ls G hR hret hlk hl => ?_)
  have hx := G.1.1
  have hb := G.1.2.1
  have hl : lv_has ls 6 [(0, .ref (oP ω 23))] := hl
  generalize s.drawn = d0 at G ⊢
  have hTKb := hTK.b
  have hprP : isPr P := by have h9 := G.sr0.2.2.2.2.2; rw [← hP] at h9; exact h9
  have hprP_d : 13 ≤ P ∧ P ≤ 101 := by rcases hprP with h9 | h9 | h9 | h9 | h9 <;> omega
  have hk_1 := hI.pr (p := P) hprP
  unfold pk at hk_1
  have hc_2 : 16 ≤ μ.2.1 (P + 1) ∧ μ.2.1 (P + 1) ≤ 73024 := hI.rm.1 _ hprP.cap
  have hnil : μ.1 26 11 = 0 → PXE μ μ P tt 0 (-1) 1 := fun _ => PXE.nil (by omega)
  refine lv_aload_n hx hb dX7_number_0 rfl (lv_at hl 0 rfl) ?_
  refine xa_geti G fd_X7 (a := 23) (x := tt) 8 rfl (by decide) rfl (wm 2 25 rfl rfl) ⟨rfl, rfl, rfl⟩ dX7_number_1 rfl htt.symm ?_
  have hr_3 : -2147483648 ≤ tt ∧ tt ≤ 2147483647 := by have h9 := G.hr (a := 23) (k := 8) rfl; rw [show μ.1 23 8 = tt from htt.symm] at h9; exact h9
  refine lv_iconst (v := iv 3) hx hb dX7_number_4 rfl ?_
  refine xb_icmp_ne (tgt := 12) hx hb (by unfold ir; omega) (by unfold ir; omega) dX7_number_5 (by decide) (fun c_5 => ?_) (fun c_5 => ?_)
  · refine lv_iconst (v := iv 0) hx hb dX7_number_12 rfl ?_
    refine lv_istore_n (lv' := [(1, .int (iv 0)), (0, .ref (oP ω 23))]) hx hb dX7_number_13 rfl hl (by decide) rfl (fun ls hl => ?_)
    refine lv_iload_n hx hb dX7_number_14 rfl (lv_at hl 0 rfl) ?_
    refine xb_if_eq (tgt := 22) hx hb (x := 0) (by unfold ir; omega) dX7_number_15 (by decide) (fun c_15 => ?_) (fun c_15 => absurd (by decide) c_15)
    refine lv_aload_n hx hb dX7_number_22 rfl (lv_at hl 1 rfl) ?_
    refine xa_getr G fd_X7 (a := 23) (x := 26) 0 rfl (by decide) rfl (wm 2 17 rfl rfl) ⟨rfl, rfl, rfl⟩ dX7_number_23 rfl (G.sk 23 rfl) (by decide) rfl ?_
    refine xa_getN G fd_X10 (host := "FourTongues") (a := 26) 14 rfl (by decide) (by decide) ⟨rfl, rfl, rfl⟩ dX7_number_26 rfl (v := .long (jv (μ.1 26 14))) (by rw [show μ.1 26 14 = μ.1 26 14 from rfl]; rfl) ?_
    have hj_4 : jr (μ.1 26 14) := by have h9 := G.hj (a := 26) (k := 14) rfl; exact h9
    refine lv_lstore_n (lv' := [(2, .long (jv (μ.1 26 14))), (1, .int (iv 0)), (0, .ref (oP ω 23))]) hx hb dX7_number_29 rfl hl (by decide) rfl (fun ls hl => ?_)
    refine lv_iload_n hx hb dX7_number_30 rfl (lv_at hl 1 rfl) ?_
    refine xb_if_eq (tgt := 44) hx hb (x := 0) (by unfold ir; omega) dX7_number_31 (by decide) (fun c_31 => ?_) (fun c_31 => absurd (by decide) c_31)
    refine lv_dconst0 hx hb dX7_number_44 ?_
    refine xb_topd (fun dd_5 he_dd_5 => ?_)
    refine lv_dstore (lv' := [(4, .double (dv dd_5)), (2, .long (jv (μ.1 26 14))), (1, .int (iv 0)), (0, .ref (oP ω 23))]) hx hb dX7_number_45 hl (by decide) rfl (fun ls hl => ?_)
    refine lv_aload_n hx hb dX7_number_47 rfl (lv_at hl 3 rfl) ?_
    refine lv_iconst (v := iv 2) hx hb dX7_number_48 rfl ?_
    refine lv_aload_n hx hb dX7_number_49 rfl (lv_at hl 3 rfl) ?_
    refine xa_getr G fd_X7 (a := 23) (x := P) 2 rfl (by decide) rfl (wm 2 19 rfl rfl) ⟨rfl, rfl, rfl⟩ dX7_number_50 rfl hP.symm (by omega) (hprP.hq ω ρ) ?_
    refine lv_iconst (v := iv 1) hx hb dX7_number_53 rfl ?_
    refine lv_lload_n hx hb dX7_number_54 rfl (lv_at hl 1 rfl) ?_
    refine lv_dload hx hb dX7_number_55 (lv_at hl 0 rfl) ?_
    have hk_6 := hI.row (r := P + 2) (hprP.row)
    unfold rk at hk_6
    refine xc_iV G (b := P) (rest := [.int (iv 2), .ref (oP ω 23)]) (As := [.int (iv 1), .long (jv (μ.1 26 14)), .double (dv dd_5)]) (c_X8_addConstant ω l μ P 1 (μ.1 26 14) dd_5 (μ.1 (P + 2) 3) hprP (by unfold ir; omega) hj_4 hI (by omega) (by omega)) (wm 4 67 rfl rfl) (wm 4 68 rfl rfl) (wm 4 69 rfl rfl) hprP.ly rfl (by decide) (hprP.hq ω ρ) (wm 1 9 rfl rfl) (wm 4 70 rfl rfl) (by decide) hR ⟨nfr hF (by decide), nlo hLo (by decide)⟩ (n := 3) rfl rfl (Nat.le_of_ble_eq_true rfl) hl.1 dX7_number_57 (fun r_8 μ7 ρ d0 H locs hr_r_8 hp G => ?_)
    have hr_r_8 : -2147483648 ≤ r_8 ∧ r_8 ≤ 2147483647 := hr_r_8
    obtain ⟨F_9, hI_10, hp_11, hp_12⟩ := hp
    have hk_13 := hI_10.row (r := P + 2) (hprP.row)
    unfold rk at hk_13
    refine lv_iconst (v := iv 0) hx hb dX7_number_60 rfl ?_
    have hpx_14 : μ7.1 26 11 = 0 → PXE μ μ7 P tt 0 (-1) 1 := fun h0 => (hnil (by have h9 : μ.1 26 11 = μ.1 26 11 := rfl; have h8 : μ7.1 26 11 = μ.1 26 11 := (F_9.1 26 (ni hprP (fun P => 26) (fun P => [P + 2, (P + 2) + 1, (P + 2) + 2, (P + 2) + 3]) rfl) 11); omega)).fr (K := [P + 2, (P + 2) + 1, (P + 2) + 2, (P + 2) + 3]) (Fr.tr Fr.rf F_9 (si hprP (fun P => [P + 2, (P + 2) + 1, (P + 2) + 2, (P + 2) + 3]) (fun P => [P + 2, (P + 2) + 1, (P + 2) + 2, (P + 2) + 3]) rfl)) (ni hprP (fun P => P) (fun P => [P + 2, (P + 2) + 1, (P + 2) + 2, (P + 2) + 3]) rfl) (ni hprP (fun P => P + 1) (fun P => [P + 2, (P + 2) + 1, (P + 2) + 2, (P + 2) + 3]) rfl)
    have e_15 : μ7.1 23 2 = P := ((F_9.1 23 (ni hprP (fun P => 23) (fun P => [P + 2, (P + 2) + 1, (P + 2) + 2, (P + 2) + 3]) rfl) 2).trans hP.symm)
    have e_16 : μ7.1 P 1 = μ.1 P 1 := (F_9.1 P (ni hprP (fun P => P) (fun P => [P + 2, (P + 2) + 1, (P + 2) + 2, (P + 2) + 3]) rfl) 1)
    have e_17 : μ7.1 P 1 = μ.1 P 1 := (F_9.1 P (ni hprP (fun P => P) (fun P => [P + 2, (P + 2) + 1, (P + 2) + 2, (P + 2) + 3]) rfl) 1)
    have e_18 : μ7.1 P 1 = μ.1 P 1 := (F_9.1 P (ni hprP (fun P => P) (fun P => [P + 2, (P + 2) + 1, (P + 2) + 2, (P + 2) + 3]) rfl) 1)
    have e_19 : μ7.1 P 7 = μ.1 P 7 := (F_9.1 P (ni hprP (fun P => P) (fun P => [P + 2, (P + 2) + 1, (P + 2) + 2, (P + 2) + 3]) rfl) 7)
    refine xc_iV G (b := 23) (rest := []) (As := [.int (iv 2), .int (iv r_8), .int (iv 0)]) (c_X7_add ω l μ7 2 r_8 0 P (by unfold ir; omega) (by unfold ir; omega) (by unfold ir; omega) hI_10 (by omega) (by omega)) (wm 3 226 rfl rfl) (wm 3 228 rfl rfl) (wm 0 21 rfl rfl) rfl rfl (by decide) rfl (wm 1 12 rfl rfl) (wm 3 229 rfl rfl) (by decide) hR ⟨nfr hF (by decide), nlo hLo (by decide)⟩ (n := 3) rfl rfl (Nat.le_of_ble_eq_true rfl) hl.1 dX7_number_61 (fun r_21 μ20 ρ d0 H locs hr_r_21 hp G => ?_)
    have hr_r_21 : -2147483648 ≤ r_21 ∧ r_21 ≤ 2147483647 := hr_r_21
    obtain ⟨F_22, hI_23, hp_24, hp_25, hs_26, hs_27⟩ := hp
    have hpx_28 : μ20.1 26 11 = 0 → PXE μ μ20 P tt 1 (-1) 1 := fun h0 => (PXE.app (hpx_14 (by have h9 : μ7.1 26 11 = μ.1 26 11 := (F_9.1 26 (ni hprP (fun P => 26) (fun P => [P + 2, (P + 2) + 1, (P + 2) + 2, (P + 2) + 3]) rfl) 11); have h8 : μ20.1 26 11 = μ.1 26 11 := ((F_22.1 26 (ni hprP (fun P => 26) (fun P => [P, P + 1]) rfl) 11).trans (F_9.1 26 (ni hprP (fun P => 26) (fun P => [P + 2, (P + 2) + 1, (P + 2) + 2, (P + 2) + 3]) rfl) 11)); omega)) (EX.pl hp_25 (by omega) (by unfold plain; omega) (e := 1) rfl (by have h9 := hs_1 (μ := μ7) (P := P) (i := μ7.1 P 1); omega))).e (by omega)
    refine lv_pop hx hb dX7_number_64 rfl ?_
    refine lv_aload_n hx hb dX7_number_65 rfl (lv_at hl 3 rfl) ?_
    refine xa_getr G fd_X7 (a := 23) (x := 26) 0 rfl (by decide) rfl (wm 2 17 rfl rfl) ⟨rfl, rfl, rfl⟩ dX7_number_66 rfl (G.sk 23 rfl) (by decide) rfl ?_
    have htk_29 : TK μ20 := hTK.fr (K := [P, P + 1, P + 2, (P + 2) + 1, (P + 2) + 2, (P + 2) + 3]) (Fr.tr (Fr.tr Fr.rf F_9 (si hprP (fun P => [P + 2, (P + 2) + 1, (P + 2) + 2, (P + 2) + 3]) (fun P => [P, P + 1, P + 2, (P + 2) + 1, (P + 2) + 2, (P + 2) + 3]) rfl)) F_22 (si hprP (fun P => [P, P + 1]) (fun P => [P, P + 1, P + 2, (P + 2) + 1, (P + 2) + 2, (P + 2) + 3]) rfl)) (ni hprP (fun P => 26) (fun P => [P, P + 1, P + 2, (P + 2) + 1, (P + 2) + 2, (P + 2) + 3]) rfl) (ni hprP (fun P => 28) (fun P => [P, P + 1, P + 2, (P + 2) + 1, (P + 2) + 2, (P + 2) + 3]) rfl)
    have hn_30 : 0 ≤ μ.1 26 6 ∧ μ.1 26 6 ≤ 3001 := hI.nm.2.2.2.2.2.2.2.2.2.1
    have e_31 : μ20.1 26 6 = μ.1 26 6 := ((F_22.1 26 (ni hprP (fun P => 26) (fun P => [P, P + 1]) rfl) 6).trans (F_9.1 26 (ni hprP (fun P => 26) (fun P => [P + 2, (P + 2) + 1, (P + 2) + 2, (P + 2) + 3]) rfl) 6))
    have hn_32 : -1 ≤ μ.1 26 10 ∧ μ.1 26 10 ≤ 3000 := hI.nm.2.2.2.2.2.2.2.2.2.2.2.2
    have e_33 : μ20.1 26 10 = μ.1 26 10 := ((F_22.1 26 (ni hprP (fun P => 26) (fun P => [P, P + 1]) rfl) 10).trans (F_9.1 26 (ni hprP (fun P => 26) (fun P => [P + 2, (P + 2) + 1, (P + 2) + 2, (P + 2) + 3]) rfl) 10))
    have e_34 : μ20.1 26 11 = μ.1 26 11 := ((F_22.1 26 (ni hprP (fun P => 26) (fun P => [P, P + 1]) rfl) 11).trans (F_9.1 26 (ni hprP (fun P => 26) (fun P => [P + 2, (P + 2) + 1, (P + 2) + 2, (P + 2) + 3]) rfl) 11))
    have e_35 : μ20.1 26 10 = μ.1 26 10 := ((F_22.1 26 (ni hprP (fun P => 26) (fun P => [P, P + 1]) rfl) 10).trans (F_9.1 26 (ni hprP (fun P => 26) (fun P => [P + 2, (P + 2) + 1, (P + 2) + 2, (P + 2) + 3]) rfl) 10))
    have e_36 : μ20.1 26 12 = μ.1 26 12 := ((F_22.1 26 (ni hprP (fun P => 26) (fun P => [P, P + 1]) rfl) 12).trans (F_9.1 26 (ni hprP (fun P => 26) (fun P => [P + 2, (P + 2) + 1, (P + 2) + 2, (P + 2) + 3]) rfl) 12))
    have e_37 : μ20.1 26 11 = μ.1 26 11 := ((F_22.1 26 (ni hprP (fun P => 26) (fun P => [P, P + 1]) rfl) 11).trans (F_9.1 26 (ni hprP (fun P => 26) (fun P => [P + 2, (P + 2) + 1, (P + 2) + 2, (P + 2) + 3]) rfl) 11))
    have e_38 : μ20.1 26 10 = μ.1 26 10 := ((F_22.1 26 (ni hprP (fun P => 26) (fun P => [P, P + 1]) rfl) 10).trans (F_9.1 26 (ni hprP (fun P => 26) (fun P => [P + 2, (P + 2) + 1, (P + 2) + 2, (P + 2) + 3]) rfl) 10))
    have e_39 : μ20.1 26 6 = μ.1 26 6 := ((F_22.1 26 (ni hprP (fun P => 26) (fun P => [P, P + 1]) rfl) 6).trans (F_9.1 26 (ni hprP (fun P => 26) (fun P => [P + 2, (P + 2) + 1, (P + 2) + 2, (P + 2) + 3]) rfl) 6))
    have e_40 : μ20.1 26 10 = μ.1 26 10 := ((F_22.1 26 (ni hprP (fun P => 26) (fun P => [P, P + 1]) rfl) 10).trans (F_9.1 26 (ni hprP (fun P => 26) (fun P => [P + 2, (P + 2) + 1, (P + 2) + 2, (P + 2) + 3]) rfl) 10))
    have e_41 : μ20.1 26 6 = μ.1 26 6 := ((F_22.1 26 (ni hprP (fun P => 26) (fun P => [P, P + 1]) rfl) 6).trans (F_9.1 26 (ni hprP (fun P => 26) (fun P => [P + 2, (P + 2) + 1, (P + 2) + 2, (P + 2) + 3]) rfl) 6))
    have e_42 : μ20.1 26 10 = μ.1 26 10 := ((F_22.1 26 (ni hprP (fun P => 26) (fun P => [P, P + 1]) rfl) 10).trans (F_9.1 26 (ni hprP (fun P => 26) (fun P => [P + 2, (P + 2) + 1, (P + 2) + 2, (P + 2) + 3]) rfl) 10))
    have e_43 : μ20.1 26 10 = μ.1 26 10 := ((F_22.1 26 (ni hprP (fun P => 26) (fun P => [P, P + 1]) rfl) 10).trans (F_9.1 26 (ni hprP (fun P => 26) (fun P => [P + 2, (P + 2) + 1, (P + 2) + 2, (P + 2) + 3]) rfl) 10))
    have e_44 : μ20.1 26 11 = μ.1 26 11 := ((F_22.1 26 (ni hprP (fun P => 26) (fun P => [P, P + 1]) rfl) 11).trans (F_9.1 26 (ni hprP (fun P => 26) (fun P => [P + 2, (P + 2) + 1, (P + 2) + 2, (P + 2) + 3]) rfl) 11))
    have e_45 : μ20.1 26 6 = μ.1 26 6 := ((F_22.1 26 (ni hprP (fun P => 26) (fun P => [P, P + 1]) rfl) 6).trans (F_9.1 26 (ni hprP (fun P => 26) (fun P => [P + 2, (P + 2) + 1, (P + 2) + 2, (P + 2) + 3]) rfl) 6))
    have hn_46 : 0 ≤ μ.1 26 7 ∧ μ.1 26 7 ≤ 3000 := hI.nm.2.2.2.2.2.2.2.2.2.2.1
    have e_47 : μ20.1 26 7 = μ.1 26 7 := ((F_22.1 26 (ni hprP (fun P => 26) (fun P => [P, P + 1]) rfl) 7).trans (F_9.1 26 (ni hprP (fun P => 26) (fun P => [P + 2, (P + 2) + 1, (P + 2) + 2, (P + 2) + 3]) rfl) 7))
    have e_48 : μ20.1 26 8 = μ.1 26 8 := ((F_22.1 26 (ni hprP (fun P => 26) (fun P => [P, P + 1]) rfl) 8).trans (F_9.1 26 (ni hprP (fun P => 26) (fun P => [P + 2, (P + 2) + 1, (P + 2) + 2, (P + 2) + 3]) rfl) 8))
    have hn_49 : 0 ≤ μ.1 26 9 ∧ μ.1 26 9 ≤ 3000 := hI.nm.2.2.2.2.2.2.2.2.2.2.2.1
    have e_50 : μ20.1 26 9 = μ.1 26 9 := ((F_22.1 26 (ni hprP (fun P => 26) (fun P => [P, P + 1]) rfl) 9).trans (F_9.1 26 (ni hprP (fun P => 26) (fun P => [P + 2, (P + 2) + 1, (P + 2) + 2, (P + 2) + 3]) rfl) 9))
    refine xc_vV G (b := 26) (rest := []) (As := []) (c_X10_next ω l μ20  hI_23 (by omega) (by omega)) (wm 3 164 rfl rfl) (wm 3 157 rfl rfl) (wm 3 158 rfl rfl) rfl rfl (by decide) rfl (wm 1 13 rfl rfl) (wm 3 159 rfl rfl) (by decide) hR ⟨nfr hF (by decide), nlo hLo (by decide)⟩ (n := 0) rfl rfl (Nat.le_of_ble_eq_true rfl) hl.1 dX7_number_69 (fun μ51 ρ d0 H locs hp G => ?_)
    obtain ⟨F_52, hI_53, hp_54, hs_55, hs_56, hs_57, hs_58, hs_59⟩ := hp
    have hn_60 : -1 ≤ μ51.1 26 10 ∧ μ51.1 26 10 ≤ 3000 := hI_53.nm.2.2.2.2.2.2.2.2.2.2.2.2
    obtain ⟨htk_61, htk_61_s, htk_61_n⟩ := TK.nx htk_29 F_52 (((hs_56.trans ((F_22.1 26 (ni hprP (fun P => 26) (fun P => [P, P + 1]) rfl) 6).trans (F_9.1 26 (ni hprP (fun P => 26) (fun P => [P + 2, (P + 2) + 1, (P + 2) + 2, (P + 2) + 3]) rfl) 6)))).trans (((F_22.1 26 (ni hprP (fun P => 26) (fun P => [P, P + 1]) rfl) 6).trans (F_9.1 26 (ni hprP (fun P => 26) (fun P => [P + 2, (P + 2) + 1, (P + 2) + 2, (P + 2) + 3]) rfl) 6))).symm) (((hs_55.trans ((F_22.1 26 (ni hprP (fun P => 26) (fun P => [P, P + 1]) rfl) 11).trans (F_9.1 26 (ni hprP (fun P => 26) (fun P => [P + 2, (P + 2) + 1, (P + 2) + 2, (P + 2) + 3]) rfl) 11)))).trans (((F_22.1 26 (ni hprP (fun P => 26) (fun P => [P, P + 1]) rfl) 11).trans (F_9.1 26 (ni hprP (fun P => 26) (fun P => [P + 2, (P + 2) + 1, (P + 2) + 2, (P + 2) + 3]) rfl) 11))).symm) (by have h9 : μ20.1 26 12 = μ.1 26 12 := ((F_22.1 26 (ni hprP (fun P => 26) (fun P => [P, P + 1]) rfl) 12).trans (F_9.1 26 (ni hprP (fun P => 26) (fun P => [P + 2, (P + 2) + 1, (P + 2) + 2, (P + 2) + 3]) rfl) 12)); omega) hp_54
    clear hp_54
    have e_62 : μ20.1 26 11 = μ.1 26 11 := ((F_22.1 26 (ni hprP (fun P => 26) (fun P => [P, P + 1]) rfl) 11).trans (F_9.1 26 (ni hprP (fun P => 26) (fun P => [P + 2, (P + 2) + 1, (P + 2) + 2, (P + 2) + 3]) rfl) 11))
    have e_63 : μ20.1 26 10 = μ.1 26 10 := ((F_22.1 26 (ni hprP (fun P => 26) (fun P => [P, P + 1]) rfl) 10).trans (F_9.1 26 (ni hprP (fun P => 26) (fun P => [P + 2, (P + 2) + 1, (P + 2) + 2, (P + 2) + 3]) rfl) 10))
    have htb_64 := htk_61.b
    have hpx_65 : μ51.1 26 11 = 0 → PXE μ μ51 P tt 1 (-1) 1 := fun h0 => (hpx_28 (by have h9 : μ20.1 26 11 = μ.1 26 11 := ((F_22.1 26 (ni hprP (fun P => 26) (fun P => [P, P + 1]) rfl) 11).trans (F_9.1 26 (ni hprP (fun P => 26) (fun P => [P + 2, (P + 2) + 1, (P + 2) + 2, (P + 2) + 3]) rfl) 11)); have h8 : μ51.1 26 11 = μ.1 26 11 := (hs_55.trans ((F_22.1 26 (ni hprP (fun P => 26) (fun P => [P, P + 1]) rfl) 11).trans (F_9.1 26 (ni hprP (fun P => 26) (fun P => [P + 2, (P + 2) + 1, (P + 2) + 2, (P + 2) + 3]) rfl) 11))); omega)).fr (K := [26]) (Fr.tr Fr.rf F_52 (by decide)) (npL_p (L := [26]) (by decide) hprP).1 (npL_p (L := [26]) (by decide) hprP).2.1
    have e_66 : μ51.1 26 11 = μ.1 26 11 := (hs_55.trans ((F_22.1 26 (ni hprP (fun P => 26) (fun P => [P, P + 1]) rfl) 11).trans (F_9.1 26 (ni hprP (fun P => 26) (fun P => [P + 2, (P + 2) + 1, (P + 2) + 2, (P + 2) + 3]) rfl) 11)))
    have e_67 : μ51.1 26 11 = μ.1 26 11 := (hs_55.trans ((F_22.1 26 (ni hprP (fun P => 26) (fun P => [P, P + 1]) rfl) 11).trans (F_9.1 26 (ni hprP (fun P => 26) (fun P => [P + 2, (P + 2) + 1, (P + 2) + 2, (P + 2) + 3]) rfl) 11)))
    have e_68 : μ51.1 P 1 = μ7.1 P 1 + 1 := ((F_52.1 P (ni hprP (fun P => P) (fun P => [26]) rfl) 1).trans hs_26)
    have e_69 : μ51.1 P 1 = μ7.1 P 1 + 1 := ((F_52.1 P (ni hprP (fun P => P) (fun P => [26]) rfl) 1).trans hs_26)
    have e_70 : μ51.1 26 11 = μ.1 26 11 := (hs_55.trans ((F_22.1 26 (ni hprP (fun P => 26) (fun P => [P, P + 1]) rfl) 11).trans (F_9.1 26 (ni hprP (fun P => 26) (fun P => [P + 2, (P + 2) + 1, (P + 2) + 2, (P + 2) + 3]) rfl) 11)))
    have e_71 : μ51.1 (P + 2) 3 = μ7.1 (P + 2) 3 := ((F_52.1 (P + 2) (ni hprP (fun P => P + 2) (fun P => [26]) rfl) 3).trans (F_22.1 (P + 2) (ni hprP (fun P => P + 2) (fun P => [P, P + 1]) rfl) 3))
    have e_72 : μ51.1 P 1 = μ7.1 P 1 + 1 := ((F_52.1 P (ni hprP (fun P => P) (fun P => [26]) rfl) 1).trans hs_26)
    have e_73 : μ51.1 (P + 2) 3 = μ7.1 (P + 2) 3 := ((F_52.1 (P + 2) (ni hprP (fun P => P + 2) (fun P => [26]) rfl) 3).trans (F_22.1 (P + 2) (ni hprP (fun P => P + 2) (fun P => [P, P + 1]) rfl) 3))
    have e_74 : μ51.1 23 2 = P := ((F_52.1 23 (by decide) 2).trans ((F_22.1 23 (ni hprP (fun P => 23) (fun P => [P, P + 1]) rfl) 2).trans ((F_9.1 23 (ni hprP (fun P => 23) (fun P => [P + 2, (P + 2) + 1, (P + 2) + 2, (P + 2) + 3]) rfl) 2).trans hP.symm)))
    have e_75 : μ51.1 23 5 = μ.1 23 5 := ((F_52.1 23 (by decide) 5).trans ((F_22.1 23 (ni hprP (fun P => 23) (fun P => [P, P + 1]) rfl) 5).trans (F_9.1 23 (ni hprP (fun P => 23) (fun P => [P + 2, (P + 2) + 1, (P + 2) + 2, (P + 2) + 3]) rfl) 5)))
    have e_76 : μ51.1 23 6 = μ.1 23 6 := ((F_52.1 23 (by decide) 6).trans ((F_22.1 23 (ni hprP (fun P => 23) (fun P => [P, P + 1]) rfl) 6).trans (F_9.1 23 (ni hprP (fun P => 23) (fun P => [P + 2, (P + 2) + 1, (P + 2) + 2, (P + 2) + 3]) rfl) 6)))
    have e_77 : μ51.1 23 7 = μ.1 23 7 := ((F_52.1 23 (by decide) 7).trans ((F_22.1 23 (ni hprP (fun P => 23) (fun P => [P, P + 1]) rfl) 7).trans (F_9.1 23 (ni hprP (fun P => 23) (fun P => [P + 2, (P + 2) + 1, (P + 2) + 2, (P + 2) + 3]) rfl) 7)))
    have e_78 : μ51.1 23 8 = tt := ((F_52.1 23 (by decide) 8).trans ((F_22.1 23 (ni hprP (fun P => 23) (fun P => [P, P + 1]) rfl) 8).trans ((F_9.1 23 (ni hprP (fun P => 23) (fun P => [P + 2, (P + 2) + 1, (P + 2) + 2, (P + 2) + 3]) rfl) 8).trans htt.symm)))
    have e_79 : μ51.1 23 9 = μ.1 23 9 := ((F_52.1 23 (by decide) 9).trans ((F_22.1 23 (ni hprP (fun P => 23) (fun P => [P, P + 1]) rfl) 9).trans (F_9.1 23 (ni hprP (fun P => 23) (fun P => [P + 2, (P + 2) + 1, (P + 2) + 2, (P + 2) + 3]) rfl) 9)))
    have e_80 : μ51.1 23 10 = μ.1 23 10 := ((F_52.1 23 (by decide) 10).trans ((F_22.1 23 (ni hprP (fun P => 23) (fun P => [P, P + 1]) rfl) 10).trans (F_9.1 23 (ni hprP (fun P => 23) (fun P => [P + 2, (P + 2) + 1, (P + 2) + 2, (P + 2) + 3]) rfl) 10)))
    have e_81 : μ51.1 26 6 = μ.1 26 6 := (hs_56.trans ((F_22.1 26 (ni hprP (fun P => 26) (fun P => [P, P + 1]) rfl) 6).trans (F_9.1 26 (ni hprP (fun P => 26) (fun P => [P + 2, (P + 2) + 1, (P + 2) + 2, (P + 2) + 3]) rfl) 6)))
    have e_82 : μ51.1 P 7 = μ.1 P 7 := ((F_52.1 P (ni hprP (fun P => P) (fun P => [26]) rfl) 7).trans (hs_27.trans (F_9.1 P (ni hprP (fun P => P) (fun P => [P + 2, (P + 2) + 1, (P + 2) + 2, (P + 2) + 3]) rfl) 7)))
    exact xr_v G hret hlk dX7_number_72 ⟨(Fr.tr (Fr.tr (Fr.tr Fr.rf F_9 (si hprP (fun P => [P + 2, (P + 2) + 1, (P + 2) + 2, (P + 2) + 3]) (fun P => [2, 3, 4, 23, 24, 26, P, P + 1, P + 2, (P + 2) + 1, (P + 2) + 2, (P + 2) + 3]) rfl)) F_22 (si hprP (fun P => [P, P + 1]) (fun P => [2, 3, 4, 23, 24, 26, P, P + 1, P + 2, (P + 2) + 1, (P + 2) + 2, (P + 2) + 3]) rfl)) F_52 (si hprP (fun P => [26]) (fun P => [2, 3, 4, 23, 24, 26, P, P + 1, P + 2, (P + 2) + 1, (P + 2) + 2, (P + 2) + 3]) rfl)), hI_53, htk_61, (by omega), (by omega), (by omega), (by omega), (fun h0 => (PXE.ex (hpx_65 h0)).e (by omega)), (by omega), (by omega), (by omega), (by omega), (by omega), (by omega), (by omega), (by omega), (by omega)⟩
  · refine lv_iconst (v := iv 1) hx hb dX7_number_8 rfl ?_
    refine lv_goto (tgt := 13) hx hb dX7_number_9 (by decide) ?_
    refine lv_istore_n (lv' := [(1, .int (iv 1)), (0, .ref (oP ω 23))]) hx hb dX7_number_13 rfl hl (by decide) rfl (fun ls hl => ?_)
    refine lv_iload_n hx hb dX7_number_14 rfl (lv_at hl 0 rfl) ?_
    refine xb_if_eq (tgt := 22) hx hb (x := 1) (by unfold ir; omega) dX7_number_15 (by decide) (fun c_15 => absurd c_15 (by decide)) (fun c_15 => ?_)
    refine lv_lconst (v := jv 0) hx hb dX7_number_18 rfl ?_
    refine lv_goto (tgt := 29) hx hb dX7_number_19 (by decide) ?_
    refine lv_lstore_n (lv' := [(2, .long (jv 0)), (1, .int (iv 1)), (0, .ref (oP ω 23))]) hx hb dX7_number_29 rfl hl (by decide) rfl (fun ls hl => ?_)
    refine lv_iload_n hx hb dX7_number_30 rfl (lv_at hl 1 rfl) ?_
    refine xb_if_eq (tgt := 44) hx hb (x := 1) (by unfold ir; omega) dX7_number_31 (by decide) (fun c_31 => absurd c_31 (by decide)) (fun c_31 => ?_)
    refine lv_aload_n hx hb dX7_number_34 rfl (lv_at hl 2 rfl) ?_
    refine xa_getr G fd_X7 (a := 23) (x := 26) 0 rfl (by decide) rfl (wm 2 17 rfl rfl) ⟨rfl, rfl, rfl⟩ dX7_number_35 rfl (G.sk 23 rfl) (by decide) rfl ?_
    refine xa_getN G fd_X10 (host := "FourTongues") (a := 26) 15 rfl (by decide) (by decide) ⟨rfl, rfl, rfl⟩ dX7_number_38 rfl (v := .double (dv (μ.1 26 15))) (by rw [show μ.1 26 15 = μ.1 26 15 from rfl]; rfl) ?_
    refine lv_goto (tgt := 45) hx hb dX7_number_41 (by decide) ?_
    refine lv_dstore (lv' := [(4, .double (dv (μ.1 26 15))), (2, .long (jv 0)), (1, .int (iv 1)), (0, .ref (oP ω 23))]) hx hb dX7_number_45 hl (by decide) rfl (fun ls hl => ?_)
    refine lv_aload_n hx hb dX7_number_47 rfl (lv_at hl 3 rfl) ?_
    refine lv_iconst (v := iv 2) hx hb dX7_number_48 rfl ?_
    refine lv_aload_n hx hb dX7_number_49 rfl (lv_at hl 3 rfl) ?_
    refine xa_getr G fd_X7 (a := 23) (x := P) 2 rfl (by decide) rfl (wm 2 19 rfl rfl) ⟨rfl, rfl, rfl⟩ dX7_number_50 rfl hP.symm (by omega) (hprP.hq ω ρ) ?_
    refine lv_iconst (v := iv 1) hx hb dX7_number_53 rfl ?_
    refine lv_lload_n hx hb dX7_number_54 rfl (lv_at hl 1 rfl) ?_
    refine lv_dload hx hb dX7_number_55 (lv_at hl 0 rfl) ?_
    have hk_83 := hI.row (r := P + 2) (hprP.row)
    unfold rk at hk_83
    refine xc_iV G (b := P) (rest := [.int (iv 2), .ref (oP ω 23)]) (As := [.int (iv 1), .long (jv 0), .double (dv (μ.1 26 15))]) (c_X8_addConstant ω l μ P 1 0 (μ.1 26 15) (μ.1 (P + 2) 3) hprP (by unfold ir; omega) (by unfold jr; omega) hI (by omega) (by omega)) (wm 4 67 rfl rfl) (wm 4 68 rfl rfl) (wm 4 69 rfl rfl) hprP.ly rfl (by decide) (hprP.hq ω ρ) (wm 1 9 rfl rfl) (wm 4 70 rfl rfl) (by decide) hR ⟨nfr hF (by decide), nlo hLo (by decide)⟩ (n := 3) rfl rfl (Nat.le_of_ble_eq_true rfl) hl.1 dX7_number_57 (fun r_85 μ84 ρ d0 H locs hr_r_85 hp G => ?_)
    have hr_r_85 : -2147483648 ≤ r_85 ∧ r_85 ≤ 2147483647 := hr_r_85
    obtain ⟨F_86, hI_87, hp_88, hp_89⟩ := hp
    have hk_90 := hI_87.row (r := P + 2) (hprP.row)
    unfold rk at hk_90
    refine lv_iconst (v := iv 0) hx hb dX7_number_60 rfl ?_
    have hpx_91 : μ84.1 26 11 = 0 → PXE μ μ84 P tt 0 (-1) 1 := fun h0 => (hnil (by have h9 : μ.1 26 11 = μ.1 26 11 := rfl; have h8 : μ84.1 26 11 = μ.1 26 11 := (F_86.1 26 (ni hprP (fun P => 26) (fun P => [P + 2, (P + 2) + 1, (P + 2) + 2, (P + 2) + 3]) rfl) 11); omega)).fr (K := [P + 2, (P + 2) + 1, (P + 2) + 2, (P + 2) + 3]) (Fr.tr Fr.rf F_86 (si hprP (fun P => [P + 2, (P + 2) + 1, (P + 2) + 2, (P + 2) + 3]) (fun P => [P + 2, (P + 2) + 1, (P + 2) + 2, (P + 2) + 3]) rfl)) (ni hprP (fun P => P) (fun P => [P + 2, (P + 2) + 1, (P + 2) + 2, (P + 2) + 3]) rfl) (ni hprP (fun P => P + 1) (fun P => [P + 2, (P + 2) + 1, (P + 2) + 2, (P + 2) + 3]) rfl)
    have e_92 : μ84.1 23 2 = P := ((F_86.1 23 (ni hprP (fun P => 23) (fun P => [P + 2, (P + 2) + 1, (P + 2) + 2, (P + 2) + 3]) rfl) 2).trans hP.symm)
    have e_93 : μ84.1 P 1 = μ.1 P 1 := (F_86.1 P (ni hprP (fun P => P) (fun P => [P + 2, (P + 2) + 1, (P + 2) + 2, (P + 2) + 3]) rfl) 1)
    have e_94 : μ84.1 P 1 = μ.1 P 1 := (F_86.1 P (ni hprP (fun P => P) (fun P => [P + 2, (P + 2) + 1, (P + 2) + 2, (P + 2) + 3]) rfl) 1)
    have e_95 : μ84.1 P 1 = μ.1 P 1 := (F_86.1 P (ni hprP (fun P => P) (fun P => [P + 2, (P + 2) + 1, (P + 2) + 2, (P + 2) + 3]) rfl) 1)
    have e_96 : μ84.1 P 7 = μ.1 P 7 := (F_86.1 P (ni hprP (fun P => P) (fun P => [P + 2, (P + 2) + 1, (P + 2) + 2, (P + 2) + 3]) rfl) 7)
    refine xc_iV G (b := 23) (rest := []) (As := [.int (iv 2), .int (iv r_85), .int (iv 0)]) (c_X7_add ω l μ84 2 r_85 0 P (by unfold ir; omega) (by unfold ir; omega) (by unfold ir; omega) hI_87 (by omega) (by omega)) (wm 3 226 rfl rfl) (wm 3 228 rfl rfl) (wm 0 21 rfl rfl) rfl rfl (by decide) rfl (wm 1 12 rfl rfl) (wm 3 229 rfl rfl) (by decide) hR ⟨nfr hF (by decide), nlo hLo (by decide)⟩ (n := 3) rfl rfl (Nat.le_of_ble_eq_true rfl) hl.1 dX7_number_61 (fun r_98 μ97 ρ d0 H locs hr_r_98 hp G => ?_)
    have hr_r_98 : -2147483648 ≤ r_98 ∧ r_98 ≤ 2147483647 := hr_r_98
    obtain ⟨F_99, hI_100, hp_101, hp_102, hs_103, hs_104⟩ := hp
    have hpx_105 : μ97.1 26 11 = 0 → PXE μ μ97 P tt 1 (-1) 1 := fun h0 => (PXE.app (hpx_91 (by have h9 : μ84.1 26 11 = μ.1 26 11 := (F_86.1 26 (ni hprP (fun P => 26) (fun P => [P + 2, (P + 2) + 1, (P + 2) + 2, (P + 2) + 3]) rfl) 11); have h8 : μ97.1 26 11 = μ.1 26 11 := ((F_99.1 26 (ni hprP (fun P => 26) (fun P => [P, P + 1]) rfl) 11).trans (F_86.1 26 (ni hprP (fun P => 26) (fun P => [P + 2, (P + 2) + 1, (P + 2) + 2, (P + 2) + 3]) rfl) 11)); omega)) (EX.pl hp_102 (by omega) (by unfold plain; omega) (e := 1) rfl (by have h9 := hs_1 (μ := μ84) (P := P) (i := μ84.1 P 1); omega))).e (by omega)
    refine lv_pop hx hb dX7_number_64 rfl ?_
    refine lv_aload_n hx hb dX7_number_65 rfl (lv_at hl 3 rfl) ?_
    refine xa_getr G fd_X7 (a := 23) (x := 26) 0 rfl (by decide) rfl (wm 2 17 rfl rfl) ⟨rfl, rfl, rfl⟩ dX7_number_66 rfl (G.sk 23 rfl) (by decide) rfl ?_
    have htk_106 : TK μ97 := hTK.fr (K := [P, P + 1, P + 2, (P + 2) + 1, (P + 2) + 2, (P + 2) + 3]) (Fr.tr (Fr.tr Fr.rf F_86 (si hprP (fun P => [P + 2, (P + 2) + 1, (P + 2) + 2, (P + 2) + 3]) (fun P => [P, P + 1, P + 2, (P + 2) + 1, (P + 2) + 2, (P + 2) + 3]) rfl)) F_99 (si hprP (fun P => [P, P + 1]) (fun P => [P, P + 1, P + 2, (P + 2) + 1, (P + 2) + 2, (P + 2) + 3]) rfl)) (ni hprP (fun P => 26) (fun P => [P, P + 1, P + 2, (P + 2) + 1, (P + 2) + 2, (P + 2) + 3]) rfl) (ni hprP (fun P => 28) (fun P => [P, P + 1, P + 2, (P + 2) + 1, (P + 2) + 2, (P + 2) + 3]) rfl)
    have hn_107 : 0 ≤ μ.1 26 6 ∧ μ.1 26 6 ≤ 3001 := hI.nm.2.2.2.2.2.2.2.2.2.1
    have e_108 : μ97.1 26 6 = μ.1 26 6 := ((F_99.1 26 (ni hprP (fun P => 26) (fun P => [P, P + 1]) rfl) 6).trans (F_86.1 26 (ni hprP (fun P => 26) (fun P => [P + 2, (P + 2) + 1, (P + 2) + 2, (P + 2) + 3]) rfl) 6))
    have hn_109 : -1 ≤ μ.1 26 10 ∧ μ.1 26 10 ≤ 3000 := hI.nm.2.2.2.2.2.2.2.2.2.2.2.2
    have e_110 : μ97.1 26 10 = μ.1 26 10 := ((F_99.1 26 (ni hprP (fun P => 26) (fun P => [P, P + 1]) rfl) 10).trans (F_86.1 26 (ni hprP (fun P => 26) (fun P => [P + 2, (P + 2) + 1, (P + 2) + 2, (P + 2) + 3]) rfl) 10))
    have e_111 : μ97.1 26 11 = μ.1 26 11 := ((F_99.1 26 (ni hprP (fun P => 26) (fun P => [P, P + 1]) rfl) 11).trans (F_86.1 26 (ni hprP (fun P => 26) (fun P => [P + 2, (P + 2) + 1, (P + 2) + 2, (P + 2) + 3]) rfl) 11))
    have e_112 : μ97.1 26 10 = μ.1 26 10 := ((F_99.1 26 (ni hprP (fun P => 26) (fun P => [P, P + 1]) rfl) 10).trans (F_86.1 26 (ni hprP (fun P => 26) (fun P => [P + 2, (P + 2) + 1, (P + 2) + 2, (P + 2) + 3]) rfl) 10))
    have e_113 : μ97.1 26 12 = μ.1 26 12 := ((F_99.1 26 (ni hprP (fun P => 26) (fun P => [P, P + 1]) rfl) 12).trans (F_86.1 26 (ni hprP (fun P => 26) (fun P => [P + 2, (P + 2) + 1, (P + 2) + 2, (P + 2) + 3]) rfl) 12))
    have e_114 : μ97.1 26 11 = μ.1 26 11 := ((F_99.1 26 (ni hprP (fun P => 26) (fun P => [P, P + 1]) rfl) 11).trans (F_86.1 26 (ni hprP (fun P => 26) (fun P => [P + 2, (P + 2) + 1, (P + 2) + 2, (P + 2) + 3]) rfl) 11))
    have e_115 : μ97.1 26 10 = μ.1 26 10 := ((F_99.1 26 (ni hprP (fun P => 26) (fun P => [P, P + 1]) rfl) 10).trans (F_86.1 26 (ni hprP (fun P => 26) (fun P => [P + 2, (P + 2) + 1, (P + 2) + 2, (P + 2) + 3]) rfl) 10))
    have e_116 : μ97.1 26 6 = μ.1 26 6 := ((F_99.1 26 (ni hprP (fun P => 26) (fun P => [P, P + 1]) rfl) 6).trans (F_86.1 26 (ni hprP (fun P => 26) (fun P => [P + 2, (P + 2) + 1, (P + 2) + 2, (P + 2) + 3]) rfl) 6))
    have e_117 : μ97.1 26 10 = μ.1 26 10 := ((F_99.1 26 (ni hprP (fun P => 26) (fun P => [P, P + 1]) rfl) 10).trans (F_86.1 26 (ni hprP (fun P => 26) (fun P => [P + 2, (P + 2) + 1, (P + 2) + 2, (P + 2) + 3]) rfl) 10))
    have e_118 : μ97.1 26 6 = μ.1 26 6 := ((F_99.1 26 (ni hprP (fun P => 26) (fun P => [P, P + 1]) rfl) 6).trans (F_86.1 26 (ni hprP (fun P => 26) (fun P => [P + 2, (P + 2) + 1, (P + 2) + 2, (P + 2) + 3]) rfl) 6))
    have e_119 : μ97.1 26 10 = μ.1 26 10 := ((F_99.1 26 (ni hprP (fun P => 26) (fun P => [P, P + 1]) rfl) 10).trans (F_86.1 26 (ni hprP (fun P => 26) (fun P => [P + 2, (P + 2) + 1, (P + 2) + 2, (P + 2) + 3]) rfl) 10))
    have e_120 : μ97.1 26 10 = μ.1 26 10 := ((F_99.1 26 (ni hprP (fun P => 26) (fun P => [P, P + 1]) rfl) 10).trans (F_86.1 26 (ni hprP (fun P => 26) (fun P => [P + 2, (P + 2) + 1, (P + 2) + 2, (P + 2) + 3]) rfl) 10))
    have e_121 : μ97.1 26 11 = μ.1 26 11 := ((F_99.1 26 (ni hprP (fun P => 26) (fun P => [P, P + 1]) rfl) 11).trans (F_86.1 26 (ni hprP (fun P => 26) (fun P => [P + 2, (P + 2) + 1, (P + 2) + 2, (P + 2) + 3]) rfl) 11))
    have e_122 : μ97.1 26 6 = μ.1 26 6 := ((F_99.1 26 (ni hprP (fun P => 26) (fun P => [P, P + 1]) rfl) 6).trans (F_86.1 26 (ni hprP (fun P => 26) (fun P => [P + 2, (P + 2) + 1, (P + 2) + 2, (P + 2) + 3]) rfl) 6))
    have hn_123 : 0 ≤ μ.1 26 7 ∧ μ.1 26 7 ≤ 3000 := hI.nm.2.2.2.2.2.2.2.2.2.2.1
    have e_124 : μ97.1 26 7 = μ.1 26 7 := ((F_99.1 26 (ni hprP (fun P => 26) (fun P => [P, P + 1]) rfl) 7).trans (F_86.1 26 (ni hprP (fun P => 26) (fun P => [P + 2, (P + 2) + 1, (P + 2) + 2, (P + 2) + 3]) rfl) 7))
    have e_125 : μ97.1 26 8 = μ.1 26 8 := ((F_99.1 26 (ni hprP (fun P => 26) (fun P => [P, P + 1]) rfl) 8).trans (F_86.1 26 (ni hprP (fun P => 26) (fun P => [P + 2, (P + 2) + 1, (P + 2) + 2, (P + 2) + 3]) rfl) 8))
    have hn_126 : 0 ≤ μ.1 26 9 ∧ μ.1 26 9 ≤ 3000 := hI.nm.2.2.2.2.2.2.2.2.2.2.2.1
    have e_127 : μ97.1 26 9 = μ.1 26 9 := ((F_99.1 26 (ni hprP (fun P => 26) (fun P => [P, P + 1]) rfl) 9).trans (F_86.1 26 (ni hprP (fun P => 26) (fun P => [P + 2, (P + 2) + 1, (P + 2) + 2, (P + 2) + 3]) rfl) 9))
    refine xc_vV G (b := 26) (rest := []) (As := []) (c_X10_next ω l μ97  hI_100 (by omega) (by omega)) (wm 3 164 rfl rfl) (wm 3 157 rfl rfl) (wm 3 158 rfl rfl) rfl rfl (by decide) rfl (wm 1 13 rfl rfl) (wm 3 159 rfl rfl) (by decide) hR ⟨nfr hF (by decide), nlo hLo (by decide)⟩ (n := 0) rfl rfl (Nat.le_of_ble_eq_true rfl) hl.1 dX7_number_69 (fun μ128 ρ d0 H locs hp G => ?_)
    obtain ⟨F_129, hI_130, hp_131, hs_132, hs_133, hs_134, hs_135, hs_136⟩ := hp
    have hn_137 : -1 ≤ μ128.1 26 10 ∧ μ128.1 26 10 ≤ 3000 := hI_130.nm.2.2.2.2.2.2.2.2.2.2.2.2
    obtain ⟨htk_138, htk_138_s, htk_138_n⟩ := TK.nx htk_106 F_129 (((hs_133.trans ((F_99.1 26 (ni hprP (fun P => 26) (fun P => [P, P + 1]) rfl) 6).trans (F_86.1 26 (ni hprP (fun P => 26) (fun P => [P + 2, (P + 2) + 1, (P + 2) + 2, (P + 2) + 3]) rfl) 6)))).trans (((F_99.1 26 (ni hprP (fun P => 26) (fun P => [P, P + 1]) rfl) 6).trans (F_86.1 26 (ni hprP (fun P => 26) (fun P => [P + 2, (P + 2) + 1, (P + 2) + 2, (P + 2) + 3]) rfl) 6))).symm) (((hs_132.trans ((F_99.1 26 (ni hprP (fun P => 26) (fun P => [P, P + 1]) rfl) 11).trans (F_86.1 26 (ni hprP (fun P => 26) (fun P => [P + 2, (P + 2) + 1, (P + 2) + 2, (P + 2) + 3]) rfl) 11)))).trans (((F_99.1 26 (ni hprP (fun P => 26) (fun P => [P, P + 1]) rfl) 11).trans (F_86.1 26 (ni hprP (fun P => 26) (fun P => [P + 2, (P + 2) + 1, (P + 2) + 2, (P + 2) + 3]) rfl) 11))).symm) (by have h9 : μ97.1 26 12 = μ.1 26 12 := ((F_99.1 26 (ni hprP (fun P => 26) (fun P => [P, P + 1]) rfl) 12).trans (F_86.1 26 (ni hprP (fun P => 26) (fun P => [P + 2, (P + 2) + 1, (P + 2) + 2, (P + 2) + 3]) rfl) 12)); omega) hp_131
    clear hp_131
    have e_139 : μ97.1 26 11 = μ.1 26 11 := ((F_99.1 26 (ni hprP (fun P => 26) (fun P => [P, P + 1]) rfl) 11).trans (F_86.1 26 (ni hprP (fun P => 26) (fun P => [P + 2, (P + 2) + 1, (P + 2) + 2, (P + 2) + 3]) rfl) 11))
    have e_140 : μ97.1 26 10 = μ.1 26 10 := ((F_99.1 26 (ni hprP (fun P => 26) (fun P => [P, P + 1]) rfl) 10).trans (F_86.1 26 (ni hprP (fun P => 26) (fun P => [P + 2, (P + 2) + 1, (P + 2) + 2, (P + 2) + 3]) rfl) 10))
    have htb_141 := htk_138.b
    have hpx_142 : μ128.1 26 11 = 0 → PXE μ μ128 P tt 1 (-1) 1 := fun h0 => (hpx_105 (by have h9 : μ97.1 26 11 = μ.1 26 11 := ((F_99.1 26 (ni hprP (fun P => 26) (fun P => [P, P + 1]) rfl) 11).trans (F_86.1 26 (ni hprP (fun P => 26) (fun P => [P + 2, (P + 2) + 1, (P + 2) + 2, (P + 2) + 3]) rfl) 11)); have h8 : μ128.1 26 11 = μ.1 26 11 := (hs_132.trans ((F_99.1 26 (ni hprP (fun P => 26) (fun P => [P, P + 1]) rfl) 11).trans (F_86.1 26 (ni hprP (fun P => 26) (fun P => [P + 2, (P + 2) + 1, (P + 2) + 2, (P + 2) + 3]) rfl) 11))); omega)).fr (K := [26]) (Fr.tr Fr.rf F_129 (by decide)) (npL_p (L := [26]) (by decide) hprP).1 (npL_p (L := [26]) (by decide) hprP).2.1
    have e_143 : μ128.1 26 11 = μ.1 26 11 := (hs_132.trans ((F_99.1 26 (ni hprP (fun P => 26) (fun P => [P, P + 1]) rfl) 11).trans (F_86.1 26 (ni hprP (fun P => 26) (fun P => [P + 2, (P + 2) + 1, (P + 2) + 2, (P + 2) + 3]) rfl) 11)))
    have e_144 : μ128.1 26 11 = μ.1 26 11 := (hs_132.trans ((F_99.1 26 (ni hprP (fun P => 26) (fun P => [P, P + 1]) rfl) 11).trans (F_86.1 26 (ni hprP (fun P => 26) (fun P => [P + 2, (P + 2) + 1, (P + 2) + 2, (P + 2) + 3]) rfl) 11)))
    have e_145 : μ128.1 P 1 = μ84.1 P 1 + 1 := ((F_129.1 P (ni hprP (fun P => P) (fun P => [26]) rfl) 1).trans hs_103)
    have e_146 : μ128.1 P 1 = μ84.1 P 1 + 1 := ((F_129.1 P (ni hprP (fun P => P) (fun P => [26]) rfl) 1).trans hs_103)
    have e_147 : μ128.1 26 11 = μ.1 26 11 := (hs_132.trans ((F_99.1 26 (ni hprP (fun P => 26) (fun P => [P, P + 1]) rfl) 11).trans (F_86.1 26 (ni hprP (fun P => 26) (fun P => [P + 2, (P + 2) + 1, (P + 2) + 2, (P + 2) + 3]) rfl) 11)))
    have e_148 : μ128.1 (P + 2) 3 = μ84.1 (P + 2) 3 := ((F_129.1 (P + 2) (ni hprP (fun P => P + 2) (fun P => [26]) rfl) 3).trans (F_99.1 (P + 2) (ni hprP (fun P => P + 2) (fun P => [P, P + 1]) rfl) 3))
    have e_149 : μ128.1 P 1 = μ84.1 P 1 + 1 := ((F_129.1 P (ni hprP (fun P => P) (fun P => [26]) rfl) 1).trans hs_103)
    have e_150 : μ128.1 (P + 2) 3 = μ84.1 (P + 2) 3 := ((F_129.1 (P + 2) (ni hprP (fun P => P + 2) (fun P => [26]) rfl) 3).trans (F_99.1 (P + 2) (ni hprP (fun P => P + 2) (fun P => [P, P + 1]) rfl) 3))
    have e_151 : μ128.1 23 2 = P := ((F_129.1 23 (by decide) 2).trans ((F_99.1 23 (ni hprP (fun P => 23) (fun P => [P, P + 1]) rfl) 2).trans ((F_86.1 23 (ni hprP (fun P => 23) (fun P => [P + 2, (P + 2) + 1, (P + 2) + 2, (P + 2) + 3]) rfl) 2).trans hP.symm)))
    have e_152 : μ128.1 23 5 = μ.1 23 5 := ((F_129.1 23 (by decide) 5).trans ((F_99.1 23 (ni hprP (fun P => 23) (fun P => [P, P + 1]) rfl) 5).trans (F_86.1 23 (ni hprP (fun P => 23) (fun P => [P + 2, (P + 2) + 1, (P + 2) + 2, (P + 2) + 3]) rfl) 5)))
    have e_153 : μ128.1 23 6 = μ.1 23 6 := ((F_129.1 23 (by decide) 6).trans ((F_99.1 23 (ni hprP (fun P => 23) (fun P => [P, P + 1]) rfl) 6).trans (F_86.1 23 (ni hprP (fun P => 23) (fun P => [P + 2, (P + 2) + 1, (P + 2) + 2, (P + 2) + 3]) rfl) 6)))
    have e_154 : μ128.1 23 7 = μ.1 23 7 := ((F_129.1 23 (by decide) 7).trans ((F_99.1 23 (ni hprP (fun P => 23) (fun P => [P, P + 1]) rfl) 7).trans (F_86.1 23 (ni hprP (fun P => 23) (fun P => [P + 2, (P + 2) + 1, (P + 2) + 2, (P + 2) + 3]) rfl) 7)))
    have e_155 : μ128.1 23 8 = tt := ((F_129.1 23 (by decide) 8).trans ((F_99.1 23 (ni hprP (fun P => 23) (fun P => [P, P + 1]) rfl) 8).trans ((F_86.1 23 (ni hprP (fun P => 23) (fun P => [P + 2, (P + 2) + 1, (P + 2) + 2, (P + 2) + 3]) rfl) 8).trans htt.symm)))
    have e_156 : μ128.1 23 9 = μ.1 23 9 := ((F_129.1 23 (by decide) 9).trans ((F_99.1 23 (ni hprP (fun P => 23) (fun P => [P, P + 1]) rfl) 9).trans (F_86.1 23 (ni hprP (fun P => 23) (fun P => [P + 2, (P + 2) + 1, (P + 2) + 2, (P + 2) + 3]) rfl) 9)))
    have e_157 : μ128.1 23 10 = μ.1 23 10 := ((F_129.1 23 (by decide) 10).trans ((F_99.1 23 (ni hprP (fun P => 23) (fun P => [P, P + 1]) rfl) 10).trans (F_86.1 23 (ni hprP (fun P => 23) (fun P => [P + 2, (P + 2) + 1, (P + 2) + 2, (P + 2) + 3]) rfl) 10)))
    have e_158 : μ128.1 26 6 = μ.1 26 6 := (hs_133.trans ((F_99.1 26 (ni hprP (fun P => 26) (fun P => [P, P + 1]) rfl) 6).trans (F_86.1 26 (ni hprP (fun P => 26) (fun P => [P + 2, (P + 2) + 1, (P + 2) + 2, (P + 2) + 3]) rfl) 6)))
    have e_159 : μ128.1 P 7 = μ.1 P 7 := ((F_129.1 P (ni hprP (fun P => P) (fun P => [26]) rfl) 7).trans (hs_104.trans (F_86.1 P (ni hprP (fun P => P) (fun P => [P + 2, (P + 2) + 1, (P + 2) + 2, (P + 2) + 3]) rfl) 7)))
    exact xr_v G hret hlk dX7_number_72 ⟨(Fr.tr (Fr.tr (Fr.tr Fr.rf F_86 (si hprP (fun P => [P + 2, (P + 2) + 1, (P + 2) + 2, (P + 2) + 3]) (fun P => [2, 3, 4, 23, 24, 26, P, P + 1, P + 2, (P + 2) + 1, (P + 2) + 2, (P + 2) + 3]) rfl)) F_99 (si hprP (fun P => [P, P + 1]) (fun P => [2, 3, 4, 23, 24, 26, P, P + 1, P + 2, (P + 2) + 1, (P + 2) + 2, (P + 2) + 3]) rfl)) F_129 (si hprP (fun P => [26]) (fun P => [2, 3, 4, 23, 24, 26, P, P + 1, P + 2, (P + 2) + 1, (P + 2) + 2, (P + 2) + 3]) rfl)), hI_130, htk_138, (by omega), (by omega), (by omega), (by omega), (fun h0 => (PXE.ex (hpx_142 h0)).e (by omega)), (by omega), (by omega), (by omega), (by omega), (by omega), (by omega), (by omega), (by omega), (by omega)⟩

set_option maxHeartbeats 4000000 in
set_option maxRecDepth 100000 in
theorem c_X7_functionItself (ω : Om) (l : Launch) (μ : M3) (F : Nat) (Lo : Nat) (kf : Int) (P : Int) (tt : Int) (hI : IC μ) (hP : P = μ.1 23 2) (htt : tt = μ.1 23 8) (hF : 60 ≤ F) (hLo : 2000 ≤ Lo) (hE : ∀ (μ : M3) (x1 : Int) (P : Int) (tt : Int) (hx1 : x1 = 0 ∨ x1 = 1) (hI : IC μ) (hP : P = μ.1 23 2) (htt : tt = μ.1 23 8) (hTK : TK μ) (hB : μ.1 P 1 ≤ 2 * μ.1 26 10 + 100 + 40 * μ.1 26 11) (hKc : μ.1 (P + 2) 3 ≤ μ.1 P 1) (hdp : 0 ≤ μ.1 23 9 ∧ μ.1 23 9 ≤ 8 + μ.1 26 11) (hfu : (μ.1 26 11 = 1 ∧ 0 ≤ (kf - 1)) ∨ 9 ≤ μ.1 23 9 + (kf - 1)) (hbg : x1 = 0 ∨ μ.1 26 11 ≠ 0 ∨ 2 ≤ hs μ P (μ.1 P 1)), CtV ω l yX7_expression cX7_expression 3 (F + 0) (Lo + 0) [.ref (oP ω 23), .int (iv x1)] μ (fun (μ' : M3) => (Fr [2, 3, 4, 23, 24, 26, P, P + 1, P + 2, (P + 2) + 1, (P + 2) + 2, (P + 2) + 3] μ μ') ∧ (IC μ') ∧ (TK μ') ∧ (μ.1 26 11 ≤ μ'.1 26 11) ∧ (μ.1 26 10 ≤ μ'.1 26 10) ∧ (μ.1 P 1 ≤ μ'.1 P 1 ∧ μ'.1 P 1 ≤ μ.1 P 1 + 2 * (μ'.1 26 10 - μ.1 26 10) + (- 1 + 3 * μ'.1 26 11 - 2 * μ.1 26 11 + x1)) ∧ (μ'.1 (P + 2) 3 - μ.1 (P + 2) 3 ≤ μ'.1 P 1 - μ.1 P 1 ∧ μ.1 (P + 2) 3 ≤ μ'.1 (P + 2) 3) ∧ (μ'.1 26 11 = 0 → EX μ μ' P tt (1 - x1) 0) ∧ (μ'.1 23 2 = μ.1 23 2) ∧ (μ'.1 23 5 = μ.1 23 5) ∧ (μ'.1 23 6 = μ.1 23 6) ∧ (μ'.1 23 7 = μ.1 23 7) ∧ (μ'.1 23 8 = μ.1 23 8) ∧ (μ'.1 23 9 = μ.1 23 9) ∧ (μ'.1 23 10 = μ.1 23 10) ∧ (μ'.1 26 6 = μ.1 26 6) ∧ (μ'.1 P 7 = μ.1 P 7))) (hU : ∀ (μ : M3) (x1 : Int) (P : Int) (tt : Int) (hx1 : x1 = 0 ∨ x1 = 1) (hI : IC μ) (hP : P = μ.1 23 2) (htt : tt = μ.1 23 8) (hTK : TK μ) (hB : μ.1 P 1 ≤ 2 * μ.1 26 10 + 100 + 40 * μ.1 26 11) (hKc : μ.1 (P + 2) 3 ≤ μ.1 P 1) (hdp : 0 ≤ μ.1 23 9 ∧ μ.1 23 9 ≤ 8 + μ.1 26 11) (hfu : (μ.1 26 11 = 1 ∧ 0 ≤ (kf - 1)) ∨ 9 ≤ μ.1 23 9 + (kf - 1)) (hbg : x1 = 0 ∨ μ.1 26 11 ≠ 0 ∨ 2 ≤ hs μ P (μ.1 P 1)), CtV ω l yX7_unary cX7_unary 2 (F + 0) (Lo + 0) [.ref (oP ω 23), .int (iv x1)] μ (fun (μ' : M3) => (Fr [2, 3, 4, 23, 24, 26, P, P + 1, P + 2, (P + 2) + 1, (P + 2) + 2, (P + 2) + 3] μ μ') ∧ (IC μ') ∧ (TK μ') ∧ (μ.1 26 11 ≤ μ'.1 26 11) ∧ (μ.1 26 10 ≤ μ'.1 26 10) ∧ (μ.1 P 1 ≤ μ'.1 P 1 ∧ μ'.1 P 1 ≤ μ.1 P 1 + 2 * (μ'.1 26 10 - μ.1 26 10) + (- 1 + 3 * μ'.1 26 11 - 2 * μ.1 26 11 + x1)) ∧ (μ'.1 (P + 2) 3 - μ.1 (P + 2) 3 ≤ μ'.1 P 1 - μ.1 P 1 ∧ μ.1 (P + 2) 3 ≤ μ'.1 (P + 2) 3) ∧ (μ'.1 26 11 = 0 → EX μ μ' P tt (1 - x1) 0) ∧ (μ'.1 23 2 = μ.1 23 2) ∧ (μ'.1 23 5 = μ.1 23 5) ∧ (μ'.1 23 6 = μ.1 23 6) ∧ (μ'.1 23 7 = μ.1 23 7) ∧ (μ'.1 23 8 = μ.1 23 8) ∧ (μ'.1 23 9 = μ.1 23 9) ∧ (μ'.1 23 10 = μ.1 23 10) ∧ (μ'.1 26 6 = μ.1 26 6) ∧ (μ'.1 P 7 = μ.1 P 7))) (hTK : TK μ) (hB : μ.1 P 1 ≤ 2 * μ.1 26 10 + 100 + 40 * μ.1 26 11) (hKc : μ.1 (P + 2) 3 ≤ μ.1 P 1) (hdp : 0 ≤ μ.1 23 9 ∧ μ.1 23 9 ≤ 8) (hfu : 9 ≤ μ.1 23 9 + kf) : CtV ω l yX7_functionItself cX7_functionItself 4 (F + 0) (Lo + 0) [.ref (oP ω 23)] μ (fun (μ' : M3) => (Fr [2, 3, 4, 23, 24, 26, P, P + 1, P + 2, (P + 2) + 1, (P + 2) + 2, (P + 2) + 3] μ μ') ∧ (IC μ') ∧ (TK μ') ∧ (μ.1 26 11 ≤ μ'.1 26 11) ∧ (μ.1 26 10 ≤ μ'.1 26 10) ∧ (μ.1 P 1 ≤ μ'.1 P 1 ∧ μ'.1 P 1 ≤ μ.1 P 1 + 2 * (μ'.1 26 10 - μ.1 26 10) + (- 1 + 2 * μ'.1 26 11)) ∧ (μ'.1 (P + 2) 3 - μ.1 (P + 2) 3 ≤ μ'.1 P 1 - μ.1 P 1 ∧ μ.1 (P + 2) 3 ≤ μ'.1 (P + 2) 3) ∧ (μ'.1 26 11 = 0 → EX μ μ' P tt 1 0) ∧ (μ'.1 23 2 = μ.1 23 2) ∧ (μ'.1 23 5 = μ.1 23 5) ∧ (μ'.1 23 6 = μ.1 23 6) ∧ (μ'.1 23 7 = μ.1 23 7) ∧ (μ'.1 23 8 = μ.1 23 8) ∧ (μ'.1 23 9 = μ.1 23 9) ∧ (μ'.1 23 10 = μ.1 23 10) ∧ (μ'.1 26 6 = μ.1 26 6) ∧ (μ'.1 P 7 = μ.1 P 7)) := by
  refine CtV.go (by decide) (Nat.le_of_ble_eq_true rfl) (fun ρ p e s m below meth c R ls G hR hret hlk hl => ?_)
  have hx := G.1.1
  have hb := G.1.2.1
  have hl : lv_has ls 4 [(0, .ref (oP ω 23))] := hl
  generalize s.drawn = d0 at G ⊢
  have hTKb := hTK.b
  have hprP : isPr P := by have h9 := G.sr0.2.2.2.2.2; rw [← hP] at h9; exact h9
  have hprP_d : 13 ≤ P ∧ P ≤ 101 := by rcases hprP with h9 | h9 | h9 | h9 | h9 <;> omega
  have hk_1 := hI.pr (p := P) hprP
  unfold pk at hk_1
  have hc_2 : 16 ≤ μ.2.1 (P + 1) ∧ μ.2.1 (P + 1) ≤ 73024 := hI.rm.1 _ hprP.cap
  have hnil : μ.1 26 11 = 0 → PXE μ μ P tt 0 (-1) 1 := fun _ => PXE.nil (by omega)
  refine lv_aload_n hx hb dX7_functionItself_0 rfl (lv_at hl 0 rfl) ?_
  refine xa_geti G fd_X7 (a := 23) (x := tt) 8 rfl (by decide) rfl (wm 2 25 rfl rfl) ⟨rfl, rfl, rfl⟩ dX7_functionItself_1 rfl htt.symm ?_
  have hr_3 : -2147483648 ≤ tt ∧ tt ≤ 2147483647 := by have h9 := G.hr (a := 23) (k := 8) rfl; rw [show μ.1 23 8 = tt from htt.symm] at h9; exact h9
  refine lv_istore_n (lv' := [(1, .int (iv tt)), (0, .ref (oP ω 23))]) hx hb dX7_functionItself_4 rfl hl (by decide) rfl (fun ls hl => ?_)
  refine lv_aload_n hx hb dX7_functionItself_5 rfl (lv_at hl 1 rfl) ?_
  refine xc_iV G (b := 23) (rest := []) (As := []) (c_X7_isTongueWord ω l μ  hI) (wm 4 104 rfl rfl) (wm 4 106 rfl rfl) (wm 0 42 rfl rfl) rfl rfl (by decide) rfl (wm 1 12 rfl rfl) (wm 4 107 rfl rfl) (by decide) hR ⟨nfr hF (by decide), nlo hLo (by decide)⟩ (n := 0) rfl rfl (Nat.le_of_ble_eq_true rfl) hl.1 dX7_functionItself_6 (fun r_5 μ4 ρ d0 H locs hr_r_5 hp G => ?_)
  have hr_r_5 : -2147483648 ≤ r_5 ∧ r_5 ≤ 2147483647 := hr_r_5
  obtain ⟨hsm_6, hp_7⟩ := hp
  have hsm_6 := Eq.symm hsm_6
  subst hsm_6
  refine xb_if_eq (tgt := 37) hx hb (by unfold ir; omega) dX7_functionItself_9 (by decide) (fun c_9 => ?_) (fun c_9 => ?_)
  · refine lv_aload_n hx hb dX7_functionItself_37 rfl (lv_at hl 1 rfl) ?_
    refine xa_getr G fd_X7 (a := 23) (x := 26) 0 rfl (by decide) rfl (wm 2 17 rfl rfl) ⟨rfl, rfl, rfl⟩ dX7_functionItself_38 rfl (G.sk 23 rfl) (by decide) rfl ?_
    refine xa_getN G fd_X10 (host := "FourTongues") (a := 26) 14 rfl (by decide) (by decide) ⟨rfl, rfl, rfl⟩ dX7_functionItself_41 rfl (v := .long (jv (μ.1 26 14))) (by rw [show μ.1 26 14 = μ.1 26 14 from rfl]; rfl) ?_
    have hj_8 : jr (μ.1 26 14) := by have h9 := G.hj (a := 26) (k := 14) rfl; exact h9
    refine lv_lstore_n (lv' := [(2, .long (jv (μ.1 26 14))), (1, .int (iv tt)), (0, .ref (oP ω 23))]) hx hb dX7_functionItself_44 rfl hl (by decide) rfl (fun ls hl => ?_)
    refine lv_aload_n hx hb dX7_functionItself_45 rfl (lv_at hl 2 rfl) ?_
    refine lv_iconst (v := iv 1) hx hb dX7_functionItself_46 rfl ?_
    have hn_9 : -1 ≤ μ.1 26 10 ∧ μ.1 26 10 ≤ 3000 := hI.nm.2.2.2.2.2.2.2.2.2.2.2.2
    have hn_10 : 0 ≤ μ.1 26 6 ∧ μ.1 26 6 ≤ 3001 := hI.nm.2.2.2.2.2.2.2.2.2.1
    have hn_11 : 0 ≤ μ.1 26 7 ∧ μ.1 26 7 ≤ 3000 := hI.nm.2.2.2.2.2.2.2.2.2.2.1
    have hn_12 : 0 ≤ μ.1 26 9 ∧ μ.1 26 9 ≤ 3000 := hI.nm.2.2.2.2.2.2.2.2.2.2.2.1
    refine xc_vV G (b := 23) (rest := []) (As := [.int (iv 1)]) (c_X7_need ω l μ 1 (by unfold ir; omega) hI hTK (by omega)) (wm 3 169 rfl rfl) (wm 3 171 rfl rfl) (wm 0 11 rfl rfl) rfl rfl (by decide) rfl (wm 1 12 rfl rfl) (wm 3 172 rfl rfl) (by decide) hR ⟨nfr hF (by decide), nlo hLo (by decide)⟩ (n := 1) rfl rfl (Nat.le_of_ble_eq_true rfl) hl.1 dX7_functionItself_47 (fun μ13 ρ d0 H locs hp G => ?_)
    obtain ⟨F_14, hI_15, hp_16, hp_17, hp_18, hp_19, hs_20, hs_21, hs_22, hs_23⟩ := hp
    have hn_24 : -1 ≤ μ13.1 26 10 ∧ μ13.1 26 10 ≤ 3000 := hI_15.nm.2.2.2.2.2.2.2.2.2.2.2.2
    have htb_25 := hp_16.b
    refine lv_aload_n hx hb dX7_functionItself_50 rfl (lv_at hl 2 rfl) ?_
    refine lv_bipush (v := iv 15) hx hb dX7_functionItself_51 rfl ?_
    refine lv_iload_n hx hb dX7_functionItself_53 rfl (lv_at hl 1 rfl) ?_
    refine lv_aload_n hx hb dX7_functionItself_54 rfl (lv_at hl 2 rfl) ?_
    refine xa_getr G fd_X7 (a := 23) (x := P) 2 rfl (by decide) rfl (wm 2 19 rfl rfl) ⟨rfl, rfl, rfl⟩ dX7_functionItself_55 rfl ((F_14.1 23 (by decide) 2).trans hP.symm) (by omega) (hprP.hq ω ρ) ?_
    refine lv_iconst (v := iv 0) hx hb dX7_functionItself_58 rfl ?_
    refine lv_lload_n hx hb dX7_functionItself_59 rfl (lv_at hl 0 rfl) ?_
    refine lv_dconst0 hx hb dX7_functionItself_60 ?_
    refine xb_topd (fun dd_26 he_dd_26 => ?_)
    have hpx_27 : μ13.1 26 11 = 0 → PXE μ μ13 P tt 0 (-1) 1 := fun h0 => (hnil (by have h9 : μ.1 26 11 = μ.1 26 11 := rfl; have h8 : μ13.1 26 11 = μ13.1 26 11 := rfl; omega)).fr (K := [26]) (Fr.tr Fr.rf F_14 (by decide)) (npL_p (L := [26]) (by decide) hprP).1 (npL_p (L := [26]) (by decide) hprP).2.1
    have hk_28 := hI.row (r := P + 2) (hprP.row)
    unfold rk at hk_28
    have e_29 : μ13.1 (P + 2) 3 = μ.1 (P + 2) 3 := (F_14.1 (P + 2) (ni hprP (fun P => P + 2) (fun P => [26]) rfl) 3)
    have e_30 : μ13.1 (P + 2) 3 = μ.1 (P + 2) 3 := (F_14.1 (P + 2) (ni hprP (fun P => P + 2) (fun P => [26]) rfl) 3)
    have e_31 : μ13.1 (P + 2) 3 = μ.1 (P + 2) 3 := (F_14.1 (P + 2) (ni hprP (fun P => P + 2) (fun P => [26]) rfl) 3)
    have e_32 : μ13.1 (P + 2) 3 = μ.1 (P + 2) 3 := (F_14.1 (P + 2) (ni hprP (fun P => P + 2) (fun P => [26]) rfl) 3)
    have e_33 : μ13.1 (P + 2) 3 = μ.1 (P + 2) 3 := (F_14.1 (P + 2) (ni hprP (fun P => P + 2) (fun P => [26]) rfl) 3)
    refine xc_iV G (b := P) (rest := [.int (iv tt), .int (iv 15), .ref (oP ω 23)]) (As := [.int (iv 0), .long (jv (μ.1 26 14)), .double (dv dd_26)]) (c_X8_addConstant ω l μ13 P 0 (μ.1 26 14) dd_26 (μ.1 (P + 2) 3) hprP (by unfold ir; omega) hj_8 hI_15 (by omega) (by omega)) (wm 4 67 rfl rfl) (wm 4 68 rfl rfl) (wm 4 69 rfl rfl) hprP.ly rfl (by decide) (hprP.hq ω ρ) (wm 1 9 rfl rfl) (wm 4 70 rfl rfl) (by decide) hR ⟨nfr hF (by decide), nlo hLo (by decide)⟩ (n := 3) rfl rfl (Nat.le_of_ble_eq_true rfl) hl.1 dX7_functionItself_61 (fun r_35 μ34 ρ d0 H locs hr_r_35 hp G => ?_)
    have hr_r_35 : -2147483648 ≤ r_35 ∧ r_35 ≤ 2147483647 := hr_r_35
    obtain ⟨F_36, hI_37, hp_38, hp_39⟩ := hp
    have hk_40 := hI_37.row (r := P + 2) (hprP.row)
    unfold rk at hk_40
    have hpx_41 : μ34.1 26 11 = 0 → PXE μ μ34 P tt 0 (-1) 1 := fun h0 => (hpx_27 (by have h9 : μ13.1 26 11 = μ13.1 26 11 := rfl; have h8 : μ34.1 26 11 = μ13.1 26 11 := (F_36.1 26 (ni hprP (fun P => 26) (fun P => [P + 2, (P + 2) + 1, (P + 2) + 2, (P + 2) + 3]) rfl) 11); omega)).fr (K := [P + 2, (P + 2) + 1, (P + 2) + 2, (P + 2) + 3]) (Fr.tr Fr.rf F_36 (si hprP (fun P => [P + 2, (P + 2) + 1, (P + 2) + 2, (P + 2) + 3]) (fun P => [P + 2, (P + 2) + 1, (P + 2) + 2, (P + 2) + 3]) rfl)) (ni hprP (fun P => P) (fun P => [P + 2, (P + 2) + 1, (P + 2) + 2, (P + 2) + 3]) rfl) (ni hprP (fun P => P + 1) (fun P => [P + 2, (P + 2) + 1, (P + 2) + 2, (P + 2) + 3]) rfl)
    have e_42 : μ34.1 23 2 = P := ((F_36.1 23 (ni hprP (fun P => 23) (fun P => [P + 2, (P + 2) + 1, (P + 2) + 2, (P + 2) + 3]) rfl) 2).trans ((F_14.1 23 (by decide) 2).trans hP.symm))
    have e_43 : μ34.1 P 1 = μ.1 P 1 := ((F_36.1 P (ni hprP (fun P => P) (fun P => [P + 2, (P + 2) + 1, (P + 2) + 2, (P + 2) + 3]) rfl) 1).trans (F_14.1 P (ni hprP (fun P => P) (fun P => [26]) rfl) 1))
    have e_44 : μ34.1 P 1 = μ.1 P 1 := ((F_36.1 P (ni hprP (fun P => P) (fun P => [P + 2, (P + 2) + 1, (P + 2) + 2, (P + 2) + 3]) rfl) 1).trans (F_14.1 P (ni hprP (fun P => P) (fun P => [26]) rfl) 1))
    have e_45 : μ34.1 P 1 = μ.1 P 1 := ((F_36.1 P (ni hprP (fun P => P) (fun P => [P + 2, (P + 2) + 1, (P + 2) + 2, (P + 2) + 3]) rfl) 1).trans (F_14.1 P (ni hprP (fun P => P) (fun P => [26]) rfl) 1))
    have e_46 : μ34.1 P 7 = μ.1 P 7 := ((F_36.1 P (ni hprP (fun P => P) (fun P => [P + 2, (P + 2) + 1, (P + 2) + 2, (P + 2) + 3]) rfl) 7).trans (F_14.1 P (ni hprP (fun P => P) (fun P => [26]) rfl) 7))
    refine xc_iV G (b := 23) (rest := []) (As := [.int (iv 15), .int (iv tt), .int (iv r_35)]) (c_X7_add ω l μ34 15 tt r_35 P (by unfold ir; omega) (by unfold ir; omega) (by unfold ir; omega) hI_37 (by omega) (by omega)) (wm 3 226 rfl rfl) (wm 3 228 rfl rfl) (wm 0 21 rfl rfl) rfl rfl (by decide) rfl (wm 1 12 rfl rfl) (wm 3 229 rfl rfl) (by decide) hR ⟨nfr hF (by decide), nlo hLo (by decide)⟩ (n := 3) rfl rfl (Nat.le_of_ble_eq_true rfl) hl.1 dX7_functionItself_64 (fun r_48 μ47 ρ d0 H locs hr_r_48 hp G => ?_)
    have hr_r_48 : -2147483648 ≤ r_48 ∧ r_48 ≤ 2147483647 := hr_r_48
    obtain ⟨F_49, hI_50, hp_51, hp_52, hs_53, hs_54⟩ := hp
    have hpx_55 : μ47.1 26 11 = 0 → PXE μ μ47 P tt 1 (-1) 1 := fun h0 => (PXE.app (hpx_41 (by have h9 : μ34.1 26 11 = μ13.1 26 11 := (F_36.1 26 (ni hprP (fun P => 26) (fun P => [P + 2, (P + 2) + 1, (P + 2) + 2, (P + 2) + 3]) rfl) 11); have h8 : μ47.1 26 11 = μ13.1 26 11 := ((F_49.1 26 (ni hprP (fun P => 26) (fun P => [P, P + 1]) rfl) 11).trans (F_36.1 26 (ni hprP (fun P => 26) (fun P => [P + 2, (P + 2) + 1, (P + 2) + 2, (P + 2) + 3]) rfl) 11)); omega)) (EX.pl hp_52 (by omega) (by unfold plain; omega) (e := 1) rfl (by have h9 := hs_1 (μ := μ34) (P := P) (i := μ34.1 P 1); omega))).e (by omega)
    refine lv_pop hx hb dX7_functionItself_67 rfl ?_
    have htk_56 : TK μ47 := hp_16.fr (K := [P, P + 1, P + 2, (P + 2) + 1, (P + 2) + 2, (P + 2) + 3]) (Fr.tr (Fr.tr Fr.rf F_36 (si hprP (fun P => [P + 2, (P + 2) + 1, (P + 2) + 2, (P + 2) + 3]) (fun P => [P, P + 1, P + 2, (P + 2) + 1, (P + 2) + 2, (P + 2) + 3]) rfl)) F_49 (si hprP (fun P => [P, P + 1]) (fun P => [P, P + 1, P + 2, (P + 2) + 1, (P + 2) + 2, (P + 2) + 3]) rfl)) (ni hprP (fun P => 26) (fun P => [P, P + 1, P + 2, (P + 2) + 1, (P + 2) + 2, (P + 2) + 3]) rfl) (ni hprP (fun P => 28) (fun P => [P, P + 1, P + 2, (P + 2) + 1, (P + 2) + 2, (P + 2) + 3]) rfl)
    have e_57 : μ47.1 26 11 = μ13.1 26 11 := ((F_49.1 26 (ni hprP (fun P => 26) (fun P => [P, P + 1]) rfl) 11).trans (F_36.1 26 (ni hprP (fun P => 26) (fun P => [P + 2, (P + 2) + 1, (P + 2) + 2, (P + 2) + 3]) rfl) 11))
    have e_58 : μ47.1 26 11 = μ13.1 26 11 := ((F_49.1 26 (ni hprP (fun P => 26) (fun P => [P, P + 1]) rfl) 11).trans (F_36.1 26 (ni hprP (fun P => 26) (fun P => [P + 2, (P + 2) + 1, (P + 2) + 2, (P + 2) + 3]) rfl) 11))
    have e_59 : μ47.1 26 10 = μ13.1 26 10 := ((F_49.1 26 (ni hprP (fun P => 26) (fun P => [P, P + 1]) rfl) 10).trans (F_36.1 26 (ni hprP (fun P => 26) (fun P => [P + 2, (P + 2) + 1, (P + 2) + 2, (P + 2) + 3]) rfl) 10))
    have e_60 : μ47.1 P 1 = μ34.1 P 1 + 1 := hs_53
    have e_61 : μ47.1 P 1 = μ34.1 P 1 + 1 := hs_53
    have e_62 : μ47.1 26 10 = μ13.1 26 10 := ((F_49.1 26 (ni hprP (fun P => 26) (fun P => [P, P + 1]) rfl) 10).trans (F_36.1 26 (ni hprP (fun P => 26) (fun P => [P + 2, (P + 2) + 1, (P + 2) + 2, (P + 2) + 3]) rfl) 10))
    have e_63 : μ47.1 26 11 = μ13.1 26 11 := ((F_49.1 26 (ni hprP (fun P => 26) (fun P => [P, P + 1]) rfl) 11).trans (F_36.1 26 (ni hprP (fun P => 26) (fun P => [P + 2, (P + 2) + 1, (P + 2) + 2, (P + 2) + 3]) rfl) 11))
    have e_64 : μ47.1 (P + 2) 3 = μ34.1 (P + 2) 3 := (F_49.1 (P + 2) (ni hprP (fun P => P + 2) (fun P => [P, P + 1]) rfl) 3)
    have e_65 : μ47.1 P 1 = μ34.1 P 1 + 1 := hs_53
    have e_66 : μ47.1 (P + 2) 3 = μ34.1 (P + 2) 3 := (F_49.1 (P + 2) (ni hprP (fun P => P + 2) (fun P => [P, P + 1]) rfl) 3)
    have e_67 : μ47.1 23 2 = P := ((F_49.1 23 (ni hprP (fun P => 23) (fun P => [P, P + 1]) rfl) 2).trans ((F_36.1 23 (ni hprP (fun P => 23) (fun P => [P + 2, (P + 2) + 1, (P + 2) + 2, (P + 2) + 3]) rfl) 2).trans ((F_14.1 23 (by decide) 2).trans hP.symm)))
    have e_68 : μ47.1 23 5 = μ.1 23 5 := ((F_49.1 23 (ni hprP (fun P => 23) (fun P => [P, P + 1]) rfl) 5).trans ((F_36.1 23 (ni hprP (fun P => 23) (fun P => [P + 2, (P + 2) + 1, (P + 2) + 2, (P + 2) + 3]) rfl) 5).trans (F_14.1 23 (by decide) 5)))
    have e_69 : μ47.1 23 6 = μ.1 23 6 := ((F_49.1 23 (ni hprP (fun P => 23) (fun P => [P, P + 1]) rfl) 6).trans ((F_36.1 23 (ni hprP (fun P => 23) (fun P => [P + 2, (P + 2) + 1, (P + 2) + 2, (P + 2) + 3]) rfl) 6).trans (F_14.1 23 (by decide) 6)))
    have e_70 : μ47.1 23 7 = μ.1 23 7 := ((F_49.1 23 (ni hprP (fun P => 23) (fun P => [P, P + 1]) rfl) 7).trans ((F_36.1 23 (ni hprP (fun P => 23) (fun P => [P + 2, (P + 2) + 1, (P + 2) + 2, (P + 2) + 3]) rfl) 7).trans (F_14.1 23 (by decide) 7)))
    have e_71 : μ47.1 23 8 = tt := ((F_49.1 23 (ni hprP (fun P => 23) (fun P => [P, P + 1]) rfl) 8).trans ((F_36.1 23 (ni hprP (fun P => 23) (fun P => [P + 2, (P + 2) + 1, (P + 2) + 2, (P + 2) + 3]) rfl) 8).trans ((F_14.1 23 (by decide) 8).trans htt.symm)))
    have e_72 : μ47.1 23 9 = μ.1 23 9 := ((F_49.1 23 (ni hprP (fun P => 23) (fun P => [P, P + 1]) rfl) 9).trans ((F_36.1 23 (ni hprP (fun P => 23) (fun P => [P + 2, (P + 2) + 1, (P + 2) + 2, (P + 2) + 3]) rfl) 9).trans (F_14.1 23 (by decide) 9)))
    have e_73 : μ47.1 23 10 = μ.1 23 10 := ((F_49.1 23 (ni hprP (fun P => 23) (fun P => [P, P + 1]) rfl) 10).trans ((F_36.1 23 (ni hprP (fun P => 23) (fun P => [P + 2, (P + 2) + 1, (P + 2) + 2, (P + 2) + 3]) rfl) 10).trans (F_14.1 23 (by decide) 10)))
    have e_74 : μ47.1 26 6 = μ.1 26 6 := ((F_49.1 26 (ni hprP (fun P => 26) (fun P => [P, P + 1]) rfl) 6).trans ((F_36.1 26 (ni hprP (fun P => 26) (fun P => [P + 2, (P + 2) + 1, (P + 2) + 2, (P + 2) + 3]) rfl) 6).trans hs_20))
    have e_75 : μ47.1 P 7 = μ.1 P 7 := (hs_54.trans ((F_36.1 P (ni hprP (fun P => P) (fun P => [P + 2, (P + 2) + 1, (P + 2) + 2, (P + 2) + 3]) rfl) 7).trans (F_14.1 P (ni hprP (fun P => P) (fun P => [26]) rfl) 7)))
    exact xr_v G hret hlk dX7_functionItself_68 ⟨(Fr.tr (Fr.tr (Fr.tr Fr.rf F_14 (si hprP (fun P => [26]) (fun P => [2, 3, 4, 23, 24, 26, P, P + 1, P + 2, (P + 2) + 1, (P + 2) + 2, (P + 2) + 3]) rfl)) F_36 (si hprP (fun P => [P + 2, (P + 2) + 1, (P + 2) + 2, (P + 2) + 3]) (fun P => [2, 3, 4, 23, 24, 26, P, P + 1, P + 2, (P + 2) + 1, (P + 2) + 2, (P + 2) + 3]) rfl)) F_49 (si hprP (fun P => [P, P + 1]) (fun P => [2, 3, 4, 23, 24, 26, P, P + 1, P + 2, (P + 2) + 1, (P + 2) + 2, (P + 2) + 3]) rfl)), hI_50, htk_56, (by omega), (by omega), (by omega), (by omega), (fun h0 => (PXE.ex (hpx_55 h0)).e (by omega)), (by omega), (by omega), (by omega), (by omega), (by omega), (by omega), (by omega), (by omega), (by omega)⟩
  · refine lv_aload_n hx hb dX7_functionItself_12 rfl (lv_at hl 1 rfl) ?_
    refine xa_getr G fd_X7 (a := 23) (x := 26) 0 rfl (by decide) rfl (wm 2 17 rfl rfl) ⟨rfl, rfl, rfl⟩ dX7_functionItself_13 rfl (G.sk 23 rfl) (by decide) rfl ?_
    refine xa_getN G fd_X10 (host := "FourTongues") (a := 26) 12 rfl (by decide) (by decide) ⟨rfl, rfl, rfl⟩ dX7_functionItself_16 rfl (v := .int (iv (μ.1 26 12))) (by rw [show μ.1 26 12 = μ.1 26 12 from rfl]; rfl) ?_
    have hr_76 : -2147483648 ≤ μ.1 26 12 ∧ μ.1 26 12 ≤ 2147483647 := by have h9 := G.hr (a := 26) (k := 12) rfl; exact h9
    refine lv_sipush (v := iv 229) hx hb dX7_functionItself_19 rfl ?_
    refine xb_isub hx hb dX7_functionItself_22 ?_
    refine lv_istore_n (lv' := [(1, .int (iv ((μ.1 26 12) - 229))), (0, .ref (oP ω 23))]) hx hb dX7_functionItself_23 rfl hl (by decide) rfl (fun ls hl => ?_)
    refine lv_aload_n hx hb dX7_functionItself_24 rfl (lv_at hl 1 rfl) ?_
    refine xa_getr G fd_X7 (a := 23) (x := 26) 0 rfl (by decide) rfl (wm 2 17 rfl rfl) ⟨rfl, rfl, rfl⟩ dX7_functionItself_25 rfl (G.sk 23 rfl) (by decide) rfl ?_
    have hn_77 : 0 ≤ μ.1 26 6 ∧ μ.1 26 6 ≤ 3001 := hI.nm.2.2.2.2.2.2.2.2.2.1
    have hn_78 : -1 ≤ μ.1 26 10 ∧ μ.1 26 10 ≤ 3000 := hI.nm.2.2.2.2.2.2.2.2.2.2.2.2
    have hn_79 : 0 ≤ μ.1 26 7 ∧ μ.1 26 7 ≤ 3000 := hI.nm.2.2.2.2.2.2.2.2.2.2.1
    have hn_80 : 0 ≤ μ.1 26 9 ∧ μ.1 26 9 ≤ 3000 := hI.nm.2.2.2.2.2.2.2.2.2.2.2.1
    refine xc_vV G (b := 26) (rest := []) (As := []) (c_X10_next ω l μ  hI (by omega) (by omega)) (wm 3 164 rfl rfl) (wm 3 157 rfl rfl) (wm 3 158 rfl rfl) rfl rfl (by decide) rfl (wm 1 13 rfl rfl) (wm 3 159 rfl rfl) (by decide) hR ⟨nfr hF (by decide), nlo hLo (by decide)⟩ (n := 0) rfl rfl (Nat.le_of_ble_eq_true rfl) hl.1 dX7_functionItself_28 (fun μ81 ρ d0 H locs hp G => ?_)
    obtain ⟨F_82, hI_83, hp_84, hs_85, hs_86, hs_87, hs_88, hs_89⟩ := hp
    have hn_90 : -1 ≤ μ81.1 26 10 ∧ μ81.1 26 10 ≤ 3000 := hI_83.nm.2.2.2.2.2.2.2.2.2.2.2.2
    obtain ⟨htk_91, htk_91_s, htk_91_n⟩ := TK.nx hTK F_82 hs_86 hs_85 (by have h9 : μ.1 26 12 = μ.1 26 12 := rfl; omega) hp_84
    clear hp_84
    have htb_92 := htk_91.b
    refine lv_aload_n hx hb dX7_functionItself_31 rfl (lv_at hl 1 rfl) ?_
    refine lv_bipush (v := iv 46) hx hb dX7_functionItself_32 rfl ?_
    have hpx_93 : μ81.1 26 11 = 0 → PXE μ μ81 P tt 0 (-1) 1 := fun h0 => (hnil (by have h9 : μ.1 26 11 = μ.1 26 11 := rfl; have h8 : μ81.1 26 11 = μ.1 26 11 := hs_85; omega)).fr (K := [26]) (Fr.tr Fr.rf F_82 (by decide)) (npL_p (L := [26]) (by decide) hprP).1 (npL_p (L := [26]) (by decide) hprP).2.1
    have e_94 : μ81.1 26 11 = μ.1 26 11 := hs_85
    have e_95 : μ81.1 26 6 = μ.1 26 6 := hs_86
    have e_96 : μ81.1 26 7 = μ.1 26 7 := hs_87
    have e_97 : μ81.1 26 8 = μ.1 26 8 := hs_88
    have e_98 : μ81.1 26 9 = μ.1 26 9 := hs_89
    refine xc_vV G (b := 23) (rest := []) (As := [.int (iv 46)]) (c_X7_need ω l μ81 46 (by unfold ir; omega) hI_83 htk_91 (by omega)) (wm 3 169 rfl rfl) (wm 3 171 rfl rfl) (wm 0 11 rfl rfl) rfl rfl (by decide) rfl (wm 1 12 rfl rfl) (wm 3 172 rfl rfl) (by decide) hR ⟨nfr hF (by decide), nlo hLo (by decide)⟩ (n := 1) rfl rfl (Nat.le_of_ble_eq_true rfl) hl.1 dX7_functionItself_34 (fun μ99 ρ d0 H locs hp G => ?_)
    obtain ⟨F_100, hI_101, hp_102, hp_103, hp_104, hp_105, hs_106, hs_107, hs_108, hs_109⟩ := hp
    have hn_110 : -1 ≤ μ99.1 26 10 ∧ μ99.1 26 10 ≤ 3000 := hI_101.nm.2.2.2.2.2.2.2.2.2.2.2.2
    have htb_111 := hp_102.b
    refine lv_aload_n hx hb dX7_functionItself_37 rfl (lv_at hl 1 rfl) ?_
    refine xa_getr G fd_X7 (a := 23) (x := 26) 0 rfl (by decide) rfl (wm 2 17 rfl rfl) ⟨rfl, rfl, rfl⟩ dX7_functionItself_38 rfl (G.sk 23 rfl) (by decide) rfl ?_
    refine xa_getN G fd_X10 (host := "FourTongues") (a := 26) 14 rfl (by decide) (by decide) ⟨rfl, rfl, rfl⟩ dX7_functionItself_41 rfl (v := .long (jv (μ99.1 26 14))) (by rw [show μ99.1 26 14 = μ99.1 26 14 from rfl]; rfl) ?_
    have hj_112 : jr (μ99.1 26 14) := by have h9 := G.hj (a := 26) (k := 14) rfl; exact h9
    refine lv_lstore_n (lv' := [(2, .long (jv (μ99.1 26 14))), (1, .int (iv ((μ.1 26 12) - 229))), (0, .ref (oP ω 23))]) hx hb dX7_functionItself_44 rfl hl (by decide) rfl (fun ls hl => ?_)
    refine lv_aload_n hx hb dX7_functionItself_45 rfl (lv_at hl 2 rfl) ?_
    refine lv_iconst (v := iv 1) hx hb dX7_functionItself_46 rfl ?_
    have hpx_113 : μ99.1 26 11 = 0 → PXE μ μ99 P tt 0 (-1) 1 := fun h0 => (hpx_93 (by have h9 : μ81.1 26 11 = μ.1 26 11 := hs_85; have h8 : μ99.1 26 11 = μ99.1 26 11 := rfl; omega)).fr (K := [26]) (Fr.tr Fr.rf F_100 (by decide)) (npL_p (L := [26]) (by decide) hprP).1 (npL_p (L := [26]) (by decide) hprP).2.1
    have e_114 : μ99.1 26 6 = μ.1 26 6 := (hs_106.trans hs_86)
    have e_115 : μ99.1 26 7 = μ.1 26 7 := (hs_107.trans hs_87)
    have e_116 : μ99.1 26 8 = μ.1 26 8 := (hs_108.trans hs_88)
    have e_117 : μ99.1 26 9 = μ.1 26 9 := (hs_109.trans hs_89)
    refine xc_vV G (b := 23) (rest := []) (As := [.int (iv 1)]) (c_X7_need ω l μ99 1 (by unfold ir; omega) hI_101 hp_102 (by omega)) (wm 3 169 rfl rfl) (wm 3 171 rfl rfl) (wm 0 11 rfl rfl) rfl rfl (by decide) rfl (wm 1 12 rfl rfl) (wm 3 172 rfl rfl) (by decide) hR ⟨nfr hF (by decide), nlo hLo (by decide)⟩ (n := 1) rfl rfl (Nat.le_of_ble_eq_true rfl) hl.1 dX7_functionItself_47 (fun μ118 ρ d0 H locs hp G => ?_)
    obtain ⟨F_119, hI_120, hp_121, hp_122, hp_123, hp_124, hs_125, hs_126, hs_127, hs_128⟩ := hp
    have hn_129 : -1 ≤ μ118.1 26 10 ∧ μ118.1 26 10 ≤ 3000 := hI_120.nm.2.2.2.2.2.2.2.2.2.2.2.2
    have htb_130 := hp_121.b
    refine lv_aload_n hx hb dX7_functionItself_50 rfl (lv_at hl 2 rfl) ?_
    refine lv_bipush (v := iv 15) hx hb dX7_functionItself_51 rfl ?_
    refine lv_iload_n hx hb dX7_functionItself_53 rfl (lv_at hl 1 rfl) ?_
    refine lv_aload_n hx hb dX7_functionItself_54 rfl (lv_at hl 2 rfl) ?_
    refine xa_getr G fd_X7 (a := 23) (x := P) 2 rfl (by decide) rfl (wm 2 19 rfl rfl) ⟨rfl, rfl, rfl⟩ dX7_functionItself_55 rfl ((F_119.1 23 (by decide) 2).trans ((F_100.1 23 (by decide) 2).trans ((F_82.1 23 (by decide) 2).trans hP.symm))) (by omega) (hprP.hq ω ρ) ?_
    refine lv_iconst (v := iv 0) hx hb dX7_functionItself_58 rfl ?_
    refine lv_lload_n hx hb dX7_functionItself_59 rfl (lv_at hl 0 rfl) ?_
    refine lv_dconst0 hx hb dX7_functionItself_60 ?_
    refine xb_topd (fun dd_131 he_dd_131 => ?_)
    have hpx_132 : μ118.1 26 11 = 0 → PXE μ μ118 P tt 0 (-1) 1 := fun h0 => (hpx_113 (by have h9 : μ99.1 26 11 = μ99.1 26 11 := rfl; have h8 : μ118.1 26 11 = μ118.1 26 11 := rfl; omega)).fr (K := [26]) (Fr.tr Fr.rf F_119 (by decide)) (npL_p (L := [26]) (by decide) hprP).1 (npL_p (L := [26]) (by decide) hprP).2.1
    have hk_133 := hI.row (r := P + 2) (hprP.row)
    unfold rk at hk_133
    have e_134 : μ118.1 (P + 2) 3 = μ.1 (P + 2) 3 := ((F_119.1 (P + 2) (ni hprP (fun P => P + 2) (fun P => [26]) rfl) 3).trans ((F_100.1 (P + 2) (ni hprP (fun P => P + 2) (fun P => [26]) rfl) 3).trans (F_82.1 (P + 2) (ni hprP (fun P => P + 2) (fun P => [26]) rfl) 3)))
    have e_135 : μ118.1 (P + 2) 3 = μ.1 (P + 2) 3 := ((F_119.1 (P + 2) (ni hprP (fun P => P + 2) (fun P => [26]) rfl) 3).trans ((F_100.1 (P + 2) (ni hprP (fun P => P + 2) (fun P => [26]) rfl) 3).trans (F_82.1 (P + 2) (ni hprP (fun P => P + 2) (fun P => [26]) rfl) 3)))
    have e_136 : μ118.1 (P + 2) 3 = μ.1 (P + 2) 3 := ((F_119.1 (P + 2) (ni hprP (fun P => P + 2) (fun P => [26]) rfl) 3).trans ((F_100.1 (P + 2) (ni hprP (fun P => P + 2) (fun P => [26]) rfl) 3).trans (F_82.1 (P + 2) (ni hprP (fun P => P + 2) (fun P => [26]) rfl) 3)))
    have e_137 : μ118.1 (P + 2) 3 = μ.1 (P + 2) 3 := ((F_119.1 (P + 2) (ni hprP (fun P => P + 2) (fun P => [26]) rfl) 3).trans ((F_100.1 (P + 2) (ni hprP (fun P => P + 2) (fun P => [26]) rfl) 3).trans (F_82.1 (P + 2) (ni hprP (fun P => P + 2) (fun P => [26]) rfl) 3)))
    have e_138 : μ118.1 (P + 2) 3 = μ.1 (P + 2) 3 := ((F_119.1 (P + 2) (ni hprP (fun P => P + 2) (fun P => [26]) rfl) 3).trans ((F_100.1 (P + 2) (ni hprP (fun P => P + 2) (fun P => [26]) rfl) 3).trans (F_82.1 (P + 2) (ni hprP (fun P => P + 2) (fun P => [26]) rfl) 3)))
    refine xc_iV G (b := P) (rest := [.int (iv ((μ.1 26 12) - 229)), .int (iv 15), .ref (oP ω 23)]) (As := [.int (iv 0), .long (jv (μ99.1 26 14)), .double (dv dd_131)]) (c_X8_addConstant ω l μ118 P 0 (μ99.1 26 14) dd_131 (μ.1 (P + 2) 3) hprP (by unfold ir; omega) hj_112 hI_120 (by omega) (by omega)) (wm 4 67 rfl rfl) (wm 4 68 rfl rfl) (wm 4 69 rfl rfl) hprP.ly rfl (by decide) (hprP.hq ω ρ) (wm 1 9 rfl rfl) (wm 4 70 rfl rfl) (by decide) hR ⟨nfr hF (by decide), nlo hLo (by decide)⟩ (n := 3) rfl rfl (Nat.le_of_ble_eq_true rfl) hl.1 dX7_functionItself_61 (fun r_140 μ139 ρ d0 H locs hr_r_140 hp G => ?_)
    have hr_r_140 : -2147483648 ≤ r_140 ∧ r_140 ≤ 2147483647 := hr_r_140
    obtain ⟨F_141, hI_142, hp_143, hp_144⟩ := hp
    have hk_145 := hI_142.row (r := P + 2) (hprP.row)
    unfold rk at hk_145
    have hpx_146 : μ139.1 26 11 = 0 → PXE μ μ139 P tt 0 (-1) 1 := fun h0 => (hpx_132 (by have h9 : μ118.1 26 11 = μ118.1 26 11 := rfl; have h8 : μ139.1 26 11 = μ118.1 26 11 := (F_141.1 26 (ni hprP (fun P => 26) (fun P => [P + 2, (P + 2) + 1, (P + 2) + 2, (P + 2) + 3]) rfl) 11); omega)).fr (K := [P + 2, (P + 2) + 1, (P + 2) + 2, (P + 2) + 3]) (Fr.tr Fr.rf F_141 (si hprP (fun P => [P + 2, (P + 2) + 1, (P + 2) + 2, (P + 2) + 3]) (fun P => [P + 2, (P + 2) + 1, (P + 2) + 2, (P + 2) + 3]) rfl)) (ni hprP (fun P => P) (fun P => [P + 2, (P + 2) + 1, (P + 2) + 2, (P + 2) + 3]) rfl) (ni hprP (fun P => P + 1) (fun P => [P + 2, (P + 2) + 1, (P + 2) + 2, (P + 2) + 3]) rfl)
    have e_147 : μ139.1 23 2 = P := ((F_141.1 23 (ni hprP (fun P => 23) (fun P => [P + 2, (P + 2) + 1, (P + 2) + 2, (P + 2) + 3]) rfl) 2).trans ((F_119.1 23 (by decide) 2).trans ((F_100.1 23 (by decide) 2).trans ((F_82.1 23 (by decide) 2).trans hP.symm))))
    have e_148 : μ139.1 P 1 = μ.1 P 1 := ((F_141.1 P (ni hprP (fun P => P) (fun P => [P + 2, (P + 2) + 1, (P + 2) + 2, (P + 2) + 3]) rfl) 1).trans ((F_119.1 P (ni hprP (fun P => P) (fun P => [26]) rfl) 1).trans ((F_100.1 P (ni hprP (fun P => P) (fun P => [26]) rfl) 1).trans (F_82.1 P (ni hprP (fun P => P) (fun P => [26]) rfl) 1))))
    have e_149 : μ139.1 P 1 = μ.1 P 1 := ((F_141.1 P (ni hprP (fun P => P) (fun P => [P + 2, (P + 2) + 1, (P + 2) + 2, (P + 2) + 3]) rfl) 1).trans ((F_119.1 P (ni hprP (fun P => P) (fun P => [26]) rfl) 1).trans ((F_100.1 P (ni hprP (fun P => P) (fun P => [26]) rfl) 1).trans (F_82.1 P (ni hprP (fun P => P) (fun P => [26]) rfl) 1))))
    have e_150 : μ139.1 26 12 = μ118.1 26 12 := (F_141.1 26 (ni hprP (fun P => 26) (fun P => [P + 2, (P + 2) + 1, (P + 2) + 2, (P + 2) + 3]) rfl) 12)
    have e_151 : μ139.1 P 1 = μ.1 P 1 := ((F_141.1 P (ni hprP (fun P => P) (fun P => [P + 2, (P + 2) + 1, (P + 2) + 2, (P + 2) + 3]) rfl) 1).trans ((F_119.1 P (ni hprP (fun P => P) (fun P => [26]) rfl) 1).trans ((F_100.1 P (ni hprP (fun P => P) (fun P => [26]) rfl) 1).trans (F_82.1 P (ni hprP (fun P => P) (fun P => [26]) rfl) 1))))
    have e_152 : μ139.1 P 7 = μ.1 P 7 := ((F_141.1 P (ni hprP (fun P => P) (fun P => [P + 2, (P + 2) + 1, (P + 2) + 2, (P + 2) + 3]) rfl) 7).trans ((F_119.1 P (ni hprP (fun P => P) (fun P => [26]) rfl) 7).trans ((F_100.1 P (ni hprP (fun P => P) (fun P => [26]) rfl) 7).trans (F_82.1 P (ni hprP (fun P => P) (fun P => [26]) rfl) 7))))
    refine xc_iV G (b := 23) (rest := []) (As := [.int (iv 15), .int (iv ((μ.1 26 12) - 229)), .int (iv r_140)]) (c_X7_add ω l μ139 15 ((μ.1 26 12) - 229) r_140 P (by unfold ir; omega) (by unfold ir; omega) (by unfold ir; omega) hI_142 (by omega) (by omega)) (wm 3 226 rfl rfl) (wm 3 228 rfl rfl) (wm 0 21 rfl rfl) rfl rfl (by decide) rfl (wm 1 12 rfl rfl) (wm 3 229 rfl rfl) (by decide) hR ⟨nfr hF (by decide), nlo hLo (by decide)⟩ (n := 3) rfl rfl (Nat.le_of_ble_eq_true rfl) hl.1 dX7_functionItself_64 (fun r_154 μ153 ρ d0 H locs hr_r_154 hp G => ?_)
    have hr_r_154 : -2147483648 ≤ r_154 ∧ r_154 ≤ 2147483647 := hr_r_154
    obtain ⟨F_155, hI_156, hp_157, hp_158, hs_159, hs_160⟩ := hp
    have hpx_161 : μ153.1 26 11 = 0 → PXE μ μ153 P tt 1 (-1) 1 := fun h0 => (PXE.app (hpx_146 (by have h9 : μ139.1 26 11 = μ118.1 26 11 := (F_141.1 26 (ni hprP (fun P => 26) (fun P => [P + 2, (P + 2) + 1, (P + 2) + 2, (P + 2) + 3]) rfl) 11); have h8 : μ153.1 26 11 = μ118.1 26 11 := ((F_155.1 26 (ni hprP (fun P => 26) (fun P => [P, P + 1]) rfl) 11).trans (F_141.1 26 (ni hprP (fun P => 26) (fun P => [P + 2, (P + 2) + 1, (P + 2) + 2, (P + 2) + 3]) rfl) 11)); omega)) (EX.pl hp_158 (by omega) (by unfold plain; omega) (e := 1) rfl (by have h9 := hs_1 (μ := μ139) (P := P) (i := μ139.1 P 1); omega))).e (by omega)
    refine lv_pop hx hb dX7_functionItself_67 rfl ?_
    have htk_162 : TK μ153 := hp_121.fr (K := [P, P + 1, P + 2, (P + 2) + 1, (P + 2) + 2, (P + 2) + 3]) (Fr.tr (Fr.tr Fr.rf F_141 (si hprP (fun P => [P + 2, (P + 2) + 1, (P + 2) + 2, (P + 2) + 3]) (fun P => [P, P + 1, P + 2, (P + 2) + 1, (P + 2) + 2, (P + 2) + 3]) rfl)) F_155 (si hprP (fun P => [P, P + 1]) (fun P => [P, P + 1, P + 2, (P + 2) + 1, (P + 2) + 2, (P + 2) + 3]) rfl)) (ni hprP (fun P => 26) (fun P => [P, P + 1, P + 2, (P + 2) + 1, (P + 2) + 2, (P + 2) + 3]) rfl) (ni hprP (fun P => 28) (fun P => [P, P + 1, P + 2, (P + 2) + 1, (P + 2) + 2, (P + 2) + 3]) rfl)
    have e_163 : μ153.1 26 11 = μ118.1 26 11 := ((F_155.1 26 (ni hprP (fun P => 26) (fun P => [P, P + 1]) rfl) 11).trans (F_141.1 26 (ni hprP (fun P => 26) (fun P => [P + 2, (P + 2) + 1, (P + 2) + 2, (P + 2) + 3]) rfl) 11))
    have e_164 : μ153.1 26 11 = μ118.1 26 11 := ((F_155.1 26 (ni hprP (fun P => 26) (fun P => [P, P + 1]) rfl) 11).trans (F_141.1 26 (ni hprP (fun P => 26) (fun P => [P + 2, (P + 2) + 1, (P + 2) + 2, (P + 2) + 3]) rfl) 11))
    have e_165 : μ153.1 26 10 = μ118.1 26 10 := ((F_155.1 26 (ni hprP (fun P => 26) (fun P => [P, P + 1]) rfl) 10).trans (F_141.1 26 (ni hprP (fun P => 26) (fun P => [P + 2, (P + 2) + 1, (P + 2) + 2, (P + 2) + 3]) rfl) 10))
    have e_166 : μ153.1 P 1 = μ139.1 P 1 + 1 := hs_159
    have e_167 : μ153.1 P 1 = μ139.1 P 1 + 1 := hs_159
    have e_168 : μ153.1 26 10 = μ118.1 26 10 := ((F_155.1 26 (ni hprP (fun P => 26) (fun P => [P, P + 1]) rfl) 10).trans (F_141.1 26 (ni hprP (fun P => 26) (fun P => [P + 2, (P + 2) + 1, (P + 2) + 2, (P + 2) + 3]) rfl) 10))
    have e_169 : μ153.1 26 11 = μ118.1 26 11 := ((F_155.1 26 (ni hprP (fun P => 26) (fun P => [P, P + 1]) rfl) 11).trans (F_141.1 26 (ni hprP (fun P => 26) (fun P => [P + 2, (P + 2) + 1, (P + 2) + 2, (P + 2) + 3]) rfl) 11))
    have e_170 : μ153.1 (P + 2) 3 = μ139.1 (P + 2) 3 := (F_155.1 (P + 2) (ni hprP (fun P => P + 2) (fun P => [P, P + 1]) rfl) 3)
    have e_171 : μ153.1 P 1 = μ139.1 P 1 + 1 := hs_159
    have e_172 : μ153.1 (P + 2) 3 = μ139.1 (P + 2) 3 := (F_155.1 (P + 2) (ni hprP (fun P => P + 2) (fun P => [P, P + 1]) rfl) 3)
    have e_173 : μ153.1 23 2 = P := ((F_155.1 23 (ni hprP (fun P => 23) (fun P => [P, P + 1]) rfl) 2).trans ((F_141.1 23 (ni hprP (fun P => 23) (fun P => [P + 2, (P + 2) + 1, (P + 2) + 2, (P + 2) + 3]) rfl) 2).trans ((F_119.1 23 (by decide) 2).trans ((F_100.1 23 (by decide) 2).trans ((F_82.1 23 (by decide) 2).trans hP.symm)))))
    have e_174 : μ153.1 23 5 = μ.1 23 5 := ((F_155.1 23 (ni hprP (fun P => 23) (fun P => [P, P + 1]) rfl) 5).trans ((F_141.1 23 (ni hprP (fun P => 23) (fun P => [P + 2, (P + 2) + 1, (P + 2) + 2, (P + 2) + 3]) rfl) 5).trans ((F_119.1 23 (by decide) 5).trans ((F_100.1 23 (by decide) 5).trans (F_82.1 23 (by decide) 5)))))
    have e_175 : μ153.1 23 6 = μ.1 23 6 := ((F_155.1 23 (ni hprP (fun P => 23) (fun P => [P, P + 1]) rfl) 6).trans ((F_141.1 23 (ni hprP (fun P => 23) (fun P => [P + 2, (P + 2) + 1, (P + 2) + 2, (P + 2) + 3]) rfl) 6).trans ((F_119.1 23 (by decide) 6).trans ((F_100.1 23 (by decide) 6).trans (F_82.1 23 (by decide) 6)))))
    have e_176 : μ153.1 23 7 = μ.1 23 7 := ((F_155.1 23 (ni hprP (fun P => 23) (fun P => [P, P + 1]) rfl) 7).trans ((F_141.1 23 (ni hprP (fun P => 23) (fun P => [P + 2, (P + 2) + 1, (P + 2) + 2, (P + 2) + 3]) rfl) 7).trans ((F_119.1 23 (by decide) 7).trans ((F_100.1 23 (by decide) 7).trans (F_82.1 23 (by decide) 7)))))
    have e_177 : μ153.1 23 8 = tt := ((F_155.1 23 (ni hprP (fun P => 23) (fun P => [P, P + 1]) rfl) 8).trans ((F_141.1 23 (ni hprP (fun P => 23) (fun P => [P + 2, (P + 2) + 1, (P + 2) + 2, (P + 2) + 3]) rfl) 8).trans ((F_119.1 23 (by decide) 8).trans ((F_100.1 23 (by decide) 8).trans ((F_82.1 23 (by decide) 8).trans htt.symm)))))
    have e_178 : μ153.1 23 9 = μ.1 23 9 := ((F_155.1 23 (ni hprP (fun P => 23) (fun P => [P, P + 1]) rfl) 9).trans ((F_141.1 23 (ni hprP (fun P => 23) (fun P => [P + 2, (P + 2) + 1, (P + 2) + 2, (P + 2) + 3]) rfl) 9).trans ((F_119.1 23 (by decide) 9).trans ((F_100.1 23 (by decide) 9).trans (F_82.1 23 (by decide) 9)))))
    have e_179 : μ153.1 23 10 = μ.1 23 10 := ((F_155.1 23 (ni hprP (fun P => 23) (fun P => [P, P + 1]) rfl) 10).trans ((F_141.1 23 (ni hprP (fun P => 23) (fun P => [P + 2, (P + 2) + 1, (P + 2) + 2, (P + 2) + 3]) rfl) 10).trans ((F_119.1 23 (by decide) 10).trans ((F_100.1 23 (by decide) 10).trans (F_82.1 23 (by decide) 10)))))
    have e_180 : μ153.1 26 6 = μ.1 26 6 := ((F_155.1 26 (ni hprP (fun P => 26) (fun P => [P, P + 1]) rfl) 6).trans ((F_141.1 26 (ni hprP (fun P => 26) (fun P => [P + 2, (P + 2) + 1, (P + 2) + 2, (P + 2) + 3]) rfl) 6).trans (hs_125.trans (hs_106.trans hs_86))))
    have e_181 : μ153.1 P 7 = μ.1 P 7 := (hs_160.trans ((F_141.1 P (ni hprP (fun P => P) (fun P => [P + 2, (P + 2) + 1, (P + 2) + 2, (P + 2) + 3]) rfl) 7).trans ((F_119.1 P (ni hprP (fun P => P) (fun P => [26]) rfl) 7).trans ((F_100.1 P (ni hprP (fun P => P) (fun P => [26]) rfl) 7).trans (F_82.1 P (ni hprP (fun P => P) (fun P => [26]) rfl) 7)))))
    exact xr_v G hret hlk dX7_functionItself_68 ⟨(Fr.tr (Fr.tr (Fr.tr (Fr.tr (Fr.tr Fr.rf F_82 (si hprP (fun P => [26]) (fun P => [2, 3, 4, 23, 24, 26, P, P + 1, P + 2, (P + 2) + 1, (P + 2) + 2, (P + 2) + 3]) rfl)) F_100 (si hprP (fun P => [26]) (fun P => [2, 3, 4, 23, 24, 26, P, P + 1, P + 2, (P + 2) + 1, (P + 2) + 2, (P + 2) + 3]) rfl)) F_119 (si hprP (fun P => [26]) (fun P => [2, 3, 4, 23, 24, 26, P, P + 1, P + 2, (P + 2) + 1, (P + 2) + 2, (P + 2) + 3]) rfl)) F_141 (si hprP (fun P => [P + 2, (P + 2) + 1, (P + 2) + 2, (P + 2) + 3]) (fun P => [2, 3, 4, 23, 24, 26, P, P + 1, P + 2, (P + 2) + 1, (P + 2) + 2, (P + 2) + 3]) rfl)) F_155 (si hprP (fun P => [P, P + 1]) (fun P => [2, 3, 4, 23, 24, 26, P, P + 1, P + 2, (P + 2) + 1, (P + 2) + 2, (P + 2) + 3]) rfl)), hI_156, htk_162, (by omega), (by omega), (by omega), (by omega), (fun h0 => (PXE.ex (hpx_161 h0)).e (by omega)), (by omega), (by omega), (by omega), (by omega), (by omega), (by omega), (by omega), (by omega), (by omega)⟩
