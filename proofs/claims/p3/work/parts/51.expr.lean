abbrev cX7_expression : ByteArray := prog_9_method_39_code
def yX7_expression : MethodName := ⟨RX7, "expression", "(Z)V"⟩
abbrev cX7_unary : ByteArray := prog_9_method_43_code
def yX7_unary : MethodName := ⟨RX7, "unary", "(Z)V"⟩
abbrev cX7_number : ByteArray := prog_9_method_48_code
def yX7_number : MethodName := ⟨RX7, "number", "()V"⟩
abbrev cX7_inBrackets : ByteArray := prog_9_method_49_code
def yX7_inBrackets : MethodName := ⟨RX7, "inBrackets", "(II)V"⟩
abbrev cX7_functionItself : ByteArray := prog_9_method_51_code
def yX7_functionItself : MethodName := ⟨RX7, "functionItself", "()V"⟩
theorem dX7_number_0 : decode cX7_number 0 = .ok (.aload_n 0, 1) := by decide +kernel
theorem dX7_number_1 : decode cX7_number 1 = .ok (.getfield 29, 3) := by decide +kernel
theorem dX7_number_4 : decode cX7_number 4 = .ok (.iconst 3, 1) := by decide +kernel
theorem dX7_number_5 : decode cX7_number 5 = .ok (.if_icmp .ne 7, 3) := by decide +kernel
theorem dX7_number_8 : decode cX7_number 8 = .ok (.iconst 1, 1) := by decide +kernel
theorem dX7_number_9 : decode cX7_number 9 = .ok (.goto 4, 3) := by decide +kernel
theorem dX7_number_12 : decode cX7_number 12 = .ok (.iconst 0, 1) := by decide +kernel
theorem dX7_number_13 : decode cX7_number 13 = .ok (.istore_n 1, 1) := by decide +kernel
theorem dX7_number_14 : decode cX7_number 14 = .ok (.iload_n 1, 1) := by decide +kernel
theorem dX7_number_15 : decode cX7_number 15 = .ok (.ifCond .eq 7, 3) := by decide +kernel
theorem dX7_number_18 : decode cX7_number 18 = .ok (.lconst 0, 1) := by decide +kernel
theorem dX7_number_19 : decode cX7_number 19 = .ok (.goto 10, 3) := by decide +kernel
theorem dX7_number_22 : decode cX7_number 22 = .ok (.aload_n 0, 1) := by decide +kernel
theorem dX7_number_23 : decode cX7_number 23 = .ok (.getfield 43, 3) := by decide +kernel
theorem dX7_number_26 : decode cX7_number 26 = .ok (.getfield 133, 3) := by decide +kernel
theorem dX7_number_29 : decode cX7_number 29 = .ok (.lstore_n 2, 1) := by decide +kernel
theorem dX7_number_30 : decode cX7_number 30 = .ok (.iload_n 1, 1) := by decide +kernel
theorem dX7_number_31 : decode cX7_number 31 = .ok (.ifCond .eq 13, 3) := by decide +kernel
theorem dX7_number_34 : decode cX7_number 34 = .ok (.aload_n 0, 1) := by decide +kernel
theorem dX7_number_35 : decode cX7_number 35 = .ok (.getfield 43, 3) := by decide +kernel
theorem dX7_number_38 : decode cX7_number 38 = .ok (.getfield 304, 3) := by decide +kernel
theorem dX7_number_41 : decode cX7_number 41 = .ok (.goto 4, 3) := by decide +kernel
theorem dX7_number_44 : decode cX7_number 44 = .ok (.dconst 0, 1) := by decide +kernel
theorem dX7_number_45 : decode cX7_number 45 = .ok (.dstore 4, 2) := by decide +kernel
theorem dX7_number_47 : decode cX7_number 47 = .ok (.aload_n 0, 1) := by decide +kernel
theorem dX7_number_48 : decode cX7_number 48 = .ok (.iconst 2, 1) := by decide +kernel
theorem dX7_number_49 : decode cX7_number 49 = .ok (.aload_n 0, 1) := by decide +kernel
theorem dX7_number_50 : decode cX7_number 50 = .ok (.getfield 51, 3) := by decide +kernel
theorem dX7_number_53 : decode cX7_number 53 = .ok (.iconst 1, 1) := by decide +kernel
theorem dX7_number_54 : decode cX7_number 54 = .ok (.lload_n 2, 1) := by decide +kernel
theorem dX7_number_55 : decode cX7_number 55 = .ok (.dload 4, 2) := by decide +kernel
theorem dX7_number_57 : decode cX7_number 57 = .ok (.invokevirtual 310, 3) := by decide +kernel
theorem dX7_number_60 : decode cX7_number 60 = .ok (.iconst 0, 1) := by decide +kernel
theorem dX7_number_61 : decode cX7_number 61 = .ok (.invokevirtual 157, 3) := by decide +kernel
theorem dX7_number_64 : decode cX7_number 64 = .ok (.pop, 1) := by decide +kernel
theorem dX7_number_65 : decode cX7_number 65 = .ok (.aload_n 0, 1) := by decide +kernel
theorem dX7_number_66 : decode cX7_number 66 = .ok (.getfield 43, 3) := by decide +kernel
theorem dX7_number_69 : decode cX7_number 69 = .ok (.invokevirtual 97, 3) := by decide +kernel
theorem dX7_number_72 : decode cX7_number 72 = .ok (.return_, 1) := by decide +kernel
theorem dX7_inBrackets_0 : decode cX7_inBrackets 0 = .ok (.aload_n 0, 1) := by decide +kernel
theorem dX7_inBrackets_1 : decode cX7_inBrackets 1 = .ok (.iload_n 1, 1) := by decide +kernel
theorem dX7_inBrackets_2 : decode cX7_inBrackets 2 = .ok (.invokevirtual 164, 3) := by decide +kernel
theorem dX7_inBrackets_5 : decode cX7_inBrackets 5 = .ok (.aload_n 0, 1) := by decide +kernel
theorem dX7_inBrackets_6 : decode cX7_inBrackets 6 = .ok (.iconst 0, 1) := by decide +kernel
theorem dX7_inBrackets_7 : decode cX7_inBrackets 7 = .ok (.invokevirtual 216, 3) := by decide +kernel
theorem dX7_inBrackets_10 : decode cX7_inBrackets 10 = .ok (.aload_n 0, 1) := by decide +kernel
theorem dX7_inBrackets_11 : decode cX7_inBrackets 11 = .ok (.iload_n 2, 1) := by decide +kernel
theorem dX7_inBrackets_12 : decode cX7_inBrackets 12 = .ok (.invokevirtual 170, 3) := by decide +kernel
theorem dX7_inBrackets_15 : decode cX7_inBrackets 15 = .ok (.return_, 1) := by decide +kernel
theorem dX7_functionItself_0 : decode cX7_functionItself 0 = .ok (.aload_n 0, 1) := by decide +kernel
theorem dX7_functionItself_1 : decode cX7_functionItself 1 = .ok (.getfield 29, 3) := by decide +kernel
theorem dX7_functionItself_4 : decode cX7_functionItself 4 = .ok (.istore_n 1, 1) := by decide +kernel
theorem dX7_functionItself_5 : decode cX7_functionItself 5 = .ok (.aload_n 0, 1) := by decide +kernel
theorem dX7_functionItself_6 : decode cX7_functionItself 6 = .ok (.invokevirtual 294, 3) := by decide +kernel
theorem dX7_functionItself_9 : decode cX7_functionItself 9 = .ok (.ifCond .eq 28, 3) := by decide +kernel
theorem dX7_functionItself_12 : decode cX7_functionItself 12 = .ok (.aload_n 0, 1) := by decide +kernel
theorem dX7_functionItself_13 : decode cX7_functionItself 13 = .ok (.getfield 43, 3) := by decide +kernel
theorem dX7_functionItself_16 : decode cX7_functionItself 16 = .ok (.getfield 80, 3) := by decide +kernel
theorem dX7_functionItself_19 : decode cX7_functionItself 19 = .ok (.sipush 229, 3) := by decide +kernel
theorem dX7_functionItself_22 : decode cX7_functionItself 22 = .ok (.isub, 1) := by decide +kernel
theorem dX7_functionItself_23 : decode cX7_functionItself 23 = .ok (.istore_n 1, 1) := by decide +kernel
theorem dX7_functionItself_24 : decode cX7_functionItself 24 = .ok (.aload_n 0, 1) := by decide +kernel
theorem dX7_functionItself_25 : decode cX7_functionItself 25 = .ok (.getfield 43, 3) := by decide +kernel
theorem dX7_functionItself_28 : decode cX7_functionItself 28 = .ok (.invokevirtual 97, 3) := by decide +kernel
theorem dX7_functionItself_31 : decode cX7_functionItself 31 = .ok (.aload_n 0, 1) := by decide +kernel
theorem dX7_functionItself_32 : decode cX7_functionItself 32 = .ok (.bipush 46, 2) := by decide +kernel
theorem dX7_functionItself_34 : decode cX7_functionItself 34 = .ok (.invokevirtual 100, 3) := by decide +kernel
theorem dX7_functionItself_37 : decode cX7_functionItself 37 = .ok (.aload_n 0, 1) := by decide +kernel
theorem dX7_functionItself_38 : decode cX7_functionItself 38 = .ok (.getfield 43, 3) := by decide +kernel
theorem dX7_functionItself_41 : decode cX7_functionItself 41 = .ok (.getfield 133, 3) := by decide +kernel
theorem dX7_functionItself_44 : decode cX7_functionItself 44 = .ok (.lstore_n 2, 1) := by decide +kernel
theorem dX7_functionItself_45 : decode cX7_functionItself 45 = .ok (.aload_n 0, 1) := by decide +kernel
theorem dX7_functionItself_46 : decode cX7_functionItself 46 = .ok (.iconst 1, 1) := by decide +kernel
theorem dX7_functionItself_47 : decode cX7_functionItself 47 = .ok (.invokevirtual 100, 3) := by decide +kernel
theorem dX7_functionItself_50 : decode cX7_functionItself 50 = .ok (.aload_n 0, 1) := by decide +kernel
theorem dX7_functionItself_51 : decode cX7_functionItself 51 = .ok (.bipush 15, 2) := by decide +kernel
theorem dX7_functionItself_53 : decode cX7_functionItself 53 = .ok (.iload_n 1, 1) := by decide +kernel
theorem dX7_functionItself_54 : decode cX7_functionItself 54 = .ok (.aload_n 0, 1) := by decide +kernel
theorem dX7_functionItself_55 : decode cX7_functionItself 55 = .ok (.getfield 51, 3) := by decide +kernel
theorem dX7_functionItself_58 : decode cX7_functionItself 58 = .ok (.iconst 0, 1) := by decide +kernel
theorem dX7_functionItself_59 : decode cX7_functionItself 59 = .ok (.lload_n 2, 1) := by decide +kernel
theorem dX7_functionItself_60 : decode cX7_functionItself 60 = .ok (.dconst 0, 1) := by decide +kernel
theorem dX7_functionItself_61 : decode cX7_functionItself 61 = .ok (.invokevirtual 310, 3) := by decide +kernel
theorem dX7_functionItself_64 : decode cX7_functionItself 64 = .ok (.invokevirtual 157, 3) := by decide +kernel
theorem dX7_functionItself_67 : decode cX7_functionItself 67 = .ok (.pop, 1) := by decide +kernel
theorem dX7_functionItself_68 : decode cX7_functionItself 68 = .ok (.return_, 1) := by decide +kernel
/-- lists with a Program's places in them -/
def npm (a : Int → Int) (L : Int → List Int) : Bool := [(13 : Int), 71, 81, 91, 101].all (fun p => !(L p).contains (a p))
theorem ni {P : Int} (hp : isPr P) (a : Int → Int) (L : Int → List Int) (h : npm a L = true) : a P ∉ L P := by
  have h2 : ∀ p ∈ [(13 : Int), 71, 81, 91, 101], a p ∉ L p := by
    intro p q
    have := List.all_eq_true.1 h p q
    simpa using this
  rcases hp with rfl | rfl | rfl | rfl | rfl
  · exact h2 _ (by decide)
  · exact h2 _ (by decide)
  · exact h2 _ (by decide)
  · exact h2 _ (by decide)
  · exact h2 _ (by decide)
def sbm (K L : Int → List Int) : Bool := [(13 : Int), 71, 81, 91, 101].all (fun p => (K p).all (fun b => (L p).contains b))
theorem si {P : Int} (hp : isPr P) (K L : Int → List Int) (h : sbm K L = true) : ∀ b ∈ K P, b ∈ L P := by
  have h2 : ∀ p ∈ [(13 : Int), 71, 81, 91, 101], ∀ b ∈ K p, b ∈ L p := by
    intro p q b hb
    have := List.all_eq_true.1 (List.all_eq_true.1 h p q) b hb
    simpa using this
  rcases hp with rfl | rfl | rfl | rfl | rfl
  · exact h2 _ (by decide)
  · exact h2 _ (by decide)
  · exact h2 _ (by decide)
  · exact h2 _ (by decide)
  · exact h2 _ (by decide)
theorem xj {p : Program} {l : Launch} {e : Env} {R : Room} {s : State} {d0 : Drawn} {m : MethodId} {args : Array Value} {below : List Frame} {meth : Method} {c : Code} {H : Heap} {locs : List Loc} {Q : State → Prop} {ls : Array Slot} {pc pc2 : Nat} {st : List Value} {st2 : Int → List Value} {C : Int → Prop} (k : ∀ v, C v → WT p l e R s d0 m args below meth c H locs Q (F0 m pc2 ls (st2 v))) (h : (∀ v, C v → WT p l e R s d0 m args below meth c H locs Q (F0 m pc2 ls (st2 v))) → WT p l e R s d0 m args below meth c H locs Q (F0 m pc ls st)) : WT p l e R s d0 m args below meth c H locs Q (F0 m pc ls st) := h k
theorem sfr {F a b : Nat} (h : a + 1 ≤ b) : Nat.ble (F + a + 1) (F + b) = true := Nat.ble_eq_true_of_le (by omega)
theorem slo {L m a b : Nat} (h : 8 + (m + 11) + a ≤ b) : Nat.ble (8 + (m + 11) + (L + a)) (L + b) = true := Nat.ble_eq_true_of_le (by omega)
theorem ufr {Fu F b : Nat} (hF : Fu ≤ F) (h : 1 ≤ b) : Nat.ble (Fu + 0 + 1) (F + b) = true := Nat.ble_eq_true_of_le (by omega)
theorem ulo {Lu L m b : Nat} (hL : Lu ≤ L) (h : 8 + (m + 11) ≤ b) : Nat.ble (8 + (m + 11) + (Lu + 0)) (L + b) = true := Nat.ble_eq_true_of_le (by omega)
theorem nfr {F b m : Nat} (hF : 60 ≤ F) (h : m + 1 ≤ 60) : Nat.ble (m + 1) (F + b) = true := Nat.ble_eq_true_of_le (by omega)
theorem nlo {L m a b : Nat} (hL : 2000 ≤ L) (h : 8 + (m + 11) + a ≤ 2000) : Nat.ble (8 + (m + 11) + a) (L + b) = true := Nat.ble_eq_true_of_le (by omega)
set_option maxHeartbeats 4000000 in
set_option maxRecDepth 100000 in
theorem c_X7_need_b (ω : Om) (l : Launch) (μ : M3) (x1 : Int) (hx1 : ir x1) (hI : IC μ) (hTK : TK μ) (hk : x1 ≠ 0 ∧ x1 ≠ 3) : CtV ω l yX7_need cX7_need 2 1 20 [.ref (oP ω 23), .int (iv x1)] μ (fun (μ' : M3) => (Fr [26] μ μ') ∧ (IC μ') ∧ (TK μ') ∧ (μ'.1 26 10 = μ.1 26 10 + 1 - μ'.1 26 11) ∧ (μ.1 26 11 ≤ μ'.1 26 11) ∧ (μ'.1 26 6 = μ.1 26 6) ∧ (μ'.1 26 7 = μ.1 26 7) ∧ (μ'.1 26 8 = μ.1 26 8) ∧ (μ'.1 26 9 = μ.1 26 9)) := by
  refine CtV.go (by decide) (Nat.le_of_ble_eq_true rfl) (fun ρ p e s m below meth c R ls G hR hret hlk hl => ?_)
  have hx := G.1.1
  have hb := G.1.2.1
  have hl : lv_has ls 2 [(0, .ref (oP ω 23)), (1, .int (iv x1))] := hl
  generalize s.drawn = d0 at G ⊢
  have hr_x1 : -2147483648 ≤ x1 ∧ x1 ≤ 2147483647 := hx1
  have hTKb := hTK.b
  refine lv_aload_n hx hb dX7_need_0 rfl (lv_at hl 0 rfl) ?_
  refine xa_getr G fd_X7 (a := 23) (x := 26) 0 rfl (by decide) rfl (wm 2 17 rfl rfl) ⟨rfl, rfl, rfl⟩ dX7_need_1 rfl (G.sk 23 rfl) (by decide) rfl ?_
  refine xa_getN G fd_X10 (host := "FourTongues") (a := 26) 12 rfl (by decide) (by decide) ⟨rfl, rfl, rfl⟩ dX7_need_4 rfl (v := .int (iv (μ.1 26 12))) (by rw [show μ.1 26 12 = μ.1 26 12 from rfl]; rfl) ?_
  have hr_1 : -2147483648 ≤ μ.1 26 12 ∧ μ.1 26 12 ≤ 2147483647 := by have h9 := G.hr (a := 26) (k := 12) rfl; exact h9
  refine lv_iload_n hx hb dX7_need_7 rfl (lv_at hl 1 rfl) ?_
  refine xb_icmp_ne (tgt := 21) hx hb (by unfold ir; omega) (by unfold ir; omega) dX7_need_8 (by decide) (fun c_8 => ?_) (fun c_8 => ?_)
  · refine lv_aload_n hx hb dX7_need_21 rfl (lv_at hl 0 rfl) ?_
    refine xa_getr G fd_X7 (a := 23) (x := 26) 0 rfl (by decide) rfl (wm 2 17 rfl rfl) ⟨rfl, rfl, rfl⟩ dX7_need_22 rfl (G.sk 23 rfl) (by decide) rfl ?_
    have hn_2 : 0 ≤ μ.1 26 6 ∧ μ.1 26 6 ≤ 3001 := hI.nm.2.2.2.2.2.2.2.2.2.1
    have hn_3 : 0 ≤ μ.1 26 7 ∧ μ.1 26 7 ≤ 3000 := hI.nm.2.2.2.2.2.2.2.2.2.2.1
    have hn_4 : 0 ≤ μ.1 26 9 ∧ μ.1 26 9 ≤ 3000 := hI.nm.2.2.2.2.2.2.2.2.2.2.2.1
    have hn_5 : -1 ≤ μ.1 26 10 ∧ μ.1 26 10 ≤ 3000 := hI.nm.2.2.2.2.2.2.2.2.2.2.2.2
    refine xc_vV G (b := 26) (rest := []) (As := []) (c_X10_stop ω l μ  hI) (wm 3 173 rfl rfl) (wm 3 174 rfl rfl) (wm 3 175 rfl rfl) rfl rfl (by decide) rfl (wm 1 13 rfl rfl) (wm 3 176 rfl rfl) (by decide) hR (by decide) (n := 0) rfl rfl (Nat.le_of_ble_eq_true rfl) hl.1 dX7_need_25 (fun μ6 ρ d0 H locs hp G => ?_)
    obtain ⟨F_7, hI_8, hp_9, hp_10, hs_11, hs_12, hs_13, hs_14, hs_15, hs_16, hs_17⟩ := hp
    have htk_18 : TK μ6 := TK.st hTK F_7 hp_9 hp_10 hs_11 hs_15 hs_16
    have e_19 : μ6.1 26 10 = μ.1 26 10 := hs_15
    have e_20 : μ6.1 26 6 = μ.1 26 6 := hs_11
    have e_21 : μ6.1 26 7 = μ.1 26 7 := hs_12
    have e_22 : μ6.1 26 8 = μ.1 26 8 := hs_13
    have e_23 : μ6.1 26 9 = μ.1 26 9 := hs_14
    exact xr_v G hret hlk dX7_need_28 ⟨(Fr.tr Fr.rf F_7 (by decide)), hI_8, htk_18, (by omega), (by omega), (by omega), (by omega), (by omega), (by omega)⟩
  · refine lv_aload_n hx hb dX7_need_11 rfl (lv_at hl 0 rfl) ?_
    refine xa_getr G fd_X7 (a := 23) (x := 26) 0 rfl (by decide) rfl (wm 2 17 rfl rfl) ⟨rfl, rfl, rfl⟩ dX7_need_12 rfl (G.sk 23 rfl) (by decide) rfl ?_
    have hn_24 : 0 ≤ μ.1 26 6 ∧ μ.1 26 6 ≤ 3001 := hI.nm.2.2.2.2.2.2.2.2.2.1
    have hn_25 : -1 ≤ μ.1 26 10 ∧ μ.1 26 10 ≤ 3000 := hI.nm.2.2.2.2.2.2.2.2.2.2.2.2
    have hn_26 : 0 ≤ μ.1 26 7 ∧ μ.1 26 7 ≤ 3000 := hI.nm.2.2.2.2.2.2.2.2.2.2.1
    have hn_27 : 0 ≤ μ.1 26 9 ∧ μ.1 26 9 ≤ 3000 := hI.nm.2.2.2.2.2.2.2.2.2.2.2.1
    refine xc_vV G (b := 26) (rest := []) (As := []) (c_X10_next ω l μ  hI (by omega) (by omega)) (wm 3 164 rfl rfl) (wm 3 157 rfl rfl) (wm 3 158 rfl rfl) rfl rfl (by decide) rfl (wm 1 13 rfl rfl) (wm 3 159 rfl rfl) (by decide) hR (by decide) (n := 0) rfl rfl (Nat.le_of_ble_eq_true rfl) hl.1 dX7_need_15 (fun μ28 ρ d0 H locs hp G => ?_)
    obtain ⟨F_29, hI_30, hp_31, hp_32, hs_33, hs_34, hs_35, hs_36, hs_37⟩ := hp
    have hn_38 : -1 ≤ μ28.1 26 10 ∧ μ28.1 26 10 ≤ 3000 := hI_30.nm.2.2.2.2.2.2.2.2.2.2.2.2
    obtain ⟨htk_39, htk_39_s, htk_39_n⟩ := TK.nx hTK F_29 hs_34 hs_33 (by have h9 : μ.1 26 12 = μ.1 26 12 := rfl; omega) hp_31 hp_32
    clear hp_31 hp_32
    have htb_40 := htk_39.b
    refine lv_goto (tgt := 28) hx hb dX7_need_18 (by decide) ?_
    have e_41 : μ28.1 26 11 = μ.1 26 11 := hs_33
    have e_42 : μ28.1 26 11 = μ.1 26 11 := hs_33
    have e_43 : μ28.1 26 6 = μ.1 26 6 := hs_34
    have e_44 : μ28.1 26 7 = μ.1 26 7 := hs_35
    have e_45 : μ28.1 26 8 = μ.1 26 8 := hs_36
    have e_46 : μ28.1 26 9 = μ.1 26 9 := hs_37
    exact xr_v G hret hlk dX7_need_28 ⟨(Fr.tr Fr.rf F_29 (by decide)), hI_30, htk_39, (by omega), (by omega), (by omega), (by omega), (by omega), (by omega)⟩

set_option maxHeartbeats 4000000 in
set_option maxRecDepth 100000 in
theorem c_X7_needOpen_b (ω : Om) (l : Launch) (μ : M3) (x1 : Int) (hx1 : ir x1) (hI : IC μ) (hTK : TK μ) (hk : x1 ≠ 0 ∧ x1 ≠ 3) (hdp : -100 ≤ μ.1 23 9 ∧ μ.1 23 9 ≤ 100) : CtV ω l yX7_needOpen cX7_needOpen 2 2 41 [.ref (oP ω 23), .int (iv x1)] μ (fun (μ' : M3) => (Fr [26, 23] μ μ') ∧ (IC μ') ∧ (TK μ') ∧ (μ'.1 26 10 = μ.1 26 10 + 1 - μ'.1 26 11) ∧ (μ.1 26 11 ≤ μ'.1 26 11) ∧ (μ.1 23 9 ≤ 7 + 100 * μ'.1 26 11) ∧ (μ'.1 23 9 = μ.1 23 9 + 1) ∧ (μ'.1 26 6 = μ.1 26 6) ∧ (μ'.1 26 7 = μ.1 26 7) ∧ (μ'.1 26 8 = μ.1 26 8) ∧ (μ'.1 26 9 = μ.1 26 9) ∧ (μ'.1 23 2 = μ.1 23 2) ∧ (μ'.1 23 5 = μ.1 23 5) ∧ (μ'.1 23 6 = μ.1 23 6) ∧ (μ'.1 23 7 = μ.1 23 7) ∧ (μ'.1 23 8 = μ.1 23 8) ∧ (μ'.1 23 10 = μ.1 23 10)) := by
  refine CtV.go (by decide) (Nat.le_of_ble_eq_true rfl) (fun ρ p e s m below meth c R ls G hR hret hlk hl => ?_)
  have hx := G.1.1
  have hb := G.1.2.1
  have hl : lv_has ls 2 [(0, .ref (oP ω 23)), (1, .int (iv x1))] := hl
  generalize s.drawn = d0 at G ⊢
  have hr_x1 : -2147483648 ≤ x1 ∧ x1 ≤ 2147483647 := hx1
  have hTKb := hTK.b
  refine lv_aload_n hx hb dX7_needOpen_0 rfl (lv_at hl 0 rfl) ?_
  refine xa_geti G fd_X7 (a := 23) (x := μ.1 23 9) 9 rfl (by decide) rfl (wm 2 26 rfl rfl) ⟨rfl, rfl, rfl⟩ dX7_needOpen_1 rfl rfl ?_
  have hr_1 : -2147483648 ≤ μ.1 23 9 ∧ μ.1 23 9 ≤ 2147483647 := by have h9 := G.hr (a := 23) (k := 9) rfl; exact h9
  refine lv_bipush (v := iv 8) hx hb dX7_needOpen_4 rfl ?_
  refine xb_icmp_lt (tgt := 16) hx hb (by unfold ir; omega) (by unfold ir; omega) dX7_needOpen_6 (by decide) (fun c_6 => ?_) (fun c_6 => ?_)
  · refine lv_aload_n hx hb dX7_needOpen_16 rfl (lv_at hl 0 rfl) ?_
    refine lv_iload_n hx hb dX7_needOpen_17 rfl (lv_at hl 1 rfl) ?_
    have hn_2 : -1 ≤ μ.1 26 10 ∧ μ.1 26 10 ≤ 3000 := hI.nm.2.2.2.2.2.2.2.2.2.2.2.2
    have hn_3 : 0 ≤ μ.1 26 6 ∧ μ.1 26 6 ≤ 3001 := hI.nm.2.2.2.2.2.2.2.2.2.1
    have hn_4 : 0 ≤ μ.1 26 7 ∧ μ.1 26 7 ≤ 3000 := hI.nm.2.2.2.2.2.2.2.2.2.2.1
    have hn_5 : 0 ≤ μ.1 26 9 ∧ μ.1 26 9 ≤ 3000 := hI.nm.2.2.2.2.2.2.2.2.2.2.2.1
    refine xc_vV G (b := 23) (rest := []) (As := [.int (iv x1)]) (c_X7_need_b ω l μ x1 (by unfold ir; omega) hI hTK (by omega)) (wm 3 169 rfl rfl) (wm 3 171 rfl rfl) (wm 0 11 rfl rfl) rfl rfl (by decide) rfl (wm 1 12 rfl rfl) (wm 3 172 rfl rfl) (by decide) hR (by decide) (n := 1) rfl rfl (Nat.le_of_ble_eq_true rfl) hl.1 dX7_needOpen_18 (fun μ6 ρ d0 H locs hp G => ?_)
    obtain ⟨F_7, hI_8, hp_9, hp_10, hp_11, hs_12, hs_13, hs_14, hs_15⟩ := hp
    have hn_16 : -1 ≤ μ6.1 26 10 ∧ μ6.1 26 10 ≤ 3000 := hI_8.nm.2.2.2.2.2.2.2.2.2.2.2.2
    have htb_17 := hp_9.b
    refine lv_aload_n hx hb dX7_needOpen_21 rfl (lv_at hl 0 rfl) ?_
    refine lv_dup hx hb dX7_needOpen_22 rfl ?_
    refine xa_geti G fd_X7 (a := 23) (x := μ.1 23 9) 9 rfl (by decide) rfl (wm 2 26 rfl rfl) ⟨rfl, rfl, rfl⟩ dX7_needOpen_23 rfl (F_7.1 23 (by decide) 9) ?_
    refine lv_iconst (v := iv 1) hx hb dX7_needOpen_26 rfl ?_
    refine xb_iadd hx hb dX7_needOpen_27 ?_
    refine xa_puti G fd_X7 (a := 23) (x := (μ.1 23 9) + 1) 9 (kz := 9) rfl rfl (by decide) rfl (by unfold ir; omega) (wm 2 26 rfl rfl) ⟨rfl, rfl, rfl, rfl⟩ rfl dX7_needOpen_28 rfl (fun H locs G => ?_)
    have htk_18 : TK (sv μ6 23 9 ((μ.1 23 9) + 1)) := hp_9.fr (K := [23]) (Fr.put Fr.rf (by decide)) (by decide) (by decide) (by decide)
    have hI_19 : IC (sv μ6 23 9 ((μ.1 23 9) + 1)) := (IC.put hI_8 (by decide +kernel))
    have e_20 : (sv μ6 23 9 ((μ.1 23 9) + 1)).1 26 10 = μ6.1 26 10 := (sv_n _ (fun h9 => absurd h9.1 (by decide)))
    have e_21 : (sv μ6 23 9 ((μ.1 23 9) + 1)).1 26 11 = μ6.1 26 11 := (sv_n _ (fun h9 => absurd h9.1 (by decide)))
    have e_22 : (sv μ6 23 9 ((μ.1 23 9) + 1)).1 26 11 = μ6.1 26 11 := (sv_n _ (fun h9 => absurd h9.1 (by decide)))
    have e_23 : (sv μ6 23 9 ((μ.1 23 9) + 1)).1 26 11 = μ6.1 26 11 := (sv_n _ (fun h9 => absurd h9.1 (by decide)))
    have e_24 : (sv μ6 23 9 ((μ.1 23 9) + 1)).1 23 9 = (μ.1 23 9) + 1 := (sv_s _ _ _ _)
    have e_25 : (sv μ6 23 9 ((μ.1 23 9) + 1)).1 26 6 = μ.1 26 6 := ((sv_n _ (fun h9 => absurd h9.1 (by decide))).trans hs_12)
    have e_26 : (sv μ6 23 9 ((μ.1 23 9) + 1)).1 26 7 = μ.1 26 7 := ((sv_n _ (fun h9 => absurd h9.1 (by decide))).trans hs_13)
    have e_27 : (sv μ6 23 9 ((μ.1 23 9) + 1)).1 26 8 = μ.1 26 8 := ((sv_n _ (fun h9 => absurd h9.1 (by decide))).trans hs_14)
    have e_28 : (sv μ6 23 9 ((μ.1 23 9) + 1)).1 26 9 = μ.1 26 9 := ((sv_n _ (fun h9 => absurd h9.1 (by decide))).trans hs_15)
    have e_29 : (sv μ6 23 9 ((μ.1 23 9) + 1)).1 23 2 = μ.1 23 2 := ((sv_n _ (by decide)).trans (F_7.1 23 (by decide) 2))
    have e_30 : (sv μ6 23 9 ((μ.1 23 9) + 1)).1 23 5 = μ.1 23 5 := ((sv_n _ (by decide)).trans (F_7.1 23 (by decide) 5))
    have e_31 : (sv μ6 23 9 ((μ.1 23 9) + 1)).1 23 6 = μ.1 23 6 := ((sv_n _ (by decide)).trans (F_7.1 23 (by decide) 6))
    have e_32 : (sv μ6 23 9 ((μ.1 23 9) + 1)).1 23 7 = μ.1 23 7 := ((sv_n _ (by decide)).trans (F_7.1 23 (by decide) 7))
    have e_33 : (sv μ6 23 9 ((μ.1 23 9) + 1)).1 23 8 = μ.1 23 8 := ((sv_n _ (by decide)).trans (F_7.1 23 (by decide) 8))
    have e_34 : (sv μ6 23 9 ((μ.1 23 9) + 1)).1 23 10 = μ.1 23 10 := ((sv_n _ (by decide)).trans (F_7.1 23 (by decide) 10))
    exact xr_v G hret hlk dX7_needOpen_31 ⟨(Fr.put (Fr.tr Fr.rf F_7 (by decide)) (by decide)), hI_19, htk_18, (by omega), (by omega), (by omega), (by omega), (by omega), (by omega), (by omega), (by omega), (by omega), (by omega), (by omega), (by omega), (by omega), (by omega)⟩
  · refine lv_aload_n hx hb dX7_needOpen_9 rfl (lv_at hl 0 rfl) ?_
    refine xa_getr G fd_X7 (a := 23) (x := 26) 0 rfl (by decide) rfl (wm 2 17 rfl rfl) ⟨rfl, rfl, rfl⟩ dX7_needOpen_10 rfl (G.sk 23 rfl) (by decide) rfl ?_
    have hn_35 : 0 ≤ μ.1 26 6 ∧ μ.1 26 6 ≤ 3001 := hI.nm.2.2.2.2.2.2.2.2.2.1
    have hn_36 : 0 ≤ μ.1 26 7 ∧ μ.1 26 7 ≤ 3000 := hI.nm.2.2.2.2.2.2.2.2.2.2.1
    have hn_37 : 0 ≤ μ.1 26 9 ∧ μ.1 26 9 ≤ 3000 := hI.nm.2.2.2.2.2.2.2.2.2.2.2.1
    have hn_38 : -1 ≤ μ.1 26 10 ∧ μ.1 26 10 ≤ 3000 := hI.nm.2.2.2.2.2.2.2.2.2.2.2.2
    refine xc_vV G (b := 26) (rest := []) (As := []) (c_X10_stop ω l μ  hI) (wm 3 173 rfl rfl) (wm 3 174 rfl rfl) (wm 3 175 rfl rfl) rfl rfl (by decide) rfl (wm 1 13 rfl rfl) (wm 3 176 rfl rfl) (by decide) hR (by decide) (n := 0) rfl rfl (Nat.le_of_ble_eq_true rfl) hl.1 dX7_needOpen_13 (fun μ39 ρ d0 H locs hp G => ?_)
    obtain ⟨F_40, hI_41, hp_42, hp_43, hs_44, hs_45, hs_46, hs_47, hs_48, hs_49, hs_50⟩ := hp
    have htk_51 : TK μ39 := TK.st hTK F_40 hp_42 hp_43 hs_44 hs_48 hs_49
    refine lv_aload_n hx hb dX7_needOpen_16 rfl (lv_at hl 0 rfl) ?_
    refine lv_iload_n hx hb dX7_needOpen_17 rfl (lv_at hl 1 rfl) ?_
    have e_52 : μ39.1 26 10 = μ.1 26 10 := hs_48
    have e_53 : μ39.1 26 6 = μ.1 26 6 := hs_44
    have e_54 : μ39.1 26 7 = μ.1 26 7 := hs_45
    have e_55 : μ39.1 26 8 = μ.1 26 8 := hs_46
    have e_56 : μ39.1 26 9 = μ.1 26 9 := hs_47
    refine xc_vV G (b := 23) (rest := []) (As := [.int (iv x1)]) (c_X7_need_b ω l μ39 x1 (by unfold ir; omega) hI_41 htk_51 (by omega)) (wm 3 169 rfl rfl) (wm 3 171 rfl rfl) (wm 0 11 rfl rfl) rfl rfl (by decide) rfl (wm 1 12 rfl rfl) (wm 3 172 rfl rfl) (by decide) hR (by decide) (n := 1) rfl rfl (Nat.le_of_ble_eq_true rfl) hl.1 dX7_needOpen_18 (fun μ57 ρ d0 H locs hp G => ?_)
    obtain ⟨F_58, hI_59, hp_60, hp_61, hp_62, hs_63, hs_64, hs_65, hs_66⟩ := hp
    have hn_67 : -1 ≤ μ57.1 26 10 ∧ μ57.1 26 10 ≤ 3000 := hI_59.nm.2.2.2.2.2.2.2.2.2.2.2.2
    have htb_68 := hp_60.b
    refine lv_aload_n hx hb dX7_needOpen_21 rfl (lv_at hl 0 rfl) ?_
    refine lv_dup hx hb dX7_needOpen_22 rfl ?_
    refine xa_geti G fd_X7 (a := 23) (x := μ.1 23 9) 9 rfl (by decide) rfl (wm 2 26 rfl rfl) ⟨rfl, rfl, rfl⟩ dX7_needOpen_23 rfl ((F_58.1 23 (by decide) 9).trans (F_40.1 23 (by decide) 9)) ?_
    refine lv_iconst (v := iv 1) hx hb dX7_needOpen_26 rfl ?_
    refine xb_iadd hx hb dX7_needOpen_27 ?_
    refine xa_puti G fd_X7 (a := 23) (x := (μ.1 23 9) + 1) 9 (kz := 9) rfl rfl (by decide) rfl (by unfold ir; omega) (wm 2 26 rfl rfl) ⟨rfl, rfl, rfl, rfl⟩ rfl dX7_needOpen_28 rfl (fun H locs G => ?_)
    have htk_69 : TK (sv μ57 23 9 ((μ.1 23 9) + 1)) := hp_60.fr (K := [23]) (Fr.put Fr.rf (by decide)) (by decide) (by decide) (by decide)
    have hI_70 : IC (sv μ57 23 9 ((μ.1 23 9) + 1)) := (IC.put hI_59 (by decide +kernel))
    have e_71 : (sv μ57 23 9 ((μ.1 23 9) + 1)).1 26 10 = μ57.1 26 10 := (sv_n _ (fun h9 => absurd h9.1 (by decide)))
    have e_72 : (sv μ57 23 9 ((μ.1 23 9) + 1)).1 26 11 = μ57.1 26 11 := (sv_n _ (fun h9 => absurd h9.1 (by decide)))
    have e_73 : (sv μ57 23 9 ((μ.1 23 9) + 1)).1 26 11 = μ57.1 26 11 := (sv_n _ (fun h9 => absurd h9.1 (by decide)))
    have e_74 : (sv μ57 23 9 ((μ.1 23 9) + 1)).1 26 11 = μ57.1 26 11 := (sv_n _ (fun h9 => absurd h9.1 (by decide)))
    have e_75 : (sv μ57 23 9 ((μ.1 23 9) + 1)).1 23 9 = (μ.1 23 9) + 1 := (sv_s _ _ _ _)
    have e_76 : (sv μ57 23 9 ((μ.1 23 9) + 1)).1 26 6 = μ.1 26 6 := ((sv_n _ (fun h9 => absurd h9.1 (by decide))).trans (hs_63.trans hs_44))
    have e_77 : (sv μ57 23 9 ((μ.1 23 9) + 1)).1 26 7 = μ.1 26 7 := ((sv_n _ (fun h9 => absurd h9.1 (by decide))).trans (hs_64.trans hs_45))
    have e_78 : (sv μ57 23 9 ((μ.1 23 9) + 1)).1 26 8 = μ.1 26 8 := ((sv_n _ (fun h9 => absurd h9.1 (by decide))).trans (hs_65.trans hs_46))
    have e_79 : (sv μ57 23 9 ((μ.1 23 9) + 1)).1 26 9 = μ.1 26 9 := ((sv_n _ (fun h9 => absurd h9.1 (by decide))).trans (hs_66.trans hs_47))
    have e_80 : (sv μ57 23 9 ((μ.1 23 9) + 1)).1 23 2 = μ.1 23 2 := ((sv_n _ (by decide)).trans ((F_58.1 23 (by decide) 2).trans (F_40.1 23 (by decide) 2)))
    have e_81 : (sv μ57 23 9 ((μ.1 23 9) + 1)).1 23 5 = μ.1 23 5 := ((sv_n _ (by decide)).trans ((F_58.1 23 (by decide) 5).trans (F_40.1 23 (by decide) 5)))
    have e_82 : (sv μ57 23 9 ((μ.1 23 9) + 1)).1 23 6 = μ.1 23 6 := ((sv_n _ (by decide)).trans ((F_58.1 23 (by decide) 6).trans (F_40.1 23 (by decide) 6)))
    have e_83 : (sv μ57 23 9 ((μ.1 23 9) + 1)).1 23 7 = μ.1 23 7 := ((sv_n _ (by decide)).trans ((F_58.1 23 (by decide) 7).trans (F_40.1 23 (by decide) 7)))
    have e_84 : (sv μ57 23 9 ((μ.1 23 9) + 1)).1 23 8 = μ.1 23 8 := ((sv_n _ (by decide)).trans ((F_58.1 23 (by decide) 8).trans (F_40.1 23 (by decide) 8)))
    have e_85 : (sv μ57 23 9 ((μ.1 23 9) + 1)).1 23 10 = μ.1 23 10 := ((sv_n _ (by decide)).trans ((F_58.1 23 (by decide) 10).trans (F_40.1 23 (by decide) 10)))
    exact xr_v G hret hlk dX7_needOpen_31 ⟨(Fr.put (Fr.tr (Fr.tr Fr.rf F_40 (by decide)) F_58 (by decide)) (by decide)), hI_70, htk_69, (by omega), (by omega), (by omega), (by omega), (by omega), (by omega), (by omega), (by omega), (by omega), (by omega), (by omega), (by omega), (by omega), (by omega)⟩

set_option maxHeartbeats 4000000 in
set_option maxRecDepth 100000 in
theorem c_X7_needClosed_b (ω : Om) (l : Launch) (μ : M3) (x1 : Int) (hx1 : ir x1) (hI : IC μ) (hTK : TK μ) (hk : x1 ≠ 0 ∧ x1 ≠ 3) (hdp : -100 ≤ μ.1 23 9 ∧ μ.1 23 9 ≤ 100) : CtV ω l yX7_needClosed cX7_needClosed 2 2 41 [.ref (oP ω 23), .int (iv x1)] μ (fun (μ' : M3) => (Fr [26, 23] μ μ') ∧ (IC μ') ∧ (TK μ') ∧ (μ'.1 26 10 = μ.1 26 10 + 1 - μ'.1 26 11) ∧ (μ.1 26 11 ≤ μ'.1 26 11) ∧ (μ'.1 23 9 = μ.1 23 9 - 1) ∧ (μ'.1 26 6 = μ.1 26 6) ∧ (μ'.1 26 7 = μ.1 26 7) ∧ (μ'.1 26 8 = μ.1 26 8) ∧ (μ'.1 26 9 = μ.1 26 9) ∧ (μ'.1 23 2 = μ.1 23 2) ∧ (μ'.1 23 5 = μ.1 23 5) ∧ (μ'.1 23 6 = μ.1 23 6) ∧ (μ'.1 23 7 = μ.1 23 7) ∧ (μ'.1 23 8 = μ.1 23 8) ∧ (μ'.1 23 10 = μ.1 23 10)) := by
  refine CtV.go (by decide) (Nat.le_of_ble_eq_true rfl) (fun ρ p e s m below meth c R ls G hR hret hlk hl => ?_)
  have hx := G.1.1
  have hb := G.1.2.1
  have hl : lv_has ls 2 [(0, .ref (oP ω 23)), (1, .int (iv x1))] := hl
  generalize s.drawn = d0 at G ⊢
  have hr_x1 : -2147483648 ≤ x1 ∧ x1 ≤ 2147483647 := hx1
  have hTKb := hTK.b
  refine lv_aload_n hx hb dX7_needClosed_0 rfl (lv_at hl 0 rfl) ?_
  refine lv_iload_n hx hb dX7_needClosed_1 rfl (lv_at hl 1 rfl) ?_
  have hn_1 : -1 ≤ μ.1 26 10 ∧ μ.1 26 10 ≤ 3000 := hI.nm.2.2.2.2.2.2.2.2.2.2.2.2
  have hn_2 : 0 ≤ μ.1 26 6 ∧ μ.1 26 6 ≤ 3001 := hI.nm.2.2.2.2.2.2.2.2.2.1
  have hn_3 : 0 ≤ μ.1 26 7 ∧ μ.1 26 7 ≤ 3000 := hI.nm.2.2.2.2.2.2.2.2.2.2.1
  have hn_4 : 0 ≤ μ.1 26 9 ∧ μ.1 26 9 ≤ 3000 := hI.nm.2.2.2.2.2.2.2.2.2.2.2.1
  refine xc_vV G (b := 23) (rest := []) (As := [.int (iv x1)]) (c_X7_need_b ω l μ x1 (by unfold ir; omega) hI hTK (by omega)) (wm 3 169 rfl rfl) (wm 3 171 rfl rfl) (wm 0 11 rfl rfl) rfl rfl (by decide) rfl (wm 1 12 rfl rfl) (wm 3 172 rfl rfl) (by decide) hR (by decide) (n := 1) rfl rfl (Nat.le_of_ble_eq_true rfl) hl.1 dX7_needClosed_2 (fun μ5 ρ d0 H locs hp G => ?_)
  obtain ⟨F_6, hI_7, hp_8, hp_9, hp_10, hs_11, hs_12, hs_13, hs_14⟩ := hp
  have hn_15 : -1 ≤ μ5.1 26 10 ∧ μ5.1 26 10 ≤ 3000 := hI_7.nm.2.2.2.2.2.2.2.2.2.2.2.2
  have htb_16 := hp_8.b
  refine lv_aload_n hx hb dX7_needClosed_5 rfl (lv_at hl 0 rfl) ?_
  refine lv_dup hx hb dX7_needClosed_6 rfl ?_
  refine xa_geti G fd_X7 (a := 23) (x := μ.1 23 9) 9 rfl (by decide) rfl (wm 2 26 rfl rfl) ⟨rfl, rfl, rfl⟩ dX7_needClosed_7 rfl (F_6.1 23 (by decide) 9) ?_
  have hr_17 : -2147483648 ≤ μ.1 23 9 ∧ μ.1 23 9 ≤ 2147483647 := by have h9 := G.hr (a := 23) (k := 9) rfl; rw [show μ5.1 23 9 = μ.1 23 9 from (F_6.1 23 (by decide) 9)] at h9; exact h9
  refine lv_iconst (v := iv 1) hx hb dX7_needClosed_10 rfl ?_
  refine xb_isub hx hb dX7_needClosed_11 ?_
  refine xa_puti G fd_X7 (a := 23) (x := (μ.1 23 9) - 1) 9 (kz := 9) rfl rfl (by decide) rfl (by unfold ir; omega) (wm 2 26 rfl rfl) ⟨rfl, rfl, rfl, rfl⟩ rfl dX7_needClosed_12 rfl (fun H locs G => ?_)
  have htk_18 : TK (sv μ5 23 9 ((μ.1 23 9) - 1)) := hp_8.fr (K := [23]) (Fr.put Fr.rf (by decide)) (by decide) (by decide) (by decide)
  have hI_19 : IC (sv μ5 23 9 ((μ.1 23 9) - 1)) := (IC.put hI_7 (by decide +kernel))
  have e_20 : (sv μ5 23 9 ((μ.1 23 9) - 1)).1 26 10 = μ5.1 26 10 := (sv_n _ (fun h9 => absurd h9.1 (by decide)))
  have e_21 : (sv μ5 23 9 ((μ.1 23 9) - 1)).1 26 11 = μ5.1 26 11 := (sv_n _ (fun h9 => absurd h9.1 (by decide)))
  have e_22 : (sv μ5 23 9 ((μ.1 23 9) - 1)).1 26 11 = μ5.1 26 11 := (sv_n _ (fun h9 => absurd h9.1 (by decide)))
  have e_23 : (sv μ5 23 9 ((μ.1 23 9) - 1)).1 23 9 = (μ.1 23 9) - 1 := (sv_s _ _ _ _)
  have e_24 : (sv μ5 23 9 ((μ.1 23 9) - 1)).1 26 6 = μ.1 26 6 := ((sv_n _ (fun h9 => absurd h9.1 (by decide))).trans hs_11)
  have e_25 : (sv μ5 23 9 ((μ.1 23 9) - 1)).1 26 7 = μ.1 26 7 := ((sv_n _ (fun h9 => absurd h9.1 (by decide))).trans hs_12)
  have e_26 : (sv μ5 23 9 ((μ.1 23 9) - 1)).1 26 8 = μ.1 26 8 := ((sv_n _ (fun h9 => absurd h9.1 (by decide))).trans hs_13)
  have e_27 : (sv μ5 23 9 ((μ.1 23 9) - 1)).1 26 9 = μ.1 26 9 := ((sv_n _ (fun h9 => absurd h9.1 (by decide))).trans hs_14)
  have e_28 : (sv μ5 23 9 ((μ.1 23 9) - 1)).1 23 2 = μ.1 23 2 := ((sv_n _ (by decide)).trans (F_6.1 23 (by decide) 2))
  have e_29 : (sv μ5 23 9 ((μ.1 23 9) - 1)).1 23 5 = μ.1 23 5 := ((sv_n _ (by decide)).trans (F_6.1 23 (by decide) 5))
  have e_30 : (sv μ5 23 9 ((μ.1 23 9) - 1)).1 23 6 = μ.1 23 6 := ((sv_n _ (by decide)).trans (F_6.1 23 (by decide) 6))
  have e_31 : (sv μ5 23 9 ((μ.1 23 9) - 1)).1 23 7 = μ.1 23 7 := ((sv_n _ (by decide)).trans (F_6.1 23 (by decide) 7))
  have e_32 : (sv μ5 23 9 ((μ.1 23 9) - 1)).1 23 8 = μ.1 23 8 := ((sv_n _ (by decide)).trans (F_6.1 23 (by decide) 8))
  have e_33 : (sv μ5 23 9 ((μ.1 23 9) - 1)).1 23 10 = μ.1 23 10 := ((sv_n _ (by decide)).trans (F_6.1 23 (by decide) 10))
  exact xr_v G hret hlk dX7_needClosed_15 ⟨(Fr.put (Fr.tr Fr.rf F_6 (by decide)) (by decide)), hI_19, htk_18, (by omega), (by omega), (by omega), (by omega), (by omega), (by omega), (by omega), (by omega), (by omega), (by omega), (by omega), (by omega), (by omega)⟩

set_option maxHeartbeats 4000000 in
set_option maxRecDepth 100000 in
theorem c_X7_took_b (ω : Om) (l : Launch) (μ : M3) (x1 : Int) (hx1 : ir x1) (hI : IC μ) (hTK : TK μ) (hk : x1 ≠ 0 ∧ x1 ≠ 3) : CtI ω l yX7_took cX7_took 2 .boolean 1 20 [.ref (oP ω 23), .int (iv x1)] μ (fun (r : Int) (μ' : M3) => (Fr [26] μ μ') ∧ (IC μ') ∧ (TK μ') ∧ (0 ≤ r ∧ r ≤ 1 ∧ μ'.1 26 10 = μ.1 26 10 + r ∧ r + μ.1 26 11 ≤ 1) ∧ (∀ _ : Unit, r = 0 → μ'.1 26 12 = μ.1 26 12) ∧ (μ'.1 26 11 = μ.1 26 11) ∧ (μ'.1 26 6 = μ.1 26 6) ∧ (μ'.1 26 7 = μ.1 26 7) ∧ (μ'.1 26 8 = μ.1 26 8) ∧ (μ'.1 26 9 = μ.1 26 9)) := by
  refine CtI.go (by decide) (Nat.le_of_ble_eq_true rfl) (fun ρ p e s m below meth c R ls G hR hret hlk hl => ?_)
  have hx := G.1.1
  have hb := G.1.2.1
  have hl : lv_has ls 2 [(0, .ref (oP ω 23)), (1, .int (iv x1))] := hl
  generalize s.drawn = d0 at G ⊢
  have hr_x1 : -2147483648 ≤ x1 ∧ x1 ≤ 2147483647 := hx1
  have hTKb := hTK.b
  refine lv_aload_n hx hb dX7_took_0 rfl (lv_at hl 0 rfl) ?_
  refine xa_getr G fd_X7 (a := 23) (x := 26) 0 rfl (by decide) rfl (wm 2 17 rfl rfl) ⟨rfl, rfl, rfl⟩ dX7_took_1 rfl (G.sk 23 rfl) (by decide) rfl ?_
  refine xa_getN G fd_X10 (host := "FourTongues") (a := 26) 12 rfl (by decide) (by decide) ⟨rfl, rfl, rfl⟩ dX7_took_4 rfl (v := .int (iv (μ.1 26 12))) (by rw [show μ.1 26 12 = μ.1 26 12 from rfl]; rfl) ?_
  have hr_1 : -2147483648 ≤ μ.1 26 12 ∧ μ.1 26 12 ≤ 2147483647 := by have h9 := G.hr (a := 26) (k := 12) rfl; exact h9
  refine lv_iload_n hx hb dX7_took_7 rfl (lv_at hl 1 rfl) ?_
  refine xb_icmp_eq (tgt := 13) hx hb (by unfold ir; omega) (by unfold ir; omega) dX7_took_8 (by decide) (fun c_8 => ?_) (fun c_8 => ?_)
  · refine lv_aload_n hx hb dX7_took_13 rfl (lv_at hl 0 rfl) ?_
    refine xa_getr G fd_X7 (a := 23) (x := 26) 0 rfl (by decide) rfl (wm 2 17 rfl rfl) ⟨rfl, rfl, rfl⟩ dX7_took_14 rfl (G.sk 23 rfl) (by decide) rfl ?_
    have hn_2 : 0 ≤ μ.1 26 6 ∧ μ.1 26 6 ≤ 3001 := hI.nm.2.2.2.2.2.2.2.2.2.1
    have hn_3 : -1 ≤ μ.1 26 10 ∧ μ.1 26 10 ≤ 3000 := hI.nm.2.2.2.2.2.2.2.2.2.2.2.2
    have hn_4 : 0 ≤ μ.1 26 7 ∧ μ.1 26 7 ≤ 3000 := hI.nm.2.2.2.2.2.2.2.2.2.2.1
    have hn_5 : 0 ≤ μ.1 26 9 ∧ μ.1 26 9 ≤ 3000 := hI.nm.2.2.2.2.2.2.2.2.2.2.2.1
    refine xc_vV G (b := 26) (rest := []) (As := []) (c_X10_next ω l μ  hI (by omega) (by omega)) (wm 3 164 rfl rfl) (wm 3 157 rfl rfl) (wm 3 158 rfl rfl) rfl rfl (by decide) rfl (wm 1 13 rfl rfl) (wm 3 159 rfl rfl) (by decide) hR (by decide) (n := 0) rfl rfl (Nat.le_of_ble_eq_true rfl) hl.1 dX7_took_17 (fun μ6 ρ d0 H locs hp G => ?_)
    obtain ⟨F_7, hI_8, hp_9, hp_10, hs_11, hs_12, hs_13, hs_14, hs_15⟩ := hp
    have hn_16 : -1 ≤ μ6.1 26 10 ∧ μ6.1 26 10 ≤ 3000 := hI_8.nm.2.2.2.2.2.2.2.2.2.2.2.2
    obtain ⟨htk_17, htk_17_s, htk_17_n⟩ := TK.nx hTK F_7 hs_12 hs_11 (by have h9 : μ.1 26 12 = μ.1 26 12 := rfl; omega) hp_9 hp_10
    clear hp_9 hp_10
    have htb_18 := htk_17.b
    refine lv_iconst (v := iv 1) hx hb dX7_took_20 rfl ?_
    have e_19 : μ6.1 26 11 = μ.1 26 11 := hs_11
    have e_20 : μ6.1 26 6 = μ.1 26 6 := hs_12
    have e_21 : μ6.1 26 7 = μ.1 26 7 := hs_13
    have e_22 : μ6.1 26 8 = μ.1 26 8 := hs_14
    have e_23 : μ6.1 26 9 = μ.1 26 9 := hs_15
    exact xr_i G (x := 1) hret hlk (by unfold ir; omega) (zr (by omega)) dX7_took_21 ⟨(Fr.tr Fr.rf F_7 (by decide)), hI_8, htk_17, (by omega), (fun _ h9 => absurd h9 (by omega)), (by omega), (by omega), (by omega), (by omega), (by omega)⟩
  · refine lv_iconst (v := iv 0) hx hb dX7_took_11 rfl ?_
    exact xr_i G (x := 0) hret hlk (by unfold ir; omega) (zr (by omega)) dX7_took_12 ⟨Fr.rf, hI, hTK, (by omega), (fun _ _ => rfl), (by omega), (by omega), (by omega), (by omega), (by omega)⟩

set_option maxHeartbeats 4000000 in
set_option maxRecDepth 100000 in
theorem c_X7_inBrackets (ω : Om) (l : Launch) (μ : M3) (x1 : Int) (x2 : Int) (F : Nat) (Lo : Nat) (Fu : Nat) (Lu : Nat) (kf : Int) (P : Int) (tt : Int) (hx1 : ir x1) (hx2 : ir x2) (hI : IC μ) (hP : P = μ.1 23 2) (htt : tt = μ.1 23 8) (hF : 60 ≤ F) (hLo : 2000 ≤ Lo) (hFu : Fu ≤ F) (hLu : Lu ≤ Lo) (hE : ∀ (μ : M3) (x1 : Int) (P : Int) (tt : Int) (hx1 : x1 = 0 ∨ x1 = 1) (hI : IC μ) (hP : P = μ.1 23 2) (htt : tt = μ.1 23 8) (hTK : TK μ) (hB : 2 * μ.1 P 1 ≤ 5 * μ.1 26 10 + 200 + 80 * μ.1 26 11) (hKc : μ.1 (P + 2) 3 ≤ μ.1 P 1) (ht3 : 0 ≤ tt ∧ tt ≤ 3) (hdp : 0 ≤ μ.1 23 9 ∧ μ.1 23 9 ≤ 8 + μ.1 26 11) (hfu : 0 ≤ (kf - 1) ∧ 9 ≤ μ.1 23 9 + (kf - 1) + 20 * μ.1 26 11) (hbg : ∀ _ : Unit, x1 = 0 ∨ μ.1 26 11 ≠ 0 ∨ 2 ≤ hs μ P (μ.1 P 1)), CtV ω l yX7_expression cX7_expression 3 (F + 0) (Lo + 0) [.ref (oP ω 23), .int (iv x1)] μ (fun (μ' : M3) => (Fr [2, 3, 4, 23, 24, 26, P, P + 1, P + 2, (P + 2) + 1, (P + 2) + 2, (P + 2) + 3] μ μ') ∧ (IC μ') ∧ (TK μ') ∧ (μ.1 26 11 ≤ μ'.1 26 11) ∧ (μ.1 26 10 ≤ μ'.1 26 10) ∧ (μ.1 P 1 ≤ μ'.1 P 1 ∧ μ'.1 P 1 ≤ μ.1 P 1 + 2 * (μ'.1 26 10 - μ.1 26 10) + (- 1 + 3 * μ'.1 26 11 - 2 * μ.1 26 11 + x1)) ∧ (μ'.1 (P + 2) 3 - μ.1 (P + 2) 3 ≤ μ'.1 P 1 - μ.1 P 1 ∧ μ.1 (P + 2) 3 ≤ μ'.1 (P + 2) 3) ∧ (μ'.1 26 11 = 0 → EX μ μ' P tt (1 - x1) 0) ∧ (μ'.1 23 2 = μ.1 23 2) ∧ (μ'.1 23 5 = μ.1 23 5) ∧ (μ'.1 23 6 = μ.1 23 6) ∧ (μ'.1 23 7 = μ.1 23 7) ∧ (μ'.1 23 8 = μ.1 23 8) ∧ (μ'.1 23 9 = μ.1 23 9) ∧ (μ'.1 23 10 = μ.1 23 10) ∧ (μ'.1 26 6 = μ.1 26 6) ∧ (μ'.1 P 7 = μ.1 P 7))) (hU : ∀ (μ : M3) (x1 : Int) (P : Int) (tt : Int) (hx1 : x1 = 0 ∨ x1 = 1) (hI : IC μ) (hP : P = μ.1 23 2) (htt : tt = μ.1 23 8) (hTK : TK μ) (hB : 2 * μ.1 P 1 ≤ 5 * μ.1 26 10 + 200 + 80 * μ.1 26 11) (hKc : μ.1 (P + 2) 3 ≤ μ.1 P 1) (ht3 : 0 ≤ tt ∧ tt ≤ 3) (hdp : 0 ≤ μ.1 23 9 ∧ μ.1 23 9 ≤ 8 + μ.1 26 11) (hfu : 0 ≤ (kf - 1) ∧ 9 ≤ μ.1 23 9 + (kf - 1) + 20 * μ.1 26 11) (hbg : ∀ _ : Unit, x1 = 0 ∨ μ.1 26 11 ≠ 0 ∨ 2 ≤ hs μ P (μ.1 P 1)), CtV ω l yX7_unary cX7_unary 2 (Fu + 0) (Lu + 0) [.ref (oP ω 23), .int (iv x1)] μ (fun (μ' : M3) => (Fr [2, 3, 4, 23, 24, 26, P, P + 1, P + 2, (P + 2) + 1, (P + 2) + 2, (P + 2) + 3] μ μ') ∧ (IC μ') ∧ (TK μ') ∧ (μ.1 26 11 ≤ μ'.1 26 11) ∧ (μ.1 26 10 ≤ μ'.1 26 10) ∧ (μ.1 P 1 ≤ μ'.1 P 1 ∧ μ'.1 P 1 ≤ μ.1 P 1 + 2 * (μ'.1 26 10 - μ.1 26 10) + (- 1 + 3 * μ'.1 26 11 - 2 * μ.1 26 11 + x1)) ∧ (μ'.1 (P + 2) 3 - μ.1 (P + 2) 3 ≤ μ'.1 P 1 - μ.1 P 1 ∧ μ.1 (P + 2) 3 ≤ μ'.1 (P + 2) 3) ∧ (μ'.1 26 11 = 0 → EX μ μ' P tt (1 - x1) 0) ∧ (μ'.1 23 2 = μ.1 23 2) ∧ (μ'.1 23 5 = μ.1 23 5) ∧ (μ'.1 23 6 = μ.1 23 6) ∧ (μ'.1 23 7 = μ.1 23 7) ∧ (μ'.1 23 8 = μ.1 23 8) ∧ (μ'.1 23 9 = μ.1 23 9) ∧ (μ'.1 23 10 = μ.1 23 10) ∧ (μ'.1 26 6 = μ.1 26 6) ∧ (μ'.1 P 7 = μ.1 P 7))) (hTK : TK μ) (hB : 2 * μ.1 P 1 ≤ 5 * μ.1 26 10 + 200 + 80 * μ.1 26 11) (hKc : μ.1 (P + 2) 3 ≤ μ.1 P 1) (ht3 : 0 ≤ tt ∧ tt ≤ 3) (hdp : 0 ≤ μ.1 23 9 ∧ μ.1 23 9 ≤ 8) (hfu : 9 ≤ μ.1 23 9 + kf) (hk1 : x1 ≠ 0 ∧ x1 ≠ 3) (hk2 : x2 ≠ 0 ∧ x2 ≠ 3) : CtV ω l yX7_inBrackets cX7_inBrackets 3 (F + 1) (Lo + 22) [.ref (oP ω 23), .int (iv x1), .int (iv x2)] μ (fun (μ' : M3) => (Fr [2, 3, 4, 23, 24, 26, P, P + 1, P + 2, (P + 2) + 1, (P + 2) + 2, (P + 2) + 3] μ μ') ∧ (IC μ') ∧ (TK μ') ∧ (μ.1 26 11 ≤ μ'.1 26 11) ∧ (μ.1 26 10 ≤ μ'.1 26 10) ∧ (μ.1 P 1 ≤ μ'.1 P 1 ∧ μ'.1 P 1 ≤ μ.1 P 1 + 2 * (μ'.1 26 10 - μ.1 26 10) + (- 5 + 5 * μ'.1 26 11)) ∧ (μ'.1 (P + 2) 3 - μ.1 (P + 2) 3 ≤ μ'.1 P 1 - μ.1 P 1 ∧ μ.1 (P + 2) 3 ≤ μ'.1 (P + 2) 3) ∧ (μ'.1 26 11 = 0 → EX μ μ' P tt 1 0) ∧ (μ'.1 23 2 = μ.1 23 2) ∧ (μ'.1 23 5 = μ.1 23 5) ∧ (μ'.1 23 6 = μ.1 23 6) ∧ (μ'.1 23 7 = μ.1 23 7) ∧ (μ'.1 23 8 = μ.1 23 8) ∧ (μ'.1 23 9 = μ.1 23 9) ∧ (μ'.1 23 10 = μ.1 23 10) ∧ (μ'.1 26 6 = μ.1 26 6) ∧ (μ'.1 P 7 = μ.1 P 7)) := by
  refine CtV.go (by decide) (Nat.le_of_ble_eq_true rfl) (fun ρ p e s m below meth c R ls G hR hret hlk hl => ?_)
  have hx := G.1.1
  have hb := G.1.2.1
  have hl : lv_has ls 3 [(0, .ref (oP ω 23)), (1, .int (iv x1)), (2, .int (iv x2))] := hl
  generalize s.drawn = d0 at G ⊢
  have hr_x1 : -2147483648 ≤ x1 ∧ x1 ≤ 2147483647 := hx1
  have hr_x2 : -2147483648 ≤ x2 ∧ x2 ≤ 2147483647 := hx2
  have hTKb := hTK.b
  have hprP : isPr P := by have h9 := G.sr0.2.2.2.2.2; rw [← hP] at h9; exact h9
  have hprP_d : 13 ≤ P ∧ P ≤ 101 := by rcases hprP with h9 | h9 | h9 | h9 | h9 <;> omega
  have hk_1 := hI.pr (p := P) hprP
  unfold pk at hk_1
  have hc_2 : 16 ≤ μ.2.1 (P + 1) ∧ μ.2.1 (P + 1) ≤ 73024 := hI.rm.1 _ hprP.cap
  have hnil : μ.1 26 11 = 0 → PXE μ μ P tt 0 (-1) 1 := fun _ => PXE.nil (by omega)
  refine lv_aload_n hx hb dX7_inBrackets_0 rfl (lv_at hl 0 rfl) ?_
  refine lv_iload_n hx hb dX7_inBrackets_1 rfl (lv_at hl 1 rfl) ?_
  have hn_3 : -1 ≤ μ.1 26 10 ∧ μ.1 26 10 ≤ 3000 := hI.nm.2.2.2.2.2.2.2.2.2.2.2.2
  refine xc_vV G (b := 23) (rest := []) (As := [.int (iv x1)]) (c_X7_needOpen_b ω l μ x1 (by unfold ir; omega) hI hTK (by omega) (by omega)) (wm 3 197 rfl rfl) (wm 3 199 rfl rfl) (wm 0 14 rfl rfl) rfl rfl (by decide) rfl (wm 1 12 rfl rfl) (wm 3 200 rfl rfl) (by decide) hR ⟨nfr hF (by decide), nlo hLo (by decide)⟩ (n := 1) rfl rfl (Nat.le_of_ble_eq_true rfl) hl.1 dX7_inBrackets_2 (fun μ4 ρ d0 H locs hp G => ?_)
  obtain ⟨F_5, hI_6, hp_7, hp_8, hp_9, hp_10, hs_11, hs_12, hs_13, hs_14, hs_15, hs_16, hs_17, hs_18, hs_19, hs_20, hs_21⟩ := hp
  have hn_22 : -1 ≤ μ4.1 26 10 ∧ μ4.1 26 10 ≤ 3000 := hI_6.nm.2.2.2.2.2.2.2.2.2.2.2.2
  have htb_23 := hp_7.b
  refine lv_aload_n hx hb dX7_inBrackets_5 rfl (lv_at hl 0 rfl) ?_
  refine lv_iconst (v := iv 0) hx hb dX7_inBrackets_6 rfl ?_
  have hpx_24 : μ4.1 26 11 = 0 → PXE μ μ4 P tt 0 (-1) 1 := fun h0 => (hnil (by have h9 : μ.1 26 11 = μ.1 26 11 := rfl; have h8 : μ4.1 26 11 = μ4.1 26 11 := rfl; omega)).fr (K := [26, 23]) (Fr.tr Fr.rf F_5 (by decide)) (npL_p (L := [26, 23]) (by decide) hprP).1 (npL_p (L := [26, 23]) (by decide) hprP).2.1
  have e_25 : μ4.1 23 2 = P := (hs_16.trans hP.symm)
  have e_26 : μ4.1 23 8 = tt := (hs_20.trans htt.symm)
  have e_27 : μ4.1 P 1 = μ.1 P 1 := (F_5.1 P (ni hprP (fun P => P) (fun P => [26, 23]) rfl) 1)
  have hk_28 := hI.row (r := P + 2) (hprP.row)
  unfold rk at hk_28
  have e_29 : μ4.1 (P + 2) 3 = μ.1 (P + 2) 3 := (F_5.1 (P + 2) (ni hprP (fun P => P + 2) (fun P => [26, 23]) rfl) 3)
  have e_30 : μ4.1 P 1 = μ.1 P 1 := (F_5.1 P (ni hprP (fun P => P) (fun P => [26, 23]) rfl) 1)
  have e_31 : μ4.1 23 9 = μ.1 23 9 + 1 := hs_11
  have e_32 : μ4.1 23 9 = μ.1 23 9 + 1 := hs_11
  have e_33 : μ4.1 23 9 = μ.1 23 9 + 1 := hs_11
  have e_34 : μ4.1 P 1 = μ.1 P 1 := (F_5.1 P (ni hprP (fun P => P) (fun P => [26, 23]) rfl) 1)
  have e_35 : μ4.1 P 1 = μ.1 P 1 := (F_5.1 P (ni hprP (fun P => P) (fun P => [26, 23]) rfl) 1)
  have e_36 : μ4.1 (P + 2) 3 = μ.1 (P + 2) 3 := (F_5.1 (P + 2) (ni hprP (fun P => P + 2) (fun P => [26, 23]) rfl) 3)
  have e_37 : μ4.1 P 1 = μ.1 P 1 := (F_5.1 P (ni hprP (fun P => P) (fun P => [26, 23]) rfl) 1)
  have e_38 : μ4.1 (P + 2) 3 = μ.1 (P + 2) 3 := (F_5.1 (P + 2) (ni hprP (fun P => P + 2) (fun P => [26, 23]) rfl) 3)
  refine xc_vV G (b := 23) (rest := []) (As := [.int (iv 0)]) (((fun (_ : Om) (_ : Launch) => hE)) ω l μ4 0 P tt (by omega) hI_6 (by omega) (by omega) hp_7 (by omega) (by omega) (by omega) (by omega) (by omega) (fun _ => Or.inl (by omega))) (wm 4 3 rfl rfl) (wm 4 5 rfl rfl) (wm 0 24 rfl rfl) rfl rfl (by decide) rfl (wm 1 12 rfl rfl) (wm 4 6 rfl rfl) (by decide) hR ⟨sfr (F := F) (a := 0) (by decide), slo (L := Lo) (m := 3) (a := 0) (by decide)⟩ (n := 1) rfl rfl (Nat.le_of_ble_eq_true rfl) hl.1 dX7_inBrackets_7 (fun μ39 ρ d0 H locs hp G => ?_)
  obtain ⟨F_40, hI_41, hp_42, hp_43, hp_44, hp_45, hp_46, hp_47, hs_48, hs_49, hs_50, hs_51, hs_52, hs_53, hs_54, hs_55, hs_56⟩ := hp
  have hn_57 : -1 ≤ μ39.1 26 10 ∧ μ39.1 26 10 ≤ 3000 := hI_41.nm.2.2.2.2.2.2.2.2.2.2.2.2
  have hk_58 := hI_41.pr (p := P) hprP
  unfold pk at hk_58
  have hc_59 : 16 ≤ μ39.2.1 (P + 1) ∧ μ39.2.1 (P + 1) ≤ 73024 := hI_41.rm.1 _ hprP.cap
  have hk_60 := hI_41.row (r := P + 2) (hprP.row)
  unfold rk at hk_60
  have htb_61 := hp_42.b
  have hpx_62 : μ39.1 26 11 = 0 → PXE μ μ39 P tt (0 + (1 - 0)) (-1) 1 := fun h0 => (PXE.app (hpx_24 (by have h9 : μ4.1 26 11 = μ4.1 26 11 := rfl; have h8 : μ39.1 26 11 = μ39.1 26 11 := rfl; omega)) (hp_47 h0)).e (by omega)
  refine lv_aload_n hx hb dX7_inBrackets_10 rfl (lv_at hl 0 rfl) ?_
  refine lv_iload_n hx hb dX7_inBrackets_11 rfl (lv_at hl 2 rfl) ?_
  have e_63 : μ39.1 23 9 = μ.1 23 9 + 1 := (hs_53.trans hs_11)
  have e_64 : μ39.1 23 9 = μ.1 23 9 + 1 := (hs_53.trans hs_11)
  have e_65 : μ39.1 23 9 = μ.1 23 9 + 1 := (hs_53.trans hs_11)
  refine xc_vV G (b := 23) (rest := []) (As := [.int (iv x2)]) (c_X7_needClosed_b ω l μ39 x2 (by unfold ir; omega) hI_41 hp_42 (by omega) (by omega)) (wm 3 214 rfl rfl) (wm 3 216 rfl rfl) (wm 0 18 rfl rfl) rfl rfl (by decide) rfl (wm 1 12 rfl rfl) (wm 3 217 rfl rfl) (by decide) hR ⟨nfr hF (by decide), nlo hLo (by decide)⟩ (n := 1) rfl rfl (Nat.le_of_ble_eq_true rfl) hl.1 dX7_inBrackets_12 (fun μ66 ρ d0 H locs hp G => ?_)
  obtain ⟨F_67, hI_68, hp_69, hp_70, hp_71, hs_72, hs_73, hs_74, hs_75, hs_76, hs_77, hs_78, hs_79, hs_80, hs_81, hs_82⟩ := hp
  have hn_83 : -1 ≤ μ66.1 26 10 ∧ μ66.1 26 10 ≤ 3000 := hI_68.nm.2.2.2.2.2.2.2.2.2.2.2.2
  have htb_84 := hp_69.b
  have hpx_85 : μ66.1 26 11 = 0 → PXE μ μ66 P tt (0 + (1 - 0)) (-1) 1 := fun h0 => (hpx_62 (by have h9 : μ39.1 26 11 = μ39.1 26 11 := rfl; have h8 : μ66.1 26 11 = μ66.1 26 11 := rfl; omega)).fr (K := [26, 23]) (Fr.tr Fr.rf F_67 (by decide)) (npL_p (L := [26, 23]) (by decide) hprP).1 (npL_p (L := [26, 23]) (by decide) hprP).2.1
  have e_86 : μ66.1 P 1 = μ39.1 P 1 := (F_67.1 P (ni hprP (fun P => P) (fun P => [26, 23]) rfl) 1)
  have e_87 : μ66.1 P 1 = μ39.1 P 1 := (F_67.1 P (ni hprP (fun P => P) (fun P => [26, 23]) rfl) 1)
  have e_88 : μ66.1 (P + 2) 3 = μ39.1 (P + 2) 3 := (F_67.1 (P + 2) (ni hprP (fun P => P + 2) (fun P => [26, 23]) rfl) 3)
  have e_89 : μ66.1 P 1 = μ39.1 P 1 := (F_67.1 P (ni hprP (fun P => P) (fun P => [26, 23]) rfl) 1)
  have e_90 : μ66.1 (P + 2) 3 = μ39.1 (P + 2) 3 := (F_67.1 (P + 2) (ni hprP (fun P => P + 2) (fun P => [26, 23]) rfl) 3)
  have e_91 : μ66.1 23 9 = μ39.1 23 9 - 1 := hs_72
  exact xr_v G hret hlk dX7_inBrackets_15 ⟨(Fr.tr (Fr.tr (Fr.tr Fr.rf F_5 (si hprP (fun P => [26, 23]) (fun P => [2, 3, 4, 23, 24, 26, P, P + 1, P + 2, (P + 2) + 1, (P + 2) + 2, (P + 2) + 3]) rfl)) F_40 (si hprP (fun P => [2, 3, 4, 23, 24, 26, P, P + 1, P + 2, (P + 2) + 1, (P + 2) + 2, (P + 2) + 3]) (fun P => [2, 3, 4, 23, 24, 26, P, P + 1, P + 2, (P + 2) + 1, (P + 2) + 2, (P + 2) + 3]) rfl)) F_67 (si hprP (fun P => [26, 23]) (fun P => [2, 3, 4, 23, 24, 26, P, P + 1, P + 2, (P + 2) + 1, (P + 2) + 2, (P + 2) + 3]) rfl)), hI_68, hp_69, (by omega), (by omega), (by omega), (by omega), (fun h0 => (PXE.ex (hpx_85 h0)).e (by omega)), ((hs_77.trans (hs_48.trans (hs_16.trans hP.symm)))).trans hP, (hs_78.trans (hs_49.trans hs_17)), (hs_79.trans (hs_50.trans hs_18)), (hs_80.trans (hs_51.trans hs_19)), ((hs_81.trans (hs_52.trans (hs_20.trans htt.symm)))).trans htt, (by omega), (hs_82.trans (hs_54.trans hs_21)), (hs_73.trans (hs_55.trans hs_12)), ((F_67.1 P (ni hprP (fun P => P) (fun P => [26, 23]) rfl) 7).trans (hs_56.trans (F_5.1 P (ni hprP (fun P => P) (fun P => [26, 23]) rfl) 7)))⟩

set_option maxHeartbeats 4000000 in
set_option maxRecDepth 100000 in
theorem c_X7_number (ω : Om) (l : Launch) (μ : M3) (F : Nat) (Lo : Nat) (Fu : Nat) (Lu : Nat) (kf : Int) (P : Int) (tt : Int) (hI : IC μ) (hP : P = μ.1 23 2) (htt : tt = μ.1 23 8) (hF : 60 ≤ F) (hLo : 2000 ≤ Lo) (hFu : Fu ≤ F) (hLu : Lu ≤ Lo) (hE : ∀ (μ : M3) (x1 : Int) (P : Int) (tt : Int) (hx1 : x1 = 0 ∨ x1 = 1) (hI : IC μ) (hP : P = μ.1 23 2) (htt : tt = μ.1 23 8) (hTK : TK μ) (hB : 2 * μ.1 P 1 ≤ 5 * μ.1 26 10 + 200 + 80 * μ.1 26 11) (hKc : μ.1 (P + 2) 3 ≤ μ.1 P 1) (ht3 : 0 ≤ tt ∧ tt ≤ 3) (hdp : 0 ≤ μ.1 23 9 ∧ μ.1 23 9 ≤ 8 + μ.1 26 11) (hfu : 0 ≤ (kf - 1) ∧ 9 ≤ μ.1 23 9 + (kf - 1) + 20 * μ.1 26 11) (hbg : ∀ _ : Unit, x1 = 0 ∨ μ.1 26 11 ≠ 0 ∨ 2 ≤ hs μ P (μ.1 P 1)), CtV ω l yX7_expression cX7_expression 3 (F + 0) (Lo + 0) [.ref (oP ω 23), .int (iv x1)] μ (fun (μ' : M3) => (Fr [2, 3, 4, 23, 24, 26, P, P + 1, P + 2, (P + 2) + 1, (P + 2) + 2, (P + 2) + 3] μ μ') ∧ (IC μ') ∧ (TK μ') ∧ (μ.1 26 11 ≤ μ'.1 26 11) ∧ (μ.1 26 10 ≤ μ'.1 26 10) ∧ (μ.1 P 1 ≤ μ'.1 P 1 ∧ μ'.1 P 1 ≤ μ.1 P 1 + 2 * (μ'.1 26 10 - μ.1 26 10) + (- 1 + 3 * μ'.1 26 11 - 2 * μ.1 26 11 + x1)) ∧ (μ'.1 (P + 2) 3 - μ.1 (P + 2) 3 ≤ μ'.1 P 1 - μ.1 P 1 ∧ μ.1 (P + 2) 3 ≤ μ'.1 (P + 2) 3) ∧ (μ'.1 26 11 = 0 → EX μ μ' P tt (1 - x1) 0) ∧ (μ'.1 23 2 = μ.1 23 2) ∧ (μ'.1 23 5 = μ.1 23 5) ∧ (μ'.1 23 6 = μ.1 23 6) ∧ (μ'.1 23 7 = μ.1 23 7) ∧ (μ'.1 23 8 = μ.1 23 8) ∧ (μ'.1 23 9 = μ.1 23 9) ∧ (μ'.1 23 10 = μ.1 23 10) ∧ (μ'.1 26 6 = μ.1 26 6) ∧ (μ'.1 P 7 = μ.1 P 7))) (hU : ∀ (μ : M3) (x1 : Int) (P : Int) (tt : Int) (hx1 : x1 = 0 ∨ x1 = 1) (hI : IC μ) (hP : P = μ.1 23 2) (htt : tt = μ.1 23 8) (hTK : TK μ) (hB : 2 * μ.1 P 1 ≤ 5 * μ.1 26 10 + 200 + 80 * μ.1 26 11) (hKc : μ.1 (P + 2) 3 ≤ μ.1 P 1) (ht3 : 0 ≤ tt ∧ tt ≤ 3) (hdp : 0 ≤ μ.1 23 9 ∧ μ.1 23 9 ≤ 8 + μ.1 26 11) (hfu : 0 ≤ (kf - 1) ∧ 9 ≤ μ.1 23 9 + (kf - 1) + 20 * μ.1 26 11) (hbg : ∀ _ : Unit, x1 = 0 ∨ μ.1 26 11 ≠ 0 ∨ 2 ≤ hs μ P (μ.1 P 1)), CtV ω l yX7_unary cX7_unary 2 (Fu + 0) (Lu + 0) [.ref (oP ω 23), .int (iv x1)] μ (fun (μ' : M3) => (Fr [2, 3, 4, 23, 24, 26, P, P + 1, P + 2, (P + 2) + 1, (P + 2) + 2, (P + 2) + 3] μ μ') ∧ (IC μ') ∧ (TK μ') ∧ (μ.1 26 11 ≤ μ'.1 26 11) ∧ (μ.1 26 10 ≤ μ'.1 26 10) ∧ (μ.1 P 1 ≤ μ'.1 P 1 ∧ μ'.1 P 1 ≤ μ.1 P 1 + 2 * (μ'.1 26 10 - μ.1 26 10) + (- 1 + 3 * μ'.1 26 11 - 2 * μ.1 26 11 + x1)) ∧ (μ'.1 (P + 2) 3 - μ.1 (P + 2) 3 ≤ μ'.1 P 1 - μ.1 P 1 ∧ μ.1 (P + 2) 3 ≤ μ'.1 (P + 2) 3) ∧ (μ'.1 26 11 = 0 → EX μ μ' P tt (1 - x1) 0) ∧ (μ'.1 23 2 = μ.1 23 2) ∧ (μ'.1 23 5 = μ.1 23 5) ∧ (μ'.1 23 6 = μ.1 23 6) ∧ (μ'.1 23 7 = μ.1 23 7) ∧ (μ'.1 23 8 = μ.1 23 8) ∧ (μ'.1 23 9 = μ.1 23 9) ∧ (μ'.1 23 10 = μ.1 23 10) ∧ (μ'.1 26 6 = μ.1 26 6) ∧ (μ'.1 P 7 = μ.1 P 7))) (hTK : TK μ) (hB : 2 * μ.1 P 1 ≤ 5 * μ.1 26 10 + 200 + 80 * μ.1 26 11) (hKc : μ.1 (P + 2) 3 ≤ μ.1 P 1) (ht3 : 0 ≤ tt ∧ tt ≤ 3) (hdp : 0 ≤ μ.1 23 9 ∧ μ.1 23 9 ≤ 8) (hfu : 9 ≤ μ.1 23 9 + kf) (hkd : μ.1 26 12 = 2) : CtV ω l yX7_number cX7_number 6 (F + 0) (Lo + 0) [.ref (oP ω 23)] μ (fun (μ' : M3) => (Fr [2, 3, 4, 23, 24, 26, P, P + 1, P + 2, (P + 2) + 1, (P + 2) + 2, (P + 2) + 3] μ μ') ∧ (IC μ') ∧ (TK μ') ∧ (μ.1 26 11 ≤ μ'.1 26 11) ∧ (μ.1 26 10 ≤ μ'.1 26 10) ∧ (μ.1 P 1 ≤ μ'.1 P 1 ∧ μ'.1 P 1 ≤ μ.1 P 1 + 2 * (μ'.1 26 10 - μ.1 26 10) + (- 1 + 3 * μ'.1 26 11 - 2 * μ.1 26 11)) ∧ (μ'.1 (P + 2) 3 - μ.1 (P + 2) 3 ≤ μ'.1 P 1 - μ.1 P 1 ∧ μ.1 (P + 2) 3 ≤ μ'.1 (P + 2) 3) ∧ (μ'.1 26 11 = 0 → EX μ μ' P tt 1 0) ∧ (μ'.1 23 2 = μ.1 23 2) ∧ (μ'.1 23 5 = μ.1 23 5) ∧ (μ'.1 23 6 = μ.1 23 6) ∧ (μ'.1 23 7 = μ.1 23 7) ∧ (μ'.1 23 8 = μ.1 23 8) ∧ (μ'.1 23 9 = μ.1 23 9) ∧ (μ'.1 23 10 = μ.1 23 10) ∧ (μ'.1 26 6 = μ.1 26 6) ∧ (μ'.1 P 7 = μ.1 P 7)) := by
  refine CtV.go (by decide) (Nat.le_of_ble_eq_true rfl) (fun ρ p e s m below meth c R ls G hR hret hlk hl => ?_)
  have hx := G.1.1
  have hb := G.1.2.1
  have hl : lv_has ls 6 [(0, .ref (oP ω 23))] := hl
  generalize s.drawn = d0 at G ⊢
  have hTKb := hTK.b
  have hprP : isPr P := by have h9 := G.sr0.2.2.2.2.2; rw [← hP] at h9; exact h9
  have hprP_d : 13 ≤ P ∧ P ≤ 101 := by rcases hprP with h9 | h9 | h9 | h9 | h9 <;> omega
  have hk_1 := hI.pr (p := P) hprP
  unfold pk at hk_1
  have hc_2 : 16 ≤ μ.2.1 (P + 1) ∧ μ.2.1 (P + 1) ≤ 73024 := hI.rm.1 _ hprP.cap
  have hnil : μ.1 26 11 = 0 → PXE μ μ P tt 0 (-1) 1 := fun _ => PXE.nil (by omega)
  refine lv_aload_n hx hb dX7_number_0 rfl (lv_at hl 0 rfl) ?_
  refine xa_geti G fd_X7 (a := 23) (x := tt) 8 rfl (by decide) rfl (wm 2 25 rfl rfl) ⟨rfl, rfl, rfl⟩ dX7_number_1 rfl htt.symm ?_
  have hr_3 : -2147483648 ≤ tt ∧ tt ≤ 2147483647 := by have h9 := G.hr (a := 23) (k := 8) rfl; rw [show μ.1 23 8 = tt from htt.symm] at h9; exact h9
  refine lv_iconst (v := iv 3) hx hb dX7_number_4 rfl ?_
  refine xb_icmp_ne (tgt := 12) hx hb (by unfold ir; omega) (by unfold ir; omega) dX7_number_5 (by decide) (fun c_5 => ?_) (fun c_5 => ?_)
  · refine lv_iconst (v := iv 0) hx hb dX7_number_12 rfl ?_
    refine lv_istore_n (lv' := [(1, .int (iv 0)), (0, .ref (oP ω 23))]) hx hb dX7_number_13 rfl hl (by decide) rfl (fun ls hl => ?_)
    refine lv_iload_n hx hb dX7_number_14 rfl (lv_at hl 0 rfl) ?_
    refine xb_if_eq (tgt := 22) hx hb (x := 0) (by unfold ir; omega) dX7_number_15 (by decide) (fun c_15 => ?_) (fun c_15 => absurd (by decide) c_15)
    refine lv_aload_n hx hb dX7_number_22 rfl (lv_at hl 1 rfl) ?_
    refine xa_getr G fd_X7 (a := 23) (x := 26) 0 rfl (by decide) rfl (wm 2 17 rfl rfl) ⟨rfl, rfl, rfl⟩ dX7_number_23 rfl (G.sk 23 rfl) (by decide) rfl ?_
    refine xa_getN G fd_X10 (host := "FourTongues") (a := 26) 14 rfl (by decide) (by decide) ⟨rfl, rfl, rfl⟩ dX7_number_26 rfl (v := .long (jv (μ.1 26 14))) (by rw [show μ.1 26 14 = μ.1 26 14 from rfl]; rfl) ?_
    have hj_4 : jr (μ.1 26 14) := by have h9 := G.hj (a := 26) (k := 14) rfl; exact h9
    refine lv_lstore_n (lv' := [(2, .long (jv (μ.1 26 14))), (1, .int (iv 0)), (0, .ref (oP ω 23))]) hx hb dX7_number_29 rfl hl (by decide) rfl (fun ls hl => ?_)
    refine lv_iload_n hx hb dX7_number_30 rfl (lv_at hl 1 rfl) ?_
    refine xb_if_eq (tgt := 44) hx hb (x := 0) (by unfold ir; omega) dX7_number_31 (by decide) (fun c_31 => ?_) (fun c_31 => absurd (by decide) c_31)
    refine lv_dconst0 hx hb dX7_number_44 ?_
    refine xb_topd (fun dd_5 he_dd_5 => ?_)
    refine lv_dstore (lv' := [(4, .double (dv dd_5)), (2, .long (jv (μ.1 26 14))), (1, .int (iv 0)), (0, .ref (oP ω 23))]) hx hb dX7_number_45 hl (by decide) rfl (fun ls hl => ?_)
    refine lv_aload_n hx hb dX7_number_47 rfl (lv_at hl 3 rfl) ?_
    refine lv_iconst (v := iv 2) hx hb dX7_number_48 rfl ?_
    refine lv_aload_n hx hb dX7_number_49 rfl (lv_at hl 3 rfl) ?_
    refine xa_getr G fd_X7 (a := 23) (x := P) 2 rfl (by decide) rfl (wm 2 19 rfl rfl) ⟨rfl, rfl, rfl⟩ dX7_number_50 rfl hP.symm (by omega) (hprP.hq ω ρ) ?_
    refine lv_iconst (v := iv 1) hx hb dX7_number_53 rfl ?_
    refine lv_lload_n hx hb dX7_number_54 rfl (lv_at hl 1 rfl) ?_
    refine lv_dload hx hb dX7_number_55 (lv_at hl 0 rfl) ?_
    have hk_6 := hI.row (r := P + 2) (hprP.row)
    unfold rk at hk_6
    refine xc_iV G (b := P) (rest := [.int (iv 2), .ref (oP ω 23)]) (As := [.int (iv 1), .long (jv (μ.1 26 14)), .double (dv dd_5)]) (c_X8_addConstant ω l μ P 1 (μ.1 26 14) dd_5 (μ.1 (P + 2) 3) hprP (by unfold ir; omega) hj_4 hI (by omega) (by omega)) (wm 4 67 rfl rfl) (wm 4 68 rfl rfl) (wm 4 69 rfl rfl) hprP.ly rfl (by decide) (hprP.hq ω ρ) (wm 1 9 rfl rfl) (wm 4 70 rfl rfl) (by decide) hR ⟨nfr hF (by decide), nlo hLo (by decide)⟩ (n := 3) rfl rfl (Nat.le_of_ble_eq_true rfl) hl.1 dX7_number_57 (fun r_8 μ7 ρ d0 H locs hr_r_8 hp G => ?_)
    have hr_r_8 : -2147483648 ≤ r_8 ∧ r_8 ≤ 2147483647 := hr_r_8
    obtain ⟨F_9, hI_10, hp_11, hp_12⟩ := hp
    have hk_13 := hI_10.row (r := P + 2) (hprP.row)
    unfold rk at hk_13
    refine lv_iconst (v := iv 0) hx hb dX7_number_60 rfl ?_
    have hpx_14 : μ7.1 26 11 = 0 → PXE μ μ7 P tt 0 (-1) 1 := fun h0 => (hnil (by have h9 : μ.1 26 11 = μ.1 26 11 := rfl; have h8 : μ7.1 26 11 = μ.1 26 11 := (F_9.1 26 (ni hprP (fun P => 26) (fun P => [P + 2, (P + 2) + 1, (P + 2) + 2, (P + 2) + 3]) rfl) 11); omega)).fr (K := [P + 2, (P + 2) + 1, (P + 2) + 2, (P + 2) + 3]) (Fr.tr Fr.rf F_9 (si hprP (fun P => [P + 2, (P + 2) + 1, (P + 2) + 2, (P + 2) + 3]) (fun P => [P + 2, (P + 2) + 1, (P + 2) + 2, (P + 2) + 3]) rfl)) (ni hprP (fun P => P) (fun P => [P + 2, (P + 2) + 1, (P + 2) + 2, (P + 2) + 3]) rfl) (ni hprP (fun P => P + 1) (fun P => [P + 2, (P + 2) + 1, (P + 2) + 2, (P + 2) + 3]) rfl)
    have e_15 : μ7.1 23 2 = P := ((F_9.1 23 (ni hprP (fun P => 23) (fun P => [P + 2, (P + 2) + 1, (P + 2) + 2, (P + 2) + 3]) rfl) 2).trans hP.symm)
    have e_16 : μ7.1 P 1 = μ.1 P 1 := (F_9.1 P (ni hprP (fun P => P) (fun P => [P + 2, (P + 2) + 1, (P + 2) + 2, (P + 2) + 3]) rfl) 1)
    have e_17 : μ7.1 P 1 = μ.1 P 1 := (F_9.1 P (ni hprP (fun P => P) (fun P => [P + 2, (P + 2) + 1, (P + 2) + 2, (P + 2) + 3]) rfl) 1)
    have e_18 : μ7.1 P 1 = μ.1 P 1 := (F_9.1 P (ni hprP (fun P => P) (fun P => [P + 2, (P + 2) + 1, (P + 2) + 2, (P + 2) + 3]) rfl) 1)
    refine xc_iV G (b := 23) (rest := []) (As := [.int (iv 2), .int (iv r_8), .int (iv 0)]) (c_X7_add ω l μ7 2 r_8 0 P (by unfold ir; omega) (by unfold ir; omega) (by unfold ir; omega) hI_10 (by omega) (by omega)) (wm 3 226 rfl rfl) (wm 3 228 rfl rfl) (wm 0 21 rfl rfl) rfl rfl (by decide) rfl (wm 1 12 rfl rfl) (wm 3 229 rfl rfl) (by decide) hR ⟨nfr hF (by decide), nlo hLo (by decide)⟩ (n := 3) rfl rfl (Nat.le_of_ble_eq_true rfl) hl.1 dX7_number_61 (fun r_20 μ19 ρ d0 H locs hr_r_20 hp G => ?_)
    have hr_r_20 : -2147483648 ≤ r_20 ∧ r_20 ≤ 2147483647 := hr_r_20
    obtain ⟨F_21, hI_22, hp_23, hp_24, hs_25, hs_26⟩ := hp
    have hpx_27 : μ19.1 26 11 = 0 → PXE μ μ19 P tt 1 (-1) 1 := fun h0 => (PXE.app (hpx_14 (by have h9 : μ7.1 26 11 = μ.1 26 11 := (F_9.1 26 (ni hprP (fun P => 26) (fun P => [P + 2, (P + 2) + 1, (P + 2) + 2, (P + 2) + 3]) rfl) 11); have h8 : μ19.1 26 11 = μ.1 26 11 := ((F_21.1 26 (ni hprP (fun P => 26) (fun P => [P, P + 1]) rfl) 11).trans (F_9.1 26 (ni hprP (fun P => 26) (fun P => [P + 2, (P + 2) + 1, (P + 2) + 2, (P + 2) + 3]) rfl) 11)); omega)) (EX.pl hp_24 (by omega) (by unfold plain; omega) (e := 1) rfl (by have h9 := hs_1 (μ := μ7) (P := P) (i := μ7.1 P 1); omega))).e (by omega)
    refine lv_pop hx hb dX7_number_64 rfl ?_
    refine lv_aload_n hx hb dX7_number_65 rfl (lv_at hl 3 rfl) ?_
    refine xa_getr G fd_X7 (a := 23) (x := 26) 0 rfl (by decide) rfl (wm 2 17 rfl rfl) ⟨rfl, rfl, rfl⟩ dX7_number_66 rfl (G.sk 23 rfl) (by decide) rfl ?_
    have htk_28 : TK μ19 := hTK.fr (K := [P, P + 1, P + 2, (P + 2) + 1, (P + 2) + 2, (P + 2) + 3]) (Fr.tr (Fr.tr Fr.rf F_9 (si hprP (fun P => [P + 2, (P + 2) + 1, (P + 2) + 2, (P + 2) + 3]) (fun P => [P, P + 1, P + 2, (P + 2) + 1, (P + 2) + 2, (P + 2) + 3]) rfl)) F_21 (si hprP (fun P => [P, P + 1]) (fun P => [P, P + 1, P + 2, (P + 2) + 1, (P + 2) + 2, (P + 2) + 3]) rfl)) (ni hprP (fun P => 26) (fun P => [P, P + 1, P + 2, (P + 2) + 1, (P + 2) + 2, (P + 2) + 3]) rfl) (ni hprP (fun P => 28) (fun P => [P, P + 1, P + 2, (P + 2) + 1, (P + 2) + 2, (P + 2) + 3]) rfl) (ni hprP (fun P => 29) (fun P => [P, P + 1, P + 2, (P + 2) + 1, (P + 2) + 2, (P + 2) + 3]) rfl)
    have hn_29 : 0 ≤ μ.1 26 6 ∧ μ.1 26 6 ≤ 3001 := hI.nm.2.2.2.2.2.2.2.2.2.1
    have e_30 : μ19.1 26 6 = μ.1 26 6 := ((F_21.1 26 (ni hprP (fun P => 26) (fun P => [P, P + 1]) rfl) 6).trans (F_9.1 26 (ni hprP (fun P => 26) (fun P => [P + 2, (P + 2) + 1, (P + 2) + 2, (P + 2) + 3]) rfl) 6))
    have hn_31 : -1 ≤ μ.1 26 10 ∧ μ.1 26 10 ≤ 3000 := hI.nm.2.2.2.2.2.2.2.2.2.2.2.2
    have e_32 : μ19.1 26 10 = μ.1 26 10 := ((F_21.1 26 (ni hprP (fun P => 26) (fun P => [P, P + 1]) rfl) 10).trans (F_9.1 26 (ni hprP (fun P => 26) (fun P => [P + 2, (P + 2) + 1, (P + 2) + 2, (P + 2) + 3]) rfl) 10))
    have e_33 : μ19.1 26 11 = μ.1 26 11 := ((F_21.1 26 (ni hprP (fun P => 26) (fun P => [P, P + 1]) rfl) 11).trans (F_9.1 26 (ni hprP (fun P => 26) (fun P => [P + 2, (P + 2) + 1, (P + 2) + 2, (P + 2) + 3]) rfl) 11))
    have e_34 : μ19.1 26 10 = μ.1 26 10 := ((F_21.1 26 (ni hprP (fun P => 26) (fun P => [P, P + 1]) rfl) 10).trans (F_9.1 26 (ni hprP (fun P => 26) (fun P => [P + 2, (P + 2) + 1, (P + 2) + 2, (P + 2) + 3]) rfl) 10))
    have e_35 : μ19.1 26 12 = μ.1 26 12 := ((F_21.1 26 (ni hprP (fun P => 26) (fun P => [P, P + 1]) rfl) 12).trans (F_9.1 26 (ni hprP (fun P => 26) (fun P => [P + 2, (P + 2) + 1, (P + 2) + 2, (P + 2) + 3]) rfl) 12))
    have e_36 : μ19.1 26 11 = μ.1 26 11 := ((F_21.1 26 (ni hprP (fun P => 26) (fun P => [P, P + 1]) rfl) 11).trans (F_9.1 26 (ni hprP (fun P => 26) (fun P => [P + 2, (P + 2) + 1, (P + 2) + 2, (P + 2) + 3]) rfl) 11))
    have e_37 : μ19.1 26 10 = μ.1 26 10 := ((F_21.1 26 (ni hprP (fun P => 26) (fun P => [P, P + 1]) rfl) 10).trans (F_9.1 26 (ni hprP (fun P => 26) (fun P => [P + 2, (P + 2) + 1, (P + 2) + 2, (P + 2) + 3]) rfl) 10))
    have e_38 : μ19.1 26 6 = μ.1 26 6 := ((F_21.1 26 (ni hprP (fun P => 26) (fun P => [P, P + 1]) rfl) 6).trans (F_9.1 26 (ni hprP (fun P => 26) (fun P => [P + 2, (P + 2) + 1, (P + 2) + 2, (P + 2) + 3]) rfl) 6))
    have e_39 : μ19.1 26 10 = μ.1 26 10 := ((F_21.1 26 (ni hprP (fun P => 26) (fun P => [P, P + 1]) rfl) 10).trans (F_9.1 26 (ni hprP (fun P => 26) (fun P => [P + 2, (P + 2) + 1, (P + 2) + 2, (P + 2) + 3]) rfl) 10))
    have e_40 : μ19.1 26 6 = μ.1 26 6 := ((F_21.1 26 (ni hprP (fun P => 26) (fun P => [P, P + 1]) rfl) 6).trans (F_9.1 26 (ni hprP (fun P => 26) (fun P => [P + 2, (P + 2) + 1, (P + 2) + 2, (P + 2) + 3]) rfl) 6))
    have e_41 : μ19.1 26 10 = μ.1 26 10 := ((F_21.1 26 (ni hprP (fun P => 26) (fun P => [P, P + 1]) rfl) 10).trans (F_9.1 26 (ni hprP (fun P => 26) (fun P => [P + 2, (P + 2) + 1, (P + 2) + 2, (P + 2) + 3]) rfl) 10))
    have e_42 : μ19.1 26 10 = μ.1 26 10 := ((F_21.1 26 (ni hprP (fun P => 26) (fun P => [P, P + 1]) rfl) 10).trans (F_9.1 26 (ni hprP (fun P => 26) (fun P => [P + 2, (P + 2) + 1, (P + 2) + 2, (P + 2) + 3]) rfl) 10))
    have e_43 : μ19.1 26 11 = μ.1 26 11 := ((F_21.1 26 (ni hprP (fun P => 26) (fun P => [P, P + 1]) rfl) 11).trans (F_9.1 26 (ni hprP (fun P => 26) (fun P => [P + 2, (P + 2) + 1, (P + 2) + 2, (P + 2) + 3]) rfl) 11))
    have e_44 : μ19.1 26 13 = μ.1 26 13 := ((F_21.1 26 (ni hprP (fun P => 26) (fun P => [P, P + 1]) rfl) 13).trans (F_9.1 26 (ni hprP (fun P => 26) (fun P => [P + 2, (P + 2) + 1, (P + 2) + 2, (P + 2) + 3]) rfl) 13))
    have e_45 : μ19.1 26 11 = μ.1 26 11 := ((F_21.1 26 (ni hprP (fun P => 26) (fun P => [P, P + 1]) rfl) 11).trans (F_9.1 26 (ni hprP (fun P => 26) (fun P => [P + 2, (P + 2) + 1, (P + 2) + 2, (P + 2) + 3]) rfl) 11))
    refine xc_vV G (b := 26) (rest := []) (As := []) (c_X10_next ω l μ19  hI_22 (by omega) (by omega)) (wm 3 164 rfl rfl) (wm 3 157 rfl rfl) (wm 3 158 rfl rfl) rfl rfl (by decide) rfl (wm 1 13 rfl rfl) (wm 3 159 rfl rfl) (by decide) hR ⟨nfr hF (by decide), nlo hLo (by decide)⟩ (n := 0) rfl rfl (Nat.le_of_ble_eq_true rfl) hl.1 dX7_number_69 (fun μ46 ρ d0 H locs hp G => ?_)
    obtain ⟨F_47, hI_48, hp_49, hp_50, hs_51, hs_52, hs_53, hs_54, hs_55⟩ := hp
    have hn_56 : -1 ≤ μ46.1 26 10 ∧ μ46.1 26 10 ≤ 3000 := hI_48.nm.2.2.2.2.2.2.2.2.2.2.2.2
    obtain ⟨htk_57, htk_57_s, htk_57_n⟩ := TK.nx htk_28 F_47 (((hs_52.trans ((F_21.1 26 (ni hprP (fun P => 26) (fun P => [P, P + 1]) rfl) 6).trans (F_9.1 26 (ni hprP (fun P => 26) (fun P => [P + 2, (P + 2) + 1, (P + 2) + 2, (P + 2) + 3]) rfl) 6)))).trans (((F_21.1 26 (ni hprP (fun P => 26) (fun P => [P, P + 1]) rfl) 6).trans (F_9.1 26 (ni hprP (fun P => 26) (fun P => [P + 2, (P + 2) + 1, (P + 2) + 2, (P + 2) + 3]) rfl) 6))).symm) (((hs_51.trans ((F_21.1 26 (ni hprP (fun P => 26) (fun P => [P, P + 1]) rfl) 11).trans (F_9.1 26 (ni hprP (fun P => 26) (fun P => [P + 2, (P + 2) + 1, (P + 2) + 2, (P + 2) + 3]) rfl) 11)))).trans (((F_21.1 26 (ni hprP (fun P => 26) (fun P => [P, P + 1]) rfl) 11).trans (F_9.1 26 (ni hprP (fun P => 26) (fun P => [P + 2, (P + 2) + 1, (P + 2) + 2, (P + 2) + 3]) rfl) 11))).symm) (by have h9 : μ19.1 26 12 = μ.1 26 12 := ((F_21.1 26 (ni hprP (fun P => 26) (fun P => [P, P + 1]) rfl) 12).trans (F_9.1 26 (ni hprP (fun P => 26) (fun P => [P + 2, (P + 2) + 1, (P + 2) + 2, (P + 2) + 3]) rfl) 12)); omega) hp_49 hp_50
    clear hp_49 hp_50
    have e_58 : μ19.1 26 11 = μ.1 26 11 := ((F_21.1 26 (ni hprP (fun P => 26) (fun P => [P, P + 1]) rfl) 11).trans (F_9.1 26 (ni hprP (fun P => 26) (fun P => [P + 2, (P + 2) + 1, (P + 2) + 2, (P + 2) + 3]) rfl) 11))
    have e_59 : μ19.1 26 10 = μ.1 26 10 := ((F_21.1 26 (ni hprP (fun P => 26) (fun P => [P, P + 1]) rfl) 10).trans (F_9.1 26 (ni hprP (fun P => 26) (fun P => [P + 2, (P + 2) + 1, (P + 2) + 2, (P + 2) + 3]) rfl) 10))
    have htb_60 := htk_57.b
    have hpx_61 : μ46.1 26 11 = 0 → PXE μ μ46 P tt 1 (-1) 1 := fun h0 => (hpx_27 (by have h9 : μ19.1 26 11 = μ.1 26 11 := ((F_21.1 26 (ni hprP (fun P => 26) (fun P => [P, P + 1]) rfl) 11).trans (F_9.1 26 (ni hprP (fun P => 26) (fun P => [P + 2, (P + 2) + 1, (P + 2) + 2, (P + 2) + 3]) rfl) 11)); have h8 : μ46.1 26 11 = μ.1 26 11 := (hs_51.trans ((F_21.1 26 (ni hprP (fun P => 26) (fun P => [P, P + 1]) rfl) 11).trans (F_9.1 26 (ni hprP (fun P => 26) (fun P => [P + 2, (P + 2) + 1, (P + 2) + 2, (P + 2) + 3]) rfl) 11))); omega)).fr (K := [26]) (Fr.tr Fr.rf F_47 (by decide)) (npL_p (L := [26]) (by decide) hprP).1 (npL_p (L := [26]) (by decide) hprP).2.1
    have e_62 : μ46.1 26 11 = μ.1 26 11 := (hs_51.trans ((F_21.1 26 (ni hprP (fun P => 26) (fun P => [P, P + 1]) rfl) 11).trans (F_9.1 26 (ni hprP (fun P => 26) (fun P => [P + 2, (P + 2) + 1, (P + 2) + 2, (P + 2) + 3]) rfl) 11)))
    have e_63 : μ46.1 26 11 = μ.1 26 11 := (hs_51.trans ((F_21.1 26 (ni hprP (fun P => 26) (fun P => [P, P + 1]) rfl) 11).trans (F_9.1 26 (ni hprP (fun P => 26) (fun P => [P + 2, (P + 2) + 1, (P + 2) + 2, (P + 2) + 3]) rfl) 11)))
    have e_64 : μ46.1 P 1 = μ7.1 P 1 + 1 := ((F_47.1 P (ni hprP (fun P => P) (fun P => [26]) rfl) 1).trans hs_25)
    have e_65 : μ46.1 P 1 = μ7.1 P 1 + 1 := ((F_47.1 P (ni hprP (fun P => P) (fun P => [26]) rfl) 1).trans hs_25)
    have e_66 : μ46.1 26 11 = μ.1 26 11 := (hs_51.trans ((F_21.1 26 (ni hprP (fun P => 26) (fun P => [P, P + 1]) rfl) 11).trans (F_9.1 26 (ni hprP (fun P => 26) (fun P => [P + 2, (P + 2) + 1, (P + 2) + 2, (P + 2) + 3]) rfl) 11)))
    have e_67 : μ46.1 (P + 2) 3 = μ7.1 (P + 2) 3 := ((F_47.1 (P + 2) (ni hprP (fun P => P + 2) (fun P => [26]) rfl) 3).trans (F_21.1 (P + 2) (ni hprP (fun P => P + 2) (fun P => [P, P + 1]) rfl) 3))
    have e_68 : μ46.1 P 1 = μ7.1 P 1 + 1 := ((F_47.1 P (ni hprP (fun P => P) (fun P => [26]) rfl) 1).trans hs_25)
    have e_69 : μ46.1 (P + 2) 3 = μ7.1 (P + 2) 3 := ((F_47.1 (P + 2) (ni hprP (fun P => P + 2) (fun P => [26]) rfl) 3).trans (F_21.1 (P + 2) (ni hprP (fun P => P + 2) (fun P => [P, P + 1]) rfl) 3))
    exact xr_v G hret hlk dX7_number_72 ⟨(Fr.tr (Fr.tr (Fr.tr Fr.rf F_9 (si hprP (fun P => [P + 2, (P + 2) + 1, (P + 2) + 2, (P + 2) + 3]) (fun P => [2, 3, 4, 23, 24, 26, P, P + 1, P + 2, (P + 2) + 1, (P + 2) + 2, (P + 2) + 3]) rfl)) F_21 (si hprP (fun P => [P, P + 1]) (fun P => [2, 3, 4, 23, 24, 26, P, P + 1, P + 2, (P + 2) + 1, (P + 2) + 2, (P + 2) + 3]) rfl)) F_47 (si hprP (fun P => [26]) (fun P => [2, 3, 4, 23, 24, 26, P, P + 1, P + 2, (P + 2) + 1, (P + 2) + 2, (P + 2) + 3]) rfl)), hI_48, htk_57, (by omega), (by omega), (by omega), (by omega), (fun h0 => (PXE.ex (hpx_61 h0)).e (by omega)), (((F_47.1 23 (by decide) 2).trans ((F_21.1 23 (ni hprP (fun P => 23) (fun P => [P, P + 1]) rfl) 2).trans ((F_9.1 23 (ni hprP (fun P => 23) (fun P => [P + 2, (P + 2) + 1, (P + 2) + 2, (P + 2) + 3]) rfl) 2).trans hP.symm)))).trans hP, ((F_47.1 23 (by decide) 5).trans ((F_21.1 23 (ni hprP (fun P => 23) (fun P => [P, P + 1]) rfl) 5).trans (F_9.1 23 (ni hprP (fun P => 23) (fun P => [P + 2, (P + 2) + 1, (P + 2) + 2, (P + 2) + 3]) rfl) 5))), ((F_47.1 23 (by decide) 6).trans ((F_21.1 23 (ni hprP (fun P => 23) (fun P => [P, P + 1]) rfl) 6).trans (F_9.1 23 (ni hprP (fun P => 23) (fun P => [P + 2, (P + 2) + 1, (P + 2) + 2, (P + 2) + 3]) rfl) 6))), ((F_47.1 23 (by decide) 7).trans ((F_21.1 23 (ni hprP (fun P => 23) (fun P => [P, P + 1]) rfl) 7).trans (F_9.1 23 (ni hprP (fun P => 23) (fun P => [P + 2, (P + 2) + 1, (P + 2) + 2, (P + 2) + 3]) rfl) 7))), (((F_47.1 23 (by decide) 8).trans ((F_21.1 23 (ni hprP (fun P => 23) (fun P => [P, P + 1]) rfl) 8).trans ((F_9.1 23 (ni hprP (fun P => 23) (fun P => [P + 2, (P + 2) + 1, (P + 2) + 2, (P + 2) + 3]) rfl) 8).trans htt.symm)))).trans htt, ((F_47.1 23 (by decide) 9).trans ((F_21.1 23 (ni hprP (fun P => 23) (fun P => [P, P + 1]) rfl) 9).trans (F_9.1 23 (ni hprP (fun P => 23) (fun P => [P + 2, (P + 2) + 1, (P + 2) + 2, (P + 2) + 3]) rfl) 9))), ((F_47.1 23 (by decide) 10).trans ((F_21.1 23 (ni hprP (fun P => 23) (fun P => [P, P + 1]) rfl) 10).trans (F_9.1 23 (ni hprP (fun P => 23) (fun P => [P + 2, (P + 2) + 1, (P + 2) + 2, (P + 2) + 3]) rfl) 10))), (hs_52.trans ((F_21.1 26 (ni hprP (fun P => 26) (fun P => [P, P + 1]) rfl) 6).trans (F_9.1 26 (ni hprP (fun P => 26) (fun P => [P + 2, (P + 2) + 1, (P + 2) + 2, (P + 2) + 3]) rfl) 6))), ((F_47.1 P (ni hprP (fun P => P) (fun P => [26]) rfl) 7).trans (hs_26.trans (F_9.1 P (ni hprP (fun P => P) (fun P => [P + 2, (P + 2) + 1, (P + 2) + 2, (P + 2) + 3]) rfl) 7)))⟩
  · refine lv_iconst (v := iv 1) hx hb dX7_number_8 rfl ?_
    refine lv_goto (tgt := 13) hx hb dX7_number_9 (by decide) ?_
    refine lv_istore_n (lv' := [(1, .int (iv 1)), (0, .ref (oP ω 23))]) hx hb dX7_number_13 rfl hl (by decide) rfl (fun ls hl => ?_)
    refine lv_iload_n hx hb dX7_number_14 rfl (lv_at hl 0 rfl) ?_
    refine xb_if_eq (tgt := 22) hx hb (x := 1) (by unfold ir; omega) dX7_number_15 (by decide) (fun c_15 => absurd c_15 (by decide)) (fun c_15 => ?_)
    refine lv_lconst (v := jv 0) hx hb dX7_number_18 rfl ?_
    refine lv_goto (tgt := 29) hx hb dX7_number_19 (by decide) ?_
    refine lv_lstore_n (lv' := [(2, .long (jv 0)), (1, .int (iv 1)), (0, .ref (oP ω 23))]) hx hb dX7_number_29 rfl hl (by decide) rfl (fun ls hl => ?_)
    refine lv_iload_n hx hb dX7_number_30 rfl (lv_at hl 1 rfl) ?_
    refine xb_if_eq (tgt := 44) hx hb (x := 1) (by unfold ir; omega) dX7_number_31 (by decide) (fun c_31 => absurd c_31 (by decide)) (fun c_31 => ?_)
    refine lv_aload_n hx hb dX7_number_34 rfl (lv_at hl 2 rfl) ?_
    refine xa_getr G fd_X7 (a := 23) (x := 26) 0 rfl (by decide) rfl (wm 2 17 rfl rfl) ⟨rfl, rfl, rfl⟩ dX7_number_35 rfl (G.sk 23 rfl) (by decide) rfl ?_
    refine xa_getN G fd_X10 (host := "FourTongues") (a := 26) 15 rfl (by decide) (by decide) ⟨rfl, rfl, rfl⟩ dX7_number_38 rfl (v := .double (dv (μ.1 26 15))) (by rw [show μ.1 26 15 = μ.1 26 15 from rfl]; rfl) ?_
    refine lv_goto (tgt := 45) hx hb dX7_number_41 (by decide) ?_
    refine lv_dstore (lv' := [(4, .double (dv (μ.1 26 15))), (2, .long (jv 0)), (1, .int (iv 1)), (0, .ref (oP ω 23))]) hx hb dX7_number_45 hl (by decide) rfl (fun ls hl => ?_)
    refine lv_aload_n hx hb dX7_number_47 rfl (lv_at hl 3 rfl) ?_
    refine lv_iconst (v := iv 2) hx hb dX7_number_48 rfl ?_
    refine lv_aload_n hx hb dX7_number_49 rfl (lv_at hl 3 rfl) ?_
    refine xa_getr G fd_X7 (a := 23) (x := P) 2 rfl (by decide) rfl (wm 2 19 rfl rfl) ⟨rfl, rfl, rfl⟩ dX7_number_50 rfl hP.symm (by omega) (hprP.hq ω ρ) ?_
    refine lv_iconst (v := iv 1) hx hb dX7_number_53 rfl ?_
    refine lv_lload_n hx hb dX7_number_54 rfl (lv_at hl 1 rfl) ?_
    refine lv_dload hx hb dX7_number_55 (lv_at hl 0 rfl) ?_
    have hk_70 := hI.row (r := P + 2) (hprP.row)
    unfold rk at hk_70
    refine xc_iV G (b := P) (rest := [.int (iv 2), .ref (oP ω 23)]) (As := [.int (iv 1), .long (jv 0), .double (dv (μ.1 26 15))]) (c_X8_addConstant ω l μ P 1 0 (μ.1 26 15) (μ.1 (P + 2) 3) hprP (by unfold ir; omega) (by unfold jr; omega) hI (by omega) (by omega)) (wm 4 67 rfl rfl) (wm 4 68 rfl rfl) (wm 4 69 rfl rfl) hprP.ly rfl (by decide) (hprP.hq ω ρ) (wm 1 9 rfl rfl) (wm 4 70 rfl rfl) (by decide) hR ⟨nfr hF (by decide), nlo hLo (by decide)⟩ (n := 3) rfl rfl (Nat.le_of_ble_eq_true rfl) hl.1 dX7_number_57 (fun r_72 μ71 ρ d0 H locs hr_r_72 hp G => ?_)
    have hr_r_72 : -2147483648 ≤ r_72 ∧ r_72 ≤ 2147483647 := hr_r_72
    obtain ⟨F_73, hI_74, hp_75, hp_76⟩ := hp
    have hk_77 := hI_74.row (r := P + 2) (hprP.row)
    unfold rk at hk_77
    refine lv_iconst (v := iv 0) hx hb dX7_number_60 rfl ?_
    have hpx_78 : μ71.1 26 11 = 0 → PXE μ μ71 P tt 0 (-1) 1 := fun h0 => (hnil (by have h9 : μ.1 26 11 = μ.1 26 11 := rfl; have h8 : μ71.1 26 11 = μ.1 26 11 := (F_73.1 26 (ni hprP (fun P => 26) (fun P => [P + 2, (P + 2) + 1, (P + 2) + 2, (P + 2) + 3]) rfl) 11); omega)).fr (K := [P + 2, (P + 2) + 1, (P + 2) + 2, (P + 2) + 3]) (Fr.tr Fr.rf F_73 (si hprP (fun P => [P + 2, (P + 2) + 1, (P + 2) + 2, (P + 2) + 3]) (fun P => [P + 2, (P + 2) + 1, (P + 2) + 2, (P + 2) + 3]) rfl)) (ni hprP (fun P => P) (fun P => [P + 2, (P + 2) + 1, (P + 2) + 2, (P + 2) + 3]) rfl) (ni hprP (fun P => P + 1) (fun P => [P + 2, (P + 2) + 1, (P + 2) + 2, (P + 2) + 3]) rfl)
    have e_79 : μ71.1 23 2 = P := ((F_73.1 23 (ni hprP (fun P => 23) (fun P => [P + 2, (P + 2) + 1, (P + 2) + 2, (P + 2) + 3]) rfl) 2).trans hP.symm)
    have e_80 : μ71.1 P 1 = μ.1 P 1 := (F_73.1 P (ni hprP (fun P => P) (fun P => [P + 2, (P + 2) + 1, (P + 2) + 2, (P + 2) + 3]) rfl) 1)
    have e_81 : μ71.1 P 1 = μ.1 P 1 := (F_73.1 P (ni hprP (fun P => P) (fun P => [P + 2, (P + 2) + 1, (P + 2) + 2, (P + 2) + 3]) rfl) 1)
    have e_82 : μ71.1 P 1 = μ.1 P 1 := (F_73.1 P (ni hprP (fun P => P) (fun P => [P + 2, (P + 2) + 1, (P + 2) + 2, (P + 2) + 3]) rfl) 1)
    refine xc_iV G (b := 23) (rest := []) (As := [.int (iv 2), .int (iv r_72), .int (iv 0)]) (c_X7_add ω l μ71 2 r_72 0 P (by unfold ir; omega) (by unfold ir; omega) (by unfold ir; omega) hI_74 (by omega) (by omega)) (wm 3 226 rfl rfl) (wm 3 228 rfl rfl) (wm 0 21 rfl rfl) rfl rfl (by decide) rfl (wm 1 12 rfl rfl) (wm 3 229 rfl rfl) (by decide) hR ⟨nfr hF (by decide), nlo hLo (by decide)⟩ (n := 3) rfl rfl (Nat.le_of_ble_eq_true rfl) hl.1 dX7_number_61 (fun r_84 μ83 ρ d0 H locs hr_r_84 hp G => ?_)
    have hr_r_84 : -2147483648 ≤ r_84 ∧ r_84 ≤ 2147483647 := hr_r_84
    obtain ⟨F_85, hI_86, hp_87, hp_88, hs_89, hs_90⟩ := hp
    have hpx_91 : μ83.1 26 11 = 0 → PXE μ μ83 P tt 1 (-1) 1 := fun h0 => (PXE.app (hpx_78 (by have h9 : μ71.1 26 11 = μ.1 26 11 := (F_73.1 26 (ni hprP (fun P => 26) (fun P => [P + 2, (P + 2) + 1, (P + 2) + 2, (P + 2) + 3]) rfl) 11); have h8 : μ83.1 26 11 = μ.1 26 11 := ((F_85.1 26 (ni hprP (fun P => 26) (fun P => [P, P + 1]) rfl) 11).trans (F_73.1 26 (ni hprP (fun P => 26) (fun P => [P + 2, (P + 2) + 1, (P + 2) + 2, (P + 2) + 3]) rfl) 11)); omega)) (EX.pl hp_88 (by omega) (by unfold plain; omega) (e := 1) rfl (by have h9 := hs_1 (μ := μ71) (P := P) (i := μ71.1 P 1); omega))).e (by omega)
    refine lv_pop hx hb dX7_number_64 rfl ?_
    refine lv_aload_n hx hb dX7_number_65 rfl (lv_at hl 3 rfl) ?_
    refine xa_getr G fd_X7 (a := 23) (x := 26) 0 rfl (by decide) rfl (wm 2 17 rfl rfl) ⟨rfl, rfl, rfl⟩ dX7_number_66 rfl (G.sk 23 rfl) (by decide) rfl ?_
    have htk_92 : TK μ83 := hTK.fr (K := [P, P + 1, P + 2, (P + 2) + 1, (P + 2) + 2, (P + 2) + 3]) (Fr.tr (Fr.tr Fr.rf F_73 (si hprP (fun P => [P + 2, (P + 2) + 1, (P + 2) + 2, (P + 2) + 3]) (fun P => [P, P + 1, P + 2, (P + 2) + 1, (P + 2) + 2, (P + 2) + 3]) rfl)) F_85 (si hprP (fun P => [P, P + 1]) (fun P => [P, P + 1, P + 2, (P + 2) + 1, (P + 2) + 2, (P + 2) + 3]) rfl)) (ni hprP (fun P => 26) (fun P => [P, P + 1, P + 2, (P + 2) + 1, (P + 2) + 2, (P + 2) + 3]) rfl) (ni hprP (fun P => 28) (fun P => [P, P + 1, P + 2, (P + 2) + 1, (P + 2) + 2, (P + 2) + 3]) rfl) (ni hprP (fun P => 29) (fun P => [P, P + 1, P + 2, (P + 2) + 1, (P + 2) + 2, (P + 2) + 3]) rfl)
    have hn_93 : 0 ≤ μ.1 26 6 ∧ μ.1 26 6 ≤ 3001 := hI.nm.2.2.2.2.2.2.2.2.2.1
    have e_94 : μ83.1 26 6 = μ.1 26 6 := ((F_85.1 26 (ni hprP (fun P => 26) (fun P => [P, P + 1]) rfl) 6).trans (F_73.1 26 (ni hprP (fun P => 26) (fun P => [P + 2, (P + 2) + 1, (P + 2) + 2, (P + 2) + 3]) rfl) 6))
    have hn_95 : -1 ≤ μ.1 26 10 ∧ μ.1 26 10 ≤ 3000 := hI.nm.2.2.2.2.2.2.2.2.2.2.2.2
    have e_96 : μ83.1 26 10 = μ.1 26 10 := ((F_85.1 26 (ni hprP (fun P => 26) (fun P => [P, P + 1]) rfl) 10).trans (F_73.1 26 (ni hprP (fun P => 26) (fun P => [P + 2, (P + 2) + 1, (P + 2) + 2, (P + 2) + 3]) rfl) 10))
    have e_97 : μ83.1 26 11 = μ.1 26 11 := ((F_85.1 26 (ni hprP (fun P => 26) (fun P => [P, P + 1]) rfl) 11).trans (F_73.1 26 (ni hprP (fun P => 26) (fun P => [P + 2, (P + 2) + 1, (P + 2) + 2, (P + 2) + 3]) rfl) 11))
    have e_98 : μ83.1 26 10 = μ.1 26 10 := ((F_85.1 26 (ni hprP (fun P => 26) (fun P => [P, P + 1]) rfl) 10).trans (F_73.1 26 (ni hprP (fun P => 26) (fun P => [P + 2, (P + 2) + 1, (P + 2) + 2, (P + 2) + 3]) rfl) 10))
    have e_99 : μ83.1 26 12 = μ.1 26 12 := ((F_85.1 26 (ni hprP (fun P => 26) (fun P => [P, P + 1]) rfl) 12).trans (F_73.1 26 (ni hprP (fun P => 26) (fun P => [P + 2, (P + 2) + 1, (P + 2) + 2, (P + 2) + 3]) rfl) 12))
    have e_100 : μ83.1 26 11 = μ.1 26 11 := ((F_85.1 26 (ni hprP (fun P => 26) (fun P => [P, P + 1]) rfl) 11).trans (F_73.1 26 (ni hprP (fun P => 26) (fun P => [P + 2, (P + 2) + 1, (P + 2) + 2, (P + 2) + 3]) rfl) 11))
    have e_101 : μ83.1 26 10 = μ.1 26 10 := ((F_85.1 26 (ni hprP (fun P => 26) (fun P => [P, P + 1]) rfl) 10).trans (F_73.1 26 (ni hprP (fun P => 26) (fun P => [P + 2, (P + 2) + 1, (P + 2) + 2, (P + 2) + 3]) rfl) 10))
    have e_102 : μ83.1 26 6 = μ.1 26 6 := ((F_85.1 26 (ni hprP (fun P => 26) (fun P => [P, P + 1]) rfl) 6).trans (F_73.1 26 (ni hprP (fun P => 26) (fun P => [P + 2, (P + 2) + 1, (P + 2) + 2, (P + 2) + 3]) rfl) 6))
    have e_103 : μ83.1 26 10 = μ.1 26 10 := ((F_85.1 26 (ni hprP (fun P => 26) (fun P => [P, P + 1]) rfl) 10).trans (F_73.1 26 (ni hprP (fun P => 26) (fun P => [P + 2, (P + 2) + 1, (P + 2) + 2, (P + 2) + 3]) rfl) 10))
    have e_104 : μ83.1 26 6 = μ.1 26 6 := ((F_85.1 26 (ni hprP (fun P => 26) (fun P => [P, P + 1]) rfl) 6).trans (F_73.1 26 (ni hprP (fun P => 26) (fun P => [P + 2, (P + 2) + 1, (P + 2) + 2, (P + 2) + 3]) rfl) 6))
    have e_105 : μ83.1 26 10 = μ.1 26 10 := ((F_85.1 26 (ni hprP (fun P => 26) (fun P => [P, P + 1]) rfl) 10).trans (F_73.1 26 (ni hprP (fun P => 26) (fun P => [P + 2, (P + 2) + 1, (P + 2) + 2, (P + 2) + 3]) rfl) 10))
    have e_106 : μ83.1 26 10 = μ.1 26 10 := ((F_85.1 26 (ni hprP (fun P => 26) (fun P => [P, P + 1]) rfl) 10).trans (F_73.1 26 (ni hprP (fun P => 26) (fun P => [P + 2, (P + 2) + 1, (P + 2) + 2, (P + 2) + 3]) rfl) 10))
    have e_107 : μ83.1 26 11 = μ.1 26 11 := ((F_85.1 26 (ni hprP (fun P => 26) (fun P => [P, P + 1]) rfl) 11).trans (F_73.1 26 (ni hprP (fun P => 26) (fun P => [P + 2, (P + 2) + 1, (P + 2) + 2, (P + 2) + 3]) rfl) 11))
    have e_108 : μ83.1 26 13 = μ.1 26 13 := ((F_85.1 26 (ni hprP (fun P => 26) (fun P => [P, P + 1]) rfl) 13).trans (F_73.1 26 (ni hprP (fun P => 26) (fun P => [P + 2, (P + 2) + 1, (P + 2) + 2, (P + 2) + 3]) rfl) 13))
    have e_109 : μ83.1 26 11 = μ.1 26 11 := ((F_85.1 26 (ni hprP (fun P => 26) (fun P => [P, P + 1]) rfl) 11).trans (F_73.1 26 (ni hprP (fun P => 26) (fun P => [P + 2, (P + 2) + 1, (P + 2) + 2, (P + 2) + 3]) rfl) 11))
    refine xc_vV G (b := 26) (rest := []) (As := []) (c_X10_next ω l μ83  hI_86 (by omega) (by omega)) (wm 3 164 rfl rfl) (wm 3 157 rfl rfl) (wm 3 158 rfl rfl) rfl rfl (by decide) rfl (wm 1 13 rfl rfl) (wm 3 159 rfl rfl) (by decide) hR ⟨nfr hF (by decide), nlo hLo (by decide)⟩ (n := 0) rfl rfl (Nat.le_of_ble_eq_true rfl) hl.1 dX7_number_69 (fun μ110 ρ d0 H locs hp G => ?_)
    obtain ⟨F_111, hI_112, hp_113, hp_114, hs_115, hs_116, hs_117, hs_118, hs_119⟩ := hp
    have hn_120 : -1 ≤ μ110.1 26 10 ∧ μ110.1 26 10 ≤ 3000 := hI_112.nm.2.2.2.2.2.2.2.2.2.2.2.2
    obtain ⟨htk_121, htk_121_s, htk_121_n⟩ := TK.nx htk_92 F_111 (((hs_116.trans ((F_85.1 26 (ni hprP (fun P => 26) (fun P => [P, P + 1]) rfl) 6).trans (F_73.1 26 (ni hprP (fun P => 26) (fun P => [P + 2, (P + 2) + 1, (P + 2) + 2, (P + 2) + 3]) rfl) 6)))).trans (((F_85.1 26 (ni hprP (fun P => 26) (fun P => [P, P + 1]) rfl) 6).trans (F_73.1 26 (ni hprP (fun P => 26) (fun P => [P + 2, (P + 2) + 1, (P + 2) + 2, (P + 2) + 3]) rfl) 6))).symm) (((hs_115.trans ((F_85.1 26 (ni hprP (fun P => 26) (fun P => [P, P + 1]) rfl) 11).trans (F_73.1 26 (ni hprP (fun P => 26) (fun P => [P + 2, (P + 2) + 1, (P + 2) + 2, (P + 2) + 3]) rfl) 11)))).trans (((F_85.1 26 (ni hprP (fun P => 26) (fun P => [P, P + 1]) rfl) 11).trans (F_73.1 26 (ni hprP (fun P => 26) (fun P => [P + 2, (P + 2) + 1, (P + 2) + 2, (P + 2) + 3]) rfl) 11))).symm) (by have h9 : μ83.1 26 12 = μ.1 26 12 := ((F_85.1 26 (ni hprP (fun P => 26) (fun P => [P, P + 1]) rfl) 12).trans (F_73.1 26 (ni hprP (fun P => 26) (fun P => [P + 2, (P + 2) + 1, (P + 2) + 2, (P + 2) + 3]) rfl) 12)); omega) hp_113 hp_114
    clear hp_113 hp_114
    have e_122 : μ83.1 26 11 = μ.1 26 11 := ((F_85.1 26 (ni hprP (fun P => 26) (fun P => [P, P + 1]) rfl) 11).trans (F_73.1 26 (ni hprP (fun P => 26) (fun P => [P + 2, (P + 2) + 1, (P + 2) + 2, (P + 2) + 3]) rfl) 11))
    have e_123 : μ83.1 26 10 = μ.1 26 10 := ((F_85.1 26 (ni hprP (fun P => 26) (fun P => [P, P + 1]) rfl) 10).trans (F_73.1 26 (ni hprP (fun P => 26) (fun P => [P + 2, (P + 2) + 1, (P + 2) + 2, (P + 2) + 3]) rfl) 10))
    have htb_124 := htk_121.b
    have hpx_125 : μ110.1 26 11 = 0 → PXE μ μ110 P tt 1 (-1) 1 := fun h0 => (hpx_91 (by have h9 : μ83.1 26 11 = μ.1 26 11 := ((F_85.1 26 (ni hprP (fun P => 26) (fun P => [P, P + 1]) rfl) 11).trans (F_73.1 26 (ni hprP (fun P => 26) (fun P => [P + 2, (P + 2) + 1, (P + 2) + 2, (P + 2) + 3]) rfl) 11)); have h8 : μ110.1 26 11 = μ.1 26 11 := (hs_115.trans ((F_85.1 26 (ni hprP (fun P => 26) (fun P => [P, P + 1]) rfl) 11).trans (F_73.1 26 (ni hprP (fun P => 26) (fun P => [P + 2, (P + 2) + 1, (P + 2) + 2, (P + 2) + 3]) rfl) 11))); omega)).fr (K := [26]) (Fr.tr Fr.rf F_111 (by decide)) (npL_p (L := [26]) (by decide) hprP).1 (npL_p (L := [26]) (by decide) hprP).2.1
    have e_126 : μ110.1 26 11 = μ.1 26 11 := (hs_115.trans ((F_85.1 26 (ni hprP (fun P => 26) (fun P => [P, P + 1]) rfl) 11).trans (F_73.1 26 (ni hprP (fun P => 26) (fun P => [P + 2, (P + 2) + 1, (P + 2) + 2, (P + 2) + 3]) rfl) 11)))
    have e_127 : μ110.1 26 11 = μ.1 26 11 := (hs_115.trans ((F_85.1 26 (ni hprP (fun P => 26) (fun P => [P, P + 1]) rfl) 11).trans (F_73.1 26 (ni hprP (fun P => 26) (fun P => [P + 2, (P + 2) + 1, (P + 2) + 2, (P + 2) + 3]) rfl) 11)))
    have e_128 : μ110.1 P 1 = μ71.1 P 1 + 1 := ((F_111.1 P (ni hprP (fun P => P) (fun P => [26]) rfl) 1).trans hs_89)
    have e_129 : μ110.1 P 1 = μ71.1 P 1 + 1 := ((F_111.1 P (ni hprP (fun P => P) (fun P => [26]) rfl) 1).trans hs_89)
    have e_130 : μ110.1 26 11 = μ.1 26 11 := (hs_115.trans ((F_85.1 26 (ni hprP (fun P => 26) (fun P => [P, P + 1]) rfl) 11).trans (F_73.1 26 (ni hprP (fun P => 26) (fun P => [P + 2, (P + 2) + 1, (P + 2) + 2, (P + 2) + 3]) rfl) 11)))
    have e_131 : μ110.1 (P + 2) 3 = μ71.1 (P + 2) 3 := ((F_111.1 (P + 2) (ni hprP (fun P => P + 2) (fun P => [26]) rfl) 3).trans (F_85.1 (P + 2) (ni hprP (fun P => P + 2) (fun P => [P, P + 1]) rfl) 3))
    have e_132 : μ110.1 P 1 = μ71.1 P 1 + 1 := ((F_111.1 P (ni hprP (fun P => P) (fun P => [26]) rfl) 1).trans hs_89)
    have e_133 : μ110.1 (P + 2) 3 = μ71.1 (P + 2) 3 := ((F_111.1 (P + 2) (ni hprP (fun P => P + 2) (fun P => [26]) rfl) 3).trans (F_85.1 (P + 2) (ni hprP (fun P => P + 2) (fun P => [P, P + 1]) rfl) 3))
    exact xr_v G hret hlk dX7_number_72 ⟨(Fr.tr (Fr.tr (Fr.tr Fr.rf F_73 (si hprP (fun P => [P + 2, (P + 2) + 1, (P + 2) + 2, (P + 2) + 3]) (fun P => [2, 3, 4, 23, 24, 26, P, P + 1, P + 2, (P + 2) + 1, (P + 2) + 2, (P + 2) + 3]) rfl)) F_85 (si hprP (fun P => [P, P + 1]) (fun P => [2, 3, 4, 23, 24, 26, P, P + 1, P + 2, (P + 2) + 1, (P + 2) + 2, (P + 2) + 3]) rfl)) F_111 (si hprP (fun P => [26]) (fun P => [2, 3, 4, 23, 24, 26, P, P + 1, P + 2, (P + 2) + 1, (P + 2) + 2, (P + 2) + 3]) rfl)), hI_112, htk_121, (by omega), (by omega), (by omega), (by omega), (fun h0 => (PXE.ex (hpx_125 h0)).e (by omega)), (((F_111.1 23 (by decide) 2).trans ((F_85.1 23 (ni hprP (fun P => 23) (fun P => [P, P + 1]) rfl) 2).trans ((F_73.1 23 (ni hprP (fun P => 23) (fun P => [P + 2, (P + 2) + 1, (P + 2) + 2, (P + 2) + 3]) rfl) 2).trans hP.symm)))).trans hP, ((F_111.1 23 (by decide) 5).trans ((F_85.1 23 (ni hprP (fun P => 23) (fun P => [P, P + 1]) rfl) 5).trans (F_73.1 23 (ni hprP (fun P => 23) (fun P => [P + 2, (P + 2) + 1, (P + 2) + 2, (P + 2) + 3]) rfl) 5))), ((F_111.1 23 (by decide) 6).trans ((F_85.1 23 (ni hprP (fun P => 23) (fun P => [P, P + 1]) rfl) 6).trans (F_73.1 23 (ni hprP (fun P => 23) (fun P => [P + 2, (P + 2) + 1, (P + 2) + 2, (P + 2) + 3]) rfl) 6))), ((F_111.1 23 (by decide) 7).trans ((F_85.1 23 (ni hprP (fun P => 23) (fun P => [P, P + 1]) rfl) 7).trans (F_73.1 23 (ni hprP (fun P => 23) (fun P => [P + 2, (P + 2) + 1, (P + 2) + 2, (P + 2) + 3]) rfl) 7))), (((F_111.1 23 (by decide) 8).trans ((F_85.1 23 (ni hprP (fun P => 23) (fun P => [P, P + 1]) rfl) 8).trans ((F_73.1 23 (ni hprP (fun P => 23) (fun P => [P + 2, (P + 2) + 1, (P + 2) + 2, (P + 2) + 3]) rfl) 8).trans htt.symm)))).trans htt, ((F_111.1 23 (by decide) 9).trans ((F_85.1 23 (ni hprP (fun P => 23) (fun P => [P, P + 1]) rfl) 9).trans (F_73.1 23 (ni hprP (fun P => 23) (fun P => [P + 2, (P + 2) + 1, (P + 2) + 2, (P + 2) + 3]) rfl) 9))), ((F_111.1 23 (by decide) 10).trans ((F_85.1 23 (ni hprP (fun P => 23) (fun P => [P, P + 1]) rfl) 10).trans (F_73.1 23 (ni hprP (fun P => 23) (fun P => [P + 2, (P + 2) + 1, (P + 2) + 2, (P + 2) + 3]) rfl) 10))), (hs_116.trans ((F_85.1 26 (ni hprP (fun P => 26) (fun P => [P, P + 1]) rfl) 6).trans (F_73.1 26 (ni hprP (fun P => 26) (fun P => [P + 2, (P + 2) + 1, (P + 2) + 2, (P + 2) + 3]) rfl) 6))), ((F_111.1 P (ni hprP (fun P => P) (fun P => [26]) rfl) 7).trans (hs_90.trans (F_73.1 P (ni hprP (fun P => P) (fun P => [P + 2, (P + 2) + 1, (P + 2) + 2, (P + 2) + 3]) rfl) 7)))⟩

set_option maxHeartbeats 4000000 in
set_option maxRecDepth 100000 in
theorem c_X7_functionItself (ω : Om) (l : Launch) (μ : M3) (F : Nat) (Lo : Nat) (Fu : Nat) (Lu : Nat) (kf : Int) (P : Int) (tt : Int) (hI : IC μ) (hP : P = μ.1 23 2) (htt : tt = μ.1 23 8) (hF : 60 ≤ F) (hLo : 2000 ≤ Lo) (hFu : Fu ≤ F) (hLu : Lu ≤ Lo) (hE : ∀ (μ : M3) (x1 : Int) (P : Int) (tt : Int) (hx1 : x1 = 0 ∨ x1 = 1) (hI : IC μ) (hP : P = μ.1 23 2) (htt : tt = μ.1 23 8) (hTK : TK μ) (hB : 2 * μ.1 P 1 ≤ 5 * μ.1 26 10 + 200 + 80 * μ.1 26 11) (hKc : μ.1 (P + 2) 3 ≤ μ.1 P 1) (ht3 : 0 ≤ tt ∧ tt ≤ 3) (hdp : 0 ≤ μ.1 23 9 ∧ μ.1 23 9 ≤ 8 + μ.1 26 11) (hfu : 0 ≤ (kf - 1) ∧ 9 ≤ μ.1 23 9 + (kf - 1) + 20 * μ.1 26 11) (hbg : ∀ _ : Unit, x1 = 0 ∨ μ.1 26 11 ≠ 0 ∨ 2 ≤ hs μ P (μ.1 P 1)), CtV ω l yX7_expression cX7_expression 3 (F + 0) (Lo + 0) [.ref (oP ω 23), .int (iv x1)] μ (fun (μ' : M3) => (Fr [2, 3, 4, 23, 24, 26, P, P + 1, P + 2, (P + 2) + 1, (P + 2) + 2, (P + 2) + 3] μ μ') ∧ (IC μ') ∧ (TK μ') ∧ (μ.1 26 11 ≤ μ'.1 26 11) ∧ (μ.1 26 10 ≤ μ'.1 26 10) ∧ (μ.1 P 1 ≤ μ'.1 P 1 ∧ μ'.1 P 1 ≤ μ.1 P 1 + 2 * (μ'.1 26 10 - μ.1 26 10) + (- 1 + 3 * μ'.1 26 11 - 2 * μ.1 26 11 + x1)) ∧ (μ'.1 (P + 2) 3 - μ.1 (P + 2) 3 ≤ μ'.1 P 1 - μ.1 P 1 ∧ μ.1 (P + 2) 3 ≤ μ'.1 (P + 2) 3) ∧ (μ'.1 26 11 = 0 → EX μ μ' P tt (1 - x1) 0) ∧ (μ'.1 23 2 = μ.1 23 2) ∧ (μ'.1 23 5 = μ.1 23 5) ∧ (μ'.1 23 6 = μ.1 23 6) ∧ (μ'.1 23 7 = μ.1 23 7) ∧ (μ'.1 23 8 = μ.1 23 8) ∧ (μ'.1 23 9 = μ.1 23 9) ∧ (μ'.1 23 10 = μ.1 23 10) ∧ (μ'.1 26 6 = μ.1 26 6) ∧ (μ'.1 P 7 = μ.1 P 7))) (hU : ∀ (μ : M3) (x1 : Int) (P : Int) (tt : Int) (hx1 : x1 = 0 ∨ x1 = 1) (hI : IC μ) (hP : P = μ.1 23 2) (htt : tt = μ.1 23 8) (hTK : TK μ) (hB : 2 * μ.1 P 1 ≤ 5 * μ.1 26 10 + 200 + 80 * μ.1 26 11) (hKc : μ.1 (P + 2) 3 ≤ μ.1 P 1) (ht3 : 0 ≤ tt ∧ tt ≤ 3) (hdp : 0 ≤ μ.1 23 9 ∧ μ.1 23 9 ≤ 8 + μ.1 26 11) (hfu : 0 ≤ (kf - 1) ∧ 9 ≤ μ.1 23 9 + (kf - 1) + 20 * μ.1 26 11) (hbg : ∀ _ : Unit, x1 = 0 ∨ μ.1 26 11 ≠ 0 ∨ 2 ≤ hs μ P (μ.1 P 1)), CtV ω l yX7_unary cX7_unary 2 (Fu + 0) (Lu + 0) [.ref (oP ω 23), .int (iv x1)] μ (fun (μ' : M3) => (Fr [2, 3, 4, 23, 24, 26, P, P + 1, P + 2, (P + 2) + 1, (P + 2) + 2, (P + 2) + 3] μ μ') ∧ (IC μ') ∧ (TK μ') ∧ (μ.1 26 11 ≤ μ'.1 26 11) ∧ (μ.1 26 10 ≤ μ'.1 26 10) ∧ (μ.1 P 1 ≤ μ'.1 P 1 ∧ μ'.1 P 1 ≤ μ.1 P 1 + 2 * (μ'.1 26 10 - μ.1 26 10) + (- 1 + 3 * μ'.1 26 11 - 2 * μ.1 26 11 + x1)) ∧ (μ'.1 (P + 2) 3 - μ.1 (P + 2) 3 ≤ μ'.1 P 1 - μ.1 P 1 ∧ μ.1 (P + 2) 3 ≤ μ'.1 (P + 2) 3) ∧ (μ'.1 26 11 = 0 → EX μ μ' P tt (1 - x1) 0) ∧ (μ'.1 23 2 = μ.1 23 2) ∧ (μ'.1 23 5 = μ.1 23 5) ∧ (μ'.1 23 6 = μ.1 23 6) ∧ (μ'.1 23 7 = μ.1 23 7) ∧ (μ'.1 23 8 = μ.1 23 8) ∧ (μ'.1 23 9 = μ.1 23 9) ∧ (μ'.1 23 10 = μ.1 23 10) ∧ (μ'.1 26 6 = μ.1 26 6) ∧ (μ'.1 P 7 = μ.1 P 7))) (hTK : TK μ) (hB : 2 * μ.1 P 1 ≤ 5 * μ.1 26 10 + 200 + 80 * μ.1 26 11) (hKc : μ.1 (P + 2) 3 ≤ μ.1 P 1) (ht3 : 0 ≤ tt ∧ tt ≤ 3) (hdp : 0 ≤ μ.1 23 9 ∧ μ.1 23 9 ≤ 8) (hfu : 9 ≤ μ.1 23 9 + kf) : CtV ω l yX7_functionItself cX7_functionItself 4 (F + 0) (Lo + 0) [.ref (oP ω 23)] μ (fun (μ' : M3) => (Fr [2, 3, 4, 23, 24, 26, P, P + 1, P + 2, (P + 2) + 1, (P + 2) + 2, (P + 2) + 3] μ μ') ∧ (IC μ') ∧ (TK μ') ∧ (μ.1 26 11 ≤ μ'.1 26 11) ∧ (μ.1 26 10 ≤ μ'.1 26 10) ∧ (μ.1 P 1 ≤ μ'.1 P 1 ∧ μ'.1 P 1 ≤ μ.1 P 1 + 2 * (μ'.1 26 10 - μ.1 26 10) + (- 1 + 2 * μ'.1 26 11)) ∧ (μ'.1 (P + 2) 3 - μ.1 (P + 2) 3 ≤ μ'.1 P 1 - μ.1 P 1 ∧ μ.1 (P + 2) 3 ≤ μ'.1 (P + 2) 3) ∧ (μ'.1 26 11 = 0 → EX μ μ' P tt 1 0) ∧ (μ'.1 23 2 = μ.1 23 2) ∧ (μ'.1 23 5 = μ.1 23 5) ∧ (μ'.1 23 6 = μ.1 23 6) ∧ (μ'.1 23 7 = μ.1 23 7) ∧ (μ'.1 23 8 = μ.1 23 8) ∧ (μ'.1 23 9 = μ.1 23 9) ∧ (μ'.1 23 10 = μ.1 23 10) ∧ (μ'.1 26 6 = μ.1 26 6) ∧ (μ'.1 P 7 = μ.1 P 7)) := by
  refine CtV.go (by decide) (Nat.le_of_ble_eq_true rfl) (fun ρ p e s m below meth c R ls G hR hret hlk hl => ?_)
  have hx := G.1.1
  have hb := G.1.2.1
  have hl : lv_has ls 4 [(0, .ref (oP ω 23))] := hl
  generalize s.drawn = d0 at G ⊢
  have hTKb := hTK.b
  have hprP : isPr P := by have h9 := G.sr0.2.2.2.2.2; rw [← hP] at h9; exact h9
  have hprP_d : 13 ≤ P ∧ P ≤ 101 := by rcases hprP with h9 | h9 | h9 | h9 | h9 <;> omega
  have hk_1 := hI.pr (p := P) hprP
  unfold pk at hk_1
  have hc_2 : 16 ≤ μ.2.1 (P + 1) ∧ μ.2.1 (P + 1) ≤ 73024 := hI.rm.1 _ hprP.cap
  have hnil : μ.1 26 11 = 0 → PXE μ μ P tt 0 (-1) 1 := fun _ => PXE.nil (by omega)
  refine lv_aload_n hx hb dX7_functionItself_0 rfl (lv_at hl 0 rfl) ?_
  refine xa_geti G fd_X7 (a := 23) (x := tt) 8 rfl (by decide) rfl (wm 2 25 rfl rfl) ⟨rfl, rfl, rfl⟩ dX7_functionItself_1 rfl htt.symm ?_
  have hr_3 : -2147483648 ≤ tt ∧ tt ≤ 2147483647 := by have h9 := G.hr (a := 23) (k := 8) rfl; rw [show μ.1 23 8 = tt from htt.symm] at h9; exact h9
  refine lv_istore_n (lv' := [(1, .int (iv tt)), (0, .ref (oP ω 23))]) hx hb dX7_functionItself_4 rfl hl (by decide) rfl (fun ls hl => ?_)
  refine lv_aload_n hx hb dX7_functionItself_5 rfl (lv_at hl 1 rfl) ?_
  refine xc_iV G (b := 23) (rest := []) (As := []) (c_X7_isTongueWord ω l μ  hI) (wm 4 104 rfl rfl) (wm 4 106 rfl rfl) (wm 0 42 rfl rfl) rfl rfl (by decide) rfl (wm 1 12 rfl rfl) (wm 4 107 rfl rfl) (by decide) hR ⟨nfr hF (by decide), nlo hLo (by decide)⟩ (n := 0) rfl rfl (Nat.le_of_ble_eq_true rfl) hl.1 dX7_functionItself_6 (fun r_5 μ4 ρ d0 H locs hr_r_5 hp G => ?_)
  have hr_r_5 : -2147483648 ≤ r_5 ∧ r_5 ≤ 2147483647 := hr_r_5
  obtain ⟨hsm_6, hp_7⟩ := hp
  have hsm_6 := Eq.symm hsm_6
  subst hsm_6
  refine xb_if_eq (tgt := 37) hx hb (by unfold ir; omega) dX7_functionItself_9 (by decide) (fun c_9 => ?_) (fun c_9 => ?_)
  · refine lv_aload_n hx hb dX7_functionItself_37 rfl (lv_at hl 1 rfl) ?_
    refine xa_getr G fd_X7 (a := 23) (x := 26) 0 rfl (by decide) rfl (wm 2 17 rfl rfl) ⟨rfl, rfl, rfl⟩ dX7_functionItself_38 rfl (G.sk 23 rfl) (by decide) rfl ?_
    refine xa_getN G fd_X10 (host := "FourTongues") (a := 26) 14 rfl (by decide) (by decide) ⟨rfl, rfl, rfl⟩ dX7_functionItself_41 rfl (v := .long (jv (μ.1 26 14))) (by rw [show μ.1 26 14 = μ.1 26 14 from rfl]; rfl) ?_
    have hj_8 : jr (μ.1 26 14) := by have h9 := G.hj (a := 26) (k := 14) rfl; exact h9
    refine lv_lstore_n (lv' := [(2, .long (jv (μ.1 26 14))), (1, .int (iv tt)), (0, .ref (oP ω 23))]) hx hb dX7_functionItself_44 rfl hl (by decide) rfl (fun ls hl => ?_)
    refine lv_aload_n hx hb dX7_functionItself_45 rfl (lv_at hl 2 rfl) ?_
    refine lv_iconst (v := iv 1) hx hb dX7_functionItself_46 rfl ?_
    have hn_9 : -1 ≤ μ.1 26 10 ∧ μ.1 26 10 ≤ 3000 := hI.nm.2.2.2.2.2.2.2.2.2.2.2.2
    refine xc_vV G (b := 23) (rest := []) (As := [.int (iv 1)]) (c_X7_need_b ω l μ 1 (by unfold ir; omega) hI hTK (by omega)) (wm 3 169 rfl rfl) (wm 3 171 rfl rfl) (wm 0 11 rfl rfl) rfl rfl (by decide) rfl (wm 1 12 rfl rfl) (wm 3 172 rfl rfl) (by decide) hR ⟨nfr hF (by decide), nlo hLo (by decide)⟩ (n := 1) rfl rfl (Nat.le_of_ble_eq_true rfl) hl.1 dX7_functionItself_47 (fun μ10 ρ d0 H locs hp G => ?_)
    obtain ⟨F_11, hI_12, hp_13, hp_14, hp_15, hs_16, hs_17, hs_18, hs_19⟩ := hp
    have hn_20 : -1 ≤ μ10.1 26 10 ∧ μ10.1 26 10 ≤ 3000 := hI_12.nm.2.2.2.2.2.2.2.2.2.2.2.2
    have htb_21 := hp_13.b
    refine lv_aload_n hx hb dX7_functionItself_50 rfl (lv_at hl 2 rfl) ?_
    refine lv_bipush (v := iv 15) hx hb dX7_functionItself_51 rfl ?_
    refine lv_iload_n hx hb dX7_functionItself_53 rfl (lv_at hl 1 rfl) ?_
    refine lv_aload_n hx hb dX7_functionItself_54 rfl (lv_at hl 2 rfl) ?_
    refine xa_getr G fd_X7 (a := 23) (x := P) 2 rfl (by decide) rfl (wm 2 19 rfl rfl) ⟨rfl, rfl, rfl⟩ dX7_functionItself_55 rfl ((F_11.1 23 (by decide) 2).trans hP.symm) (by omega) (hprP.hq ω ρ) ?_
    refine lv_iconst (v := iv 0) hx hb dX7_functionItself_58 rfl ?_
    refine lv_lload_n hx hb dX7_functionItself_59 rfl (lv_at hl 0 rfl) ?_
    refine lv_dconst0 hx hb dX7_functionItself_60 ?_
    refine xb_topd (fun dd_22 he_dd_22 => ?_)
    have hpx_23 : μ10.1 26 11 = 0 → PXE μ μ10 P tt 0 (-1) 1 := fun h0 => (hnil (by have h9 : μ.1 26 11 = μ.1 26 11 := rfl; have h8 : μ10.1 26 11 = μ10.1 26 11 := rfl; omega)).fr (K := [26]) (Fr.tr Fr.rf F_11 (by decide)) (npL_p (L := [26]) (by decide) hprP).1 (npL_p (L := [26]) (by decide) hprP).2.1
    have hk_24 := hI.row (r := P + 2) (hprP.row)
    unfold rk at hk_24
    have e_25 : μ10.1 (P + 2) 3 = μ.1 (P + 2) 3 := (F_11.1 (P + 2) (ni hprP (fun P => P + 2) (fun P => [26]) rfl) 3)
    have e_26 : μ10.1 (P + 2) 3 = μ.1 (P + 2) 3 := (F_11.1 (P + 2) (ni hprP (fun P => P + 2) (fun P => [26]) rfl) 3)
    have e_27 : μ10.1 (P + 2) 3 = μ.1 (P + 2) 3 := (F_11.1 (P + 2) (ni hprP (fun P => P + 2) (fun P => [26]) rfl) 3)
    have e_28 : μ10.1 (P + 2) 3 = μ.1 (P + 2) 3 := (F_11.1 (P + 2) (ni hprP (fun P => P + 2) (fun P => [26]) rfl) 3)
    have e_29 : μ10.1 (P + 2) 3 = μ.1 (P + 2) 3 := (F_11.1 (P + 2) (ni hprP (fun P => P + 2) (fun P => [26]) rfl) 3)
    refine xc_iV G (b := P) (rest := [.int (iv tt), .int (iv 15), .ref (oP ω 23)]) (As := [.int (iv 0), .long (jv (μ.1 26 14)), .double (dv dd_22)]) (c_X8_addConstant ω l μ10 P 0 (μ.1 26 14) dd_22 (μ.1 (P + 2) 3) hprP (by unfold ir; omega) hj_8 hI_12 (by omega) (by omega)) (wm 4 67 rfl rfl) (wm 4 68 rfl rfl) (wm 4 69 rfl rfl) hprP.ly rfl (by decide) (hprP.hq ω ρ) (wm 1 9 rfl rfl) (wm 4 70 rfl rfl) (by decide) hR ⟨nfr hF (by decide), nlo hLo (by decide)⟩ (n := 3) rfl rfl (Nat.le_of_ble_eq_true rfl) hl.1 dX7_functionItself_61 (fun r_31 μ30 ρ d0 H locs hr_r_31 hp G => ?_)
    have hr_r_31 : -2147483648 ≤ r_31 ∧ r_31 ≤ 2147483647 := hr_r_31
    obtain ⟨F_32, hI_33, hp_34, hp_35⟩ := hp
    have hk_36 := hI_33.row (r := P + 2) (hprP.row)
    unfold rk at hk_36
    have hpx_37 : μ30.1 26 11 = 0 → PXE μ μ30 P tt 0 (-1) 1 := fun h0 => (hpx_23 (by have h9 : μ10.1 26 11 = μ10.1 26 11 := rfl; have h8 : μ30.1 26 11 = μ10.1 26 11 := (F_32.1 26 (ni hprP (fun P => 26) (fun P => [P + 2, (P + 2) + 1, (P + 2) + 2, (P + 2) + 3]) rfl) 11); omega)).fr (K := [P + 2, (P + 2) + 1, (P + 2) + 2, (P + 2) + 3]) (Fr.tr Fr.rf F_32 (si hprP (fun P => [P + 2, (P + 2) + 1, (P + 2) + 2, (P + 2) + 3]) (fun P => [P + 2, (P + 2) + 1, (P + 2) + 2, (P + 2) + 3]) rfl)) (ni hprP (fun P => P) (fun P => [P + 2, (P + 2) + 1, (P + 2) + 2, (P + 2) + 3]) rfl) (ni hprP (fun P => P + 1) (fun P => [P + 2, (P + 2) + 1, (P + 2) + 2, (P + 2) + 3]) rfl)
    have e_38 : μ30.1 23 2 = P := ((F_32.1 23 (ni hprP (fun P => 23) (fun P => [P + 2, (P + 2) + 1, (P + 2) + 2, (P + 2) + 3]) rfl) 2).trans ((F_11.1 23 (by decide) 2).trans hP.symm))
    have e_39 : μ30.1 P 1 = μ.1 P 1 := ((F_32.1 P (ni hprP (fun P => P) (fun P => [P + 2, (P + 2) + 1, (P + 2) + 2, (P + 2) + 3]) rfl) 1).trans (F_11.1 P (ni hprP (fun P => P) (fun P => [26]) rfl) 1))
    have e_40 : μ30.1 P 1 = μ.1 P 1 := ((F_32.1 P (ni hprP (fun P => P) (fun P => [P + 2, (P + 2) + 1, (P + 2) + 2, (P + 2) + 3]) rfl) 1).trans (F_11.1 P (ni hprP (fun P => P) (fun P => [26]) rfl) 1))
    have e_41 : μ30.1 P 1 = μ.1 P 1 := ((F_32.1 P (ni hprP (fun P => P) (fun P => [P + 2, (P + 2) + 1, (P + 2) + 2, (P + 2) + 3]) rfl) 1).trans (F_11.1 P (ni hprP (fun P => P) (fun P => [26]) rfl) 1))
    refine xc_iV G (b := 23) (rest := []) (As := [.int (iv 15), .int (iv tt), .int (iv r_31)]) (c_X7_add ω l μ30 15 tt r_31 P (by unfold ir; omega) (by unfold ir; omega) (by unfold ir; omega) hI_33 (by omega) (by omega)) (wm 3 226 rfl rfl) (wm 3 228 rfl rfl) (wm 0 21 rfl rfl) rfl rfl (by decide) rfl (wm 1 12 rfl rfl) (wm 3 229 rfl rfl) (by decide) hR ⟨nfr hF (by decide), nlo hLo (by decide)⟩ (n := 3) rfl rfl (Nat.le_of_ble_eq_true rfl) hl.1 dX7_functionItself_64 (fun r_43 μ42 ρ d0 H locs hr_r_43 hp G => ?_)
    have hr_r_43 : -2147483648 ≤ r_43 ∧ r_43 ≤ 2147483647 := hr_r_43
    obtain ⟨F_44, hI_45, hp_46, hp_47, hs_48, hs_49⟩ := hp
    have hpx_50 : μ42.1 26 11 = 0 → PXE μ μ42 P tt 1 (-1) 1 := fun h0 => (PXE.app (hpx_37 (by have h9 : μ30.1 26 11 = μ10.1 26 11 := (F_32.1 26 (ni hprP (fun P => 26) (fun P => [P + 2, (P + 2) + 1, (P + 2) + 2, (P + 2) + 3]) rfl) 11); have h8 : μ42.1 26 11 = μ10.1 26 11 := ((F_44.1 26 (ni hprP (fun P => 26) (fun P => [P, P + 1]) rfl) 11).trans (F_32.1 26 (ni hprP (fun P => 26) (fun P => [P + 2, (P + 2) + 1, (P + 2) + 2, (P + 2) + 3]) rfl) 11)); omega)) (EX.pl hp_47 (by omega) (by unfold plain; omega) (e := 1) rfl (by have h9 := hs_1 (μ := μ30) (P := P) (i := μ30.1 P 1); omega))).e (by omega)
    refine lv_pop hx hb dX7_functionItself_67 rfl ?_
    have htk_51 : TK μ42 := hp_13.fr (K := [P, P + 1, P + 2, (P + 2) + 1, (P + 2) + 2, (P + 2) + 3]) (Fr.tr (Fr.tr Fr.rf F_32 (si hprP (fun P => [P + 2, (P + 2) + 1, (P + 2) + 2, (P + 2) + 3]) (fun P => [P, P + 1, P + 2, (P + 2) + 1, (P + 2) + 2, (P + 2) + 3]) rfl)) F_44 (si hprP (fun P => [P, P + 1]) (fun P => [P, P + 1, P + 2, (P + 2) + 1, (P + 2) + 2, (P + 2) + 3]) rfl)) (ni hprP (fun P => 26) (fun P => [P, P + 1, P + 2, (P + 2) + 1, (P + 2) + 2, (P + 2) + 3]) rfl) (ni hprP (fun P => 28) (fun P => [P, P + 1, P + 2, (P + 2) + 1, (P + 2) + 2, (P + 2) + 3]) rfl) (ni hprP (fun P => 29) (fun P => [P, P + 1, P + 2, (P + 2) + 1, (P + 2) + 2, (P + 2) + 3]) rfl)
    have e_52 : μ42.1 26 11 = μ10.1 26 11 := ((F_44.1 26 (ni hprP (fun P => 26) (fun P => [P, P + 1]) rfl) 11).trans (F_32.1 26 (ni hprP (fun P => 26) (fun P => [P + 2, (P + 2) + 1, (P + 2) + 2, (P + 2) + 3]) rfl) 11))
    have e_53 : μ42.1 26 11 = μ10.1 26 11 := ((F_44.1 26 (ni hprP (fun P => 26) (fun P => [P, P + 1]) rfl) 11).trans (F_32.1 26 (ni hprP (fun P => 26) (fun P => [P + 2, (P + 2) + 1, (P + 2) + 2, (P + 2) + 3]) rfl) 11))
    have e_54 : μ42.1 26 10 = μ10.1 26 10 := ((F_44.1 26 (ni hprP (fun P => 26) (fun P => [P, P + 1]) rfl) 10).trans (F_32.1 26 (ni hprP (fun P => 26) (fun P => [P + 2, (P + 2) + 1, (P + 2) + 2, (P + 2) + 3]) rfl) 10))
    have e_55 : μ42.1 P 1 = μ30.1 P 1 + 1 := hs_48
    have e_56 : μ42.1 P 1 = μ30.1 P 1 + 1 := hs_48
    have e_57 : μ42.1 26 10 = μ10.1 26 10 := ((F_44.1 26 (ni hprP (fun P => 26) (fun P => [P, P + 1]) rfl) 10).trans (F_32.1 26 (ni hprP (fun P => 26) (fun P => [P + 2, (P + 2) + 1, (P + 2) + 2, (P + 2) + 3]) rfl) 10))
    have e_58 : μ42.1 26 11 = μ10.1 26 11 := ((F_44.1 26 (ni hprP (fun P => 26) (fun P => [P, P + 1]) rfl) 11).trans (F_32.1 26 (ni hprP (fun P => 26) (fun P => [P + 2, (P + 2) + 1, (P + 2) + 2, (P + 2) + 3]) rfl) 11))
    have e_59 : μ42.1 (P + 2) 3 = μ30.1 (P + 2) 3 := (F_44.1 (P + 2) (ni hprP (fun P => P + 2) (fun P => [P, P + 1]) rfl) 3)
    have e_60 : μ42.1 P 1 = μ30.1 P 1 + 1 := hs_48
    have e_61 : μ42.1 (P + 2) 3 = μ30.1 (P + 2) 3 := (F_44.1 (P + 2) (ni hprP (fun P => P + 2) (fun P => [P, P + 1]) rfl) 3)
    exact xr_v G hret hlk dX7_functionItself_68 ⟨(Fr.tr (Fr.tr (Fr.tr Fr.rf F_11 (si hprP (fun P => [26]) (fun P => [2, 3, 4, 23, 24, 26, P, P + 1, P + 2, (P + 2) + 1, (P + 2) + 2, (P + 2) + 3]) rfl)) F_32 (si hprP (fun P => [P + 2, (P + 2) + 1, (P + 2) + 2, (P + 2) + 3]) (fun P => [2, 3, 4, 23, 24, 26, P, P + 1, P + 2, (P + 2) + 1, (P + 2) + 2, (P + 2) + 3]) rfl)) F_44 (si hprP (fun P => [P, P + 1]) (fun P => [2, 3, 4, 23, 24, 26, P, P + 1, P + 2, (P + 2) + 1, (P + 2) + 2, (P + 2) + 3]) rfl)), hI_45, htk_51, (by omega), (by omega), (by omega), (by omega), (fun h0 => (PXE.ex (hpx_50 h0)).e (by omega)), (((F_44.1 23 (ni hprP (fun P => 23) (fun P => [P, P + 1]) rfl) 2).trans ((F_32.1 23 (ni hprP (fun P => 23) (fun P => [P + 2, (P + 2) + 1, (P + 2) + 2, (P + 2) + 3]) rfl) 2).trans ((F_11.1 23 (by decide) 2).trans hP.symm)))).trans hP, ((F_44.1 23 (ni hprP (fun P => 23) (fun P => [P, P + 1]) rfl) 5).trans ((F_32.1 23 (ni hprP (fun P => 23) (fun P => [P + 2, (P + 2) + 1, (P + 2) + 2, (P + 2) + 3]) rfl) 5).trans (F_11.1 23 (by decide) 5))), ((F_44.1 23 (ni hprP (fun P => 23) (fun P => [P, P + 1]) rfl) 6).trans ((F_32.1 23 (ni hprP (fun P => 23) (fun P => [P + 2, (P + 2) + 1, (P + 2) + 2, (P + 2) + 3]) rfl) 6).trans (F_11.1 23 (by decide) 6))), ((F_44.1 23 (ni hprP (fun P => 23) (fun P => [P, P + 1]) rfl) 7).trans ((F_32.1 23 (ni hprP (fun P => 23) (fun P => [P + 2, (P + 2) + 1, (P + 2) + 2, (P + 2) + 3]) rfl) 7).trans (F_11.1 23 (by decide) 7))), (((F_44.1 23 (ni hprP (fun P => 23) (fun P => [P, P + 1]) rfl) 8).trans ((F_32.1 23 (ni hprP (fun P => 23) (fun P => [P + 2, (P + 2) + 1, (P + 2) + 2, (P + 2) + 3]) rfl) 8).trans ((F_11.1 23 (by decide) 8).trans htt.symm)))).trans htt, ((F_44.1 23 (ni hprP (fun P => 23) (fun P => [P, P + 1]) rfl) 9).trans ((F_32.1 23 (ni hprP (fun P => 23) (fun P => [P + 2, (P + 2) + 1, (P + 2) + 2, (P + 2) + 3]) rfl) 9).trans (F_11.1 23 (by decide) 9))), ((F_44.1 23 (ni hprP (fun P => 23) (fun P => [P, P + 1]) rfl) 10).trans ((F_32.1 23 (ni hprP (fun P => 23) (fun P => [P + 2, (P + 2) + 1, (P + 2) + 2, (P + 2) + 3]) rfl) 10).trans (F_11.1 23 (by decide) 10))), ((F_44.1 26 (ni hprP (fun P => 26) (fun P => [P, P + 1]) rfl) 6).trans ((F_32.1 26 (ni hprP (fun P => 26) (fun P => [P + 2, (P + 2) + 1, (P + 2) + 2, (P + 2) + 3]) rfl) 6).trans hs_16)), (hs_49.trans ((F_32.1 P (ni hprP (fun P => P) (fun P => [P + 2, (P + 2) + 1, (P + 2) + 2, (P + 2) + 3]) rfl) 7).trans (F_11.1 P (ni hprP (fun P => P) (fun P => [26]) rfl) 7)))⟩
  · refine lv_aload_n hx hb dX7_functionItself_12 rfl (lv_at hl 1 rfl) ?_
    refine xa_getr G fd_X7 (a := 23) (x := 26) 0 rfl (by decide) rfl (wm 2 17 rfl rfl) ⟨rfl, rfl, rfl⟩ dX7_functionItself_13 rfl (G.sk 23 rfl) (by decide) rfl ?_
    refine xa_getN G fd_X10 (host := "FourTongues") (a := 26) 12 rfl (by decide) (by decide) ⟨rfl, rfl, rfl⟩ dX7_functionItself_16 rfl (v := .int (iv (μ.1 26 12))) (by rw [show μ.1 26 12 = μ.1 26 12 from rfl]; rfl) ?_
    have hr_62 : -2147483648 ≤ μ.1 26 12 ∧ μ.1 26 12 ≤ 2147483647 := by have h9 := G.hr (a := 26) (k := 12) rfl; exact h9
    refine lv_sipush (v := iv 229) hx hb dX7_functionItself_19 rfl ?_
    refine xb_isub hx hb dX7_functionItself_22 ?_
    refine lv_istore_n (lv' := [(1, .int (iv ((μ.1 26 12) - 229))), (0, .ref (oP ω 23))]) hx hb dX7_functionItself_23 rfl hl (by decide) rfl (fun ls hl => ?_)
    refine lv_aload_n hx hb dX7_functionItself_24 rfl (lv_at hl 1 rfl) ?_
    refine xa_getr G fd_X7 (a := 23) (x := 26) 0 rfl (by decide) rfl (wm 2 17 rfl rfl) ⟨rfl, rfl, rfl⟩ dX7_functionItself_25 rfl (G.sk 23 rfl) (by decide) rfl ?_
    have hn_63 : 0 ≤ μ.1 26 6 ∧ μ.1 26 6 ≤ 3001 := hI.nm.2.2.2.2.2.2.2.2.2.1
    have hn_64 : -1 ≤ μ.1 26 10 ∧ μ.1 26 10 ≤ 3000 := hI.nm.2.2.2.2.2.2.2.2.2.2.2.2
    refine xc_vV G (b := 26) (rest := []) (As := []) (c_X10_next ω l μ  hI (by omega) (by omega)) (wm 3 164 rfl rfl) (wm 3 157 rfl rfl) (wm 3 158 rfl rfl) rfl rfl (by decide) rfl (wm 1 13 rfl rfl) (wm 3 159 rfl rfl) (by decide) hR ⟨nfr hF (by decide), nlo hLo (by decide)⟩ (n := 0) rfl rfl (Nat.le_of_ble_eq_true rfl) hl.1 dX7_functionItself_28 (fun μ65 ρ d0 H locs hp G => ?_)
    obtain ⟨F_66, hI_67, hp_68, hp_69, hs_70, hs_71, hs_72, hs_73, hs_74⟩ := hp
    have hn_75 : -1 ≤ μ65.1 26 10 ∧ μ65.1 26 10 ≤ 3000 := hI_67.nm.2.2.2.2.2.2.2.2.2.2.2.2
    obtain ⟨htk_76, htk_76_s, htk_76_n⟩ := TK.nx hTK F_66 hs_71 hs_70 (by have h9 : μ.1 26 12 = μ.1 26 12 := rfl; omega) hp_68 hp_69
    clear hp_68 hp_69
    have htb_77 := htk_76.b
    refine lv_aload_n hx hb dX7_functionItself_31 rfl (lv_at hl 1 rfl) ?_
    refine lv_bipush (v := iv 46) hx hb dX7_functionItself_32 rfl ?_
    have hpx_78 : μ65.1 26 11 = 0 → PXE μ μ65 P tt 0 (-1) 1 := fun h0 => (hnil (by have h9 : μ.1 26 11 = μ.1 26 11 := rfl; have h8 : μ65.1 26 11 = μ.1 26 11 := hs_70; omega)).fr (K := [26]) (Fr.tr Fr.rf F_66 (by decide)) (npL_p (L := [26]) (by decide) hprP).1 (npL_p (L := [26]) (by decide) hprP).2.1
    have e_79 : μ65.1 26 11 = μ.1 26 11 := hs_70
    refine xc_vV G (b := 23) (rest := []) (As := [.int (iv 46)]) (c_X7_need_b ω l μ65 46 (by unfold ir; omega) hI_67 htk_76 (by omega)) (wm 3 169 rfl rfl) (wm 3 171 rfl rfl) (wm 0 11 rfl rfl) rfl rfl (by decide) rfl (wm 1 12 rfl rfl) (wm 3 172 rfl rfl) (by decide) hR ⟨nfr hF (by decide), nlo hLo (by decide)⟩ (n := 1) rfl rfl (Nat.le_of_ble_eq_true rfl) hl.1 dX7_functionItself_34 (fun μ80 ρ d0 H locs hp G => ?_)
    obtain ⟨F_81, hI_82, hp_83, hp_84, hp_85, hs_86, hs_87, hs_88, hs_89⟩ := hp
    have hn_90 : -1 ≤ μ80.1 26 10 ∧ μ80.1 26 10 ≤ 3000 := hI_82.nm.2.2.2.2.2.2.2.2.2.2.2.2
    have htb_91 := hp_83.b
    refine lv_aload_n hx hb dX7_functionItself_37 rfl (lv_at hl 1 rfl) ?_
    refine xa_getr G fd_X7 (a := 23) (x := 26) 0 rfl (by decide) rfl (wm 2 17 rfl rfl) ⟨rfl, rfl, rfl⟩ dX7_functionItself_38 rfl (G.sk 23 rfl) (by decide) rfl ?_
    refine xa_getN G fd_X10 (host := "FourTongues") (a := 26) 14 rfl (by decide) (by decide) ⟨rfl, rfl, rfl⟩ dX7_functionItself_41 rfl (v := .long (jv (μ80.1 26 14))) (by rw [show μ80.1 26 14 = μ80.1 26 14 from rfl]; rfl) ?_
    have hj_92 : jr (μ80.1 26 14) := by have h9 := G.hj (a := 26) (k := 14) rfl; exact h9
    refine lv_lstore_n (lv' := [(2, .long (jv (μ80.1 26 14))), (1, .int (iv ((μ.1 26 12) - 229))), (0, .ref (oP ω 23))]) hx hb dX7_functionItself_44 rfl hl (by decide) rfl (fun ls hl => ?_)
    refine lv_aload_n hx hb dX7_functionItself_45 rfl (lv_at hl 2 rfl) ?_
    refine lv_iconst (v := iv 1) hx hb dX7_functionItself_46 rfl ?_
    have hpx_93 : μ80.1 26 11 = 0 → PXE μ μ80 P tt 0 (-1) 1 := fun h0 => (hpx_78 (by have h9 : μ65.1 26 11 = μ.1 26 11 := hs_70; have h8 : μ80.1 26 11 = μ80.1 26 11 := rfl; omega)).fr (K := [26]) (Fr.tr Fr.rf F_81 (by decide)) (npL_p (L := [26]) (by decide) hprP).1 (npL_p (L := [26]) (by decide) hprP).2.1
    refine xc_vV G (b := 23) (rest := []) (As := [.int (iv 1)]) (c_X7_need_b ω l μ80 1 (by unfold ir; omega) hI_82 hp_83 (by omega)) (wm 3 169 rfl rfl) (wm 3 171 rfl rfl) (wm 0 11 rfl rfl) rfl rfl (by decide) rfl (wm 1 12 rfl rfl) (wm 3 172 rfl rfl) (by decide) hR ⟨nfr hF (by decide), nlo hLo (by decide)⟩ (n := 1) rfl rfl (Nat.le_of_ble_eq_true rfl) hl.1 dX7_functionItself_47 (fun μ94 ρ d0 H locs hp G => ?_)
    obtain ⟨F_95, hI_96, hp_97, hp_98, hp_99, hs_100, hs_101, hs_102, hs_103⟩ := hp
    have hn_104 : -1 ≤ μ94.1 26 10 ∧ μ94.1 26 10 ≤ 3000 := hI_96.nm.2.2.2.2.2.2.2.2.2.2.2.2
    have htb_105 := hp_97.b
    refine lv_aload_n hx hb dX7_functionItself_50 rfl (lv_at hl 2 rfl) ?_
    refine lv_bipush (v := iv 15) hx hb dX7_functionItself_51 rfl ?_
    refine lv_iload_n hx hb dX7_functionItself_53 rfl (lv_at hl 1 rfl) ?_
    refine lv_aload_n hx hb dX7_functionItself_54 rfl (lv_at hl 2 rfl) ?_
    refine xa_getr G fd_X7 (a := 23) (x := P) 2 rfl (by decide) rfl (wm 2 19 rfl rfl) ⟨rfl, rfl, rfl⟩ dX7_functionItself_55 rfl ((F_95.1 23 (by decide) 2).trans ((F_81.1 23 (by decide) 2).trans ((F_66.1 23 (by decide) 2).trans hP.symm))) (by omega) (hprP.hq ω ρ) ?_
    refine lv_iconst (v := iv 0) hx hb dX7_functionItself_58 rfl ?_
    refine lv_lload_n hx hb dX7_functionItself_59 rfl (lv_at hl 0 rfl) ?_
    refine lv_dconst0 hx hb dX7_functionItself_60 ?_
    refine xb_topd (fun dd_106 he_dd_106 => ?_)
    have hpx_107 : μ94.1 26 11 = 0 → PXE μ μ94 P tt 0 (-1) 1 := fun h0 => (hpx_93 (by have h9 : μ80.1 26 11 = μ80.1 26 11 := rfl; have h8 : μ94.1 26 11 = μ94.1 26 11 := rfl; omega)).fr (K := [26]) (Fr.tr Fr.rf F_95 (by decide)) (npL_p (L := [26]) (by decide) hprP).1 (npL_p (L := [26]) (by decide) hprP).2.1
    have hk_108 := hI.row (r := P + 2) (hprP.row)
    unfold rk at hk_108
    have e_109 : μ94.1 (P + 2) 3 = μ.1 (P + 2) 3 := ((F_95.1 (P + 2) (ni hprP (fun P => P + 2) (fun P => [26]) rfl) 3).trans ((F_81.1 (P + 2) (ni hprP (fun P => P + 2) (fun P => [26]) rfl) 3).trans (F_66.1 (P + 2) (ni hprP (fun P => P + 2) (fun P => [26]) rfl) 3)))
    have e_110 : μ94.1 (P + 2) 3 = μ.1 (P + 2) 3 := ((F_95.1 (P + 2) (ni hprP (fun P => P + 2) (fun P => [26]) rfl) 3).trans ((F_81.1 (P + 2) (ni hprP (fun P => P + 2) (fun P => [26]) rfl) 3).trans (F_66.1 (P + 2) (ni hprP (fun P => P + 2) (fun P => [26]) rfl) 3)))
    have e_111 : μ94.1 (P + 2) 3 = μ.1 (P + 2) 3 := ((F_95.1 (P + 2) (ni hprP (fun P => P + 2) (fun P => [26]) rfl) 3).trans ((F_81.1 (P + 2) (ni hprP (fun P => P + 2) (fun P => [26]) rfl) 3).trans (F_66.1 (P + 2) (ni hprP (fun P => P + 2) (fun P => [26]) rfl) 3)))
    have e_112 : μ94.1 (P + 2) 3 = μ.1 (P + 2) 3 := ((F_95.1 (P + 2) (ni hprP (fun P => P + 2) (fun P => [26]) rfl) 3).trans ((F_81.1 (P + 2) (ni hprP (fun P => P + 2) (fun P => [26]) rfl) 3).trans (F_66.1 (P + 2) (ni hprP (fun P => P + 2) (fun P => [26]) rfl) 3)))
    have e_113 : μ94.1 (P + 2) 3 = μ.1 (P + 2) 3 := ((F_95.1 (P + 2) (ni hprP (fun P => P + 2) (fun P => [26]) rfl) 3).trans ((F_81.1 (P + 2) (ni hprP (fun P => P + 2) (fun P => [26]) rfl) 3).trans (F_66.1 (P + 2) (ni hprP (fun P => P + 2) (fun P => [26]) rfl) 3)))
    refine xc_iV G (b := P) (rest := [.int (iv ((μ.1 26 12) - 229)), .int (iv 15), .ref (oP ω 23)]) (As := [.int (iv 0), .long (jv (μ80.1 26 14)), .double (dv dd_106)]) (c_X8_addConstant ω l μ94 P 0 (μ80.1 26 14) dd_106 (μ.1 (P + 2) 3) hprP (by unfold ir; omega) hj_92 hI_96 (by omega) (by omega)) (wm 4 67 rfl rfl) (wm 4 68 rfl rfl) (wm 4 69 rfl rfl) hprP.ly rfl (by decide) (hprP.hq ω ρ) (wm 1 9 rfl rfl) (wm 4 70 rfl rfl) (by decide) hR ⟨nfr hF (by decide), nlo hLo (by decide)⟩ (n := 3) rfl rfl (Nat.le_of_ble_eq_true rfl) hl.1 dX7_functionItself_61 (fun r_115 μ114 ρ d0 H locs hr_r_115 hp G => ?_)
    have hr_r_115 : -2147483648 ≤ r_115 ∧ r_115 ≤ 2147483647 := hr_r_115
    obtain ⟨F_116, hI_117, hp_118, hp_119⟩ := hp
    have hk_120 := hI_117.row (r := P + 2) (hprP.row)
    unfold rk at hk_120
    have hpx_121 : μ114.1 26 11 = 0 → PXE μ μ114 P tt 0 (-1) 1 := fun h0 => (hpx_107 (by have h9 : μ94.1 26 11 = μ94.1 26 11 := rfl; have h8 : μ114.1 26 11 = μ94.1 26 11 := (F_116.1 26 (ni hprP (fun P => 26) (fun P => [P + 2, (P + 2) + 1, (P + 2) + 2, (P + 2) + 3]) rfl) 11); omega)).fr (K := [P + 2, (P + 2) + 1, (P + 2) + 2, (P + 2) + 3]) (Fr.tr Fr.rf F_116 (si hprP (fun P => [P + 2, (P + 2) + 1, (P + 2) + 2, (P + 2) + 3]) (fun P => [P + 2, (P + 2) + 1, (P + 2) + 2, (P + 2) + 3]) rfl)) (ni hprP (fun P => P) (fun P => [P + 2, (P + 2) + 1, (P + 2) + 2, (P + 2) + 3]) rfl) (ni hprP (fun P => P + 1) (fun P => [P + 2, (P + 2) + 1, (P + 2) + 2, (P + 2) + 3]) rfl)
    have e_122 : μ114.1 23 2 = P := ((F_116.1 23 (ni hprP (fun P => 23) (fun P => [P + 2, (P + 2) + 1, (P + 2) + 2, (P + 2) + 3]) rfl) 2).trans ((F_95.1 23 (by decide) 2).trans ((F_81.1 23 (by decide) 2).trans ((F_66.1 23 (by decide) 2).trans hP.symm))))
    have e_123 : μ114.1 P 1 = μ.1 P 1 := ((F_116.1 P (ni hprP (fun P => P) (fun P => [P + 2, (P + 2) + 1, (P + 2) + 2, (P + 2) + 3]) rfl) 1).trans ((F_95.1 P (ni hprP (fun P => P) (fun P => [26]) rfl) 1).trans ((F_81.1 P (ni hprP (fun P => P) (fun P => [26]) rfl) 1).trans (F_66.1 P (ni hprP (fun P => P) (fun P => [26]) rfl) 1))))
    have e_124 : μ114.1 P 1 = μ.1 P 1 := ((F_116.1 P (ni hprP (fun P => P) (fun P => [P + 2, (P + 2) + 1, (P + 2) + 2, (P + 2) + 3]) rfl) 1).trans ((F_95.1 P (ni hprP (fun P => P) (fun P => [26]) rfl) 1).trans ((F_81.1 P (ni hprP (fun P => P) (fun P => [26]) rfl) 1).trans (F_66.1 P (ni hprP (fun P => P) (fun P => [26]) rfl) 1))))
    have e_125 : μ114.1 26 12 = μ94.1 26 12 := (F_116.1 26 (ni hprP (fun P => 26) (fun P => [P + 2, (P + 2) + 1, (P + 2) + 2, (P + 2) + 3]) rfl) 12)
    have e_126 : μ114.1 P 1 = μ.1 P 1 := ((F_116.1 P (ni hprP (fun P => P) (fun P => [P + 2, (P + 2) + 1, (P + 2) + 2, (P + 2) + 3]) rfl) 1).trans ((F_95.1 P (ni hprP (fun P => P) (fun P => [26]) rfl) 1).trans ((F_81.1 P (ni hprP (fun P => P) (fun P => [26]) rfl) 1).trans (F_66.1 P (ni hprP (fun P => P) (fun P => [26]) rfl) 1))))
    refine xc_iV G (b := 23) (rest := []) (As := [.int (iv 15), .int (iv ((μ.1 26 12) - 229)), .int (iv r_115)]) (c_X7_add ω l μ114 15 ((μ.1 26 12) - 229) r_115 P (by unfold ir; omega) (by unfold ir; omega) (by unfold ir; omega) hI_117 (by omega) (by omega)) (wm 3 226 rfl rfl) (wm 3 228 rfl rfl) (wm 0 21 rfl rfl) rfl rfl (by decide) rfl (wm 1 12 rfl rfl) (wm 3 229 rfl rfl) (by decide) hR ⟨nfr hF (by decide), nlo hLo (by decide)⟩ (n := 3) rfl rfl (Nat.le_of_ble_eq_true rfl) hl.1 dX7_functionItself_64 (fun r_128 μ127 ρ d0 H locs hr_r_128 hp G => ?_)
    have hr_r_128 : -2147483648 ≤ r_128 ∧ r_128 ≤ 2147483647 := hr_r_128
    obtain ⟨F_129, hI_130, hp_131, hp_132, hs_133, hs_134⟩ := hp
    have hpx_135 : μ127.1 26 11 = 0 → PXE μ μ127 P tt 1 (-1) 1 := fun h0 => (PXE.app (hpx_121 (by have h9 : μ114.1 26 11 = μ94.1 26 11 := (F_116.1 26 (ni hprP (fun P => 26) (fun P => [P + 2, (P + 2) + 1, (P + 2) + 2, (P + 2) + 3]) rfl) 11); have h8 : μ127.1 26 11 = μ94.1 26 11 := ((F_129.1 26 (ni hprP (fun P => 26) (fun P => [P, P + 1]) rfl) 11).trans (F_116.1 26 (ni hprP (fun P => 26) (fun P => [P + 2, (P + 2) + 1, (P + 2) + 2, (P + 2) + 3]) rfl) 11)); omega)) (EX.pl hp_132 (by omega) (by unfold plain; omega) (e := 1) rfl (by have h9 := hs_1 (μ := μ114) (P := P) (i := μ114.1 P 1); omega))).e (by omega)
    refine lv_pop hx hb dX7_functionItself_67 rfl ?_
    have htk_136 : TK μ127 := hp_97.fr (K := [P, P + 1, P + 2, (P + 2) + 1, (P + 2) + 2, (P + 2) + 3]) (Fr.tr (Fr.tr Fr.rf F_116 (si hprP (fun P => [P + 2, (P + 2) + 1, (P + 2) + 2, (P + 2) + 3]) (fun P => [P, P + 1, P + 2, (P + 2) + 1, (P + 2) + 2, (P + 2) + 3]) rfl)) F_129 (si hprP (fun P => [P, P + 1]) (fun P => [P, P + 1, P + 2, (P + 2) + 1, (P + 2) + 2, (P + 2) + 3]) rfl)) (ni hprP (fun P => 26) (fun P => [P, P + 1, P + 2, (P + 2) + 1, (P + 2) + 2, (P + 2) + 3]) rfl) (ni hprP (fun P => 28) (fun P => [P, P + 1, P + 2, (P + 2) + 1, (P + 2) + 2, (P + 2) + 3]) rfl) (ni hprP (fun P => 29) (fun P => [P, P + 1, P + 2, (P + 2) + 1, (P + 2) + 2, (P + 2) + 3]) rfl)
    have e_137 : μ127.1 26 11 = μ94.1 26 11 := ((F_129.1 26 (ni hprP (fun P => 26) (fun P => [P, P + 1]) rfl) 11).trans (F_116.1 26 (ni hprP (fun P => 26) (fun P => [P + 2, (P + 2) + 1, (P + 2) + 2, (P + 2) + 3]) rfl) 11))
    have e_138 : μ127.1 26 11 = μ94.1 26 11 := ((F_129.1 26 (ni hprP (fun P => 26) (fun P => [P, P + 1]) rfl) 11).trans (F_116.1 26 (ni hprP (fun P => 26) (fun P => [P + 2, (P + 2) + 1, (P + 2) + 2, (P + 2) + 3]) rfl) 11))
    have e_139 : μ127.1 26 10 = μ94.1 26 10 := ((F_129.1 26 (ni hprP (fun P => 26) (fun P => [P, P + 1]) rfl) 10).trans (F_116.1 26 (ni hprP (fun P => 26) (fun P => [P + 2, (P + 2) + 1, (P + 2) + 2, (P + 2) + 3]) rfl) 10))
    have e_140 : μ127.1 P 1 = μ114.1 P 1 + 1 := hs_133
    have e_141 : μ127.1 P 1 = μ114.1 P 1 + 1 := hs_133
    have e_142 : μ127.1 26 10 = μ94.1 26 10 := ((F_129.1 26 (ni hprP (fun P => 26) (fun P => [P, P + 1]) rfl) 10).trans (F_116.1 26 (ni hprP (fun P => 26) (fun P => [P + 2, (P + 2) + 1, (P + 2) + 2, (P + 2) + 3]) rfl) 10))
    have e_143 : μ127.1 26 11 = μ94.1 26 11 := ((F_129.1 26 (ni hprP (fun P => 26) (fun P => [P, P + 1]) rfl) 11).trans (F_116.1 26 (ni hprP (fun P => 26) (fun P => [P + 2, (P + 2) + 1, (P + 2) + 2, (P + 2) + 3]) rfl) 11))
    have e_144 : μ127.1 (P + 2) 3 = μ114.1 (P + 2) 3 := (F_129.1 (P + 2) (ni hprP (fun P => P + 2) (fun P => [P, P + 1]) rfl) 3)
    have e_145 : μ127.1 P 1 = μ114.1 P 1 + 1 := hs_133
    have e_146 : μ127.1 (P + 2) 3 = μ114.1 (P + 2) 3 := (F_129.1 (P + 2) (ni hprP (fun P => P + 2) (fun P => [P, P + 1]) rfl) 3)
    exact xr_v G hret hlk dX7_functionItself_68 ⟨(Fr.tr (Fr.tr (Fr.tr (Fr.tr (Fr.tr Fr.rf F_66 (si hprP (fun P => [26]) (fun P => [2, 3, 4, 23, 24, 26, P, P + 1, P + 2, (P + 2) + 1, (P + 2) + 2, (P + 2) + 3]) rfl)) F_81 (si hprP (fun P => [26]) (fun P => [2, 3, 4, 23, 24, 26, P, P + 1, P + 2, (P + 2) + 1, (P + 2) + 2, (P + 2) + 3]) rfl)) F_95 (si hprP (fun P => [26]) (fun P => [2, 3, 4, 23, 24, 26, P, P + 1, P + 2, (P + 2) + 1, (P + 2) + 2, (P + 2) + 3]) rfl)) F_116 (si hprP (fun P => [P + 2, (P + 2) + 1, (P + 2) + 2, (P + 2) + 3]) (fun P => [2, 3, 4, 23, 24, 26, P, P + 1, P + 2, (P + 2) + 1, (P + 2) + 2, (P + 2) + 3]) rfl)) F_129 (si hprP (fun P => [P, P + 1]) (fun P => [2, 3, 4, 23, 24, 26, P, P + 1, P + 2, (P + 2) + 1, (P + 2) + 2, (P + 2) + 3]) rfl)), hI_130, htk_136, (by omega), (by omega), (by omega), (by omega), (fun h0 => (PXE.ex (hpx_135 h0)).e (by omega)), (((F_129.1 23 (ni hprP (fun P => 23) (fun P => [P, P + 1]) rfl) 2).trans ((F_116.1 23 (ni hprP (fun P => 23) (fun P => [P + 2, (P + 2) + 1, (P + 2) + 2, (P + 2) + 3]) rfl) 2).trans ((F_95.1 23 (by decide) 2).trans ((F_81.1 23 (by decide) 2).trans ((F_66.1 23 (by decide) 2).trans hP.symm)))))).trans hP, ((F_129.1 23 (ni hprP (fun P => 23) (fun P => [P, P + 1]) rfl) 5).trans ((F_116.1 23 (ni hprP (fun P => 23) (fun P => [P + 2, (P + 2) + 1, (P + 2) + 2, (P + 2) + 3]) rfl) 5).trans ((F_95.1 23 (by decide) 5).trans ((F_81.1 23 (by decide) 5).trans (F_66.1 23 (by decide) 5))))), ((F_129.1 23 (ni hprP (fun P => 23) (fun P => [P, P + 1]) rfl) 6).trans ((F_116.1 23 (ni hprP (fun P => 23) (fun P => [P + 2, (P + 2) + 1, (P + 2) + 2, (P + 2) + 3]) rfl) 6).trans ((F_95.1 23 (by decide) 6).trans ((F_81.1 23 (by decide) 6).trans (F_66.1 23 (by decide) 6))))), ((F_129.1 23 (ni hprP (fun P => 23) (fun P => [P, P + 1]) rfl) 7).trans ((F_116.1 23 (ni hprP (fun P => 23) (fun P => [P + 2, (P + 2) + 1, (P + 2) + 2, (P + 2) + 3]) rfl) 7).trans ((F_95.1 23 (by decide) 7).trans ((F_81.1 23 (by decide) 7).trans (F_66.1 23 (by decide) 7))))), (((F_129.1 23 (ni hprP (fun P => 23) (fun P => [P, P + 1]) rfl) 8).trans ((F_116.1 23 (ni hprP (fun P => 23) (fun P => [P + 2, (P + 2) + 1, (P + 2) + 2, (P + 2) + 3]) rfl) 8).trans ((F_95.1 23 (by decide) 8).trans ((F_81.1 23 (by decide) 8).trans ((F_66.1 23 (by decide) 8).trans htt.symm)))))).trans htt, ((F_129.1 23 (ni hprP (fun P => 23) (fun P => [P, P + 1]) rfl) 9).trans ((F_116.1 23 (ni hprP (fun P => 23) (fun P => [P + 2, (P + 2) + 1, (P + 2) + 2, (P + 2) + 3]) rfl) 9).trans ((F_95.1 23 (by decide) 9).trans ((F_81.1 23 (by decide) 9).trans (F_66.1 23 (by decide) 9))))), ((F_129.1 23 (ni hprP (fun P => 23) (fun P => [P, P + 1]) rfl) 10).trans ((F_116.1 23 (ni hprP (fun P => 23) (fun P => [P + 2, (P + 2) + 1, (P + 2) + 2, (P + 2) + 3]) rfl) 10).trans ((F_95.1 23 (by decide) 10).trans ((F_81.1 23 (by decide) 10).trans (F_66.1 23 (by decide) 10))))), ((F_129.1 26 (ni hprP (fun P => 26) (fun P => [P, P + 1]) rfl) 6).trans ((F_116.1 26 (ni hprP (fun P => 26) (fun P => [P + 2, (P + 2) + 1, (P + 2) + 2, (P + 2) + 3]) rfl) 6).trans (hs_100.trans (hs_86.trans hs_71)))), (hs_134.trans ((F_116.1 P (ni hprP (fun P => P) (fun P => [P + 2, (P + 2) + 1, (P + 2) + 2, (P + 2) + 3]) rfl) 7).trans ((F_95.1 P (ni hprP (fun P => P) (fun P => [26]) rfl) 7).trans ((F_81.1 P (ni hprP (fun P => P) (fun P => [26]) rfl) 7).trans (F_66.1 P (ni hprP (fun P => P) (fun P => [26]) rfl) 7)))))⟩
