set_option maxRecDepth 100000 in
theorem in_X11_addBytes_RX11 : ∀ w ∈ u_ws RX11 TX11 9, w ∈ wsX11_addBytes := by decide +kernel
set_option maxRecDepth 100000 in
theorem in_X11_feed_RX11 : ∀ w ∈ u_ws RX11 TX11 9, w ∈ wsX11_feed := by decide +kernel
set_option maxRecDepth 100000 in
theorem in_X11_fault_RX11 : ∀ w ∈ u_ws RX11 TX11 9, w ∈ wsX11_fault := by decide +kernel
set_option maxRecDepth 100000 in
theorem in_X4_answered_RX4 : ∀ w ∈ u_ws RX4 TX4 17, w ∈ wsX4_answered := by decide +kernel
set_option maxRecDepth 100000 in
theorem in_X11_answer_RX11 : ∀ w ∈ u_ws RX11 TX11 9, w ∈ wsX11_answer := by decide +kernel
set_option maxRecDepth 100000 in
theorem in_X4_told_RX4 : ∀ w ∈ u_ws RX4 TX4 17, w ∈ wsX4_told := by decide +kernel
set_option maxRecDepth 100000 in
theorem in_X5_inAll_RX5 : ∀ w ∈ u_ws RX5 TX5 5, w ∈ wsX5_inAll := by decide +kernel
set_option maxRecDepth 100000 in
theorem in_X11_look_RX11 : ∀ w ∈ u_ws RX11 TX11 9, w ∈ wsX11_look := by decide +kernel
set_option maxRecDepth 100000 in
theorem in_X9_kind_RX9 : ∀ w ∈ u_ws RX9 TX9 4, w ∈ wsX9_kind := by decide +kernel
set_option maxRecDepth 100000 in
theorem in_X9_whole_RX9 : ∀ w ∈ u_ws RX9 TX9 4, w ∈ wsX9_whole := by decide +kernel
set_option maxRecDepth 100000 in
theorem in_X9_count_RX9 : ∀ w ∈ u_ws RX9 TX9 4, w ∈ wsX9_count := by decide +kernel
set_option maxRecDepth 100000 in
theorem in_X4_markOf_RX4 : ∀ w ∈ u_ws RX4 TX4 17, w ∈ wsX4_markOf := by decide +kernel
set_option maxRecDepth 100000 in
theorem in_X11_mark_RX11 : ∀ w ∈ u_ws RX11 TX11 9, w ∈ wsX11_mark := by decide +kernel
set_option maxRecDepth 100000 in
theorem in_X4_tongueOfMark_RX4 : ∀ w ∈ u_ws RX4 TX4 17, w ∈ wsX4_tongueOfMark := by decide +kernel
set_option maxRecDepth 100000 in
theorem in_X11_markTongue_RX11 : ∀ w ∈ u_ws RX11 TX11 9, w ∈ wsX11_markTongue := by decide +kernel
set_option maxRecDepth 100000 in
theorem in_X4_factOf_RX4 : ∀ w ∈ u_ws RX4 TX4 17, w ∈ wsX4_factOf := by decide +kernel
set_option maxRecDepth 100000 in
theorem in_X11_failure_RX11 : ∀ w ∈ u_ws RX11 TX11 9, w ∈ wsX11_failure := by decide +kernel
set_option maxRecDepth 100000 in
theorem in_X4_factUnder_RX4 : ∀ w ∈ u_ws RX4 TX4 17, w ∈ wsX4_factUnder := by decide +kernel
set_option maxRecDepth 100000 in
theorem in_X11_under_RX11 : ∀ w ∈ u_ws RX11 TX11 9, w ∈ wsX11_under := by decide +kernel
/-- no TONGUE -/
def ng (x : Int32) : Prop := x < 0 ∨ 4 ≤ x
theorem ng_cases {x : Int32} (h : ¬ ng x) : x = 0 ∨ x = 1 ∨ x = 2 ∨ x = 3 := by
  have h1 : ¬ x < 0 := fun q => h (Or.inl q)
  have h2 : ¬ 4 ≤ x := fun q => h (Or.inr q)
  obtain ⟨j, hj, rfl⟩ := nI_of h1
  have h3 : j < 4 := Nat.lt_of_not_le (fun q => h2 (nI_le (a := 4) q hj))
  rcases (show j = 0 ∨ j = 1 ∨ j = 2 ∨ j = 3 by omega) with rfl | rfl | rfl | rfl
  · exact Or.inl rfl
  · exact Or.inr (Or.inl rfl)
  · exact Or.inr (Or.inr (Or.inl rfl))
  · exact Or.inr (Or.inr (Or.inr rfl))
theorem eq0_of {x : Int32} (h1 : ¬ x < 0) (h2 : x ≤ 0) : x = 0 := Int32.le_antisymm h2 (Int32.not_lt.mp h1)
theorem ne0_lt {x : Int32} (h : x < 0) : ¬ x = 0 := fun q => by subst q; exact absurd h (by decide)
theorem ne0_gt {x : Int32} (h : ¬ x ≤ 0) : ¬ x = 0 := fun q => by subst q; exact absurd h (by decide)
theorem my_vpin {x y : Int32} {n : Nat} (h1 : ¬ x < 0) (h2 : ¬ y ≤ x) (hn : n < 2 ^ 31) (hy : y = Int32.ofNat n) : vp_in x n := by
  subst hy
  obtain ⟨j, hj, rfl⟩ := nI_of h1
  exact vp_in_nI (Nat.lt_of_not_le (fun q => h2 (nI_le q hj))) hn
set_option maxHeartbeats 4000000 in
set_option maxRecDepth 100000 in
theorem c_X11_isTongue (l : Launch) (dC : Nat → ClassId) (dI : Nat → Nat → Nat) (x1 : Int32) : Met l yX11_isTongue wsX11_isTongue ({ frames := 0, cells := 0, slots := 0, locals := 0 }) (va_Pc [.int x1] (fun U => xR (dC, dI) [] [] U)) (va_Qi (fun (r : Int32) (_ : Unit) => (ng x1 ∧ r = 0) ∨ (¬ ng x1 ∧ r = 1)) (fun (_ : Unit) _ => True) (fun _ => False)) 0 0 (fun _ => False) := by
  refine Met.ofW (cc := cX11_isTongue) (maxL := 1) (ret := (some .boolean)) (by decide) rfl ?_
  intro p e s m args below meth c s₁ B hml hv
  obtain ⟨rfl, hP, hK⟩ := hv
  have hx := B.exec
  have hb := B.bytes
  have hr := B.returns
  have hts := atoms_spec (ws := wsX11_isTongue) B.pre
  have hown : s.vm.findClass RX11 = some m.cls := findClass_of_methodNamed B.named
  have hlocks := B.notSynchronized
  have hS : va_S (fun _ => False) s.heap s.heap [] := va_S.rf
  have hl := lv_entry ([.int x1]) (n := 1) (Nat.le_of_ble_eq_true rfl)
  rw [lg_entry_eq]
  generalize (lg_sl ([.int x1]) ++ List.replicate (1 - (lg_sl ([.int x1])).length) Slot.unset).toArray = ls at hl ⊢
  have hl : lv_has ls 1 [(0, .int x1)] := hl
  refine lv_iload_n hx hb dX11_isTongue_0 rfl (lv_at hl 0 rfl) ?_
  refine lv_if_lt (tgt := 13) hx hb dX11_isTongue_1 (by decide) (fun c_1 => ?_) (fun c_1 => ?_)
  · refine lv_iconst (v := 0) hx hb dX11_isTongue_13 (by decide) ?_
    exact W.zret (v := 0) hx hb hr rfl (fun t ht hW => ⟨⟨0, (), rfl, Or.inl ⟨Or.inl c_1, rfl⟩, trivial⟩, hS.F ht⟩) hS.2.2 dX11_isTongue_14
  · refine lv_iload_n hx hb dX11_isTongue_4 rfl (lv_at hl 0 rfl) ?_
    refine lv_iconst (v := 4) hx hb dX11_isTongue_5 (by decide) ?_
    refine lv_icmp_ge (tgt := 13) hx hb dX11_isTongue_6 (by decide) (fun c_6 => ?_) (fun c_6 => ?_)
    · refine lv_iconst (v := 0) hx hb dX11_isTongue_13 (by decide) ?_
      exact W.zret (v := 0) hx hb hr rfl (fun t ht hW => ⟨⟨0, (), rfl, Or.inl ⟨Or.inr c_6, rfl⟩, trivial⟩, hS.F ht⟩) hS.2.2 dX11_isTongue_14
    · refine lv_iconst (v := 1) hx hb dX11_isTongue_9 (by decide) ?_
      refine lv_goto (tgt := 14) hx hb dX11_isTongue_10 (by decide) ?_
      exact W.zret (v := 1) hx hb hr rfl (fun t ht hW => ⟨⟨1, (), rfl, Or.inr ⟨fun q => q.elim c_1 c_6, rfl⟩, trivial⟩, hS.F ht⟩) hS.2.2 dX11_isTongue_14

set_option maxHeartbeats 4000000 in
set_option maxRecDepth 100000 in
theorem c_X11_addBytes_0 (l : Launch) (dC : Nat → ClassId) (dI : Nat → Nat → Nat) (sz : Nat) (h0 : Nat) (v_tape : Nat) (v_names : Nat) (v_borders : Nat) (v_programs : Nat) (v_draft : Nat) (v_parser : Nat) (v_machine : Nat) (c_v_tape : ClassId) (f_tape : Nat → Int32) (x1 : Int32) : Met l yX11_addBytes wsX11_addBytes ({ frames := 0, cells := 0, slots := 0, locals := 0 }) (va_Pc [.ref h0, .int x1] (fun U => xM (dC, dI) sz [(h0, .inr (10, [.ref v_tape, .int 0, .int 0, .ref v_names, .ref v_borders, .ref v_programs, .ref v_draft, .ref v_parser, .ref v_machine])), (v_tape, .inl (c_v_tape, 3000, .inl f_tape))] [(c_v_tape, .byte)] U)) (va_Qv (fun _ : Unit => True) (fun (_ : Unit) t => ∃ (f_4 : Nat → Int32), xB (dC, dI) [(h0, .inr (10, [.ref v_tape, .int 4, .int 0, .ref v_names, .ref v_borders, .ref v_programs, .ref v_draft, .ref v_parser, .ref v_machine])), (v_tape, .inl (c_v_tape, 3000, .inl f_4))] [(c_v_tape, .byte)] (va_A [(h0, .inr (10, [.ref v_tape, .int 0, .int 0, .ref v_names, .ref v_borders, .ref v_programs, .ref v_draft, .ref v_parser, .ref v_machine])), (v_tape, .inl (c_v_tape, 3000, .inl f_tape))] sz) t) (va_A [(h0, .inr (10, [.ref v_tape, .int 0, .int 0, .ref v_names, .ref v_borders, .ref v_programs, .ref v_draft, .ref v_parser, .ref v_machine])), (v_tape, .inl (c_v_tape, 3000, .inl f_tape))] sz)) 0 0 (va_A [(h0, .inr (10, [.ref v_tape, .int 0, .int 0, .ref v_names, .ref v_borders, .ref v_programs, .ref v_draft, .ref v_parser, .ref v_machine])), (v_tape, .inl (c_v_tape, 3000, .inl f_tape))] sz) := by
  refine Met.ofW (cc := cX11_addBytes) (maxL := 3) (ret := none) (by decide) rfl ?_
  intro p e s m args below meth c s₁ B hml hv
  obtain ⟨rfl, hsz, hP, hK, hD0⟩ := hv
  have hx := B.exec
  have hb := B.bytes
  have hr := B.returns
  have hts := atoms_spec (ws := wsX11_addBytes) B.pre
  have hown : s.vm.findClass RX11 = some m.cls := findClass_of_methodNamed B.named
  have hlocks := B.notSynchronized
  subst hsz
  have hD := hD0.self (sz := s.heap.size)
  generalize hAe : va_A [(h0, .inr (10, [.ref v_tape, .int 0, .int 0, .ref v_names, .ref v_borders, .ref v_programs, .ref v_draft, .ref v_parser, .ref v_machine])), (v_tape, .inl (c_v_tape, 3000, .inl f_tape))] s.heap.size = A at hD ⊢
  have hA : ∀ q : Nat, s.heap.size ≤ q → A q := fun q h => by rw [← hAe]; exact Or.inr h
  have hS : va_S A s.heap s.heap [] := va_S.rf
  have hl := lv_entry ([.ref h0, .int x1]) (n := 3) (Nat.le_of_ble_eq_true rfl)
  rw [lg_entry_eq]
  generalize (lg_sl ([.ref h0, .int x1]) ++ List.replicate (3 - (lg_sl ([.ref h0, .int x1])).length) Slot.unset).toArray = ls at hl ⊢
  have hl : lv_has ls 3 [(0, .ref h0), (1, .int x1)] := hl
  refine lv_bipush (v := 24) hx hb dX11_addBytes_0 (by decide) ?_
  refine lv_istore_n (lv' := [(2, .int 24), (0, .ref h0), (1, .int x1)]) hx hb dX11_addBytes_2 rfl hl (by decide) rfl (fun ls hl => ?_)
  refine lv_iload_n hx hb dX11_addBytes_3 rfl (lv_at hl 0 rfl) ?_
  refine lv_if_lt (tgt := 46) hx hb dX11_addBytes_4 (by decide) (fun c_4 => absurd c_4 (by decide)) (fun c_4 => ?_)
  refine lv_aload_n hx hb dX11_addBytes_7 rfl (lv_at hl 1 rfl) ?_
  refine va_get (D := (dC, dI)) (ci := 10) (v := .int 0) (C := RX11) (T := TX11) (N := 9) hx hb hts in_X11_addBytes_RX11 hown hK hP 0 rfl rfl 1 (by decide) (hts (.fieldLink RX11 13 "FourTongues" "taped" "I") (by decide +kernel)) (fun _ h9 => h9) rfl dX11_addBytes_8 ?_
  refine lv_sipush (v := 3000) hx hb dX11_addBytes_11 (by decide) ?_
  refine lv_icmp_ge (tgt := 46) hx hb dX11_addBytes_14 (by decide) (fun c_14 => absurd c_14 (by decide)) (fun c_14 => ?_)
  refine lv_aload_n hx hb dX11_addBytes_17 rfl (lv_at hl 1 rfl) ?_
  refine va_get (D := (dC, dI)) (ci := 10) (v := .ref v_tape) (C := RX11) (T := TX11) (N := 9) hx hb hts in_X11_addBytes_RX11 hown hK hP 0 rfl rfl 0 (by decide) (hts (.fieldLink RX11 9 "FourTongues" "tape" "[B") (by decide +kernel)) (fun _ h9 => h9) rfl dX11_addBytes_18 ?_
  refine lv_aload_n hx hb dX11_addBytes_21 rfl (lv_at hl 1 rfl) ?_
  refine va_get (D := (dC, dI)) (ci := 10) (v := .int 0) (C := RX11) (T := TX11) (N := 9) hx hb hts in_X11_addBytes_RX11 hown hK hP 0 rfl rfl 1 (by decide) (hts (.fieldLink RX11 13 "FourTongues" "taped" "I") (by decide +kernel)) (fun _ h9 => h9) rfl dX11_addBytes_22 ?_
  refine lv_iload_n hx hb dX11_addBytes_25 rfl (lv_at hl 2 rfl) ?_
  refine lv_iload_n hx hb dX11_addBytes_26 rfl (lv_at hl 0 rfl) ?_
  refine lv_ishr hx hb dX11_addBytes_27 ?_
  refine lv_i2b (v := (x1 >>> (24 &&& 31)).toInt8.toInt32) hx hb dX11_addBytes_28 rfl ?_
  refine va_bast hx hb hK hP hD hS 1 0 rfl rfl (by unfold vp_in; decide) dX11_addBytes_29 (fun H locs hP hD hS => ?_)
  obtain ⟨f_1, ef_1⟩ : ∃ y : Nat → Int32, y = upd f_tape ((0 : Int32).toNatClampNeg) (vp_nar .byte ((x1 >>> (24 &&& 31)).toInt8.toInt32)) := ⟨_, rfl⟩
  rw [← ef_1] at hP hD
  have hP : va_P (dC, dI) vwCl [(h0, .inr (10, [.ref v_tape, .int 0, .int 0, .ref v_names, .ref v_borders, .ref v_programs, .ref v_draft, .ref v_parser, .ref v_machine])), (v_tape, .inl (c_v_tape, 3000, .inl f_1))] _ := hP
  have hD : va_D A [(h0, .inr (10, [.ref v_tape, .int 0, .int 0, .ref v_names, .ref v_borders, .ref v_programs, .ref v_draft, .ref v_parser, .ref v_machine])), (v_tape, .inl (c_v_tape, 3000, .inl f_1))] := hD
  refine lv_aload_n hx hb dX11_addBytes_30 rfl (lv_at hl 1 rfl) ?_
  refine lv_dup hx hb dX11_addBytes_31 rfl ?_
  refine va_get (D := (dC, dI)) (ci := 10) (v := .int 0) (C := RX11) (T := TX11) (N := 9) hx hb hts in_X11_addBytes_RX11 hown hK hP 0 rfl rfl 1 (by decide) (hts (.fieldLink RX11 13 "FourTongues" "taped" "I") (by decide +kernel)) (fun _ h9 => h9) rfl dX11_addBytes_32 ?_
  refine lv_iconst (v := 1) hx hb dX11_addBytes_35 (by decide) ?_
  refine lv_iadd hx hb dX11_addBytes_36 ?_
  refine my_ti (v := 1) (by decide) ?_
  refine va_put (D := (dC, dI)) (ci := 10) (v := .int 1) (ty := .int) (C := RX11) (T := TX11) (N := 9) hx hb hts in_X11_addBytes_RX11 tyX11 tyX11_ok nmX11 hown hK hP hD hS 0 rfl rfl 1 (by decide) (hts (.fieldLink RX11 13 "FourTongues" "taped" "I") (by decide +kernel)) (fun _ h9 => h9) rfl (by decide +kernel) rfl rfl (Nat.le_of_ble_eq_true rfl) dX11_addBytes_37 (fun H locs hP hD hS => ?_)
  have hP : va_P (dC, dI) vwCl [(h0, .inr (10, [.ref v_tape, .int 1, .int 0, .ref v_names, .ref v_borders, .ref v_programs, .ref v_draft, .ref v_parser, .ref v_machine])), (v_tape, .inl (c_v_tape, 3000, .inl f_1))] _ := hP
  have hD : va_D A [(h0, .inr (10, [.ref v_tape, .int 1, .int 0, .ref v_names, .ref v_borders, .ref v_programs, .ref v_draft, .ref v_parser, .ref v_machine])), (v_tape, .inl (c_v_tape, 3000, .inl f_1))] := hD
  refine lv_iinc (v := 16) (lv' := [(2, .int 16), (0, .ref h0), (1, .int x1)]) hx hb dX11_addBytes_40 hl (k := 0) rfl (by decide) (by decide) rfl (fun ls hl => ?_)
  refine lv_goto (tgt := 3) hx hb dX11_addBytes_43 (by decide) ?_
  refine lv_iload_n hx hb dX11_addBytes_3 rfl (lv_at hl 0 rfl) ?_
  refine lv_if_lt (tgt := 46) hx hb dX11_addBytes_4 (by decide) (fun c_4 => absurd c_4 (by decide)) (fun c_4 => ?_)
  refine lv_aload_n hx hb dX11_addBytes_7 rfl (lv_at hl 1 rfl) ?_
  refine va_get (D := (dC, dI)) (ci := 10) (v := .int 1) (C := RX11) (T := TX11) (N := 9) hx hb hts in_X11_addBytes_RX11 hown hK hP 0 rfl rfl 1 (by decide) (hts (.fieldLink RX11 13 "FourTongues" "taped" "I") (by decide +kernel)) (fun _ h9 => h9) rfl dX11_addBytes_8 ?_
  refine lv_sipush (v := 3000) hx hb dX11_addBytes_11 (by decide) ?_
  refine lv_icmp_ge (tgt := 46) hx hb dX11_addBytes_14 (by decide) (fun c_14 => absurd c_14 (by decide)) (fun c_14 => ?_)
  refine lv_aload_n hx hb dX11_addBytes_17 rfl (lv_at hl 1 rfl) ?_
  refine va_get (D := (dC, dI)) (ci := 10) (v := .ref v_tape) (C := RX11) (T := TX11) (N := 9) hx hb hts in_X11_addBytes_RX11 hown hK hP 0 rfl rfl 0 (by decide) (hts (.fieldLink RX11 9 "FourTongues" "tape" "[B") (by decide +kernel)) (fun _ h9 => h9) rfl dX11_addBytes_18 ?_
  refine lv_aload_n hx hb dX11_addBytes_21 rfl (lv_at hl 1 rfl) ?_
  refine va_get (D := (dC, dI)) (ci := 10) (v := .int 1) (C := RX11) (T := TX11) (N := 9) hx hb hts in_X11_addBytes_RX11 hown hK hP 0 rfl rfl 1 (by decide) (hts (.fieldLink RX11 13 "FourTongues" "taped" "I") (by decide +kernel)) (fun _ h9 => h9) rfl dX11_addBytes_22 ?_
  refine lv_iload_n hx hb dX11_addBytes_25 rfl (lv_at hl 2 rfl) ?_
  refine lv_iload_n hx hb dX11_addBytes_26 rfl (lv_at hl 0 rfl) ?_
  refine lv_ishr hx hb dX11_addBytes_27 ?_
  refine lv_i2b (v := (x1 >>> (16 &&& 31)).toInt8.toInt32) hx hb dX11_addBytes_28 rfl ?_
  refine va_bast hx hb hK hP hD hS 1 0 rfl rfl (by unfold vp_in; decide) dX11_addBytes_29 (fun H locs hP hD hS => ?_)
  obtain ⟨f_2, ef_2⟩ : ∃ y : Nat → Int32, y = upd f_1 ((1 : Int32).toNatClampNeg) (vp_nar .byte ((x1 >>> (16 &&& 31)).toInt8.toInt32)) := ⟨_, rfl⟩
  rw [← ef_2] at hP hD
  have hP : va_P (dC, dI) vwCl [(h0, .inr (10, [.ref v_tape, .int 1, .int 0, .ref v_names, .ref v_borders, .ref v_programs, .ref v_draft, .ref v_parser, .ref v_machine])), (v_tape, .inl (c_v_tape, 3000, .inl f_2))] _ := hP
  have hD : va_D A [(h0, .inr (10, [.ref v_tape, .int 1, .int 0, .ref v_names, .ref v_borders, .ref v_programs, .ref v_draft, .ref v_parser, .ref v_machine])), (v_tape, .inl (c_v_tape, 3000, .inl f_2))] := hD
  refine lv_aload_n hx hb dX11_addBytes_30 rfl (lv_at hl 1 rfl) ?_
  refine lv_dup hx hb dX11_addBytes_31 rfl ?_
  refine va_get (D := (dC, dI)) (ci := 10) (v := .int 1) (C := RX11) (T := TX11) (N := 9) hx hb hts in_X11_addBytes_RX11 hown hK hP 0 rfl rfl 1 (by decide) (hts (.fieldLink RX11 13 "FourTongues" "taped" "I") (by decide +kernel)) (fun _ h9 => h9) rfl dX11_addBytes_32 ?_
  refine lv_iconst (v := 1) hx hb dX11_addBytes_35 (by decide) ?_
  refine lv_iadd hx hb dX11_addBytes_36 ?_
  refine my_ti (v := 2) (by decide) ?_
  refine va_put (D := (dC, dI)) (ci := 10) (v := .int 2) (ty := .int) (C := RX11) (T := TX11) (N := 9) hx hb hts in_X11_addBytes_RX11 tyX11 tyX11_ok nmX11 hown hK hP hD hS 0 rfl rfl 1 (by decide) (hts (.fieldLink RX11 13 "FourTongues" "taped" "I") (by decide +kernel)) (fun _ h9 => h9) rfl (by decide +kernel) rfl rfl (Nat.le_of_ble_eq_true rfl) dX11_addBytes_37 (fun H locs hP hD hS => ?_)
  have hP : va_P (dC, dI) vwCl [(h0, .inr (10, [.ref v_tape, .int 2, .int 0, .ref v_names, .ref v_borders, .ref v_programs, .ref v_draft, .ref v_parser, .ref v_machine])), (v_tape, .inl (c_v_tape, 3000, .inl f_2))] _ := hP
  have hD : va_D A [(h0, .inr (10, [.ref v_tape, .int 2, .int 0, .ref v_names, .ref v_borders, .ref v_programs, .ref v_draft, .ref v_parser, .ref v_machine])), (v_tape, .inl (c_v_tape, 3000, .inl f_2))] := hD
  refine lv_iinc (v := 8) (lv' := [(2, .int 8), (0, .ref h0), (1, .int x1)]) hx hb dX11_addBytes_40 hl (k := 0) rfl (by decide) (by decide) rfl (fun ls hl => ?_)
  refine lv_goto (tgt := 3) hx hb dX11_addBytes_43 (by decide) ?_
  refine lv_iload_n hx hb dX11_addBytes_3 rfl (lv_at hl 0 rfl) ?_
  refine lv_if_lt (tgt := 46) hx hb dX11_addBytes_4 (by decide) (fun c_4 => absurd c_4 (by decide)) (fun c_4 => ?_)
  refine lv_aload_n hx hb dX11_addBytes_7 rfl (lv_at hl 1 rfl) ?_
  refine va_get (D := (dC, dI)) (ci := 10) (v := .int 2) (C := RX11) (T := TX11) (N := 9) hx hb hts in_X11_addBytes_RX11 hown hK hP 0 rfl rfl 1 (by decide) (hts (.fieldLink RX11 13 "FourTongues" "taped" "I") (by decide +kernel)) (fun _ h9 => h9) rfl dX11_addBytes_8 ?_
  refine lv_sipush (v := 3000) hx hb dX11_addBytes_11 (by decide) ?_
  refine lv_icmp_ge (tgt := 46) hx hb dX11_addBytes_14 (by decide) (fun c_14 => absurd c_14 (by decide)) (fun c_14 => ?_)
  refine lv_aload_n hx hb dX11_addBytes_17 rfl (lv_at hl 1 rfl) ?_
  refine va_get (D := (dC, dI)) (ci := 10) (v := .ref v_tape) (C := RX11) (T := TX11) (N := 9) hx hb hts in_X11_addBytes_RX11 hown hK hP 0 rfl rfl 0 (by decide) (hts (.fieldLink RX11 9 "FourTongues" "tape" "[B") (by decide +kernel)) (fun _ h9 => h9) rfl dX11_addBytes_18 ?_
  refine lv_aload_n hx hb dX11_addBytes_21 rfl (lv_at hl 1 rfl) ?_
  refine va_get (D := (dC, dI)) (ci := 10) (v := .int 2) (C := RX11) (T := TX11) (N := 9) hx hb hts in_X11_addBytes_RX11 hown hK hP 0 rfl rfl 1 (by decide) (hts (.fieldLink RX11 13 "FourTongues" "taped" "I") (by decide +kernel)) (fun _ h9 => h9) rfl dX11_addBytes_22 ?_
  refine lv_iload_n hx hb dX11_addBytes_25 rfl (lv_at hl 2 rfl) ?_
  refine lv_iload_n hx hb dX11_addBytes_26 rfl (lv_at hl 0 rfl) ?_
  refine lv_ishr hx hb dX11_addBytes_27 ?_
  refine lv_i2b (v := (x1 >>> (8 &&& 31)).toInt8.toInt32) hx hb dX11_addBytes_28 rfl ?_
  refine va_bast hx hb hK hP hD hS 1 0 rfl rfl (by unfold vp_in; decide) dX11_addBytes_29 (fun H locs hP hD hS => ?_)
  obtain ⟨f_3, ef_3⟩ : ∃ y : Nat → Int32, y = upd f_2 ((2 : Int32).toNatClampNeg) (vp_nar .byte ((x1 >>> (8 &&& 31)).toInt8.toInt32)) := ⟨_, rfl⟩
  rw [← ef_3] at hP hD
  have hP : va_P (dC, dI) vwCl [(h0, .inr (10, [.ref v_tape, .int 2, .int 0, .ref v_names, .ref v_borders, .ref v_programs, .ref v_draft, .ref v_parser, .ref v_machine])), (v_tape, .inl (c_v_tape, 3000, .inl f_3))] _ := hP
  have hD : va_D A [(h0, .inr (10, [.ref v_tape, .int 2, .int 0, .ref v_names, .ref v_borders, .ref v_programs, .ref v_draft, .ref v_parser, .ref v_machine])), (v_tape, .inl (c_v_tape, 3000, .inl f_3))] := hD
  refine lv_aload_n hx hb dX11_addBytes_30 rfl (lv_at hl 1 rfl) ?_
  refine lv_dup hx hb dX11_addBytes_31 rfl ?_
  refine va_get (D := (dC, dI)) (ci := 10) (v := .int 2) (C := RX11) (T := TX11) (N := 9) hx hb hts in_X11_addBytes_RX11 hown hK hP 0 rfl rfl 1 (by decide) (hts (.fieldLink RX11 13 "FourTongues" "taped" "I") (by decide +kernel)) (fun _ h9 => h9) rfl dX11_addBytes_32 ?_
  refine lv_iconst (v := 1) hx hb dX11_addBytes_35 (by decide) ?_
  refine lv_iadd hx hb dX11_addBytes_36 ?_
  refine my_ti (v := 3) (by decide) ?_
  refine va_put (D := (dC, dI)) (ci := 10) (v := .int 3) (ty := .int) (C := RX11) (T := TX11) (N := 9) hx hb hts in_X11_addBytes_RX11 tyX11 tyX11_ok nmX11 hown hK hP hD hS 0 rfl rfl 1 (by decide) (hts (.fieldLink RX11 13 "FourTongues" "taped" "I") (by decide +kernel)) (fun _ h9 => h9) rfl (by decide +kernel) rfl rfl (Nat.le_of_ble_eq_true rfl) dX11_addBytes_37 (fun H locs hP hD hS => ?_)
  have hP : va_P (dC, dI) vwCl [(h0, .inr (10, [.ref v_tape, .int 3, .int 0, .ref v_names, .ref v_borders, .ref v_programs, .ref v_draft, .ref v_parser, .ref v_machine])), (v_tape, .inl (c_v_tape, 3000, .inl f_3))] _ := hP
  have hD : va_D A [(h0, .inr (10, [.ref v_tape, .int 3, .int 0, .ref v_names, .ref v_borders, .ref v_programs, .ref v_draft, .ref v_parser, .ref v_machine])), (v_tape, .inl (c_v_tape, 3000, .inl f_3))] := hD
  refine lv_iinc (v := 0) (lv' := [(2, .int 0), (0, .ref h0), (1, .int x1)]) hx hb dX11_addBytes_40 hl (k := 0) rfl (by decide) (by decide) rfl (fun ls hl => ?_)
  refine lv_goto (tgt := 3) hx hb dX11_addBytes_43 (by decide) ?_
  refine lv_iload_n hx hb dX11_addBytes_3 rfl (lv_at hl 0 rfl) ?_
  refine lv_if_lt (tgt := 46) hx hb dX11_addBytes_4 (by decide) (fun c_4 => absurd c_4 (by decide)) (fun c_4 => ?_)
  refine lv_aload_n hx hb dX11_addBytes_7 rfl (lv_at hl 1 rfl) ?_
  refine va_get (D := (dC, dI)) (ci := 10) (v := .int 3) (C := RX11) (T := TX11) (N := 9) hx hb hts in_X11_addBytes_RX11 hown hK hP 0 rfl rfl 1 (by decide) (hts (.fieldLink RX11 13 "FourTongues" "taped" "I") (by decide +kernel)) (fun _ h9 => h9) rfl dX11_addBytes_8 ?_
  refine lv_sipush (v := 3000) hx hb dX11_addBytes_11 (by decide) ?_
  refine lv_icmp_ge (tgt := 46) hx hb dX11_addBytes_14 (by decide) (fun c_14 => absurd c_14 (by decide)) (fun c_14 => ?_)
  refine lv_aload_n hx hb dX11_addBytes_17 rfl (lv_at hl 1 rfl) ?_
  refine va_get (D := (dC, dI)) (ci := 10) (v := .ref v_tape) (C := RX11) (T := TX11) (N := 9) hx hb hts in_X11_addBytes_RX11 hown hK hP 0 rfl rfl 0 (by decide) (hts (.fieldLink RX11 9 "FourTongues" "tape" "[B") (by decide +kernel)) (fun _ h9 => h9) rfl dX11_addBytes_18 ?_
  refine lv_aload_n hx hb dX11_addBytes_21 rfl (lv_at hl 1 rfl) ?_
  refine va_get (D := (dC, dI)) (ci := 10) (v := .int 3) (C := RX11) (T := TX11) (N := 9) hx hb hts in_X11_addBytes_RX11 hown hK hP 0 rfl rfl 1 (by decide) (hts (.fieldLink RX11 13 "FourTongues" "taped" "I") (by decide +kernel)) (fun _ h9 => h9) rfl dX11_addBytes_22 ?_
  refine lv_iload_n hx hb dX11_addBytes_25 rfl (lv_at hl 2 rfl) ?_
  refine lv_iload_n hx hb dX11_addBytes_26 rfl (lv_at hl 0 rfl) ?_
  refine lv_ishr hx hb dX11_addBytes_27 ?_
  refine lv_i2b (v := (x1 >>> (0 &&& 31)).toInt8.toInt32) hx hb dX11_addBytes_28 rfl ?_
  refine va_bast hx hb hK hP hD hS 1 0 rfl rfl (by unfold vp_in; decide) dX11_addBytes_29 (fun H locs hP hD hS => ?_)
  obtain ⟨f_4, ef_4⟩ : ∃ y : Nat → Int32, y = upd f_3 ((3 : Int32).toNatClampNeg) (vp_nar .byte ((x1 >>> (0 &&& 31)).toInt8.toInt32)) := ⟨_, rfl⟩
  rw [← ef_4] at hP hD
  have hP : va_P (dC, dI) vwCl [(h0, .inr (10, [.ref v_tape, .int 3, .int 0, .ref v_names, .ref v_borders, .ref v_programs, .ref v_draft, .ref v_parser, .ref v_machine])), (v_tape, .inl (c_v_tape, 3000, .inl f_4))] _ := hP
  have hD : va_D A [(h0, .inr (10, [.ref v_tape, .int 3, .int 0, .ref v_names, .ref v_borders, .ref v_programs, .ref v_draft, .ref v_parser, .ref v_machine])), (v_tape, .inl (c_v_tape, 3000, .inl f_4))] := hD
  refine lv_aload_n hx hb dX11_addBytes_30 rfl (lv_at hl 1 rfl) ?_
  refine lv_dup hx hb dX11_addBytes_31 rfl ?_
  refine va_get (D := (dC, dI)) (ci := 10) (v := .int 3) (C := RX11) (T := TX11) (N := 9) hx hb hts in_X11_addBytes_RX11 hown hK hP 0 rfl rfl 1 (by decide) (hts (.fieldLink RX11 13 "FourTongues" "taped" "I") (by decide +kernel)) (fun _ h9 => h9) rfl dX11_addBytes_32 ?_
  refine lv_iconst (v := 1) hx hb dX11_addBytes_35 (by decide) ?_
  refine lv_iadd hx hb dX11_addBytes_36 ?_
  refine my_ti (v := 4) (by decide) ?_
  refine va_put (D := (dC, dI)) (ci := 10) (v := .int 4) (ty := .int) (C := RX11) (T := TX11) (N := 9) hx hb hts in_X11_addBytes_RX11 tyX11 tyX11_ok nmX11 hown hK hP hD hS 0 rfl rfl 1 (by decide) (hts (.fieldLink RX11 13 "FourTongues" "taped" "I") (by decide +kernel)) (fun _ h9 => h9) rfl (by decide +kernel) rfl rfl (Nat.le_of_ble_eq_true rfl) dX11_addBytes_37 (fun H locs hP hD hS => ?_)
  have hP : va_P (dC, dI) vwCl [(h0, .inr (10, [.ref v_tape, .int 4, .int 0, .ref v_names, .ref v_borders, .ref v_programs, .ref v_draft, .ref v_parser, .ref v_machine])), (v_tape, .inl (c_v_tape, 3000, .inl f_4))] _ := hP
  have hD : va_D A [(h0, .inr (10, [.ref v_tape, .int 4, .int 0, .ref v_names, .ref v_borders, .ref v_programs, .ref v_draft, .ref v_parser, .ref v_machine])), (v_tape, .inl (c_v_tape, 3000, .inl f_4))] := hD
  refine lv_iinc (v := (-8)) (lv' := [(2, .int (-8)), (0, .ref h0), (1, .int x1)]) hx hb dX11_addBytes_40 hl (k := 0) rfl (by decide) (by decide) rfl (fun ls hl => ?_)
  refine lv_goto (tgt := 3) hx hb dX11_addBytes_43 (by decide) ?_
  refine lv_iload_n hx hb dX11_addBytes_3 rfl (lv_at hl 0 rfl) ?_
  refine lv_if_lt (tgt := 46) hx hb dX11_addBytes_4 (by decide) (fun c_4 => ?_) (fun c_4 => absurd c_4 (by decide))
  have hP9 := hP.sub (ws' := [(h0, .inr (10, [.ref v_tape, .int 4, .int 0, .ref v_names, .ref v_borders, .ref v_programs, .ref v_draft, .ref v_parser, .ref v_machine])), (v_tape, .inl (c_v_tape, 3000, .inl f_4))]) [0, 1] rfl
  have hD9 := hD.sub (ws' := [(h0, .inr (10, [.ref v_tape, .int 4, .int 0, .ref v_names, .ref v_borders, .ref v_programs, .ref v_draft, .ref v_parser, .ref v_machine])), (v_tape, .inl (c_v_tape, 3000, .inl f_4))]) [0, 1] (by decide) rfl
  have hK9 := hK.sub (tys' := [(c_v_tape, .byte)]) [0] rfl
  exact W.vret hx hb hr (fun t ht hW => ⟨⟨(), rfl, trivial, ⟨f_4, by rw [ht]; exact hP9, va_K.moved hW.alike hK9, hD9⟩⟩, hS.F ht⟩) hS.2.2 dX11_addBytes_46

set_option maxHeartbeats 4000000 in
set_option maxRecDepth 100000 in
theorem c_X11_addBytes_4 (l : Launch) (dC : Nat → ClassId) (dI : Nat → Nat → Nat) (sz : Nat) (h0 : Nat) (v_tape : Nat) (v_names : Nat) (v_borders : Nat) (v_programs : Nat) (v_draft : Nat) (v_parser : Nat) (v_machine : Nat) (c_v_tape : ClassId) (f_tape : Nat → Int32) (x1 : Int32) : Met l yX11_addBytes wsX11_addBytes ({ frames := 0, cells := 0, slots := 0, locals := 0 }) (va_Pc [.ref h0, .int x1] (fun U => xM (dC, dI) sz [(h0, .inr (10, [.ref v_tape, .int 4, .int 0, .ref v_names, .ref v_borders, .ref v_programs, .ref v_draft, .ref v_parser, .ref v_machine])), (v_tape, .inl (c_v_tape, 3000, .inl f_tape))] [(c_v_tape, .byte)] U)) (va_Qv (fun _ : Unit => True) (fun (_ : Unit) t => ∃ (f_4 : Nat → Int32), xB (dC, dI) [(h0, .inr (10, [.ref v_tape, .int 8, .int 0, .ref v_names, .ref v_borders, .ref v_programs, .ref v_draft, .ref v_parser, .ref v_machine])), (v_tape, .inl (c_v_tape, 3000, .inl f_4))] [(c_v_tape, .byte)] (va_A [(h0, .inr (10, [.ref v_tape, .int 4, .int 0, .ref v_names, .ref v_borders, .ref v_programs, .ref v_draft, .ref v_parser, .ref v_machine])), (v_tape, .inl (c_v_tape, 3000, .inl f_tape))] sz) t) (va_A [(h0, .inr (10, [.ref v_tape, .int 4, .int 0, .ref v_names, .ref v_borders, .ref v_programs, .ref v_draft, .ref v_parser, .ref v_machine])), (v_tape, .inl (c_v_tape, 3000, .inl f_tape))] sz)) 0 0 (va_A [(h0, .inr (10, [.ref v_tape, .int 4, .int 0, .ref v_names, .ref v_borders, .ref v_programs, .ref v_draft, .ref v_parser, .ref v_machine])), (v_tape, .inl (c_v_tape, 3000, .inl f_tape))] sz) := by
  refine Met.ofW (cc := cX11_addBytes) (maxL := 3) (ret := none) (by decide) rfl ?_
  intro p e s m args below meth c s₁ B hml hv
  obtain ⟨rfl, hsz, hP, hK, hD0⟩ := hv
  have hx := B.exec
  have hb := B.bytes
  have hr := B.returns
  have hts := atoms_spec (ws := wsX11_addBytes) B.pre
  have hown : s.vm.findClass RX11 = some m.cls := findClass_of_methodNamed B.named
  have hlocks := B.notSynchronized
  subst hsz
  have hD := hD0.self (sz := s.heap.size)
  generalize hAe : va_A [(h0, .inr (10, [.ref v_tape, .int 4, .int 0, .ref v_names, .ref v_borders, .ref v_programs, .ref v_draft, .ref v_parser, .ref v_machine])), (v_tape, .inl (c_v_tape, 3000, .inl f_tape))] s.heap.size = A at hD ⊢
  have hA : ∀ q : Nat, s.heap.size ≤ q → A q := fun q h => by rw [← hAe]; exact Or.inr h
  have hS : va_S A s.heap s.heap [] := va_S.rf
  have hl := lv_entry ([.ref h0, .int x1]) (n := 3) (Nat.le_of_ble_eq_true rfl)
  rw [lg_entry_eq]
  generalize (lg_sl ([.ref h0, .int x1]) ++ List.replicate (3 - (lg_sl ([.ref h0, .int x1])).length) Slot.unset).toArray = ls at hl ⊢
  have hl : lv_has ls 3 [(0, .ref h0), (1, .int x1)] := hl
  refine lv_bipush (v := 24) hx hb dX11_addBytes_0 (by decide) ?_
  refine lv_istore_n (lv' := [(2, .int 24), (0, .ref h0), (1, .int x1)]) hx hb dX11_addBytes_2 rfl hl (by decide) rfl (fun ls hl => ?_)
  refine lv_iload_n hx hb dX11_addBytes_3 rfl (lv_at hl 0 rfl) ?_
  refine lv_if_lt (tgt := 46) hx hb dX11_addBytes_4 (by decide) (fun c_4 => absurd c_4 (by decide)) (fun c_4 => ?_)
  refine lv_aload_n hx hb dX11_addBytes_7 rfl (lv_at hl 1 rfl) ?_
  refine va_get (D := (dC, dI)) (ci := 10) (v := .int 4) (C := RX11) (T := TX11) (N := 9) hx hb hts in_X11_addBytes_RX11 hown hK hP 0 rfl rfl 1 (by decide) (hts (.fieldLink RX11 13 "FourTongues" "taped" "I") (by decide +kernel)) (fun _ h9 => h9) rfl dX11_addBytes_8 ?_
  refine lv_sipush (v := 3000) hx hb dX11_addBytes_11 (by decide) ?_
  refine lv_icmp_ge (tgt := 46) hx hb dX11_addBytes_14 (by decide) (fun c_14 => absurd c_14 (by decide)) (fun c_14 => ?_)
  refine lv_aload_n hx hb dX11_addBytes_17 rfl (lv_at hl 1 rfl) ?_
  refine va_get (D := (dC, dI)) (ci := 10) (v := .ref v_tape) (C := RX11) (T := TX11) (N := 9) hx hb hts in_X11_addBytes_RX11 hown hK hP 0 rfl rfl 0 (by decide) (hts (.fieldLink RX11 9 "FourTongues" "tape" "[B") (by decide +kernel)) (fun _ h9 => h9) rfl dX11_addBytes_18 ?_
  refine lv_aload_n hx hb dX11_addBytes_21 rfl (lv_at hl 1 rfl) ?_
  refine va_get (D := (dC, dI)) (ci := 10) (v := .int 4) (C := RX11) (T := TX11) (N := 9) hx hb hts in_X11_addBytes_RX11 hown hK hP 0 rfl rfl 1 (by decide) (hts (.fieldLink RX11 13 "FourTongues" "taped" "I") (by decide +kernel)) (fun _ h9 => h9) rfl dX11_addBytes_22 ?_
  refine lv_iload_n hx hb dX11_addBytes_25 rfl (lv_at hl 2 rfl) ?_
  refine lv_iload_n hx hb dX11_addBytes_26 rfl (lv_at hl 0 rfl) ?_
  refine lv_ishr hx hb dX11_addBytes_27 ?_
  refine lv_i2b (v := (x1 >>> (24 &&& 31)).toInt8.toInt32) hx hb dX11_addBytes_28 rfl ?_
  refine va_bast hx hb hK hP hD hS 1 0 rfl rfl (by unfold vp_in; decide) dX11_addBytes_29 (fun H locs hP hD hS => ?_)
  obtain ⟨f_1, ef_1⟩ : ∃ y : Nat → Int32, y = upd f_tape ((4 : Int32).toNatClampNeg) (vp_nar .byte ((x1 >>> (24 &&& 31)).toInt8.toInt32)) := ⟨_, rfl⟩
  rw [← ef_1] at hP hD
  have hP : va_P (dC, dI) vwCl [(h0, .inr (10, [.ref v_tape, .int 4, .int 0, .ref v_names, .ref v_borders, .ref v_programs, .ref v_draft, .ref v_parser, .ref v_machine])), (v_tape, .inl (c_v_tape, 3000, .inl f_1))] _ := hP
  have hD : va_D A [(h0, .inr (10, [.ref v_tape, .int 4, .int 0, .ref v_names, .ref v_borders, .ref v_programs, .ref v_draft, .ref v_parser, .ref v_machine])), (v_tape, .inl (c_v_tape, 3000, .inl f_1))] := hD
  refine lv_aload_n hx hb dX11_addBytes_30 rfl (lv_at hl 1 rfl) ?_
  refine lv_dup hx hb dX11_addBytes_31 rfl ?_
  refine va_get (D := (dC, dI)) (ci := 10) (v := .int 4) (C := RX11) (T := TX11) (N := 9) hx hb hts in_X11_addBytes_RX11 hown hK hP 0 rfl rfl 1 (by decide) (hts (.fieldLink RX11 13 "FourTongues" "taped" "I") (by decide +kernel)) (fun _ h9 => h9) rfl dX11_addBytes_32 ?_
  refine lv_iconst (v := 1) hx hb dX11_addBytes_35 (by decide) ?_
  refine lv_iadd hx hb dX11_addBytes_36 ?_
  refine my_ti (v := 5) (by decide) ?_
  refine va_put (D := (dC, dI)) (ci := 10) (v := .int 5) (ty := .int) (C := RX11) (T := TX11) (N := 9) hx hb hts in_X11_addBytes_RX11 tyX11 tyX11_ok nmX11 hown hK hP hD hS 0 rfl rfl 1 (by decide) (hts (.fieldLink RX11 13 "FourTongues" "taped" "I") (by decide +kernel)) (fun _ h9 => h9) rfl (by decide +kernel) rfl rfl (Nat.le_of_ble_eq_true rfl) dX11_addBytes_37 (fun H locs hP hD hS => ?_)
  have hP : va_P (dC, dI) vwCl [(h0, .inr (10, [.ref v_tape, .int 5, .int 0, .ref v_names, .ref v_borders, .ref v_programs, .ref v_draft, .ref v_parser, .ref v_machine])), (v_tape, .inl (c_v_tape, 3000, .inl f_1))] _ := hP
  have hD : va_D A [(h0, .inr (10, [.ref v_tape, .int 5, .int 0, .ref v_names, .ref v_borders, .ref v_programs, .ref v_draft, .ref v_parser, .ref v_machine])), (v_tape, .inl (c_v_tape, 3000, .inl f_1))] := hD
  refine lv_iinc (v := 16) (lv' := [(2, .int 16), (0, .ref h0), (1, .int x1)]) hx hb dX11_addBytes_40 hl (k := 0) rfl (by decide) (by decide) rfl (fun ls hl => ?_)
  refine lv_goto (tgt := 3) hx hb dX11_addBytes_43 (by decide) ?_
  refine lv_iload_n hx hb dX11_addBytes_3 rfl (lv_at hl 0 rfl) ?_
  refine lv_if_lt (tgt := 46) hx hb dX11_addBytes_4 (by decide) (fun c_4 => absurd c_4 (by decide)) (fun c_4 => ?_)
  refine lv_aload_n hx hb dX11_addBytes_7 rfl (lv_at hl 1 rfl) ?_
  refine va_get (D := (dC, dI)) (ci := 10) (v := .int 5) (C := RX11) (T := TX11) (N := 9) hx hb hts in_X11_addBytes_RX11 hown hK hP 0 rfl rfl 1 (by decide) (hts (.fieldLink RX11 13 "FourTongues" "taped" "I") (by decide +kernel)) (fun _ h9 => h9) rfl dX11_addBytes_8 ?_
  refine lv_sipush (v := 3000) hx hb dX11_addBytes_11 (by decide) ?_
  refine lv_icmp_ge (tgt := 46) hx hb dX11_addBytes_14 (by decide) (fun c_14 => absurd c_14 (by decide)) (fun c_14 => ?_)
  refine lv_aload_n hx hb dX11_addBytes_17 rfl (lv_at hl 1 rfl) ?_
  refine va_get (D := (dC, dI)) (ci := 10) (v := .ref v_tape) (C := RX11) (T := TX11) (N := 9) hx hb hts in_X11_addBytes_RX11 hown hK hP 0 rfl rfl 0 (by decide) (hts (.fieldLink RX11 9 "FourTongues" "tape" "[B") (by decide +kernel)) (fun _ h9 => h9) rfl dX11_addBytes_18 ?_
  refine lv_aload_n hx hb dX11_addBytes_21 rfl (lv_at hl 1 rfl) ?_
  refine va_get (D := (dC, dI)) (ci := 10) (v := .int 5) (C := RX11) (T := TX11) (N := 9) hx hb hts in_X11_addBytes_RX11 hown hK hP 0 rfl rfl 1 (by decide) (hts (.fieldLink RX11 13 "FourTongues" "taped" "I") (by decide +kernel)) (fun _ h9 => h9) rfl dX11_addBytes_22 ?_
  refine lv_iload_n hx hb dX11_addBytes_25 rfl (lv_at hl 2 rfl) ?_
  refine lv_iload_n hx hb dX11_addBytes_26 rfl (lv_at hl 0 rfl) ?_
  refine lv_ishr hx hb dX11_addBytes_27 ?_
  refine lv_i2b (v := (x1 >>> (16 &&& 31)).toInt8.toInt32) hx hb dX11_addBytes_28 rfl ?_
  refine va_bast hx hb hK hP hD hS 1 0 rfl rfl (by unfold vp_in; decide) dX11_addBytes_29 (fun H locs hP hD hS => ?_)
  obtain ⟨f_2, ef_2⟩ : ∃ y : Nat → Int32, y = upd f_1 ((5 : Int32).toNatClampNeg) (vp_nar .byte ((x1 >>> (16 &&& 31)).toInt8.toInt32)) := ⟨_, rfl⟩
  rw [← ef_2] at hP hD
  have hP : va_P (dC, dI) vwCl [(h0, .inr (10, [.ref v_tape, .int 5, .int 0, .ref v_names, .ref v_borders, .ref v_programs, .ref v_draft, .ref v_parser, .ref v_machine])), (v_tape, .inl (c_v_tape, 3000, .inl f_2))] _ := hP
  have hD : va_D A [(h0, .inr (10, [.ref v_tape, .int 5, .int 0, .ref v_names, .ref v_borders, .ref v_programs, .ref v_draft, .ref v_parser, .ref v_machine])), (v_tape, .inl (c_v_tape, 3000, .inl f_2))] := hD
  refine lv_aload_n hx hb dX11_addBytes_30 rfl (lv_at hl 1 rfl) ?_
  refine lv_dup hx hb dX11_addBytes_31 rfl ?_
  refine va_get (D := (dC, dI)) (ci := 10) (v := .int 5) (C := RX11) (T := TX11) (N := 9) hx hb hts in_X11_addBytes_RX11 hown hK hP 0 rfl rfl 1 (by decide) (hts (.fieldLink RX11 13 "FourTongues" "taped" "I") (by decide +kernel)) (fun _ h9 => h9) rfl dX11_addBytes_32 ?_
  refine lv_iconst (v := 1) hx hb dX11_addBytes_35 (by decide) ?_
  refine lv_iadd hx hb dX11_addBytes_36 ?_
  refine my_ti (v := 6) (by decide) ?_
  refine va_put (D := (dC, dI)) (ci := 10) (v := .int 6) (ty := .int) (C := RX11) (T := TX11) (N := 9) hx hb hts in_X11_addBytes_RX11 tyX11 tyX11_ok nmX11 hown hK hP hD hS 0 rfl rfl 1 (by decide) (hts (.fieldLink RX11 13 "FourTongues" "taped" "I") (by decide +kernel)) (fun _ h9 => h9) rfl (by decide +kernel) rfl rfl (Nat.le_of_ble_eq_true rfl) dX11_addBytes_37 (fun H locs hP hD hS => ?_)
  have hP : va_P (dC, dI) vwCl [(h0, .inr (10, [.ref v_tape, .int 6, .int 0, .ref v_names, .ref v_borders, .ref v_programs, .ref v_draft, .ref v_parser, .ref v_machine])), (v_tape, .inl (c_v_tape, 3000, .inl f_2))] _ := hP
  have hD : va_D A [(h0, .inr (10, [.ref v_tape, .int 6, .int 0, .ref v_names, .ref v_borders, .ref v_programs, .ref v_draft, .ref v_parser, .ref v_machine])), (v_tape, .inl (c_v_tape, 3000, .inl f_2))] := hD
  refine lv_iinc (v := 8) (lv' := [(2, .int 8), (0, .ref h0), (1, .int x1)]) hx hb dX11_addBytes_40 hl (k := 0) rfl (by decide) (by decide) rfl (fun ls hl => ?_)
  refine lv_goto (tgt := 3) hx hb dX11_addBytes_43 (by decide) ?_
  refine lv_iload_n hx hb dX11_addBytes_3 rfl (lv_at hl 0 rfl) ?_
  refine lv_if_lt (tgt := 46) hx hb dX11_addBytes_4 (by decide) (fun c_4 => absurd c_4 (by decide)) (fun c_4 => ?_)
  refine lv_aload_n hx hb dX11_addBytes_7 rfl (lv_at hl 1 rfl) ?_
  refine va_get (D := (dC, dI)) (ci := 10) (v := .int 6) (C := RX11) (T := TX11) (N := 9) hx hb hts in_X11_addBytes_RX11 hown hK hP 0 rfl rfl 1 (by decide) (hts (.fieldLink RX11 13 "FourTongues" "taped" "I") (by decide +kernel)) (fun _ h9 => h9) rfl dX11_addBytes_8 ?_
  refine lv_sipush (v := 3000) hx hb dX11_addBytes_11 (by decide) ?_
  refine lv_icmp_ge (tgt := 46) hx hb dX11_addBytes_14 (by decide) (fun c_14 => absurd c_14 (by decide)) (fun c_14 => ?_)
  refine lv_aload_n hx hb dX11_addBytes_17 rfl (lv_at hl 1 rfl) ?_
  refine va_get (D := (dC, dI)) (ci := 10) (v := .ref v_tape) (C := RX11) (T := TX11) (N := 9) hx hb hts in_X11_addBytes_RX11 hown hK hP 0 rfl rfl 0 (by decide) (hts (.fieldLink RX11 9 "FourTongues" "tape" "[B") (by decide +kernel)) (fun _ h9 => h9) rfl dX11_addBytes_18 ?_
  refine lv_aload_n hx hb dX11_addBytes_21 rfl (lv_at hl 1 rfl) ?_
  refine va_get (D := (dC, dI)) (ci := 10) (v := .int 6) (C := RX11) (T := TX11) (N := 9) hx hb hts in_X11_addBytes_RX11 hown hK hP 0 rfl rfl 1 (by decide) (hts (.fieldLink RX11 13 "FourTongues" "taped" "I") (by decide +kernel)) (fun _ h9 => h9) rfl dX11_addBytes_22 ?_
  refine lv_iload_n hx hb dX11_addBytes_25 rfl (lv_at hl 2 rfl) ?_
  refine lv_iload_n hx hb dX11_addBytes_26 rfl (lv_at hl 0 rfl) ?_
  refine lv_ishr hx hb dX11_addBytes_27 ?_
  refine lv_i2b (v := (x1 >>> (8 &&& 31)).toInt8.toInt32) hx hb dX11_addBytes_28 rfl ?_
  refine va_bast hx hb hK hP hD hS 1 0 rfl rfl (by unfold vp_in; decide) dX11_addBytes_29 (fun H locs hP hD hS => ?_)
  obtain ⟨f_3, ef_3⟩ : ∃ y : Nat → Int32, y = upd f_2 ((6 : Int32).toNatClampNeg) (vp_nar .byte ((x1 >>> (8 &&& 31)).toInt8.toInt32)) := ⟨_, rfl⟩
  rw [← ef_3] at hP hD
  have hP : va_P (dC, dI) vwCl [(h0, .inr (10, [.ref v_tape, .int 6, .int 0, .ref v_names, .ref v_borders, .ref v_programs, .ref v_draft, .ref v_parser, .ref v_machine])), (v_tape, .inl (c_v_tape, 3000, .inl f_3))] _ := hP
  have hD : va_D A [(h0, .inr (10, [.ref v_tape, .int 6, .int 0, .ref v_names, .ref v_borders, .ref v_programs, .ref v_draft, .ref v_parser, .ref v_machine])), (v_tape, .inl (c_v_tape, 3000, .inl f_3))] := hD
  refine lv_aload_n hx hb dX11_addBytes_30 rfl (lv_at hl 1 rfl) ?_
  refine lv_dup hx hb dX11_addBytes_31 rfl ?_
  refine va_get (D := (dC, dI)) (ci := 10) (v := .int 6) (C := RX11) (T := TX11) (N := 9) hx hb hts in_X11_addBytes_RX11 hown hK hP 0 rfl rfl 1 (by decide) (hts (.fieldLink RX11 13 "FourTongues" "taped" "I") (by decide +kernel)) (fun _ h9 => h9) rfl dX11_addBytes_32 ?_
  refine lv_iconst (v := 1) hx hb dX11_addBytes_35 (by decide) ?_
  refine lv_iadd hx hb dX11_addBytes_36 ?_
  refine my_ti (v := 7) (by decide) ?_
  refine va_put (D := (dC, dI)) (ci := 10) (v := .int 7) (ty := .int) (C := RX11) (T := TX11) (N := 9) hx hb hts in_X11_addBytes_RX11 tyX11 tyX11_ok nmX11 hown hK hP hD hS 0 rfl rfl 1 (by decide) (hts (.fieldLink RX11 13 "FourTongues" "taped" "I") (by decide +kernel)) (fun _ h9 => h9) rfl (by decide +kernel) rfl rfl (Nat.le_of_ble_eq_true rfl) dX11_addBytes_37 (fun H locs hP hD hS => ?_)
  have hP : va_P (dC, dI) vwCl [(h0, .inr (10, [.ref v_tape, .int 7, .int 0, .ref v_names, .ref v_borders, .ref v_programs, .ref v_draft, .ref v_parser, .ref v_machine])), (v_tape, .inl (c_v_tape, 3000, .inl f_3))] _ := hP
  have hD : va_D A [(h0, .inr (10, [.ref v_tape, .int 7, .int 0, .ref v_names, .ref v_borders, .ref v_programs, .ref v_draft, .ref v_parser, .ref v_machine])), (v_tape, .inl (c_v_tape, 3000, .inl f_3))] := hD
  refine lv_iinc (v := 0) (lv' := [(2, .int 0), (0, .ref h0), (1, .int x1)]) hx hb dX11_addBytes_40 hl (k := 0) rfl (by decide) (by decide) rfl (fun ls hl => ?_)
  refine lv_goto (tgt := 3) hx hb dX11_addBytes_43 (by decide) ?_
  refine lv_iload_n hx hb dX11_addBytes_3 rfl (lv_at hl 0 rfl) ?_
  refine lv_if_lt (tgt := 46) hx hb dX11_addBytes_4 (by decide) (fun c_4 => absurd c_4 (by decide)) (fun c_4 => ?_)
  refine lv_aload_n hx hb dX11_addBytes_7 rfl (lv_at hl 1 rfl) ?_
  refine va_get (D := (dC, dI)) (ci := 10) (v := .int 7) (C := RX11) (T := TX11) (N := 9) hx hb hts in_X11_addBytes_RX11 hown hK hP 0 rfl rfl 1 (by decide) (hts (.fieldLink RX11 13 "FourTongues" "taped" "I") (by decide +kernel)) (fun _ h9 => h9) rfl dX11_addBytes_8 ?_
  refine lv_sipush (v := 3000) hx hb dX11_addBytes_11 (by decide) ?_
  refine lv_icmp_ge (tgt := 46) hx hb dX11_addBytes_14 (by decide) (fun c_14 => absurd c_14 (by decide)) (fun c_14 => ?_)
  refine lv_aload_n hx hb dX11_addBytes_17 rfl (lv_at hl 1 rfl) ?_
  refine va_get (D := (dC, dI)) (ci := 10) (v := .ref v_tape) (C := RX11) (T := TX11) (N := 9) hx hb hts in_X11_addBytes_RX11 hown hK hP 0 rfl rfl 0 (by decide) (hts (.fieldLink RX11 9 "FourTongues" "tape" "[B") (by decide +kernel)) (fun _ h9 => h9) rfl dX11_addBytes_18 ?_
  refine lv_aload_n hx hb dX11_addBytes_21 rfl (lv_at hl 1 rfl) ?_
  refine va_get (D := (dC, dI)) (ci := 10) (v := .int 7) (C := RX11) (T := TX11) (N := 9) hx hb hts in_X11_addBytes_RX11 hown hK hP 0 rfl rfl 1 (by decide) (hts (.fieldLink RX11 13 "FourTongues" "taped" "I") (by decide +kernel)) (fun _ h9 => h9) rfl dX11_addBytes_22 ?_
  refine lv_iload_n hx hb dX11_addBytes_25 rfl (lv_at hl 2 rfl) ?_
  refine lv_iload_n hx hb dX11_addBytes_26 rfl (lv_at hl 0 rfl) ?_
  refine lv_ishr hx hb dX11_addBytes_27 ?_
  refine lv_i2b (v := (x1 >>> (0 &&& 31)).toInt8.toInt32) hx hb dX11_addBytes_28 rfl ?_
  refine va_bast hx hb hK hP hD hS 1 0 rfl rfl (by unfold vp_in; decide) dX11_addBytes_29 (fun H locs hP hD hS => ?_)
  obtain ⟨f_4, ef_4⟩ : ∃ y : Nat → Int32, y = upd f_3 ((7 : Int32).toNatClampNeg) (vp_nar .byte ((x1 >>> (0 &&& 31)).toInt8.toInt32)) := ⟨_, rfl⟩
  rw [← ef_4] at hP hD
  have hP : va_P (dC, dI) vwCl [(h0, .inr (10, [.ref v_tape, .int 7, .int 0, .ref v_names, .ref v_borders, .ref v_programs, .ref v_draft, .ref v_parser, .ref v_machine])), (v_tape, .inl (c_v_tape, 3000, .inl f_4))] _ := hP
  have hD : va_D A [(h0, .inr (10, [.ref v_tape, .int 7, .int 0, .ref v_names, .ref v_borders, .ref v_programs, .ref v_draft, .ref v_parser, .ref v_machine])), (v_tape, .inl (c_v_tape, 3000, .inl f_4))] := hD
  refine lv_aload_n hx hb dX11_addBytes_30 rfl (lv_at hl 1 rfl) ?_
  refine lv_dup hx hb dX11_addBytes_31 rfl ?_
  refine va_get (D := (dC, dI)) (ci := 10) (v := .int 7) (C := RX11) (T := TX11) (N := 9) hx hb hts in_X11_addBytes_RX11 hown hK hP 0 rfl rfl 1 (by decide) (hts (.fieldLink RX11 13 "FourTongues" "taped" "I") (by decide +kernel)) (fun _ h9 => h9) rfl dX11_addBytes_32 ?_
  refine lv_iconst (v := 1) hx hb dX11_addBytes_35 (by decide) ?_
  refine lv_iadd hx hb dX11_addBytes_36 ?_
  refine my_ti (v := 8) (by decide) ?_
  refine va_put (D := (dC, dI)) (ci := 10) (v := .int 8) (ty := .int) (C := RX11) (T := TX11) (N := 9) hx hb hts in_X11_addBytes_RX11 tyX11 tyX11_ok nmX11 hown hK hP hD hS 0 rfl rfl 1 (by decide) (hts (.fieldLink RX11 13 "FourTongues" "taped" "I") (by decide +kernel)) (fun _ h9 => h9) rfl (by decide +kernel) rfl rfl (Nat.le_of_ble_eq_true rfl) dX11_addBytes_37 (fun H locs hP hD hS => ?_)
  have hP : va_P (dC, dI) vwCl [(h0, .inr (10, [.ref v_tape, .int 8, .int 0, .ref v_names, .ref v_borders, .ref v_programs, .ref v_draft, .ref v_parser, .ref v_machine])), (v_tape, .inl (c_v_tape, 3000, .inl f_4))] _ := hP
  have hD : va_D A [(h0, .inr (10, [.ref v_tape, .int 8, .int 0, .ref v_names, .ref v_borders, .ref v_programs, .ref v_draft, .ref v_parser, .ref v_machine])), (v_tape, .inl (c_v_tape, 3000, .inl f_4))] := hD
  refine lv_iinc (v := (-8)) (lv' := [(2, .int (-8)), (0, .ref h0), (1, .int x1)]) hx hb dX11_addBytes_40 hl (k := 0) rfl (by decide) (by decide) rfl (fun ls hl => ?_)
  refine lv_goto (tgt := 3) hx hb dX11_addBytes_43 (by decide) ?_
  refine lv_iload_n hx hb dX11_addBytes_3 rfl (lv_at hl 0 rfl) ?_
  refine lv_if_lt (tgt := 46) hx hb dX11_addBytes_4 (by decide) (fun c_4 => ?_) (fun c_4 => absurd c_4 (by decide))
  have hP9 := hP.sub (ws' := [(h0, .inr (10, [.ref v_tape, .int 8, .int 0, .ref v_names, .ref v_borders, .ref v_programs, .ref v_draft, .ref v_parser, .ref v_machine])), (v_tape, .inl (c_v_tape, 3000, .inl f_4))]) [0, 1] rfl
  have hD9 := hD.sub (ws' := [(h0, .inr (10, [.ref v_tape, .int 8, .int 0, .ref v_names, .ref v_borders, .ref v_programs, .ref v_draft, .ref v_parser, .ref v_machine])), (v_tape, .inl (c_v_tape, 3000, .inl f_4))]) [0, 1] (by decide) rfl
  have hK9 := hK.sub (tys' := [(c_v_tape, .byte)]) [0] rfl
  exact W.vret hx hb hr (fun t ht hW => ⟨⟨(), rfl, trivial, ⟨f_4, by rw [ht]; exact hP9, va_K.moved hW.alike hK9, hD9⟩⟩, hS.F ht⟩) hS.2.2 dX11_addBytes_46

set_option maxHeartbeats 4000000 in
set_option maxRecDepth 100000 in
theorem c_X11_addBytes_8 (l : Launch) (dC : Nat → ClassId) (dI : Nat → Nat → Nat) (sz : Nat) (h0 : Nat) (v_tape : Nat) (v_names : Nat) (v_borders : Nat) (v_programs : Nat) (v_draft : Nat) (v_parser : Nat) (v_machine : Nat) (c_v_tape : ClassId) (f_tape : Nat → Int32) (x1 : Int32) : Met l yX11_addBytes wsX11_addBytes ({ frames := 0, cells := 0, slots := 0, locals := 0 }) (va_Pc [.ref h0, .int x1] (fun U => xM (dC, dI) sz [(h0, .inr (10, [.ref v_tape, .int 8, .int 0, .ref v_names, .ref v_borders, .ref v_programs, .ref v_draft, .ref v_parser, .ref v_machine])), (v_tape, .inl (c_v_tape, 3000, .inl f_tape))] [(c_v_tape, .byte)] U)) (va_Qv (fun _ : Unit => True) (fun (_ : Unit) t => ∃ (f_4 : Nat → Int32), xB (dC, dI) [(h0, .inr (10, [.ref v_tape, .int 12, .int 0, .ref v_names, .ref v_borders, .ref v_programs, .ref v_draft, .ref v_parser, .ref v_machine])), (v_tape, .inl (c_v_tape, 3000, .inl f_4))] [(c_v_tape, .byte)] (va_A [(h0, .inr (10, [.ref v_tape, .int 8, .int 0, .ref v_names, .ref v_borders, .ref v_programs, .ref v_draft, .ref v_parser, .ref v_machine])), (v_tape, .inl (c_v_tape, 3000, .inl f_tape))] sz) t) (va_A [(h0, .inr (10, [.ref v_tape, .int 8, .int 0, .ref v_names, .ref v_borders, .ref v_programs, .ref v_draft, .ref v_parser, .ref v_machine])), (v_tape, .inl (c_v_tape, 3000, .inl f_tape))] sz)) 0 0 (va_A [(h0, .inr (10, [.ref v_tape, .int 8, .int 0, .ref v_names, .ref v_borders, .ref v_programs, .ref v_draft, .ref v_parser, .ref v_machine])), (v_tape, .inl (c_v_tape, 3000, .inl f_tape))] sz) := by
  refine Met.ofW (cc := cX11_addBytes) (maxL := 3) (ret := none) (by decide) rfl ?_
  intro p e s m args below meth c s₁ B hml hv
  obtain ⟨rfl, hsz, hP, hK, hD0⟩ := hv
  have hx := B.exec
  have hb := B.bytes
  have hr := B.returns
  have hts := atoms_spec (ws := wsX11_addBytes) B.pre
  have hown : s.vm.findClass RX11 = some m.cls := findClass_of_methodNamed B.named
  have hlocks := B.notSynchronized
  subst hsz
  have hD := hD0.self (sz := s.heap.size)
  generalize hAe : va_A [(h0, .inr (10, [.ref v_tape, .int 8, .int 0, .ref v_names, .ref v_borders, .ref v_programs, .ref v_draft, .ref v_parser, .ref v_machine])), (v_tape, .inl (c_v_tape, 3000, .inl f_tape))] s.heap.size = A at hD ⊢
  have hA : ∀ q : Nat, s.heap.size ≤ q → A q := fun q h => by rw [← hAe]; exact Or.inr h
  have hS : va_S A s.heap s.heap [] := va_S.rf
  have hl := lv_entry ([.ref h0, .int x1]) (n := 3) (Nat.le_of_ble_eq_true rfl)
  rw [lg_entry_eq]
  generalize (lg_sl ([.ref h0, .int x1]) ++ List.replicate (3 - (lg_sl ([.ref h0, .int x1])).length) Slot.unset).toArray = ls at hl ⊢
  have hl : lv_has ls 3 [(0, .ref h0), (1, .int x1)] := hl
  refine lv_bipush (v := 24) hx hb dX11_addBytes_0 (by decide) ?_
  refine lv_istore_n (lv' := [(2, .int 24), (0, .ref h0), (1, .int x1)]) hx hb dX11_addBytes_2 rfl hl (by decide) rfl (fun ls hl => ?_)
  refine lv_iload_n hx hb dX11_addBytes_3 rfl (lv_at hl 0 rfl) ?_
  refine lv_if_lt (tgt := 46) hx hb dX11_addBytes_4 (by decide) (fun c_4 => absurd c_4 (by decide)) (fun c_4 => ?_)
  refine lv_aload_n hx hb dX11_addBytes_7 rfl (lv_at hl 1 rfl) ?_
  refine va_get (D := (dC, dI)) (ci := 10) (v := .int 8) (C := RX11) (T := TX11) (N := 9) hx hb hts in_X11_addBytes_RX11 hown hK hP 0 rfl rfl 1 (by decide) (hts (.fieldLink RX11 13 "FourTongues" "taped" "I") (by decide +kernel)) (fun _ h9 => h9) rfl dX11_addBytes_8 ?_
  refine lv_sipush (v := 3000) hx hb dX11_addBytes_11 (by decide) ?_
  refine lv_icmp_ge (tgt := 46) hx hb dX11_addBytes_14 (by decide) (fun c_14 => absurd c_14 (by decide)) (fun c_14 => ?_)
  refine lv_aload_n hx hb dX11_addBytes_17 rfl (lv_at hl 1 rfl) ?_
  refine va_get (D := (dC, dI)) (ci := 10) (v := .ref v_tape) (C := RX11) (T := TX11) (N := 9) hx hb hts in_X11_addBytes_RX11 hown hK hP 0 rfl rfl 0 (by decide) (hts (.fieldLink RX11 9 "FourTongues" "tape" "[B") (by decide +kernel)) (fun _ h9 => h9) rfl dX11_addBytes_18 ?_
  refine lv_aload_n hx hb dX11_addBytes_21 rfl (lv_at hl 1 rfl) ?_
  refine va_get (D := (dC, dI)) (ci := 10) (v := .int 8) (C := RX11) (T := TX11) (N := 9) hx hb hts in_X11_addBytes_RX11 hown hK hP 0 rfl rfl 1 (by decide) (hts (.fieldLink RX11 13 "FourTongues" "taped" "I") (by decide +kernel)) (fun _ h9 => h9) rfl dX11_addBytes_22 ?_
  refine lv_iload_n hx hb dX11_addBytes_25 rfl (lv_at hl 2 rfl) ?_
  refine lv_iload_n hx hb dX11_addBytes_26 rfl (lv_at hl 0 rfl) ?_
  refine lv_ishr hx hb dX11_addBytes_27 ?_
  refine lv_i2b (v := (x1 >>> (24 &&& 31)).toInt8.toInt32) hx hb dX11_addBytes_28 rfl ?_
  refine va_bast hx hb hK hP hD hS 1 0 rfl rfl (by unfold vp_in; decide) dX11_addBytes_29 (fun H locs hP hD hS => ?_)
  obtain ⟨f_1, ef_1⟩ : ∃ y : Nat → Int32, y = upd f_tape ((8 : Int32).toNatClampNeg) (vp_nar .byte ((x1 >>> (24 &&& 31)).toInt8.toInt32)) := ⟨_, rfl⟩
  rw [← ef_1] at hP hD
  have hP : va_P (dC, dI) vwCl [(h0, .inr (10, [.ref v_tape, .int 8, .int 0, .ref v_names, .ref v_borders, .ref v_programs, .ref v_draft, .ref v_parser, .ref v_machine])), (v_tape, .inl (c_v_tape, 3000, .inl f_1))] _ := hP
  have hD : va_D A [(h0, .inr (10, [.ref v_tape, .int 8, .int 0, .ref v_names, .ref v_borders, .ref v_programs, .ref v_draft, .ref v_parser, .ref v_machine])), (v_tape, .inl (c_v_tape, 3000, .inl f_1))] := hD
  refine lv_aload_n hx hb dX11_addBytes_30 rfl (lv_at hl 1 rfl) ?_
  refine lv_dup hx hb dX11_addBytes_31 rfl ?_
  refine va_get (D := (dC, dI)) (ci := 10) (v := .int 8) (C := RX11) (T := TX11) (N := 9) hx hb hts in_X11_addBytes_RX11 hown hK hP 0 rfl rfl 1 (by decide) (hts (.fieldLink RX11 13 "FourTongues" "taped" "I") (by decide +kernel)) (fun _ h9 => h9) rfl dX11_addBytes_32 ?_
  refine lv_iconst (v := 1) hx hb dX11_addBytes_35 (by decide) ?_
  refine lv_iadd hx hb dX11_addBytes_36 ?_
  refine my_ti (v := 9) (by decide) ?_
  refine va_put (D := (dC, dI)) (ci := 10) (v := .int 9) (ty := .int) (C := RX11) (T := TX11) (N := 9) hx hb hts in_X11_addBytes_RX11 tyX11 tyX11_ok nmX11 hown hK hP hD hS 0 rfl rfl 1 (by decide) (hts (.fieldLink RX11 13 "FourTongues" "taped" "I") (by decide +kernel)) (fun _ h9 => h9) rfl (by decide +kernel) rfl rfl (Nat.le_of_ble_eq_true rfl) dX11_addBytes_37 (fun H locs hP hD hS => ?_)
  have hP : va_P (dC, dI) vwCl [(h0, .inr (10, [.ref v_tape, .int 9, .int 0, .ref v_names, .ref v_borders, .ref v_programs, .ref v_draft, .ref v_parser, .ref v_machine])), (v_tape, .inl (c_v_tape, 3000, .inl f_1))] _ := hP
  have hD : va_D A [(h0, .inr (10, [.ref v_tape, .int 9, .int 0, .ref v_names, .ref v_borders, .ref v_programs, .ref v_draft, .ref v_parser, .ref v_machine])), (v_tape, .inl (c_v_tape, 3000, .inl f_1))] := hD
  refine lv_iinc (v := 16) (lv' := [(2, .int 16), (0, .ref h0), (1, .int x1)]) hx hb dX11_addBytes_40 hl (k := 0) rfl (by decide) (by decide) rfl (fun ls hl => ?_)
  refine lv_goto (tgt := 3) hx hb dX11_addBytes_43 (by decide) ?_
  refine lv_iload_n hx hb dX11_addBytes_3 rfl (lv_at hl 0 rfl) ?_
  refine lv_if_lt (tgt := 46) hx hb dX11_addBytes_4 (by decide) (fun c_4 => absurd c_4 (by decide)) (fun c_4 => ?_)
  refine lv_aload_n hx hb dX11_addBytes_7 rfl (lv_at hl 1 rfl) ?_
  refine va_get (D := (dC, dI)) (ci := 10) (v := .int 9) (C := RX11) (T := TX11) (N := 9) hx hb hts in_X11_addBytes_RX11 hown hK hP 0 rfl rfl 1 (by decide) (hts (.fieldLink RX11 13 "FourTongues" "taped" "I") (by decide +kernel)) (fun _ h9 => h9) rfl dX11_addBytes_8 ?_
  refine lv_sipush (v := 3000) hx hb dX11_addBytes_11 (by decide) ?_
  refine lv_icmp_ge (tgt := 46) hx hb dX11_addBytes_14 (by decide) (fun c_14 => absurd c_14 (by decide)) (fun c_14 => ?_)
  refine lv_aload_n hx hb dX11_addBytes_17 rfl (lv_at hl 1 rfl) ?_
  refine va_get (D := (dC, dI)) (ci := 10) (v := .ref v_tape) (C := RX11) (T := TX11) (N := 9) hx hb hts in_X11_addBytes_RX11 hown hK hP 0 rfl rfl 0 (by decide) (hts (.fieldLink RX11 9 "FourTongues" "tape" "[B") (by decide +kernel)) (fun _ h9 => h9) rfl dX11_addBytes_18 ?_
  refine lv_aload_n hx hb dX11_addBytes_21 rfl (lv_at hl 1 rfl) ?_
  refine va_get (D := (dC, dI)) (ci := 10) (v := .int 9) (C := RX11) (T := TX11) (N := 9) hx hb hts in_X11_addBytes_RX11 hown hK hP 0 rfl rfl 1 (by decide) (hts (.fieldLink RX11 13 "FourTongues" "taped" "I") (by decide +kernel)) (fun _ h9 => h9) rfl dX11_addBytes_22 ?_
  refine lv_iload_n hx hb dX11_addBytes_25 rfl (lv_at hl 2 rfl) ?_
  refine lv_iload_n hx hb dX11_addBytes_26 rfl (lv_at hl 0 rfl) ?_
  refine lv_ishr hx hb dX11_addBytes_27 ?_
  refine lv_i2b (v := (x1 >>> (16 &&& 31)).toInt8.toInt32) hx hb dX11_addBytes_28 rfl ?_
  refine va_bast hx hb hK hP hD hS 1 0 rfl rfl (by unfold vp_in; decide) dX11_addBytes_29 (fun H locs hP hD hS => ?_)
  obtain ⟨f_2, ef_2⟩ : ∃ y : Nat → Int32, y = upd f_1 ((9 : Int32).toNatClampNeg) (vp_nar .byte ((x1 >>> (16 &&& 31)).toInt8.toInt32)) := ⟨_, rfl⟩
  rw [← ef_2] at hP hD
  have hP : va_P (dC, dI) vwCl [(h0, .inr (10, [.ref v_tape, .int 9, .int 0, .ref v_names, .ref v_borders, .ref v_programs, .ref v_draft, .ref v_parser, .ref v_machine])), (v_tape, .inl (c_v_tape, 3000, .inl f_2))] _ := hP
  have hD : va_D A [(h0, .inr (10, [.ref v_tape, .int 9, .int 0, .ref v_names, .ref v_borders, .ref v_programs, .ref v_draft, .ref v_parser, .ref v_machine])), (v_tape, .inl (c_v_tape, 3000, .inl f_2))] := hD
  refine lv_aload_n hx hb dX11_addBytes_30 rfl (lv_at hl 1 rfl) ?_
  refine lv_dup hx hb dX11_addBytes_31 rfl ?_
  refine va_get (D := (dC, dI)) (ci := 10) (v := .int 9) (C := RX11) (T := TX11) (N := 9) hx hb hts in_X11_addBytes_RX11 hown hK hP 0 rfl rfl 1 (by decide) (hts (.fieldLink RX11 13 "FourTongues" "taped" "I") (by decide +kernel)) (fun _ h9 => h9) rfl dX11_addBytes_32 ?_
  refine lv_iconst (v := 1) hx hb dX11_addBytes_35 (by decide) ?_
  refine lv_iadd hx hb dX11_addBytes_36 ?_
  refine my_ti (v := 10) (by decide) ?_
  refine va_put (D := (dC, dI)) (ci := 10) (v := .int 10) (ty := .int) (C := RX11) (T := TX11) (N := 9) hx hb hts in_X11_addBytes_RX11 tyX11 tyX11_ok nmX11 hown hK hP hD hS 0 rfl rfl 1 (by decide) (hts (.fieldLink RX11 13 "FourTongues" "taped" "I") (by decide +kernel)) (fun _ h9 => h9) rfl (by decide +kernel) rfl rfl (Nat.le_of_ble_eq_true rfl) dX11_addBytes_37 (fun H locs hP hD hS => ?_)
  have hP : va_P (dC, dI) vwCl [(h0, .inr (10, [.ref v_tape, .int 10, .int 0, .ref v_names, .ref v_borders, .ref v_programs, .ref v_draft, .ref v_parser, .ref v_machine])), (v_tape, .inl (c_v_tape, 3000, .inl f_2))] _ := hP
  have hD : va_D A [(h0, .inr (10, [.ref v_tape, .int 10, .int 0, .ref v_names, .ref v_borders, .ref v_programs, .ref v_draft, .ref v_parser, .ref v_machine])), (v_tape, .inl (c_v_tape, 3000, .inl f_2))] := hD
  refine lv_iinc (v := 8) (lv' := [(2, .int 8), (0, .ref h0), (1, .int x1)]) hx hb dX11_addBytes_40 hl (k := 0) rfl (by decide) (by decide) rfl (fun ls hl => ?_)
  refine lv_goto (tgt := 3) hx hb dX11_addBytes_43 (by decide) ?_
  refine lv_iload_n hx hb dX11_addBytes_3 rfl (lv_at hl 0 rfl) ?_
  refine lv_if_lt (tgt := 46) hx hb dX11_addBytes_4 (by decide) (fun c_4 => absurd c_4 (by decide)) (fun c_4 => ?_)
  refine lv_aload_n hx hb dX11_addBytes_7 rfl (lv_at hl 1 rfl) ?_
  refine va_get (D := (dC, dI)) (ci := 10) (v := .int 10) (C := RX11) (T := TX11) (N := 9) hx hb hts in_X11_addBytes_RX11 hown hK hP 0 rfl rfl 1 (by decide) (hts (.fieldLink RX11 13 "FourTongues" "taped" "I") (by decide +kernel)) (fun _ h9 => h9) rfl dX11_addBytes_8 ?_
  refine lv_sipush (v := 3000) hx hb dX11_addBytes_11 (by decide) ?_
  refine lv_icmp_ge (tgt := 46) hx hb dX11_addBytes_14 (by decide) (fun c_14 => absurd c_14 (by decide)) (fun c_14 => ?_)
  refine lv_aload_n hx hb dX11_addBytes_17 rfl (lv_at hl 1 rfl) ?_
  refine va_get (D := (dC, dI)) (ci := 10) (v := .ref v_tape) (C := RX11) (T := TX11) (N := 9) hx hb hts in_X11_addBytes_RX11 hown hK hP 0 rfl rfl 0 (by decide) (hts (.fieldLink RX11 9 "FourTongues" "tape" "[B") (by decide +kernel)) (fun _ h9 => h9) rfl dX11_addBytes_18 ?_
  refine lv_aload_n hx hb dX11_addBytes_21 rfl (lv_at hl 1 rfl) ?_
  refine va_get (D := (dC, dI)) (ci := 10) (v := .int 10) (C := RX11) (T := TX11) (N := 9) hx hb hts in_X11_addBytes_RX11 hown hK hP 0 rfl rfl 1 (by decide) (hts (.fieldLink RX11 13 "FourTongues" "taped" "I") (by decide +kernel)) (fun _ h9 => h9) rfl dX11_addBytes_22 ?_
  refine lv_iload_n hx hb dX11_addBytes_25 rfl (lv_at hl 2 rfl) ?_
  refine lv_iload_n hx hb dX11_addBytes_26 rfl (lv_at hl 0 rfl) ?_
  refine lv_ishr hx hb dX11_addBytes_27 ?_
  refine lv_i2b (v := (x1 >>> (8 &&& 31)).toInt8.toInt32) hx hb dX11_addBytes_28 rfl ?_
  refine va_bast hx hb hK hP hD hS 1 0 rfl rfl (by unfold vp_in; decide) dX11_addBytes_29 (fun H locs hP hD hS => ?_)
  obtain ⟨f_3, ef_3⟩ : ∃ y : Nat → Int32, y = upd f_2 ((10 : Int32).toNatClampNeg) (vp_nar .byte ((x1 >>> (8 &&& 31)).toInt8.toInt32)) := ⟨_, rfl⟩
  rw [← ef_3] at hP hD
  have hP : va_P (dC, dI) vwCl [(h0, .inr (10, [.ref v_tape, .int 10, .int 0, .ref v_names, .ref v_borders, .ref v_programs, .ref v_draft, .ref v_parser, .ref v_machine])), (v_tape, .inl (c_v_tape, 3000, .inl f_3))] _ := hP
  have hD : va_D A [(h0, .inr (10, [.ref v_tape, .int 10, .int 0, .ref v_names, .ref v_borders, .ref v_programs, .ref v_draft, .ref v_parser, .ref v_machine])), (v_tape, .inl (c_v_tape, 3000, .inl f_3))] := hD
  refine lv_aload_n hx hb dX11_addBytes_30 rfl (lv_at hl 1 rfl) ?_
  refine lv_dup hx hb dX11_addBytes_31 rfl ?_
  refine va_get (D := (dC, dI)) (ci := 10) (v := .int 10) (C := RX11) (T := TX11) (N := 9) hx hb hts in_X11_addBytes_RX11 hown hK hP 0 rfl rfl 1 (by decide) (hts (.fieldLink RX11 13 "FourTongues" "taped" "I") (by decide +kernel)) (fun _ h9 => h9) rfl dX11_addBytes_32 ?_
  refine lv_iconst (v := 1) hx hb dX11_addBytes_35 (by decide) ?_
  refine lv_iadd hx hb dX11_addBytes_36 ?_
  refine my_ti (v := 11) (by decide) ?_
  refine va_put (D := (dC, dI)) (ci := 10) (v := .int 11) (ty := .int) (C := RX11) (T := TX11) (N := 9) hx hb hts in_X11_addBytes_RX11 tyX11 tyX11_ok nmX11 hown hK hP hD hS 0 rfl rfl 1 (by decide) (hts (.fieldLink RX11 13 "FourTongues" "taped" "I") (by decide +kernel)) (fun _ h9 => h9) rfl (by decide +kernel) rfl rfl (Nat.le_of_ble_eq_true rfl) dX11_addBytes_37 (fun H locs hP hD hS => ?_)
  have hP : va_P (dC, dI) vwCl [(h0, .inr (10, [.ref v_tape, .int 11, .int 0, .ref v_names, .ref v_borders, .ref v_programs, .ref v_draft, .ref v_parser, .ref v_machine])), (v_tape, .inl (c_v_tape, 3000, .inl f_3))] _ := hP
  have hD : va_D A [(h0, .inr (10, [.ref v_tape, .int 11, .int 0, .ref v_names, .ref v_borders, .ref v_programs, .ref v_draft, .ref v_parser, .ref v_machine])), (v_tape, .inl (c_v_tape, 3000, .inl f_3))] := hD
  refine lv_iinc (v := 0) (lv' := [(2, .int 0), (0, .ref h0), (1, .int x1)]) hx hb dX11_addBytes_40 hl (k := 0) rfl (by decide) (by decide) rfl (fun ls hl => ?_)
  refine lv_goto (tgt := 3) hx hb dX11_addBytes_43 (by decide) ?_
  refine lv_iload_n hx hb dX11_addBytes_3 rfl (lv_at hl 0 rfl) ?_
  refine lv_if_lt (tgt := 46) hx hb dX11_addBytes_4 (by decide) (fun c_4 => absurd c_4 (by decide)) (fun c_4 => ?_)
  refine lv_aload_n hx hb dX11_addBytes_7 rfl (lv_at hl 1 rfl) ?_
  refine va_get (D := (dC, dI)) (ci := 10) (v := .int 11) (C := RX11) (T := TX11) (N := 9) hx hb hts in_X11_addBytes_RX11 hown hK hP 0 rfl rfl 1 (by decide) (hts (.fieldLink RX11 13 "FourTongues" "taped" "I") (by decide +kernel)) (fun _ h9 => h9) rfl dX11_addBytes_8 ?_
  refine lv_sipush (v := 3000) hx hb dX11_addBytes_11 (by decide) ?_
  refine lv_icmp_ge (tgt := 46) hx hb dX11_addBytes_14 (by decide) (fun c_14 => absurd c_14 (by decide)) (fun c_14 => ?_)
  refine lv_aload_n hx hb dX11_addBytes_17 rfl (lv_at hl 1 rfl) ?_
  refine va_get (D := (dC, dI)) (ci := 10) (v := .ref v_tape) (C := RX11) (T := TX11) (N := 9) hx hb hts in_X11_addBytes_RX11 hown hK hP 0 rfl rfl 0 (by decide) (hts (.fieldLink RX11 9 "FourTongues" "tape" "[B") (by decide +kernel)) (fun _ h9 => h9) rfl dX11_addBytes_18 ?_
  refine lv_aload_n hx hb dX11_addBytes_21 rfl (lv_at hl 1 rfl) ?_
  refine va_get (D := (dC, dI)) (ci := 10) (v := .int 11) (C := RX11) (T := TX11) (N := 9) hx hb hts in_X11_addBytes_RX11 hown hK hP 0 rfl rfl 1 (by decide) (hts (.fieldLink RX11 13 "FourTongues" "taped" "I") (by decide +kernel)) (fun _ h9 => h9) rfl dX11_addBytes_22 ?_
  refine lv_iload_n hx hb dX11_addBytes_25 rfl (lv_at hl 2 rfl) ?_
  refine lv_iload_n hx hb dX11_addBytes_26 rfl (lv_at hl 0 rfl) ?_
  refine lv_ishr hx hb dX11_addBytes_27 ?_
  refine lv_i2b (v := (x1 >>> (0 &&& 31)).toInt8.toInt32) hx hb dX11_addBytes_28 rfl ?_
  refine va_bast hx hb hK hP hD hS 1 0 rfl rfl (by unfold vp_in; decide) dX11_addBytes_29 (fun H locs hP hD hS => ?_)
  obtain ⟨f_4, ef_4⟩ : ∃ y : Nat → Int32, y = upd f_3 ((11 : Int32).toNatClampNeg) (vp_nar .byte ((x1 >>> (0 &&& 31)).toInt8.toInt32)) := ⟨_, rfl⟩
  rw [← ef_4] at hP hD
  have hP : va_P (dC, dI) vwCl [(h0, .inr (10, [.ref v_tape, .int 11, .int 0, .ref v_names, .ref v_borders, .ref v_programs, .ref v_draft, .ref v_parser, .ref v_machine])), (v_tape, .inl (c_v_tape, 3000, .inl f_4))] _ := hP
  have hD : va_D A [(h0, .inr (10, [.ref v_tape, .int 11, .int 0, .ref v_names, .ref v_borders, .ref v_programs, .ref v_draft, .ref v_parser, .ref v_machine])), (v_tape, .inl (c_v_tape, 3000, .inl f_4))] := hD
  refine lv_aload_n hx hb dX11_addBytes_30 rfl (lv_at hl 1 rfl) ?_
  refine lv_dup hx hb dX11_addBytes_31 rfl ?_
  refine va_get (D := (dC, dI)) (ci := 10) (v := .int 11) (C := RX11) (T := TX11) (N := 9) hx hb hts in_X11_addBytes_RX11 hown hK hP 0 rfl rfl 1 (by decide) (hts (.fieldLink RX11 13 "FourTongues" "taped" "I") (by decide +kernel)) (fun _ h9 => h9) rfl dX11_addBytes_32 ?_
  refine lv_iconst (v := 1) hx hb dX11_addBytes_35 (by decide) ?_
  refine lv_iadd hx hb dX11_addBytes_36 ?_
  refine my_ti (v := 12) (by decide) ?_
  refine va_put (D := (dC, dI)) (ci := 10) (v := .int 12) (ty := .int) (C := RX11) (T := TX11) (N := 9) hx hb hts in_X11_addBytes_RX11 tyX11 tyX11_ok nmX11 hown hK hP hD hS 0 rfl rfl 1 (by decide) (hts (.fieldLink RX11 13 "FourTongues" "taped" "I") (by decide +kernel)) (fun _ h9 => h9) rfl (by decide +kernel) rfl rfl (Nat.le_of_ble_eq_true rfl) dX11_addBytes_37 (fun H locs hP hD hS => ?_)
  have hP : va_P (dC, dI) vwCl [(h0, .inr (10, [.ref v_tape, .int 12, .int 0, .ref v_names, .ref v_borders, .ref v_programs, .ref v_draft, .ref v_parser, .ref v_machine])), (v_tape, .inl (c_v_tape, 3000, .inl f_4))] _ := hP
  have hD : va_D A [(h0, .inr (10, [.ref v_tape, .int 12, .int 0, .ref v_names, .ref v_borders, .ref v_programs, .ref v_draft, .ref v_parser, .ref v_machine])), (v_tape, .inl (c_v_tape, 3000, .inl f_4))] := hD
  refine lv_iinc (v := (-8)) (lv' := [(2, .int (-8)), (0, .ref h0), (1, .int x1)]) hx hb dX11_addBytes_40 hl (k := 0) rfl (by decide) (by decide) rfl (fun ls hl => ?_)
  refine lv_goto (tgt := 3) hx hb dX11_addBytes_43 (by decide) ?_
  refine lv_iload_n hx hb dX11_addBytes_3 rfl (lv_at hl 0 rfl) ?_
  refine lv_if_lt (tgt := 46) hx hb dX11_addBytes_4 (by decide) (fun c_4 => ?_) (fun c_4 => absurd c_4 (by decide))
  have hP9 := hP.sub (ws' := [(h0, .inr (10, [.ref v_tape, .int 12, .int 0, .ref v_names, .ref v_borders, .ref v_programs, .ref v_draft, .ref v_parser, .ref v_machine])), (v_tape, .inl (c_v_tape, 3000, .inl f_4))]) [0, 1] rfl
  have hD9 := hD.sub (ws' := [(h0, .inr (10, [.ref v_tape, .int 12, .int 0, .ref v_names, .ref v_borders, .ref v_programs, .ref v_draft, .ref v_parser, .ref v_machine])), (v_tape, .inl (c_v_tape, 3000, .inl f_4))]) [0, 1] (by decide) rfl
  have hK9 := hK.sub (tys' := [(c_v_tape, .byte)]) [0] rfl
  exact W.vret hx hb hr (fun t ht hW => ⟨⟨(), rfl, trivial, ⟨f_4, by rw [ht]; exact hP9, va_K.moved hW.alike hK9, hD9⟩⟩, hS.F ht⟩) hS.2.2 dX11_addBytes_46

set_option maxHeartbeats 4000000 in
set_option maxRecDepth 100000 in
theorem c_X11_addBytes_12 (l : Launch) (dC : Nat → ClassId) (dI : Nat → Nat → Nat) (sz : Nat) (h0 : Nat) (v_tape : Nat) (v_names : Nat) (v_borders : Nat) (v_programs : Nat) (v_draft : Nat) (v_parser : Nat) (v_machine : Nat) (c_v_tape : ClassId) (f_tape : Nat → Int32) (x1 : Int32) : Met l yX11_addBytes wsX11_addBytes ({ frames := 0, cells := 0, slots := 0, locals := 0 }) (va_Pc [.ref h0, .int x1] (fun U => xM (dC, dI) sz [(h0, .inr (10, [.ref v_tape, .int 12, .int 0, .ref v_names, .ref v_borders, .ref v_programs, .ref v_draft, .ref v_parser, .ref v_machine])), (v_tape, .inl (c_v_tape, 3000, .inl f_tape))] [(c_v_tape, .byte)] U)) (va_Qv (fun _ : Unit => True) (fun (_ : Unit) t => ∃ (f_4 : Nat → Int32), xB (dC, dI) [(h0, .inr (10, [.ref v_tape, .int 16, .int 0, .ref v_names, .ref v_borders, .ref v_programs, .ref v_draft, .ref v_parser, .ref v_machine])), (v_tape, .inl (c_v_tape, 3000, .inl f_4))] [(c_v_tape, .byte)] (va_A [(h0, .inr (10, [.ref v_tape, .int 12, .int 0, .ref v_names, .ref v_borders, .ref v_programs, .ref v_draft, .ref v_parser, .ref v_machine])), (v_tape, .inl (c_v_tape, 3000, .inl f_tape))] sz) t) (va_A [(h0, .inr (10, [.ref v_tape, .int 12, .int 0, .ref v_names, .ref v_borders, .ref v_programs, .ref v_draft, .ref v_parser, .ref v_machine])), (v_tape, .inl (c_v_tape, 3000, .inl f_tape))] sz)) 0 0 (va_A [(h0, .inr (10, [.ref v_tape, .int 12, .int 0, .ref v_names, .ref v_borders, .ref v_programs, .ref v_draft, .ref v_parser, .ref v_machine])), (v_tape, .inl (c_v_tape, 3000, .inl f_tape))] sz) := by
  refine Met.ofW (cc := cX11_addBytes) (maxL := 3) (ret := none) (by decide) rfl ?_
  intro p e s m args below meth c s₁ B hml hv
  obtain ⟨rfl, hsz, hP, hK, hD0⟩ := hv
  have hx := B.exec
  have hb := B.bytes
  have hr := B.returns
  have hts := atoms_spec (ws := wsX11_addBytes) B.pre
  have hown : s.vm.findClass RX11 = some m.cls := findClass_of_methodNamed B.named
  have hlocks := B.notSynchronized
  subst hsz
  have hD := hD0.self (sz := s.heap.size)
  generalize hAe : va_A [(h0, .inr (10, [.ref v_tape, .int 12, .int 0, .ref v_names, .ref v_borders, .ref v_programs, .ref v_draft, .ref v_parser, .ref v_machine])), (v_tape, .inl (c_v_tape, 3000, .inl f_tape))] s.heap.size = A at hD ⊢
  have hA : ∀ q : Nat, s.heap.size ≤ q → A q := fun q h => by rw [← hAe]; exact Or.inr h
  have hS : va_S A s.heap s.heap [] := va_S.rf
  have hl := lv_entry ([.ref h0, .int x1]) (n := 3) (Nat.le_of_ble_eq_true rfl)
  rw [lg_entry_eq]
  generalize (lg_sl ([.ref h0, .int x1]) ++ List.replicate (3 - (lg_sl ([.ref h0, .int x1])).length) Slot.unset).toArray = ls at hl ⊢
  have hl : lv_has ls 3 [(0, .ref h0), (1, .int x1)] := hl
  refine lv_bipush (v := 24) hx hb dX11_addBytes_0 (by decide) ?_
  refine lv_istore_n (lv' := [(2, .int 24), (0, .ref h0), (1, .int x1)]) hx hb dX11_addBytes_2 rfl hl (by decide) rfl (fun ls hl => ?_)
  refine lv_iload_n hx hb dX11_addBytes_3 rfl (lv_at hl 0 rfl) ?_
  refine lv_if_lt (tgt := 46) hx hb dX11_addBytes_4 (by decide) (fun c_4 => absurd c_4 (by decide)) (fun c_4 => ?_)
  refine lv_aload_n hx hb dX11_addBytes_7 rfl (lv_at hl 1 rfl) ?_
  refine va_get (D := (dC, dI)) (ci := 10) (v := .int 12) (C := RX11) (T := TX11) (N := 9) hx hb hts in_X11_addBytes_RX11 hown hK hP 0 rfl rfl 1 (by decide) (hts (.fieldLink RX11 13 "FourTongues" "taped" "I") (by decide +kernel)) (fun _ h9 => h9) rfl dX11_addBytes_8 ?_
  refine lv_sipush (v := 3000) hx hb dX11_addBytes_11 (by decide) ?_
  refine lv_icmp_ge (tgt := 46) hx hb dX11_addBytes_14 (by decide) (fun c_14 => absurd c_14 (by decide)) (fun c_14 => ?_)
  refine lv_aload_n hx hb dX11_addBytes_17 rfl (lv_at hl 1 rfl) ?_
  refine va_get (D := (dC, dI)) (ci := 10) (v := .ref v_tape) (C := RX11) (T := TX11) (N := 9) hx hb hts in_X11_addBytes_RX11 hown hK hP 0 rfl rfl 0 (by decide) (hts (.fieldLink RX11 9 "FourTongues" "tape" "[B") (by decide +kernel)) (fun _ h9 => h9) rfl dX11_addBytes_18 ?_
  refine lv_aload_n hx hb dX11_addBytes_21 rfl (lv_at hl 1 rfl) ?_
  refine va_get (D := (dC, dI)) (ci := 10) (v := .int 12) (C := RX11) (T := TX11) (N := 9) hx hb hts in_X11_addBytes_RX11 hown hK hP 0 rfl rfl 1 (by decide) (hts (.fieldLink RX11 13 "FourTongues" "taped" "I") (by decide +kernel)) (fun _ h9 => h9) rfl dX11_addBytes_22 ?_
  refine lv_iload_n hx hb dX11_addBytes_25 rfl (lv_at hl 2 rfl) ?_
  refine lv_iload_n hx hb dX11_addBytes_26 rfl (lv_at hl 0 rfl) ?_
  refine lv_ishr hx hb dX11_addBytes_27 ?_
  refine lv_i2b (v := (x1 >>> (24 &&& 31)).toInt8.toInt32) hx hb dX11_addBytes_28 rfl ?_
  refine va_bast hx hb hK hP hD hS 1 0 rfl rfl (by unfold vp_in; decide) dX11_addBytes_29 (fun H locs hP hD hS => ?_)
  obtain ⟨f_1, ef_1⟩ : ∃ y : Nat → Int32, y = upd f_tape ((12 : Int32).toNatClampNeg) (vp_nar .byte ((x1 >>> (24 &&& 31)).toInt8.toInt32)) := ⟨_, rfl⟩
  rw [← ef_1] at hP hD
  have hP : va_P (dC, dI) vwCl [(h0, .inr (10, [.ref v_tape, .int 12, .int 0, .ref v_names, .ref v_borders, .ref v_programs, .ref v_draft, .ref v_parser, .ref v_machine])), (v_tape, .inl (c_v_tape, 3000, .inl f_1))] _ := hP
  have hD : va_D A [(h0, .inr (10, [.ref v_tape, .int 12, .int 0, .ref v_names, .ref v_borders, .ref v_programs, .ref v_draft, .ref v_parser, .ref v_machine])), (v_tape, .inl (c_v_tape, 3000, .inl f_1))] := hD
  refine lv_aload_n hx hb dX11_addBytes_30 rfl (lv_at hl 1 rfl) ?_
  refine lv_dup hx hb dX11_addBytes_31 rfl ?_
  refine va_get (D := (dC, dI)) (ci := 10) (v := .int 12) (C := RX11) (T := TX11) (N := 9) hx hb hts in_X11_addBytes_RX11 hown hK hP 0 rfl rfl 1 (by decide) (hts (.fieldLink RX11 13 "FourTongues" "taped" "I") (by decide +kernel)) (fun _ h9 => h9) rfl dX11_addBytes_32 ?_
  refine lv_iconst (v := 1) hx hb dX11_addBytes_35 (by decide) ?_
  refine lv_iadd hx hb dX11_addBytes_36 ?_
  refine my_ti (v := 13) (by decide) ?_
  refine va_put (D := (dC, dI)) (ci := 10) (v := .int 13) (ty := .int) (C := RX11) (T := TX11) (N := 9) hx hb hts in_X11_addBytes_RX11 tyX11 tyX11_ok nmX11 hown hK hP hD hS 0 rfl rfl 1 (by decide) (hts (.fieldLink RX11 13 "FourTongues" "taped" "I") (by decide +kernel)) (fun _ h9 => h9) rfl (by decide +kernel) rfl rfl (Nat.le_of_ble_eq_true rfl) dX11_addBytes_37 (fun H locs hP hD hS => ?_)
  have hP : va_P (dC, dI) vwCl [(h0, .inr (10, [.ref v_tape, .int 13, .int 0, .ref v_names, .ref v_borders, .ref v_programs, .ref v_draft, .ref v_parser, .ref v_machine])), (v_tape, .inl (c_v_tape, 3000, .inl f_1))] _ := hP
  have hD : va_D A [(h0, .inr (10, [.ref v_tape, .int 13, .int 0, .ref v_names, .ref v_borders, .ref v_programs, .ref v_draft, .ref v_parser, .ref v_machine])), (v_tape, .inl (c_v_tape, 3000, .inl f_1))] := hD
  refine lv_iinc (v := 16) (lv' := [(2, .int 16), (0, .ref h0), (1, .int x1)]) hx hb dX11_addBytes_40 hl (k := 0) rfl (by decide) (by decide) rfl (fun ls hl => ?_)
  refine lv_goto (tgt := 3) hx hb dX11_addBytes_43 (by decide) ?_
  refine lv_iload_n hx hb dX11_addBytes_3 rfl (lv_at hl 0 rfl) ?_
  refine lv_if_lt (tgt := 46) hx hb dX11_addBytes_4 (by decide) (fun c_4 => absurd c_4 (by decide)) (fun c_4 => ?_)
  refine lv_aload_n hx hb dX11_addBytes_7 rfl (lv_at hl 1 rfl) ?_
  refine va_get (D := (dC, dI)) (ci := 10) (v := .int 13) (C := RX11) (T := TX11) (N := 9) hx hb hts in_X11_addBytes_RX11 hown hK hP 0 rfl rfl 1 (by decide) (hts (.fieldLink RX11 13 "FourTongues" "taped" "I") (by decide +kernel)) (fun _ h9 => h9) rfl dX11_addBytes_8 ?_
  refine lv_sipush (v := 3000) hx hb dX11_addBytes_11 (by decide) ?_
  refine lv_icmp_ge (tgt := 46) hx hb dX11_addBytes_14 (by decide) (fun c_14 => absurd c_14 (by decide)) (fun c_14 => ?_)
  refine lv_aload_n hx hb dX11_addBytes_17 rfl (lv_at hl 1 rfl) ?_
  refine va_get (D := (dC, dI)) (ci := 10) (v := .ref v_tape) (C := RX11) (T := TX11) (N := 9) hx hb hts in_X11_addBytes_RX11 hown hK hP 0 rfl rfl 0 (by decide) (hts (.fieldLink RX11 9 "FourTongues" "tape" "[B") (by decide +kernel)) (fun _ h9 => h9) rfl dX11_addBytes_18 ?_
  refine lv_aload_n hx hb dX11_addBytes_21 rfl (lv_at hl 1 rfl) ?_
  refine va_get (D := (dC, dI)) (ci := 10) (v := .int 13) (C := RX11) (T := TX11) (N := 9) hx hb hts in_X11_addBytes_RX11 hown hK hP 0 rfl rfl 1 (by decide) (hts (.fieldLink RX11 13 "FourTongues" "taped" "I") (by decide +kernel)) (fun _ h9 => h9) rfl dX11_addBytes_22 ?_
  refine lv_iload_n hx hb dX11_addBytes_25 rfl (lv_at hl 2 rfl) ?_
  refine lv_iload_n hx hb dX11_addBytes_26 rfl (lv_at hl 0 rfl) ?_
  refine lv_ishr hx hb dX11_addBytes_27 ?_
  refine lv_i2b (v := (x1 >>> (16 &&& 31)).toInt8.toInt32) hx hb dX11_addBytes_28 rfl ?_
  refine va_bast hx hb hK hP hD hS 1 0 rfl rfl (by unfold vp_in; decide) dX11_addBytes_29 (fun H locs hP hD hS => ?_)
  obtain ⟨f_2, ef_2⟩ : ∃ y : Nat → Int32, y = upd f_1 ((13 : Int32).toNatClampNeg) (vp_nar .byte ((x1 >>> (16 &&& 31)).toInt8.toInt32)) := ⟨_, rfl⟩
  rw [← ef_2] at hP hD
  have hP : va_P (dC, dI) vwCl [(h0, .inr (10, [.ref v_tape, .int 13, .int 0, .ref v_names, .ref v_borders, .ref v_programs, .ref v_draft, .ref v_parser, .ref v_machine])), (v_tape, .inl (c_v_tape, 3000, .inl f_2))] _ := hP
  have hD : va_D A [(h0, .inr (10, [.ref v_tape, .int 13, .int 0, .ref v_names, .ref v_borders, .ref v_programs, .ref v_draft, .ref v_parser, .ref v_machine])), (v_tape, .inl (c_v_tape, 3000, .inl f_2))] := hD
  refine lv_aload_n hx hb dX11_addBytes_30 rfl (lv_at hl 1 rfl) ?_
  refine lv_dup hx hb dX11_addBytes_31 rfl ?_
  refine va_get (D := (dC, dI)) (ci := 10) (v := .int 13) (C := RX11) (T := TX11) (N := 9) hx hb hts in_X11_addBytes_RX11 hown hK hP 0 rfl rfl 1 (by decide) (hts (.fieldLink RX11 13 "FourTongues" "taped" "I") (by decide +kernel)) (fun _ h9 => h9) rfl dX11_addBytes_32 ?_
  refine lv_iconst (v := 1) hx hb dX11_addBytes_35 (by decide) ?_
  refine lv_iadd hx hb dX11_addBytes_36 ?_
  refine my_ti (v := 14) (by decide) ?_
  refine va_put (D := (dC, dI)) (ci := 10) (v := .int 14) (ty := .int) (C := RX11) (T := TX11) (N := 9) hx hb hts in_X11_addBytes_RX11 tyX11 tyX11_ok nmX11 hown hK hP hD hS 0 rfl rfl 1 (by decide) (hts (.fieldLink RX11 13 "FourTongues" "taped" "I") (by decide +kernel)) (fun _ h9 => h9) rfl (by decide +kernel) rfl rfl (Nat.le_of_ble_eq_true rfl) dX11_addBytes_37 (fun H locs hP hD hS => ?_)
  have hP : va_P (dC, dI) vwCl [(h0, .inr (10, [.ref v_tape, .int 14, .int 0, .ref v_names, .ref v_borders, .ref v_programs, .ref v_draft, .ref v_parser, .ref v_machine])), (v_tape, .inl (c_v_tape, 3000, .inl f_2))] _ := hP
  have hD : va_D A [(h0, .inr (10, [.ref v_tape, .int 14, .int 0, .ref v_names, .ref v_borders, .ref v_programs, .ref v_draft, .ref v_parser, .ref v_machine])), (v_tape, .inl (c_v_tape, 3000, .inl f_2))] := hD
  refine lv_iinc (v := 8) (lv' := [(2, .int 8), (0, .ref h0), (1, .int x1)]) hx hb dX11_addBytes_40 hl (k := 0) rfl (by decide) (by decide) rfl (fun ls hl => ?_)
  refine lv_goto (tgt := 3) hx hb dX11_addBytes_43 (by decide) ?_
  refine lv_iload_n hx hb dX11_addBytes_3 rfl (lv_at hl 0 rfl) ?_
  refine lv_if_lt (tgt := 46) hx hb dX11_addBytes_4 (by decide) (fun c_4 => absurd c_4 (by decide)) (fun c_4 => ?_)
  refine lv_aload_n hx hb dX11_addBytes_7 rfl (lv_at hl 1 rfl) ?_
  refine va_get (D := (dC, dI)) (ci := 10) (v := .int 14) (C := RX11) (T := TX11) (N := 9) hx hb hts in_X11_addBytes_RX11 hown hK hP 0 rfl rfl 1 (by decide) (hts (.fieldLink RX11 13 "FourTongues" "taped" "I") (by decide +kernel)) (fun _ h9 => h9) rfl dX11_addBytes_8 ?_
  refine lv_sipush (v := 3000) hx hb dX11_addBytes_11 (by decide) ?_
  refine lv_icmp_ge (tgt := 46) hx hb dX11_addBytes_14 (by decide) (fun c_14 => absurd c_14 (by decide)) (fun c_14 => ?_)
  refine lv_aload_n hx hb dX11_addBytes_17 rfl (lv_at hl 1 rfl) ?_
  refine va_get (D := (dC, dI)) (ci := 10) (v := .ref v_tape) (C := RX11) (T := TX11) (N := 9) hx hb hts in_X11_addBytes_RX11 hown hK hP 0 rfl rfl 0 (by decide) (hts (.fieldLink RX11 9 "FourTongues" "tape" "[B") (by decide +kernel)) (fun _ h9 => h9) rfl dX11_addBytes_18 ?_
  refine lv_aload_n hx hb dX11_addBytes_21 rfl (lv_at hl 1 rfl) ?_
  refine va_get (D := (dC, dI)) (ci := 10) (v := .int 14) (C := RX11) (T := TX11) (N := 9) hx hb hts in_X11_addBytes_RX11 hown hK hP 0 rfl rfl 1 (by decide) (hts (.fieldLink RX11 13 "FourTongues" "taped" "I") (by decide +kernel)) (fun _ h9 => h9) rfl dX11_addBytes_22 ?_
  refine lv_iload_n hx hb dX11_addBytes_25 rfl (lv_at hl 2 rfl) ?_
  refine lv_iload_n hx hb dX11_addBytes_26 rfl (lv_at hl 0 rfl) ?_
  refine lv_ishr hx hb dX11_addBytes_27 ?_
  refine lv_i2b (v := (x1 >>> (8 &&& 31)).toInt8.toInt32) hx hb dX11_addBytes_28 rfl ?_
  refine va_bast hx hb hK hP hD hS 1 0 rfl rfl (by unfold vp_in; decide) dX11_addBytes_29 (fun H locs hP hD hS => ?_)
  obtain ⟨f_3, ef_3⟩ : ∃ y : Nat → Int32, y = upd f_2 ((14 : Int32).toNatClampNeg) (vp_nar .byte ((x1 >>> (8 &&& 31)).toInt8.toInt32)) := ⟨_, rfl⟩
  rw [← ef_3] at hP hD
  have hP : va_P (dC, dI) vwCl [(h0, .inr (10, [.ref v_tape, .int 14, .int 0, .ref v_names, .ref v_borders, .ref v_programs, .ref v_draft, .ref v_parser, .ref v_machine])), (v_tape, .inl (c_v_tape, 3000, .inl f_3))] _ := hP
  have hD : va_D A [(h0, .inr (10, [.ref v_tape, .int 14, .int 0, .ref v_names, .ref v_borders, .ref v_programs, .ref v_draft, .ref v_parser, .ref v_machine])), (v_tape, .inl (c_v_tape, 3000, .inl f_3))] := hD
  refine lv_aload_n hx hb dX11_addBytes_30 rfl (lv_at hl 1 rfl) ?_
  refine lv_dup hx hb dX11_addBytes_31 rfl ?_
  refine va_get (D := (dC, dI)) (ci := 10) (v := .int 14) (C := RX11) (T := TX11) (N := 9) hx hb hts in_X11_addBytes_RX11 hown hK hP 0 rfl rfl 1 (by decide) (hts (.fieldLink RX11 13 "FourTongues" "taped" "I") (by decide +kernel)) (fun _ h9 => h9) rfl dX11_addBytes_32 ?_
  refine lv_iconst (v := 1) hx hb dX11_addBytes_35 (by decide) ?_
  refine lv_iadd hx hb dX11_addBytes_36 ?_
  refine my_ti (v := 15) (by decide) ?_
  refine va_put (D := (dC, dI)) (ci := 10) (v := .int 15) (ty := .int) (C := RX11) (T := TX11) (N := 9) hx hb hts in_X11_addBytes_RX11 tyX11 tyX11_ok nmX11 hown hK hP hD hS 0 rfl rfl 1 (by decide) (hts (.fieldLink RX11 13 "FourTongues" "taped" "I") (by decide +kernel)) (fun _ h9 => h9) rfl (by decide +kernel) rfl rfl (Nat.le_of_ble_eq_true rfl) dX11_addBytes_37 (fun H locs hP hD hS => ?_)
  have hP : va_P (dC, dI) vwCl [(h0, .inr (10, [.ref v_tape, .int 15, .int 0, .ref v_names, .ref v_borders, .ref v_programs, .ref v_draft, .ref v_parser, .ref v_machine])), (v_tape, .inl (c_v_tape, 3000, .inl f_3))] _ := hP
  have hD : va_D A [(h0, .inr (10, [.ref v_tape, .int 15, .int 0, .ref v_names, .ref v_borders, .ref v_programs, .ref v_draft, .ref v_parser, .ref v_machine])), (v_tape, .inl (c_v_tape, 3000, .inl f_3))] := hD
  refine lv_iinc (v := 0) (lv' := [(2, .int 0), (0, .ref h0), (1, .int x1)]) hx hb dX11_addBytes_40 hl (k := 0) rfl (by decide) (by decide) rfl (fun ls hl => ?_)
  refine lv_goto (tgt := 3) hx hb dX11_addBytes_43 (by decide) ?_
  refine lv_iload_n hx hb dX11_addBytes_3 rfl (lv_at hl 0 rfl) ?_
  refine lv_if_lt (tgt := 46) hx hb dX11_addBytes_4 (by decide) (fun c_4 => absurd c_4 (by decide)) (fun c_4 => ?_)
  refine lv_aload_n hx hb dX11_addBytes_7 rfl (lv_at hl 1 rfl) ?_
  refine va_get (D := (dC, dI)) (ci := 10) (v := .int 15) (C := RX11) (T := TX11) (N := 9) hx hb hts in_X11_addBytes_RX11 hown hK hP 0 rfl rfl 1 (by decide) (hts (.fieldLink RX11 13 "FourTongues" "taped" "I") (by decide +kernel)) (fun _ h9 => h9) rfl dX11_addBytes_8 ?_
  refine lv_sipush (v := 3000) hx hb dX11_addBytes_11 (by decide) ?_
  refine lv_icmp_ge (tgt := 46) hx hb dX11_addBytes_14 (by decide) (fun c_14 => absurd c_14 (by decide)) (fun c_14 => ?_)
  refine lv_aload_n hx hb dX11_addBytes_17 rfl (lv_at hl 1 rfl) ?_
  refine va_get (D := (dC, dI)) (ci := 10) (v := .ref v_tape) (C := RX11) (T := TX11) (N := 9) hx hb hts in_X11_addBytes_RX11 hown hK hP 0 rfl rfl 0 (by decide) (hts (.fieldLink RX11 9 "FourTongues" "tape" "[B") (by decide +kernel)) (fun _ h9 => h9) rfl dX11_addBytes_18 ?_
  refine lv_aload_n hx hb dX11_addBytes_21 rfl (lv_at hl 1 rfl) ?_
  refine va_get (D := (dC, dI)) (ci := 10) (v := .int 15) (C := RX11) (T := TX11) (N := 9) hx hb hts in_X11_addBytes_RX11 hown hK hP 0 rfl rfl 1 (by decide) (hts (.fieldLink RX11 13 "FourTongues" "taped" "I") (by decide +kernel)) (fun _ h9 => h9) rfl dX11_addBytes_22 ?_
  refine lv_iload_n hx hb dX11_addBytes_25 rfl (lv_at hl 2 rfl) ?_
  refine lv_iload_n hx hb dX11_addBytes_26 rfl (lv_at hl 0 rfl) ?_
  refine lv_ishr hx hb dX11_addBytes_27 ?_
  refine lv_i2b (v := (x1 >>> (0 &&& 31)).toInt8.toInt32) hx hb dX11_addBytes_28 rfl ?_
  refine va_bast hx hb hK hP hD hS 1 0 rfl rfl (by unfold vp_in; decide) dX11_addBytes_29 (fun H locs hP hD hS => ?_)
  obtain ⟨f_4, ef_4⟩ : ∃ y : Nat → Int32, y = upd f_3 ((15 : Int32).toNatClampNeg) (vp_nar .byte ((x1 >>> (0 &&& 31)).toInt8.toInt32)) := ⟨_, rfl⟩
  rw [← ef_4] at hP hD
  have hP : va_P (dC, dI) vwCl [(h0, .inr (10, [.ref v_tape, .int 15, .int 0, .ref v_names, .ref v_borders, .ref v_programs, .ref v_draft, .ref v_parser, .ref v_machine])), (v_tape, .inl (c_v_tape, 3000, .inl f_4))] _ := hP
  have hD : va_D A [(h0, .inr (10, [.ref v_tape, .int 15, .int 0, .ref v_names, .ref v_borders, .ref v_programs, .ref v_draft, .ref v_parser, .ref v_machine])), (v_tape, .inl (c_v_tape, 3000, .inl f_4))] := hD
  refine lv_aload_n hx hb dX11_addBytes_30 rfl (lv_at hl 1 rfl) ?_
  refine lv_dup hx hb dX11_addBytes_31 rfl ?_
  refine va_get (D := (dC, dI)) (ci := 10) (v := .int 15) (C := RX11) (T := TX11) (N := 9) hx hb hts in_X11_addBytes_RX11 hown hK hP 0 rfl rfl 1 (by decide) (hts (.fieldLink RX11 13 "FourTongues" "taped" "I") (by decide +kernel)) (fun _ h9 => h9) rfl dX11_addBytes_32 ?_
  refine lv_iconst (v := 1) hx hb dX11_addBytes_35 (by decide) ?_
  refine lv_iadd hx hb dX11_addBytes_36 ?_
  refine my_ti (v := 16) (by decide) ?_
  refine va_put (D := (dC, dI)) (ci := 10) (v := .int 16) (ty := .int) (C := RX11) (T := TX11) (N := 9) hx hb hts in_X11_addBytes_RX11 tyX11 tyX11_ok nmX11 hown hK hP hD hS 0 rfl rfl 1 (by decide) (hts (.fieldLink RX11 13 "FourTongues" "taped" "I") (by decide +kernel)) (fun _ h9 => h9) rfl (by decide +kernel) rfl rfl (Nat.le_of_ble_eq_true rfl) dX11_addBytes_37 (fun H locs hP hD hS => ?_)
  have hP : va_P (dC, dI) vwCl [(h0, .inr (10, [.ref v_tape, .int 16, .int 0, .ref v_names, .ref v_borders, .ref v_programs, .ref v_draft, .ref v_parser, .ref v_machine])), (v_tape, .inl (c_v_tape, 3000, .inl f_4))] _ := hP
  have hD : va_D A [(h0, .inr (10, [.ref v_tape, .int 16, .int 0, .ref v_names, .ref v_borders, .ref v_programs, .ref v_draft, .ref v_parser, .ref v_machine])), (v_tape, .inl (c_v_tape, 3000, .inl f_4))] := hD
  refine lv_iinc (v := (-8)) (lv' := [(2, .int (-8)), (0, .ref h0), (1, .int x1)]) hx hb dX11_addBytes_40 hl (k := 0) rfl (by decide) (by decide) rfl (fun ls hl => ?_)
  refine lv_goto (tgt := 3) hx hb dX11_addBytes_43 (by decide) ?_
  refine lv_iload_n hx hb dX11_addBytes_3 rfl (lv_at hl 0 rfl) ?_
  refine lv_if_lt (tgt := 46) hx hb dX11_addBytes_4 (by decide) (fun c_4 => ?_) (fun c_4 => absurd c_4 (by decide))
  have hP9 := hP.sub (ws' := [(h0, .inr (10, [.ref v_tape, .int 16, .int 0, .ref v_names, .ref v_borders, .ref v_programs, .ref v_draft, .ref v_parser, .ref v_machine])), (v_tape, .inl (c_v_tape, 3000, .inl f_4))]) [0, 1] rfl
  have hD9 := hD.sub (ws' := [(h0, .inr (10, [.ref v_tape, .int 16, .int 0, .ref v_names, .ref v_borders, .ref v_programs, .ref v_draft, .ref v_parser, .ref v_machine])), (v_tape, .inl (c_v_tape, 3000, .inl f_4))]) [0, 1] (by decide) rfl
  have hK9 := hK.sub (tys' := [(c_v_tape, .byte)]) [0] rfl
  exact W.vret hx hb hr (fun t ht hW => ⟨⟨(), rfl, trivial, ⟨f_4, by rw [ht]; exact hP9, va_K.moved hW.alike hK9, hD9⟩⟩, hS.F ht⟩) hS.2.2 dX11_addBytes_46

set_option maxHeartbeats 4000000 in
set_option maxRecDepth 100000 in
theorem c_X11_addBytes_16 (l : Launch) (dC : Nat → ClassId) (dI : Nat → Nat → Nat) (sz : Nat) (h0 : Nat) (v_tape : Nat) (v_names : Nat) (v_borders : Nat) (v_programs : Nat) (v_draft : Nat) (v_parser : Nat) (v_machine : Nat) (c_v_tape : ClassId) (f_tape : Nat → Int32) (x1 : Int32) : Met l yX11_addBytes wsX11_addBytes ({ frames := 0, cells := 0, slots := 0, locals := 0 }) (va_Pc [.ref h0, .int x1] (fun U => xM (dC, dI) sz [(h0, .inr (10, [.ref v_tape, .int 16, .int 0, .ref v_names, .ref v_borders, .ref v_programs, .ref v_draft, .ref v_parser, .ref v_machine])), (v_tape, .inl (c_v_tape, 3000, .inl f_tape))] [(c_v_tape, .byte)] U)) (va_Qv (fun _ : Unit => True) (fun (_ : Unit) t => ∃ (f_4 : Nat → Int32), xB (dC, dI) [(h0, .inr (10, [.ref v_tape, .int 20, .int 0, .ref v_names, .ref v_borders, .ref v_programs, .ref v_draft, .ref v_parser, .ref v_machine])), (v_tape, .inl (c_v_tape, 3000, .inl f_4))] [(c_v_tape, .byte)] (va_A [(h0, .inr (10, [.ref v_tape, .int 16, .int 0, .ref v_names, .ref v_borders, .ref v_programs, .ref v_draft, .ref v_parser, .ref v_machine])), (v_tape, .inl (c_v_tape, 3000, .inl f_tape))] sz) t) (va_A [(h0, .inr (10, [.ref v_tape, .int 16, .int 0, .ref v_names, .ref v_borders, .ref v_programs, .ref v_draft, .ref v_parser, .ref v_machine])), (v_tape, .inl (c_v_tape, 3000, .inl f_tape))] sz)) 0 0 (va_A [(h0, .inr (10, [.ref v_tape, .int 16, .int 0, .ref v_names, .ref v_borders, .ref v_programs, .ref v_draft, .ref v_parser, .ref v_machine])), (v_tape, .inl (c_v_tape, 3000, .inl f_tape))] sz) := by
  refine Met.ofW (cc := cX11_addBytes) (maxL := 3) (ret := none) (by decide) rfl ?_
  intro p e s m args below meth c s₁ B hml hv
  obtain ⟨rfl, hsz, hP, hK, hD0⟩ := hv
  have hx := B.exec
  have hb := B.bytes
  have hr := B.returns
  have hts := atoms_spec (ws := wsX11_addBytes) B.pre
  have hown : s.vm.findClass RX11 = some m.cls := findClass_of_methodNamed B.named
  have hlocks := B.notSynchronized
  subst hsz
  have hD := hD0.self (sz := s.heap.size)
  generalize hAe : va_A [(h0, .inr (10, [.ref v_tape, .int 16, .int 0, .ref v_names, .ref v_borders, .ref v_programs, .ref v_draft, .ref v_parser, .ref v_machine])), (v_tape, .inl (c_v_tape, 3000, .inl f_tape))] s.heap.size = A at hD ⊢
  have hA : ∀ q : Nat, s.heap.size ≤ q → A q := fun q h => by rw [← hAe]; exact Or.inr h
  have hS : va_S A s.heap s.heap [] := va_S.rf
  have hl := lv_entry ([.ref h0, .int x1]) (n := 3) (Nat.le_of_ble_eq_true rfl)
  rw [lg_entry_eq]
  generalize (lg_sl ([.ref h0, .int x1]) ++ List.replicate (3 - (lg_sl ([.ref h0, .int x1])).length) Slot.unset).toArray = ls at hl ⊢
  have hl : lv_has ls 3 [(0, .ref h0), (1, .int x1)] := hl
  refine lv_bipush (v := 24) hx hb dX11_addBytes_0 (by decide) ?_
  refine lv_istore_n (lv' := [(2, .int 24), (0, .ref h0), (1, .int x1)]) hx hb dX11_addBytes_2 rfl hl (by decide) rfl (fun ls hl => ?_)
  refine lv_iload_n hx hb dX11_addBytes_3 rfl (lv_at hl 0 rfl) ?_
  refine lv_if_lt (tgt := 46) hx hb dX11_addBytes_4 (by decide) (fun c_4 => absurd c_4 (by decide)) (fun c_4 => ?_)
  refine lv_aload_n hx hb dX11_addBytes_7 rfl (lv_at hl 1 rfl) ?_
  refine va_get (D := (dC, dI)) (ci := 10) (v := .int 16) (C := RX11) (T := TX11) (N := 9) hx hb hts in_X11_addBytes_RX11 hown hK hP 0 rfl rfl 1 (by decide) (hts (.fieldLink RX11 13 "FourTongues" "taped" "I") (by decide +kernel)) (fun _ h9 => h9) rfl dX11_addBytes_8 ?_
  refine lv_sipush (v := 3000) hx hb dX11_addBytes_11 (by decide) ?_
  refine lv_icmp_ge (tgt := 46) hx hb dX11_addBytes_14 (by decide) (fun c_14 => absurd c_14 (by decide)) (fun c_14 => ?_)
  refine lv_aload_n hx hb dX11_addBytes_17 rfl (lv_at hl 1 rfl) ?_
  refine va_get (D := (dC, dI)) (ci := 10) (v := .ref v_tape) (C := RX11) (T := TX11) (N := 9) hx hb hts in_X11_addBytes_RX11 hown hK hP 0 rfl rfl 0 (by decide) (hts (.fieldLink RX11 9 "FourTongues" "tape" "[B") (by decide +kernel)) (fun _ h9 => h9) rfl dX11_addBytes_18 ?_
  refine lv_aload_n hx hb dX11_addBytes_21 rfl (lv_at hl 1 rfl) ?_
  refine va_get (D := (dC, dI)) (ci := 10) (v := .int 16) (C := RX11) (T := TX11) (N := 9) hx hb hts in_X11_addBytes_RX11 hown hK hP 0 rfl rfl 1 (by decide) (hts (.fieldLink RX11 13 "FourTongues" "taped" "I") (by decide +kernel)) (fun _ h9 => h9) rfl dX11_addBytes_22 ?_
  refine lv_iload_n hx hb dX11_addBytes_25 rfl (lv_at hl 2 rfl) ?_
  refine lv_iload_n hx hb dX11_addBytes_26 rfl (lv_at hl 0 rfl) ?_
  refine lv_ishr hx hb dX11_addBytes_27 ?_
  refine lv_i2b (v := (x1 >>> (24 &&& 31)).toInt8.toInt32) hx hb dX11_addBytes_28 rfl ?_
  refine va_bast hx hb hK hP hD hS 1 0 rfl rfl (by unfold vp_in; decide) dX11_addBytes_29 (fun H locs hP hD hS => ?_)
  obtain ⟨f_1, ef_1⟩ : ∃ y : Nat → Int32, y = upd f_tape ((16 : Int32).toNatClampNeg) (vp_nar .byte ((x1 >>> (24 &&& 31)).toInt8.toInt32)) := ⟨_, rfl⟩
  rw [← ef_1] at hP hD
  have hP : va_P (dC, dI) vwCl [(h0, .inr (10, [.ref v_tape, .int 16, .int 0, .ref v_names, .ref v_borders, .ref v_programs, .ref v_draft, .ref v_parser, .ref v_machine])), (v_tape, .inl (c_v_tape, 3000, .inl f_1))] _ := hP
  have hD : va_D A [(h0, .inr (10, [.ref v_tape, .int 16, .int 0, .ref v_names, .ref v_borders, .ref v_programs, .ref v_draft, .ref v_parser, .ref v_machine])), (v_tape, .inl (c_v_tape, 3000, .inl f_1))] := hD
  refine lv_aload_n hx hb dX11_addBytes_30 rfl (lv_at hl 1 rfl) ?_
  refine lv_dup hx hb dX11_addBytes_31 rfl ?_
  refine va_get (D := (dC, dI)) (ci := 10) (v := .int 16) (C := RX11) (T := TX11) (N := 9) hx hb hts in_X11_addBytes_RX11 hown hK hP 0 rfl rfl 1 (by decide) (hts (.fieldLink RX11 13 "FourTongues" "taped" "I") (by decide +kernel)) (fun _ h9 => h9) rfl dX11_addBytes_32 ?_
  refine lv_iconst (v := 1) hx hb dX11_addBytes_35 (by decide) ?_
  refine lv_iadd hx hb dX11_addBytes_36 ?_
  refine my_ti (v := 17) (by decide) ?_
  refine va_put (D := (dC, dI)) (ci := 10) (v := .int 17) (ty := .int) (C := RX11) (T := TX11) (N := 9) hx hb hts in_X11_addBytes_RX11 tyX11 tyX11_ok nmX11 hown hK hP hD hS 0 rfl rfl 1 (by decide) (hts (.fieldLink RX11 13 "FourTongues" "taped" "I") (by decide +kernel)) (fun _ h9 => h9) rfl (by decide +kernel) rfl rfl (Nat.le_of_ble_eq_true rfl) dX11_addBytes_37 (fun H locs hP hD hS => ?_)
  have hP : va_P (dC, dI) vwCl [(h0, .inr (10, [.ref v_tape, .int 17, .int 0, .ref v_names, .ref v_borders, .ref v_programs, .ref v_draft, .ref v_parser, .ref v_machine])), (v_tape, .inl (c_v_tape, 3000, .inl f_1))] _ := hP
  have hD : va_D A [(h0, .inr (10, [.ref v_tape, .int 17, .int 0, .ref v_names, .ref v_borders, .ref v_programs, .ref v_draft, .ref v_parser, .ref v_machine])), (v_tape, .inl (c_v_tape, 3000, .inl f_1))] := hD
  refine lv_iinc (v := 16) (lv' := [(2, .int 16), (0, .ref h0), (1, .int x1)]) hx hb dX11_addBytes_40 hl (k := 0) rfl (by decide) (by decide) rfl (fun ls hl => ?_)
  refine lv_goto (tgt := 3) hx hb dX11_addBytes_43 (by decide) ?_
  refine lv_iload_n hx hb dX11_addBytes_3 rfl (lv_at hl 0 rfl) ?_
  refine lv_if_lt (tgt := 46) hx hb dX11_addBytes_4 (by decide) (fun c_4 => absurd c_4 (by decide)) (fun c_4 => ?_)
  refine lv_aload_n hx hb dX11_addBytes_7 rfl (lv_at hl 1 rfl) ?_
  refine va_get (D := (dC, dI)) (ci := 10) (v := .int 17) (C := RX11) (T := TX11) (N := 9) hx hb hts in_X11_addBytes_RX11 hown hK hP 0 rfl rfl 1 (by decide) (hts (.fieldLink RX11 13 "FourTongues" "taped" "I") (by decide +kernel)) (fun _ h9 => h9) rfl dX11_addBytes_8 ?_
  refine lv_sipush (v := 3000) hx hb dX11_addBytes_11 (by decide) ?_
  refine lv_icmp_ge (tgt := 46) hx hb dX11_addBytes_14 (by decide) (fun c_14 => absurd c_14 (by decide)) (fun c_14 => ?_)
  refine lv_aload_n hx hb dX11_addBytes_17 rfl (lv_at hl 1 rfl) ?_
  refine va_get (D := (dC, dI)) (ci := 10) (v := .ref v_tape) (C := RX11) (T := TX11) (N := 9) hx hb hts in_X11_addBytes_RX11 hown hK hP 0 rfl rfl 0 (by decide) (hts (.fieldLink RX11 9 "FourTongues" "tape" "[B") (by decide +kernel)) (fun _ h9 => h9) rfl dX11_addBytes_18 ?_
  refine lv_aload_n hx hb dX11_addBytes_21 rfl (lv_at hl 1 rfl) ?_
  refine va_get (D := (dC, dI)) (ci := 10) (v := .int 17) (C := RX11) (T := TX11) (N := 9) hx hb hts in_X11_addBytes_RX11 hown hK hP 0 rfl rfl 1 (by decide) (hts (.fieldLink RX11 13 "FourTongues" "taped" "I") (by decide +kernel)) (fun _ h9 => h9) rfl dX11_addBytes_22 ?_
  refine lv_iload_n hx hb dX11_addBytes_25 rfl (lv_at hl 2 rfl) ?_
  refine lv_iload_n hx hb dX11_addBytes_26 rfl (lv_at hl 0 rfl) ?_
  refine lv_ishr hx hb dX11_addBytes_27 ?_
  refine lv_i2b (v := (x1 >>> (16 &&& 31)).toInt8.toInt32) hx hb dX11_addBytes_28 rfl ?_
  refine va_bast hx hb hK hP hD hS 1 0 rfl rfl (by unfold vp_in; decide) dX11_addBytes_29 (fun H locs hP hD hS => ?_)
  obtain ⟨f_2, ef_2⟩ : ∃ y : Nat → Int32, y = upd f_1 ((17 : Int32).toNatClampNeg) (vp_nar .byte ((x1 >>> (16 &&& 31)).toInt8.toInt32)) := ⟨_, rfl⟩
  rw [← ef_2] at hP hD
  have hP : va_P (dC, dI) vwCl [(h0, .inr (10, [.ref v_tape, .int 17, .int 0, .ref v_names, .ref v_borders, .ref v_programs, .ref v_draft, .ref v_parser, .ref v_machine])), (v_tape, .inl (c_v_tape, 3000, .inl f_2))] _ := hP
  have hD : va_D A [(h0, .inr (10, [.ref v_tape, .int 17, .int 0, .ref v_names, .ref v_borders, .ref v_programs, .ref v_draft, .ref v_parser, .ref v_machine])), (v_tape, .inl (c_v_tape, 3000, .inl f_2))] := hD
  refine lv_aload_n hx hb dX11_addBytes_30 rfl (lv_at hl 1 rfl) ?_
  refine lv_dup hx hb dX11_addBytes_31 rfl ?_
  refine va_get (D := (dC, dI)) (ci := 10) (v := .int 17) (C := RX11) (T := TX11) (N := 9) hx hb hts in_X11_addBytes_RX11 hown hK hP 0 rfl rfl 1 (by decide) (hts (.fieldLink RX11 13 "FourTongues" "taped" "I") (by decide +kernel)) (fun _ h9 => h9) rfl dX11_addBytes_32 ?_
  refine lv_iconst (v := 1) hx hb dX11_addBytes_35 (by decide) ?_
  refine lv_iadd hx hb dX11_addBytes_36 ?_
  refine my_ti (v := 18) (by decide) ?_
  refine va_put (D := (dC, dI)) (ci := 10) (v := .int 18) (ty := .int) (C := RX11) (T := TX11) (N := 9) hx hb hts in_X11_addBytes_RX11 tyX11 tyX11_ok nmX11 hown hK hP hD hS 0 rfl rfl 1 (by decide) (hts (.fieldLink RX11 13 "FourTongues" "taped" "I") (by decide +kernel)) (fun _ h9 => h9) rfl (by decide +kernel) rfl rfl (Nat.le_of_ble_eq_true rfl) dX11_addBytes_37 (fun H locs hP hD hS => ?_)
  have hP : va_P (dC, dI) vwCl [(h0, .inr (10, [.ref v_tape, .int 18, .int 0, .ref v_names, .ref v_borders, .ref v_programs, .ref v_draft, .ref v_parser, .ref v_machine])), (v_tape, .inl (c_v_tape, 3000, .inl f_2))] _ := hP
  have hD : va_D A [(h0, .inr (10, [.ref v_tape, .int 18, .int 0, .ref v_names, .ref v_borders, .ref v_programs, .ref v_draft, .ref v_parser, .ref v_machine])), (v_tape, .inl (c_v_tape, 3000, .inl f_2))] := hD
  refine lv_iinc (v := 8) (lv' := [(2, .int 8), (0, .ref h0), (1, .int x1)]) hx hb dX11_addBytes_40 hl (k := 0) rfl (by decide) (by decide) rfl (fun ls hl => ?_)
  refine lv_goto (tgt := 3) hx hb dX11_addBytes_43 (by decide) ?_
  refine lv_iload_n hx hb dX11_addBytes_3 rfl (lv_at hl 0 rfl) ?_
  refine lv_if_lt (tgt := 46) hx hb dX11_addBytes_4 (by decide) (fun c_4 => absurd c_4 (by decide)) (fun c_4 => ?_)
  refine lv_aload_n hx hb dX11_addBytes_7 rfl (lv_at hl 1 rfl) ?_
  refine va_get (D := (dC, dI)) (ci := 10) (v := .int 18) (C := RX11) (T := TX11) (N := 9) hx hb hts in_X11_addBytes_RX11 hown hK hP 0 rfl rfl 1 (by decide) (hts (.fieldLink RX11 13 "FourTongues" "taped" "I") (by decide +kernel)) (fun _ h9 => h9) rfl dX11_addBytes_8 ?_
  refine lv_sipush (v := 3000) hx hb dX11_addBytes_11 (by decide) ?_
  refine lv_icmp_ge (tgt := 46) hx hb dX11_addBytes_14 (by decide) (fun c_14 => absurd c_14 (by decide)) (fun c_14 => ?_)
  refine lv_aload_n hx hb dX11_addBytes_17 rfl (lv_at hl 1 rfl) ?_
  refine va_get (D := (dC, dI)) (ci := 10) (v := .ref v_tape) (C := RX11) (T := TX11) (N := 9) hx hb hts in_X11_addBytes_RX11 hown hK hP 0 rfl rfl 0 (by decide) (hts (.fieldLink RX11 9 "FourTongues" "tape" "[B") (by decide +kernel)) (fun _ h9 => h9) rfl dX11_addBytes_18 ?_
  refine lv_aload_n hx hb dX11_addBytes_21 rfl (lv_at hl 1 rfl) ?_
  refine va_get (D := (dC, dI)) (ci := 10) (v := .int 18) (C := RX11) (T := TX11) (N := 9) hx hb hts in_X11_addBytes_RX11 hown hK hP 0 rfl rfl 1 (by decide) (hts (.fieldLink RX11 13 "FourTongues" "taped" "I") (by decide +kernel)) (fun _ h9 => h9) rfl dX11_addBytes_22 ?_
  refine lv_iload_n hx hb dX11_addBytes_25 rfl (lv_at hl 2 rfl) ?_
  refine lv_iload_n hx hb dX11_addBytes_26 rfl (lv_at hl 0 rfl) ?_
  refine lv_ishr hx hb dX11_addBytes_27 ?_
  refine lv_i2b (v := (x1 >>> (8 &&& 31)).toInt8.toInt32) hx hb dX11_addBytes_28 rfl ?_
  refine va_bast hx hb hK hP hD hS 1 0 rfl rfl (by unfold vp_in; decide) dX11_addBytes_29 (fun H locs hP hD hS => ?_)
  obtain ⟨f_3, ef_3⟩ : ∃ y : Nat → Int32, y = upd f_2 ((18 : Int32).toNatClampNeg) (vp_nar .byte ((x1 >>> (8 &&& 31)).toInt8.toInt32)) := ⟨_, rfl⟩
  rw [← ef_3] at hP hD
  have hP : va_P (dC, dI) vwCl [(h0, .inr (10, [.ref v_tape, .int 18, .int 0, .ref v_names, .ref v_borders, .ref v_programs, .ref v_draft, .ref v_parser, .ref v_machine])), (v_tape, .inl (c_v_tape, 3000, .inl f_3))] _ := hP
  have hD : va_D A [(h0, .inr (10, [.ref v_tape, .int 18, .int 0, .ref v_names, .ref v_borders, .ref v_programs, .ref v_draft, .ref v_parser, .ref v_machine])), (v_tape, .inl (c_v_tape, 3000, .inl f_3))] := hD
  refine lv_aload_n hx hb dX11_addBytes_30 rfl (lv_at hl 1 rfl) ?_
  refine lv_dup hx hb dX11_addBytes_31 rfl ?_
  refine va_get (D := (dC, dI)) (ci := 10) (v := .int 18) (C := RX11) (T := TX11) (N := 9) hx hb hts in_X11_addBytes_RX11 hown hK hP 0 rfl rfl 1 (by decide) (hts (.fieldLink RX11 13 "FourTongues" "taped" "I") (by decide +kernel)) (fun _ h9 => h9) rfl dX11_addBytes_32 ?_
  refine lv_iconst (v := 1) hx hb dX11_addBytes_35 (by decide) ?_
  refine lv_iadd hx hb dX11_addBytes_36 ?_
  refine my_ti (v := 19) (by decide) ?_
  refine va_put (D := (dC, dI)) (ci := 10) (v := .int 19) (ty := .int) (C := RX11) (T := TX11) (N := 9) hx hb hts in_X11_addBytes_RX11 tyX11 tyX11_ok nmX11 hown hK hP hD hS 0 rfl rfl 1 (by decide) (hts (.fieldLink RX11 13 "FourTongues" "taped" "I") (by decide +kernel)) (fun _ h9 => h9) rfl (by decide +kernel) rfl rfl (Nat.le_of_ble_eq_true rfl) dX11_addBytes_37 (fun H locs hP hD hS => ?_)
  have hP : va_P (dC, dI) vwCl [(h0, .inr (10, [.ref v_tape, .int 19, .int 0, .ref v_names, .ref v_borders, .ref v_programs, .ref v_draft, .ref v_parser, .ref v_machine])), (v_tape, .inl (c_v_tape, 3000, .inl f_3))] _ := hP
  have hD : va_D A [(h0, .inr (10, [.ref v_tape, .int 19, .int 0, .ref v_names, .ref v_borders, .ref v_programs, .ref v_draft, .ref v_parser, .ref v_machine])), (v_tape, .inl (c_v_tape, 3000, .inl f_3))] := hD
  refine lv_iinc (v := 0) (lv' := [(2, .int 0), (0, .ref h0), (1, .int x1)]) hx hb dX11_addBytes_40 hl (k := 0) rfl (by decide) (by decide) rfl (fun ls hl => ?_)
  refine lv_goto (tgt := 3) hx hb dX11_addBytes_43 (by decide) ?_
  refine lv_iload_n hx hb dX11_addBytes_3 rfl (lv_at hl 0 rfl) ?_
  refine lv_if_lt (tgt := 46) hx hb dX11_addBytes_4 (by decide) (fun c_4 => absurd c_4 (by decide)) (fun c_4 => ?_)
  refine lv_aload_n hx hb dX11_addBytes_7 rfl (lv_at hl 1 rfl) ?_
  refine va_get (D := (dC, dI)) (ci := 10) (v := .int 19) (C := RX11) (T := TX11) (N := 9) hx hb hts in_X11_addBytes_RX11 hown hK hP 0 rfl rfl 1 (by decide) (hts (.fieldLink RX11 13 "FourTongues" "taped" "I") (by decide +kernel)) (fun _ h9 => h9) rfl dX11_addBytes_8 ?_
  refine lv_sipush (v := 3000) hx hb dX11_addBytes_11 (by decide) ?_
  refine lv_icmp_ge (tgt := 46) hx hb dX11_addBytes_14 (by decide) (fun c_14 => absurd c_14 (by decide)) (fun c_14 => ?_)
  refine lv_aload_n hx hb dX11_addBytes_17 rfl (lv_at hl 1 rfl) ?_
  refine va_get (D := (dC, dI)) (ci := 10) (v := .ref v_tape) (C := RX11) (T := TX11) (N := 9) hx hb hts in_X11_addBytes_RX11 hown hK hP 0 rfl rfl 0 (by decide) (hts (.fieldLink RX11 9 "FourTongues" "tape" "[B") (by decide +kernel)) (fun _ h9 => h9) rfl dX11_addBytes_18 ?_
  refine lv_aload_n hx hb dX11_addBytes_21 rfl (lv_at hl 1 rfl) ?_
  refine va_get (D := (dC, dI)) (ci := 10) (v := .int 19) (C := RX11) (T := TX11) (N := 9) hx hb hts in_X11_addBytes_RX11 hown hK hP 0 rfl rfl 1 (by decide) (hts (.fieldLink RX11 13 "FourTongues" "taped" "I") (by decide +kernel)) (fun _ h9 => h9) rfl dX11_addBytes_22 ?_
  refine lv_iload_n hx hb dX11_addBytes_25 rfl (lv_at hl 2 rfl) ?_
  refine lv_iload_n hx hb dX11_addBytes_26 rfl (lv_at hl 0 rfl) ?_
  refine lv_ishr hx hb dX11_addBytes_27 ?_
  refine lv_i2b (v := (x1 >>> (0 &&& 31)).toInt8.toInt32) hx hb dX11_addBytes_28 rfl ?_
  refine va_bast hx hb hK hP hD hS 1 0 rfl rfl (by unfold vp_in; decide) dX11_addBytes_29 (fun H locs hP hD hS => ?_)
  obtain ⟨f_4, ef_4⟩ : ∃ y : Nat → Int32, y = upd f_3 ((19 : Int32).toNatClampNeg) (vp_nar .byte ((x1 >>> (0 &&& 31)).toInt8.toInt32)) := ⟨_, rfl⟩
  rw [← ef_4] at hP hD
  have hP : va_P (dC, dI) vwCl [(h0, .inr (10, [.ref v_tape, .int 19, .int 0, .ref v_names, .ref v_borders, .ref v_programs, .ref v_draft, .ref v_parser, .ref v_machine])), (v_tape, .inl (c_v_tape, 3000, .inl f_4))] _ := hP
  have hD : va_D A [(h0, .inr (10, [.ref v_tape, .int 19, .int 0, .ref v_names, .ref v_borders, .ref v_programs, .ref v_draft, .ref v_parser, .ref v_machine])), (v_tape, .inl (c_v_tape, 3000, .inl f_4))] := hD
  refine lv_aload_n hx hb dX11_addBytes_30 rfl (lv_at hl 1 rfl) ?_
  refine lv_dup hx hb dX11_addBytes_31 rfl ?_
  refine va_get (D := (dC, dI)) (ci := 10) (v := .int 19) (C := RX11) (T := TX11) (N := 9) hx hb hts in_X11_addBytes_RX11 hown hK hP 0 rfl rfl 1 (by decide) (hts (.fieldLink RX11 13 "FourTongues" "taped" "I") (by decide +kernel)) (fun _ h9 => h9) rfl dX11_addBytes_32 ?_
  refine lv_iconst (v := 1) hx hb dX11_addBytes_35 (by decide) ?_
  refine lv_iadd hx hb dX11_addBytes_36 ?_
  refine my_ti (v := 20) (by decide) ?_
  refine va_put (D := (dC, dI)) (ci := 10) (v := .int 20) (ty := .int) (C := RX11) (T := TX11) (N := 9) hx hb hts in_X11_addBytes_RX11 tyX11 tyX11_ok nmX11 hown hK hP hD hS 0 rfl rfl 1 (by decide) (hts (.fieldLink RX11 13 "FourTongues" "taped" "I") (by decide +kernel)) (fun _ h9 => h9) rfl (by decide +kernel) rfl rfl (Nat.le_of_ble_eq_true rfl) dX11_addBytes_37 (fun H locs hP hD hS => ?_)
  have hP : va_P (dC, dI) vwCl [(h0, .inr (10, [.ref v_tape, .int 20, .int 0, .ref v_names, .ref v_borders, .ref v_programs, .ref v_draft, .ref v_parser, .ref v_machine])), (v_tape, .inl (c_v_tape, 3000, .inl f_4))] _ := hP
  have hD : va_D A [(h0, .inr (10, [.ref v_tape, .int 20, .int 0, .ref v_names, .ref v_borders, .ref v_programs, .ref v_draft, .ref v_parser, .ref v_machine])), (v_tape, .inl (c_v_tape, 3000, .inl f_4))] := hD
  refine lv_iinc (v := (-8)) (lv' := [(2, .int (-8)), (0, .ref h0), (1, .int x1)]) hx hb dX11_addBytes_40 hl (k := 0) rfl (by decide) (by decide) rfl (fun ls hl => ?_)
  refine lv_goto (tgt := 3) hx hb dX11_addBytes_43 (by decide) ?_
  refine lv_iload_n hx hb dX11_addBytes_3 rfl (lv_at hl 0 rfl) ?_
  refine lv_if_lt (tgt := 46) hx hb dX11_addBytes_4 (by decide) (fun c_4 => ?_) (fun c_4 => absurd c_4 (by decide))
  have hP9 := hP.sub (ws' := [(h0, .inr (10, [.ref v_tape, .int 20, .int 0, .ref v_names, .ref v_borders, .ref v_programs, .ref v_draft, .ref v_parser, .ref v_machine])), (v_tape, .inl (c_v_tape, 3000, .inl f_4))]) [0, 1] rfl
  have hD9 := hD.sub (ws' := [(h0, .inr (10, [.ref v_tape, .int 20, .int 0, .ref v_names, .ref v_borders, .ref v_programs, .ref v_draft, .ref v_parser, .ref v_machine])), (v_tape, .inl (c_v_tape, 3000, .inl f_4))]) [0, 1] (by decide) rfl
  have hK9 := hK.sub (tys' := [(c_v_tape, .byte)]) [0] rfl
  exact W.vret hx hb hr (fun t ht hW => ⟨⟨(), rfl, trivial, ⟨f_4, by rw [ht]; exact hP9, va_K.moved hW.alike hK9, hD9⟩⟩, hS.F ht⟩) hS.2.2 dX11_addBytes_46

set_option maxHeartbeats 4000000 in
set_option maxRecDepth 100000 in
theorem c_X11_feed (l : Launch) (dC : Nat → ClassId) (dI : Nat → Nat → Nat) (sz : Nat) (h0 : Nat) (v_tape : Nat) (v_names : Nat) (v_borders : Nat) (v_programs : Nat) (v_draft : Nat) (v_parser : Nat) (v_machine : Nat) (c_v_tape : ClassId) (f_tape : Nat → Int32) (x1 : Int32) (x2 : Int32) (x3 : Int32) (x4 : Int32) (x5 : Int32) : Met l yX11_feed wsX11_feed ({ frames := 1, cells := 0, slots := 0, locals := 22 }) (va_Pc [.ref h0, .int x1, .int x2, .int x3, .int x4, .int x5] (fun U => xM (dC, dI) sz [(h0, .inr (10, [.ref v_tape, .int 0, .int 0, .ref v_names, .ref v_borders, .ref v_programs, .ref v_draft, .ref v_parser, .ref v_machine])), (v_tape, .inl (c_v_tape, 3000, .inl f_tape))] [(c_v_tape, .byte)] U)) (va_Qi (fun (r : Int32) (_ : Unit) => r = 20) (fun (_ : Unit) _ => True) (va_A [(h0, .inr (10, [.ref v_tape, .int 0, .int 0, .ref v_names, .ref v_borders, .ref v_programs, .ref v_draft, .ref v_parser, .ref v_machine])), (v_tape, .inl (c_v_tape, 3000, .inl f_tape))] sz)) 0 0 (va_A [(h0, .inr (10, [.ref v_tape, .int 0, .int 0, .ref v_names, .ref v_borders, .ref v_programs, .ref v_draft, .ref v_parser, .ref v_machine])), (v_tape, .inl (c_v_tape, 3000, .inl f_tape))] sz) := by
  refine Met.ofW (cc := cX11_feed) (maxL := 6) (ret := (some .int)) (by decide) rfl ?_
  intro p e s m args below meth c s₁ B hml hv
  obtain ⟨rfl, hsz, hP, hK, hD0⟩ := hv
  have hx := B.exec
  have hb := B.bytes
  have hr := B.returns
  have hts := atoms_spec (ws := wsX11_feed) B.pre
  have hown : s.vm.findClass RX11 = some m.cls := findClass_of_methodNamed B.named
  have hlocks := B.notSynchronized
  subst hsz
  have hD := hD0.self (sz := s.heap.size)
  generalize hAe : va_A [(h0, .inr (10, [.ref v_tape, .int 0, .int 0, .ref v_names, .ref v_borders, .ref v_programs, .ref v_draft, .ref v_parser, .ref v_machine])), (v_tape, .inl (c_v_tape, 3000, .inl f_tape))] s.heap.size = A at hD ⊢
  have hA : ∀ q : Nat, s.heap.size ≤ q → A q := fun q h => by rw [← hAe]; exact Or.inr h
  have hS : va_S A s.heap s.heap [] := va_S.rf
  have hl := lv_entry ([.ref h0, .int x1, .int x2, .int x3, .int x4, .int x5]) (n := 6) (Nat.le_of_ble_eq_true rfl)
  rw [lg_entry_eq]
  generalize (lg_sl ([.ref h0, .int x1, .int x2, .int x3, .int x4, .int x5]) ++ List.replicate (6 - (lg_sl ([.ref h0, .int x1, .int x2, .int x3, .int x4, .int x5])).length) Slot.unset).toArray = ls at hl ⊢
  have hl : lv_has ls 6 [(0, .ref h0), (1, .int x1), (2, .int x2), (3, .int x3), (4, .int x4), (5, .int x5)] := hl
  refine lv_aload_n hx hb dX11_feed_0 rfl (lv_at hl 0 rfl) ?_
  refine va_get (D := (dC, dI)) (ci := 10) (v := .int 0) (C := RX11) (T := TX11) (N := 9) hx hb hts in_X11_feed_RX11 hown hK hP 0 rfl rfl 1 (by decide) (hts (.fieldLink RX11 13 "FourTongues" "taped" "I") (by decide +kernel)) (fun _ h9 => h9) rfl dX11_feed_1 ?_
  refine lv_bipush (v := 20) hx hb dX11_feed_4 (by decide) ?_
  refine lv_iadd hx hb dX11_feed_6 ?_
  refine my_ti (v := 20) (by decide) ?_
  refine lv_sipush (v := 3000) hx hb dX11_feed_7 (by decide) ?_
  refine lv_icmp_le (tgt := 15) hx hb dX11_feed_10 (by decide) (fun c_10 => ?_) (fun c_10 => absurd c_10 (by decide))
  refine lv_aload_n hx hb dX11_feed_15 rfl (lv_at hl 0 rfl) ?_
  refine lv_iload_n hx hb dX11_feed_16 rfl (lv_at hl 1 rfl) ?_
  have hPc := hP.sub (ws' := [(h0, .inr (10, [.ref v_tape, .int 0, .int 0, .ref v_names, .ref v_borders, .ref v_programs, .ref v_draft, .ref v_parser, .ref v_machine])), (v_tape, .inl (c_v_tape, 3000, .inl f_tape))]) [0, 1] rfl
  have hDc := hD.sub (ws' := [(h0, .inr (10, [.ref v_tape, .int 0, .int 0, .ref v_names, .ref v_borders, .ref v_programs, .ref v_draft, .ref v_parser, .ref v_machine])), (v_tape, .inl (c_v_tape, 3000, .inl f_tape))]) [0, 1] (by decide) rfl
  have hKc := hK.sub (tys' := [(c_v_tape, .byte)]) [0] rfl
  have hFc := va_free (wc := [(h0, .inr (10, [.ref v_tape, .int 0, .int 0, .ref v_names, .ref v_borders, .ref v_programs, .ref v_draft, .ref v_parser, .ref v_machine])), (v_tape, .inl (c_v_tape, 3000, .inl f_tape))]) hD hS hA [0, 1] rfl
  refine va_callv (va_runV (As := [.int x1]) (rest := []) ⟨hx, hb, hml, hown, hts⟩ (c_X11_addBytes_0 l dC dI s.heap.size h0 v_tape v_names v_borders v_programs v_draft v_parser v_machine c_v_tape f_tape x1 ) (cwV 1 hts gX11_feed_X11_addBytes rfl rfl rfl (by decide +kernel) ⟨Nat.le_of_ble_eq_true rfl, Nat.le_of_ble_eq_true rfl⟩) ⟨fb_M, va_recv hK hP (ci := 10) (q0 := 0) rfl rfl, fun U hU hW => ⟨rfl, xM.at hPc hKc hDc hU hW⟩⟩ rfl rfl hl.1 rfl (lv_room (Nat.le_of_ble_eq_true rfl)) dX11_feed_17 ⟨Nat.le_of_ble_eq_true rfl, Nat.le_of_ble_eq_true rfl⟩) hS (fun q _ h => hFc q h) hFc (fun u t H locs ht hvm hw hB hz1 hk1 hS => ?_)
  obtain ⟨f_1, hB⟩ := hB
  obtain ⟨hP, hD, hK⟩ := xB.join (wr := []) (w1 := [(h0, .inr (10, [.ref v_tape, .int 4, .int 0, .ref v_names, .ref v_borders, .ref v_programs, .ref v_draft, .ref v_parser, .ref v_machine])), (v_tape, .inl (c_v_tape, 3000, .inl f_1))]) hP hD hK [0, 1] [] rfl rfl (by decide) (by decide) hk1 hFc hB ht hvm
  have hP : va_P (dC, dI) vwCl [(h0, .inr (10, [.ref v_tape, .int 4, .int 0, .ref v_names, .ref v_borders, .ref v_programs, .ref v_draft, .ref v_parser, .ref v_machine])), (v_tape, .inl (c_v_tape, 3000, .inl f_1))] _ := hP
  have hD : va_D A [(h0, .inr (10, [.ref v_tape, .int 4, .int 0, .ref v_names, .ref v_borders, .ref v_programs, .ref v_draft, .ref v_parser, .ref v_machine])), (v_tape, .inl (c_v_tape, 3000, .inl f_1))] := hD
  have hK : va_K (dC, dI) vwCl [(c_v_tape, .byte), (c_v_tape, .byte)] s := hK
  refine lv_aload_n hx hb dX11_feed_20 rfl (lv_at hl 0 rfl) ?_
  refine lv_iload_n hx hb dX11_feed_21 rfl (lv_at hl 2 rfl) ?_
  have hPc := hP.sub (ws' := [(h0, .inr (10, [.ref v_tape, .int 4, .int 0, .ref v_names, .ref v_borders, .ref v_programs, .ref v_draft, .ref v_parser, .ref v_machine])), (v_tape, .inl (c_v_tape, 3000, .inl f_1))]) [0, 1] rfl
  have hDc := hD.sub (ws' := [(h0, .inr (10, [.ref v_tape, .int 4, .int 0, .ref v_names, .ref v_borders, .ref v_programs, .ref v_draft, .ref v_parser, .ref v_machine])), (v_tape, .inl (c_v_tape, 3000, .inl f_1))]) [0, 1] (by decide) rfl
  have hKc := hK.sub (tys' := [(c_v_tape, .byte)]) [0] rfl
  have hFc := va_free (wc := [(h0, .inr (10, [.ref v_tape, .int 4, .int 0, .ref v_names, .ref v_borders, .ref v_programs, .ref v_draft, .ref v_parser, .ref v_machine])), (v_tape, .inl (c_v_tape, 3000, .inl f_1))]) hD hS hA [0, 1] rfl
  refine va_callv (va_runV (As := [.int x2]) (rest := []) ⟨hx, hb, hml, hown, hts⟩ (c_X11_addBytes_4 l dC dI H.size h0 v_tape v_names v_borders v_programs v_draft v_parser v_machine c_v_tape f_1 x2 ) (cwV 1 hts gX11_feed_X11_addBytes rfl rfl rfl (by decide +kernel) ⟨Nat.le_of_ble_eq_true rfl, Nat.le_of_ble_eq_true rfl⟩) ⟨fb_M, va_recv hK hP (ci := 10) (q0 := 0) rfl rfl, fun U hU hW => ⟨rfl, xM.at hPc hKc hDc hU hW⟩⟩ rfl rfl hl.1 rfl (lv_room (Nat.le_of_ble_eq_true rfl)) dX11_feed_22 ⟨Nat.le_of_ble_eq_true rfl, Nat.le_of_ble_eq_true rfl⟩) hS (fun q _ h => hFc q h) hFc (fun u t H locs ht hvm hw hB hz1 hk1 hS => ?_)
  obtain ⟨f_2, hB⟩ := hB
  obtain ⟨hP, hD, hK⟩ := xB.join (wr := []) (w1 := [(h0, .inr (10, [.ref v_tape, .int 8, .int 0, .ref v_names, .ref v_borders, .ref v_programs, .ref v_draft, .ref v_parser, .ref v_machine])), (v_tape, .inl (c_v_tape, 3000, .inl f_2))]) hP hD hK [0, 1] [] rfl rfl (by decide) (by decide) hk1 hFc hB ht hvm
  have hP : va_P (dC, dI) vwCl [(h0, .inr (10, [.ref v_tape, .int 8, .int 0, .ref v_names, .ref v_borders, .ref v_programs, .ref v_draft, .ref v_parser, .ref v_machine])), (v_tape, .inl (c_v_tape, 3000, .inl f_2))] _ := hP
  have hD : va_D A [(h0, .inr (10, [.ref v_tape, .int 8, .int 0, .ref v_names, .ref v_borders, .ref v_programs, .ref v_draft, .ref v_parser, .ref v_machine])), (v_tape, .inl (c_v_tape, 3000, .inl f_2))] := hD
  have hK : va_K (dC, dI) vwCl [(c_v_tape, .byte), (c_v_tape, .byte), (c_v_tape, .byte)] s := hK
  refine lv_aload_n hx hb dX11_feed_25 rfl (lv_at hl 0 rfl) ?_
  refine lv_iload_n hx hb dX11_feed_26 rfl (lv_at hl 3 rfl) ?_
  have hPc := hP.sub (ws' := [(h0, .inr (10, [.ref v_tape, .int 8, .int 0, .ref v_names, .ref v_borders, .ref v_programs, .ref v_draft, .ref v_parser, .ref v_machine])), (v_tape, .inl (c_v_tape, 3000, .inl f_2))]) [0, 1] rfl
  have hDc := hD.sub (ws' := [(h0, .inr (10, [.ref v_tape, .int 8, .int 0, .ref v_names, .ref v_borders, .ref v_programs, .ref v_draft, .ref v_parser, .ref v_machine])), (v_tape, .inl (c_v_tape, 3000, .inl f_2))]) [0, 1] (by decide) rfl
  have hKc := hK.sub (tys' := [(c_v_tape, .byte)]) [0] rfl
  have hFc := va_free (wc := [(h0, .inr (10, [.ref v_tape, .int 8, .int 0, .ref v_names, .ref v_borders, .ref v_programs, .ref v_draft, .ref v_parser, .ref v_machine])), (v_tape, .inl (c_v_tape, 3000, .inl f_2))]) hD hS hA [0, 1] rfl
  refine va_callv (va_runV (As := [.int x3]) (rest := []) ⟨hx, hb, hml, hown, hts⟩ (c_X11_addBytes_8 l dC dI H.size h0 v_tape v_names v_borders v_programs v_draft v_parser v_machine c_v_tape f_2 x3 ) (cwV 1 hts gX11_feed_X11_addBytes rfl rfl rfl (by decide +kernel) ⟨Nat.le_of_ble_eq_true rfl, Nat.le_of_ble_eq_true rfl⟩) ⟨fb_M, va_recv hK hP (ci := 10) (q0 := 0) rfl rfl, fun U hU hW => ⟨rfl, xM.at hPc hKc hDc hU hW⟩⟩ rfl rfl hl.1 rfl (lv_room (Nat.le_of_ble_eq_true rfl)) dX11_feed_27 ⟨Nat.le_of_ble_eq_true rfl, Nat.le_of_ble_eq_true rfl⟩) hS (fun q _ h => hFc q h) hFc (fun u t H locs ht hvm hw hB hz1 hk1 hS => ?_)
  obtain ⟨f_3, hB⟩ := hB
  obtain ⟨hP, hD, hK⟩ := xB.join (wr := []) (w1 := [(h0, .inr (10, [.ref v_tape, .int 12, .int 0, .ref v_names, .ref v_borders, .ref v_programs, .ref v_draft, .ref v_parser, .ref v_machine])), (v_tape, .inl (c_v_tape, 3000, .inl f_3))]) hP hD hK [0, 1] [] rfl rfl (by decide) (by decide) hk1 hFc hB ht hvm
  have hP : va_P (dC, dI) vwCl [(h0, .inr (10, [.ref v_tape, .int 12, .int 0, .ref v_names, .ref v_borders, .ref v_programs, .ref v_draft, .ref v_parser, .ref v_machine])), (v_tape, .inl (c_v_tape, 3000, .inl f_3))] _ := hP
  have hD : va_D A [(h0, .inr (10, [.ref v_tape, .int 12, .int 0, .ref v_names, .ref v_borders, .ref v_programs, .ref v_draft, .ref v_parser, .ref v_machine])), (v_tape, .inl (c_v_tape, 3000, .inl f_3))] := hD
  have hK : va_K (dC, dI) vwCl [(c_v_tape, .byte), (c_v_tape, .byte), (c_v_tape, .byte), (c_v_tape, .byte)] s := hK
  refine lv_aload_n hx hb dX11_feed_30 rfl (lv_at hl 0 rfl) ?_
  refine lv_iload hx hb dX11_feed_31 (lv_at hl 4 rfl) ?_
  have hPc := hP.sub (ws' := [(h0, .inr (10, [.ref v_tape, .int 12, .int 0, .ref v_names, .ref v_borders, .ref v_programs, .ref v_draft, .ref v_parser, .ref v_machine])), (v_tape, .inl (c_v_tape, 3000, .inl f_3))]) [0, 1] rfl
  have hDc := hD.sub (ws' := [(h0, .inr (10, [.ref v_tape, .int 12, .int 0, .ref v_names, .ref v_borders, .ref v_programs, .ref v_draft, .ref v_parser, .ref v_machine])), (v_tape, .inl (c_v_tape, 3000, .inl f_3))]) [0, 1] (by decide) rfl
  have hKc := hK.sub (tys' := [(c_v_tape, .byte)]) [0] rfl
  have hFc := va_free (wc := [(h0, .inr (10, [.ref v_tape, .int 12, .int 0, .ref v_names, .ref v_borders, .ref v_programs, .ref v_draft, .ref v_parser, .ref v_machine])), (v_tape, .inl (c_v_tape, 3000, .inl f_3))]) hD hS hA [0, 1] rfl
  refine va_callv (va_runV (As := [.int x4]) (rest := []) ⟨hx, hb, hml, hown, hts⟩ (c_X11_addBytes_12 l dC dI H.size h0 v_tape v_names v_borders v_programs v_draft v_parser v_machine c_v_tape f_3 x4 ) (cwV 1 hts gX11_feed_X11_addBytes rfl rfl rfl (by decide +kernel) ⟨Nat.le_of_ble_eq_true rfl, Nat.le_of_ble_eq_true rfl⟩) ⟨fb_M, va_recv hK hP (ci := 10) (q0 := 0) rfl rfl, fun U hU hW => ⟨rfl, xM.at hPc hKc hDc hU hW⟩⟩ rfl rfl hl.1 rfl (lv_room (Nat.le_of_ble_eq_true rfl)) dX11_feed_33 ⟨Nat.le_of_ble_eq_true rfl, Nat.le_of_ble_eq_true rfl⟩) hS (fun q _ h => hFc q h) hFc (fun u t H locs ht hvm hw hB hz1 hk1 hS => ?_)
  obtain ⟨f_4, hB⟩ := hB
  obtain ⟨hP, hD, hK⟩ := xB.join (wr := []) (w1 := [(h0, .inr (10, [.ref v_tape, .int 16, .int 0, .ref v_names, .ref v_borders, .ref v_programs, .ref v_draft, .ref v_parser, .ref v_machine])), (v_tape, .inl (c_v_tape, 3000, .inl f_4))]) hP hD hK [0, 1] [] rfl rfl (by decide) (by decide) hk1 hFc hB ht hvm
  have hP : va_P (dC, dI) vwCl [(h0, .inr (10, [.ref v_tape, .int 16, .int 0, .ref v_names, .ref v_borders, .ref v_programs, .ref v_draft, .ref v_parser, .ref v_machine])), (v_tape, .inl (c_v_tape, 3000, .inl f_4))] _ := hP
  have hD : va_D A [(h0, .inr (10, [.ref v_tape, .int 16, .int 0, .ref v_names, .ref v_borders, .ref v_programs, .ref v_draft, .ref v_parser, .ref v_machine])), (v_tape, .inl (c_v_tape, 3000, .inl f_4))] := hD
  have hK : va_K (dC, dI) vwCl [(c_v_tape, .byte), (c_v_tape, .byte), (c_v_tape, .byte), (c_v_tape, .byte), (c_v_tape, .byte)] s := hK
  refine lv_aload_n hx hb dX11_feed_36 rfl (lv_at hl 0 rfl) ?_
  refine lv_iload hx hb dX11_feed_37 (lv_at hl 5 rfl) ?_
  have hPc := hP.sub (ws' := [(h0, .inr (10, [.ref v_tape, .int 16, .int 0, .ref v_names, .ref v_borders, .ref v_programs, .ref v_draft, .ref v_parser, .ref v_machine])), (v_tape, .inl (c_v_tape, 3000, .inl f_4))]) [0, 1] rfl
  have hDc := hD.sub (ws' := [(h0, .inr (10, [.ref v_tape, .int 16, .int 0, .ref v_names, .ref v_borders, .ref v_programs, .ref v_draft, .ref v_parser, .ref v_machine])), (v_tape, .inl (c_v_tape, 3000, .inl f_4))]) [0, 1] (by decide) rfl
  have hKc := hK.sub (tys' := [(c_v_tape, .byte)]) [0] rfl
  have hFc := va_free (wc := [(h0, .inr (10, [.ref v_tape, .int 16, .int 0, .ref v_names, .ref v_borders, .ref v_programs, .ref v_draft, .ref v_parser, .ref v_machine])), (v_tape, .inl (c_v_tape, 3000, .inl f_4))]) hD hS hA [0, 1] rfl
  refine va_callv (va_runV (As := [.int x5]) (rest := []) ⟨hx, hb, hml, hown, hts⟩ (c_X11_addBytes_16 l dC dI H.size h0 v_tape v_names v_borders v_programs v_draft v_parser v_machine c_v_tape f_4 x5 ) (cwV 1 hts gX11_feed_X11_addBytes rfl rfl rfl (by decide +kernel) ⟨Nat.le_of_ble_eq_true rfl, Nat.le_of_ble_eq_true rfl⟩) ⟨fb_M, va_recv hK hP (ci := 10) (q0 := 0) rfl rfl, fun U hU hW => ⟨rfl, xM.at hPc hKc hDc hU hW⟩⟩ rfl rfl hl.1 rfl (lv_room (Nat.le_of_ble_eq_true rfl)) dX11_feed_39 ⟨Nat.le_of_ble_eq_true rfl, Nat.le_of_ble_eq_true rfl⟩) hS (fun q _ h => hFc q h) hFc (fun u t H locs ht hvm hw hB hz1 hk1 hS => ?_)
  obtain ⟨f_5, hB⟩ := hB
  obtain ⟨hP, hD, hK⟩ := xB.join (wr := []) (w1 := [(h0, .inr (10, [.ref v_tape, .int 20, .int 0, .ref v_names, .ref v_borders, .ref v_programs, .ref v_draft, .ref v_parser, .ref v_machine])), (v_tape, .inl (c_v_tape, 3000, .inl f_5))]) hP hD hK [0, 1] [] rfl rfl (by decide) (by decide) hk1 hFc hB ht hvm
  have hP : va_P (dC, dI) vwCl [(h0, .inr (10, [.ref v_tape, .int 20, .int 0, .ref v_names, .ref v_borders, .ref v_programs, .ref v_draft, .ref v_parser, .ref v_machine])), (v_tape, .inl (c_v_tape, 3000, .inl f_5))] _ := hP
  have hD : va_D A [(h0, .inr (10, [.ref v_tape, .int 20, .int 0, .ref v_names, .ref v_borders, .ref v_programs, .ref v_draft, .ref v_parser, .ref v_machine])), (v_tape, .inl (c_v_tape, 3000, .inl f_5))] := hD
  have hK : va_K (dC, dI) vwCl [(c_v_tape, .byte), (c_v_tape, .byte), (c_v_tape, .byte), (c_v_tape, .byte), (c_v_tape, .byte), (c_v_tape, .byte)] s := hK
  refine lv_aload_n hx hb dX11_feed_42 rfl (lv_at hl 0 rfl) ?_
  refine va_get (D := (dC, dI)) (ci := 10) (v := .int 20) (C := RX11) (T := TX11) (N := 9) hx hb hts in_X11_feed_RX11 hown hK hP 0 rfl rfl 1 (by decide) (hts (.fieldLink RX11 13 "FourTongues" "taped" "I") (by decide +kernel)) (fun _ h9 => h9) rfl dX11_feed_43 ?_
  exact W.iret (v := 20) hx hb hr (fun t ht hW => ⟨⟨20, (), rfl, rfl, trivial⟩, hS.F ht⟩) hS.2.2 dX11_feed_46

set_option maxHeartbeats 4000000 in
set_option maxRecDepth 100000 in
theorem c_X11_fault (l : Launch) (dC : Nat → ClassId) (dI : Nat → Nat → Nat) (h0 : Nat) (v_tape : Nat) (v_names : Nat) (v_borders : Nat) (v_programs : Nat) (v_draft : Nat) (v_parser : Nat) (v_machine : Nat) : Met l yX11_fault wsX11_fault ({ frames := 0, cells := 0, slots := 0, locals := 0 }) (va_Pc [.ref h0] (fun U => xR (dC, dI) [(h0, .inr (10, [.ref v_tape, .int 0, .int 0, .ref v_names, .ref v_borders, .ref v_programs, .ref v_draft, .ref v_parser, .ref v_machine]))] [] U)) (va_Qi (fun (r : Int32) (_ : Unit) => r = 0) (fun (_ : Unit) _ => True) (fun _ => False)) 0 0 (fun _ => False) := by
  refine Met.ofW (cc := cX11_fault) (maxL := 1) (ret := (some .int)) (by decide) rfl ?_
  intro p e s m args below meth c s₁ B hml hv
  obtain ⟨rfl, hP, hK⟩ := hv
  have hx := B.exec
  have hb := B.bytes
  have hr := B.returns
  have hts := atoms_spec (ws := wsX11_fault) B.pre
  have hown : s.vm.findClass RX11 = some m.cls := findClass_of_methodNamed B.named
  have hlocks := B.notSynchronized
  have hS : va_S (fun _ => False) s.heap s.heap [] := va_S.rf
  have hl := lv_entry ([.ref h0]) (n := 1) (Nat.le_of_ble_eq_true rfl)
  rw [lg_entry_eq]
  generalize (lg_sl ([.ref h0]) ++ List.replicate (1 - (lg_sl ([.ref h0])).length) Slot.unset).toArray = ls at hl ⊢
  have hl : lv_has ls 1 [(0, .ref h0)] := hl
  refine lv_aload_n hx hb dX11_fault_0 rfl (lv_at hl 0 rfl) ?_
  refine va_get (D := (dC, dI)) (ci := 10) (v := .int 0) (C := RX11) (T := TX11) (N := 9) hx hb hts in_X11_fault_RX11 hown hK hP 0 rfl rfl 2 (by decide) (hts (.fieldLink RX11 17 "FourTongues" "faultKind" "I") (by decide +kernel)) (fun _ h9 => h9) rfl dX11_fault_1 ?_
  exact W.iret (v := 0) hx hb hr (fun t ht hW => ⟨⟨0, (), rfl, rfl, trivial⟩, hS.F ht⟩) hS.2.2 dX11_fault_4

set_option maxHeartbeats 4000000 in
set_option maxRecDepth 100000 in
theorem c_X4_answered (l : Launch) (dC : Nat → ClassId) (dI : Nat → Nat → Nat) (h0 : Nat) (m_programs : Nat) (m_names : Nat) (m_borders : Nat) (m_stack : Nat) (m_heap : Nat) (m_marks : Nat) (m_failures : Nat) (m_frames : Nat) (m_guards : Nat) (m_tally : Nat) (m_program : Nat) : Met l yX4_answered wsX4_answered ({ frames := 0, cells := 0, slots := 0, locals := 0 }) (va_Pc [.ref h0] (fun U => xR (dC, dI) [(h0, .inr (4, [.ref m_programs, .ref m_names, .ref m_borders, .ref m_stack, .ref m_heap, .ref m_marks, .ref m_failures, .ref m_frames, .ref m_guards, .ref m_tally, .ref m_program, .int 0, .int 0, .int 4, .int (-1), .int (-1), .long 0]))] [] U)) (va_Ql (fun (r : Int64) (_ : Unit) => r = 0) (fun (_ : Unit) _ => True) (fun _ => False)) 0 0 (fun _ => False) := by
  refine Met.ofW (cc := cX4_answered) (maxL := 1) (ret := (some .long)) (by decide) rfl ?_
  intro p e s m args below meth c s₁ B hml hv
  obtain ⟨rfl, hP, hK⟩ := hv
  have hx := B.exec
  have hb := B.bytes
  have hr := B.returns
  have hts := atoms_spec (ws := wsX4_answered) B.pre
  have hown : s.vm.findClass RX4 = some m.cls := findClass_of_methodNamed B.named
  have hlocks := B.notSynchronized
  have hS : va_S (fun _ => False) s.heap s.heap [] := va_S.rf
  have hl := lv_entry ([.ref h0]) (n := 1) (Nat.le_of_ble_eq_true rfl)
  rw [lg_entry_eq]
  generalize (lg_sl ([.ref h0]) ++ List.replicate (1 - (lg_sl ([.ref h0])).length) Slot.unset).toArray = ls at hl ⊢
  have hl : lv_has ls 1 [(0, .ref h0)] := hl
  refine lv_aload_n hx hb dX4_answered_0 rfl (lv_at hl 0 rfl) ?_
  refine va_get (D := (dC, dI)) (ci := 4) (v := .long 0) (C := RX4) (T := TX4) (N := 17) hx hb hts in_X4_answered_RX4 hown hK hP 0 rfl rfl 16 (by decide) (hts (.fieldLink RX4 67 "FourTongues$Machine" "answer" "J") (by decide +kernel)) (fun _ h9 => h9) rfl dX4_answered_1 ?_
  exact W.lret (v := 0) hx hb hr (fun t ht hW => ⟨⟨0, (), rfl, rfl, trivial⟩, hS.F ht⟩) hS.2.2 dX4_answered_4

set_option maxHeartbeats 4000000 in
set_option maxRecDepth 100000 in
theorem c_X11_answer (l : Launch) (dC : Nat → ClassId) (dI : Nat → Nat → Nat) (h0 : Nat) (v_tape : Nat) (v_names : Nat) (v_borders : Nat) (v_programs : Nat) (v_draft : Nat) (v_parser : Nat) (v_machine : Nat) (m_programs : Nat) (m_names : Nat) (m_borders : Nat) (m_stack : Nat) (m_heap : Nat) (m_marks : Nat) (m_failures : Nat) (m_frames : Nat) (m_guards : Nat) (m_tally : Nat) (m_program : Nat) : Met l yX11_answer wsX11_answer ({ frames := 1, cells := 0, slots := 0, locals := 20 }) (va_Pc [.ref h0] (fun U => xR (dC, dI) [(h0, .inr (10, [.ref v_tape, .int 0, .int 0, .ref v_names, .ref v_borders, .ref v_programs, .ref v_draft, .ref v_parser, .ref v_machine])), (v_machine, .inr (4, [.ref m_programs, .ref m_names, .ref m_borders, .ref m_stack, .ref m_heap, .ref m_marks, .ref m_failures, .ref m_frames, .ref m_guards, .ref m_tally, .ref m_program, .int 0, .int 0, .int 4, .int (-1), .int (-1), .long 0]))] [] U)) (va_Ql (fun (r : Int64) (_ : Unit) => r = 0) (fun (_ : Unit) _ => True) (fun _ => False)) 0 0 (fun _ => False) := by
  refine Met.ofW (cc := cX11_answer) (maxL := 1) (ret := (some .long)) (by decide) rfl ?_
  intro p e s m args below meth c s₁ B hml hv
  obtain ⟨rfl, hP, hK⟩ := hv
  have hx := B.exec
  have hb := B.bytes
  have hr := B.returns
  have hts := atoms_spec (ws := wsX11_answer) B.pre
  have hown : s.vm.findClass RX11 = some m.cls := findClass_of_methodNamed B.named
  have hlocks := B.notSynchronized
  have hS : va_S (fun _ => False) s.heap s.heap [] := va_S.rf
  have hl := lv_entry ([.ref h0]) (n := 1) (Nat.le_of_ble_eq_true rfl)
  rw [lg_entry_eq]
  generalize (lg_sl ([.ref h0]) ++ List.replicate (1 - (lg_sl ([.ref h0])).length) Slot.unset).toArray = ls at hl ⊢
  have hl : lv_has ls 1 [(0, .ref h0)] := hl
  refine lv_aload_n hx hb dX11_answer_0 rfl (lv_at hl 0 rfl) ?_
  refine va_get (D := (dC, dI)) (ci := 10) (v := .ref v_machine) (C := RX11) (T := TX11) (N := 9) hx hb hts in_X11_answer_RX11 hown hK hP 0 rfl rfl 8 (by decide) (hts (.fieldLink RX11 59 "FourTongues" "machine" "LFourTongues$Machine;") (by decide +kernel)) (fun _ h9 => h9) rfl dX11_answer_1 ?_
  refine va_calll (va_runV (As := []) (rest := []) ⟨hx, hb, hml, hown, hts⟩ (c_X4_answered l dC dI v_machine m_programs m_names m_borders m_stack m_heap m_marks m_failures m_frames m_guards m_tally m_program ) (cwV 0 hts gX11_answer_X4_answered rfl rfl rfl (by decide +kernel) ⟨Nat.le_of_ble_eq_true rfl, Nat.le_of_ble_eq_true rfl⟩) ⟨fb_R, va_recv hK hP (ci := 4) (q0 := 1) rfl rfl, fun U hU hW => ⟨rfl, xR.at (hP.sub (ws' := [(v_machine, .inr (4, [.ref m_programs, .ref m_names, .ref m_borders, .ref m_stack, .ref m_heap, .ref m_marks, .ref m_failures, .ref m_frames, .ref m_guards, .ref m_tally, .ref m_program, .int 0, .int 0, .int 4, .int (-1), .int (-1), .long 0]))]) [1] rfl) (hK.sub (tys' := []) [] rfl) hU hW⟩⟩ rfl rfl hl.1 rfl (lv_room (Nat.le_of_ble_eq_true rfl)) dX11_answer_4 ⟨Nat.le_of_ble_eq_true rfl, Nat.le_of_ble_eq_true rfl⟩) hS (fun q _ h => h.elim) (fun q h => h.elim) (fun r_1 u t H locs ht hvm hw hB hz1 hk1 hS => ?_)
  have hw_2 := hw
  have hP := xR.keep hP hk1
  subst hw_2
  exact W.lret (v := 0) hx hb hr (fun t ht hW => ⟨⟨0, (), rfl, rfl, trivial⟩, hS.F ht⟩) hS.2.2 dX11_answer_7

set_option maxHeartbeats 4000000 in
set_option maxRecDepth 100000 in
theorem c_X4_told (l : Launch) (dC : Nat → ClassId) (dI : Nat → Nat → Nat) (h0 : Nat) (m_programs : Nat) (m_names : Nat) (m_borders : Nat) (m_stack : Nat) (m_heap : Nat) (m_marks : Nat) (m_failures : Nat) (m_frames : Nat) (m_guards : Nat) (m_tally : Nat) (m_program : Nat) (c_m_tally : ClassId) (x1 : Int32) : Met l yX4_told wsX4_told ({ frames := 0, cells := 0, slots := 0, locals := 0 }) (va_Pc [.ref h0, .int x1] (fun U => xR (dC, dI) [(h0, .inr (4, [.ref m_programs, .ref m_names, .ref m_borders, .ref m_stack, .ref m_heap, .ref m_marks, .ref m_failures, .ref m_frames, .ref m_guards, .ref m_tally, .ref m_program, .int 0, .int 0, .int 4, .int (-1), .int (-1), .long 0])), (m_tally, .inl (c_m_tally, 10, .inl (fun _ => 0)))] [(c_m_tally, .int)] U)) (va_Qi (fun (r : Int32) (_ : Unit) => ((x1 < 0 ∨ 10 ≤ x1) ∧ r = -1) ∨ (¬ (x1 < 0 ∨ 10 ≤ x1) ∧ r = 0)) (fun (_ : Unit) _ => True) (fun _ => False)) 0 0 (fun _ => False) := by
  refine Met.ofW (cc := cX4_told) (maxL := 2) (ret := (some .int)) (by decide) rfl ?_
  intro p e s m args below meth c s₁ B hml hv
  obtain ⟨rfl, hP, hK⟩ := hv
  have hx := B.exec
  have hb := B.bytes
  have hr := B.returns
  have hts := atoms_spec (ws := wsX4_told) B.pre
  have hown : s.vm.findClass RX4 = some m.cls := findClass_of_methodNamed B.named
  have hlocks := B.notSynchronized
  have hS : va_S (fun _ => False) s.heap s.heap [] := va_S.rf
  have hl := lv_entry ([.ref h0, .int x1]) (n := 2) (Nat.le_of_ble_eq_true rfl)
  rw [lg_entry_eq]
  generalize (lg_sl ([.ref h0, .int x1]) ++ List.replicate (2 - (lg_sl ([.ref h0, .int x1])).length) Slot.unset).toArray = ls at hl ⊢
  have hl : lv_has ls 2 [(0, .ref h0), (1, .int x1)] := hl
  refine lv_iload_n hx hb dX4_told_0 rfl (lv_at hl 1 rfl) ?_
  refine lv_if_lt (tgt := 19) hx hb dX4_told_1 (by decide) (fun c_1 => ?_) (fun c_1 => ?_)
  · refine lv_iconst (v := (-1)) hx hb dX4_told_19 (by decide) ?_
    exact W.iret (v := (-1)) hx hb hr (fun t ht hW => ⟨⟨(-1), (), rfl, Or.inl ⟨Or.inl c_1, rfl⟩, trivial⟩, hS.F ht⟩) hS.2.2 dX4_told_20
  · refine lv_iload_n hx hb dX4_told_4 rfl (lv_at hl 1 rfl) ?_
    refine lv_bipush (v := 10) hx hb dX4_told_5 (by decide) ?_
    refine lv_icmp_ge (tgt := 19) hx hb dX4_told_7 (by decide) (fun c_7 => ?_) (fun c_7 => ?_)
    · refine lv_iconst (v := (-1)) hx hb dX4_told_19 (by decide) ?_
      exact W.iret (v := (-1)) hx hb hr (fun t ht hW => ⟨⟨(-1), (), rfl, Or.inl ⟨Or.inr c_7, rfl⟩, trivial⟩, hS.F ht⟩) hS.2.2 dX4_told_20
    · refine lv_aload_n hx hb dX4_told_10 rfl (lv_at hl 0 rfl) ?_
      refine va_get (D := (dC, dI)) (ci := 4) (v := .ref m_tally) (C := RX4) (T := TX4) (N := 17) hx hb hts in_X4_told_RX4 hown hK hP 0 rfl rfl 9 (by decide) (hts (.fieldLink RX4 47 "FourTongues$Machine" "tally" "[I") (by decide +kernel)) (fun _ h9 => h9) rfl dX4_told_11 ?_
      refine lv_iload_n hx hb dX4_told_14 rfl (lv_at hl 1 rfl) ?_
      refine va_iald hx hb hK hP 1 0 rfl rfl (my_vpin c_1 c_7 (by decide) (by decide)) dX4_told_15 ?_
      refine my_ti (v := 0) rfl ?_
      refine lv_goto (tgt := 20) hx hb dX4_told_16 (by decide) ?_
      exact W.iret (v := 0) hx hb hr (fun t ht hW => ⟨⟨0, (), rfl, Or.inr ⟨fun q => q.elim c_1 c_7, rfl⟩, trivial⟩, hS.F ht⟩) hS.2.2 dX4_told_20

set_option maxHeartbeats 4000000 in
set_option maxRecDepth 100000 in
theorem c_X5_inAll (l : Launch) (dC : Nat → ClassId) (dI : Nat → Nat → Nat) (h0 : Nat) (n_packed : Nat) (n_above : Nat) (n_keptAbove : Nat) : Met l yX5_inAll wsX5_inAll ({ frames := 0, cells := 0, slots := 0, locals := 0 }) (va_Pc [.ref h0] (fun U => xR (dC, dI) [(h0, .inr (5, [.ref n_packed, .ref n_above, .ref n_keptAbove, .int 11, .int 0]))] [] U)) (va_Qi (fun (r : Int32) (_ : Unit) => r = 11) (fun (_ : Unit) _ => True) (fun _ => False)) 0 0 (fun _ => False) := by
  refine Met.ofW (cc := cX5_inAll) (maxL := 1) (ret := (some .int)) (by decide) rfl ?_
  intro p e s m args below meth c s₁ B hml hv
  obtain ⟨rfl, hP, hK⟩ := hv
  have hx := B.exec
  have hb := B.bytes
  have hr := B.returns
  have hts := atoms_spec (ws := wsX5_inAll) B.pre
  have hown : s.vm.findClass RX5 = some m.cls := findClass_of_methodNamed B.named
  have hlocks := B.notSynchronized
  have hS : va_S (fun _ => False) s.heap s.heap [] := va_S.rf
  have hl := lv_entry ([.ref h0]) (n := 1) (Nat.le_of_ble_eq_true rfl)
  rw [lg_entry_eq]
  generalize (lg_sl ([.ref h0]) ++ List.replicate (1 - (lg_sl ([.ref h0])).length) Slot.unset).toArray = ls at hl ⊢
  have hl : lv_has ls 1 [(0, .ref h0)] := hl
  refine lv_aload_n hx hb dX5_inAll_0 rfl (lv_at hl 0 rfl) ?_
  refine va_get (D := (dC, dI)) (ci := 5) (v := .int 11) (C := RX5) (T := TX5) (N := 5) hx hb hts in_X5_inAll_RX5 hown hK hP 0 rfl rfl 3 (by decide) (hts (.fieldLink RX5 22 "FourTongues$Names" "count" "I") (by decide +kernel)) (fun _ h9 => h9) rfl dX5_inAll_1 ?_
  exact W.iret (v := 11) hx hb hr (fun t ht hW => ⟨⟨11, (), rfl, rfl, trivial⟩, hS.F ht⟩) hS.2.2 dX5_inAll_4

set_option maxHeartbeats 4000000 in
set_option maxRecDepth 100000 in
theorem c_X11_look (l : Launch) (dC : Nat → ClassId) (dI : Nat → Nat → Nat) (h0 : Nat) (v_tape : Nat) (v_names : Nat) (v_borders : Nat) (v_programs : Nat) (v_draft : Nat) (v_parser : Nat) (v_machine : Nat) (n_packed : Nat) (n_above : Nat) (n_keptAbove : Nat) (m_programs : Nat) (m_names : Nat) (m_borders : Nat) (m_stack : Nat) (m_heap : Nat) (m_marks : Nat) (m_failures : Nat) (m_frames : Nat) (m_guards : Nat) (m_tally : Nat) (m_program : Nat) (c_m_tally : ClassId) (x1 : Int32) : Met l yX11_look wsX11_look ({ frames := 1, cells := 0, slots := 0, locals := 21 }) (va_Pc [.ref h0, .int x1] (fun U => xR (dC, dI) [(h0, .inr (10, [.ref v_tape, .int 0, .int 0, .ref v_names, .ref v_borders, .ref v_programs, .ref v_draft, .ref v_parser, .ref v_machine])), (v_names, .inr (5, [.ref n_packed, .ref n_above, .ref n_keptAbove, .int 11, .int 0])), (v_machine, .inr (4, [.ref m_programs, .ref m_names, .ref m_borders, .ref m_stack, .ref m_heap, .ref m_marks, .ref m_failures, .ref m_frames, .ref m_guards, .ref m_tally, .ref m_program, .int 0, .int 0, .int 4, .int (-1), .int (-1), .long 0])), (m_tally, .inl (c_m_tally, 10, .inl (fun _ => 0)))] [(c_m_tally, .int)] U)) (va_Qi (fun (r : Int32) (_ : Unit) => (x1 = 10 ∧ r = 11) ∨ (¬ x1 = 10 ∧ (x1 < 0 ∨ 10 ≤ x1) ∧ r = -1) ∨ (¬ x1 = 10 ∧ ¬ (x1 < 0 ∨ 10 ≤ x1) ∧ r = 0)) (fun (_ : Unit) _ => True) (fun _ => False)) 0 0 (fun _ => False) := by
  refine Met.ofW (cc := cX11_look) (maxL := 2) (ret := (some .int)) (by decide) rfl ?_
  intro p e s m args below meth c s₁ B hml hv
  obtain ⟨rfl, hP, hK⟩ := hv
  have hx := B.exec
  have hb := B.bytes
  have hr := B.returns
  have hts := atoms_spec (ws := wsX11_look) B.pre
  have hown : s.vm.findClass RX11 = some m.cls := findClass_of_methodNamed B.named
  have hlocks := B.notSynchronized
  have hS : va_S (fun _ => False) s.heap s.heap [] := va_S.rf
  have hl := lv_entry ([.ref h0, .int x1]) (n := 2) (Nat.le_of_ble_eq_true rfl)
  rw [lg_entry_eq]
  generalize (lg_sl ([.ref h0, .int x1]) ++ List.replicate (2 - (lg_sl ([.ref h0, .int x1])).length) Slot.unset).toArray = ls at hl ⊢
  have hl : lv_has ls 2 [(0, .ref h0), (1, .int x1)] := hl
  refine lv_iload_n hx hb dX11_look_0 rfl (lv_at hl 1 rfl) ?_
  refine lv_bipush (v := 10) hx hb dX11_look_1 (by decide) ?_
  refine lv_icmp_ne (tgt := 14) hx hb dX11_look_3 (by decide) (fun c_3 => ?_) (fun c_3 => ?_)
  · refine lv_aload_n hx hb dX11_look_14 rfl (lv_at hl 0 rfl) ?_
    refine va_get (D := (dC, dI)) (ci := 10) (v := .ref v_machine) (C := RX11) (T := TX11) (N := 9) hx hb hts in_X11_look_RX11 hown hK hP 0 rfl rfl 8 (by decide) (hts (.fieldLink RX11 59 "FourTongues" "machine" "LFourTongues$Machine;") (by decide +kernel)) (fun _ h9 => h9) rfl dX11_look_15 ?_
    refine lv_iload_n hx hb dX11_look_18 rfl (lv_at hl 1 rfl) ?_
    refine va_calli (va_runV (As := [.int x1]) (rest := []) ⟨hx, hb, hml, hown, hts⟩ (c_X4_told l dC dI v_machine m_programs m_names m_borders m_stack m_heap m_marks m_failures m_frames m_guards m_tally m_program c_m_tally x1 ) (cwV 1 hts gX11_look_X4_told rfl rfl rfl (by decide +kernel) ⟨Nat.le_of_ble_eq_true rfl, Nat.le_of_ble_eq_true rfl⟩) ⟨fb_R, va_recv hK hP (ci := 4) (q0 := 2) rfl rfl, fun U hU hW => ⟨rfl, xR.at (hP.sub (ws' := [(v_machine, .inr (4, [.ref m_programs, .ref m_names, .ref m_borders, .ref m_stack, .ref m_heap, .ref m_marks, .ref m_failures, .ref m_frames, .ref m_guards, .ref m_tally, .ref m_program, .int 0, .int 0, .int 4, .int (-1), .int (-1), .long 0])), (m_tally, .inl (c_m_tally, 10, .inl (fun _ => 0)))]) [2, 3] rfl) (hK.sub (tys' := [(c_m_tally, .int)]) [0] rfl) hU hW⟩⟩ rfl rfl hl.1 rfl (lv_room (Nat.le_of_ble_eq_true rfl)) dX11_look_19 ⟨Nat.le_of_ble_eq_true rfl, Nat.le_of_ble_eq_true rfl⟩) hS (fun q _ h => h.elim) (fun q h => h.elim) (fun r_1 u t H locs ht hvm hw hB hz1 hk1 hS => ?_)
    have hw_2 := hw
    have hP := xR.keep hP hk1
    exact W.iret (v := r_1) hx hb hr (fun t ht hW => ⟨⟨r_1, (), rfl, Or.inr (hw_2.elim (fun q => Or.inl ⟨c_3, q⟩) (fun q => Or.inr ⟨c_3, q⟩)), trivial⟩, hS.F ht⟩) hS.2.2 dX11_look_22
  · refine lv_aload_n hx hb dX11_look_6 rfl (lv_at hl 0 rfl) ?_
    refine va_get (D := (dC, dI)) (ci := 10) (v := .ref v_names) (C := RX11) (T := TX11) (N := 9) hx hb hts in_X11_look_RX11 hown hK hP 0 rfl rfl 3 (by decide) (hts (.fieldLink RX11 23 "FourTongues" "names" "LFourTongues$Names;") (by decide +kernel)) (fun _ h9 => h9) rfl dX11_look_7 ?_
    refine va_calli (va_runV (As := []) (rest := []) ⟨hx, hb, hml, hown, hts⟩ (c_X5_inAll l dC dI v_names n_packed n_above n_keptAbove ) (cwV 0 hts gX11_look_X5_inAll rfl rfl rfl (by decide +kernel) ⟨Nat.le_of_ble_eq_true rfl, Nat.le_of_ble_eq_true rfl⟩) ⟨fb_R, va_recv hK hP (ci := 5) (q0 := 1) rfl rfl, fun U hU hW => ⟨rfl, xR.at (hP.sub (ws' := [(v_names, .inr (5, [.ref n_packed, .ref n_above, .ref n_keptAbove, .int 11, .int 0]))]) [1] rfl) (hK.sub (tys' := []) [] rfl) hU hW⟩⟩ rfl rfl hl.1 rfl (lv_room (Nat.le_of_ble_eq_true rfl)) dX11_look_10 ⟨Nat.le_of_ble_eq_true rfl, Nat.le_of_ble_eq_true rfl⟩) hS (fun q _ h => h.elim) (fun q h => h.elim) (fun r_3 u t H locs ht hvm hw hB hz1 hk1 hS => ?_)
    have hw_4 := hw
    have hP := xR.keep hP hk1
    exact W.iret (v := r_3) hx hb hr (fun t ht hW => ⟨⟨r_3, (), rfl, Or.inl ⟨c_3, hw_4⟩, trivial⟩, hS.F ht⟩) hS.2.2 dX11_look_13

set_option maxHeartbeats 4000000 in
set_option maxRecDepth 100000 in
theorem c_X9_kind (l : Launch) (dC : Nat → ClassId) (dI : Nat → Nat → Nat) (h0 : Nat) (k_kinds : Nat) (k_wholes : Nat) (k_reals : Nat) (x1 : Int32) : Met l yX9_kind wsX9_kind ({ frames := 0, cells := 0, slots := 0, locals := 0 }) (va_Pc [.ref h0, .int x1] (fun U => xR (dC, dI) [(h0, .inr (8, [.ref k_kinds, .ref k_wholes, .ref k_reals, .int 0]))] [] U)) (va_Qi (fun (r : Int32) (_ : Unit) => r = 0) (fun (_ : Unit) _ => True) (fun _ => False)) 0 0 (fun _ => False) := by
  refine Met.ofW (cc := cX9_kind) (maxL := 2) (ret := (some .int)) (by decide) rfl ?_
  intro p e s m args below meth c s₁ B hml hv
  obtain ⟨rfl, hP, hK⟩ := hv
  have hx := B.exec
  have hb := B.bytes
  have hr := B.returns
  have hts := atoms_spec (ws := wsX9_kind) B.pre
  have hown : s.vm.findClass RX9 = some m.cls := findClass_of_methodNamed B.named
  have hlocks := B.notSynchronized
  have hS : va_S (fun _ => False) s.heap s.heap [] := va_S.rf
  have hl := lv_entry ([.ref h0, .int x1]) (n := 2) (Nat.le_of_ble_eq_true rfl)
  rw [lg_entry_eq]
  generalize (lg_sl ([.ref h0, .int x1]) ++ List.replicate (2 - (lg_sl ([.ref h0, .int x1])).length) Slot.unset).toArray = ls at hl ⊢
  have hl : lv_has ls 2 [(0, .ref h0), (1, .int x1)] := hl
  refine lv_iload_n hx hb dX9_kind_0 rfl (lv_at hl 1 rfl) ?_
  refine lv_if_lt (tgt := 21) hx hb dX9_kind_1 (by decide) (fun c_1 => ?_) (fun c_1 => ?_)
  · refine lv_iconst (v := 0) hx hb dX9_kind_21 (by decide) ?_
    exact W.iret (v := 0) hx hb hr (fun t ht hW => ⟨⟨0, (), rfl, rfl, trivial⟩, hS.F ht⟩) hS.2.2 dX9_kind_22
  · refine lv_iload_n hx hb dX9_kind_4 rfl (lv_at hl 1 rfl) ?_
    refine lv_aload_n hx hb dX9_kind_5 rfl (lv_at hl 0 rfl) ?_
    refine va_get (D := (dC, dI)) (ci := 8) (v := .int 0) (C := RX9) (T := TX9) (N := 4) hx hb hts in_X9_kind_RX9 hown hK hP 0 rfl rfl 3 (by decide) (hts (.fieldLink RX9 7 "FourTongues$Row" "count" "I") (by decide +kernel)) (fun _ h9 => h9) rfl dX9_kind_6 ?_
    refine lv_icmp_ge (tgt := 21) hx hb dX9_kind_9 (by decide) (fun c_9 => ?_) (fun c_9 => absurd (Int32.not_lt.mp c_1) c_9)
    refine lv_iconst (v := 0) hx hb dX9_kind_21 (by decide) ?_
    exact W.iret (v := 0) hx hb hr (fun t ht hW => ⟨⟨0, (), rfl, rfl, trivial⟩, hS.F ht⟩) hS.2.2 dX9_kind_22

set_option maxHeartbeats 4000000 in
set_option maxRecDepth 100000 in
theorem c_X9_whole (l : Launch) (dC : Nat → ClassId) (dI : Nat → Nat → Nat) (h0 : Nat) (k_kinds : Nat) (k_wholes : Nat) (k_reals : Nat) (x1 : Int32) : Met l yX9_whole wsX9_whole ({ frames := 0, cells := 0, slots := 0, locals := 0 }) (va_Pc [.ref h0, .int x1] (fun U => xR (dC, dI) [(h0, .inr (8, [.ref k_kinds, .ref k_wholes, .ref k_reals, .int 0]))] [] U)) (va_Ql (fun (r : Int64) (_ : Unit) => r = 0) (fun (_ : Unit) _ => True) (fun _ => False)) 0 0 (fun _ => False) := by
  refine Met.ofW (cc := cX9_whole) (maxL := 2) (ret := (some .long)) (by decide) rfl ?_
  intro p e s m args below meth c s₁ B hml hv
  obtain ⟨rfl, hP, hK⟩ := hv
  have hx := B.exec
  have hb := B.bytes
  have hr := B.returns
  have hts := atoms_spec (ws := wsX9_whole) B.pre
  have hown : s.vm.findClass RX9 = some m.cls := findClass_of_methodNamed B.named
  have hlocks := B.notSynchronized
  have hS : va_S (fun _ => False) s.heap s.heap [] := va_S.rf
  have hl := lv_entry ([.ref h0, .int x1]) (n := 2) (Nat.le_of_ble_eq_true rfl)
  rw [lg_entry_eq]
  generalize (lg_sl ([.ref h0, .int x1]) ++ List.replicate (2 - (lg_sl ([.ref h0, .int x1])).length) Slot.unset).toArray = ls at hl ⊢
  have hl : lv_has ls 2 [(0, .ref h0), (1, .int x1)] := hl
  refine lv_iload_n hx hb dX9_whole_0 rfl (lv_at hl 1 rfl) ?_
  refine lv_if_lt (tgt := 21) hx hb dX9_whole_1 (by decide) (fun c_1 => ?_) (fun c_1 => ?_)
  · refine lv_lconst (v := 0) hx hb dX9_whole_21 (by decide) ?_
    exact W.lret (v := 0) hx hb hr (fun t ht hW => ⟨⟨0, (), rfl, rfl, trivial⟩, hS.F ht⟩) hS.2.2 dX9_whole_22
  · refine lv_iload_n hx hb dX9_whole_4 rfl (lv_at hl 1 rfl) ?_
    refine lv_aload_n hx hb dX9_whole_5 rfl (lv_at hl 0 rfl) ?_
    refine va_get (D := (dC, dI)) (ci := 8) (v := .int 0) (C := RX9) (T := TX9) (N := 4) hx hb hts in_X9_whole_RX9 hown hK hP 0 rfl rfl 3 (by decide) (hts (.fieldLink RX9 7 "FourTongues$Row" "count" "I") (by decide +kernel)) (fun _ h9 => h9) rfl dX9_whole_6 ?_
    refine lv_icmp_ge (tgt := 21) hx hb dX9_whole_9 (by decide) (fun c_9 => ?_) (fun c_9 => absurd (Int32.not_lt.mp c_1) c_9)
    refine lv_lconst (v := 0) hx hb dX9_whole_21 (by decide) ?_
    exact W.lret (v := 0) hx hb hr (fun t ht hW => ⟨⟨0, (), rfl, rfl, trivial⟩, hS.F ht⟩) hS.2.2 dX9_whole_22

set_option maxHeartbeats 4000000 in
set_option maxRecDepth 100000 in
theorem c_X9_count (l : Launch) (dC : Nat → ClassId) (dI : Nat → Nat → Nat) (h0 : Nat) (k_kinds : Nat) (k_wholes : Nat) (k_reals : Nat) : Met l yX9_count wsX9_count ({ frames := 0, cells := 0, slots := 0, locals := 0 }) (va_Pc [.ref h0] (fun U => xR (dC, dI) [(h0, .inr (8, [.ref k_kinds, .ref k_wholes, .ref k_reals, .int 0]))] [] U)) (va_Qi (fun (r : Int32) (_ : Unit) => r = 0) (fun (_ : Unit) _ => True) (fun _ => False)) 0 0 (fun _ => False) := by
  refine Met.ofW (cc := cX9_count) (maxL := 1) (ret := (some .int)) (by decide) rfl ?_
  intro p e s m args below meth c s₁ B hml hv
  obtain ⟨rfl, hP, hK⟩ := hv
  have hx := B.exec
  have hb := B.bytes
  have hr := B.returns
  have hts := atoms_spec (ws := wsX9_count) B.pre
  have hown : s.vm.findClass RX9 = some m.cls := findClass_of_methodNamed B.named
  have hlocks := B.notSynchronized
  have hS : va_S (fun _ => False) s.heap s.heap [] := va_S.rf
  have hl := lv_entry ([.ref h0]) (n := 1) (Nat.le_of_ble_eq_true rfl)
  rw [lg_entry_eq]
  generalize (lg_sl ([.ref h0]) ++ List.replicate (1 - (lg_sl ([.ref h0])).length) Slot.unset).toArray = ls at hl ⊢
  have hl : lv_has ls 1 [(0, .ref h0)] := hl
  refine lv_aload_n hx hb dX9_count_0 rfl (lv_at hl 0 rfl) ?_
  refine va_get (D := (dC, dI)) (ci := 8) (v := .int 0) (C := RX9) (T := TX9) (N := 4) hx hb hts in_X9_count_RX9 hown hK hP 0 rfl rfl 3 (by decide) (hts (.fieldLink RX9 7 "FourTongues$Row" "count" "I") (by decide +kernel)) (fun _ h9 => h9) rfl dX9_count_1 ?_
  exact W.iret (v := 0) hx hb hr (fun t ht hW => ⟨⟨0, (), rfl, rfl, trivial⟩, hS.F ht⟩) hS.2.2 dX9_count_4

set_option maxHeartbeats 4000000 in
set_option maxRecDepth 100000 in
theorem c_X4_markOf (l : Launch) (dC : Nat → ClassId) (dI : Nat → Nat → Nat) (h0 : Nat) (m_programs : Nat) (m_names : Nat) (m_borders : Nat) (m_stack : Nat) (m_heap : Nat) (m_marks : Nat) (m_failures : Nat) (m_frames : Nat) (m_guards : Nat) (m_tally : Nat) (m_program : Nat) (k_kinds : Nat) (k_wholes : Nat) (k_reals : Nat) (x1 : Int32) : Met l yX4_markOf wsX4_markOf ({ frames := 1, cells := 0, slots := 0, locals := 21 }) (va_Pc [.ref h0, .int x1] (fun U => xR (dC, dI) [(h0, .inr (4, [.ref m_programs, .ref m_names, .ref m_borders, .ref m_stack, .ref m_heap, .ref m_marks, .ref m_failures, .ref m_frames, .ref m_guards, .ref m_tally, .ref m_program, .int 0, .int 0, .int 4, .int (-1), .int (-1), .long 0])), (m_marks, .inr (8, [.ref k_kinds, .ref k_wholes, .ref k_reals, .int 0]))] [] U)) (va_Ql (fun (r : Int64) (_ : Unit) => r = 0) (fun (_ : Unit) _ => True) (fun _ => False)) 0 0 (fun _ => False) := by
  refine Met.ofW (cc := cX4_markOf) (maxL := 2) (ret := (some .long)) (by decide) rfl ?_
  intro p e s m args below meth c s₁ B hml hv
  obtain ⟨rfl, hP, hK⟩ := hv
  have hx := B.exec
  have hb := B.bytes
  have hr := B.returns
  have hts := atoms_spec (ws := wsX4_markOf) B.pre
  have hown : s.vm.findClass RX4 = some m.cls := findClass_of_methodNamed B.named
  have hlocks := B.notSynchronized
  have hS : va_S (fun _ => False) s.heap s.heap [] := va_S.rf
  have hl := lv_entry ([.ref h0, .int x1]) (n := 2) (Nat.le_of_ble_eq_true rfl)
  rw [lg_entry_eq]
  generalize (lg_sl ([.ref h0, .int x1]) ++ List.replicate (2 - (lg_sl ([.ref h0, .int x1])).length) Slot.unset).toArray = ls at hl ⊢
  have hl : lv_has ls 2 [(0, .ref h0), (1, .int x1)] := hl
  refine lv_aload_n hx hb dX4_markOf_0 rfl (lv_at hl 0 rfl) ?_
  refine va_get (D := (dC, dI)) (ci := 4) (v := .ref m_marks) (C := RX4) (T := TX4) (N := 17) hx hb hts in_X4_markOf_RX4 hown hK hP 0 rfl rfl 5 (by decide) (hts (.fieldLink RX4 23 "FourTongues$Machine" "marks" "LFourTongues$Row;") (by decide +kernel)) (fun _ h9 => h9) rfl dX4_markOf_1 ?_
  refine lv_iload_n hx hb dX4_markOf_4 rfl (lv_at hl 1 rfl) ?_
  refine va_calli (va_runV (As := [.int x1]) (rest := []) ⟨hx, hb, hml, hown, hts⟩ (c_X9_kind l dC dI m_marks k_kinds k_wholes k_reals x1 ) (cwV 1 hts gX4_markOf_X9_kind rfl rfl rfl (by decide +kernel) ⟨Nat.le_of_ble_eq_true rfl, Nat.le_of_ble_eq_true rfl⟩) ⟨fb_R, va_recv hK hP (ci := 8) (q0 := 1) rfl rfl, fun U hU hW => ⟨rfl, xR.at (hP.sub (ws' := [(m_marks, .inr (8, [.ref k_kinds, .ref k_wholes, .ref k_reals, .int 0]))]) [1] rfl) (hK.sub (tys' := []) [] rfl) hU hW⟩⟩ rfl rfl hl.1 rfl (lv_room (Nat.le_of_ble_eq_true rfl)) dX4_markOf_5 ⟨Nat.le_of_ble_eq_true rfl, Nat.le_of_ble_eq_true rfl⟩) hS (fun q _ h => h.elim) (fun q h => h.elim) (fun r_1 u t H locs ht hvm hw hB hz1 hk1 hS => ?_)
  have hw_2 := hw
  have hP := xR.keep hP hk1
  subst hw_2
  refine lv_iconst (v := 3) hx hb dX4_markOf_8 (by decide) ?_
  refine lv_icmp_ne (tgt := 26) hx hb dX4_markOf_9 (by decide) (fun c_9 => ?_) (fun c_9 => absurd c_9 (by decide))
  refine lv_aload_n hx hb dX4_markOf_26 rfl (lv_at hl 0 rfl) ?_
  refine va_get (D := (dC, dI)) (ci := 4) (v := .ref m_marks) (C := RX4) (T := TX4) (N := 17) hx hb hts in_X4_markOf_RX4 hown hK hP 0 rfl rfl 5 (by decide) (hts (.fieldLink RX4 23 "FourTongues$Machine" "marks" "LFourTongues$Row;") (by decide +kernel)) (fun _ h9 => h9) rfl dX4_markOf_27 ?_
  refine lv_iload_n hx hb dX4_markOf_30 rfl (lv_at hl 1 rfl) ?_
  refine va_calll (va_runV (As := [.int x1]) (rest := []) ⟨hx, hb, hml, hown, hts⟩ (c_X9_whole l dC dI m_marks k_kinds k_wholes k_reals x1 ) (cwV 1 hts gX4_markOf_X9_whole rfl rfl rfl (by decide +kernel) ⟨Nat.le_of_ble_eq_true rfl, Nat.le_of_ble_eq_true rfl⟩) ⟨fb_R, va_recv hK hP (ci := 8) (q0 := 1) rfl rfl, fun U hU hW => ⟨rfl, xR.at (hP.sub (ws' := [(m_marks, .inr (8, [.ref k_kinds, .ref k_wholes, .ref k_reals, .int 0]))]) [1] rfl) (hK.sub (tys' := []) [] rfl) hU hW⟩⟩ rfl rfl hl.1 rfl (lv_room (Nat.le_of_ble_eq_true rfl)) dX4_markOf_31 ⟨Nat.le_of_ble_eq_true rfl, Nat.le_of_ble_eq_true rfl⟩) hS (fun q _ h => h.elim) (fun q h => h.elim) (fun r_3 u t H locs ht hvm hw hB hz1 hk1 hS => ?_)
  have hw_4 := hw
  have hP := xR.keep hP hk1
  subst hw_4
  exact W.lret (v := 0) hx hb hr (fun t ht hW => ⟨⟨0, (), rfl, rfl, trivial⟩, hS.F ht⟩) hS.2.2 dX4_markOf_34

set_option maxHeartbeats 4000000 in
set_option maxRecDepth 100000 in
theorem c_X11_mark (l : Launch) (dC : Nat → ClassId) (dI : Nat → Nat → Nat) (h0 : Nat) (v_tape : Nat) (v_names : Nat) (v_borders : Nat) (v_programs : Nat) (v_draft : Nat) (v_parser : Nat) (v_machine : Nat) (m_programs : Nat) (m_names : Nat) (m_borders : Nat) (m_stack : Nat) (m_heap : Nat) (m_marks : Nat) (m_failures : Nat) (m_frames : Nat) (m_guards : Nat) (m_tally : Nat) (m_program : Nat) (k_kinds : Nat) (k_wholes : Nat) (k_reals : Nat) (x1 : Int32) : Met l yX11_mark wsX11_mark ({ frames := 2, cells := 0, slots := 0, locals := 42 }) (va_Pc [.ref h0, .int x1] (fun U => xR (dC, dI) [(h0, .inr (10, [.ref v_tape, .int 0, .int 0, .ref v_names, .ref v_borders, .ref v_programs, .ref v_draft, .ref v_parser, .ref v_machine])), (v_machine, .inr (4, [.ref m_programs, .ref m_names, .ref m_borders, .ref m_stack, .ref m_heap, .ref m_marks, .ref m_failures, .ref m_frames, .ref m_guards, .ref m_tally, .ref m_program, .int 0, .int 0, .int 4, .int (-1), .int (-1), .long 0])), (m_marks, .inr (8, [.ref k_kinds, .ref k_wholes, .ref k_reals, .int 0]))] [] U)) (va_Ql (fun (r : Int64) (_ : Unit) => r = 0) (fun (_ : Unit) _ => True) (fun _ => False)) 0 0 (fun _ => False) := by
  refine Met.ofW (cc := cX11_mark) (maxL := 2) (ret := (some .long)) (by decide) rfl ?_
  intro p e s m args below meth c s₁ B hml hv
  obtain ⟨rfl, hP, hK⟩ := hv
  have hx := B.exec
  have hb := B.bytes
  have hr := B.returns
  have hts := atoms_spec (ws := wsX11_mark) B.pre
  have hown : s.vm.findClass RX11 = some m.cls := findClass_of_methodNamed B.named
  have hlocks := B.notSynchronized
  have hS : va_S (fun _ => False) s.heap s.heap [] := va_S.rf
  have hl := lv_entry ([.ref h0, .int x1]) (n := 2) (Nat.le_of_ble_eq_true rfl)
  rw [lg_entry_eq]
  generalize (lg_sl ([.ref h0, .int x1]) ++ List.replicate (2 - (lg_sl ([.ref h0, .int x1])).length) Slot.unset).toArray = ls at hl ⊢
  have hl : lv_has ls 2 [(0, .ref h0), (1, .int x1)] := hl
  refine lv_aload_n hx hb dX11_mark_0 rfl (lv_at hl 0 rfl) ?_
  refine va_get (D := (dC, dI)) (ci := 10) (v := .ref v_machine) (C := RX11) (T := TX11) (N := 9) hx hb hts in_X11_mark_RX11 hown hK hP 0 rfl rfl 8 (by decide) (hts (.fieldLink RX11 59 "FourTongues" "machine" "LFourTongues$Machine;") (by decide +kernel)) (fun _ h9 => h9) rfl dX11_mark_1 ?_
  refine lv_iload_n hx hb dX11_mark_4 rfl (lv_at hl 1 rfl) ?_
  refine va_calll (va_runV (As := [.int x1]) (rest := []) ⟨hx, hb, hml, hown, hts⟩ (c_X4_markOf l dC dI v_machine m_programs m_names m_borders m_stack m_heap m_marks m_failures m_frames m_guards m_tally m_program k_kinds k_wholes k_reals x1 ) (cwV 1 hts gX11_mark_X4_markOf rfl rfl rfl (by decide +kernel) ⟨Nat.le_of_ble_eq_true rfl, Nat.le_of_ble_eq_true rfl⟩) ⟨fb_R, va_recv hK hP (ci := 4) (q0 := 1) rfl rfl, fun U hU hW => ⟨rfl, xR.at (hP.sub (ws' := [(v_machine, .inr (4, [.ref m_programs, .ref m_names, .ref m_borders, .ref m_stack, .ref m_heap, .ref m_marks, .ref m_failures, .ref m_frames, .ref m_guards, .ref m_tally, .ref m_program, .int 0, .int 0, .int 4, .int (-1), .int (-1), .long 0])), (m_marks, .inr (8, [.ref k_kinds, .ref k_wholes, .ref k_reals, .int 0]))]) [1, 2] rfl) (hK.sub (tys' := []) [] rfl) hU hW⟩⟩ rfl rfl hl.1 rfl (lv_room (Nat.le_of_ble_eq_true rfl)) dX11_mark_5 ⟨Nat.le_of_ble_eq_true rfl, Nat.le_of_ble_eq_true rfl⟩) hS (fun q _ h => h.elim) (fun q h => h.elim) (fun r_1 u t H locs ht hvm hw hB hz1 hk1 hS => ?_)
  have hw_2 := hw
  have hP := xR.keep hP hk1
  subst hw_2
  exact W.lret (v := 0) hx hb hr (fun t ht hW => ⟨⟨0, (), rfl, rfl, trivial⟩, hS.F ht⟩) hS.2.2 dX11_mark_8

set_option maxHeartbeats 4000000 in
set_option maxRecDepth 100000 in
theorem c_X4_tongueOfMark (l : Launch) (dC : Nat → ClassId) (dI : Nat → Nat → Nat) (h0 : Nat) (m_programs : Nat) (m_names : Nat) (m_borders : Nat) (m_stack : Nat) (m_heap : Nat) (m_marks : Nat) (m_failures : Nat) (m_frames : Nat) (m_guards : Nat) (m_tally : Nat) (m_program : Nat) (k_kinds : Nat) (k_wholes : Nat) (k_reals : Nat) (x1 : Int32) : Met l yX4_tongueOfMark wsX4_tongueOfMark ({ frames := 1, cells := 0, slots := 0, locals := 20 }) (va_Pc [.ref h0, .int x1] (fun U => xR (dC, dI) [(h0, .inr (4, [.ref m_programs, .ref m_names, .ref m_borders, .ref m_stack, .ref m_heap, .ref m_marks, .ref m_failures, .ref m_frames, .ref m_guards, .ref m_tally, .ref m_program, .int 0, .int 0, .int 4, .int (-1), .int (-1), .long 0])), (m_marks, .inr (8, [.ref k_kinds, .ref k_wholes, .ref k_reals, .int 0]))] [] U)) (va_Qi (fun (r : Int32) (_ : Unit) => r = -1) (fun (_ : Unit) _ => True) (fun _ => False)) 0 0 (fun _ => False) := by
  refine Met.ofW (cc := cX4_tongueOfMark) (maxL := 2) (ret := (some .int)) (by decide) rfl ?_
  intro p e s m args below meth c s₁ B hml hv
  obtain ⟨rfl, hP, hK⟩ := hv
  have hx := B.exec
  have hb := B.bytes
  have hr := B.returns
  have hts := atoms_spec (ws := wsX4_tongueOfMark) B.pre
  have hown : s.vm.findClass RX4 = some m.cls := findClass_of_methodNamed B.named
  have hlocks := B.notSynchronized
  have hS : va_S (fun _ => False) s.heap s.heap [] := va_S.rf
  have hl := lv_entry ([.ref h0, .int x1]) (n := 2) (Nat.le_of_ble_eq_true rfl)
  rw [lg_entry_eq]
  generalize (lg_sl ([.ref h0, .int x1]) ++ List.replicate (2 - (lg_sl ([.ref h0, .int x1])).length) Slot.unset).toArray = ls at hl ⊢
  have hl : lv_has ls 2 [(0, .ref h0), (1, .int x1)] := hl
  refine lv_iload_n hx hb dX4_tongueOfMark_0 rfl (lv_at hl 1 rfl) ?_
  refine lv_if_lt (tgt := 26) hx hb dX4_tongueOfMark_1 (by decide) (fun c_1 => ?_) (fun c_1 => ?_)
  · refine lv_iconst (v := (-1)) hx hb dX4_tongueOfMark_26 (by decide) ?_
    exact W.iret (v := (-1)) hx hb hr (fun t ht hW => ⟨⟨(-1), (), rfl, rfl, trivial⟩, hS.F ht⟩) hS.2.2 dX4_tongueOfMark_27
  · refine lv_iload_n hx hb dX4_tongueOfMark_4 rfl (lv_at hl 1 rfl) ?_
    refine lv_aload_n hx hb dX4_tongueOfMark_5 rfl (lv_at hl 0 rfl) ?_
    refine va_get (D := (dC, dI)) (ci := 4) (v := .ref m_marks) (C := RX4) (T := TX4) (N := 17) hx hb hts in_X4_tongueOfMark_RX4 hown hK hP 0 rfl rfl 5 (by decide) (hts (.fieldLink RX4 23 "FourTongues$Machine" "marks" "LFourTongues$Row;") (by decide +kernel)) (fun _ h9 => h9) rfl dX4_tongueOfMark_6 ?_
    refine va_calli (va_runV (As := []) (rest := [.int x1]) ⟨hx, hb, hml, hown, hts⟩ (c_X9_count l dC dI m_marks k_kinds k_wholes k_reals ) (cwV 0 hts gX4_tongueOfMark_X9_count rfl rfl rfl (by decide +kernel) ⟨Nat.le_of_ble_eq_true rfl, Nat.le_of_ble_eq_true rfl⟩) ⟨fb_R, va_recv hK hP (ci := 8) (q0 := 1) rfl rfl, fun U hU hW => ⟨rfl, xR.at (hP.sub (ws' := [(m_marks, .inr (8, [.ref k_kinds, .ref k_wholes, .ref k_reals, .int 0]))]) [1] rfl) (hK.sub (tys' := []) [] rfl) hU hW⟩⟩ rfl rfl hl.1 rfl (lv_room (Nat.le_of_ble_eq_true rfl)) dX4_tongueOfMark_9 ⟨Nat.le_of_ble_eq_true rfl, Nat.le_of_ble_eq_true rfl⟩) hS (fun q _ h => h.elim) (fun q h => h.elim) (fun r_1 u t H locs ht hvm hw hB hz1 hk1 hS => ?_)
    have hw_2 := hw
    have hP := xR.keep hP hk1
    subst hw_2
    refine lv_icmp_ge (tgt := 26) hx hb dX4_tongueOfMark_12 (by decide) (fun c_12 => ?_) (fun c_12 => absurd (Int32.not_lt.mp c_1) c_12)
    refine lv_iconst (v := (-1)) hx hb dX4_tongueOfMark_26 (by decide) ?_
    exact W.iret (v := (-1)) hx hb hr (fun t ht hW => ⟨⟨(-1), (), rfl, rfl, trivial⟩, hS.F ht⟩) hS.2.2 dX4_tongueOfMark_27

set_option maxHeartbeats 4000000 in
set_option maxRecDepth 100000 in
theorem c_X11_markTongue (l : Launch) (dC : Nat → ClassId) (dI : Nat → Nat → Nat) (h0 : Nat) (v_tape : Nat) (v_names : Nat) (v_borders : Nat) (v_programs : Nat) (v_draft : Nat) (v_parser : Nat) (v_machine : Nat) (m_programs : Nat) (m_names : Nat) (m_borders : Nat) (m_stack : Nat) (m_heap : Nat) (m_marks : Nat) (m_failures : Nat) (m_frames : Nat) (m_guards : Nat) (m_tally : Nat) (m_program : Nat) (k_kinds : Nat) (k_wholes : Nat) (k_reals : Nat) (x1 : Int32) : Met l yX11_markTongue wsX11_markTongue ({ frames := 2, cells := 0, slots := 0, locals := 41 }) (va_Pc [.ref h0, .int x1] (fun U => xR (dC, dI) [(h0, .inr (10, [.ref v_tape, .int 0, .int 0, .ref v_names, .ref v_borders, .ref v_programs, .ref v_draft, .ref v_parser, .ref v_machine])), (v_machine, .inr (4, [.ref m_programs, .ref m_names, .ref m_borders, .ref m_stack, .ref m_heap, .ref m_marks, .ref m_failures, .ref m_frames, .ref m_guards, .ref m_tally, .ref m_program, .int 0, .int 0, .int 4, .int (-1), .int (-1), .long 0])), (m_marks, .inr (8, [.ref k_kinds, .ref k_wholes, .ref k_reals, .int 0]))] [] U)) (va_Qi (fun (r : Int32) (_ : Unit) => r = -1) (fun (_ : Unit) _ => True) (fun _ => False)) 0 0 (fun _ => False) := by
  refine Met.ofW (cc := cX11_markTongue) (maxL := 2) (ret := (some .int)) (by decide) rfl ?_
  intro p e s m args below meth c s₁ B hml hv
  obtain ⟨rfl, hP, hK⟩ := hv
  have hx := B.exec
  have hb := B.bytes
  have hr := B.returns
  have hts := atoms_spec (ws := wsX11_markTongue) B.pre
  have hown : s.vm.findClass RX11 = some m.cls := findClass_of_methodNamed B.named
  have hlocks := B.notSynchronized
  have hS : va_S (fun _ => False) s.heap s.heap [] := va_S.rf
  have hl := lv_entry ([.ref h0, .int x1]) (n := 2) (Nat.le_of_ble_eq_true rfl)
  rw [lg_entry_eq]
  generalize (lg_sl ([.ref h0, .int x1]) ++ List.replicate (2 - (lg_sl ([.ref h0, .int x1])).length) Slot.unset).toArray = ls at hl ⊢
  have hl : lv_has ls 2 [(0, .ref h0), (1, .int x1)] := hl
  refine lv_aload_n hx hb dX11_markTongue_0 rfl (lv_at hl 0 rfl) ?_
  refine va_get (D := (dC, dI)) (ci := 10) (v := .ref v_machine) (C := RX11) (T := TX11) (N := 9) hx hb hts in_X11_markTongue_RX11 hown hK hP 0 rfl rfl 8 (by decide) (hts (.fieldLink RX11 59 "FourTongues" "machine" "LFourTongues$Machine;") (by decide +kernel)) (fun _ h9 => h9) rfl dX11_markTongue_1 ?_
  refine lv_iload_n hx hb dX11_markTongue_4 rfl (lv_at hl 1 rfl) ?_
  refine va_calli (va_runV (As := [.int x1]) (rest := []) ⟨hx, hb, hml, hown, hts⟩ (c_X4_tongueOfMark l dC dI v_machine m_programs m_names m_borders m_stack m_heap m_marks m_failures m_frames m_guards m_tally m_program k_kinds k_wholes k_reals x1 ) (cwV 1 hts gX11_markTongue_X4_tongueOfMark rfl rfl rfl (by decide +kernel) ⟨Nat.le_of_ble_eq_true rfl, Nat.le_of_ble_eq_true rfl⟩) ⟨fb_R, va_recv hK hP (ci := 4) (q0 := 1) rfl rfl, fun U hU hW => ⟨rfl, xR.at (hP.sub (ws' := [(v_machine, .inr (4, [.ref m_programs, .ref m_names, .ref m_borders, .ref m_stack, .ref m_heap, .ref m_marks, .ref m_failures, .ref m_frames, .ref m_guards, .ref m_tally, .ref m_program, .int 0, .int 0, .int 4, .int (-1), .int (-1), .long 0])), (m_marks, .inr (8, [.ref k_kinds, .ref k_wholes, .ref k_reals, .int 0]))]) [1, 2] rfl) (hK.sub (tys' := []) [] rfl) hU hW⟩⟩ rfl rfl hl.1 rfl (lv_room (Nat.le_of_ble_eq_true rfl)) dX11_markTongue_5 ⟨Nat.le_of_ble_eq_true rfl, Nat.le_of_ble_eq_true rfl⟩) hS (fun q _ h => h.elim) (fun q h => h.elim) (fun r_1 u t H locs ht hvm hw hB hz1 hk1 hS => ?_)
  have hw_2 := hw
  have hP := xR.keep hP hk1
  subst hw_2
  exact W.iret (v := (-1)) hx hb hr (fun t ht hW => ⟨⟨(-1), (), rfl, rfl, trivial⟩, hS.F ht⟩) hS.2.2 dX11_markTongue_8

set_option maxHeartbeats 4000000 in
set_option maxRecDepth 100000 in
theorem c_X1_fact (l : Launch) (dC : Nat → ClassId) (dI : Nat → Nat → Nat) (h0 : Nat) (l_facts : Nat) (l_values : Nat) (l_lying : Nat) (x2 : Int32) : Met l yX1_fact wsX1_fact ({ frames := 0, cells := 0, slots := 0, locals := 0 }) (va_Pc [.ref h0, .int (-1), .int x2] (fun U => xR (dC, dI) [(h0, .inr (1, [.ref l_facts, .int 0, .ref l_values, .ref l_lying, .int 0]))] [] U)) (va_Qi (fun (r : Int32) (_ : Unit) => r = -1) (fun (_ : Unit) _ => True) (fun _ => False)) 0 0 (fun _ => False) := by
  refine Met.ofW (cc := cX1_fact) (maxL := 3) (ret := (some .int)) (by decide) rfl ?_
  intro p e s m args below meth c s₁ B hml hv
  obtain ⟨rfl, hP, hK⟩ := hv
  have hx := B.exec
  have hb := B.bytes
  have hr := B.returns
  have hts := atoms_spec (ws := wsX1_fact) B.pre
  have hown : s.vm.findClass RX1 = some m.cls := findClass_of_methodNamed B.named
  have hlocks := B.notSynchronized
  have hS : va_S (fun _ => False) s.heap s.heap [] := va_S.rf
  have hl := lv_entry ([.ref h0, .int (-1), .int x2]) (n := 3) (Nat.le_of_ble_eq_true rfl)
  rw [lg_entry_eq]
  generalize (lg_sl ([.ref h0, .int (-1), .int x2]) ++ List.replicate (3 - (lg_sl ([.ref h0, .int (-1), .int x2])).length) Slot.unset).toArray = ls at hl ⊢
  have hl : lv_has ls 3 [(0, .ref h0), (1, .int (-1)), (2, .int x2)] := hl
  refine lv_iload_n hx hb dX1_fact_0 rfl (lv_at hl 1 rfl) ?_
  refine lv_if_lt (tgt := 22) hx hb dX1_fact_1 (by decide) (fun c_1 => ?_) (fun c_1 => absurd c_1 (by decide))
  refine lv_iconst (v := (-1)) hx hb dX1_fact_22 (by decide) ?_
  exact W.iret (v := (-1)) hx hb hr (fun t ht hW => ⟨⟨(-1), (), rfl, rfl, trivial⟩, hS.F ht⟩) hS.2.2 dX1_fact_23

set_option maxHeartbeats 4000000 in
set_option maxRecDepth 100000 in
theorem c_X1_source (l : Launch) (dC : Nat → ClassId) (dI : Nat → Nat → Nat) (h0 : Nat) (l_facts : Nat) (l_values : Nat) (l_lying : Nat) (x2 : Int32) : Met l yX1_source wsX1_source ({ frames := 0, cells := 0, slots := 0, locals := 0 }) (va_Pc [.ref h0, .int (-1), .int x2] (fun U => xR (dC, dI) [(h0, .inr (1, [.ref l_facts, .int 0, .ref l_values, .ref l_lying, .int 0]))] [] U)) (va_Qi (fun (r : Int32) (_ : Unit) => r = -1) (fun (_ : Unit) _ => True) (fun _ => False)) 0 0 (fun _ => False) := by
  refine Met.ofW (cc := cX1_source) (maxL := 5) (ret := (some .int)) (by decide) rfl ?_
  intro p e s m args below meth c s₁ B hml hv
  obtain ⟨rfl, hP, hK⟩ := hv
  have hx := B.exec
  have hb := B.bytes
  have hr := B.returns
  have hts := atoms_spec (ws := wsX1_source) B.pre
  have hown : s.vm.findClass RX1 = some m.cls := findClass_of_methodNamed B.named
  have hlocks := B.notSynchronized
  have hS : va_S (fun _ => False) s.heap s.heap [] := va_S.rf
  have hl := lv_entry ([.ref h0, .int (-1), .int x2]) (n := 5) (Nat.le_of_ble_eq_true rfl)
  rw [lg_entry_eq]
  generalize (lg_sl ([.ref h0, .int (-1), .int x2]) ++ List.replicate (5 - (lg_sl ([.ref h0, .int (-1), .int x2])).length) Slot.unset).toArray = ls at hl ⊢
  have hl : lv_has ls 5 [(0, .ref h0), (1, .int (-1)), (2, .int x2)] := hl
  refine lv_iload_n hx hb dX1_source_0 rfl (lv_at hl 2 rfl) ?_
  refine lv_if_ge (tgt := 8) hx hb dX1_source_1 (by decide) (fun c_1 => ?_) (fun c_1 => ?_)
  · refine lv_iload_n hx hb dX1_source_8 rfl (lv_at hl 1 rfl) ?_
    refine lv_istore_n (lv' := [(3, .int (-1)), (0, .ref h0), (1, .int (-1)), (2, .int x2)]) hx hb dX1_source_9 rfl hl (by decide) rfl (fun ls hl => ?_)
    refine lv_iconst (v := 0) hx hb dX1_source_10 (by decide) ?_
    refine lv_istore (lv' := [(4, .int 0), (3, .int (-1)), (0, .ref h0), (1, .int (-1)), (2, .int x2)]) hx hb dX1_source_11 hl (by decide) rfl (fun ls hl => ?_)
    refine lv_iload hx hb dX1_source_13 (lv_at hl 0 rfl) ?_
    refine lv_iload_n hx hb dX1_source_15 rfl (lv_at hl 4 rfl) ?_
    refine lv_icmp_ge (tgt := 37) hx hb dX1_source_16 (by decide) (fun c_16 => ?_) (fun c_16 => ?_)
    · refine lv_iload_n hx hb dX1_source_37 rfl (lv_at hl 1 rfl) ?_
      exact W.iret (v := (-1)) hx hb hr (fun t ht hW => ⟨⟨(-1), (), rfl, rfl, trivial⟩, hS.F ht⟩) hS.2.2 dX1_source_38
    · refine lv_iload_n hx hb dX1_source_19 rfl (lv_at hl 1 rfl) ?_
      refine lv_if_lt (tgt := 37) hx hb dX1_source_20 (by decide) (fun c_20 => ?_) (fun c_20 => absurd c_20 (by decide))
      refine lv_iload_n hx hb dX1_source_37 rfl (lv_at hl 1 rfl) ?_
      exact W.iret (v := (-1)) hx hb hr (fun t ht hW => ⟨⟨(-1), (), rfl, rfl, trivial⟩, hS.F ht⟩) hS.2.2 dX1_source_38
  · refine lv_iconst (v := (-1)) hx hb dX1_source_4 (by decide) ?_
    refine lv_goto (tgt := 9) hx hb dX1_source_5 (by decide) ?_
    refine lv_istore_n (lv' := [(3, .int (-1)), (0, .ref h0), (1, .int (-1)), (2, .int x2)]) hx hb dX1_source_9 rfl hl (by decide) rfl (fun ls hl => ?_)
    refine lv_iconst (v := 0) hx hb dX1_source_10 (by decide) ?_
    refine lv_istore (lv' := [(4, .int 0), (3, .int (-1)), (0, .ref h0), (1, .int (-1)), (2, .int x2)]) hx hb dX1_source_11 hl (by decide) rfl (fun ls hl => ?_)
    refine lv_iload hx hb dX1_source_13 (lv_at hl 0 rfl) ?_
    refine lv_iload_n hx hb dX1_source_15 rfl (lv_at hl 4 rfl) ?_
    refine lv_icmp_ge (tgt := 37) hx hb dX1_source_16 (by decide) (fun c_16 => ?_) (fun c_16 => ?_)
    · refine lv_iload_n hx hb dX1_source_37 rfl (lv_at hl 1 rfl) ?_
      exact W.iret (v := (-1)) hx hb hr (fun t ht hW => ⟨⟨(-1), (), rfl, rfl, trivial⟩, hS.F ht⟩) hS.2.2 dX1_source_38
    · refine lv_iload_n hx hb dX1_source_19 rfl (lv_at hl 1 rfl) ?_
      refine lv_if_lt (tgt := 37) hx hb dX1_source_20 (by decide) (fun c_20 => ?_) (fun c_20 => absurd c_20 (by decide))
      refine lv_iload_n hx hb dX1_source_37 rfl (lv_at hl 1 rfl) ?_
      exact W.iret (v := (-1)) hx hb hr (fun t ht hW => ⟨⟨(-1), (), rfl, rfl, trivial⟩, hS.F ht⟩) hS.2.2 dX1_source_38

set_option maxHeartbeats 4000000 in
set_option maxRecDepth 100000 in
theorem c_X1_lower (l : Launch) (dC : Nat → ClassId) (dI : Nat → Nat → Nat) (h0 : Nat) (l_facts : Nat) (l_values : Nat) (l_lying : Nat) (x2 : Int32) : Met l yX1_lower wsX1_lower ({ frames := 1, cells := 0, slots := 0, locals := 22 }) (va_Pc [.ref h0, .int (-1), .int x2] (fun U => xR (dC, dI) [(h0, .inr (1, [.ref l_facts, .int 0, .ref l_values, .ref l_lying, .int 0]))] [] U)) (va_Qi (fun (r : Int32) (_ : Unit) => r = -1) (fun (_ : Unit) _ => True) (fun _ => False)) 0 0 (fun _ => False) := by
  refine Met.ofW (cc := cX1_lower) (maxL := 5) (ret := (some .int)) (by decide) rfl ?_
  intro p e s m args below meth c s₁ B hml hv
  obtain ⟨rfl, hP, hK⟩ := hv
  have hx := B.exec
  have hb := B.bytes
  have hr := B.returns
  have hts := atoms_spec (ws := wsX1_lower) B.pre
  have hown : s.vm.findClass RX1 = some m.cls := findClass_of_methodNamed B.named
  have hlocks := B.notSynchronized
  have hS : va_S (fun _ => False) s.heap s.heap [] := va_S.rf
  have hl := lv_entry ([.ref h0, .int (-1), .int x2]) (n := 5) (Nat.le_of_ble_eq_true rfl)
  rw [lg_entry_eq]
  generalize (lg_sl ([.ref h0, .int (-1), .int x2]) ++ List.replicate (5 - (lg_sl ([.ref h0, .int (-1), .int x2])).length) Slot.unset).toArray = ls at hl ⊢
  have hl : lv_has ls 5 [(0, .ref h0), (1, .int (-1)), (2, .int x2)] := hl
  refine lv_iload_n hx hb dX1_lower_0 rfl (lv_at hl 2 rfl) ?_
  refine lv_if_ge (tgt := 8) hx hb dX1_lower_1 (by decide) (fun c_1 => ?_) (fun c_1 => ?_)
  · refine lv_aload_n hx hb dX1_lower_8 rfl (lv_at hl 0 rfl) ?_
    refine lv_iload_n hx hb dX1_lower_9 rfl (lv_at hl 1 rfl) ?_
    refine lv_bipush (v := 8) hx hb dX1_lower_10 (by decide) ?_
    refine va_calli (va_runV (As := [.int (-1), .int 8]) (rest := []) ⟨hx, hb, hml, hown, hts⟩ (c_X1_fact l dC dI h0 l_facts l_values l_lying 8 ) (cwV 2 hts gX1_lower_X1_fact rfl rfl rfl (by decide +kernel) ⟨Nat.le_of_ble_eq_true rfl, Nat.le_of_ble_eq_true rfl⟩) ⟨fb_R, va_recv hK hP (ci := 1) (q0 := 0) rfl rfl, fun U hU hW => ⟨rfl, xR.at (hP.sub (ws' := [(h0, .inr (1, [.ref l_facts, .int 0, .ref l_values, .ref l_lying, .int 0]))]) [0] rfl) (hK.sub (tys' := []) [] rfl) hU hW⟩⟩ rfl rfl hl.1 rfl (lv_room (Nat.le_of_ble_eq_true rfl)) dX1_lower_12 ⟨Nat.le_of_ble_eq_true rfl, Nat.le_of_ble_eq_true rfl⟩) hS (fun q _ h => h.elim) (fun q h => h.elim) (fun r_1 u t H locs ht hvm hw hB hz1 hk1 hS => ?_)
    have hw_2 := hw
    have hP := xR.keep hP hk1
    subst hw_2
    refine lv_istore_n (lv' := [(3, .int (-1)), (0, .ref h0), (1, .int (-1)), (2, .int x2)]) hx hb dX1_lower_15 rfl hl (by decide) rfl (fun ls hl => ?_)
    refine lv_iconst (v := 0) hx hb dX1_lower_16 (by decide) ?_
    refine lv_istore (lv' := [(4, .int 0), (3, .int (-1)), (0, .ref h0), (1, .int (-1)), (2, .int x2)]) hx hb dX1_lower_17 hl (by decide) rfl (fun ls hl => ?_)
    refine lv_iload hx hb dX1_lower_19 (lv_at hl 0 rfl) ?_
    refine lv_iload_n hx hb dX1_lower_21 rfl (lv_at hl 4 rfl) ?_
    refine lv_icmp_ge (tgt := 54) hx hb dX1_lower_22 (by decide) (fun c_22 => ?_) (fun c_22 => ?_)
    · refine lv_iload_n hx hb dX1_lower_54 rfl (lv_at hl 1 rfl) ?_
      refine lv_if_lt (tgt := 77) hx hb dX1_lower_55 (by decide) (fun c_55 => ?_) (fun c_55 => absurd c_55 (by decide))
      refine lv_iconst (v := (-1)) hx hb dX1_lower_77 (by decide) ?_
      exact W.iret (v := (-1)) hx hb hr (fun t ht hW => ⟨⟨(-1), (), rfl, rfl, trivial⟩, hS.F ht⟩) hS.2.2 dX1_lower_78
    · refine lv_iload_n hx hb dX1_lower_25 rfl (lv_at hl 1 rfl) ?_
      refine lv_if_lt (tgt := 54) hx hb dX1_lower_26 (by decide) (fun c_26 => ?_) (fun c_26 => absurd c_26 (by decide))
      refine lv_iload_n hx hb dX1_lower_54 rfl (lv_at hl 1 rfl) ?_
      refine lv_if_lt (tgt := 77) hx hb dX1_lower_55 (by decide) (fun c_55 => ?_) (fun c_55 => absurd c_55 (by decide))
      refine lv_iconst (v := (-1)) hx hb dX1_lower_77 (by decide) ?_
      exact W.iret (v := (-1)) hx hb hr (fun t ht hW => ⟨⟨(-1), (), rfl, rfl, trivial⟩, hS.F ht⟩) hS.2.2 dX1_lower_78
  · refine lv_iconst (v := (-1)) hx hb dX1_lower_4 (by decide) ?_
    refine lv_goto (tgt := 15) hx hb dX1_lower_5 (by decide) ?_
    refine lv_istore_n (lv' := [(3, .int (-1)), (0, .ref h0), (1, .int (-1)), (2, .int x2)]) hx hb dX1_lower_15 rfl hl (by decide) rfl (fun ls hl => ?_)
    refine lv_iconst (v := 0) hx hb dX1_lower_16 (by decide) ?_
    refine lv_istore (lv' := [(4, .int 0), (3, .int (-1)), (0, .ref h0), (1, .int (-1)), (2, .int x2)]) hx hb dX1_lower_17 hl (by decide) rfl (fun ls hl => ?_)
    refine lv_iload hx hb dX1_lower_19 (lv_at hl 0 rfl) ?_
    refine lv_iload_n hx hb dX1_lower_21 rfl (lv_at hl 4 rfl) ?_
    refine lv_icmp_ge (tgt := 54) hx hb dX1_lower_22 (by decide) (fun c_22 => ?_) (fun c_22 => ?_)
    · refine lv_iload_n hx hb dX1_lower_54 rfl (lv_at hl 1 rfl) ?_
      refine lv_if_lt (tgt := 77) hx hb dX1_lower_55 (by decide) (fun c_55 => ?_) (fun c_55 => absurd c_55 (by decide))
      refine lv_iconst (v := (-1)) hx hb dX1_lower_77 (by decide) ?_
      exact W.iret (v := (-1)) hx hb hr (fun t ht hW => ⟨⟨(-1), (), rfl, rfl, trivial⟩, hS.F ht⟩) hS.2.2 dX1_lower_78
    · refine lv_iload_n hx hb dX1_lower_25 rfl (lv_at hl 1 rfl) ?_
      refine lv_if_lt (tgt := 54) hx hb dX1_lower_26 (by decide) (fun c_26 => ?_) (fun c_26 => absurd c_26 (by decide))
      refine lv_iload_n hx hb dX1_lower_54 rfl (lv_at hl 1 rfl) ?_
      refine lv_if_lt (tgt := 77) hx hb dX1_lower_55 (by decide) (fun c_55 => ?_) (fun c_55 => absurd c_55 (by decide))
      refine lv_iconst (v := (-1)) hx hb dX1_lower_77 (by decide) ?_
      exact W.iret (v := (-1)) hx hb hr (fun t ht hW => ⟨⟨(-1), (), rfl, rfl, trivial⟩, hS.F ht⟩) hS.2.2 dX1_lower_78

set_option maxHeartbeats 4000000 in
set_option maxRecDepth 100000 in
theorem c_X4_factOf (l : Launch) (dC : Nat → ClassId) (dI : Nat → Nat → Nat) (h0 : Nat) (m_programs : Nat) (m_names : Nat) (m_borders : Nat) (m_stack : Nat) (m_heap : Nat) (m_marks : Nat) (m_failures : Nat) (m_frames : Nat) (m_guards : Nat) (m_tally : Nat) (m_program : Nat) (l_facts : Nat) (l_values : Nat) (l_lying : Nat) (x1 : Int32) (x2 : Int32) : Met l yX4_factOf wsX4_factOf ({ frames := 1, cells := 0, slots := 0, locals := 24 }) (va_Pc [.ref h0, .int x1, .int x2] (fun U => xR (dC, dI) [(h0, .inr (4, [.ref m_programs, .ref m_names, .ref m_borders, .ref m_stack, .ref m_heap, .ref m_marks, .ref m_failures, .ref m_frames, .ref m_guards, .ref m_tally, .ref m_program, .int 0, .int 0, .int 4, .int (-1), .int (-1), .long 0])), (m_failures, .inr (1, [.ref l_facts, .int 0, .ref l_values, .ref l_lying, .int 0]))] [] U)) (va_Qi (fun (r : Int32) (_ : Unit) => r = -1) (fun (_ : Unit) _ => True) (fun _ => False)) 0 0 (fun _ => False) := by
  refine Met.ofW (cc := cX4_factOf) (maxL := 3) (ret := (some .int)) (by decide) rfl ?_
  intro p e s m args below meth c s₁ B hml hv
  obtain ⟨rfl, hP, hK⟩ := hv
  have hx := B.exec
  have hb := B.bytes
  have hr := B.returns
  have hts := atoms_spec (ws := wsX4_factOf) B.pre
  have hown : s.vm.findClass RX4 = some m.cls := findClass_of_methodNamed B.named
  have hlocks := B.notSynchronized
  have hS : va_S (fun _ => False) s.heap s.heap [] := va_S.rf
  have hl := lv_entry ([.ref h0, .int x1, .int x2]) (n := 3) (Nat.le_of_ble_eq_true rfl)
  rw [lg_entry_eq]
  generalize (lg_sl ([.ref h0, .int x1, .int x2]) ++ List.replicate (3 - (lg_sl ([.ref h0, .int x1, .int x2])).length) Slot.unset).toArray = ls at hl ⊢
  have hl : lv_has ls 3 [(0, .ref h0), (1, .int x1), (2, .int x2)] := hl
  refine lv_iload_n hx hb dX4_factOf_0 rfl (lv_at hl 2 rfl) ?_
  refine lv_bipush (v := 6) hx hb dX4_factOf_1 (by decide) ?_
  refine lv_icmp_le (tgt := 10) hx hb dX4_factOf_3 (by decide) (fun c_3 => ?_) (fun c_3 => ?_)
  · refine lv_aload_n hx hb dX4_factOf_10 rfl (lv_at hl 0 rfl) ?_
    refine va_get (D := (dC, dI)) (ci := 4) (v := .ref m_failures) (C := RX4) (T := TX4) (N := 17) hx hb hts in_X4_factOf_RX4 hown hK hP 0 rfl rfl 6 (by decide) (hts (.fieldLink RX4 29 "FourTongues$Machine" "failures" "LFourTongues$Failures;") (by decide +kernel)) (fun _ h9 => h9) rfl dX4_factOf_11 ?_
    refine lv_aload_n hx hb dX4_factOf_14 rfl (lv_at hl 0 rfl) ?_
    refine va_get (D := (dC, dI)) (ci := 4) (v := .ref m_failures) (C := RX4) (T := TX4) (N := 17) hx hb hts in_X4_factOf_RX4 hown hK hP 0 rfl rfl 6 (by decide) (hts (.fieldLink RX4 29 "FourTongues$Machine" "failures" "LFourTongues$Failures;") (by decide +kernel)) (fun _ h9 => h9) rfl dX4_factOf_15 ?_
    refine lv_aload_n hx hb dX4_factOf_18 rfl (lv_at hl 0 rfl) ?_
    refine va_get (D := (dC, dI)) (ci := 4) (v := .int (-1)) (C := RX4) (T := TX4) (N := 17) hx hb hts in_X4_factOf_RX4 hown hK hP 0 rfl rfl 15 (by decide) (hts (.fieldLink RX4 64 "FourTongues$Machine" "cameOut" "I") (by decide +kernel)) (fun _ h9 => h9) rfl dX4_factOf_19 ?_
    refine lv_iload_n hx hb dX4_factOf_22 rfl (lv_at hl 1 rfl) ?_
    refine va_calli (va_runV (As := [.int (-1), .int x1]) (rest := [.ref m_failures]) ⟨hx, hb, hml, hown, hts⟩ (c_X1_source l dC dI m_failures l_facts l_values l_lying x1 ) (cwV 2 hts gX4_factOf_X1_source rfl rfl rfl (by decide +kernel) ⟨Nat.le_of_ble_eq_true rfl, Nat.le_of_ble_eq_true rfl⟩) ⟨fb_R, va_recv hK hP (ci := 1) (q0 := 1) rfl rfl, fun U hU hW => ⟨rfl, xR.at (hP.sub (ws' := [(m_failures, .inr (1, [.ref l_facts, .int 0, .ref l_values, .ref l_lying, .int 0]))]) [1] rfl) (hK.sub (tys' := []) [] rfl) hU hW⟩⟩ rfl rfl hl.1 rfl (lv_room (Nat.le_of_ble_eq_true rfl)) dX4_factOf_23 ⟨Nat.le_of_ble_eq_true rfl, Nat.le_of_ble_eq_true rfl⟩) hS (fun q _ h => h.elim) (fun q h => h.elim) (fun r_1 u t H locs ht hvm hw hB hz1 hk1 hS => ?_)
    have hw_2 := hw
    have hP := xR.keep hP hk1
    subst hw_2
    refine lv_iload_n hx hb dX4_factOf_26 rfl (lv_at hl 2 rfl) ?_
    refine va_calli (va_runV (As := [.int (-1), .int x2]) (rest := []) ⟨hx, hb, hml, hown, hts⟩ (c_X1_fact l dC dI m_failures l_facts l_values l_lying x2 ) (cwV 2 hts gX4_factOf_X1_fact rfl rfl rfl (by decide +kernel) ⟨Nat.le_of_ble_eq_true rfl, Nat.le_of_ble_eq_true rfl⟩) ⟨fb_R, va_recv hK hP (ci := 1) (q0 := 1) rfl rfl, fun U hU hW => ⟨rfl, xR.at (hP.sub (ws' := [(m_failures, .inr (1, [.ref l_facts, .int 0, .ref l_values, .ref l_lying, .int 0]))]) [1] rfl) (hK.sub (tys' := []) [] rfl) hU hW⟩⟩ rfl rfl hl.1 rfl (lv_room (Nat.le_of_ble_eq_true rfl)) dX4_factOf_27 ⟨Nat.le_of_ble_eq_true rfl, Nat.le_of_ble_eq_true rfl⟩) hS (fun q _ h => h.elim) (fun q h => h.elim) (fun r_3 u t H locs ht hvm hw hB hz1 hk1 hS => ?_)
    have hw_4 := hw
    have hP := xR.keep hP hk1
    subst hw_4
    exact W.iret (v := (-1)) hx hb hr (fun t ht hW => ⟨⟨(-1), (), rfl, rfl, trivial⟩, hS.F ht⟩) hS.2.2 dX4_factOf_30
  · refine lv_iconst (v := (-1)) hx hb dX4_factOf_6 (by decide) ?_
    refine lv_goto (tgt := 30) hx hb dX4_factOf_7 (by decide) ?_
    exact W.iret (v := (-1)) hx hb hr (fun t ht hW => ⟨⟨(-1), (), rfl, rfl, trivial⟩, hS.F ht⟩) hS.2.2 dX4_factOf_30

set_option maxHeartbeats 4000000 in
set_option maxRecDepth 100000 in
theorem c_X11_failure (l : Launch) (dC : Nat → ClassId) (dI : Nat → Nat → Nat) (h0 : Nat) (v_tape : Nat) (v_names : Nat) (v_borders : Nat) (v_programs : Nat) (v_draft : Nat) (v_parser : Nat) (v_machine : Nat) (m_programs : Nat) (m_names : Nat) (m_borders : Nat) (m_stack : Nat) (m_heap : Nat) (m_marks : Nat) (m_failures : Nat) (m_frames : Nat) (m_guards : Nat) (m_tally : Nat) (m_program : Nat) (l_facts : Nat) (l_values : Nat) (l_lying : Nat) (x1 : Int32) (x2 : Int32) : Met l yX11_failure wsX11_failure ({ frames := 2, cells := 0, slots := 0, locals := 46 }) (va_Pc [.ref h0, .int x1, .int x2] (fun U => xR (dC, dI) [(h0, .inr (10, [.ref v_tape, .int 0, .int 0, .ref v_names, .ref v_borders, .ref v_programs, .ref v_draft, .ref v_parser, .ref v_machine])), (v_machine, .inr (4, [.ref m_programs, .ref m_names, .ref m_borders, .ref m_stack, .ref m_heap, .ref m_marks, .ref m_failures, .ref m_frames, .ref m_guards, .ref m_tally, .ref m_program, .int 0, .int 0, .int 4, .int (-1), .int (-1), .long 0])), (m_failures, .inr (1, [.ref l_facts, .int 0, .ref l_values, .ref l_lying, .int 0]))] [] U)) (va_Qi (fun (r : Int32) (_ : Unit) => r = -1) (fun (_ : Unit) _ => True) (fun _ => False)) 0 0 (fun _ => False) := by
  refine Met.ofW (cc := cX11_failure) (maxL := 3) (ret := (some .int)) (by decide) rfl ?_
  intro p e s m args below meth c s₁ B hml hv
  obtain ⟨rfl, hP, hK⟩ := hv
  have hx := B.exec
  have hb := B.bytes
  have hr := B.returns
  have hts := atoms_spec (ws := wsX11_failure) B.pre
  have hown : s.vm.findClass RX11 = some m.cls := findClass_of_methodNamed B.named
  have hlocks := B.notSynchronized
  have hS : va_S (fun _ => False) s.heap s.heap [] := va_S.rf
  have hl := lv_entry ([.ref h0, .int x1, .int x2]) (n := 3) (Nat.le_of_ble_eq_true rfl)
  rw [lg_entry_eq]
  generalize (lg_sl ([.ref h0, .int x1, .int x2]) ++ List.replicate (3 - (lg_sl ([.ref h0, .int x1, .int x2])).length) Slot.unset).toArray = ls at hl ⊢
  have hl : lv_has ls 3 [(0, .ref h0), (1, .int x1), (2, .int x2)] := hl
  refine lv_aload_n hx hb dX11_failure_0 rfl (lv_at hl 0 rfl) ?_
  refine va_get (D := (dC, dI)) (ci := 10) (v := .ref v_machine) (C := RX11) (T := TX11) (N := 9) hx hb hts in_X11_failure_RX11 hown hK hP 0 rfl rfl 8 (by decide) (hts (.fieldLink RX11 59 "FourTongues" "machine" "LFourTongues$Machine;") (by decide +kernel)) (fun _ h9 => h9) rfl dX11_failure_1 ?_
  refine lv_iload_n hx hb dX11_failure_4 rfl (lv_at hl 1 rfl) ?_
  refine lv_iload_n hx hb dX11_failure_5 rfl (lv_at hl 2 rfl) ?_
  refine va_calli (va_runV (As := [.int x1, .int x2]) (rest := []) ⟨hx, hb, hml, hown, hts⟩ (c_X4_factOf l dC dI v_machine m_programs m_names m_borders m_stack m_heap m_marks m_failures m_frames m_guards m_tally m_program l_facts l_values l_lying x1 x2 ) (cwV 2 hts gX11_failure_X4_factOf rfl rfl rfl (by decide +kernel) ⟨Nat.le_of_ble_eq_true rfl, Nat.le_of_ble_eq_true rfl⟩) ⟨fb_R, va_recv hK hP (ci := 4) (q0 := 1) rfl rfl, fun U hU hW => ⟨rfl, xR.at (hP.sub (ws' := [(v_machine, .inr (4, [.ref m_programs, .ref m_names, .ref m_borders, .ref m_stack, .ref m_heap, .ref m_marks, .ref m_failures, .ref m_frames, .ref m_guards, .ref m_tally, .ref m_program, .int 0, .int 0, .int 4, .int (-1), .int (-1), .long 0])), (m_failures, .inr (1, [.ref l_facts, .int 0, .ref l_values, .ref l_lying, .int 0]))]) [1, 2] rfl) (hK.sub (tys' := []) [] rfl) hU hW⟩⟩ rfl rfl hl.1 rfl (lv_room (Nat.le_of_ble_eq_true rfl)) dX11_failure_6 ⟨Nat.le_of_ble_eq_true rfl, Nat.le_of_ble_eq_true rfl⟩) hS (fun q _ h => h.elim) (fun q h => h.elim) (fun r_1 u t H locs ht hvm hw hB hz1 hk1 hS => ?_)
  have hw_2 := hw
  have hP := xR.keep hP hk1
  subst hw_2
  exact W.iret (v := (-1)) hx hb hr (fun t ht hW => ⟨⟨(-1), (), rfl, rfl, trivial⟩, hS.F ht⟩) hS.2.2 dX11_failure_9

set_option maxHeartbeats 4000000 in
set_option maxRecDepth 100000 in
theorem c_X4_factUnder (l : Launch) (dC : Nat → ClassId) (dI : Nat → Nat → Nat) (h0 : Nat) (m_programs : Nat) (m_names : Nat) (m_borders : Nat) (m_stack : Nat) (m_heap : Nat) (m_marks : Nat) (m_failures : Nat) (m_frames : Nat) (m_guards : Nat) (m_tally : Nat) (m_program : Nat) (l_facts : Nat) (l_values : Nat) (l_lying : Nat) (x1 : Int32) (x2 : Int32) (x3 : Int32) : Met l yX4_factUnder wsX4_factUnder ({ frames := 2, cells := 0, slots := 0, locals := 46 }) (va_Pc [.ref h0, .int x1, .int x2, .int x3] (fun U => xR (dC, dI) [(h0, .inr (4, [.ref m_programs, .ref m_names, .ref m_borders, .ref m_stack, .ref m_heap, .ref m_marks, .ref m_failures, .ref m_frames, .ref m_guards, .ref m_tally, .ref m_program, .int 0, .int 0, .int 4, .int (-1), .int (-1), .long 0])), (m_failures, .inr (1, [.ref l_facts, .int 0, .ref l_values, .ref l_lying, .int 0]))] [] U)) (va_Qi (fun (r : Int32) (_ : Unit) => r = -1) (fun (_ : Unit) _ => True) (fun _ => False)) 0 0 (fun _ => False) := by
  refine Met.ofW (cc := cX4_factUnder) (maxL := 5) (ret := (some .int)) (by decide) rfl ?_
  intro p e s m args below meth c s₁ B hml hv
  obtain ⟨rfl, hP, hK⟩ := hv
  have hx := B.exec
  have hb := B.bytes
  have hr := B.returns
  have hts := atoms_spec (ws := wsX4_factUnder) B.pre
  have hown : s.vm.findClass RX4 = some m.cls := findClass_of_methodNamed B.named
  have hlocks := B.notSynchronized
  have hS : va_S (fun _ => False) s.heap s.heap [] := va_S.rf
  have hl := lv_entry ([.ref h0, .int x1, .int x2, .int x3]) (n := 5) (Nat.le_of_ble_eq_true rfl)
  rw [lg_entry_eq]
  generalize (lg_sl ([.ref h0, .int x1, .int x2, .int x3]) ++ List.replicate (5 - (lg_sl ([.ref h0, .int x1, .int x2, .int x3])).length) Slot.unset).toArray = ls at hl ⊢
  have hl : lv_has ls 5 [(0, .ref h0), (1, .int x1), (2, .int x2), (3, .int x3)] := hl
  refine lv_aload_n hx hb dX4_factUnder_0 rfl (lv_at hl 0 rfl) ?_
  refine va_get (D := (dC, dI)) (ci := 4) (v := .ref m_failures) (C := RX4) (T := TX4) (N := 17) hx hb hts in_X4_factUnder_RX4 hown hK hP 0 rfl rfl 6 (by decide) (hts (.fieldLink RX4 29 "FourTongues$Machine" "failures" "LFourTongues$Failures;") (by decide +kernel)) (fun _ h9 => h9) rfl dX4_factUnder_1 ?_
  refine lv_aload_n hx hb dX4_factUnder_4 rfl (lv_at hl 0 rfl) ?_
  refine va_get (D := (dC, dI)) (ci := 4) (v := .ref m_failures) (C := RX4) (T := TX4) (N := 17) hx hb hts in_X4_factUnder_RX4 hown hK hP 0 rfl rfl 6 (by decide) (hts (.fieldLink RX4 29 "FourTongues$Machine" "failures" "LFourTongues$Failures;") (by decide +kernel)) (fun _ h9 => h9) rfl dX4_factUnder_5 ?_
  refine lv_aload_n hx hb dX4_factUnder_8 rfl (lv_at hl 0 rfl) ?_
  refine va_get (D := (dC, dI)) (ci := 4) (v := .int (-1)) (C := RX4) (T := TX4) (N := 17) hx hb hts in_X4_factUnder_RX4 hown hK hP 0 rfl rfl 15 (by decide) (hts (.fieldLink RX4 64 "FourTongues$Machine" "cameOut" "I") (by decide +kernel)) (fun _ h9 => h9) rfl dX4_factUnder_9 ?_
  refine lv_iload_n hx hb dX4_factUnder_12 rfl (lv_at hl 1 rfl) ?_
  refine va_calli (va_runV (As := [.int (-1), .int x1]) (rest := [.ref m_failures]) ⟨hx, hb, hml, hown, hts⟩ (c_X1_source l dC dI m_failures l_facts l_values l_lying x1 ) (cwV 2 hts gX4_factUnder_X1_source rfl rfl rfl (by decide +kernel) ⟨Nat.le_of_ble_eq_true rfl, Nat.le_of_ble_eq_true rfl⟩) ⟨fb_R, va_recv hK hP (ci := 1) (q0 := 1) rfl rfl, fun U hU hW => ⟨rfl, xR.at (hP.sub (ws' := [(m_failures, .inr (1, [.ref l_facts, .int 0, .ref l_values, .ref l_lying, .int 0]))]) [1] rfl) (hK.sub (tys' := []) [] rfl) hU hW⟩⟩ rfl rfl hl.1 rfl (lv_room (Nat.le_of_ble_eq_true rfl)) dX4_factUnder_13 ⟨Nat.le_of_ble_eq_true rfl, Nat.le_of_ble_eq_true rfl⟩) hS (fun q _ h => h.elim) (fun q h => h.elim) (fun r_1 u t H locs ht hvm hw hB hz1 hk1 hS => ?_)
  have hw_2 := hw
  have hP := xR.keep hP hk1
  subst hw_2
  refine lv_iload_n hx hb dX4_factUnder_16 rfl (lv_at hl 2 rfl) ?_
  refine va_calli (va_runV (As := [.int (-1), .int x2]) (rest := []) ⟨hx, hb, hml, hown, hts⟩ (c_X1_lower l dC dI m_failures l_facts l_values l_lying x2 ) (cwV 2 hts gX4_factUnder_X1_lower rfl rfl rfl (by decide +kernel) ⟨Nat.le_of_ble_eq_true rfl, Nat.le_of_ble_eq_true rfl⟩) ⟨fb_R, va_recv hK hP (ci := 1) (q0 := 1) rfl rfl, fun U hU hW => ⟨rfl, xR.at (hP.sub (ws' := [(m_failures, .inr (1, [.ref l_facts, .int 0, .ref l_values, .ref l_lying, .int 0]))]) [1] rfl) (hK.sub (tys' := []) [] rfl) hU hW⟩⟩ rfl rfl hl.1 rfl (lv_room (Nat.le_of_ble_eq_true rfl)) dX4_factUnder_17 ⟨Nat.le_of_ble_eq_true rfl, Nat.le_of_ble_eq_true rfl⟩) hS (fun q _ h => h.elim) (fun q h => h.elim) (fun r_3 u t H locs ht hvm hw hB hz1 hk1 hS => ?_)
  have hw_4 := hw
  have hP := xR.keep hP hk1
  subst hw_4
  refine lv_istore (lv' := [(4, .int (-1)), (0, .ref h0), (1, .int x1), (2, .int x2), (3, .int x3)]) hx hb dX4_factUnder_20 hl (by decide) rfl (fun ls hl => ?_)
  refine lv_iload_n hx hb dX4_factUnder_22 rfl (lv_at hl 4 rfl) ?_
  refine lv_bipush (v := 6) hx hb dX4_factUnder_23 (by decide) ?_
  refine lv_icmp_le (tgt := 32) hx hb dX4_factUnder_25 (by decide) (fun c_25 => ?_) (fun c_25 => ?_)
  · refine lv_aload_n hx hb dX4_factUnder_32 rfl (lv_at hl 1 rfl) ?_
    refine va_get (D := (dC, dI)) (ci := 4) (v := .ref m_failures) (C := RX4) (T := TX4) (N := 17) hx hb hts in_X4_factUnder_RX4 hown hK hP 0 rfl rfl 6 (by decide) (hts (.fieldLink RX4 29 "FourTongues$Machine" "failures" "LFourTongues$Failures;") (by decide +kernel)) (fun _ h9 => h9) rfl dX4_factUnder_33 ?_
    refine lv_iload hx hb dX4_factUnder_36 (lv_at hl 0 rfl) ?_
    refine lv_iload_n hx hb dX4_factUnder_38 rfl (lv_at hl 4 rfl) ?_
    refine va_calli (va_runV (As := [.int (-1), .int x3]) (rest := []) ⟨hx, hb, hml, hown, hts⟩ (c_X1_fact l dC dI m_failures l_facts l_values l_lying x3 ) (cwV 2 hts gX4_factUnder_X1_fact rfl rfl rfl (by decide +kernel) ⟨Nat.le_of_ble_eq_true rfl, Nat.le_of_ble_eq_true rfl⟩) ⟨fb_R, va_recv hK hP (ci := 1) (q0 := 1) rfl rfl, fun U hU hW => ⟨rfl, xR.at (hP.sub (ws' := [(m_failures, .inr (1, [.ref l_facts, .int 0, .ref l_values, .ref l_lying, .int 0]))]) [1] rfl) (hK.sub (tys' := []) [] rfl) hU hW⟩⟩ rfl rfl hl.1 rfl (lv_room (Nat.le_of_ble_eq_true rfl)) dX4_factUnder_39 ⟨Nat.le_of_ble_eq_true rfl, Nat.le_of_ble_eq_true rfl⟩) hS (fun q _ h => h.elim) (fun q h => h.elim) (fun r_5 u t H locs ht hvm hw hB hz1 hk1 hS => ?_)
    have hw_6 := hw
    have hP := xR.keep hP hk1
    subst hw_6
    exact W.iret (v := (-1)) hx hb hr (fun t ht hW => ⟨⟨(-1), (), rfl, rfl, trivial⟩, hS.F ht⟩) hS.2.2 dX4_factUnder_42
  · refine lv_iconst (v := (-1)) hx hb dX4_factUnder_28 (by decide) ?_
    refine lv_goto (tgt := 42) hx hb dX4_factUnder_29 (by decide) ?_
    exact W.iret (v := (-1)) hx hb hr (fun t ht hW => ⟨⟨(-1), (), rfl, rfl, trivial⟩, hS.F ht⟩) hS.2.2 dX4_factUnder_42

set_option maxHeartbeats 4000000 in
set_option maxRecDepth 100000 in
theorem c_X11_under (l : Launch) (dC : Nat → ClassId) (dI : Nat → Nat → Nat) (h0 : Nat) (v_tape : Nat) (v_names : Nat) (v_borders : Nat) (v_programs : Nat) (v_draft : Nat) (v_parser : Nat) (v_machine : Nat) (m_programs : Nat) (m_names : Nat) (m_borders : Nat) (m_stack : Nat) (m_heap : Nat) (m_marks : Nat) (m_failures : Nat) (m_frames : Nat) (m_guards : Nat) (m_tally : Nat) (m_program : Nat) (l_facts : Nat) (l_values : Nat) (l_lying : Nat) (x1 : Int32) (x2 : Int32) (x3 : Int32) : Met l yX11_under wsX11_under ({ frames := 3, cells := 0, slots := 0, locals := 70 }) (va_Pc [.ref h0, .int x1, .int x2, .int x3] (fun U => xR (dC, dI) [(h0, .inr (10, [.ref v_tape, .int 0, .int 0, .ref v_names, .ref v_borders, .ref v_programs, .ref v_draft, .ref v_parser, .ref v_machine])), (v_machine, .inr (4, [.ref m_programs, .ref m_names, .ref m_borders, .ref m_stack, .ref m_heap, .ref m_marks, .ref m_failures, .ref m_frames, .ref m_guards, .ref m_tally, .ref m_program, .int 0, .int 0, .int 4, .int (-1), .int (-1), .long 0])), (m_failures, .inr (1, [.ref l_facts, .int 0, .ref l_values, .ref l_lying, .int 0]))] [] U)) (va_Qi (fun (r : Int32) (_ : Unit) => r = -1) (fun (_ : Unit) _ => True) (fun _ => False)) 0 0 (fun _ => False) := by
  refine Met.ofW (cc := cX11_under) (maxL := 4) (ret := (some .int)) (by decide) rfl ?_
  intro p e s m args below meth c s₁ B hml hv
  obtain ⟨rfl, hP, hK⟩ := hv
  have hx := B.exec
  have hb := B.bytes
  have hr := B.returns
  have hts := atoms_spec (ws := wsX11_under) B.pre
  have hown : s.vm.findClass RX11 = some m.cls := findClass_of_methodNamed B.named
  have hlocks := B.notSynchronized
  have hS : va_S (fun _ => False) s.heap s.heap [] := va_S.rf
  have hl := lv_entry ([.ref h0, .int x1, .int x2, .int x3]) (n := 4) (Nat.le_of_ble_eq_true rfl)
  rw [lg_entry_eq]
  generalize (lg_sl ([.ref h0, .int x1, .int x2, .int x3]) ++ List.replicate (4 - (lg_sl ([.ref h0, .int x1, .int x2, .int x3])).length) Slot.unset).toArray = ls at hl ⊢
  have hl : lv_has ls 4 [(0, .ref h0), (1, .int x1), (2, .int x2), (3, .int x3)] := hl
  refine lv_aload_n hx hb dX11_under_0 rfl (lv_at hl 0 rfl) ?_
  refine va_get (D := (dC, dI)) (ci := 10) (v := .ref v_machine) (C := RX11) (T := TX11) (N := 9) hx hb hts in_X11_under_RX11 hown hK hP 0 rfl rfl 8 (by decide) (hts (.fieldLink RX11 59 "FourTongues" "machine" "LFourTongues$Machine;") (by decide +kernel)) (fun _ h9 => h9) rfl dX11_under_1 ?_
  refine lv_iload_n hx hb dX11_under_4 rfl (lv_at hl 1 rfl) ?_
  refine lv_iload_n hx hb dX11_under_5 rfl (lv_at hl 2 rfl) ?_
  refine lv_iload_n hx hb dX11_under_6 rfl (lv_at hl 3 rfl) ?_
  refine va_calli (va_runV (As := [.int x1, .int x2, .int x3]) (rest := []) ⟨hx, hb, hml, hown, hts⟩ (c_X4_factUnder l dC dI v_machine m_programs m_names m_borders m_stack m_heap m_marks m_failures m_frames m_guards m_tally m_program l_facts l_values l_lying x1 x2 x3 ) (cwV 3 hts gX11_under_X4_factUnder rfl rfl rfl (by decide +kernel) ⟨Nat.le_of_ble_eq_true rfl, Nat.le_of_ble_eq_true rfl⟩) ⟨fb_R, va_recv hK hP (ci := 4) (q0 := 1) rfl rfl, fun U hU hW => ⟨rfl, xR.at (hP.sub (ws' := [(v_machine, .inr (4, [.ref m_programs, .ref m_names, .ref m_borders, .ref m_stack, .ref m_heap, .ref m_marks, .ref m_failures, .ref m_frames, .ref m_guards, .ref m_tally, .ref m_program, .int 0, .int 0, .int 4, .int (-1), .int (-1), .long 0])), (m_failures, .inr (1, [.ref l_facts, .int 0, .ref l_values, .ref l_lying, .int 0]))]) [1, 2] rfl) (hK.sub (tys' := []) [] rfl) hU hW⟩⟩ rfl rfl hl.1 rfl (lv_room (Nat.le_of_ble_eq_true rfl)) dX11_under_7 ⟨Nat.le_of_ble_eq_true rfl, Nat.le_of_ble_eq_true rfl⟩) hS (fun q _ h => h.elim) (fun q h => h.elim) (fun r_1 u t H locs ht hvm hw hB hz1 hk1 hS => ?_)
  have hw_2 := hw
  have hP := xR.keep hP hk1
  subst hw_2
  exact W.iret (v := (-1)) hx hb hr (fun t ht hW => ⟨⟨(-1), (), rfl, rfl, trivial⟩, hS.F ht⟩) hS.2.2 dX11_under_10
