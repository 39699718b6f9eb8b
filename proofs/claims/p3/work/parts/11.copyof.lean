abbrev cJ7_copyOf_59c91 : ByteArray := prog_24_method_123_code
def yJ7_copyOf_59c91 : MethodName := ⟨RJ7, "copyOf", "([II)[I"⟩
abbrev cJ7_copyOf_c38d5 : ByteArray := prog_24_method_124_code
def yJ7_copyOf_c38d5 : MethodName := ⟨RJ7, "copyOf", "([JI)[J"⟩
abbrev cJ7_copyOf_65012 : ByteArray := prog_24_method_127_code
def yJ7_copyOf_65012 : MethodName := ⟨RJ7, "copyOf", "([DI)[D"⟩
theorem dJ7_copyOf_59c91_0 : decode cJ7_copyOf_59c91 0 = .ok (.iload_n 1, 1) := by decide +kernel
theorem dJ7_copyOf_59c91_1 : decode cJ7_copyOf_59c91 1 = .ok (.aload_n 0, 1) := by decide +kernel
theorem dJ7_copyOf_59c91_2 : decode cJ7_copyOf_59c91 2 = .ok (.arraylength, 1) := by decide +kernel
theorem dJ7_copyOf_59c91_3 : decode cJ7_copyOf_59c91 3 = .ok (.if_icmp .ne 11, 3) := by decide +kernel
theorem dJ7_copyOf_59c91_14 : decode cJ7_copyOf_59c91 14 = .ok (.iload_n 1, 1) := by decide +kernel
theorem dJ7_copyOf_59c91_15 : decode cJ7_copyOf_59c91 15 = .ok (.newarray .int, 2) := by decide +kernel
theorem dJ7_copyOf_59c91_17 : decode cJ7_copyOf_59c91 17 = .ok (.astore_n 2, 1) := by decide +kernel
theorem dJ7_copyOf_59c91_18 : decode cJ7_copyOf_59c91 18 = .ok (.aload_n 0, 1) := by decide +kernel
theorem dJ7_copyOf_59c91_19 : decode cJ7_copyOf_59c91 19 = .ok (.iconst 0, 1) := by decide +kernel
theorem dJ7_copyOf_59c91_20 : decode cJ7_copyOf_59c91 20 = .ok (.aload_n 2, 1) := by decide +kernel
theorem dJ7_copyOf_59c91_21 : decode cJ7_copyOf_59c91 21 = .ok (.iconst 0, 1) := by decide +kernel
theorem dJ7_copyOf_59c91_22 : decode cJ7_copyOf_59c91 22 = .ok (.aload_n 0, 1) := by decide +kernel
theorem dJ7_copyOf_59c91_23 : decode cJ7_copyOf_59c91 23 = .ok (.arraylength, 1) := by decide +kernel
theorem dJ7_copyOf_59c91_24 : decode cJ7_copyOf_59c91 24 = .ok (.iload_n 1, 1) := by decide +kernel
theorem dJ7_copyOf_59c91_25 : decode cJ7_copyOf_59c91 25 = .ok (.invokestatic 304, 3) := by decide +kernel
theorem dJ7_copyOf_59c91_28 : decode cJ7_copyOf_59c91 28 = .ok (.invokestatic 150, 3) := by decide +kernel
theorem dJ7_copyOf_59c91_31 : decode cJ7_copyOf_59c91 31 = .ok (.aload_n 2, 1) := by decide +kernel
theorem dJ7_copyOf_59c91_32 : decode cJ7_copyOf_59c91 32 = .ok (.areturn, 1) := by decide +kernel
theorem dJ7_copyOf_c38d5_0 : decode cJ7_copyOf_c38d5 0 = .ok (.iload_n 1, 1) := by decide +kernel
theorem dJ7_copyOf_c38d5_1 : decode cJ7_copyOf_c38d5 1 = .ok (.aload_n 0, 1) := by decide +kernel
theorem dJ7_copyOf_c38d5_2 : decode cJ7_copyOf_c38d5 2 = .ok (.arraylength, 1) := by decide +kernel
theorem dJ7_copyOf_c38d5_3 : decode cJ7_copyOf_c38d5 3 = .ok (.if_icmp .ne 11, 3) := by decide +kernel
theorem dJ7_copyOf_c38d5_14 : decode cJ7_copyOf_c38d5 14 = .ok (.iload_n 1, 1) := by decide +kernel
theorem dJ7_copyOf_c38d5_15 : decode cJ7_copyOf_c38d5 15 = .ok (.newarray .long, 2) := by decide +kernel
theorem dJ7_copyOf_c38d5_17 : decode cJ7_copyOf_c38d5 17 = .ok (.astore_n 2, 1) := by decide +kernel
theorem dJ7_copyOf_c38d5_18 : decode cJ7_copyOf_c38d5 18 = .ok (.aload_n 0, 1) := by decide +kernel
theorem dJ7_copyOf_c38d5_19 : decode cJ7_copyOf_c38d5 19 = .ok (.iconst 0, 1) := by decide +kernel
theorem dJ7_copyOf_c38d5_20 : decode cJ7_copyOf_c38d5 20 = .ok (.aload_n 2, 1) := by decide +kernel
theorem dJ7_copyOf_c38d5_21 : decode cJ7_copyOf_c38d5 21 = .ok (.iconst 0, 1) := by decide +kernel
theorem dJ7_copyOf_c38d5_22 : decode cJ7_copyOf_c38d5 22 = .ok (.aload_n 0, 1) := by decide +kernel
theorem dJ7_copyOf_c38d5_23 : decode cJ7_copyOf_c38d5 23 = .ok (.arraylength, 1) := by decide +kernel
theorem dJ7_copyOf_c38d5_24 : decode cJ7_copyOf_c38d5 24 = .ok (.iload_n 1, 1) := by decide +kernel
theorem dJ7_copyOf_c38d5_25 : decode cJ7_copyOf_c38d5 25 = .ok (.invokestatic 304, 3) := by decide +kernel
theorem dJ7_copyOf_c38d5_28 : decode cJ7_copyOf_c38d5 28 = .ok (.invokestatic 150, 3) := by decide +kernel
theorem dJ7_copyOf_c38d5_31 : decode cJ7_copyOf_c38d5 31 = .ok (.aload_n 2, 1) := by decide +kernel
theorem dJ7_copyOf_c38d5_32 : decode cJ7_copyOf_c38d5 32 = .ok (.areturn, 1) := by decide +kernel
theorem dJ7_copyOf_65012_0 : decode cJ7_copyOf_65012 0 = .ok (.iload_n 1, 1) := by decide +kernel
theorem dJ7_copyOf_65012_1 : decode cJ7_copyOf_65012 1 = .ok (.aload_n 0, 1) := by decide +kernel
theorem dJ7_copyOf_65012_2 : decode cJ7_copyOf_65012 2 = .ok (.arraylength, 1) := by decide +kernel
theorem dJ7_copyOf_65012_3 : decode cJ7_copyOf_65012 3 = .ok (.if_icmp .ne 11, 3) := by decide +kernel
theorem dJ7_copyOf_65012_14 : decode cJ7_copyOf_65012 14 = .ok (.iload_n 1, 1) := by decide +kernel
theorem dJ7_copyOf_65012_15 : decode cJ7_copyOf_65012 15 = .ok (.newarray .double, 2) := by decide +kernel
theorem dJ7_copyOf_65012_17 : decode cJ7_copyOf_65012 17 = .ok (.astore_n 2, 1) := by decide +kernel
theorem dJ7_copyOf_65012_18 : decode cJ7_copyOf_65012 18 = .ok (.aload_n 0, 1) := by decide +kernel
theorem dJ7_copyOf_65012_19 : decode cJ7_copyOf_65012 19 = .ok (.iconst 0, 1) := by decide +kernel
theorem dJ7_copyOf_65012_20 : decode cJ7_copyOf_65012 20 = .ok (.aload_n 2, 1) := by decide +kernel
theorem dJ7_copyOf_65012_21 : decode cJ7_copyOf_65012 21 = .ok (.iconst 0, 1) := by decide +kernel
theorem dJ7_copyOf_65012_22 : decode cJ7_copyOf_65012 22 = .ok (.aload_n 0, 1) := by decide +kernel
theorem dJ7_copyOf_65012_23 : decode cJ7_copyOf_65012 23 = .ok (.arraylength, 1) := by decide +kernel
theorem dJ7_copyOf_65012_24 : decode cJ7_copyOf_65012 24 = .ok (.iload_n 1, 1) := by decide +kernel
theorem dJ7_copyOf_65012_25 : decode cJ7_copyOf_65012 25 = .ok (.invokestatic 304, 3) := by decide +kernel
theorem dJ7_copyOf_65012_28 : decode cJ7_copyOf_65012 28 = .ok (.invokestatic 150, 3) := by decide +kernel
theorem dJ7_copyOf_65012_31 : decode cJ7_copyOf_65012 31 = .ok (.aload_n 2, 1) := by decide +kernel
theorem dJ7_copyOf_65012_32 : decode cJ7_copyOf_65012 32 = .ok (.areturn, 1) := by decide +kernel
def wqcopyOf_int : List Cond := .code yJ7_copyOf_59c91 cJ7_copyOf_59c91 3 (some (.array .int)) :: (([.arrayClass .int, .methodLink RJ7 304 Lib.Math.min.name, .static Lib.Math.min.name, .initialized "java/lang/Math", .code Lib.Math.min.name Lib.Math.min.code 2 (some .int), .methodLink RJ7 150 arraycopyName, .native arraycopyName, .static arraycopyName, .initialized "java/lang/System"] : List Cond))
set_option maxHeartbeats 4000000 in
set_option maxRecDepth 100000 in
theorem c_copyOf_int (l : Launch) (dC : Nat → ClassId) (dI : Nat → Nat → Nat) (sz : Nat) (tz : Nat) (h0 : Nat) (c0 : ClassId) (n : Nat) (f : Nat → Int32) (xn : Nat) (h1 : n < xn) (h2 : xn ≤ 1048576) : Met l yJ7_copyOf_59c91 wqcopyOf_int ({ frames := 1, cells := 1, slots := xn, locals := 80 }) (va_Pc [.ref h0, .int (nI xn)] (fun U => xM (dC, dI) sz [(h0, .inl (c0, n, .inl f))] [(c0, .int)] U ∧ tot U.heap = tz)) (va_Qr (fun _ : Unit => True) (fun (_ : Unit) a t => ∃ (cA9 : ClassId) (g9 : Nat → Int32), (∀ k, k < n → g9 k = f k) ∧ (tot t.heap ≤ tz + xn) ∧ (t.heap.size ≤ sz + 1) ∧ xB (dC, dI) [(h0, .inl (c0, n, .inl f)), (a, .inl (cA9, xn, .inl g9))] [(c0, .int), (cA9, .int)] (va_A [(h0, .inl (c0, n, .inl f))] sz) t) (va_A [(h0, .inl (c0, n, .inl f))] sz)) 1 xn (va_A [(h0, .inl (c0, n, .inl f))] sz) := by
  refine Met.ofW (cc := cJ7_copyOf_59c91) (maxL := 3) (ret := (some (.array .int))) (by decide) rfl ?_
  intro p e s m args below meth c s₁ B hml hv
  obtain ⟨rfl, ⟨hsz, hP, hK, hD0⟩, htz⟩ := hv
  have hx := B.exec
  have hb := B.bytes
  have hr := B.returns
  have hts := atoms_spec (ws := wqcopyOf_int) B.pre
  have hown : s.vm.findClass RJ7 = some m.cls := findClass_of_methodNamed B.named
  have hlocks := B.notSynchronized
  subst hsz
  have hD := hD0.self (sz := s.heap.size)
  generalize hAe : va_A [(h0, .inl (c0, n, .inl f))] s.heap.size = A at hD  ⊢
  have hA : ∀ q : Nat, s.heap.size ≤ q → A q := fun q h => by rw [← hAe]; exact Or.inr h
  have hS : va_S A s.heap s.heap [] := va_S.rf
  have hl := lv_entry ([.ref h0, .int (nI xn)]) (n := 3) (Nat.le_of_ble_eq_true rfl)
  rw [lg_entry_eq]
  generalize (lg_sl ([.ref h0, .int (nI xn)]) ++ List.replicate (3 - (lg_sl ([.ref h0, .int (nI xn)])).length) Slot.unset).toArray = ls at hl ⊢
  have hl : lv_has ls 3 [(0, .ref h0), (1, .int (nI xn))] := hl
  have hx31 : xn < 2 ^ 31 := by omega
  have hn31 : n < 2 ^ 31 := by omega
  refine lv_iload_n hx hb dJ7_copyOf_59c91_0 rfl (lv_at hl 1 rfl) ?_
  refine lv_aload_n hx hb dJ7_copyOf_59c91_1 rfl (lv_at hl 0 rfl) ?_
  refine va_alen (v := Int32.ofNat n) hx hb hK hP 0 0 rfl rfl rfl dJ7_copyOf_59c91_2 ?_
  refine lv_icmp_ne (tgt := 14) hx hb dJ7_copyOf_59c91_3 (by decide) (fun c_3 => ?_) (fun c_3 => absurd c_3 (fun q => absurd ((nI_eq (a := xn) (b := n) hx31 hn31).mp q) (by omega)))
  refine lv_iload_n hx hb dJ7_copyOf_59c91_14 rfl (lv_at hl 1 rfl) ?_
  refine va_newa (atype := .int) (ty := .int) (a0 := (xn, .inl (fun _ => 0))) (N' := xn) hx hb (hts (.arrayClass .int) (by decide +kernel)) rfl hK hP hD hS hA (cz_int xn) (nI_pos hx31) (nI_clamp hx31) (by show xn * 4 ≤ 536870912; omega) (Nat.le_of_ble_eq_true rfl) (by show 0 + xn ≤ xn; omega) dJ7_copyOf_59c91_15 (fun q9 cA9 H hK hP hD hS => ?_)
  have hP : va_P (dC, dI) vwCl [(h0, .inl (c0, n, .inl f)), (q9, .inl (cA9, xn, .inl (fun _ => 0)))] _ := hP
  have hD : va_D A [(h0, .inl (c0, n, .inl f)), (q9, .inl (cA9, xn, .inl (fun _ => 0)))] := hD
  have hK : va_K (dC, dI) vwCl [(c0, .int), (cA9, .int)] s := hK
  refine W.widen (k := 1) (n := xn) (Nat.le_refl _) (by omega) ?_
  refine lv_astore_n (lv' := [(2, .ref q9), (0, .ref h0), (1, .int (nI xn))]) hx hb dJ7_copyOf_59c91_17 rfl hl (by decide) rfl (fun ls hl => ?_)
  refine lv_aload_n hx hb dJ7_copyOf_59c91_18 rfl (lv_at hl 1 rfl) ?_
  refine lv_iconst (v := 0) hx hb dJ7_copyOf_59c91_19 (by decide) ?_
  refine lv_aload_n hx hb dJ7_copyOf_59c91_20 rfl (lv_at hl 0 rfl) ?_
  refine lv_iconst (v := 0) hx hb dJ7_copyOf_59c91_21 (by decide) ?_
  refine lv_aload_n hx hb dJ7_copyOf_59c91_22 rfl (lv_at hl 1 rfl) ?_
  refine va_alen (v := Int32.ofNat n) hx hb hK hP 0 0 rfl rfl rfl dJ7_copyOf_59c91_23 ?_
  refine lv_iload_n hx hb dJ7_copyOf_59c91_24 rfl (lv_at hl 2 rfl) ?_
  refine va_mmin hx hb (by rw [hml]; exact hl.1.symm) hown (hts (.methodLink RJ7 304 Lib.Math.min.name) (by decide +kernel)) (hts (.static Lib.Math.min.name) (by decide +kernel)) (hts (.initialized "java/lang/Math") (by decide +kernel)) (hts (.code Lib.Math.min.name Lib.Math.min.code 2 (some .int)) (by decide +kernel)) (Nat.le_of_ble_eq_true rfl) (Nat.le_of_ble_eq_true rfl) (Nat.le_of_ble_eq_true rfl) (Nat.le_refl _) dJ7_copyOf_59c91_25 ?_
  refine my_ti (v := nI n) (if_neg (fun q => absurd ((nI_ltI (a := xn) (b := n) hx31 hn31).mp q) (by omega))) ?_
  refine va_copyi hx hb (by rw [hml]; exact hl.1.symm) hown (hts (.methodLink RJ7 150 arraycopyName) (by decide +kernel)) (hts (.native arraycopyName) (by decide +kernel)) (hts (.static arraycopyName) (by decide +kernel)) (hts (.initialized "java/lang/System") (by decide +kernel)) hK hP hD hS 0 1 0 1 rfl rfl rfl rfl rfl (by decide) (by decide) (nI_pos hn31) (by rw [nI_clamp hn31]; show 0 + n ≤ n; omega) (by rw [nI_clamp hn31]; show 0 + n ≤ xn; omega) (fun _ _ => rfl) (Nat.le_of_ble_eq_true rfl) (Nat.le_of_ble_eq_true rfl) dJ7_copyOf_59c91_28 (fun H locs hP hD hS => ?_)
  have _ := hS
  refine lv_aload_n hx hb dJ7_copyOf_59c91_31 rfl (lv_at hl 0 rfl) ?_
  refine my_heap (fun b2 b3 b5 b6 => ?_)
  have b5 : ((H.toList.drop s.heap.size).map (fun c => c.slots.size)).sum ≤ xn := b5
  have hz9 : tot H ≤ tz + xn := by rw [tot_split b2 b6, htz]; omega
  refine W.widen (k := 1) (n := xn) (Nat.le_refl _) (Nat.le_refl _) ?_
  exact W.aret hx hb hr (Or.inr ⟨_, rfl⟩) (Or.inr ⟨_, rfl⟩) (fun t ht hW => ⟨⟨(), q9, rfl, trivial, cA9, _, (fun k hk => by unfold va_cpy; rw [nI_clamp hn31, show ((0 : Int32).toNatClampNeg) = 0 from rfl, if_pos ⟨by omega, by omega⟩]; congr 1; omega), by rw [ht]; exact hz9, by rw [ht]; exact b3, by rw [ht]; exact hP, va_K.moved hW.alike hK, hD⟩, hS.F ht⟩) hS.2.2 dJ7_copyOf_59c91_32

def wqcopyOf_long : List Cond := .code yJ7_copyOf_c38d5 cJ7_copyOf_c38d5 3 (some (.array .long)) :: (([.arrayClass .long, .methodLink RJ7 304 Lib.Math.min.name, .static Lib.Math.min.name, .initialized "java/lang/Math", .code Lib.Math.min.name Lib.Math.min.code 2 (some .int), .methodLink RJ7 150 arraycopyName, .native arraycopyName, .static arraycopyName, .initialized "java/lang/System"] : List Cond))
set_option maxHeartbeats 4000000 in
set_option maxRecDepth 100000 in
theorem c_copyOf_long (l : Launch) (dC : Nat → ClassId) (dI : Nat → Nat → Nat) (sz : Nat) (tz : Nat) (h0 : Nat) (c0 : ClassId) (n : Nat) (f : Nat → Int64) (xn : Nat) (h1 : n < xn) (h2 : xn ≤ 1048576) : Met l yJ7_copyOf_c38d5 wqcopyOf_long ({ frames := 1, cells := 1, slots := xn, locals := 80 }) (va_Pc [.ref h0, .int (nI xn)] (fun U => xM (dC, dI) sz [(h0, .inl (c0, n, .inr (.inl f)))] [(c0, .long)] U ∧ tot U.heap = tz)) (va_Qr (fun _ : Unit => True) (fun (_ : Unit) a t => ∃ (cA9 : ClassId) (g9 : Nat → Int64), (∀ k, k < n → g9 k = f k) ∧ (tot t.heap ≤ tz + xn) ∧ (t.heap.size ≤ sz + 1) ∧ xB (dC, dI) [(h0, .inl (c0, n, .inr (.inl f))), (a, .inl (cA9, xn, .inr (.inl g9)))] [(c0, .long), (cA9, .long)] (va_A [(h0, .inl (c0, n, .inr (.inl f)))] sz) t) (va_A [(h0, .inl (c0, n, .inr (.inl f)))] sz)) 1 xn (va_A [(h0, .inl (c0, n, .inr (.inl f)))] sz) := by
  refine Met.ofW (cc := cJ7_copyOf_c38d5) (maxL := 3) (ret := (some (.array .long))) (by decide) rfl ?_
  intro p e s m args below meth c s₁ B hml hv
  obtain ⟨rfl, ⟨hsz, hP, hK, hD0⟩, htz⟩ := hv
  have hx := B.exec
  have hb := B.bytes
  have hr := B.returns
  have hts := atoms_spec (ws := wqcopyOf_long) B.pre
  have hown : s.vm.findClass RJ7 = some m.cls := findClass_of_methodNamed B.named
  have hlocks := B.notSynchronized
  subst hsz
  have hD := hD0.self (sz := s.heap.size)
  generalize hAe : va_A [(h0, .inl (c0, n, .inr (.inl f)))] s.heap.size = A at hD  ⊢
  have hA : ∀ q : Nat, s.heap.size ≤ q → A q := fun q h => by rw [← hAe]; exact Or.inr h
  have hS : va_S A s.heap s.heap [] := va_S.rf
  have hl := lv_entry ([.ref h0, .int (nI xn)]) (n := 3) (Nat.le_of_ble_eq_true rfl)
  rw [lg_entry_eq]
  generalize (lg_sl ([.ref h0, .int (nI xn)]) ++ List.replicate (3 - (lg_sl ([.ref h0, .int (nI xn)])).length) Slot.unset).toArray = ls at hl ⊢
  have hl : lv_has ls 3 [(0, .ref h0), (1, .int (nI xn))] := hl
  have hx31 : xn < 2 ^ 31 := by omega
  have hn31 : n < 2 ^ 31 := by omega
  refine lv_iload_n hx hb dJ7_copyOf_c38d5_0 rfl (lv_at hl 1 rfl) ?_
  refine lv_aload_n hx hb dJ7_copyOf_c38d5_1 rfl (lv_at hl 0 rfl) ?_
  refine va_alen (v := Int32.ofNat n) hx hb hK hP 0 0 rfl rfl rfl dJ7_copyOf_c38d5_2 ?_
  refine lv_icmp_ne (tgt := 14) hx hb dJ7_copyOf_c38d5_3 (by decide) (fun c_3 => ?_) (fun c_3 => absurd c_3 (fun q => absurd ((nI_eq (a := xn) (b := n) hx31 hn31).mp q) (by omega)))
  refine lv_iload_n hx hb dJ7_copyOf_c38d5_14 rfl (lv_at hl 1 rfl) ?_
  refine va_newa (atype := .long) (ty := .long) (a0 := (xn, .inr (.inl (fun _ => 0)))) (N' := xn) hx hb (hts (.arrayClass .long) (by decide +kernel)) rfl hK hP hD hS hA (cz_long xn) (nI_pos hx31) (nI_clamp hx31) (by show xn * 8 ≤ 536870912; omega) (Nat.le_of_ble_eq_true rfl) (by show 0 + xn ≤ xn; omega) dJ7_copyOf_c38d5_15 (fun q9 cA9 H hK hP hD hS => ?_)
  have hP : va_P (dC, dI) vwCl [(h0, .inl (c0, n, .inr (.inl f))), (q9, .inl (cA9, xn, .inr (.inl (fun _ => 0))))] _ := hP
  have hD : va_D A [(h0, .inl (c0, n, .inr (.inl f))), (q9, .inl (cA9, xn, .inr (.inl (fun _ => 0))))] := hD
  have hK : va_K (dC, dI) vwCl [(c0, .long), (cA9, .long)] s := hK
  refine W.widen (k := 1) (n := xn) (Nat.le_refl _) (by omega) ?_
  refine lv_astore_n (lv' := [(2, .ref q9), (0, .ref h0), (1, .int (nI xn))]) hx hb dJ7_copyOf_c38d5_17 rfl hl (by decide) rfl (fun ls hl => ?_)
  refine lv_aload_n hx hb dJ7_copyOf_c38d5_18 rfl (lv_at hl 1 rfl) ?_
  refine lv_iconst (v := 0) hx hb dJ7_copyOf_c38d5_19 (by decide) ?_
  refine lv_aload_n hx hb dJ7_copyOf_c38d5_20 rfl (lv_at hl 0 rfl) ?_
  refine lv_iconst (v := 0) hx hb dJ7_copyOf_c38d5_21 (by decide) ?_
  refine lv_aload_n hx hb dJ7_copyOf_c38d5_22 rfl (lv_at hl 1 rfl) ?_
  refine va_alen (v := Int32.ofNat n) hx hb hK hP 0 0 rfl rfl rfl dJ7_copyOf_c38d5_23 ?_
  refine lv_iload_n hx hb dJ7_copyOf_c38d5_24 rfl (lv_at hl 2 rfl) ?_
  refine va_mmin hx hb (by rw [hml]; exact hl.1.symm) hown (hts (.methodLink RJ7 304 Lib.Math.min.name) (by decide +kernel)) (hts (.static Lib.Math.min.name) (by decide +kernel)) (hts (.initialized "java/lang/Math") (by decide +kernel)) (hts (.code Lib.Math.min.name Lib.Math.min.code 2 (some .int)) (by decide +kernel)) (Nat.le_of_ble_eq_true rfl) (Nat.le_of_ble_eq_true rfl) (Nat.le_of_ble_eq_true rfl) (Nat.le_refl _) dJ7_copyOf_c38d5_25 ?_
  refine my_ti (v := nI n) (if_neg (fun q => absurd ((nI_ltI (a := xn) (b := n) hx31 hn31).mp q) (by omega))) ?_
  refine va_copyl hx hb (by rw [hml]; exact hl.1.symm) hown (hts (.methodLink RJ7 150 arraycopyName) (by decide +kernel)) (hts (.native arraycopyName) (by decide +kernel)) (hts (.static arraycopyName) (by decide +kernel)) (hts (.initialized "java/lang/System") (by decide +kernel)) hK hP hD hS 0 1 0 1 rfl rfl rfl rfl rfl (by decide) (by decide) (nI_pos hn31) (by rw [nI_clamp hn31]; show 0 + n ≤ n; omega) (by rw [nI_clamp hn31]; show 0 + n ≤ xn; omega) (fun _ _ => rfl) (Nat.le_of_ble_eq_true rfl) (Nat.le_of_ble_eq_true rfl) dJ7_copyOf_c38d5_28 (fun H locs hP hD hS => ?_)
  have _ := hS
  refine lv_aload_n hx hb dJ7_copyOf_c38d5_31 rfl (lv_at hl 0 rfl) ?_
  refine my_heap (fun b2 b3 b5 b6 => ?_)
  have b5 : ((H.toList.drop s.heap.size).map (fun c => c.slots.size)).sum ≤ xn := b5
  have hz9 : tot H ≤ tz + xn := by rw [tot_split b2 b6, htz]; omega
  refine W.widen (k := 1) (n := xn) (Nat.le_refl _) (Nat.le_refl _) ?_
  exact W.aret hx hb hr (Or.inr ⟨_, rfl⟩) (Or.inr ⟨_, rfl⟩) (fun t ht hW => ⟨⟨(), q9, rfl, trivial, cA9, _, (fun k hk => by unfold va_cpy; rw [nI_clamp hn31, show ((0 : Int32).toNatClampNeg) = 0 from rfl, if_pos ⟨by omega, by omega⟩]; congr 1; omega), by rw [ht]; exact hz9, by rw [ht]; exact b3, by rw [ht]; exact hP, va_K.moved hW.alike hK, hD⟩, hS.F ht⟩) hS.2.2 dJ7_copyOf_c38d5_32

def wqcopyOf_double : List Cond := .code yJ7_copyOf_65012 cJ7_copyOf_65012 3 (some (.array .double)) :: (([.arrayClass .double, .methodLink RJ7 304 Lib.Math.min.name, .static Lib.Math.min.name, .initialized "java/lang/Math", .code Lib.Math.min.name Lib.Math.min.code 2 (some .int), .methodLink RJ7 150 arraycopyName, .native arraycopyName, .static arraycopyName, .initialized "java/lang/System"] : List Cond))
set_option maxHeartbeats 4000000 in
set_option maxRecDepth 100000 in
theorem c_copyOf_double (l : Launch) (dC : Nat → ClassId) (dI : Nat → Nat → Nat) (sz : Nat) (tz : Nat) (h0 : Nat) (c0 : ClassId) (n : Nat) (f : Nat → UInt64) (xn : Nat) (h1 : n < xn) (h2 : xn ≤ 1048576) : Met l yJ7_copyOf_65012 wqcopyOf_double ({ frames := 1, cells := 1, slots := xn, locals := 80 }) (va_Pc [.ref h0, .int (nI xn)] (fun U => xM (dC, dI) sz [(h0, .inl (c0, n, .inr (.inr (.inr (.inl f)))))] [(c0, .double)] U ∧ tot U.heap = tz)) (va_Qr (fun _ : Unit => True) (fun (_ : Unit) a t => ∃ (cA9 : ClassId) (g9 : Nat → UInt64), (∀ k, k < n → g9 k = f k) ∧ (tot t.heap ≤ tz + xn) ∧ (t.heap.size ≤ sz + 1) ∧ xB (dC, dI) [(h0, .inl (c0, n, .inr (.inr (.inr (.inl f))))), (a, .inl (cA9, xn, .inr (.inr (.inr (.inl g9)))))] [(c0, .double), (cA9, .double)] (va_A [(h0, .inl (c0, n, .inr (.inr (.inr (.inl f)))))] sz) t) (va_A [(h0, .inl (c0, n, .inr (.inr (.inr (.inl f)))))] sz)) 1 xn (va_A [(h0, .inl (c0, n, .inr (.inr (.inr (.inl f)))))] sz) := by
  refine Met.ofW (cc := cJ7_copyOf_65012) (maxL := 3) (ret := (some (.array .double))) (by decide) rfl ?_
  intro p e s m args below meth c s₁ B hml hv
  obtain ⟨rfl, ⟨hsz, hP, hK, hD0⟩, htz⟩ := hv
  have hx := B.exec
  have hb := B.bytes
  have hr := B.returns
  have hts := atoms_spec (ws := wqcopyOf_double) B.pre
  have hown : s.vm.findClass RJ7 = some m.cls := findClass_of_methodNamed B.named
  have hlocks := B.notSynchronized
  subst hsz
  have hD := hD0.self (sz := s.heap.size)
  generalize hAe : va_A [(h0, .inl (c0, n, .inr (.inr (.inr (.inl f)))))] s.heap.size = A at hD  ⊢
  have hA : ∀ q : Nat, s.heap.size ≤ q → A q := fun q h => by rw [← hAe]; exact Or.inr h
  have hS : va_S A s.heap s.heap [] := va_S.rf
  have hl := lv_entry ([.ref h0, .int (nI xn)]) (n := 3) (Nat.le_of_ble_eq_true rfl)
  rw [lg_entry_eq]
  generalize (lg_sl ([.ref h0, .int (nI xn)]) ++ List.replicate (3 - (lg_sl ([.ref h0, .int (nI xn)])).length) Slot.unset).toArray = ls at hl ⊢
  have hl : lv_has ls 3 [(0, .ref h0), (1, .int (nI xn))] := hl
  have hx31 : xn < 2 ^ 31 := by omega
  have hn31 : n < 2 ^ 31 := by omega
  refine lv_iload_n hx hb dJ7_copyOf_65012_0 rfl (lv_at hl 1 rfl) ?_
  refine lv_aload_n hx hb dJ7_copyOf_65012_1 rfl (lv_at hl 0 rfl) ?_
  refine va_alen (v := Int32.ofNat n) hx hb hK hP 0 0 rfl rfl rfl dJ7_copyOf_65012_2 ?_
  refine lv_icmp_ne (tgt := 14) hx hb dJ7_copyOf_65012_3 (by decide) (fun c_3 => ?_) (fun c_3 => absurd c_3 (fun q => absurd ((nI_eq (a := xn) (b := n) hx31 hn31).mp q) (by omega)))
  refine lv_iload_n hx hb dJ7_copyOf_65012_14 rfl (lv_at hl 1 rfl) ?_
  refine va_newa (atype := .double) (ty := .double) (a0 := (xn, .inr (.inr (.inr (.inl (fun _ => 0)))))) (N' := xn) hx hb (hts (.arrayClass .double) (by decide +kernel)) rfl hK hP hD hS hA (cz_double xn) (nI_pos hx31) (nI_clamp hx31) (by show xn * 8 ≤ 536870912; omega) (Nat.le_of_ble_eq_true rfl) (by show 0 + xn ≤ xn; omega) dJ7_copyOf_65012_15 (fun q9 cA9 H hK hP hD hS => ?_)
  have hP : va_P (dC, dI) vwCl [(h0, .inl (c0, n, .inr (.inr (.inr (.inl f))))), (q9, .inl (cA9, xn, .inr (.inr (.inr (.inl (fun _ => 0))))))] _ := hP
  have hD : va_D A [(h0, .inl (c0, n, .inr (.inr (.inr (.inl f))))), (q9, .inl (cA9, xn, .inr (.inr (.inr (.inl (fun _ => 0))))))] := hD
  have hK : va_K (dC, dI) vwCl [(c0, .double), (cA9, .double)] s := hK
  refine W.widen (k := 1) (n := xn) (Nat.le_refl _) (by omega) ?_
  refine lv_astore_n (lv' := [(2, .ref q9), (0, .ref h0), (1, .int (nI xn))]) hx hb dJ7_copyOf_65012_17 rfl hl (by decide) rfl (fun ls hl => ?_)
  refine lv_aload_n hx hb dJ7_copyOf_65012_18 rfl (lv_at hl 1 rfl) ?_
  refine lv_iconst (v := 0) hx hb dJ7_copyOf_65012_19 (by decide) ?_
  refine lv_aload_n hx hb dJ7_copyOf_65012_20 rfl (lv_at hl 0 rfl) ?_
  refine lv_iconst (v := 0) hx hb dJ7_copyOf_65012_21 (by decide) ?_
  refine lv_aload_n hx hb dJ7_copyOf_65012_22 rfl (lv_at hl 1 rfl) ?_
  refine va_alen (v := Int32.ofNat n) hx hb hK hP 0 0 rfl rfl rfl dJ7_copyOf_65012_23 ?_
  refine lv_iload_n hx hb dJ7_copyOf_65012_24 rfl (lv_at hl 2 rfl) ?_
  refine va_mmin hx hb (by rw [hml]; exact hl.1.symm) hown (hts (.methodLink RJ7 304 Lib.Math.min.name) (by decide +kernel)) (hts (.static Lib.Math.min.name) (by decide +kernel)) (hts (.initialized "java/lang/Math") (by decide +kernel)) (hts (.code Lib.Math.min.name Lib.Math.min.code 2 (some .int)) (by decide +kernel)) (Nat.le_of_ble_eq_true rfl) (Nat.le_of_ble_eq_true rfl) (Nat.le_of_ble_eq_true rfl) (Nat.le_refl _) dJ7_copyOf_65012_25 ?_
  refine my_ti (v := nI n) (if_neg (fun q => absurd ((nI_ltI (a := xn) (b := n) hx31 hn31).mp q) (by omega))) ?_
  refine va_copyd hx hb (by rw [hml]; exact hl.1.symm) hown (hts (.methodLink RJ7 150 arraycopyName) (by decide +kernel)) (hts (.native arraycopyName) (by decide +kernel)) (hts (.static arraycopyName) (by decide +kernel)) (hts (.initialized "java/lang/System") (by decide +kernel)) hK hP hD hS 0 1 0 1 rfl rfl rfl rfl rfl (by decide) (by decide) (nI_pos hn31) (by rw [nI_clamp hn31]; show 0 + n ≤ n; omega) (by rw [nI_clamp hn31]; show 0 + n ≤ xn; omega) (fun _ _ => rfl) (Nat.le_of_ble_eq_true rfl) (Nat.le_of_ble_eq_true rfl) dJ7_copyOf_65012_28 (fun H locs hP hD hS => ?_)
  have _ := hS
  refine lv_aload_n hx hb dJ7_copyOf_65012_31 rfl (lv_at hl 0 rfl) ?_
  refine my_heap (fun b2 b3 b5 b6 => ?_)
  have b5 : ((H.toList.drop s.heap.size).map (fun c => c.slots.size)).sum ≤ xn := b5
  have hz9 : tot H ≤ tz + xn := by rw [tot_split b2 b6, htz]; omega
  refine W.widen (k := 1) (n := xn) (Nat.le_refl _) (Nat.le_refl _) ?_
  exact W.aret hx hb hr (Or.inr ⟨_, rfl⟩) (Or.inr ⟨_, rfl⟩) (fun t ht hW => ⟨⟨(), q9, rfl, trivial, cA9, _, (fun k hk => by unfold va_cpy; rw [nI_clamp hn31, show ((0 : Int32).toNatClampNeg) = 0 from rfl, if_pos ⟨by omega, by omega⟩]; congr 1; omega), by rw [ht]; exact hz9, by rw [ht]; exact b3, by rw [ht]; exact hP, va_K.moved hW.alike hK, hD⟩, hS.F ht⟩) hS.2.2 dJ7_copyOf_65012_32
