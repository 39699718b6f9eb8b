abbrev cJxe99ae_isNaN_b9ae7 : ByteArray := prog_17_method_6_code
def yJxe99ae_isNaN_b9ae7 : MethodName := ⟨RJxe99ae, "isNaN", "(D)Z"⟩
abbrev cJxe99ae_doubleToLongBits_ccdee : ByteArray := prog_17_method_23_code
def yJxe99ae_doubleToLongBits_ccdee : MethodName := ⟨RJxe99ae, "doubleToLongBits", "(D)J"⟩
abbrev cJ0_charAt_5068e : ByteArray := prog_20_method_56_code
def yJ0_charAt_5068e : MethodName := ⟨RJ0, "charAt", "(I)C"⟩
abbrev cJ0_checkIndex_df160 : ByteArray := prog_20_method_155_code
def yJ0_checkIndex_df160 : MethodName := ⟨RJ0, "checkIndex", "(II)V"⟩
abbrev cJ1_charAt_3b067 : ByteArray := prog_21_method_2_code
def yJ1_charAt_3b067 : MethodName := ⟨RJ1, "charAt", "([BI)C"⟩
abbrev cJ3_checkIndex_8e157 : ByteArray := prog_25_method_11_code
def yJ3_checkIndex_8e157 : MethodName := ⟨RJ3, "checkIndex", "(IILjava/util/function/BiFunction;)I"⟩
theorem dJxe99ae_isNaN_b9ae7_0 : decode cJxe99ae_isNaN_b9ae7 0 = .ok (.dload_n 0, 1) := by decide +kernel
theorem dJxe99ae_isNaN_b9ae7_1 : decode cJxe99ae_isNaN_b9ae7 1 = .ok (.dload_n 0, 1) := by decide +kernel
theorem dJxe99ae_isNaN_b9ae7_2 : decode cJxe99ae_isNaN_b9ae7 2 = .ok (.dcmp .l, 1) := by decide +kernel
theorem dJxe99ae_isNaN_b9ae7_3 : decode cJxe99ae_isNaN_b9ae7 3 = .ok (.ifCond .eq 7, 3) := by decide +kernel
theorem dJxe99ae_isNaN_b9ae7_6 : decode cJxe99ae_isNaN_b9ae7 6 = .ok (.iconst 1, 1) := by decide +kernel
theorem dJxe99ae_isNaN_b9ae7_7 : decode cJxe99ae_isNaN_b9ae7 7 = .ok (.goto 4, 3) := by decide +kernel
theorem dJxe99ae_isNaN_b9ae7_10 : decode cJxe99ae_isNaN_b9ae7 10 = .ok (.iconst 0, 1) := by decide +kernel
theorem dJxe99ae_isNaN_b9ae7_11 : decode cJxe99ae_isNaN_b9ae7 11 = .ok (.ireturn, 1) := by decide +kernel
theorem dJxe99ae_doubleToLongBits_ccdee_0 : decode cJxe99ae_doubleToLongBits_ccdee 0 = .ok (.dload_n 0, 1) := by decide +kernel
theorem dJxe99ae_doubleToLongBits_ccdee_1 : decode cJxe99ae_doubleToLongBits_ccdee 1 = .ok (.invokestatic 122, 3) := by decide +kernel
theorem dJxe99ae_doubleToLongBits_ccdee_4 : decode cJxe99ae_doubleToLongBits_ccdee 4 = .ok (.ifCond .ne 8, 3) := by decide +kernel
theorem dJxe99ae_doubleToLongBits_ccdee_7 : decode cJxe99ae_doubleToLongBits_ccdee 7 = .ok (.dload_n 0, 1) := by decide +kernel
theorem dJxe99ae_doubleToLongBits_ccdee_8 : decode cJxe99ae_doubleToLongBits_ccdee 8 = .ok (.invokestatic 134, 3) := by decide +kernel
theorem dJxe99ae_doubleToLongBits_ccdee_11 : decode cJxe99ae_doubleToLongBits_ccdee 11 = .ok (.lreturn, 1) := by decide +kernel
theorem dJxe99ae_doubleToLongBits_ccdee_12 : decode cJxe99ae_doubleToLongBits_ccdee 12 = .ok (.ldc2_w 137, 3) := by decide +kernel
theorem dJxe99ae_doubleToLongBits_ccdee_15 : decode cJxe99ae_doubleToLongBits_ccdee 15 = .ok (.lreturn, 1) := by decide +kernel
theorem dJ0_charAt_5068e_0 : decode cJ0_charAt_5068e 0 = .ok (.aload_n 0, 1) := by decide +kernel
theorem dJ0_charAt_5068e_1 : decode cJ0_charAt_5068e 1 = .ok (.invokevirtual 492, 3) := by decide +kernel
theorem dJ0_charAt_5068e_4 : decode cJ0_charAt_5068e 4 = .ok (.ifCond .eq 12, 3) := by decide +kernel
theorem dJ0_charAt_5068e_7 : decode cJ0_charAt_5068e 7 = .ok (.aload_n 0, 1) := by decide +kernel
theorem dJ0_charAt_5068e_8 : decode cJ0_charAt_5068e 8 = .ok (.getfield 9, 3) := by decide +kernel
theorem dJ0_charAt_5068e_11 : decode cJ0_charAt_5068e 11 = .ok (.iload_n 1, 1) := by decide +kernel
theorem dJ0_charAt_5068e_12 : decode cJ0_charAt_5068e 12 = .ok (.invokestatic 495, 3) := by decide +kernel
theorem dJ0_charAt_5068e_15 : decode cJ0_charAt_5068e 15 = .ok (.ireturn, 1) := by decide +kernel
theorem dJ0_checkIndex_df160_0 : decode cJ0_checkIndex_df160 0 = .ok (.iload_n 0, 1) := by decide +kernel
theorem dJ0_checkIndex_df160_1 : decode cJ0_checkIndex_df160 1 = .ok (.iload_n 1, 1) := by decide +kernel
theorem dJ0_checkIndex_df160_2 : decode cJ0_checkIndex_df160 2 = .ok (.getstatic 1053, 3) := by decide +kernel
theorem dJ0_checkIndex_df160_5 : decode cJ0_checkIndex_df160 5 = .ok (.invokestatic 1059, 3) := by decide +kernel
theorem dJ0_checkIndex_df160_8 : decode cJ0_checkIndex_df160 8 = .ok (.pop, 1) := by decide +kernel
theorem dJ0_checkIndex_df160_9 : decode cJ0_checkIndex_df160 9 = .ok (.return_, 1) := by decide +kernel
theorem dJ1_charAt_3b067_0 : decode cJ1_charAt_3b067 0 = .ok (.iload_n 1, 1) := by decide +kernel
theorem dJ1_charAt_3b067_1 : decode cJ1_charAt_3b067 1 = .ok (.aload_n 0, 1) := by decide +kernel
theorem dJ1_charAt_3b067_2 : decode cJ1_charAt_3b067 2 = .ok (.arraylength, 1) := by decide +kernel
theorem dJ1_charAt_3b067_3 : decode cJ1_charAt_3b067 3 = .ok (.invokestatic 9, 3) := by decide +kernel
theorem dJ1_charAt_3b067_6 : decode cJ1_charAt_3b067 6 = .ok (.aload_n 0, 1) := by decide +kernel
theorem dJ1_charAt_3b067_7 : decode cJ1_charAt_3b067 7 = .ok (.iload_n 1, 1) := by decide +kernel
theorem dJ1_charAt_3b067_8 : decode cJ1_charAt_3b067 8 = .ok (.baload, 1) := by decide +kernel
theorem dJ1_charAt_3b067_9 : decode cJ1_charAt_3b067 9 = .ok (.sipush 255, 3) := by decide +kernel
theorem dJ1_charAt_3b067_12 : decode cJ1_charAt_3b067 12 = .ok (.iand, 1) := by decide +kernel
theorem dJ1_charAt_3b067_13 : decode cJ1_charAt_3b067 13 = .ok (.i2c, 1) := by decide +kernel
theorem dJ1_charAt_3b067_14 : decode cJ1_charAt_3b067 14 = .ok (.ireturn, 1) := by decide +kernel
theorem dJ3_checkIndex_8e157_0 : decode cJ3_checkIndex_8e157 0 = .ok (.iload_n 0, 1) := by decide +kernel
theorem dJ3_checkIndex_8e157_1 : decode cJ3_checkIndex_8e157 1 = .ok (.ifCond .lt 8, 3) := by decide +kernel
theorem dJ3_checkIndex_8e157_4 : decode cJ3_checkIndex_8e157 4 = .ok (.iload_n 0, 1) := by decide +kernel
theorem dJ3_checkIndex_8e157_5 : decode cJ3_checkIndex_8e157 5 = .ok (.iload_n 1, 1) := by decide +kernel
theorem dJ3_checkIndex_8e157_6 : decode cJ3_checkIndex_8e157 6 = .ok (.if_icmp .lt 10, 3) := by decide +kernel
theorem dJ3_checkIndex_8e157_16 : decode cJ3_checkIndex_8e157 16 = .ok (.iload_n 0, 1) := by decide +kernel
theorem dJ3_checkIndex_8e157_17 : decode cJ3_checkIndex_8e157 17 = .ok (.ireturn, 1) := by decide +kernel
section WORDS
variable {p : Program} {l : Launch} {e : Env} {R : Room} {s : State} {d0 : Drawn} {m : MethodId} {args : Array Value} {below : List Frame} {meth : Method} {c : Code} {H : Heap} {locs : List Loc} {Q : State → Prop} {cc : ByteArray} {nL pc : Nat} {own : String} {ls : Array Slot} {rest : List Value} {ω : Om} {ρ : Int → Nat} {μ : M3}
theorem xz_ldcwS {cells slots : Nat} (hexec : p.tables.exec = Jvm.exec) (hb : c.code = cc) {own tx : String} {index q : Nat} (hown : s.vm.findClass own = some m.cls) (hZ : vk_R own index tx q s) (hdg : decode cc pc = .ok (.ldc_w index, 3)) (k : W p l e R s m args below meth c H locs cells slots Q (F0 m (pc + 3) ls (.ref q :: rest))) : W p l e R s m args below meth c H locs cells slots Q (F0 m pc ls rest) := by
  intro T hT X
  obtain ⟨t, a1, b1⟩ := k T hT X
  exact ⟨t, X.ldcStringW hexec hown (text := tx) (a := q) hZ.1 hZ.2 (g := F0 m pc ls rest) rfl (by rw [hb]; exact hdg) t a1, b1⟩
theorem Gd.sw (G : Gd ω ρ μ p m c cc nL s args own d0 R H locs) : eS RX12 259 tx2 165 by2 (oS ω 2) (oS ω 3) (fun q => oB ω ≤ q) s := G.2.2.2.2.2.2.2.2.2.2
theorem xw_recv (G : Gd ω ρ μ p m c cc nL s args own d0 R H locs) : ∃ cell : Cell, H[oS ω 2]? = some cell ∧ cell.vm.isStatics = false ∧ s.vm.findClass "java/lang/String" = some cell.cls := va_Orecv G.sw.1.1 G.2.2.2.1
theorem xw_gets (G : Gd ω ρ μ p m c cc nL s args own d0 R H locs) {idx : Nat} (hlk : Cond.fieldLink own idx "java/lang/String" "COMPACT_STRINGS" "Z" ∈ TG) (hdg : decode cc pc = .ok (.getstatic idx, 3)) (kk : WT p l e R s d0 m args below meth c H locs Q (F0 m (pc + 3) ls (.int (iv 1) :: rest))) : WT p l e R s d0 m args below meth c H locs Q (F0 m pc ls rest) :=
  va_gets (s := s.setDrawn d0) G.1.1 G.1.2.1 (sE.moved (u := s) (U := s.setDrawn d0) (Vm.Alike.refl s.vm) G.sw.1).2.2.2.2.1 G.2.2.2.1 G.1.2.2.2.1 (dr_words G.1.2.2.2.2 d0 _ hlk) (fun _ h9 => h9) hdg kk
theorem xw_coder (G : Gd ω ρ μ p m c cc nL s args own d0 R H locs) {idx : Nat} (hlk : Cond.fieldLink own idx "java/lang/String" "coder" "B" ∈ TG) (hdg : decode cc pc = .ok (.getfield idx, 3)) (kk : WT p l e R s d0 m args below meth c H locs Q (F0 m (pc + 3) ls (.int (iv 0) :: rest))) : WT p l e R s d0 m args below meth c H locs Q (F0 m pc ls (.ref (oS ω 2) :: rest)) :=
  vk_getf (s := s.setDrawn d0) G.1.1 G.1.2.1 (sE.moved (u := s) (U := s.setDrawn d0) (Vm.Alike.refl s.vm) G.sw.1).2.1 G.2.2.2.1 G.1.2.2.2.1 (dr_words G.1.2.2.2.2 d0 _ hlk) (fun _ h9 => h9) hdg kk
theorem xw_value (G : Gd ω ρ μ p m c cc nL s args own d0 R H locs) {idx : Nat} (hlk : Cond.fieldLink own idx "java/lang/String" "value" "[B" ∈ TG) (hdg : decode cc pc = .ok (.getfield idx, 3)) (kk : WT p l e R s d0 m args below meth c H locs Q (F0 m (pc + 3) ls (.ref (oS ω 3) :: rest))) : WT p l e R s d0 m args below meth c H locs Q (F0 m pc ls (.ref (oS ω 2) :: rest)) :=
  vk_getf (s := s.setDrawn d0) G.1.1 G.1.2.1 (sE.moved (u := s) (U := s.setDrawn d0) (Vm.Alike.refl s.vm) G.sw.1).2.2.1 G.2.2.2.1 G.1.2.2.2.1 (dr_words G.1.2.2.2.2 d0 _ hlk) (fun _ h9 => h9) hdg kk
theorem xw_len (G : Gd ω ρ μ p m c cc nL s args own d0 R H locs) (hdg : decode cc pc = .ok (.arraylength, 1)) (kk : WT p l e R s d0 m args below meth c H locs Q (F0 m (pc + 1) ls (.int (iv 165) :: rest))) : WT p l e R s d0 m args below meth c H locs Q (F0 m pc ls (.ref (oS ω 3) :: rest)) :=
  va_tlen (s := s.setDrawn d0) G.1.1 G.1.2.1 (sE.moved (u := s) (U := s.setDrawn d0) (Vm.Alike.refl s.vm) G.sw.1).2.2.2.1 G.2.2.2.1 rfl hdg kk
theorem xw_bald (G : Gd ω ρ μ p m c cc nL s args own d0 R H locs) {i : Int} (hi : 0 ≤ i ∧ i < 165) (hdg : decode cc pc = .ok (.baload, 1)) (kk : WT p l e R s d0 m args below meth c H locs Q (F0 m (pc + 1) ls (.int (by2.getD (iv i).toNatClampNeg 0) :: rest))) : WT p l e R s d0 m args below meth c H locs Q (F0 m pc ls (.int (iv i) :: .ref (oS ω 3) :: rest)) :=
  va_tb (s := s.setDrawn d0) G.1.1 G.1.2.1 (sE.moved (u := s) (U := s.setDrawn d0) (Vm.Alike.refl s.vm) G.sw.1).2.2.2.1 G.2.2.2.1 (iv_in (n := 165) hi (by decide)) rfl hdg kk
theorem xw_ldc (G : Gd ω ρ μ p m c cc nL s args RX12 d0 R H locs) (hdg : decode cc pc = .ok (.ldc_w 259, 3)) (kk : WT p l e R s d0 m args below meth c H locs Q (F0 m (pc + 3) ls (.ref (oS ω 2) :: rest))) : WT p l e R s d0 m args below meth c H locs Q (F0 m pc ls rest) :=
  xz_ldcwS (s := s.setDrawn d0) G.1.1 G.1.2.1 G.1.2.2.2.1 G.sw.2 hdg kk
theorem xw_fmt (G : Gd ω ρ μ p m c cc nL s args own d0 R H locs) {idx : Nat} (hlk : Cond.fieldLink own idx "jdk/internal/util/Preconditions" "SIOOBE_FORMATTER" "Ljava/util/function/BiFunction;" ∈ TG) (hdg : decode cc pc = .ok (.getstatic idx, 3)) (k1 : WT p l e R s d0 m args below meth c H locs Q (F0 m (pc + 3) ls (.null :: rest))) (k2 : ∀ aF : Nat, WT p l e R s d0 m args below meth c H locs Q (F0 m (pc + 3) ls (.ref aF :: rest))) : WT p l e R s d0 m args below meth c H locs Q (F0 m pc ls rest) := by
  rcases (sE.moved (u := s) (U := s.setDrawn d0) (Vm.Alike.refl s.vm) G.sw.1).2.2.2.2.2 with hZ | ⟨aF, hZ⟩
  · exact va_gets (v := .null) (s := s.setDrawn d0) G.1.1 G.1.2.1 hZ G.2.2.2.1 G.1.2.2.2.1 (dr_words G.1.2.2.2.2 d0 _ hlk) (fun _ h9 => h9) hdg k1
  · exact va_gets (v := .ref aF) (s := s.setDrawn d0) G.1.1 G.1.2.1 hZ G.2.2.2.1 G.1.2.2.2.1 (dr_words G.1.2.2.2.2 d0 _ hlk) (fun _ h9 => h9) hdg (k2 aF)
theorem xd_raw (G : Gd ω ρ μ p m c cc nL s args own d0 R H locs) {idx fr lo : Nat} {b : UInt64} (h1 : Cond.methodLink own idx ⟨"java/lang/Double", "doubleToRawLongBits", "(D)J"⟩ ∈ TG) (h2 : Cond.native ⟨"java/lang/Double", "doubleToRawLongBits", "(D)J"⟩ ∈ TG) (h3 : Cond.static ⟨"java/lang/Double", "doubleToRawLongBits", "(D)J"⟩ ∈ TG) (h4 : Cond.initialized "java/lang/Double" ∈ TG) (hR : R.frames = fr ∧ R.locals = lo) (hRR : Nat.ble 1 fr = true ∧ Nat.ble 40 lo = true) (hw : (rest.map fun v => v.category).sum ≤ 8) (hls : ls.size = nL) (hdg : decode cc pc = .ok (.invokestatic idx, 3)) (kk : ∀ z : Int, jr z → jv z = b.toInt64 → WT p l e R s d0 m args below meth c H locs Q (F0 m (pc + 3) ls (.long (jv z) :: rest))) : WT p l e R s d0 m args below meth c H locs Q (F0 m pc ls (.double b :: rest)) := by
  have w := fun c0 hc => dr_words G.1.2.2.2.2 d0 c0 hc
  refine vn_d2l (s := s.setDrawn d0) G.1.1 G.1.2.1 (by rw [hls]; exact G.1.2.2.1) G.1.2.2.2.1 (w _ h1) (w _ h2) (w _ h3) (w _ h4) (by rw [hR.1]; exact Nat.le_of_ble_eq_true hRR.1) (by rw [hR.2]; have := Nat.le_of_ble_eq_true hRR.2; omega) hdg ?_
  exact xb_topl kk
theorem xd_of (G : Gd ω ρ μ p m c cc nL s args own d0 R H locs) {idx fr lo : Nat} {x : Int} (hs : sn x) (h1 : Cond.methodLink own idx ⟨"java/lang/Double", "longBitsToDouble", "(J)D"⟩ ∈ TG) (h2 : Cond.native ⟨"java/lang/Double", "longBitsToDouble", "(J)D"⟩ ∈ TG) (h3 : Cond.static ⟨"java/lang/Double", "longBitsToDouble", "(J)D"⟩ ∈ TG) (h4 : Cond.initialized "java/lang/Double" ∈ TG) (hR : R.frames = fr ∧ R.locals = lo) (hRR : Nat.ble 1 fr = true ∧ Nat.ble 40 lo = true) (hw : (rest.map fun v => v.category).sum ≤ 8) (hls : ls.size = nL) (hdg : decode cc pc = .ok (.invokestatic idx, 3)) (kk : WT p l e R s d0 m args below meth c H locs Q (F0 m (pc + 3) ls (.double (jv x).toUInt64 :: rest))) : WT p l e R s d0 m args below meth c H locs Q (F0 m pc ls (.long (jv x) :: rest)) := by
  have w := fun c0 hc => dr_words G.1.2.2.2.2 d0 c0 hc
  exact vn_l2d (s := s.setDrawn d0) G.1.1 G.1.2.1 (by rw [hls]; exact G.1.2.2.1) G.1.2.2.2.1 (w _ h1) (w _ h2) (w _ h3) (w _ h4) hs (by rw [hR.1]; exact Nat.le_of_ble_eq_true hRR.1) (by rw [hR.2]; have := Nat.le_of_ble_eq_true hRR.2; omega) hdg kk
end WORDS
def nanD (x : Int) : Prop := FP.Core.decode FP.Core.b64 (dv x).toNat = .nan
theorem dc_nan {x : Int} {y : Int} (he : iv y = Op.cmpValue (FP.dcmp (dv x) (dv x)) .l) (h0 : y = 0) : ¬ nanD x := by
  intro h
  unfold FP.dcmp FP.Core.dcmp FP.Core.cmp at he
  rw [h, h0] at he
  exact absurd he (by decide)
theorem sn_raw {z x : Int} (he : jv z = (dv x).toInt64) (hn : ¬ nanD x) : sn z := by
  unfold sn vn_snl2d
  rw [he, UInt64.toUInt64_toInt64]
  by_cases hb : dv x &&& 0x7fffffffffffffff > 0x7ff0000000000000
  · exfalso
    apply hn
    have h1 : (0x7ff0000000000000 : UInt64).toNat < (dv x &&& 0x7fffffffffffffff).toNat := UInt64.lt_iff_toNat_lt.mp hb
    rw [UInt64.toNat_and] at h1
    have h2 : (0x7ff0000000000000 : UInt64).toNat = 9218868437227405312 := rfl
    have h3 : (0x7fffffffffffffff : UInt64).toNat = 2 ^ 63 - 1 := rfl
    rw [h2, h3, Nat.and_two_pow_sub_one_eq_mod] at h1
    unfold nanD FP.Core.decode
    have e1 : FP.Core.fieldE FP.Core.b64 (dv x).toNat = FP.Core.b64.exps - 1 := by
      show (dv x).toNat / 4503599627370496 % 2048 = 2047
      omega
    have e2 : ¬ FP.Core.fieldT FP.Core.b64 (dv x).toNat = 0 := by
      show ¬ (dv x).toNat % 4503599627370496 = 0
      omega
    rw [if_pos e1, if_neg e2]
  · rw [decide_eq_false hb]; rfl
def wch (i : Int) : Int := (((by2.getD i.toNat 0 &&& 255).toUInt32 % 65536).toInt32).toInt
theorem na_w (i : Int) : narrow .char (.int (iv (wch i))) = .int (iv (wch i)) := by unfold wch; rw [iv_of]; exact na_char _
def nbN : Nat → Int
  | 0 => 0
  | n + 1 => nbN n + (if wch n = 32 then 1 else 0)
theorem nb_le : ∀ i, i < 166 → nbN i ≤ 33 := by decide +kernel
theorem nb_lt : ∀ i, i < 165 → nbN i ≤ 32 := by decide +kernel
theorem wch_r : ∀ i : Nat, i < 165 → 0 ≤ wch i ∧ wch i ≤ 255 := by decide +kernel
theorem wch_is {i a b c : Int} (hi : 0 ≤ i ∧ i < 165) (ha : iv a = by2.getD (iv i).toNatClampNeg 0) (hb : iv b = iv a &&& iv 255) (hc : iv c = ((iv b).toUInt32 % 65536).toInt32) (hr : ir c) : c = wch i := by
  unfold wch
  have e : (iv i).toNatClampNeg = i.toNat := iv_clamp (by unfold ir; omega)
  rw [e] at ha
  have e2 : iv 255 = (255 : Int32) := rfl
  rw [← iv_toInt hr, hc, hb, ha, e2]
set_option maxHeartbeats 4000000 in
set_option maxRecDepth 100000 in
theorem c_J0_isLatin1_w (ω : Om) (l : Launch) (μ : M3) : CtI ω l yJ0_isLatin1_aae02 cJ0_isLatin1_aae02 1 .boolean 0 0 [.ref (oS ω 2)] μ (fun (r : Int) (μ' : M3) => (μ' = μ) ∧ (r = 1)) := by
  refine CtI.go (by decide) (Nat.le_of_ble_eq_true rfl) (fun ρ p e s m below meth c R ls G hR hret hlk hl => ?_)
  have hx := G.1.1
  have hb := G.1.2.1
  have hl : lv_has ls 1 [(0, .ref (oS ω 2))] := hl
  generalize s.drawn = d0 at G ⊢
  refine xw_gets G (wm 1 47 rfl rfl) dJ0_isLatin1_aae02_0 ?_
  refine xb_if_eq (tgt := 17) hx hb (x := 1) (by unfold ir; omega) dJ0_isLatin1_aae02_3 (by decide) (fun c_3 => absurd c_3 (by decide)) (fun c_3 => ?_)
  refine lv_aload_n hx hb dJ0_isLatin1_aae02_6 rfl (lv_at hl 0 rfl) ?_
  refine xw_coder G (wm 11 90 rfl rfl) dJ0_isLatin1_aae02_7 ?_
  refine xb_if_ne (tgt := 17) hx hb (x := 0) (by unfold ir; omega) dJ0_isLatin1_aae02_10 (by decide) (fun c_10 => absurd c_10 (by decide)) (fun c_10 => ?_)
  refine lv_iconst (v := iv 1) hx hb dJ0_isLatin1_aae02_13 rfl ?_
  refine lv_goto (tgt := 18) hx hb dJ0_isLatin1_aae02_14 (by decide) ?_
  exact xr_i G (x := 1) hret hlk (by unfold ir; omega) (zr (by omega)) dJ0_isLatin1_aae02_18 ⟨rfl, (by omega)⟩

set_option maxHeartbeats 4000000 in
set_option maxRecDepth 100000 in
theorem c_J0_coder_w (ω : Om) (l : Launch) (μ : M3) : CtI ω l yJ0_coder_7d493 cJ0_coder_7d493 1 .byte 0 0 [.ref (oS ω 2)] μ (fun (r : Int) (μ' : M3) => (μ' = μ) ∧ (r = 0)) := by
  refine CtI.go (by decide) (Nat.le_of_ble_eq_true rfl) (fun ρ p e s m below meth c R ls G hR hret hlk hl => ?_)
  have hx := G.1.1
  have hb := G.1.2.1
  have hl : lv_has ls 1 [(0, .ref (oS ω 2))] := hl
  generalize s.drawn = d0 at G ⊢
  refine xw_gets G (wm 1 47 rfl rfl) dJ0_coder_7d493_0 ?_
  refine xb_if_eq (tgt := 13) hx hb (x := 1) (by unfold ir; omega) dJ0_coder_7d493_3 (by decide) (fun c_3 => absurd c_3 (by decide)) (fun c_3 => ?_)
  refine lv_aload_n hx hb dJ0_coder_7d493_6 rfl (lv_at hl 0 rfl) ?_
  refine xw_coder G (wm 11 90 rfl rfl) dJ0_coder_7d493_7 ?_
  refine lv_goto (tgt := 14) hx hb dJ0_coder_7d493_10 (by decide) ?_
  exact xr_i G (x := 0) hret hlk (by unfold ir; omega) rfl dJ0_coder_7d493_14 ⟨rfl, (by omega)⟩

set_option maxHeartbeats 4000000 in
set_option maxRecDepth 100000 in
theorem c_J0_length_w (ω : Om) (l : Launch) (μ : M3) : CtI ω l yJ0_length_8abf5 cJ0_length_8abf5 1 .int 1 20 [.ref (oS ω 2)] μ (fun (r : Int) (μ' : M3) => (μ' = μ) ∧ (r = 165)) := by
  refine CtI.go (by decide) (Nat.le_of_ble_eq_true rfl) (fun ρ p e s m below meth c R ls G hR hret hlk hl => ?_)
  have hx := G.1.1
  have hb := G.1.2.1
  have hl : lv_has ls 1 [(0, .ref (oS ω 2))] := hl
  generalize s.drawn = d0 at G ⊢
  refine lv_aload_n hx hb dJ0_length_8abf5_0 rfl (lv_at hl 0 rfl) ?_
  refine xw_value G (wm 11 89 rfl rfl) dJ0_length_8abf5_1 ?_
  refine xw_len G dJ0_length_8abf5_4 ?_
  refine lv_aload_n hx hb dJ0_length_8abf5_5 rfl (lv_at hl 0 rfl) ?_
  refine xc_iX G (rest := [.int (iv 165)]) (As := []) (c_J0_coder_w ω l μ  ) (wm 1 43 rfl rfl) (wm 1 44 rfl rfl) (wm 1 45 rfl rfl) (xw_recv G) (wm 1 3 rfl rfl) (wm 1 46 rfl rfl) (by decide) hR (by decide) (n := 0) rfl rfl (Nat.le_of_ble_eq_true rfl) hl.1 dJ0_length_8abf5_6 (fun r_2 μ1 ρ d0 H locs hr_r_2 hp G => ?_)
  have hr_r_2 : -2147483648 ≤ r_2 ∧ r_2 ≤ 2147483647 := hr_r_2
  obtain ⟨hsm_3, hp_4⟩ := hp
  have hsm_3 := Eq.symm hsm_3
  subst hsm_3
  subst hp_4
  refine lv_ishr hx hb dJ0_length_8abf5_9 ?_
  refine xb_topi (fun y_9 hr_9 he_9 => ?_)
  have hy9 : y_9 = 165 := by have h9 : iv y_9 = iv 165 := he_9.trans (by decide); exact (iv_eq hr_9 (by unfold ir; omega)).mp h9
  subst hy9
  exact xr_i G (x := 165) hret hlk (by unfold ir; omega) rfl dJ0_length_8abf5_10 ⟨rfl, (by omega)⟩

set_option maxHeartbeats 4000000 in
set_option maxRecDepth 100000 in
theorem c_J3_check_n (ω : Om) (l : Launch) (μ : M3) (x1 : Int) (x2 : Int) (hx1 : ir x1) (hx2 : ir x2) (h1 : 0 ≤ x1) (h2 : x1 < x2) : CtI ω l yJ3_checkIndex_8e157 cJ3_checkIndex_8e157 3 .int 0 0 [.int (iv x1), .int (iv x2), .null] μ (fun (r : Int) (μ' : M3) => (μ' = μ)) := by
  refine CtI.go (by decide) (Nat.le_of_ble_eq_true rfl) (fun ρ p e s m below meth c R ls G hR hret hlk hl => ?_)
  have hx := G.1.1
  have hb := G.1.2.1
  have hl : lv_has ls 3 [(0, .int (iv x1)), (1, .int (iv x2)), (2, .null)] := hl
  generalize s.drawn = d0 at G ⊢
  have hr_x1 : -2147483648 ≤ x1 ∧ x1 ≤ 2147483647 := hx1
  have hr_x2 : -2147483648 ≤ x2 ∧ x2 ≤ 2147483647 := hx2
  refine lv_iload_n hx hb dJ3_checkIndex_8e157_0 rfl (lv_at hl 0 rfl) ?_
  refine xb_if_lt (tgt := 9) hx hb (by unfold ir; omega) dJ3_checkIndex_8e157_1 (by decide) (fun c_1 => absurd c_1 (by omega)) (fun c_1 => ?_)
  refine lv_iload_n hx hb dJ3_checkIndex_8e157_4 rfl (lv_at hl 0 rfl) ?_
  refine lv_iload_n hx hb dJ3_checkIndex_8e157_5 rfl (lv_at hl 1 rfl) ?_
  refine xb_icmp_lt (tgt := 16) hx hb (by unfold ir; omega) (by unfold ir; omega) dJ3_checkIndex_8e157_6 (by decide) (fun c_6 => ?_) (fun c_6 => absurd (by omega) c_6)
  refine lv_iload_n hx hb dJ3_checkIndex_8e157_16 rfl (lv_at hl 0 rfl) ?_
  exact xr_i G (x := x1) hret hlk (by unfold ir; omega) rfl dJ3_checkIndex_8e157_17 rfl

set_option maxHeartbeats 4000000 in
set_option maxRecDepth 100000 in
theorem c_J3_check_r (ω : Om) (l : Launch) (μ : M3) (x1 : Int) (x2 : Int) (aF : Nat) (hx1 : ir x1) (hx2 : ir x2) (h1 : 0 ≤ x1) (h2 : x1 < x2) : CtI ω l yJ3_checkIndex_8e157 cJ3_checkIndex_8e157 3 .int 0 0 [.int (iv x1), .int (iv x2), .ref aF] μ (fun (r : Int) (μ' : M3) => (μ' = μ)) := by
  refine CtI.go (by decide) (Nat.le_of_ble_eq_true rfl) (fun ρ p e s m below meth c R ls G hR hret hlk hl => ?_)
  have hx := G.1.1
  have hb := G.1.2.1
  have hl : lv_has ls 3 [(0, .int (iv x1)), (1, .int (iv x2)), (2, .ref aF)] := hl
  generalize s.drawn = d0 at G ⊢
  have hr_x1 : -2147483648 ≤ x1 ∧ x1 ≤ 2147483647 := hx1
  have hr_x2 : -2147483648 ≤ x2 ∧ x2 ≤ 2147483647 := hx2
  refine lv_iload_n hx hb dJ3_checkIndex_8e157_0 rfl (lv_at hl 0 rfl) ?_
  refine xb_if_lt (tgt := 9) hx hb (by unfold ir; omega) dJ3_checkIndex_8e157_1 (by decide) (fun c_1 => absurd c_1 (by omega)) (fun c_1 => ?_)
  refine lv_iload_n hx hb dJ3_checkIndex_8e157_4 rfl (lv_at hl 0 rfl) ?_
  refine lv_iload_n hx hb dJ3_checkIndex_8e157_5 rfl (lv_at hl 1 rfl) ?_
  refine xb_icmp_lt (tgt := 16) hx hb (by unfold ir; omega) (by unfold ir; omega) dJ3_checkIndex_8e157_6 (by decide) (fun c_6 => ?_) (fun c_6 => absurd (by omega) c_6)
  refine lv_iload_n hx hb dJ3_checkIndex_8e157_16 rfl (lv_at hl 0 rfl) ?_
  exact xr_i G (x := x1) hret hlk (by unfold ir; omega) rfl dJ3_checkIndex_8e157_17 rfl

set_option maxHeartbeats 4000000 in
set_option maxRecDepth 100000 in
theorem c_J0_checkIndex_df160 (ω : Om) (l : Launch) (μ : M3) (x1 : Int) (x2 : Int) (hx1 : ir x1) (hx2 : ir x2) (h1 : 0 ≤ x1) (h2 : x1 < x2) : CtV ω l yJ0_checkIndex_df160 cJ0_checkIndex_df160 2 1 22 [.int (iv x1), .int (iv x2)] μ (fun (μ' : M3) => (μ' = μ)) := by
  refine CtV.go (by decide) (Nat.le_of_ble_eq_true rfl) (fun ρ p e s m below meth c R ls G hR hret hlk hl => ?_)
  have hx := G.1.1
  have hb := G.1.2.1
  have hl : lv_has ls 2 [(0, .int (iv x1)), (1, .int (iv x2))] := hl
  generalize s.drawn = d0 at G ⊢
  have hr_x1 : -2147483648 ≤ x1 ∧ x1 ≤ 2147483647 := hx1
  have hr_x2 : -2147483648 ≤ x2 ∧ x2 ≤ 2147483647 := hx2
  refine lv_iload_n hx hb dJ0_checkIndex_df160_0 rfl (lv_at hl 0 rfl) ?_
  refine lv_iload_n hx hb dJ0_checkIndex_df160_1 rfl (lv_at hl 1 rfl) ?_
  refine xw_fmt G (wm 1 63 rfl rfl) dJ0_checkIndex_df160_2 ?_ (fun aF => ?_)
  · refine xc_iS G (rest := []) (As := [.int (iv x1), .int (iv x2), .null]) (c_J3_check_n ω l μ x1 x2 (by unfold ir; omega) (by unfold ir; omega) (by omega) (by omega)) (wm 1 65 rfl rfl) (wm 1 66 rfl rfl) (wm 1 5 rfl rfl) (wm 1 67 rfl rfl) (by decide) hR (by decide) (n := 3) rfl rfl (Nat.le_of_ble_eq_true rfl) hl.1 dJ0_checkIndex_df160_5 (fun r_2 μ1 ρ d0 H locs hr_r_2 hp G => ?_)
    have hr_r_2 : -2147483648 ≤ r_2 ∧ r_2 ≤ 2147483647 := hr_r_2
    have hsm_3 := hp
    have hsm_3 := Eq.symm hsm_3
    subst hsm_3
    refine lv_pop hx hb dJ0_checkIndex_df160_8 rfl ?_
    exact xr_v G hret hlk dJ0_checkIndex_df160_9 rfl
  · refine xc_iS G (rest := []) (As := [.int (iv x1), .int (iv x2), .ref aF]) (c_J3_check_r ω l μ x1 x2 aF (by unfold ir; omega) (by unfold ir; omega) (by omega) (by omega)) (wm 1 65 rfl rfl) (wm 1 66 rfl rfl) (wm 1 5 rfl rfl) (wm 1 67 rfl rfl) (by decide) hR (by decide) (n := 3) rfl rfl (Nat.le_of_ble_eq_true rfl) hl.1 dJ0_checkIndex_df160_5 (fun r_5 μ4 ρ d0 H locs hr_r_5 hp G => ?_)
    have hr_r_5 : -2147483648 ≤ r_5 ∧ r_5 ≤ 2147483647 := hr_r_5
    have hsm_6 := hp
    have hsm_6 := Eq.symm hsm_6
    subst hsm_6
    refine lv_pop hx hb dJ0_checkIndex_df160_8 rfl ?_
    exact xr_v G hret hlk dJ0_checkIndex_df160_9 rfl

set_option maxHeartbeats 4000000 in
set_option maxRecDepth 100000 in
theorem c_J1_charAt_3b067 (ω : Om) (l : Launch) (μ : M3) (x2 : Int) (hx2 : ir x2) (hi1 : 0 ≤ x2 ∧ x2 < 165) : CtI ω l yJ1_charAt_3b067 cJ1_charAt_3b067 2 .char 2 43 [.ref (oS ω 3), .int (iv x2)] μ (fun (r : Int) (μ' : M3) => (μ' = μ) ∧ (r = wch x2)) := by
  refine CtI.go (by decide) (Nat.le_of_ble_eq_true rfl) (fun ρ p e s m below meth c R ls G hR hret hlk hl => ?_)
  have hx := G.1.1
  have hb := G.1.2.1
  have hl : lv_has ls 2 [(0, .ref (oS ω 3)), (1, .int (iv x2))] := hl
  generalize s.drawn = d0 at G ⊢
  have hr_x2 : -2147483648 ≤ x2 ∧ x2 ≤ 2147483647 := hx2
  refine lv_iload_n hx hb dJ1_charAt_3b067_0 rfl (lv_at hl 1 rfl) ?_
  refine lv_aload_n hx hb dJ1_charAt_3b067_1 rfl (lv_at hl 0 rfl) ?_
  refine xw_len G dJ1_charAt_3b067_2 ?_
  refine xc_vS G (rest := []) (As := [.int (iv x2), .int (iv 165)]) (c_J0_checkIndex_df160 ω l μ x2 165 (by unfold ir; omega) (by unfold ir; omega) (by omega) (by omega)) (wm 1 60 rfl rfl) (wm 1 61 rfl rfl) (wm 1 3 rfl rfl) (wm 1 62 rfl rfl) (by decide) hR (by decide) (n := 2) rfl rfl (Nat.le_of_ble_eq_true rfl) hl.1 dJ1_charAt_3b067_3 (fun μ1 ρ d0 H locs hp G => ?_)
  have hsm_2 := hp
  have hsm_2 := Eq.symm hsm_2
  subst hsm_2
  refine lv_aload_n hx hb dJ1_charAt_3b067_6 rfl (lv_at hl 0 rfl) ?_
  refine lv_iload_n hx hb dJ1_charAt_3b067_7 rfl (lv_at hl 1 rfl) ?_
  refine xw_bald G (i := x2) (by omega) dJ1_charAt_3b067_8 ?_
  refine xb_topi (fun y_3 hr_y_3 he_y_3 => ?_)
  have hr_y_3 : -2147483648 ≤ y_3 ∧ y_3 ≤ 2147483647 := hr_y_3
  refine lv_sipush (v := iv 255) hx hb dJ1_charAt_3b067_9 rfl ?_
  refine lv_iand hx hb dJ1_charAt_3b067_12 ?_
  refine xb_topi (fun y_4 hr_y_4 he_y_4 => ?_)
  have hr_y_4 : -2147483648 ≤ y_4 ∧ y_4 ≤ 2147483647 := hr_y_4
  have hm_y_4 := and_mask y_3 (k := 255) (by omega) he_y_4 hr_y_4
  refine lv_i2c hx hb dJ1_charAt_3b067_13 rfl ?_
  refine xb_topi (fun y_5 hr_y_5 he_y_5 => ?_)
  have hr_y_5 : -2147483648 ≤ y_5 ∧ y_5 ≤ 2147483647 := hr_y_5
  exact xr_i G (x := y_5) hret hlk (by unfold ir; omega) (by rw [he_y_5]; exact na_char _) dJ1_charAt_3b067_14 ⟨rfl, (wch_is ⟨by omega, by omega⟩ he_y_3 he_y_4 he_y_5 (by unfold ir; omega))⟩

set_option maxHeartbeats 4000000 in
set_option maxRecDepth 100000 in
theorem c_J0_charAt_5068e (ω : Om) (l : Launch) (μ : M3) (x1 : Int) (hx1 : ir x1) (hi1 : 0 ≤ x1 ∧ x1 < 165) : CtI ω l yJ0_charAt_5068e cJ0_charAt_5068e 2 .char 3 64 [.ref (oS ω 2), .int (iv x1)] μ (fun (r : Int) (μ' : M3) => (μ' = μ) ∧ (r = wch x1)) := by
  refine CtI.go (by decide) (Nat.le_of_ble_eq_true rfl) (fun ρ p e s m below meth c R ls G hR hret hlk hl => ?_)
  have hx := G.1.1
  have hb := G.1.2.1
  have hl : lv_has ls 2 [(0, .ref (oS ω 2)), (1, .int (iv x1))] := hl
  generalize s.drawn = d0 at G ⊢
  have hr_x1 : -2147483648 ≤ x1 ∧ x1 ≤ 2147483647 := hx1
  refine lv_aload_n hx hb dJ0_charAt_5068e_0 rfl (lv_at hl 0 rfl) ?_
  refine xc_iX G (rest := []) (As := []) (c_J0_isLatin1_w ω l μ  ) (wm 1 53 rfl rfl) (wm 1 54 rfl rfl) (wm 1 55 rfl rfl) (xw_recv G) (wm 1 3 rfl rfl) (wm 1 56 rfl rfl) (by decide) hR (by decide) (n := 0) rfl rfl (Nat.le_of_ble_eq_true rfl) hl.1 dJ0_charAt_5068e_1 (fun r_2 μ1 ρ d0 H locs hr_r_2 hp G => ?_)
  have hr_r_2 : -2147483648 ≤ r_2 ∧ r_2 ≤ 2147483647 := hr_r_2
  obtain ⟨hsm_3, hp_4⟩ := hp
  have hsm_3 := Eq.symm hsm_3
  subst hsm_3
  subst hp_4
  refine xb_if_eq (tgt := 16) hx hb (x := 1) (by unfold ir; omega) dJ0_charAt_5068e_4 (by decide) (fun c_4 => absurd c_4 (by decide)) (fun c_4 => ?_)
  refine lv_aload_n hx hb dJ0_charAt_5068e_7 rfl (lv_at hl 0 rfl) ?_
  refine xw_value G (wm 11 89 rfl rfl) dJ0_charAt_5068e_8 ?_
  refine lv_iload_n hx hb dJ0_charAt_5068e_11 rfl (lv_at hl 1 rfl) ?_
  refine xc_iS G (rest := []) (As := [.ref (oS ω 3), .int (iv x1)]) (c_J1_charAt_3b067 ω l μ x1 (by unfold ir; omega) (by omega)) (wm 1 57 rfl rfl) (wm 1 58 rfl rfl) (wm 1 4 rfl rfl) (wm 1 59 rfl rfl) (by decide) hR (by decide) (n := 2) rfl rfl (Nat.le_of_ble_eq_true rfl) hl.1 dJ0_charAt_5068e_12 (fun r_6 μ5 ρ d0 H locs hr_r_6 hp G => ?_)
  have hr_r_6 : -2147483648 ≤ r_6 ∧ r_6 ≤ 2147483647 := hr_r_6
  obtain ⟨hsm_7, hp_8⟩ := hp
  have hsm_7 := Eq.symm hsm_7
  subst hsm_7
  exact xr_i G (x := r_6) hret hlk (by unfold ir; omega) (by rw [hp_8]; exact na_w _) dJ0_charAt_5068e_15 ⟨rfl, (by omega)⟩

set_option maxHeartbeats 4000000 in
set_option maxRecDepth 100000 in
theorem c_Jxe99ae_isNaN_b9ae7 (ω : Om) (l : Launch) (μ : M3) (x1 : Int) : CtI ω l yJxe99ae_isNaN_b9ae7 cJxe99ae_isNaN_b9ae7 2 .boolean 0 0 [.double (dv x1)] μ (fun (r : Int) (μ' : M3) => (μ' = μ) ∧ (r = 0 ∨ r = 1) ∧ (∀ _ : Unit, r = 0 → ¬ nanD x1)) := by
  refine CtI.go (by decide) (Nat.le_of_ble_eq_true rfl) (fun ρ p e s m below meth c R ls G hR hret hlk hl => ?_)
  have hx := G.1.1
  have hb := G.1.2.1
  have hl : lv_has ls 2 [(0, .double (dv x1))] := hl
  generalize s.drawn = d0 at G ⊢
  refine lv_dload_n hx hb dJxe99ae_isNaN_b9ae7_0 rfl (lv_at hl 0 rfl) ?_
  refine lv_dload_n hx hb dJxe99ae_isNaN_b9ae7_1 rfl (lv_at hl 0 rfl) ?_
  refine lv_dcmp hx hb dJxe99ae_isNaN_b9ae7_2 ?_
  refine xb_topi (fun y_1 hr_y_1 he_y_1 => ?_)
  have hr_y_1 : -2147483648 ≤ y_1 ∧ y_1 ≤ 2147483647 := hr_y_1
  refine xb_if_eq (tgt := 10) hx hb (by unfold ir; omega) dJxe99ae_isNaN_b9ae7_3 (by decide) (fun c_3 => ?_) (fun c_3 => ?_)
  · refine lv_iconst (v := iv 0) hx hb dJxe99ae_isNaN_b9ae7_10 rfl ?_
    exact xr_i G (x := 0) hret hlk (by unfold ir; omega) (zr (by omega)) dJxe99ae_isNaN_b9ae7_11 ⟨rfl, (by omega), (fun _ h9 => dc_nan he_y_1 (by omega))⟩
  · refine lv_iconst (v := iv 1) hx hb dJxe99ae_isNaN_b9ae7_6 rfl ?_
    refine lv_goto (tgt := 11) hx hb dJxe99ae_isNaN_b9ae7_7 (by decide) ?_
    exact xr_i G (x := 1) hret hlk (by unfold ir; omega) (zr (by omega)) dJxe99ae_isNaN_b9ae7_11 ⟨rfl, (by omega), (fun _ h9 => absurd h9 (by decide))⟩

set_option maxHeartbeats 4000000 in
set_option maxRecDepth 100000 in
theorem c_Jxe99ae_doubleToLongBits_ccdee (ω : Om) (l : Launch) (μ : M3) (x1 : Int) : CtL ω l yJxe99ae_doubleToLongBits_ccdee cJxe99ae_doubleToLongBits_ccdee 2 1 40 [.double (dv x1)] μ (fun (r : Int) (μ' : M3) => (μ' = μ) ∧ (∀ _ : Unit, sn r)) := by
  refine CtL.go (by decide) (Nat.le_of_ble_eq_true rfl) (fun ρ p e s m below meth c R ls G hR hret hlk hl => ?_)
  have hx := G.1.1
  have hb := G.1.2.1
  have hl : lv_has ls 2 [(0, .double (dv x1))] := hl
  generalize s.drawn = d0 at G ⊢
  refine lv_dload_n hx hb dJxe99ae_doubleToLongBits_ccdee_0 rfl (lv_at hl 0 rfl) ?_
  refine xc_iS G (rest := []) (As := [.double (dv x1)]) (c_Jxe99ae_isNaN_b9ae7 ω l μ x1 ) (wm 9 47 rfl rfl) (wm 9 48 rfl rfl) (wm 1 23 rfl rfl) (wm 9 49 rfl rfl) (by decide) hR (by decide) (n := 1) rfl rfl (Nat.le_of_ble_eq_true rfl) hl.1 dJxe99ae_doubleToLongBits_ccdee_1 (fun r_2 μ1 ρ d0 H locs hr_r_2 hp G => ?_)
  have hr_r_2 : -2147483648 ≤ r_2 ∧ r_2 ≤ 2147483647 := hr_r_2
  obtain ⟨hsm_3, hp_4, hp_5⟩ := hp
  have hsm_3 := Eq.symm hsm_3
  subst hsm_3
  refine xb_if_ne (tgt := 12) hx hb (by unfold ir; omega) dJxe99ae_doubleToLongBits_ccdee_4 (by decide) (fun c_4 => ?_) (fun c_4 => ?_)
  · refine lv_ldc2 (s := s.setDrawn d0) hx hb G.1.2.2.2.1 (dr_words G.1.2.2.2.2 d0 _ (wm 9 53 rfl rfl)) dJxe99ae_doubleToLongBits_ccdee_12 ?_
    refine xb_litl (x := 9221120237041090560) (by decide) ?_
    exact xr_l G (x := 9221120237041090560) hret hlk (by unfold jr; omega) dJxe99ae_doubleToLongBits_ccdee_15 ⟨rfl, (fun _ => (by unfold sn; decide))⟩
  · refine lv_dload_n hx hb dJxe99ae_doubleToLongBits_ccdee_7 rfl (lv_at hl 0 rfl) ?_
    refine xd_raw G (wm 9 50 rfl rfl) (wm 9 52 rfl rfl) (wm 9 51 rfl rfl) (wm 1 23 rfl rfl) hR (by decide) (by decide) hl.1 dJxe99ae_doubleToLongBits_ccdee_8 (fun z_6 hr_z_6 hz_z_6 => ?_)
    exact xr_l G (x := z_6) hret hlk hr_z_6 dJxe99ae_doubleToLongBits_ccdee_11 ⟨rfl, (fun _ => sn_raw hz_z_6 (hp_5 () (by omega)))⟩
