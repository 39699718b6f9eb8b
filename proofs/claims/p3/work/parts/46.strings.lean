abbrev cJ0_length_8abf5 : ByteArray := prog_20_method_54_code
def yJ0_length_8abf5 : MethodName := ⟨RJ0, "length", "()I"⟩
abbrev cJ0_indexOf_0f7a4 : ByteArray := prog_20_method_79_code
def yJ0_indexOf_0f7a4 : MethodName := ⟨RJ0, "indexOf", "(I)I"⟩
abbrev cJ0_indexOf_7cf53 : ByteArray := prog_20_method_80_code
def yJ0_indexOf_7cf53 : MethodName := ⟨RJ0, "indexOf", "(II)I"⟩
abbrev cJ0_coder_7d493 : ByteArray := prog_20_method_152_code
def yJ0_coder_7d493 : MethodName := ⟨RJ0, "coder", "()B"⟩
abbrev cJ0_isLatin1_aae02 : ByteArray := prog_20_method_154_code
def yJ0_isLatin1_aae02 : MethodName := ⟨RJ0, "isLatin1", "()Z"⟩
abbrev cJ1_canEncode_9a6ad : ByteArray := prog_21_method_4_code
def yJ1_canEncode_9a6ad : MethodName := ⟨RJ1, "canEncode", "(I)Z"⟩
abbrev cJ1_indexOf_4cfef : ByteArray := prog_21_method_22_code
def yJ1_indexOf_4cfef : MethodName := ⟨RJ1, "indexOf", "([BIII)I"⟩
abbrev cJ1_indexOfChar_4cfef : ByteArray := prog_21_method_23_code
def yJ1_indexOfChar_4cfef : MethodName := ⟨RJ1, "indexOfChar", "([BIII)I"⟩
theorem dJ0_length_8abf5_0 : decode cJ0_length_8abf5 0 = .ok (.aload_n 0, 1) := by decide +kernel
theorem dJ0_length_8abf5_1 : decode cJ0_length_8abf5 1 = .ok (.getfield 9, 3) := by decide +kernel
theorem dJ0_length_8abf5_4 : decode cJ0_length_8abf5 4 = .ok (.arraylength, 1) := by decide +kernel
theorem dJ0_length_8abf5_5 : decode cJ0_length_8abf5 5 = .ok (.aload_n 0, 1) := by decide +kernel
theorem dJ0_length_8abf5_6 : decode cJ0_length_8abf5 6 = .ok (.invokevirtual 335, 3) := by decide +kernel
theorem dJ0_length_8abf5_9 : decode cJ0_length_8abf5 9 = .ok (.ishr, 1) := by decide +kernel
theorem dJ0_length_8abf5_10 : decode cJ0_length_8abf5 10 = .ok (.ireturn, 1) := by decide +kernel
theorem dJ0_indexOf_0f7a4_0 : decode cJ0_indexOf_0f7a4 0 = .ok (.aload_n 0, 1) := by decide +kernel
theorem dJ0_indexOf_0f7a4_1 : decode cJ0_indexOf_0f7a4 1 = .ok (.iload_n 1, 1) := by decide +kernel
theorem dJ0_indexOf_0f7a4_2 : decode cJ0_indexOf_0f7a4 2 = .ok (.iconst 0, 1) := by decide +kernel
theorem dJ0_indexOf_0f7a4_3 : decode cJ0_indexOf_0f7a4 3 = .ok (.invokevirtual 633, 3) := by decide +kernel
theorem dJ0_indexOf_0f7a4_6 : decode cJ0_indexOf_0f7a4 6 = .ok (.ireturn, 1) := by decide +kernel
theorem dJ0_indexOf_7cf53_0 : decode cJ0_indexOf_7cf53 0 = .ok (.aload_n 0, 1) := by decide +kernel
theorem dJ0_indexOf_7cf53_1 : decode cJ0_indexOf_7cf53 1 = .ok (.invokevirtual 492, 3) := by decide +kernel
theorem dJ0_indexOf_7cf53_4 : decode cJ0_indexOf_7cf53 4 = .ok (.ifCond .eq 19, 3) := by decide +kernel
theorem dJ0_indexOf_7cf53_7 : decode cJ0_indexOf_7cf53 7 = .ok (.aload_n 0, 1) := by decide +kernel
theorem dJ0_indexOf_7cf53_8 : decode cJ0_indexOf_7cf53 8 = .ok (.getfield 9, 3) := by decide +kernel
theorem dJ0_indexOf_7cf53_11 : decode cJ0_indexOf_7cf53 11 = .ok (.iload_n 1, 1) := by decide +kernel
theorem dJ0_indexOf_7cf53_12 : decode cJ0_indexOf_7cf53 12 = .ok (.iload_n 2, 1) := by decide +kernel
theorem dJ0_indexOf_7cf53_13 : decode cJ0_indexOf_7cf53 13 = .ok (.aload_n 0, 1) := by decide +kernel
theorem dJ0_indexOf_7cf53_14 : decode cJ0_indexOf_7cf53 14 = .ok (.invokevirtual 505, 3) := by decide +kernel
theorem dJ0_indexOf_7cf53_17 : decode cJ0_indexOf_7cf53 17 = .ok (.invokestatic 637, 3) := by decide +kernel
theorem dJ0_indexOf_7cf53_20 : decode cJ0_indexOf_7cf53 20 = .ok (.goto 16, 3) := by decide +kernel
theorem dJ0_indexOf_7cf53_36 : decode cJ0_indexOf_7cf53 36 = .ok (.ireturn, 1) := by decide +kernel
theorem dJ0_coder_7d493_0 : decode cJ0_coder_7d493 0 = .ok (.getstatic 38, 3) := by decide +kernel
theorem dJ0_coder_7d493_3 : decode cJ0_coder_7d493 3 = .ok (.ifCond .eq 10, 3) := by decide +kernel
theorem dJ0_coder_7d493_6 : decode cJ0_coder_7d493 6 = .ok (.aload_n 0, 1) := by decide +kernel
theorem dJ0_coder_7d493_7 : decode cJ0_coder_7d493 7 = .ok (.getfield 15, 3) := by decide +kernel
theorem dJ0_coder_7d493_10 : decode cJ0_coder_7d493 10 = .ok (.goto 4, 3) := by decide +kernel
theorem dJ0_coder_7d493_14 : decode cJ0_coder_7d493 14 = .ok (.ireturn, 1) := by decide +kernel
theorem dJ0_isLatin1_aae02_0 : decode cJ0_isLatin1_aae02 0 = .ok (.getstatic 38, 3) := by decide +kernel
theorem dJ0_isLatin1_aae02_3 : decode cJ0_isLatin1_aae02 3 = .ok (.ifCond .eq 14, 3) := by decide +kernel
theorem dJ0_isLatin1_aae02_6 : decode cJ0_isLatin1_aae02 6 = .ok (.aload_n 0, 1) := by decide +kernel
theorem dJ0_isLatin1_aae02_7 : decode cJ0_isLatin1_aae02 7 = .ok (.getfield 15, 3) := by decide +kernel
theorem dJ0_isLatin1_aae02_10 : decode cJ0_isLatin1_aae02 10 = .ok (.ifCond .ne 7, 3) := by decide +kernel
theorem dJ0_isLatin1_aae02_13 : decode cJ0_isLatin1_aae02 13 = .ok (.iconst 1, 1) := by decide +kernel
theorem dJ0_isLatin1_aae02_14 : decode cJ0_isLatin1_aae02 14 = .ok (.goto 4, 3) := by decide +kernel
theorem dJ0_isLatin1_aae02_18 : decode cJ0_isLatin1_aae02 18 = .ok (.ireturn, 1) := by decide +kernel
theorem dJ1_canEncode_9a6ad_0 : decode cJ1_canEncode_9a6ad 0 = .ok (.iload_n 0, 1) := by decide +kernel
theorem dJ1_canEncode_9a6ad_1 : decode cJ1_canEncode_9a6ad 1 = .ok (.ifCond .lt 14, 3) := by decide +kernel
theorem dJ1_canEncode_9a6ad_4 : decode cJ1_canEncode_9a6ad 4 = .ok (.iload_n 0, 1) := by decide +kernel
theorem dJ1_canEncode_9a6ad_5 : decode cJ1_canEncode_9a6ad 5 = .ok (.sipush 255, 3) := by decide +kernel
theorem dJ1_canEncode_9a6ad_8 : decode cJ1_canEncode_9a6ad 8 = .ok (.if_icmp .gt 7, 3) := by decide +kernel
theorem dJ1_canEncode_9a6ad_11 : decode cJ1_canEncode_9a6ad 11 = .ok (.iconst 1, 1) := by decide +kernel
theorem dJ1_canEncode_9a6ad_12 : decode cJ1_canEncode_9a6ad 12 = .ok (.goto 4, 3) := by decide +kernel
theorem dJ1_canEncode_9a6ad_15 : decode cJ1_canEncode_9a6ad 15 = .ok (.iconst 0, 1) := by decide +kernel
theorem dJ1_canEncode_9a6ad_16 : decode cJ1_canEncode_9a6ad 16 = .ok (.ireturn, 1) := by decide +kernel
theorem dJ1_indexOf_4cfef_0 : decode cJ1_indexOf_4cfef 0 = .ok (.iload_n 1, 1) := by decide +kernel
theorem dJ1_indexOf_4cfef_1 : decode cJ1_indexOf_4cfef 1 = .ok (.invokestatic 88, 3) := by decide +kernel
theorem dJ1_indexOf_4cfef_4 : decode cJ1_indexOf_4cfef 4 = .ok (.ifCond .ne 5, 3) := by decide +kernel
theorem dJ1_indexOf_4cfef_7 : decode cJ1_indexOf_4cfef 7 = .ok (.iconst (-1), 1) := by decide +kernel
theorem dJ1_indexOf_4cfef_8 : decode cJ1_indexOf_4cfef 8 = .ok (.ireturn, 1) := by decide +kernel
theorem dJ1_indexOf_4cfef_9 : decode cJ1_indexOf_4cfef 9 = .ok (.iload_n 2, 1) := by decide +kernel
theorem dJ1_indexOf_4cfef_10 : decode cJ1_indexOf_4cfef 10 = .ok (.iconst 0, 1) := by decide +kernel
theorem dJ1_indexOf_4cfef_11 : decode cJ1_indexOf_4cfef 11 = .ok (.invokestatic 92, 3) := by decide +kernel
theorem dJ1_indexOf_4cfef_14 : decode cJ1_indexOf_4cfef 14 = .ok (.istore_n 2, 1) := by decide +kernel
theorem dJ1_indexOf_4cfef_15 : decode cJ1_indexOf_4cfef 15 = .ok (.iload_n 3, 1) := by decide +kernel
theorem dJ1_indexOf_4cfef_16 : decode cJ1_indexOf_4cfef 16 = .ok (.aload_n 0, 1) := by decide +kernel
theorem dJ1_indexOf_4cfef_17 : decode cJ1_indexOf_4cfef 17 = .ok (.arraylength, 1) := by decide +kernel
theorem dJ1_indexOf_4cfef_18 : decode cJ1_indexOf_4cfef 18 = .ok (.invokestatic 38, 3) := by decide +kernel
theorem dJ1_indexOf_4cfef_21 : decode cJ1_indexOf_4cfef 21 = .ok (.istore_n 3, 1) := by decide +kernel
theorem dJ1_indexOf_4cfef_22 : decode cJ1_indexOf_4cfef 22 = .ok (.iload_n 2, 1) := by decide +kernel
theorem dJ1_indexOf_4cfef_23 : decode cJ1_indexOf_4cfef 23 = .ok (.iload_n 3, 1) := by decide +kernel
theorem dJ1_indexOf_4cfef_24 : decode cJ1_indexOf_4cfef 24 = .ok (.if_icmp .lt 5, 3) := by decide +kernel
theorem dJ1_indexOf_4cfef_27 : decode cJ1_indexOf_4cfef 27 = .ok (.iconst (-1), 1) := by decide +kernel
theorem dJ1_indexOf_4cfef_28 : decode cJ1_indexOf_4cfef 28 = .ok (.ireturn, 1) := by decide +kernel
theorem dJ1_indexOf_4cfef_29 : decode cJ1_indexOf_4cfef 29 = .ok (.aload_n 0, 1) := by decide +kernel
theorem dJ1_indexOf_4cfef_30 : decode cJ1_indexOf_4cfef 30 = .ok (.iload_n 1, 1) := by decide +kernel
theorem dJ1_indexOf_4cfef_31 : decode cJ1_indexOf_4cfef 31 = .ok (.iload_n 2, 1) := by decide +kernel
theorem dJ1_indexOf_4cfef_32 : decode cJ1_indexOf_4cfef 32 = .ok (.iload_n 3, 1) := by decide +kernel
theorem dJ1_indexOf_4cfef_33 : decode cJ1_indexOf_4cfef 33 = .ok (.invokestatic 95, 3) := by decide +kernel
theorem dJ1_indexOf_4cfef_36 : decode cJ1_indexOf_4cfef 36 = .ok (.ireturn, 1) := by decide +kernel
theorem dJ1_indexOfChar_4cfef_0 : decode cJ1_indexOfChar_4cfef 0 = .ok (.iload_n 1, 1) := by decide +kernel
theorem dJ1_indexOfChar_4cfef_1 : decode cJ1_indexOfChar_4cfef 1 = .ok (.i2b, 1) := by decide +kernel
theorem dJ1_indexOfChar_4cfef_2 : decode cJ1_indexOfChar_4cfef 2 = .ok (.istore 4, 2) := by decide +kernel
theorem dJ1_indexOfChar_4cfef_4 : decode cJ1_indexOfChar_4cfef 4 = .ok (.iload_n 2, 1) := by decide +kernel
theorem dJ1_indexOfChar_4cfef_5 : decode cJ1_indexOfChar_4cfef 5 = .ok (.istore 5, 2) := by decide +kernel
theorem dJ1_indexOfChar_4cfef_7 : decode cJ1_indexOfChar_4cfef 7 = .ok (.iload 5, 2) := by decide +kernel
theorem dJ1_indexOfChar_4cfef_9 : decode cJ1_indexOfChar_4cfef 9 = .ok (.iload_n 3, 1) := by decide +kernel
theorem dJ1_indexOfChar_4cfef_10 : decode cJ1_indexOfChar_4cfef 10 = .ok (.if_icmp .ge 21, 3) := by decide +kernel
theorem dJ1_indexOfChar_4cfef_13 : decode cJ1_indexOfChar_4cfef 13 = .ok (.aload_n 0, 1) := by decide +kernel
theorem dJ1_indexOfChar_4cfef_14 : decode cJ1_indexOfChar_4cfef 14 = .ok (.iload 5, 2) := by decide +kernel
theorem dJ1_indexOfChar_4cfef_16 : decode cJ1_indexOfChar_4cfef 16 = .ok (.baload, 1) := by decide +kernel
theorem dJ1_indexOfChar_4cfef_17 : decode cJ1_indexOfChar_4cfef 17 = .ok (.iload 4, 2) := by decide +kernel
theorem dJ1_indexOfChar_4cfef_19 : decode cJ1_indexOfChar_4cfef 19 = .ok (.if_icmp .ne 6, 3) := by decide +kernel
theorem dJ1_indexOfChar_4cfef_22 : decode cJ1_indexOfChar_4cfef 22 = .ok (.iload 5, 2) := by decide +kernel
theorem dJ1_indexOfChar_4cfef_24 : decode cJ1_indexOfChar_4cfef 24 = .ok (.ireturn, 1) := by decide +kernel
theorem dJ1_indexOfChar_4cfef_25 : decode cJ1_indexOfChar_4cfef 25 = .ok (.iinc 5 1, 3) := by decide +kernel
theorem dJ1_indexOfChar_4cfef_28 : decode cJ1_indexOfChar_4cfef 28 = .ok (.goto (-21), 3) := by decide +kernel
theorem dJ1_indexOfChar_4cfef_31 : decode cJ1_indexOfChar_4cfef 31 = .ok (.iconst (-1), 1) := by decide +kernel
theorem dJ1_indexOfChar_4cfef_32 : decode cJ1_indexOfChar_4cfef 32 = .ok (.ireturn, 1) := by decide +kernel
section STRINGS
variable {p : Program} {l : Launch} {e : Env} {R : Room} {s : State} {d0 : Drawn} {m : MethodId} {args : Array Value} {below : List Frame} {meth : Method} {c : Code} {H : Heap} {locs : List Loc} {Q : State → Prop} {cc : ByteArray} {nL pc : Nat} {own : String} {ls : Array Slot} {rest : List Value} {ω : Om} {ρ : Int → Nat} {μ : M3}
theorem xc_iX (G : Gd ω ρ μ p m c cc nL s args own d0 R H locs) {y : MethodName} {by0 : ByteArray} {n mL idx fr lo fr0 lo0 : Nat} {rt : FieldType} {bq : Nat} {As st0 : List Value} {Post : Int → M3 → Prop} (hC : CtI ω l y by0 mL rt fr0 lo0 (.ref bq :: As) μ Post) (h1 : Cond.methodLink own idx y ∈ TG) (h2 : Cond.instanceMethod y ∈ TG) (h3 : Cond.selects y.cls y y ∈ TG) (hrec : ∃ cell : Cell, H[bq]? = some cell ∧ cell.vm.isStatics = false ∧ s.vm.findClass y.cls = some cell.cls) (h4 : Cond.initialized y.cls ∈ TG) (h5 : Cond.code y by0 mL (some rt) ∈ TG) (hd : y.cls ≠ "java/lang/invoke/MethodHandle" ∧ y.cls ≠ "java/lang/invoke/VarHandle" ∧ (parseMethodDescriptor y.desc).map (fun d => d.parameters.length) = some n) (hR : R.frames = fr ∧ R.locals = lo) (hRR : Nat.ble (fr0 + 1) fr = true ∧ Nat.ble (8 + (mL + 11) + lo0) lo = true) (hn : As.length = n) (hst : st0 = As.reverse ++ .ref bq :: rest) (hw : (rest.map fun v => v.category).sum ≤ 8) (hls : ls.size = nL) (hdg : decode cc pc = .ok (.invokevirtual idx, 3)) (kk : ∀ (r : Int) (μ1 : M3) (ρ1 : Int → Nat) (d1 : Drawn) (H1 : Heap) (locs1 : List Loc), ir r → Post r μ1 → Gd ω ρ1 μ1 p m c cc nL s args own d1 R H1 locs1 → WT p l e R s d1 m args below meth c H1 locs1 Q (F0 m (pc + 3) ls (.int (iv r) :: rest))) : WT p l e R s d0 m args below meth c H locs Q (F0 m pc ls st0) := by
  subst hst
  have hRR2 : fr0 + 1 ≤ R.frames ∧ 8 + (mL + 11) + lo0 ≤ R.locals := by rw [hR.1, hR.2]; exact ⟨Nat.le_of_ble_eq_true hRR.1, Nat.le_of_ble_eq_true hRR.2⟩
  have hpre : PreV (s.setDrawn d0) H y.cls bq (va_Pc (.ref bq :: As) (fun U => SU ω ρ μ H.size (tot H) U)) As := ⟨SU.fb, hrec, fun U hU hW => ⟨rfl, G.pre U hU hW⟩⟩
  refine va_calliD G.2.1 (va_runV_D (s := s.setDrawn d0) (As := As) (rest := rest) ⟨G.1.1, G.1.2.1, G.1.2.2.1, G.1.2.2.2.1, dr_words G.1.2.2.2.2 d0⟩ (hC ρ H.size (tot H)) (cwV n (dr_words G.1.2.2.2.2 d0) (gi_V (gi_c h5) h1 h2 h3 h4) rfl rfl rfl ⟨rfl, hd⟩ hRR2) hpre rfl hn hls rfl (lv_room hw) hdg G.rm) G.2.2.2.1 (fun q _ h => h) (fun q h => h) (fun r u t H1 locs1 ht hvm hw9 hB hz1 hk1 hS d1 hd1 => ?_)
  refine WT.use (fun b1 b2 b3 b4 => ?_)
  have h9 := kk r.toInt u.1 u.2 d1 H1 locs1 (ir_of r) hw9 (G.back hd1 hB ht hvm hS b3)
  rw [iv_of] at h9
  exact h9

theorem Gd.se (G : Gd ω ρ μ p m c cc nL s args own d0 R H locs) : eS RX10 130 tx1 19 by1 (oS ω 0) (oS ω 1) (fun q => oB ω ≤ q) s := G.2.2.2.2.2.2.2.2.2.1
theorem xs_recv (G : Gd ω ρ μ p m c cc nL s args own d0 R H locs) : ∃ cell : Cell, H[oS ω 0]? = some cell ∧ cell.vm.isStatics = false ∧ s.vm.findClass "java/lang/String" = some cell.cls := va_Orecv G.se.1.1 G.2.2.2.1
theorem xs_gets (G : Gd ω ρ μ p m c cc nL s args own d0 R H locs) {idx : Nat} (hlk : Cond.fieldLink own idx "java/lang/String" "COMPACT_STRINGS" "Z" ∈ TG) (hdg : decode cc pc = .ok (.getstatic idx, 3)) (kk : WT p l e R s d0 m args below meth c H locs Q (F0 m (pc + 3) ls (.int (iv 1) :: rest))) : WT p l e R s d0 m args below meth c H locs Q (F0 m pc ls rest) :=
  va_gets (s := s.setDrawn d0) G.1.1 G.1.2.1 (sE.moved (u := s) (U := s.setDrawn d0) (Vm.Alike.refl s.vm) G.se.1).2.2.2.2.1 G.2.2.2.1 G.1.2.2.2.1 (dr_words G.1.2.2.2.2 d0 _ hlk) (fun _ h9 => h9) hdg kk
theorem xs_coder (G : Gd ω ρ μ p m c cc nL s args own d0 R H locs) {idx : Nat} (hlk : Cond.fieldLink own idx "java/lang/String" "coder" "B" ∈ TG) (hdg : decode cc pc = .ok (.getfield idx, 3)) (kk : WT p l e R s d0 m args below meth c H locs Q (F0 m (pc + 3) ls (.int (iv 0) :: rest))) : WT p l e R s d0 m args below meth c H locs Q (F0 m pc ls (.ref (oS ω 0) :: rest)) :=
  vk_getf (s := s.setDrawn d0) G.1.1 G.1.2.1 (sE.moved (u := s) (U := s.setDrawn d0) (Vm.Alike.refl s.vm) G.se.1).2.1 G.2.2.2.1 G.1.2.2.2.1 (dr_words G.1.2.2.2.2 d0 _ hlk) (fun _ h9 => h9) hdg kk
theorem xs_value (G : Gd ω ρ μ p m c cc nL s args own d0 R H locs) {idx : Nat} (hlk : Cond.fieldLink own idx "java/lang/String" "value" "[B" ∈ TG) (hdg : decode cc pc = .ok (.getfield idx, 3)) (kk : WT p l e R s d0 m args below meth c H locs Q (F0 m (pc + 3) ls (.ref (oS ω 1) :: rest))) : WT p l e R s d0 m args below meth c H locs Q (F0 m pc ls (.ref (oS ω 0) :: rest)) :=
  vk_getf (s := s.setDrawn d0) G.1.1 G.1.2.1 (sE.moved (u := s) (U := s.setDrawn d0) (Vm.Alike.refl s.vm) G.se.1).2.2.1 G.2.2.2.1 G.1.2.2.2.1 (dr_words G.1.2.2.2.2 d0 _ hlk) (fun _ h9 => h9) hdg kk
theorem xs_len (G : Gd ω ρ μ p m c cc nL s args own d0 R H locs) (hdg : decode cc pc = .ok (.arraylength, 1)) (kk : WT p l e R s d0 m args below meth c H locs Q (F0 m (pc + 1) ls (.int (iv 19) :: rest))) : WT p l e R s d0 m args below meth c H locs Q (F0 m pc ls (.ref (oS ω 1) :: rest)) :=
  va_tlen (s := s.setDrawn d0) G.1.1 G.1.2.1 (sE.moved (u := s) (U := s.setDrawn d0) (Vm.Alike.refl s.vm) G.se.1).2.2.2.1 G.2.2.2.1 rfl hdg kk
theorem xs_bald (G : Gd ω ρ μ p m c cc nL s args own d0 R H locs) {i : Int} (hi : 0 ≤ i ∧ i < 19) (hdg : decode cc pc = .ok (.baload, 1)) (kk : ∀ x : Int32, WT p l e R s d0 m args below meth c H locs Q (F0 m (pc + 1) ls (.int x :: rest))) : WT p l e R s d0 m args below meth c H locs Q (F0 m pc ls (.int (iv i) :: .ref (oS ω 1) :: rest)) :=
  va_tb (s := s.setDrawn d0) G.1.1 G.1.2.1 (sE.moved (u := s) (U := s.setDrawn d0) (Vm.Alike.refl s.vm) G.se.1).2.2.2.1 G.2.2.2.1 (iv_in (n := 19) hi (by decide)) rfl hdg (kk _)
theorem xs_ldc (G : Gd ω ρ μ p m c cc nL s args RX10 d0 R H locs) (hdg : decode cc pc = .ok (.ldc 130, 2)) (kk : WT p l e R s d0 m args below meth c H locs Q (F0 m (pc + 2) ls (.ref (oS ω 0) :: rest))) : WT p l e R s d0 m args below meth c H locs Q (F0 m pc ls rest) :=
  va_ldcS (s := s.setDrawn d0) G.1.1 G.1.2.1 G.1.2.2.2.1 G.se.2 hdg kk
end STRINGS
set_option maxHeartbeats 4000000 in
set_option maxRecDepth 100000 in
theorem c_J0_isLatin1_aae02 (ω : Om) (l : Launch) (μ : M3) (hI : IC μ) : CtI ω l yJ0_isLatin1_aae02 cJ0_isLatin1_aae02 1 .boolean 0 0 [.ref (oS ω 0)] μ (fun (r : Int) (μ' : M3) => (μ' = μ) ∧ (r = 1)) := by
  refine CtI.go (by decide) (Nat.le_of_ble_eq_true rfl) (fun ρ p e s m below meth c R ls G hR hret hlk hl => ?_)
  have hx := G.1.1
  have hb := G.1.2.1
  have hl : lv_has ls 1 [(0, .ref (oS ω 0))] := hl
  generalize s.drawn = d0 at G ⊢
  refine xs_gets G (wm 1 47 rfl rfl) dJ0_isLatin1_aae02_0 ?_
  refine xb_if_eq (tgt := 17) hx hb (x := 1) (by unfold ir; omega) dJ0_isLatin1_aae02_3 (by decide) (fun c_3 => absurd c_3 (by decide)) (fun c_3 => ?_)
  refine lv_aload_n hx hb dJ0_isLatin1_aae02_6 rfl (lv_at hl 0 rfl) ?_
  refine xs_coder G (wm 11 90 rfl rfl) dJ0_isLatin1_aae02_7 ?_
  refine xb_if_ne (tgt := 17) hx hb (x := 0) (by unfold ir; omega) dJ0_isLatin1_aae02_10 (by decide) (fun c_10 => absurd c_10 (by decide)) (fun c_10 => ?_)
  refine lv_iconst (v := iv 1) hx hb dJ0_isLatin1_aae02_13 rfl ?_
  refine lv_goto (tgt := 18) hx hb dJ0_isLatin1_aae02_14 (by decide) ?_
  exact xr_i G (x := 1) hret hlk (by unfold ir; omega) (zr (by omega)) dJ0_isLatin1_aae02_18 ⟨rfl, (by omega)⟩

set_option maxHeartbeats 4000000 in
set_option maxRecDepth 100000 in
theorem c_J0_coder_7d493 (ω : Om) (l : Launch) (μ : M3) (hI : IC μ) : CtI ω l yJ0_coder_7d493 cJ0_coder_7d493 1 .byte 0 0 [.ref (oS ω 0)] μ (fun (r : Int) (μ' : M3) => (μ' = μ) ∧ (r = 0)) := by
  refine CtI.go (by decide) (Nat.le_of_ble_eq_true rfl) (fun ρ p e s m below meth c R ls G hR hret hlk hl => ?_)
  have hx := G.1.1
  have hb := G.1.2.1
  have hl : lv_has ls 1 [(0, .ref (oS ω 0))] := hl
  generalize s.drawn = d0 at G ⊢
  refine xs_gets G (wm 1 47 rfl rfl) dJ0_coder_7d493_0 ?_
  refine xb_if_eq (tgt := 13) hx hb (x := 1) (by unfold ir; omega) dJ0_coder_7d493_3 (by decide) (fun c_3 => absurd c_3 (by decide)) (fun c_3 => ?_)
  refine lv_aload_n hx hb dJ0_coder_7d493_6 rfl (lv_at hl 0 rfl) ?_
  refine xs_coder G (wm 11 90 rfl rfl) dJ0_coder_7d493_7 ?_
  refine lv_goto (tgt := 14) hx hb dJ0_coder_7d493_10 (by decide) ?_
  exact xr_i G (x := 0) hret hlk (by unfold ir; omega) rfl dJ0_coder_7d493_14 ⟨rfl, (by omega)⟩

set_option maxHeartbeats 4000000 in
set_option maxRecDepth 100000 in
theorem c_J0_length_8abf5 (ω : Om) (l : Launch) (μ : M3) (hI : IC μ) : CtI ω l yJ0_length_8abf5 cJ0_length_8abf5 1 .int 1 20 [.ref (oS ω 0)] μ (fun (r : Int) (μ' : M3) => (μ' = μ) ∧ (r = 19)) := by
  refine CtI.go (by decide) (Nat.le_of_ble_eq_true rfl) (fun ρ p e s m below meth c R ls G hR hret hlk hl => ?_)
  have hx := G.1.1
  have hb := G.1.2.1
  have hl : lv_has ls 1 [(0, .ref (oS ω 0))] := hl
  generalize s.drawn = d0 at G ⊢
  refine lv_aload_n hx hb dJ0_length_8abf5_0 rfl (lv_at hl 0 rfl) ?_
  refine xs_value G (wm 11 89 rfl rfl) dJ0_length_8abf5_1 ?_
  refine xs_len G dJ0_length_8abf5_4 ?_
  refine lv_aload_n hx hb dJ0_length_8abf5_5 rfl (lv_at hl 0 rfl) ?_
  refine xc_iX G (rest := [.int (iv 19)]) (As := []) (c_J0_coder_7d493 ω l μ  hI) (wm 1 43 rfl rfl) (wm 1 44 rfl rfl) (wm 1 45 rfl rfl) (xs_recv G) (wm 1 3 rfl rfl) (wm 1 46 rfl rfl) (by decide) hR (by decide) (n := 0) rfl rfl (Nat.le_of_ble_eq_true rfl) hl.1 dJ0_length_8abf5_6 (fun r_2 μ1 ρ d0 H locs hr_r_2 hp G => ?_)
  have hr_r_2 : -2147483648 ≤ r_2 ∧ r_2 ≤ 2147483647 := hr_r_2
  obtain ⟨hsm_3, hp_4⟩ := hp
  have hsm_3 := Eq.symm hsm_3
  subst hsm_3
  subst hp_4
  refine lv_ishr hx hb dJ0_length_8abf5_9 ?_
  refine xb_topi (fun y_9 hr_9 he_9 => ?_)
  have hy9 : y_9 = 19 := by have h9 : iv y_9 = iv 19 := he_9.trans (by decide); exact (iv_eq hr_9 (by unfold ir; omega)).mp h9
  subst hy9
  exact xr_i G (x := 19) hret hlk (by unfold ir; omega) rfl dJ0_length_8abf5_10 ⟨rfl, (by omega)⟩

set_option maxHeartbeats 4000000 in
set_option maxRecDepth 100000 in
theorem c_J1_canEncode_9a6ad (ω : Om) (l : Launch) (μ : M3) (x1 : Int) (hx1 : ir x1) (hI : IC μ) : CtI ω l yJ1_canEncode_9a6ad cJ1_canEncode_9a6ad 1 .boolean 0 0 [.int (iv x1)] μ (fun (r : Int) (μ' : M3) => (μ' = μ) ∧ (r = 0 ∨ r = 1)) := by
  refine CtI.go (by decide) (Nat.le_of_ble_eq_true rfl) (fun ρ p e s m below meth c R ls G hR hret hlk hl => ?_)
  have hx := G.1.1
  have hb := G.1.2.1
  have hl : lv_has ls 1 [(0, .int (iv x1))] := hl
  generalize s.drawn = d0 at G ⊢
  have hr_x1 : -2147483648 ≤ x1 ∧ x1 ≤ 2147483647 := hx1
  refine lv_iload_n hx hb dJ1_canEncode_9a6ad_0 rfl (lv_at hl 0 rfl) ?_
  refine xb_if_lt (tgt := 15) hx hb (by unfold ir; omega) dJ1_canEncode_9a6ad_1 (by decide) (fun c_1 => ?_) (fun c_1 => ?_)
  · refine lv_iconst (v := iv 0) hx hb dJ1_canEncode_9a6ad_15 rfl ?_
    exact xr_i G (x := 0) hret hlk (by unfold ir; omega) (zr (by omega)) dJ1_canEncode_9a6ad_16 ⟨rfl, (by omega)⟩
  · refine lv_iload_n hx hb dJ1_canEncode_9a6ad_4 rfl (lv_at hl 0 rfl) ?_
    refine lv_sipush (v := iv 255) hx hb dJ1_canEncode_9a6ad_5 rfl ?_
    refine xb_icmp_gt (tgt := 15) hx hb (by unfold ir; omega) (by unfold ir; omega) dJ1_canEncode_9a6ad_8 (by decide) (fun c_8 => ?_) (fun c_8 => ?_)
    · refine lv_iconst (v := iv 0) hx hb dJ1_canEncode_9a6ad_15 rfl ?_
      exact xr_i G (x := 0) hret hlk (by unfold ir; omega) (zr (by omega)) dJ1_canEncode_9a6ad_16 ⟨rfl, (by omega)⟩
    · refine lv_iconst (v := iv 1) hx hb dJ1_canEncode_9a6ad_11 rfl ?_
      refine lv_goto (tgt := 16) hx hb dJ1_canEncode_9a6ad_12 (by decide) ?_
      exact xr_i G (x := 1) hret hlk (by unfold ir; omega) (zr (by omega)) dJ1_canEncode_9a6ad_16 ⟨rfl, (by omega)⟩

set_option maxHeartbeats 4000000 in
set_option maxRecDepth 100000 in
theorem c_J1_indexOfChar_4cfef (ω : Om) (l : Launch) (μ : M3) (x2 : Int) (x3 : Int) (x4 : Int) (hx2 : ir x2) (hx3 : ir x3) (hx4 : ir x4) (hI : IC μ) (h3 : 0 ≤ x3) (h4 : x4 ≤ 19) : CtI ω l yJ1_indexOfChar_4cfef cJ1_indexOfChar_4cfef 6 .int 0 0 [.ref (oS ω 1), .int (iv x2), .int (iv x3), .int (iv x4)] μ (fun (r : Int) (μ' : M3) => (μ' = μ)) := by
  refine CtI.go (by decide) (Nat.le_of_ble_eq_true rfl) (fun ρ p e s m below meth c R ls G hR hret hlk hl => ?_)
  have hx := G.1.1
  have hb := G.1.2.1
  have hl : lv_has ls 6 [(0, .ref (oS ω 1)), (1, .int (iv x2)), (2, .int (iv x3)), (3, .int (iv x4))] := hl
  generalize s.drawn = d0 at G ⊢
  have hr_x2 : -2147483648 ≤ x2 ∧ x2 ≤ 2147483647 := hx2
  have hr_x3 : -2147483648 ≤ x3 ∧ x3 ≤ 2147483647 := hx3
  have hr_x4 : -2147483648 ≤ x4 ∧ x4 ≤ 2147483647 := hx4
  refine lv_iload_n hx hb dJ1_indexOfChar_4cfef_0 rfl (lv_at hl 1 rfl) ?_
  refine xb_i2b hx hb dJ1_indexOfChar_4cfef_1 (fun y_1 hb_y_1 => ?_)
  have hr_y_1 : -2147483648 ≤ y_1 ∧ y_1 ≤ 2147483647 := (by omega)
  refine lv_istore (lv' := [(4, .int (iv y_1)), (0, .ref (oS ω 1)), (1, .int (iv x2)), (2, .int (iv x3)), (3, .int (iv x4))]) hx hb dJ1_indexOfChar_4cfef_2 hl (by decide) rfl (fun ls hl => ?_)
  refine lv_iload_n hx hb dJ1_indexOfChar_4cfef_4 rfl (lv_at hl 3 rfl) ?_
  refine lv_istore (lv' := [(5, .int (iv x3)), (4, .int (iv y_1)), (0, .ref (oS ω 1)), (1, .int (iv x2)), (2, .int (iv x3)), (3, .int (iv x4))]) hx hb dJ1_indexOfChar_4cfef_5 hl (by decide) rfl (fun ls hl => ?_)
  refine xl (fun n_9 μ' ls => ∃ (i9 : Int), (μ' = μ) ∧ (-2147483648 ≤ i9 ∧ i9 ≤ 2147483647) ∧ (0 ≤ i9) ∧ n_9 = Int.toNat (19 - i9) ∧ lv_has ls 6 [(5, .int (iv i9)), (4, .int (iv y_1)), (0, .ref (oS ω 1)), (1, .int (iv x2)), (2, .int (iv x3)), (3, .int (iv x4))]) (fun n_9 ρ μL2 d0 H locs ls hI_l G ih => ?_) _ _ _ _ _ _ _ ⟨x3, rfl, (by omega), (by omega), rfl, lv_sub hl [0, 1, 2, 3, 4, 5] rfl⟩ G
  obtain ⟨i9, FL3, hi_5, hi_6, hn4, hl⟩ := hI_l
  have FL3 := Eq.symm FL3
  subst FL3
  refine lv_iload hx hb dJ1_indexOfChar_4cfef_7 (lv_at hl 0 rfl) ?_
  refine lv_iload_n hx hb dJ1_indexOfChar_4cfef_9 rfl (lv_at hl 5 rfl) ?_
  refine xb_icmp_ge (tgt := 31) hx hb (by unfold ir; omega) (by unfold ir; omega) dJ1_indexOfChar_4cfef_10 (by decide) (fun c_10 => ?_) (fun c_10 => ?_)
  · refine lv_iconst (v := iv (-1)) hx hb dJ1_indexOfChar_4cfef_31 rfl ?_
    exact xr_i G (x := (-1)) hret hlk (by unfold ir; omega) rfl dJ1_indexOfChar_4cfef_32 rfl
  · refine lv_aload_n hx hb dJ1_indexOfChar_4cfef_13 rfl (lv_at hl 2 rfl) ?_
    refine lv_iload hx hb dJ1_indexOfChar_4cfef_14 (lv_at hl 0 rfl) ?_
    refine xs_bald G (i := i9) (by omega) dJ1_indexOfChar_4cfef_16 (fun y_7_v => ?_)
    refine xb_topi (fun y_8 hr_y_8 he_y_8 => ?_)
    have hr_y_8 : -2147483648 ≤ y_8 ∧ y_8 ≤ 2147483647 := hr_y_8
    refine lv_iload hx hb dJ1_indexOfChar_4cfef_17 (lv_at hl 1 rfl) ?_
    refine xb_icmp_ne (tgt := 25) hx hb (by unfold ir; omega) (by unfold ir; omega) dJ1_indexOfChar_4cfef_19 (by decide) (fun c_19 => ?_) (fun c_19 => ?_)
    · refine lv_iinc (v := iv (i9 + 1)) (lv' := [(5, .int (iv (i9 + 1))), (4, .int (iv y_1)), (0, .ref (oS ω 1)), (1, .int (iv x2)), (2, .int (iv x3)), (3, .int (iv x4))]) hx hb dJ1_indexOfChar_4cfef_25 hl (k := 0) rfl (by rw [show Int32.ofInt 1 = iv 1 from rfl, iv_add]) (by decide) rfl (fun ls hl => ?_)
      refine lv_goto (tgt := 7) hx hb dJ1_indexOfChar_4cfef_28 (by decide) ?_
      exact ih _ _ _ _ _ _ _ (by omega) ⟨i9 + 1, rfl, (by omega), (by omega), rfl, lv_sub hl [0, 1, 2, 3, 4, 5] rfl⟩ G
    · refine lv_iload hx hb dJ1_indexOfChar_4cfef_22 (lv_at hl 0 rfl) ?_
      exact xr_i G (x := i9) hret hlk (by unfold ir; omega) rfl dJ1_indexOfChar_4cfef_24 rfl

set_option maxHeartbeats 4000000 in
set_option maxRecDepth 100000 in
theorem c_J1_indexOf_4cfef (ω : Om) (l : Launch) (μ : M3) (x2 : Int) (x3 : Int) (x4 : Int) (hx2 : ir x2) (hx3 : ir x3) (hx4 : ir x4) (hI : IC μ) : CtI ω l yJ1_indexOf_4cfef cJ1_indexOf_4cfef 4 .int 1 25 [.ref (oS ω 1), .int (iv x2), .int (iv x3), .int (iv x4)] μ (fun (r : Int) (μ' : M3) => (μ' = μ)) := by
  refine CtI.go (by decide) (Nat.le_of_ble_eq_true rfl) (fun ρ p e s m below meth c R ls G hR hret hlk hl => ?_)
  have hx := G.1.1
  have hb := G.1.2.1
  have hl : lv_has ls 4 [(0, .ref (oS ω 1)), (1, .int (iv x2)), (2, .int (iv x3)), (3, .int (iv x4))] := hl
  generalize s.drawn = d0 at G ⊢
  have hr_x2 : -2147483648 ≤ x2 ∧ x2 ≤ 2147483647 := hx2
  have hr_x3 : -2147483648 ≤ x3 ∧ x3 ≤ 2147483647 := hx3
  have hr_x4 : -2147483648 ≤ x4 ∧ x4 ≤ 2147483647 := hx4
  refine lv_iload_n hx hb dJ1_indexOf_4cfef_0 rfl (lv_at hl 1 rfl) ?_
  refine xc_iS G (rest := []) (As := [.int (iv x2)]) (c_J1_canEncode_9a6ad ω l μ x2 (by unfold ir; omega) hI) (wm 3 113 rfl rfl) (wm 3 114 rfl rfl) (wm 1 4 rfl rfl) (wm 3 115 rfl rfl) (by decide) hR (by decide) (n := 1) rfl rfl (Nat.le_of_ble_eq_true rfl) hl.1 dJ1_indexOf_4cfef_1 (fun r_2 μ1 ρ d0 H locs hr_r_2 hp G => ?_)
  have hr_r_2 : -2147483648 ≤ r_2 ∧ r_2 ≤ 2147483647 := hr_r_2
  obtain ⟨hsm_3, hp_4⟩ := hp
  have hsm_3 := Eq.symm hsm_3
  subst hsm_3
  refine xb_if_ne (tgt := 9) hx hb (by unfold ir; omega) dJ1_indexOf_4cfef_4 (by decide) (fun c_4 => ?_) (fun c_4 => ?_)
  · refine lv_iload_n hx hb dJ1_indexOf_4cfef_9 rfl (lv_at hl 2 rfl) ?_
    refine lv_iconst (v := iv 0) hx hb dJ1_indexOf_4cfef_10 rfl ?_
    refine xm_max G (x := x3) (y := 0) (wm 3 116 rfl rfl) (wm 1 148 rfl rfl) (wm 1 11 rfl rfl) (wm 1 149 rfl rfl) hR (by decide) (Nat.le_of_ble_eq_true rfl) hl.1 (by unfold ir; omega) (by unfold ir; omega) dJ1_indexOf_4cfef_11 ?_
    refine lv_istore_n (lv' := [(2, .int (iv (max x3 0))), (0, .ref (oS ω 1)), (1, .int (iv x2)), (3, .int (iv x4))]) hx hb dJ1_indexOf_4cfef_14 rfl hl (by decide) rfl (fun ls hl => ?_)
    refine lv_iload_n hx hb dJ1_indexOf_4cfef_15 rfl (lv_at hl 3 rfl) ?_
    refine lv_aload_n hx hb dJ1_indexOf_4cfef_16 rfl (lv_at hl 1 rfl) ?_
    refine xs_len G dJ1_indexOf_4cfef_17 ?_
    refine xm_min G (x := x4) (y := 19) (wm 3 117 rfl rfl) (wm 3 29 rfl rfl) (wm 1 11 rfl rfl) (wm 3 30 rfl rfl) hR (by decide) (Nat.le_of_ble_eq_true rfl) hl.1 (by unfold ir; omega) (by unfold ir; omega) dJ1_indexOf_4cfef_18 ?_
    refine lv_istore_n (lv' := [(3, .int (iv (min x4 19))), (2, .int (iv (max x3 0))), (0, .ref (oS ω 1)), (1, .int (iv x2))]) hx hb dJ1_indexOf_4cfef_21 rfl hl (by decide) rfl (fun ls hl => ?_)
    refine lv_iload_n hx hb dJ1_indexOf_4cfef_22 rfl (lv_at hl 1 rfl) ?_
    refine lv_iload_n hx hb dJ1_indexOf_4cfef_23 rfl (lv_at hl 0 rfl) ?_
    refine xb_icmp_lt (tgt := 29) hx hb (by unfold ir; omega) (by unfold ir; omega) dJ1_indexOf_4cfef_24 (by decide) (fun c_24 => ?_) (fun c_24 => ?_)
    · refine lv_aload_n hx hb dJ1_indexOf_4cfef_29 rfl (lv_at hl 2 rfl) ?_
      refine lv_iload_n hx hb dJ1_indexOf_4cfef_30 rfl (lv_at hl 3 rfl) ?_
      refine lv_iload_n hx hb dJ1_indexOf_4cfef_31 rfl (lv_at hl 1 rfl) ?_
      refine lv_iload_n hx hb dJ1_indexOf_4cfef_32 rfl (lv_at hl 0 rfl) ?_
      refine xc_iS G (rest := []) (As := [.ref (oS ω 1), .int (iv x2), .int (iv (max x3 0)), .int (iv (min x4 19))]) (c_J1_indexOfChar_4cfef ω l μ x2 (max x3 0) (min x4 19) (by unfold ir; omega) (by unfold ir; omega) (by unfold ir; omega) hI (by omega) (by omega)) (wm 3 118 rfl rfl) (wm 3 119 rfl rfl) (wm 1 4 rfl rfl) (wm 3 120 rfl rfl) (by decide) hR (by decide) (n := 4) rfl rfl (Nat.le_of_ble_eq_true rfl) hl.1 dJ1_indexOf_4cfef_33 (fun r_6 μ5 ρ d0 H locs hr_r_6 hp G => ?_)
      have hr_r_6 : -2147483648 ≤ r_6 ∧ r_6 ≤ 2147483647 := hr_r_6
      have hsm_7 := hp
      have hsm_7 := Eq.symm hsm_7
      subst hsm_7
      exact xr_i G (x := r_6) hret hlk (by unfold ir; omega) rfl dJ1_indexOf_4cfef_36 rfl
    · refine lv_iconst (v := iv (-1)) hx hb dJ1_indexOf_4cfef_27 rfl ?_
      exact xr_i G (x := (-1)) hret hlk (by unfold ir; omega) rfl dJ1_indexOf_4cfef_28 rfl
  · refine lv_iconst (v := iv (-1)) hx hb dJ1_indexOf_4cfef_7 rfl ?_
    exact xr_i G (x := (-1)) hret hlk (by unfold ir; omega) rfl dJ1_indexOf_4cfef_8 rfl

set_option maxHeartbeats 4000000 in
set_option maxRecDepth 100000 in
theorem c_J0_indexOf_7cf53 (ω : Om) (l : Launch) (μ : M3) (x1 : Int) (x2 : Int) (hx1 : ir x1) (hx2 : ir x2) (hI : IC μ) : CtI ω l yJ0_indexOf_7cf53 cJ0_indexOf_7cf53 3 .int 2 48 [.ref (oS ω 0), .int (iv x1), .int (iv x2)] μ (fun (r : Int) (μ' : M3) => (μ' = μ)) := by
  refine CtI.go (by decide) (Nat.le_of_ble_eq_true rfl) (fun ρ p e s m below meth c R ls G hR hret hlk hl => ?_)
  have hx := G.1.1
  have hb := G.1.2.1
  have hl : lv_has ls 3 [(0, .ref (oS ω 0)), (1, .int (iv x1)), (2, .int (iv x2))] := hl
  generalize s.drawn = d0 at G ⊢
  have hr_x1 : -2147483648 ≤ x1 ∧ x1 ≤ 2147483647 := hx1
  have hr_x2 : -2147483648 ≤ x2 ∧ x2 ≤ 2147483647 := hx2
  refine lv_aload_n hx hb dJ0_indexOf_7cf53_0 rfl (lv_at hl 0 rfl) ?_
  refine xc_iX G (rest := []) (As := []) (c_J0_isLatin1_aae02 ω l μ  hI) (wm 1 53 rfl rfl) (wm 1 54 rfl rfl) (wm 1 55 rfl rfl) (xs_recv G) (wm 1 3 rfl rfl) (wm 1 56 rfl rfl) (by decide) hR (by decide) (n := 0) rfl rfl (Nat.le_of_ble_eq_true rfl) hl.1 dJ0_indexOf_7cf53_1 (fun r_2 μ1 ρ d0 H locs hr_r_2 hp G => ?_)
  have hr_r_2 : -2147483648 ≤ r_2 ∧ r_2 ≤ 2147483647 := hr_r_2
  obtain ⟨hsm_3, hp_4⟩ := hp
  have hsm_3 := Eq.symm hsm_3
  subst hsm_3
  refine xb_if_eq (tgt := 23) hx hb (by unfold ir; omega) dJ0_indexOf_7cf53_4 (by decide) (fun c_4 => ?_) (fun c_4 => ?_)
  · exfalso
    omega
  · refine lv_aload_n hx hb dJ0_indexOf_7cf53_7 rfl (lv_at hl 0 rfl) ?_
    refine xs_value G (wm 11 89 rfl rfl) dJ0_indexOf_7cf53_8 ?_
    refine lv_iload_n hx hb dJ0_indexOf_7cf53_11 rfl (lv_at hl 1 rfl) ?_
    refine lv_iload_n hx hb dJ0_indexOf_7cf53_12 rfl (lv_at hl 2 rfl) ?_
    refine lv_aload_n hx hb dJ0_indexOf_7cf53_13 rfl (lv_at hl 0 rfl) ?_
    refine xc_iX G (rest := [.int (iv x2), .int (iv x1), .ref (oS ω 1)]) (As := []) (c_J0_length_8abf5 ω l μ  hI) (wm 3 109 rfl rfl) (wm 1 40 rfl rfl) (wm 1 41 rfl rfl) (xs_recv G) (wm 1 3 rfl rfl) (wm 1 42 rfl rfl) (by decide) hR (by decide) (n := 0) rfl rfl (Nat.le_of_ble_eq_true rfl) hl.1 dJ0_indexOf_7cf53_14 (fun r_6 μ5 ρ d0 H locs hr_r_6 hp G => ?_)
    have hr_r_6 : -2147483648 ≤ r_6 ∧ r_6 ≤ 2147483647 := hr_r_6
    obtain ⟨hsm_7, hp_8⟩ := hp
    have hsm_7 := Eq.symm hsm_7
    subst hsm_7
    refine xc_iS G (rest := []) (As := [.ref (oS ω 1), .int (iv x1), .int (iv x2), .int (iv r_6)]) (c_J1_indexOf_4cfef ω l μ x1 x2 r_6 (by unfold ir; omega) (by unfold ir; omega) (by unfold ir; omega) hI) (wm 3 110 rfl rfl) (wm 3 111 rfl rfl) (wm 1 4 rfl rfl) (wm 3 112 rfl rfl) (by decide) hR (by decide) (n := 4) rfl rfl (Nat.le_of_ble_eq_true rfl) hl.1 dJ0_indexOf_7cf53_17 (fun r_10 μ9 ρ d0 H locs hr_r_10 hp G => ?_)
    have hr_r_10 : -2147483648 ≤ r_10 ∧ r_10 ≤ 2147483647 := hr_r_10
    have hsm_11 := hp
    have hsm_11 := Eq.symm hsm_11
    subst hsm_11
    refine lv_goto (tgt := 36) hx hb dJ0_indexOf_7cf53_20 (by decide) ?_
    exact xr_i G (x := r_10) hret hlk (by unfold ir; omega) rfl dJ0_indexOf_7cf53_36 rfl

set_option maxHeartbeats 4000000 in
set_option maxRecDepth 100000 in
theorem c_J0_indexOf_0f7a4 (ω : Om) (l : Launch) (μ : M3) (x1 : Int) (hx1 : ir x1) (hI : IC μ) : CtI ω l yJ0_indexOf_0f7a4 cJ0_indexOf_0f7a4 2 .int 3 70 [.ref (oS ω 0), .int (iv x1)] μ (fun (r : Int) (μ' : M3) => (μ' = μ)) := by
  refine CtI.go (by decide) (Nat.le_of_ble_eq_true rfl) (fun ρ p e s m below meth c R ls G hR hret hlk hl => ?_)
  have hx := G.1.1
  have hb := G.1.2.1
  have hl : lv_has ls 2 [(0, .ref (oS ω 0)), (1, .int (iv x1))] := hl
  generalize s.drawn = d0 at G ⊢
  have hr_x1 : -2147483648 ≤ x1 ∧ x1 ≤ 2147483647 := hx1
  refine lv_aload_n hx hb dJ0_indexOf_0f7a4_0 rfl (lv_at hl 0 rfl) ?_
  refine lv_iload_n hx hb dJ0_indexOf_0f7a4_1 rfl (lv_at hl 1 rfl) ?_
  refine lv_iconst (v := iv 0) hx hb dJ0_indexOf_0f7a4_2 rfl ?_
  refine xc_iX G (rest := []) (As := [.int (iv x1), .int (iv 0)]) (c_J0_indexOf_7cf53 ω l μ x1 0 (by unfold ir; omega) (by unfold ir; omega) hI) (wm 3 105 rfl rfl) (wm 3 106 rfl rfl) (wm 3 107 rfl rfl) (xs_recv G) (wm 1 3 rfl rfl) (wm 3 108 rfl rfl) (by decide) hR (by decide) (n := 2) rfl rfl (Nat.le_of_ble_eq_true rfl) hl.1 dJ0_indexOf_0f7a4_3 (fun r_2 μ1 ρ d0 H locs hr_r_2 hp G => ?_)
  have hr_r_2 : -2147483648 ≤ r_2 ∧ r_2 ≤ 2147483647 := hr_r_2
  have hsm_3 := hp
  have hsm_3 := Eq.symm hsm_3
  subst hsm_3
  exact xr_i G (x := r_2) hret hlk (by unfold ir; omega) rfl dJ0_indexOf_0f7a4_6 rfl
