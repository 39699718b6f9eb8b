/-! a byte that is one; a double out of any bits (its copy is drawn where it signals) -/
section COPIES
variable {p : Program} {l : Launch} {e : Env} {R : Room} {s : State} {d0 : Drawn} {m : MethodId} {args : Array Value} {below : List Frame} {meth : Method} {c : Code} {H : Heap} {locs : List Loc} {Q : State → Prop} {cc : ByteArray} {nL pc : Nat} {own : String} {ls : Array Slot} {rest : List Value} {ω : Om} {ρ : Int → Nat} {μ : M3}
theorem i8_x {x : Int} (h : -128 ≤ x ∧ x ≤ 127) : (iv x).toInt8.toInt32 = iv x := by
  have hr : ir x := by unfold ir; omega
  apply Int32.toInt_inj.mp
  rw [Int8.toInt_toInt32, iv_toInt hr]
  have e : (iv x).toInt8.toInt = (iv x).toInt.bmod (2 ^ 8) := Int32.toInt_toInt8 _
  rw [e, iv_toInt hr]
  have e2 : x.bmod 256 = x := by rw [Int.bmod_def]; split <;> omega
  exact e2
theorem xb_i2bx (hexec : p.tables.exec = Jvm.exec) (hb : c.code = cc) {x : Int} (hx : -128 ≤ x ∧ x ≤ 127) (hdg : decode cc pc = .ok (.i2b, 1)) (k : WT p l e R s d0 m args below meth c H locs Q (F0 m (pc + 1) ls (.int (iv x) :: rest))) : WT p l e R s d0 m args below meth c H locs Q (F0 m pc ls (.int (iv x) :: rest)) :=
  lv_i2b hexec hb hdg (i8_x hx) k
theorem l2dAny {cells slots : Nat} {T : State} (X : Stand p l e R s m args below meth c T locs cells slots) (hexec : p.tables.exec = Jvm.exec) {own : String} {index : Nat} (hown : s.vm.findClass own = some m.cls) (hlink : (Cond.methodLink own index ⟨"java/lang/Double", "longBitsToDouble", "(J)D"⟩).before args s = true) (hnat : (Cond.native ⟨"java/lang/Double", "longBitsToDouble", "(J)D"⟩).before args s = true) (hstat : (Cond.static ⟨"java/lang/Double", "longBitsToDouble", "(J)D"⟩).before args s = true) (hinit : (Cond.initialized "java/lang/Double").before args s = true)
    {g : JFrame} (hg : g.method = m) (hsize : g.locals.size = c.maxLocals) {rest : List Value} {b : Int64} (hstack : g.stack = .long b :: rest) (hdg : decode c.code g.pc = .ok (.invokestatic index, 3)) (hframes : 1 ≤ R.frames) (hlocals : 2 * g.monitorRoom + (rest.map fun v => v.category).sum + (nativeFrameWords "java/lang/Double" "longBitsToDouble" 2 + 11) ≤ R.locals) :
    ∃ (r : UInt64) (vm' : Vm) (d' : Drawn), (d' = T.drawn ∨ d' = T.drawn.next (.named "NaN.copy")) ∧ Stand p l e R (s.setDrawn d') m args below meth c ((T.setVm vm').setDrawn d') locs cells slots ∧ ∀ target, Steps p.tables e below (((T.setVm vm').setDrawn d').setTop { g with pc := g.pc + 3, stack := .double r :: rest }) target → Steps p.tables e below (T.setTop g) target := by
  by_cases hv : (b.toUInt64 &&& 0x7fffffffffffffff > 0x7ff0000000000000 && b.toUInt64 &&& 0x0008000000000000 == 0) = false
  · obtain ⟨vm', X', st⟩ := vn_l2d0 X hexec hown hlink hnat hstat hinit hg hsize hv hstack hdg hframes hlocals
    exact ⟨b.toUInt64, vm', T.drawn, Or.inl rfl, X'.drew _, st⟩
  · have hv : (b.toUInt64 &&& 0x7fffffffffffffff > 0x7ff0000000000000 && b.toUInt64 &&& 0x0008000000000000 == 0) = true := by
      cases h : (b.toUInt64 &&& 0x7fffffffffffffff > 0x7ff0000000000000 && b.toUInt64 &&& 0x0008000000000000 == 0) with
      | true => rfl
      | false => exact absurd h hv
    obtain ⟨r, kS, methS, hnS, hmS, hkS, N⟩ := NativeOf.of_static hnat hstat (ps := [.long]) (ret := some .double) (by decide +kernel)
    have hinitS : kS.init = .initialized := Cond.initialized_spec (findClass_of_methodNamed hnS) hkS hinit
    obtain ⟨vm', X', step⟩ := X.invokestatic hexec hown hlink hnS hmS N.static hkS hinitS (by decide) hg (argsL := [.long b]) (rest := rest) (by rw [N.sig]; rfl) hstack hdg
    refine ⟨if e.choices (.named "NaN.copy") (T.drawn.count (.named "NaN.copy")) % 2 == 0 then b.toUInt64 else b.toUInt64 ||| 0x0008000000000000, vm', T.drawn.next (.named "NaN.copy"), Or.inr rfl, X'.drew _, fun target hrest => step target fun acts => ?_⟩
    subst hg
    obtain ⟨kS', N'⟩ := N.alike X'.warmed.alike
    have hroom := X'.notFull (g := { g with stack := rest }) hsize (vars := nativeFrameWords "java/lang/Double" "longBitsToDouble" 2) hframes hlocals
    have hseen : seenByNative methS #[.long b] = #[.long b] := by simp [seenByNative, N'.static, N'.sig, narrow]
    refine Steps.nativeEnds (g := { g with stack := rest }) (ig := .invokestatic index) (len := 3) (row := Native.java_lang_Float.bits.rowLongBitsToDouble) (v := some (.double (if e.choices (.named "NaN.copy") (T.drawn.count (.named "NaN.copy")) % 2 == 0 then b.toUInt64 else b.toUInt64 ||| 0x0008000000000000))) (T := fun z => z.setDrawn (T.drawn.next (.named "NaN.copy"))) X'.here acts N'.cls N'.meth N'.boot N'.native N'.noCode N'.noLock
      (by rw [N'.className, N'.name, N'.desc]; exact longBitsToDouble_row p) (by rw [N'.className, N'.name]; exact hroom) (fun _ => rfl) rfl (fun _ => X'.here.code) ?_ hdg hrest
    intro Q hq
    rw [hseen] at hq ⊢
    rw [Native.java_lang_Float.bits.longBitsToDouble_on]
    simp only [hv, if_true]
    simp [wp_bind', W.mark, wp_pure']
    have h9 := hq true []
    simp only [beq_iff_eq] at h9
    exact h9
theorem nanc : (Choice.named "NaN.copy") ∈ lw_cs := List.mem_cons_of_mem _ (List.mem_cons_self ..)
theorem dr_stepc {cs : List Choice} {s : State} {d0 d1 d' : Drawn} (hd0 : s.drawn.sameBut d0 cs) (hn : (Choice.named "NaN.copy") ∈ cs) (hT : d1 = d0) (h : d' = d1 ∨ d' = d1.next (Choice.named "NaN.copy")) : s.drawn.sameBut d' cs := by
  subst hT
  rcases h with rfl | rfl
  · exact hd0
  · exact Drawn.sameBut.trans hd0 (Drawn.sameBut.mono (Drawn.next_named d1 "NaN.copy") (fun c hc => by
      simp only [List.mem_cons, List.not_mem_nil, or_false] at hc
      rw [hc]; exact hn))
theorem xd_any (G : Gd ω ρ μ p m c cc nL s args own d0 R H locs) {idx fr lo : Nat} {x : Int} (h1 : Cond.methodLink own idx ⟨"java/lang/Double", "longBitsToDouble", "(J)D"⟩ ∈ TG) (h2 : Cond.native ⟨"java/lang/Double", "longBitsToDouble", "(J)D"⟩ ∈ TG) (h3 : Cond.static ⟨"java/lang/Double", "longBitsToDouble", "(J)D"⟩ ∈ TG) (h4 : Cond.initialized "java/lang/Double" ∈ TG) (hR : R.frames = fr ∧ R.locals = lo) (hRR : Nat.ble 1 fr = true ∧ Nat.ble 40 lo = true) (hw : (rest.map fun v => v.category).sum ≤ 8) (hls : ls.size = nL) (hdg : decode cc pc = .ok (.invokestatic idx, 3)) (kk : ∀ (r : Int) (d1 : Drawn), Gd ω ρ μ p m c cc nL s args own d1 R H locs → WT p l e R s d1 m args below meth c H locs Q (F0 m (pc + 3) ls (.double (dv r) :: rest))) : WT p l e R s d0 m args below meth c H locs Q (F0 m pc ls (.long (jv x) :: rest)) := by
  have w := fun c0 hc => dr_words G.1.2.2.2.2 d0 c0 hc
  intro T hT X
  obtain ⟨r, vm', d', hd, X', st⟩ := l2dAny X (s := s.setDrawn d0) G.1.1 G.1.2.2.2.1 (w _ h1) (w _ h2) (w _ h3) (w _ h4) (b := jv x) (g := F0 m pc ls (.long (jv x) :: rest)) rfl (by show ls.size = _; rw [hls]; exact G.1.2.2.1.symm) rfl (by rw [G.1.2.1]; exact hdg) (by rw [hR.1]; exact Nat.le_of_ble_eq_true hRR.1) (by rw [hR.2]; have := Nat.le_of_ble_eq_true hRR.2; show 2 * 0 + _ + _ ≤ _; have hw2 : nativeFrameWords "java/lang/Double" "longBitsToDouble" 2 = 4 := (by decide); omega)
  have k := kk (r.toNat : Int) d' (G.dr (dr_stepc G.2.1 nanc X.drawn_eq hd))
  rw [dv_of] at k
  obtain ⟨t, a1, b1⟩ := k ((T.setVm vm').setDrawn d') hT X'
  exact ⟨t, st t a1, b1⟩
theorem xjg {pc2 : Nat} {st : List Value} {st2 : Int → List Value} {C : Int → Prop} (k : ∀ (v : Int) (ρ : Int → Nat) (d0 : Drawn) (H : Heap) (locs : List Loc), C v → Gd ω ρ μ p m c cc nL s args own d0 R H locs → WT p l e R s d0 m args below meth c H locs Q (F0 m pc2 ls (st2 v))) (h : (∀ (v : Int) (ρ : Int → Nat) (d0 : Drawn) (H : Heap) (locs : List Loc), C v → Gd ω ρ μ p m c cc nL s args own d0 R H locs → WT p l e R s d0 m args below meth c H locs Q (F0 m pc2 ls (st2 v))) → WT p l e R s d0 m args below meth c H locs Q (F0 m pc ls st)) : WT p l e R s d0 m args below meth c H locs Q (F0 m pc ls st) := h k
end COPIES
theorem i2d_ok : ∀ n : Fin 401, (match FP.Core.decode FP.Core.b64 (FP.i2d (iv (n.val : Int))).toNat with | .fin false D R => decide (R ≤ 0) && decide (D = n.val * 2 ^ (-R).toNat) | _ => false) = true := by decide +kernel
theorem i2d_neg : (match FP.Core.decode FP.Core.b64 (FP.i2d (iv (-1))).toNat with | .fin true D _ => decide (0 < D) | _ => false) = true := by decide +kernel
/-- a double from 0 to n, cut -/
theorem dsi {x z0 : UInt64} {n a b y : Int} (hz0 : z0 = 0) (hn : -1 ≤ n ∧ n ≤ 400) (ha : ir a) (h0 : iv a = Op.cmpValue (FP.dcmp x z0) .l) (ha0 : ¬ a < 0) (hb : ir b) (h1 : iv b = Op.cmpValue (FP.dcmp x (FP.i2d (iv n))) .g) (hb0 : ¬ b > 0) (hy : ir y) (h2 : iv y = FP.d2i x) : 0 ≤ y ∧ y ≤ n := by
  by_cases hneg : n = -1
  · exfalso
    subst hneg
    subst hz0
    have q0 := cv_l ha h0 ha0
    have q1 := cv_g hb h1 hb0
    have e0 : FP.dcmp x 0 = FP.Core.order (FP.Core.decode FP.Core.b64 x.toNat) (.fin false 0 FP.Core.b64.qmin) := rfl
    have e1 : FP.dcmp x (FP.i2d (iv (-1))) = FP.Core.order (FP.Core.decode FP.Core.b64 x.toNat) (FP.Core.decode FP.Core.b64 (FP.i2d (iv (-1))).toNat) := rfl
    have k := i2d_neg
    rw [e0] at q0
    rw [e1] at q1
    generalize FP.Core.decode FP.Core.b64 (FP.i2d (iv (-1))).toNat = z at k q1
    generalize FP.Core.decode FP.Core.b64 x.toNat = d at q0 q1
    match z, k, q1 with
    | .fin true D R, k, q1 =>
      have hD : 0 < D := of_decide_eq_true k
      match d, q0, q1 with
      | .nan, q0, _ => rcases q0 with h | h <;> cases h
      | .inf true, q0, _ =>
        rcases q0 with h | h
        · exact absurd (show some Ordering.lt = some Ordering.eq from h) (by decide)
        · exact absurd (show some Ordering.lt = some Ordering.gt from h) (by decide)
      | .inf false, _, q1 =>
        rcases q1 with h | h
        · exact absurd (show some Ordering.gt = some Ordering.lt from h) (by decide)
        · exact absurd (show some Ordering.gt = some Ordering.eq from h) (by decide)
      | .fin sg c q, q0, q1 =>
        have g1 : FP.Core.order (.fin sg c q) (.fin true D R) = some (compare (if sg then -((FP.Core.inUnits c q (min q R) : Nat) : Int) else ((FP.Core.inUnits c q (min q R) : Nat) : Int)) (-((FP.Core.inUnits D R (min q R) : Nat) : Int))) := by cases sg <;> rfl
        have g0 : FP.Core.order (.fin sg c q) (.fin false 0 FP.Core.b64.qmin) = some (compare (if sg then -((FP.Core.inUnits c q (min q FP.Core.b64.qmin) : Nat) : Int) else ((FP.Core.inUnits c q (min q FP.Core.b64.qmin) : Nat) : Int)) (((FP.Core.inUnits 0 FP.Core.b64.qmin (min q FP.Core.b64.qmin) : Nat) : Int))) := by cases sg <;> rfl
        rw [g1] at q1
        rw [g0] at q0
        have hz : FP.Core.inUnits 0 FP.Core.b64.qmin (min q FP.Core.b64.qmin) = 0 := by unfold FP.Core.inUnits; exact Nat.zero_mul _
        have hp : 0 < FP.Core.inUnits D R (min q R) := by unfold FP.Core.inUnits; exact Nat.mul_pos hD (Nat.two_pow_pos _)
        rw [hz] at q0
        rw [cmpI] at q0 q1
        cases sg with
        | false =>
          simp only [Bool.false_eq_true, if_false] at q1
          split at q1
          · omega
          · split at q1
            · omega
            · rcases q1 with h | h <;> cases h
        | true =>
          have hc : FP.Core.inUnits c q (min q FP.Core.b64.qmin) = 0 := by
            simp only [if_true] at q0
            split at q0
            · rcases q0 with h | h <;> cases h
            · omega
          have hc0 : c = 0 := by
            unfold FP.Core.inUnits at hc
            rcases Nat.mul_eq_zero.mp hc with h | h
            · exact h
            · exact absurd h (Nat.ne_of_gt (Nat.two_pow_pos _))
          have hc2 : FP.Core.inUnits c q (min q R) = 0 := by rw [hc0]; unfold FP.Core.inUnits; exact Nat.zero_mul _
          rw [hc2] at q1
          simp only [if_true] at q1
          split at q1
          · omega
          · split at q1
            · omega
            · rcases q1 with h | h <;> cases h
  · have k := i2d_ok ⟨n.toNat, by omega⟩
    dsimp only at k
    rw [show ((n.toNat : Nat) : Int) = n by omega] at k
    cases hz : FP.Core.decode FP.Core.b64 (FP.i2d (iv n)).toNat with
    | nan => rw [hz] at k; cases k
    | inf s => rw [hz] at k; cases k
    | fin sg D R =>
      cases sg with
      | true => rw [hz] at k; cases k
      | false =>
        rw [hz] at k
        simp only [Bool.and_eq_true, decide_eq_true_eq] at k
        have r := dsm hz0 hz k.1 k.2 (by omega) ha h0 ha0 hb h1 hb0 hy h2
        omega
theorem mrk_go {rk : Int → Nat} {μ : M3} {k : Int} (h : ∀ k, 1 ≤ k → k < μ.1 111 4 → μ.1 114 k = -1 ∨ (1 ≤ μ.1 114 k ∧ μ.1 114 k < μ.1 111 4 ∧ rk (μ.1 114 k) < rk k)) (h1 : 1 ≤ k) (h2 : k < μ.1 111 4) : (μ.1 114 k = -1 ∨ (1 ≤ μ.1 114 k ∧ μ.1 114 k < μ.1 111 4)) ∧ mrk rk (μ.1 114 k) < mrk rk k ∧ 0 ≤ mrk rk k ∧ 0 ≤ mrk rk (μ.1 114 k) := by
  have q := h k h1 h2
  exact ⟨q.imp id (fun z => ⟨z.1, z.2.1⟩), mrk_lt h1 q, mrk_0, mrk_0⟩
