/-! contracts over the memory -/
def SU (ω : Om) (ρ : Int → Nat) (μ : M3) (sz tz : Nat) (U : State) : Prop := Sm ω ρ μ U U.heap ∧ U.heap.size = sz ∧ tot U.heap = tz ∧ oB ω ≤ sz ∧ Ex ω U
abbrev RMm (ω : Om) (sz tz fr lo : Nat) : Room := { frames := fr, cells := oB ω + 600000 - sz, slots := oT ω + 7302250 - tz, locals := lo }
abbrev Bw (ω : Om) : M3 × (Int → Nat) → State → Prop := fun u t => Sm ω u.2 u.1 t t.heap
abbrev Aw (ω : Om) : Nat → Prop := fun q => oB ω ≤ q
theorem Ex.at {ω : Om} {s U : State} {H : Heap} {locs : List Loc} (h : Ex ω s) (hS : va_S (Aw ω) s.heap H locs) (hU : U.heap = H) (hW : s.WarmedH U.vm) : Ex ω U := by
  obtain ⟨a1, a2, a3⟩ := h
  refine ⟨fun w hw => ?_, ?_, ?_⟩
  · have := a1 w hw
    simp only [NWL, List.mem_cons, List.not_mem_nil, or_false] at hw
    rcases hw with rfl | rfl | rfl | rfl <;> exact va_Nw.warmF hW this
  · exact a2.at hS (fun _ h => h) hU hW
  · exact a3.at hS (fun _ h => h) hU hW
theorem Sm.mv {ω : Om} {ρ : Int → Nat} {μ : M3} {s t : State} {H : Heap} (h : Sm ω ρ μ s H) (ht : t.heap = H) (hv : s.vm.Alike t.vm) : Sm ω ρ μ t t.heap := by
  obtain ⟨c1, c2, c3, c4⟩ := h
  rw [ht]
  exact ⟨c1, c2, va_K.moved hv c3, c4⟩
theorem SU.fb {ω : Om} {ρ : Int → Nat} {μ : M3} {sz tz : Nat} {av : List Value} : FrameBlind (va_Pc av (fun U => SU ω ρ μ sz tz U)) := by
  intro a U g mk q
  obtain ⟨q1, q2, q3, q4, q5, q6, q7, q8⟩ := q
  refine ⟨q1, Sm.mv (s := U) (t := U.calling g mk a) q2 rfl (Vm.Alike.refl U.vm), q3, q4, q5, fun w hw => ?_, eS.fb U g mk a q7, eS.fb U g mk a q8⟩
  have := q6 w hw
  simp only [NWL, List.mem_cons, List.not_mem_nil, or_false] at hw
  rcases hw with rfl | rfl | rfl | rfl <;> exact va_Nw.same (u := U) (U := U.calling g mk a) rfl rfl this
theorem gi_c {y : MethodName} {cc : ByteArray} {nL : Nat} {ret : Option FieldType} (hc : Cond.code y cc nL ret ∈ TG) : GoodIn TG (Cond.code y cc nL ret :: TG) := by
  intro w hw
  rcases List.mem_cons.mp hw with rfl | h
  · exact ⟨hc, good_of_word (tg_good hc)⟩
  · exact ⟨h, good_of_word (tg_good h)⟩
theorem gi_V {own C : String} {idx : Nat} {y : MethodName} {ws : List Cond} (hg : GoodIn TG ws) (h1 : Cond.methodLink own idx y ∈ TG) (h2 : Cond.instanceMethod y ∈ TG) (h3 : Cond.selects C y y ∈ TG) (h4 : Cond.initialized C ∈ TG) : GoodIn TG (wsV own idx C y ws) := by
  refine goodIn_app (fun w hw => ?_) hg
  simp only [List.mem_cons, List.not_mem_nil, or_false] at hw
  rcases hw with rfl | rfl | rfl | rfl
  · exact ⟨h1, good_of_word (tg_good h1)⟩
  · exact ⟨h2, good_of_word (tg_good h2)⟩
  · exact ⟨h3, good_of_word (tg_good h3)⟩
  · exact ⟨h4, good_of_word (tg_good h4)⟩
theorem gi_S {own : String} {idx : Nat} {y : MethodName} {ws : List Cond} (hg : GoodIn TG ws) (h1 : Cond.methodLink own idx y ∈ TG) (h2 : Cond.static y ∈ TG) (h4 : Cond.initialized y.cls ∈ TG) : GoodIn TG (va_wsS own idx y ws) := by
  refine goodIn_app (fun w hw => ?_) hg
  simp only [List.mem_cons, List.not_mem_nil, or_false] at hw
  rcases hw with rfl | rfl | rfl
  · exact ⟨h1, good_of_word (tg_good h1)⟩
  · exact ⟨h2, good_of_word (tg_good h2)⟩
  · exact ⟨h4, good_of_word (tg_good h4)⟩
section CON
variable {p : Program} {l : Launch} {e : Env} {R : Room} {s : State} {d0 : Drawn} {m : MethodId} {args : Array Value} {below : List Frame} {meth : Method} {c : Code} {H : Heap} {locs : List Loc} {Q : State → Prop} {cc : ByteArray} {nL pc : Nat} {own : String} {ls : Array Slot} {rest : List Value} {ω : Om} {ρ : Int → Nat} {μ : M3}
theorem Gd.pre (G : Gd ω ρ μ p m c cc nL s args own d0 R H locs) : ∀ U : State, U.heap = H → (s.setDrawn d0).WarmedH U.vm → SU ω ρ μ H.size (tot H) U := by
  intro U hU hW
  obtain ⟨a1, a2, a3, a4, a5, a6, a7, a8, a9⟩ := G
  have hW2 : s.WarmedH U.vm := hW
  have h0 := a4.1
  exact ⟨a3.mv hU hW2.alike, by rw [hU], by rw [hU], Nat.le_trans a5 a4.1, a9.at a4 hU hW2⟩
/-- behind a call -/
theorem Gd.back (G : Gd ω ρ μ p m c cc nL s args own d0 R H locs) {ρ' : Int → Nat} {μ' : M3} {t : State} {H1 : Heap} {locs1 : List Loc} {d' : Drawn} (hd : s.drawn.sameBut d' lw_cs) (hB : Sm ω ρ' μ' t t.heap) (ht : t.heap = H1) (hv : s.vm.Alike t.vm) (hS : va_S (Aw ω) s.heap H1 locs1) (b3 : tot s.heap ≤ tot H1) : Gd ω ρ' μ' p m c cc nL s args own d' R H1 locs1 := by
  obtain ⟨a1, a2, a3, a4, a5, a6, a7, a8, a9⟩ := G
  obtain ⟨c1, c2, c3, c4⟩ := hB
  rw [ht] at c1 c4
  exact ⟨a1, hd, ⟨c1, c2, va_K.moved hv.symm c3, c4⟩, hS, a5, a6, a7, b3, a9⟩
theorem Gd.rm (G : Gd ω ρ μ p m c cc nL s args own d0 R H locs) : H.size - s.heap.size + (oB ω + 600000 - H.size) ≤ R.cells ∧ tot H - tot s.heap + (oT ω + 7302250 - tot H) ≤ R.slots := by
  obtain ⟨a1, a2, ⟨c1, c2, c3, c4, c5, c6, c7, c8, c9⟩, a4, a5, a6, a7, a8, a9⟩ := G
  have h0 := a4.1
  rw [a6, a7]
  omega
theorem Gd.rm2 (G : Gd ω ρ μ p m c cc nL s args own d0 R H locs) : H.size - s.heap.size ≤ oB ω + 600000 - s.heap.size ∧ tot H - tot s.heap ≤ oT ω + 7302250 - tot s.heap := by
  obtain ⟨a1, a2, ⟨c1, c2, c3, c4, c5, c6, c7, c8, c9⟩, a4, a5, a6, a7, a8, a9⟩ := G
  have h0 := a4.1
  omega
def CtI (ω : Om) (l : Launch) (y : MethodName) (cc : ByteArray) (nL : Nat) (rt : FieldType) (fr lo : Nat) (av : List Value) (μ : M3) (Post : Int → M3 → Prop) : Prop :=
  ∀ (ρ : Int → Nat) (sz tz : Nat), MetD lw_cs l y (Cond.code y cc nL (some rt) :: TG) (RMm ω sz tz fr lo) (va_Pc av (fun U => SU ω ρ μ sz tz U)) (va_Qi (fun (r : Int32) (u : M3 × (Int → Nat)) => Post r.toInt u.1) (Bw ω) (Aw ω)) (oB ω + 600000 - sz) (oT ω + 7302250 - tz) (Aw ω)
abbrev QI (ω : Om) (below : List Frame) (Post : Int → M3 → Prop) (args : Array Value) (s : State) : State → Prop := MQD lw_cs below (va_Qi (fun (r : Int32) (u : M3 × (Int → Nat)) => Post r.toInt u.1) (Bw ω) (Aw ω)) args s (oB ω + 600000 - s.heap.size) (oT ω + 7302250 - tot s.heap) (Aw ω)
theorem CtI.go {y : MethodName} {rt : FieldType} {fr lo : Nat} {av : List Value} {Post : Int → M3 → Prop} (hy : plainName y.cls = true) (hlen : (lg_sl av).length ≤ nL) (h : ∀ (ρ : Int → Nat) (p : Program) (e : Env) (s : State) (m : MethodId) (below : List Frame) (meth : Method) (c : Code) (R : Room) (ls : Array Slot), Gd ω ρ μ p m c cc nL s av.toArray y.cls s.drawn R s.heap [] → R.frames = fr ∧ R.locals = lo → meth.sig.returnType = (some rt) → meth.locks = false → lv_has ls nL (lv_args 0 av) → WT p l e R s s.drawn m av.toArray below meth c s.heap [] (QI ω below Post av.toArray s) (F0 m 0 ls [])) : CtI ω l y cc nL rt fr lo av μ Post := by
  intro ρ sz tz
  refine MetD.ofW (cc := cc) (maxL := nL) (ret := (some rt)) hy rfl ?_
  intro p e s m args below meth c s₁ B hml hv hd0
  obtain ⟨rfl, hSm, hsz, htz, hB0, hE⟩ := hv
  subst hsz; subst htz
  have hts := atoms_spec (ws := Cond.code y cc nL (some rt) :: TG) B.pre
  rw [lg_entry_eq]
  refine WT.use (fun b1 b2 b3 b4 => ?_)
  exact h ρ p e s m below meth c _ _ ⟨⟨B.exec, B.bytes, hml, findClass_of_methodNamed B.named, fun w hw => hts w (List.mem_cons_of_mem _ hw)⟩, hd0, hSm, va_S.rf, hB0, rfl, rfl, Nat.le_refl _, hE⟩ ⟨rfl, rfl⟩ B.returns B.notSynchronized (lv_entry av hlen)
theorem xr_i (G : Gd ω ρ μ p m c cc nL s args own d0 R H locs) {rt : FieldType} {Post : Int → M3 → Prop} (hr : meth.sig.returnType = some rt) (hlk : meth.locks = false) {x : Int} (hx : ir x) (hn : narrow rt (.int (iv x)) = .int (iv x)) (hdg : decode cc pc = .ok (.ireturn, 1)) (hp : Post x μ) : WT p l e R s d0 m args below meth c H locs (QI ω below Post args s) (F0 m pc ls [.int (iv x)]) := by
  refine W.endD G.2.1 ?_
  refine W.widen (k := oB ω + 600000 - s.heap.size) (n := oT ω + 7302250 - tot s.heap) G.rm2.1 G.rm2.2 ?_
  exact W.zret (v := iv x) G.1.1 G.1.2.1 hr hn (fun t ht hW => ⟨⟨iv x, (μ, ρ), rfl, by show Post (iv x).toInt μ; rw [iv_toInt hx]; exact hp, G.sm.mv ht hW.alike⟩, G.2.2.2.1.F ht⟩) G.2.2.2.1.2.2 hdg hlk
theorem xc_iV (G : Gd ω ρ μ p m c cc nL s args own d0 R H locs) {y : MethodName} {by0 : ByteArray} {n mL idx fr lo fr0 lo0 : Nat} {rt : FieldType} {b : Int} {bq ci N : Nat} {T : u_T} {As st0 : List Value} {Post : Int → M3 → Prop} (hC : CtI ω l y by0 mL rt fr0 lo0 (.ref bq :: As) μ Post) (h1 : Cond.methodLink own idx y ∈ TG) (h2 : Cond.instanceMethod y ∈ TG) (h3 : Cond.selects y.cls y y ∈ TG) (hLY : LY b = ci) (hcl : vwCl[ci]? = some (y.cls, T, N)) (hci : ci < 100) (hq : ad ω ρ b = bq) (h4 : Cond.initialized y.cls ∈ TG) (h5 : Cond.code y by0 mL (some rt) ∈ TG) (hd : y.cls ≠ "java/lang/invoke/MethodHandle" ∧ y.cls ≠ "java/lang/invoke/VarHandle" ∧ (parseMethodDescriptor y.desc).map (fun d => d.parameters.length) = some n) (hR : R.frames = fr ∧ R.locals = lo) (hRR : Nat.ble (fr0 + 1) fr = true ∧ Nat.ble (8 + (mL + 11) + lo0) lo = true) (hn : As.length = n) (hst : st0 = As.reverse ++ .ref bq :: rest) (hw : (rest.map fun v => v.category).sum ≤ 8) (hls : ls.size = nL) (hdg : decode cc pc = .ok (.invokevirtual idx, 3)) (kk : ∀ (r : Int) (μ1 : M3) (ρ1 : Int → Nat) (d1 : Drawn) (H1 : Heap) (locs1 : List Loc), ir r → Post r μ1 → Gd ω ρ1 μ1 p m c cc nL s args own d1 R H1 locs1 → WT p l e R s d1 m args below meth c H1 locs1 Q (F0 m (pc + 3) ls (.int (iv r) :: rest))) : WT p l e R s d0 m args below meth c H locs Q (F0 m pc ls st0) := by
  subst hst
  have hRR2 : fr0 + 1 ≤ R.frames ∧ 8 + (mL + 11) + lo0 ≤ R.locals := by rw [hR.1, hR.2]; exact ⟨Nat.le_of_ble_eq_true hRR.1, Nat.le_of_ble_eq_true hRR.2⟩
  have ha := LY_lt (a := b) (by omega)
  have he : (wd ω ρ μ)[b.toNat]? = some (bq, .inr (ci, (List.range (NF ci)).map (fun (j : Nat) => cv ω ρ (FT ci j) (μ.1 b j)))) := by rw [wd_get ω ρ μ ha, en_obj ω ρ μ hLY hci, hq]
  have hpre : PreV (s.setDrawn d0) H y.cls bq (va_Pc (.ref bq :: As) (fun U => SU ω ρ μ H.size (tot H) U)) As := ⟨SU.fb, va_recv (s := s.setDrawn d0) G.2.2.1.2.2.1 G.2.2.1.1 hcl he, fun U hU hW => ⟨rfl, G.pre U hU hW⟩⟩
  refine va_calliD G.2.1 (va_runV_D (s := s.setDrawn d0) (As := As) (rest := rest) ⟨G.1.1, G.1.2.1, G.1.2.2.1, G.1.2.2.2.1, dr_words G.1.2.2.2.2 d0⟩ (hC ρ H.size (tot H)) (cwV n (dr_words G.1.2.2.2.2 d0) (gi_V (gi_c h5) h1 h2 h3 h4) rfl rfl rfl ⟨rfl, hd⟩ hRR2) hpre rfl hn hls rfl (lv_room hw) hdg G.rm) G.2.2.2.1 (fun q _ h => h) (fun q h => h) (fun r u t H1 locs1 ht hvm hw9 hB hz1 hk1 hS d1 hd1 => ?_)
  refine WT.use (fun b1 b2 b3 b4 => ?_)
  have h9 := kk r.toInt u.1 u.2 d1 H1 locs1 (ir_of r) hw9 (G.back hd1 hB ht hvm hS b3)
  rw [iv_of] at h9
  exact h9
theorem xc_iS (G : Gd ω ρ μ p m c cc nL s args own d0 R H locs) {y : MethodName} {by0 : ByteArray} {n mL idx fr lo fr0 lo0 : Nat} {rt : FieldType} {As st0 : List Value} {Post : Int → M3 → Prop} (hC : CtI ω l y by0 mL rt fr0 lo0 As μ Post) (h1 : Cond.methodLink own idx y ∈ TG) (h2 : Cond.static y ∈ TG) (h4 : Cond.initialized y.cls ∈ TG) (h5 : Cond.code y by0 mL (some rt) ∈ TG) (hd : y.cls ≠ "java/lang/invoke/MethodHandle" ∧ y.cls ≠ "java/lang/invoke/VarHandle" ∧ (parseMethodDescriptor y.desc).map (fun d => d.parameters.length) = some n) (hR : R.frames = fr ∧ R.locals = lo) (hRR : Nat.ble (fr0 + 1) fr = true ∧ Nat.ble (8 + (mL + 11) + lo0) lo = true) (hn : As.length = n) (hst : st0 = As.reverse ++ rest) (hw : (rest.map fun v => v.category).sum ≤ 8) (hls : ls.size = nL) (hdg : decode cc pc = .ok (.invokestatic idx, 3)) (kk : ∀ (r : Int) (μ1 : M3) (ρ1 : Int → Nat) (d1 : Drawn) (H1 : Heap) (locs1 : List Loc), ir r → Post r μ1 → Gd ω ρ1 μ1 p m c cc nL s args own d1 R H1 locs1 → WT p l e R s d1 m args below meth c H1 locs1 Q (F0 m (pc + 3) ls (.int (iv r) :: rest))) : WT p l e R s d0 m args below meth c H locs Q (F0 m pc ls st0) := by
  subst hst
  have hRR2 : fr0 + 1 ≤ R.frames ∧ 8 + (mL + 11) + lo0 ≤ R.locals := by rw [hR.1, hR.2]; exact ⟨Nat.le_of_ble_eq_true hRR.1, Nat.le_of_ble_eq_true hRR.2⟩
  refine va_calliD G.2.1 (va_runS_D (s := s.setDrawn d0) (As := As) (rest := rest) ⟨G.1.1, G.1.2.1, G.1.2.2.1, G.1.2.2.2.1, dr_words G.1.2.2.2.2 d0⟩ (hC ρ H.size (tot H)) (va_cwS n (dr_words G.1.2.2.2.2 d0) (gi_S (gi_c h5) h1 h2 h4) rfl rfl rfl hd hRR2) ⟨SU.fb, fun U hU hW => ⟨rfl, G.pre U hU hW⟩⟩ rfl hn hls rfl (lv_room hw) hdg G.rm) G.2.2.2.1 (fun q _ h => h) (fun q h => h) (fun r u t H1 locs1 ht hvm hw9 hB hz1 hk1 hS d1 hd1 => ?_)
  refine WT.use (fun b1 b2 b3 b4 => ?_)
  have h9 := kk r.toInt u.1 u.2 d1 H1 locs1 (ir_of r) hw9 (G.back hd1 hB ht hvm hS b3)
  rw [iv_of] at h9
  exact h9
def CtL (ω : Om) (l : Launch) (y : MethodName) (cc : ByteArray) (nL : Nat) (fr lo : Nat) (av : List Value) (μ : M3) (Post : Int → M3 → Prop) : Prop :=
  ∀ (ρ : Int → Nat) (sz tz : Nat), MetD lw_cs l y (Cond.code y cc nL (some .long) :: TG) (RMm ω sz tz fr lo) (va_Pc av (fun U => SU ω ρ μ sz tz U)) (va_Ql (fun (r : Int64) (u : M3 × (Int → Nat)) => Post r.toInt u.1) (Bw ω) (Aw ω)) (oB ω + 600000 - sz) (oT ω + 7302250 - tz) (Aw ω)
abbrev QL (ω : Om) (below : List Frame) (Post : Int → M3 → Prop) (args : Array Value) (s : State) : State → Prop := MQD lw_cs below (va_Ql (fun (r : Int64) (u : M3 × (Int → Nat)) => Post r.toInt u.1) (Bw ω) (Aw ω)) args s (oB ω + 600000 - s.heap.size) (oT ω + 7302250 - tot s.heap) (Aw ω)
theorem CtL.go {y : MethodName} {fr lo : Nat} {av : List Value} {Post : Int → M3 → Prop} (hy : plainName y.cls = true) (hlen : (lg_sl av).length ≤ nL) (h : ∀ (ρ : Int → Nat) (p : Program) (e : Env) (s : State) (m : MethodId) (below : List Frame) (meth : Method) (c : Code) (R : Room) (ls : Array Slot), Gd ω ρ μ p m c cc nL s av.toArray y.cls s.drawn R s.heap [] → R.frames = fr ∧ R.locals = lo → meth.sig.returnType = (some .long) → meth.locks = false → lv_has ls nL (lv_args 0 av) → WT p l e R s s.drawn m av.toArray below meth c s.heap [] (QL ω below Post av.toArray s) (F0 m 0 ls [])) : CtL ω l y cc nL fr lo av μ Post := by
  intro ρ sz tz
  refine MetD.ofW (cc := cc) (maxL := nL) (ret := (some .long)) hy rfl ?_
  intro p e s m args below meth c s₁ B hml hv hd0
  obtain ⟨rfl, hSm, hsz, htz, hB0, hE⟩ := hv
  subst hsz; subst htz
  have hts := atoms_spec (ws := Cond.code y cc nL (some .long) :: TG) B.pre
  rw [lg_entry_eq]
  refine WT.use (fun b1 b2 b3 b4 => ?_)
  exact h ρ p e s m below meth c _ _ ⟨⟨B.exec, B.bytes, hml, findClass_of_methodNamed B.named, fun w hw => hts w (List.mem_cons_of_mem _ hw)⟩, hd0, hSm, va_S.rf, hB0, rfl, rfl, Nat.le_refl _, hE⟩ ⟨rfl, rfl⟩ B.returns B.notSynchronized (lv_entry av hlen)
theorem xr_l (G : Gd ω ρ μ p m c cc nL s args own d0 R H locs) {Post : Int → M3 → Prop} (hr : meth.sig.returnType = some .long) (hlk : meth.locks = false) {x : Int} (hx : jr x) (hdg : decode cc pc = .ok (.lreturn, 1)) (hp : Post x μ) : WT p l e R s d0 m args below meth c H locs (QL ω below Post args s) (F0 m pc ls [.long (jv x)]) := by
  refine W.endD G.2.1 ?_
  refine W.widen (k := oB ω + 600000 - s.heap.size) (n := oT ω + 7302250 - tot s.heap) G.rm2.1 G.rm2.2 ?_
  exact W.lret (v := jv x) G.1.1 G.1.2.1 hr (fun t ht hW => ⟨⟨jv x, (μ, ρ), rfl, by show Post (jv x).toInt μ; rw [jv_toInt hx]; exact hp, G.sm.mv ht hW.alike⟩, G.2.2.2.1.F ht⟩) G.2.2.2.1.2.2 hdg hlk
theorem xc_lV (G : Gd ω ρ μ p m c cc nL s args own d0 R H locs) {y : MethodName} {by0 : ByteArray} {n mL idx fr lo fr0 lo0 : Nat} {b : Int} {bq ci N : Nat} {T : u_T} {As st0 : List Value} {Post : Int → M3 → Prop} (hC : CtL ω l y by0 mL fr0 lo0 (.ref bq :: As) μ Post) (h1 : Cond.methodLink own idx y ∈ TG) (h2 : Cond.instanceMethod y ∈ TG) (h3 : Cond.selects y.cls y y ∈ TG) (hLY : LY b = ci) (hcl : vwCl[ci]? = some (y.cls, T, N)) (hci : ci < 100) (hq : ad ω ρ b = bq) (h4 : Cond.initialized y.cls ∈ TG) (h5 : Cond.code y by0 mL (some .long) ∈ TG) (hd : y.cls ≠ "java/lang/invoke/MethodHandle" ∧ y.cls ≠ "java/lang/invoke/VarHandle" ∧ (parseMethodDescriptor y.desc).map (fun d => d.parameters.length) = some n) (hR : R.frames = fr ∧ R.locals = lo) (hRR : Nat.ble (fr0 + 1) fr = true ∧ Nat.ble (8 + (mL + 11) + lo0) lo = true) (hn : As.length = n) (hst : st0 = As.reverse ++ .ref bq :: rest) (hw : (rest.map fun v => v.category).sum ≤ 8) (hls : ls.size = nL) (hdg : decode cc pc = .ok (.invokevirtual idx, 3)) (kk : ∀ (r : Int) (μ1 : M3) (ρ1 : Int → Nat) (d1 : Drawn) (H1 : Heap) (locs1 : List Loc), jr r → Post r μ1 → Gd ω ρ1 μ1 p m c cc nL s args own d1 R H1 locs1 → WT p l e R s d1 m args below meth c H1 locs1 Q (F0 m (pc + 3) ls (.long (jv r) :: rest))) : WT p l e R s d0 m args below meth c H locs Q (F0 m pc ls st0) := by
  subst hst
  have hRR2 : fr0 + 1 ≤ R.frames ∧ 8 + (mL + 11) + lo0 ≤ R.locals := by rw [hR.1, hR.2]; exact ⟨Nat.le_of_ble_eq_true hRR.1, Nat.le_of_ble_eq_true hRR.2⟩
  have ha := LY_lt (a := b) (by omega)
  have he : (wd ω ρ μ)[b.toNat]? = some (bq, .inr (ci, (List.range (NF ci)).map (fun (j : Nat) => cv ω ρ (FT ci j) (μ.1 b j)))) := by rw [wd_get ω ρ μ ha, en_obj ω ρ μ hLY hci, hq]
  have hpre : PreV (s.setDrawn d0) H y.cls bq (va_Pc (.ref bq :: As) (fun U => SU ω ρ μ H.size (tot H) U)) As := ⟨SU.fb, va_recv (s := s.setDrawn d0) G.2.2.1.2.2.1 G.2.2.1.1 hcl he, fun U hU hW => ⟨rfl, G.pre U hU hW⟩⟩
  refine va_calllD G.2.1 (va_runV_D (s := s.setDrawn d0) (As := As) (rest := rest) ⟨G.1.1, G.1.2.1, G.1.2.2.1, G.1.2.2.2.1, dr_words G.1.2.2.2.2 d0⟩ (hC ρ H.size (tot H)) (cwV n (dr_words G.1.2.2.2.2 d0) (gi_V (gi_c h5) h1 h2 h3 h4) rfl rfl rfl ⟨rfl, hd⟩ hRR2) hpre rfl hn hls rfl (lv_room hw) hdg G.rm) G.2.2.2.1 (fun q _ h => h) (fun q h => h) (fun r u t H1 locs1 ht hvm hw9 hB hz1 hk1 hS d1 hd1 => ?_)
  refine WT.use (fun b1 b2 b3 b4 => ?_)
  have h9 := kk r.toInt u.1 u.2 d1 H1 locs1 (jr_of r) hw9 (G.back hd1 hB ht hvm hS b3)
  rw [jv_of] at h9
  exact h9
theorem xc_lS (G : Gd ω ρ μ p m c cc nL s args own d0 R H locs) {y : MethodName} {by0 : ByteArray} {n mL idx fr lo fr0 lo0 : Nat} {As st0 : List Value} {Post : Int → M3 → Prop} (hC : CtL ω l y by0 mL fr0 lo0 As μ Post) (h1 : Cond.methodLink own idx y ∈ TG) (h2 : Cond.static y ∈ TG) (h4 : Cond.initialized y.cls ∈ TG) (h5 : Cond.code y by0 mL (some .long) ∈ TG) (hd : y.cls ≠ "java/lang/invoke/MethodHandle" ∧ y.cls ≠ "java/lang/invoke/VarHandle" ∧ (parseMethodDescriptor y.desc).map (fun d => d.parameters.length) = some n) (hR : R.frames = fr ∧ R.locals = lo) (hRR : Nat.ble (fr0 + 1) fr = true ∧ Nat.ble (8 + (mL + 11) + lo0) lo = true) (hn : As.length = n) (hst : st0 = As.reverse ++ rest) (hw : (rest.map fun v => v.category).sum ≤ 8) (hls : ls.size = nL) (hdg : decode cc pc = .ok (.invokestatic idx, 3)) (kk : ∀ (r : Int) (μ1 : M3) (ρ1 : Int → Nat) (d1 : Drawn) (H1 : Heap) (locs1 : List Loc), jr r → Post r μ1 → Gd ω ρ1 μ1 p m c cc nL s args own d1 R H1 locs1 → WT p l e R s d1 m args below meth c H1 locs1 Q (F0 m (pc + 3) ls (.long (jv r) :: rest))) : WT p l e R s d0 m args below meth c H locs Q (F0 m pc ls st0) := by
  subst hst
  have hRR2 : fr0 + 1 ≤ R.frames ∧ 8 + (mL + 11) + lo0 ≤ R.locals := by rw [hR.1, hR.2]; exact ⟨Nat.le_of_ble_eq_true hRR.1, Nat.le_of_ble_eq_true hRR.2⟩
  refine va_calllD G.2.1 (va_runS_D (s := s.setDrawn d0) (As := As) (rest := rest) ⟨G.1.1, G.1.2.1, G.1.2.2.1, G.1.2.2.2.1, dr_words G.1.2.2.2.2 d0⟩ (hC ρ H.size (tot H)) (va_cwS n (dr_words G.1.2.2.2.2 d0) (gi_S (gi_c h5) h1 h2 h4) rfl rfl rfl hd hRR2) ⟨SU.fb, fun U hU hW => ⟨rfl, G.pre U hU hW⟩⟩ rfl hn hls rfl (lv_room hw) hdg G.rm) G.2.2.2.1 (fun q _ h => h) (fun q h => h) (fun r u t H1 locs1 ht hvm hw9 hB hz1 hk1 hS d1 hd1 => ?_)
  refine WT.use (fun b1 b2 b3 b4 => ?_)
  have h9 := kk r.toInt u.1 u.2 d1 H1 locs1 (jr_of r) hw9 (G.back hd1 hB ht hvm hS b3)
  rw [jv_of] at h9
  exact h9
def CtD (ω : Om) (l : Launch) (y : MethodName) (cc : ByteArray) (nL : Nat) (fr lo : Nat) (av : List Value) (μ : M3) (Post : Int → M3 → Prop) : Prop :=
  ∀ (ρ : Int → Nat) (sz tz : Nat), MetD lw_cs l y (Cond.code y cc nL (some .double) :: TG) (RMm ω sz tz fr lo) (va_Pc av (fun U => SU ω ρ μ sz tz U)) (va_Qd (fun (r : UInt64) (u : M3 × (Int → Nat)) => Post (r.toNat : Int) u.1) (Bw ω) (Aw ω)) (oB ω + 600000 - sz) (oT ω + 7302250 - tz) (Aw ω)
abbrev QD (ω : Om) (below : List Frame) (Post : Int → M3 → Prop) (args : Array Value) (s : State) : State → Prop := MQD lw_cs below (va_Qd (fun (r : UInt64) (u : M3 × (Int → Nat)) => Post (r.toNat : Int) u.1) (Bw ω) (Aw ω)) args s (oB ω + 600000 - s.heap.size) (oT ω + 7302250 - tot s.heap) (Aw ω)
theorem CtD.go {y : MethodName} {fr lo : Nat} {av : List Value} {Post : Int → M3 → Prop} (hy : plainName y.cls = true) (hlen : (lg_sl av).length ≤ nL) (h : ∀ (ρ : Int → Nat) (p : Program) (e : Env) (s : State) (m : MethodId) (below : List Frame) (meth : Method) (c : Code) (R : Room) (ls : Array Slot), Gd ω ρ μ p m c cc nL s av.toArray y.cls s.drawn R s.heap [] → R.frames = fr ∧ R.locals = lo → meth.sig.returnType = (some .double) → meth.locks = false → lv_has ls nL (lv_args 0 av) → WT p l e R s s.drawn m av.toArray below meth c s.heap [] (QD ω below Post av.toArray s) (F0 m 0 ls [])) : CtD ω l y cc nL fr lo av μ Post := by
  intro ρ sz tz
  refine MetD.ofW (cc := cc) (maxL := nL) (ret := (some .double)) hy rfl ?_
  intro p e s m args below meth c s₁ B hml hv hd0
  obtain ⟨rfl, hSm, hsz, htz, hB0, hE⟩ := hv
  subst hsz; subst htz
  have hts := atoms_spec (ws := Cond.code y cc nL (some .double) :: TG) B.pre
  rw [lg_entry_eq]
  refine WT.use (fun b1 b2 b3 b4 => ?_)
  exact h ρ p e s m below meth c _ _ ⟨⟨B.exec, B.bytes, hml, findClass_of_methodNamed B.named, fun w hw => hts w (List.mem_cons_of_mem _ hw)⟩, hd0, hSm, va_S.rf, hB0, rfl, rfl, Nat.le_refl _, hE⟩ ⟨rfl, rfl⟩ B.returns B.notSynchronized (lv_entry av hlen)
theorem xr_d (G : Gd ω ρ μ p m c cc nL s args own d0 R H locs) {Post : Int → M3 → Prop} (hr : meth.sig.returnType = some .double) (hlk : meth.locks = false) {x : UInt64} (hdg : decode cc pc = .ok (.dreturn, 1)) (hp : Post (x.toNat : Int) μ) : WT p l e R s d0 m args below meth c H locs (QD ω below Post args s) (F0 m pc ls [.double x]) := by
  refine W.endD G.2.1 ?_
  refine W.widen (k := oB ω + 600000 - s.heap.size) (n := oT ω + 7302250 - tot s.heap) G.rm2.1 G.rm2.2 ?_
  exact W.dret (v := x) G.1.1 G.1.2.1 hr (fun t ht hW => ⟨⟨x, (μ, ρ), rfl, hp, G.sm.mv ht hW.alike⟩, G.2.2.2.1.F ht⟩) G.2.2.2.1.2.2 hdg hlk
theorem xc_dV (G : Gd ω ρ μ p m c cc nL s args own d0 R H locs) {y : MethodName} {by0 : ByteArray} {n mL idx fr lo fr0 lo0 : Nat} {b : Int} {bq ci N : Nat} {T : u_T} {As st0 : List Value} {Post : Int → M3 → Prop} (hC : CtD ω l y by0 mL fr0 lo0 (.ref bq :: As) μ Post) (h1 : Cond.methodLink own idx y ∈ TG) (h2 : Cond.instanceMethod y ∈ TG) (h3 : Cond.selects y.cls y y ∈ TG) (hLY : LY b = ci) (hcl : vwCl[ci]? = some (y.cls, T, N)) (hci : ci < 100) (hq : ad ω ρ b = bq) (h4 : Cond.initialized y.cls ∈ TG) (h5 : Cond.code y by0 mL (some .double) ∈ TG) (hd : y.cls ≠ "java/lang/invoke/MethodHandle" ∧ y.cls ≠ "java/lang/invoke/VarHandle" ∧ (parseMethodDescriptor y.desc).map (fun d => d.parameters.length) = some n) (hR : R.frames = fr ∧ R.locals = lo) (hRR : Nat.ble (fr0 + 1) fr = true ∧ Nat.ble (8 + (mL + 11) + lo0) lo = true) (hn : As.length = n) (hst : st0 = As.reverse ++ .ref bq :: rest) (hw : (rest.map fun v => v.category).sum ≤ 8) (hls : ls.size = nL) (hdg : decode cc pc = .ok (.invokevirtual idx, 3)) (kk : ∀ (r : Int) (μ1 : M3) (ρ1 : Int → Nat) (d1 : Drawn) (H1 : Heap) (locs1 : List Loc), Post r μ1 → Gd ω ρ1 μ1 p m c cc nL s args own d1 R H1 locs1 → WT p l e R s d1 m args below meth c H1 locs1 Q (F0 m (pc + 3) ls (.double (dv r) :: rest))) : WT p l e R s d0 m args below meth c H locs Q (F0 m pc ls st0) := by
  subst hst
  have hRR2 : fr0 + 1 ≤ R.frames ∧ 8 + (mL + 11) + lo0 ≤ R.locals := by rw [hR.1, hR.2]; exact ⟨Nat.le_of_ble_eq_true hRR.1, Nat.le_of_ble_eq_true hRR.2⟩
  have ha := LY_lt (a := b) (by omega)
  have he : (wd ω ρ μ)[b.toNat]? = some (bq, .inr (ci, (List.range (NF ci)).map (fun (j : Nat) => cv ω ρ (FT ci j) (μ.1 b j)))) := by rw [wd_get ω ρ μ ha, en_obj ω ρ μ hLY hci, hq]
  have hpre : PreV (s.setDrawn d0) H y.cls bq (va_Pc (.ref bq :: As) (fun U => SU ω ρ μ H.size (tot H) U)) As := ⟨SU.fb, va_recv (s := s.setDrawn d0) G.2.2.1.2.2.1 G.2.2.1.1 hcl he, fun U hU hW => ⟨rfl, G.pre U hU hW⟩⟩
  refine va_calldD G.2.1 (va_runV_D (s := s.setDrawn d0) (As := As) (rest := rest) ⟨G.1.1, G.1.2.1, G.1.2.2.1, G.1.2.2.2.1, dr_words G.1.2.2.2.2 d0⟩ (hC ρ H.size (tot H)) (cwV n (dr_words G.1.2.2.2.2 d0) (gi_V (gi_c h5) h1 h2 h3 h4) rfl rfl rfl ⟨rfl, hd⟩ hRR2) hpre rfl hn hls rfl (lv_room hw) hdg G.rm) G.2.2.2.1 (fun q _ h => h) (fun q h => h) (fun r u t H1 locs1 ht hvm hw9 hB hz1 hk1 hS d1 hd1 => ?_)
  refine WT.use (fun b1 b2 b3 b4 => ?_)
  have h9 := kk (r.toNat : Int) u.1 u.2 d1 H1 locs1 hw9 (G.back hd1 hB ht hvm hS b3)
  rw [dv_of] at h9
  exact h9
theorem xc_dS (G : Gd ω ρ μ p m c cc nL s args own d0 R H locs) {y : MethodName} {by0 : ByteArray} {n mL idx fr lo fr0 lo0 : Nat} {As st0 : List Value} {Post : Int → M3 → Prop} (hC : CtD ω l y by0 mL fr0 lo0 As μ Post) (h1 : Cond.methodLink own idx y ∈ TG) (h2 : Cond.static y ∈ TG) (h4 : Cond.initialized y.cls ∈ TG) (h5 : Cond.code y by0 mL (some .double) ∈ TG) (hd : y.cls ≠ "java/lang/invoke/MethodHandle" ∧ y.cls ≠ "java/lang/invoke/VarHandle" ∧ (parseMethodDescriptor y.desc).map (fun d => d.parameters.length) = some n) (hR : R.frames = fr ∧ R.locals = lo) (hRR : Nat.ble (fr0 + 1) fr = true ∧ Nat.ble (8 + (mL + 11) + lo0) lo = true) (hn : As.length = n) (hst : st0 = As.reverse ++ rest) (hw : (rest.map fun v => v.category).sum ≤ 8) (hls : ls.size = nL) (hdg : decode cc pc = .ok (.invokestatic idx, 3)) (kk : ∀ (r : Int) (μ1 : M3) (ρ1 : Int → Nat) (d1 : Drawn) (H1 : Heap) (locs1 : List Loc), Post r μ1 → Gd ω ρ1 μ1 p m c cc nL s args own d1 R H1 locs1 → WT p l e R s d1 m args below meth c H1 locs1 Q (F0 m (pc + 3) ls (.double (dv r) :: rest))) : WT p l e R s d0 m args below meth c H locs Q (F0 m pc ls st0) := by
  subst hst
  have hRR2 : fr0 + 1 ≤ R.frames ∧ 8 + (mL + 11) + lo0 ≤ R.locals := by rw [hR.1, hR.2]; exact ⟨Nat.le_of_ble_eq_true hRR.1, Nat.le_of_ble_eq_true hRR.2⟩
  refine va_calldD G.2.1 (va_runS_D (s := s.setDrawn d0) (As := As) (rest := rest) ⟨G.1.1, G.1.2.1, G.1.2.2.1, G.1.2.2.2.1, dr_words G.1.2.2.2.2 d0⟩ (hC ρ H.size (tot H)) (va_cwS n (dr_words G.1.2.2.2.2 d0) (gi_S (gi_c h5) h1 h2 h4) rfl rfl rfl hd hRR2) ⟨SU.fb, fun U hU hW => ⟨rfl, G.pre U hU hW⟩⟩ rfl hn hls rfl (lv_room hw) hdg G.rm) G.2.2.2.1 (fun q _ h => h) (fun q h => h) (fun r u t H1 locs1 ht hvm hw9 hB hz1 hk1 hS d1 hd1 => ?_)
  refine WT.use (fun b1 b2 b3 b4 => ?_)
  have h9 := kk (r.toNat : Int) u.1 u.2 d1 H1 locs1 hw9 (G.back hd1 hB ht hvm hS b3)
  rw [dv_of] at h9
  exact h9
def CtV (ω : Om) (l : Launch) (y : MethodName) (cc : ByteArray) (nL : Nat) (fr lo : Nat) (av : List Value) (μ : M3) (Post : M3 → Prop) : Prop :=
  ∀ (ρ : Int → Nat) (sz tz : Nat), MetD lw_cs l y (Cond.code y cc nL none :: TG) (RMm ω sz tz fr lo) (va_Pc av (fun U => SU ω ρ μ sz tz U)) (va_Qv (fun (u : M3 × (Int → Nat)) => Post u.1) (Bw ω) (Aw ω)) (oB ω + 600000 - sz) (oT ω + 7302250 - tz) (Aw ω)
abbrev QV (ω : Om) (below : List Frame) (Post : M3 → Prop) (args : Array Value) (s : State) : State → Prop := MQD lw_cs below (va_Qv (fun (u : M3 × (Int → Nat)) => Post u.1) (Bw ω) (Aw ω)) args s (oB ω + 600000 - s.heap.size) (oT ω + 7302250 - tot s.heap) (Aw ω)
theorem CtV.go {y : MethodName} {fr lo : Nat} {av : List Value} {Post : M3 → Prop} (hy : plainName y.cls = true) (hlen : (lg_sl av).length ≤ nL) (h : ∀ (ρ : Int → Nat) (p : Program) (e : Env) (s : State) (m : MethodId) (below : List Frame) (meth : Method) (c : Code) (R : Room) (ls : Array Slot), Gd ω ρ μ p m c cc nL s av.toArray y.cls s.drawn R s.heap [] → R.frames = fr ∧ R.locals = lo → meth.sig.returnType = none → meth.locks = false → lv_has ls nL (lv_args 0 av) → WT p l e R s s.drawn m av.toArray below meth c s.heap [] (QV ω below Post av.toArray s) (F0 m 0 ls [])) : CtV ω l y cc nL fr lo av μ Post := by
  intro ρ sz tz
  refine MetD.ofW (cc := cc) (maxL := nL) (ret := none) hy rfl ?_
  intro p e s m args below meth c s₁ B hml hv hd0
  obtain ⟨rfl, hSm, hsz, htz, hB0, hE⟩ := hv
  subst hsz; subst htz
  have hts := atoms_spec (ws := Cond.code y cc nL none :: TG) B.pre
  rw [lg_entry_eq]
  refine WT.use (fun b1 b2 b3 b4 => ?_)
  exact h ρ p e s m below meth c _ _ ⟨⟨B.exec, B.bytes, hml, findClass_of_methodNamed B.named, fun w hw => hts w (List.mem_cons_of_mem _ hw)⟩, hd0, hSm, va_S.rf, hB0, rfl, rfl, Nat.le_refl _, hE⟩ ⟨rfl, rfl⟩ B.returns B.notSynchronized (lv_entry av hlen)
theorem xr_v (G : Gd ω ρ μ p m c cc nL s args own d0 R H locs) {Post : M3 → Prop} (hr : meth.sig.returnType = none) (hlk : meth.locks = false) (hdg : decode cc pc = .ok (.return_, 1)) (hp : Post μ) : WT p l e R s d0 m args below meth c H locs (QV ω below Post args s) (F0 m pc ls []) := by
  refine W.endD G.2.1 ?_
  refine W.widen (k := oB ω + 600000 - s.heap.size) (n := oT ω + 7302250 - tot s.heap) G.rm2.1 G.rm2.2 ?_
  exact W.vret G.1.1 G.1.2.1 hr (fun t ht hW => ⟨⟨(μ, ρ), rfl, hp, G.sm.mv ht hW.alike⟩, G.2.2.2.1.F ht⟩) G.2.2.2.1.2.2 hdg hlk
theorem xc_vV (G : Gd ω ρ μ p m c cc nL s args own d0 R H locs) {y : MethodName} {by0 : ByteArray} {n mL idx fr lo fr0 lo0 : Nat} {b : Int} {bq ci N : Nat} {T : u_T} {As st0 : List Value} {Post : M3 → Prop} (hC : CtV ω l y by0 mL fr0 lo0 (.ref bq :: As) μ Post) (h1 : Cond.methodLink own idx y ∈ TG) (h2 : Cond.instanceMethod y ∈ TG) (h3 : Cond.selects y.cls y y ∈ TG) (hLY : LY b = ci) (hcl : vwCl[ci]? = some (y.cls, T, N)) (hci : ci < 100) (hq : ad ω ρ b = bq) (h4 : Cond.initialized y.cls ∈ TG) (h5 : Cond.code y by0 mL none ∈ TG) (hd : y.cls ≠ "java/lang/invoke/MethodHandle" ∧ y.cls ≠ "java/lang/invoke/VarHandle" ∧ (parseMethodDescriptor y.desc).map (fun d => d.parameters.length) = some n) (hR : R.frames = fr ∧ R.locals = lo) (hRR : Nat.ble (fr0 + 1) fr = true ∧ Nat.ble (8 + (mL + 11) + lo0) lo = true) (hn : As.length = n) (hst : st0 = As.reverse ++ .ref bq :: rest) (hw : (rest.map fun v => v.category).sum ≤ 8) (hls : ls.size = nL) (hdg : decode cc pc = .ok (.invokevirtual idx, 3)) (kk : ∀ (μ1 : M3) (ρ1 : Int → Nat) (d1 : Drawn) (H1 : Heap) (locs1 : List Loc), Post μ1 → Gd ω ρ1 μ1 p m c cc nL s args own d1 R H1 locs1 → WT p l e R s d1 m args below meth c H1 locs1 Q (F0 m (pc + 3) ls rest)) : WT p l e R s d0 m args below meth c H locs Q (F0 m pc ls st0) := by
  subst hst
  have hRR2 : fr0 + 1 ≤ R.frames ∧ 8 + (mL + 11) + lo0 ≤ R.locals := by rw [hR.1, hR.2]; exact ⟨Nat.le_of_ble_eq_true hRR.1, Nat.le_of_ble_eq_true hRR.2⟩
  have ha := LY_lt (a := b) (by omega)
  have he : (wd ω ρ μ)[b.toNat]? = some (bq, .inr (ci, (List.range (NF ci)).map (fun (j : Nat) => cv ω ρ (FT ci j) (μ.1 b j)))) := by rw [wd_get ω ρ μ ha, en_obj ω ρ μ hLY hci, hq]
  have hpre : PreV (s.setDrawn d0) H y.cls bq (va_Pc (.ref bq :: As) (fun U => SU ω ρ μ H.size (tot H) U)) As := ⟨SU.fb, va_recv (s := s.setDrawn d0) G.2.2.1.2.2.1 G.2.2.1.1 hcl he, fun U hU hW => ⟨rfl, G.pre U hU hW⟩⟩
  refine va_callvD G.2.1 (va_runV_D (s := s.setDrawn d0) (As := As) (rest := rest) ⟨G.1.1, G.1.2.1, G.1.2.2.1, G.1.2.2.2.1, dr_words G.1.2.2.2.2 d0⟩ (hC ρ H.size (tot H)) (cwV n (dr_words G.1.2.2.2.2 d0) (gi_V (gi_c h5) h1 h2 h3 h4) rfl rfl rfl ⟨rfl, hd⟩ hRR2) hpre rfl hn hls rfl (lv_room hw) hdg G.rm) G.2.2.2.1 (fun q _ h => h) (fun q h => h) (fun u t H1 locs1 ht hvm hw9 hB hz1 hk1 hS d1 hd1 => ?_)
  refine WT.use (fun b1 b2 b3 b4 => ?_)
  exact kk u.1 u.2 d1 H1 locs1 hw9 (G.back hd1 hB ht hvm hS b3)
theorem xc_vS (G : Gd ω ρ μ p m c cc nL s args own d0 R H locs) {y : MethodName} {by0 : ByteArray} {n mL idx fr lo fr0 lo0 : Nat} {As st0 : List Value} {Post : M3 → Prop} (hC : CtV ω l y by0 mL fr0 lo0 As μ Post) (h1 : Cond.methodLink own idx y ∈ TG) (h2 : Cond.static y ∈ TG) (h4 : Cond.initialized y.cls ∈ TG) (h5 : Cond.code y by0 mL none ∈ TG) (hd : y.cls ≠ "java/lang/invoke/MethodHandle" ∧ y.cls ≠ "java/lang/invoke/VarHandle" ∧ (parseMethodDescriptor y.desc).map (fun d => d.parameters.length) = some n) (hR : R.frames = fr ∧ R.locals = lo) (hRR : Nat.ble (fr0 + 1) fr = true ∧ Nat.ble (8 + (mL + 11) + lo0) lo = true) (hn : As.length = n) (hst : st0 = As.reverse ++ rest) (hw : (rest.map fun v => v.category).sum ≤ 8) (hls : ls.size = nL) (hdg : decode cc pc = .ok (.invokestatic idx, 3)) (kk : ∀ (μ1 : M3) (ρ1 : Int → Nat) (d1 : Drawn) (H1 : Heap) (locs1 : List Loc), Post μ1 → Gd ω ρ1 μ1 p m c cc nL s args own d1 R H1 locs1 → WT p l e R s d1 m args below meth c H1 locs1 Q (F0 m (pc + 3) ls rest)) : WT p l e R s d0 m args below meth c H locs Q (F0 m pc ls st0) := by
  subst hst
  have hRR2 : fr0 + 1 ≤ R.frames ∧ 8 + (mL + 11) + lo0 ≤ R.locals := by rw [hR.1, hR.2]; exact ⟨Nat.le_of_ble_eq_true hRR.1, Nat.le_of_ble_eq_true hRR.2⟩
  refine va_callvD G.2.1 (va_runS_D (s := s.setDrawn d0) (As := As) (rest := rest) ⟨G.1.1, G.1.2.1, G.1.2.2.1, G.1.2.2.2.1, dr_words G.1.2.2.2.2 d0⟩ (hC ρ H.size (tot H)) (va_cwS n (dr_words G.1.2.2.2.2 d0) (gi_S (gi_c h5) h1 h2 h4) rfl rfl rfl hd hRR2) ⟨SU.fb, fun U hU hW => ⟨rfl, G.pre U hU hW⟩⟩ rfl hn hls rfl (lv_room hw) hdg G.rm) G.2.2.2.1 (fun q _ h => h) (fun q h => h) (fun u t H1 locs1 ht hvm hw9 hB hz1 hk1 hS d1 hd1 => ?_)
  refine WT.use (fun b1 b2 b3 b4 => ?_)
  exact kk u.1 u.2 d1 H1 locs1 hw9 (G.back hd1 hB ht hvm hS b3)
end CON
