/-! contracts of methods that answer a reference -/
section CON
variable {p : Program} {l : Launch} {e : Env} {R : Room} {s : State} {d0 : Drawn} {m : MethodId} {args : Array Value} {below : List Frame} {meth : Method} {c : Code} {H : Heap} {locs : List Loc} {Q : State → Prop} {cc : ByteArray} {nL pc : Nat} {own : String} {ls : Array Slot} {rest : List Value} {ω : Om} {ρ : Int → Nat} {μ : M3}
abbrev QrS (ω : Om) (Post : Int → M3 → Prop) : Array Value → State → Outcome → State → Prop := va_Qr (fun (u : Int × M3 × (Int → Nat)) => Post u.1 u.2.1) (fun u a t => Sm ω u.2.2 u.2.1 t t.heap ∧ a = oP ω u.1) (Aw ω)
def CtR (ω : Om) (l : Launch) (y : MethodName) (cc : ByteArray) (nL : Nat) (rt : FieldType) (fr lo : Nat) (av : List Value) (μ : M3) (Post : Int → M3 → Prop) : Prop :=
  ∀ (ρ : Int → Nat) (sz tz : Nat), MetD lw_cs l y (Cond.code y cc nL (some rt) :: TG) (RMm ω sz tz fr lo) (va_Pc av (fun U => SU ω ρ μ sz tz U)) (QrS ω Post) (oB ω + 600000 - sz) (oT ω + 7302250 - tz) (Aw ω)
abbrev QR (ω : Om) (below : List Frame) (Post : Int → M3 → Prop) (args : Array Value) (s : State) : State → Prop := MQD lw_cs below (QrS ω Post) args s (oB ω + 600000 - s.heap.size) (oT ω + 7302250 - tot s.heap) (Aw ω)
theorem CtR.go {y : MethodName} {rt : FieldType} {fr lo : Nat} {av : List Value} {Post : Int → M3 → Prop} (hy : plainName y.cls = true) (hlen : (lg_sl av).length ≤ nL) (h : ∀ (ρ : Int → Nat) (p : Program) (e : Env) (s : State) (m : MethodId) (below : List Frame) (meth : Method) (c : Code) (R : Room) (ls : Array Slot), Gd ω ρ μ p m c cc nL s av.toArray y.cls s.drawn R s.heap [] → R.frames = fr ∧ R.locals = lo → meth.sig.returnType = (some rt) → meth.locks = false → lv_has ls nL (lv_args 0 av) → WT p l e R s s.drawn m av.toArray below meth c s.heap [] (QR ω below Post av.toArray s) (F0 m 0 ls [])) : CtR ω l y cc nL rt fr lo av μ Post := by
  intro ρ sz tz
  refine MetD.ofW (cc := cc) (maxL := nL) (ret := (some rt)) hy rfl ?_
  intro p e s m args below meth c s₁ B hml hv hd0
  obtain ⟨rfl, hSm, hsz, htz, hB0, hE⟩ := hv
  subst hsz; subst htz
  have hts := atoms_spec (ws := Cond.code y cc nL (some rt) :: TG) B.pre
  rw [lg_entry_eq]
  refine WT.use (fun b1 b2 b3 b4 => ?_)
  exact h ρ p e s m below meth c _ _ ⟨⟨B.exec, B.bytes, hml, findClass_of_methodNamed B.named, fun w hw => hts w (List.mem_cons_of_mem _ hw)⟩, hd0, hSm, va_S.rf, hB0, rfl, rfl, Nat.le_refl _, hE⟩ ⟨rfl, rfl⟩ B.returns B.notSynchronized (lv_entry av hlen)
theorem xr_r (G : Gd ω ρ μ p m c cc nL s args own d0 R H locs) {n : String} {Post : Int → M3 → Prop} (hr : meth.sig.returnType = some (.object n)) (hlk : meth.locks = false) {b : Int} (hdg : decode cc pc = .ok (.areturn, 1)) (hp : Post b μ) : WT p l e R s d0 m args below meth c H locs (QR ω below Post args s) (F0 m pc ls [.ref (oP ω b)]) := by
  refine W.endD G.2.1 ?_
  refine W.widen (k := oB ω + 600000 - s.heap.size) (n := oT ω + 7302250 - tot s.heap) G.rm2.1 G.rm2.2 ?_
  exact W.aret (v := .ref (oP ω b)) G.1.1 G.1.2.1 hr (Or.inl ⟨n, rfl⟩) (Or.inr ⟨_, rfl⟩) (fun t ht hW => ⟨⟨(b, μ, ρ), oP ω b, rfl, hp, G.sm.mv ht hW.alike, rfl⟩, G.2.2.2.1.F ht⟩) G.2.2.2.1.2.2 hdg hlk
theorem xc_rV (G : Gd ω ρ μ p m c cc nL s args own d0 R H locs) {y : MethodName} {by0 : ByteArray} {n mL idx fr lo fr0 lo0 : Nat} {rt : FieldType} {b : Int} {bq ci N : Nat} {T : u_T} {As st0 : List Value} {Post : Int → M3 → Prop} (hC : CtR ω l y by0 mL rt fr0 lo0 (.ref bq :: As) μ Post) (h1 : Cond.methodLink own idx y ∈ TG) (h2 : Cond.instanceMethod y ∈ TG) (h3 : Cond.selects y.cls y y ∈ TG) (hLY : LY b = ci) (hcl : vwCl[ci]? = some (y.cls, T, N)) (hci : ci < 100) (hq : ad ω ρ b = bq) (h4 : Cond.initialized y.cls ∈ TG) (h5 : Cond.code y by0 mL (some rt) ∈ TG) (hd : y.cls ≠ "java/lang/invoke/MethodHandle" ∧ y.cls ≠ "java/lang/invoke/VarHandle" ∧ (parseMethodDescriptor y.desc).map (fun d => d.parameters.length) = some n) (hR : R.frames = fr ∧ R.locals = lo) (hRR : Nat.ble (fr0 + 1) fr = true ∧ Nat.ble (8 + (mL + 11) + lo0) lo = true) (hn : As.length = n) (hst : st0 = As.reverse ++ .ref bq :: rest) (hw : (rest.map fun v => v.category).sum ≤ 8) (hls : ls.size = nL) (hdg : decode cc pc = .ok (.invokevirtual idx, 3)) (kk : ∀ (r : Int) (μ1 : M3) (ρ1 : Int → Nat) (d1 : Drawn) (H1 : Heap) (locs1 : List Loc), Post r μ1 → Gd ω ρ1 μ1 p m c cc nL s args own d1 R H1 locs1 → WT p l e R s d1 m args below meth c H1 locs1 Q (F0 m (pc + 3) ls (.ref (oP ω r) :: rest))) : WT p l e R s d0 m args below meth c H locs Q (F0 m pc ls st0) := by
  subst hst
  have hRR2 : fr0 + 1 ≤ R.frames ∧ 8 + (mL + 11) + lo0 ≤ R.locals := by rw [hR.1, hR.2]; exact ⟨Nat.le_of_ble_eq_true hRR.1, Nat.le_of_ble_eq_true hRR.2⟩
  have ha := LY_lt (a := b) (by omega)
  have he : (wd ω ρ μ)[b.toNat]? = some (bq, .inr (ci, (List.range (NF ci)).map (fun (j : Nat) => cv ω ρ (FT ci j) (μ.1 b j)))) := by rw [wd_get ω ρ μ ha, en_obj ω ρ μ hLY hci, hq]
  have hpre : PreV (s.setDrawn d0) H y.cls bq (va_Pc (.ref bq :: As) (fun U => SU ω ρ μ H.size (tot H) U)) As := ⟨SU.fb, va_recv (s := s.setDrawn d0) G.2.2.1.2.2.1 G.2.2.1.1 hcl he, fun U hU hW => ⟨rfl, G.pre U hU hW⟩⟩
  refine va_callrD G.2.1 (va_runV_D (s := s.setDrawn d0) (As := As) (rest := rest) ⟨G.1.1, G.1.2.1, G.1.2.2.1, G.1.2.2.2.1, dr_words G.1.2.2.2.2 d0⟩ (hC ρ H.size (tot H)) (cwV n (dr_words G.1.2.2.2.2 d0) (gi_V (gi_c h5) h1 h2 h3 h4) rfl rfl rfl ⟨rfl, hd⟩ hRR2) hpre rfl hn hls rfl (lv_room hw) hdg G.rm) G.2.2.2.1 (fun q _ h => h) (fun q h => h) (fun u ra t H1 locs1 ht hvm hw9 hB hz1 hk1 hS d1 hd1 => ?_)
  refine WT.use (fun b1 b2 b3 b4 => ?_)
  obtain ⟨hB, rfl⟩ := hB
  exact kk u.1 u.2.1 u.2.2 d1 H1 locs1 hw9 (G.back hd1 hB ht hvm hS b3)
theorem xb_tout (hx : p.tables.exec = Jvm.exec) (hb : c.code = cc) {dflt lo hi : Int} {offs : Array Int} {len : Nat} {x : Int} {tgt : Nat} (hxr : ir x) (hdg : decode cc pc = .ok (.tableswitch dflt lo hi offs, len)) (h : x < lo ∨ hi < x) (ht : (pc : Int) + dflt = (tgt : Int)) (k : WT p l e R s d0 m args below meth c H locs Q (F0 m tgt ls rest)) : WT p l e R s d0 m args below meth c H locs Q (F0 m pc ls (.int (iv x) :: rest)) :=
  lv_tableOut hx hb hdg (by rw [iv_toInt hxr]; exact h) ht k
theorem xb_tin (hx : p.tables.exec = Jvm.exec) (hb : c.code = cc) {dflt lo hi : Int} {offs : Array Int} {len : Nat} {x off : Int} {tgt : Nat} (hxr : ir x) (hdg : decode cc pc = .ok (.tableswitch dflt lo hi offs, len)) (h : lo ≤ x ∧ x ≤ hi) (ho : offs[(x - lo).toNat]? = some off) (ht : (pc : Int) + off = (tgt : Int)) (k : WT p l e R s d0 m args below meth c H locs Q (F0 m tgt ls rest)) : WT p l e R s d0 m args below meth c H locs Q (F0 m pc ls (.int (iv x) :: rest)) :=
  lv_tableIn hx hb hdg (by rw [iv_toInt hxr]; omega) (by rw [iv_toInt hxr]; omega) (by rw [iv_toInt hxr]; exact ho) ht k
theorem xb_lsw (hx : p.tables.exec = Jvm.exec) (hb : c.code = cc) {dflt : Int} {ps : Array (Int × Int)} {len : Nat} {x off : Int} {tgt : Nat} (hxr : ir x) (hdg : decode cc pc = .ok (.lookupswitch dflt ps, len)) (hp : (ps.toList.zip (ps.toList.drop 1)).all (fun (a, next) => a.1 < next.1) = true) (ho : Op.lookupswitch.offset ps.toList dflt x = off) (ht : (pc : Int) + off = (tgt : Int)) (k : WT p l e R s d0 m args below meth c H locs Q (F0 m tgt ls rest)) : WT p l e R s d0 m args below meth c H locs Q (F0 m pc ls (.int (iv x) :: rest)) :=
  lv_lookup hx hb hdg hp (by rw [iv_toInt hxr]; exact ho) ht k
end CON
theorem and3 {x y : Int} (h : iv y = iv x &&& iv 3) (hy : ir y) (hx : 0 ≤ x ∧ x ≤ 3) : y = x := by
  have h4 : x = 0 ∨ x = 1 ∨ x = 2 ∨ x = 3 := by omega
  rcases h4 with rfl | rfl | rfl | rfl
  · exact (iv_eq hy (by unfold ir; omega)).mp (h.trans (by decide))
  · exact (iv_eq hy (by unfold ir; omega)).mp (h.trans (by decide))
  · exact (iv_eq hy (by unfold ir; omega)).mp (h.trans (by decide))
  · exact (iv_eq hy (by unfold ir; omega)).mp (h.trans (by decide))
