/-! what a walk stands on -/
def NWL : List Cond := [.fieldLinkNest "FourTongues$Parser" 80 "FourTongues$Tokens" "kind" "I" "FourTongues", .fieldLinkNest "FourTongues$Parser" 96 "FourTongues$Tokens" "place" "I" "FourTongues", .fieldLinkNest "FourTongues$Parser" 133 "FourTongues$Tokens" "whole" "J" "FourTongues", .fieldLinkNest "FourTongues$Parser" 304 "FourTongues$Tokens" "real" "D" "FourTongues"]
def tx1 : String := "(){}[],;.&!=<>+-*/%"
def tx2 : String := "kind under fn let if else while return mark throw try catch finally fail on go with end exit open then clean do none new size cell tag bad throws codes values exits "
def by1 : List Int32 := tx1.toList.map (fun ch => Int32.ofNat ch.toNat)
def by2 : List Int32 := tx2.toList.map (fun ch => Int32.ofNat ch.toNat)
def Ex (ω : Om) (s : State) : Prop := (∀ w ∈ NWL, va_Nw w s) ∧ eS RX10 130 tx1 19 by1 (oS ω 0) (oS ω 1) (fun q => oB ω ≤ q) s ∧ eS RX12 259 tx2 165 by2 (oS ω 2) (oS ω 3) (fun q => oB ω ≤ q) s
def Gd (ω : Om) (ρ : Int → Nat) (μ : M3) (p : Program) (m : MethodId) (c : Code) (cc : ByteArray) (nL : Nat) (s : State) (args : Array Value) (own : String) (d0 : Drawn) (R : Room) (H : Heap) (locs : List Loc) : Prop :=
  (p.tables.exec = Jvm.exec ∧ c.code = cc ∧ c.maxLocals = nL ∧ s.vm.findClass own = some m.cls ∧ ∀ w ∈ TG, w.before args s = true) ∧ s.drawn.sameBut d0 lw_cs ∧ Sm ω ρ μ s H ∧ va_S (fun q => oB ω ≤ q) s.heap H locs ∧ oB ω ≤ s.heap.size ∧ R.cells = oB ω + 600000 - s.heap.size ∧ R.slots = oT ω + 7302250 - tot s.heap ∧ tot s.heap ≤ tot H ∧ Ex ω s
/-- a class's fields, as the tables have them -/
def Fdd (ci : Nat) (C : String) (T : u_T) (N : Nat) (ty0 : Nat → FieldType) : Prop := vwCl[ci]? = some (C, T, N) ∧ (∀ w ∈ u_ws C T N, w ∈ TG) ∧ NF ci = N ∧ ci < 100 ∧ (∀ k, k < N → parseFieldDescriptor (T k).2.2.1 = some (ty0 k)) ∧ (∀ a, a < N → ∀ b, b < N → a ≠ b → (T a).2.1 ≠ (T b).2.1)
theorem ir0 : ir 0 := ⟨by omega, by omega⟩
theorem SRL_ok : ∀ q ∈ SRL, Nat.blt (LY q.1) 100 = true ∧ FT (LY q.1) q.2.1 = 3 := by decide +kernel
theorem Sr.put {μ : M3} (h : Sr μ) {a k x : Int} (hn : LY a < 100 → FT (LY a) k ≠ 3) (h12 : LY a ≠ 104) : Sr (sv μ a k x) := by
  have key : ∀ b j : Int, (LY b < 100 ∧ FT (LY b) j = 3) ∨ LY b = 104 → (sv μ a k x).1 b j = μ.1 b j := by
    intro b j hb
    show (if b = a ∧ j = k then x else μ.1 b j) = _
    rw [if_neg]
    rintro ⟨rfl, rfl⟩
    rcases hb with ⟨h1, h2⟩ | h1
    · exact hn h1 h2
    · exact h12 h1
  refine ⟨fun q hq => ?_, h.2.1, fun j => ?_, ?_, ?_, ?_⟩
  · obtain ⟨h1, h2⟩ := SRL_ok q hq
    rw [key _ _ (Or.inl ⟨(Nat.blt_eq).mp h1, h2⟩)]
    exact h.1 q hq
  · rw [key _ _ (Or.inr rfl)]; exact h.2.2.1 j
  · rw [key _ _ (Or.inl ⟨by decide, rfl⟩)]; exact h.2.2.2.1
  · rw [key _ _ (Or.inl ⟨by decide, rfl⟩)]; exact h.2.2.2.2.1
  · rw [key _ _ (Or.inl ⟨by decide, rfl⟩)]; exact h.2.2.2.2.2
theorem SRL_ap : ∀ q ∈ SRL, q.1 ≠ 12 ∧ ¬ (q.1 = 0 ∧ q.2.1 = 6) ∧ ¬ (q.1 = 32 ∧ q.2.1 = 10) ∧ ¬ (q.1 = 23 ∧ q.2.1 = 2) := by decide +kernel
/-- a Program put into one of the places that hold Programs -/
theorem Sr.putP {μ : M3} (h : Sr μ) {a k x : Int} (hx : isPr x) (hw : a = 12 ∨ (a = 0 ∧ k = 6) ∨ (a = 32 ∧ k = 10) ∨ (a = 23 ∧ k = 2)) : Sr (sv μ a k x) := by
  have key : ∀ b j : Int, isPr (μ.1 b j) → isPr ((sv μ a k x).1 b j) := by
    intro b j hb
    show isPr (if b = a ∧ j = k then x else μ.1 b j)
    by_cases e : b = a ∧ j = k
    · rw [if_pos e]; exact hx
    · rw [if_neg e]; exact hb
  refine ⟨fun q hq => ?_, h.2.1, fun j => key _ _ (h.2.2.1 j), key _ _ h.2.2.2.1, key _ _ h.2.2.2.2.1, key _ _ h.2.2.2.2.2⟩
  obtain ⟨g1, g2, g3, g4⟩ := SRL_ap q hq
  show (if q.1 = a ∧ q.2.1 = k then x else μ.1 q.1 q.2.1) = q.2.2
  rw [if_neg]
  · exact h.1 q hq
  · rintro ⟨e1, e2⟩
    rcases hw with rfl | ⟨rfl, rfl⟩ | ⟨rfl, rfl⟩ | ⟨rfl, rfl⟩
    · exact g1 e1
    · exact g2 ⟨e1, e2⟩
    · exact g3 ⟨e1, e2⟩
    · exact g4 ⟨e1, e2⟩
theorem isPr.ly {p : Int} (h : isPr p) : LY p = 7 := by
  rcases h with rfl | rfl | rfl | rfl | rfl <;> rfl
theorem Rg.put {μ : M3} (h : Rg μ) {a k x : Int} (h0 : (ty a k = 0 ∨ ty a k = 3) → ir x) (h1 : ty a k = 1 → jr x) : Rg (sv μ a k x) := by
  refine ⟨fun b j hb => ?_, fun b j hb => ?_, h.2.2⟩
  · by_cases e : b = a ∧ j = k
    · obtain ⟨rfl, rfl⟩ := e
      rw [sv_s]; exact h0 hb
    · show ir (if b = a ∧ j = k then x else μ.1 b j)
      rw [if_neg e]; exact h.1 b j hb
  · by_cases e : b = a ∧ j = k
    · obtain ⟨rfl, rfl⟩ := e
      rw [sv_s]; exact h1 hb
    · show jr (if b = a ∧ j = k then x else μ.1 b j)
      rw [if_neg e]; exact h.2.1 b j hb
section ROWS
variable {p : Program} {l : Launch} {e : Env} {R : Room} {s : State} {d0 : Drawn} {m : MethodId} {args : Array Value} {below : List Frame} {meth : Method} {c : Code} {H : Heap} {locs : List Loc} {Q : State → Prop} {cc : ByteArray} {nL pc : Nat} {own : String} {ls : Array Slot} {rest : List Value} {ω : Om} {ρ : Int → Nat} {μ : M3}
theorem Gd.sm (G : Gd ω ρ μ p m c cc nL s args own d0 R H locs) : Sm ω ρ μ s H := G.2.2.1
theorem Gd.hr (G : Gd ω ρ μ p m c cc nL s args own d0 R H locs) {a k : Int} (h : ty a k = 0) : ir (μ.1 a k) := G.2.2.1.2.2.2.1.1 a k (Or.inl h)
theorem Gd.hr3 (G : Gd ω ρ μ p m c cc nL s args own d0 R H locs) {a k : Int} (h : ty a k = 3) : ir (μ.1 a k) := G.2.2.1.2.2.2.1.1 a k (Or.inr h)
theorem Gd.hj (G : Gd ω ρ μ p m c cc nL s args own d0 R H locs) {a k : Int} (h : ty a k = 1) : jr (μ.1 a k) := G.2.2.1.2.2.2.1.2.1 a k h
theorem Gd.ln (G : Gd ω ρ μ p m c cc nL s args own d0 R H locs) (a : Int) : 0 ≤ μ.2.1 a ∧ μ.2.1 a ≤ 2147483647 := G.2.2.1.2.2.2.1.2.2 a
theorem Gd.sr (G : Gd ω ρ μ p m c cc nL s args own d0 R H locs) {a k b : Int} (h : (a, k, b) ∈ SRL) : μ.1 a k = b := G.2.2.1.2.2.2.2.1.1 (a, k, b) h
theorem Gd.lc (G : Gd ω ρ μ p m c cc nL s args own d0 R H locs) {a n : Int} (i : Nat) (h : LNL[i]? = some (a, n)) : μ.2.1 a = n := G.2.2.1.2.2.2.2.1.2.1 (a, n) (List.mem_of_getElem? h)
theorem Gd.sk (G : Gd ω ρ μ p m c cc nL s args own d0 R H locs) {a k b : Int} (i : Nat) (h : SRL[i]? = some (a, k, b)) : μ.1 a k = b := G.sr (List.mem_of_getElem? h)
/-- a heap that was written within: the bundle over it -/
theorem Gd.wr (G : Gd ω ρ μ p m c cc nL s args own d0 R H locs) {μ' : M3} {H1 : Heap} {locs1 : List Loc} (hP : va_P (ω.1, ω.2.1) vwCl (wd ω ρ μ') H1) (hD : va_D (fun q => oB ω ≤ q) (wd ω ρ μ')) (hS : va_S (fun q => oB ω ≤ q) s.heap H1 locs1) (hR : Rg μ') (hr : Sr μ') (hc : μ'.2.2 = μ.2.2)
    (b1 : H1.size ≤ s.heap.size + (H.size - s.heap.size)) (b2 : tot s.heap ≤ tot H1) (b3 : tot H1 ≤ tot s.heap + (tot H - tot s.heap)) : Gd ω ρ μ' p m c cc nL s args own d0 R H1 locs1 := by
  obtain ⟨a1, a2, ⟨c1, c2, c3, c4, c5, c6, c7, c8, c9⟩, a4, a5, a6, a7, a8, a9⟩ := G
  have h0 := a4.1
  refine ⟨a1, a2, ⟨hP, hD, c3, hR, hr, ?_, ?_, ?_, ?_⟩, hS, a5, a6, a7, b2, a9⟩
  · rw [hc]; omega
  · rw [hc]; omega
  · rw [hc]; exact c8
  · rw [hc]; exact c9
theorem xa_get (G : Gd ω ρ μ p m c cc nL s args own d0 R H locs) {ci N idx : Nat} {C : String} {T : u_T} {ty0 : Nat → FieldType} (F : Fdd ci C T N ty0) {a : Int} (k : Nat) (hLY : LY a = ci) (hk : k < N) {ref nm ds : String} (hlk : Cond.fieldLink own idx ref nm ds ∈ TG) (hT : ref = (T k).1 ∧ nm = (T k).2.1 ∧ ds = (T k).2.2.1) (hdg : decode cc pc = .ok (.getfield idx, 3)) {q : Nat} {v : Value} (hq : ad ω ρ a = q) (hv : cv ω ρ (FT ci k) (μ.1 a k) = v) (kk : WT p l e R s d0 m args below meth c H locs Q (F0 m (pc + 3) ls (v :: rest))) : WT p l e R s d0 m args below meth c H locs Q (F0 m pc ls (.ref q :: rest)) := by
  obtain ⟨f1, f2, f3, f4, f5, f6⟩ := F
  obtain ⟨rfl, rfl, rfl⟩ := hT
  have ha := LY_lt (a := a) (by omega)
  subst hq
  have he : (wd ω ρ μ)[a.toNat]? = some (ad ω ρ a, .inr (ci, (List.range (NF ci)).map (fun (j : Nat) => cv ω ρ (FT ci j) (μ.1 a j)))) := by rw [wd_get ω ρ μ ha, en_obj ω ρ μ hLY f4]
  have hf := fs_get (ω := ω) (ρ := ρ) (μ := μ) (a := a) (k := (k : Int)) (ci := ci) ⟨by omega, by omega⟩
  rw [Int.toNat_natCast, hv] at hf
  exact va_get (s := s.setDrawn d0) G.1.1 G.1.2.1 (dr_words G.1.2.2.2.2 d0) f2 G.1.2.2.2.1 G.2.2.1.2.2.1 G.2.2.1.1 a.toNat he f1 k hk (dr_words G.1.2.2.2.2 d0 _ hlk) (fun _ h => h) hf hdg kk
theorem xa_put (G : Gd ω ρ μ p m c cc nL s args own d0 R H locs) {ci N idx : Nat} {C : String} {T : u_T} {ty0 : Nat → FieldType} (F : Fdd ci C T N ty0) {a x : Int} (k : Nat) (hLY : LY a = ci) (hk : k < N) {ref nm ds : String} (hlk : Cond.fieldLink own idx ref nm ds ∈ TG) (hT : ref = (T k).1 ∧ nm = (T k).2.1 ∧ ds = (T k).2.2.1 ∧ (T k).2.2.2 = false) (hdg : decode cc pc = .ok (.putfield idx, 3)) {q : Nat} {v : Value} {tk : FieldType} (hq : ad ω ρ a = q) (hv : cv ω ρ (FT ci k) x = v) (hty : ty0 k = tk) (hn : narrow tk v = v) (hf : fits tk v = true)
    (hr0 : (FT ci k = 0 ∨ FT ci k = 3) → ir x) (hr1 : FT ci k = 1 → jr x) (hsr : Sr (sv μ a k x)) (kk : ∀ (H1 : Heap) (locs1 : List Loc), Gd ω ρ (sv μ a k x) p m c cc nL s args own d0 R H1 locs1 → WT p l e R s d0 m args below meth c H1 locs1 Q (F0 m (pc + 3) ls rest)) : WT p l e R s d0 m args below meth c H locs Q (F0 m pc ls (v :: .ref q :: rest)) := by
  obtain ⟨f1, f2, f3, f4, f5, f6⟩ := F
  obtain ⟨rfl, rfl, rfl, hfin⟩ := hT
  have ha := LY_lt (a := a) (by omega)
  subst hq
  have he : (wd ω ρ μ)[a.toNat]? = some (ad ω ρ a, .inr (ci, (List.range (NF ci)).map (fun (j : Nat) => cv ω ρ (FT ci j) (μ.1 a j)))) := by rw [wd_get ω ρ μ ha, en_obj ω ρ μ hLY f4]
  have hset : (wd ω ρ μ).set a.toNat (ad ω ρ a, .inr (ci, ((List.range (NF ci)).map (fun (j : Nat) => cv ω ρ (FT ci j) (μ.1 a j))).set k v)) = wd ω ρ (sv μ a k x) := by
    have h := fs_set (ω := ω) (ρ := ρ) (μ := μ) (a := a) (k := (k : Int)) (x := x) (ci := ci) ⟨by omega, by omega⟩
    rw [Int.toNat_natCast, hv] at h
    rw [h]
    exact wd_set ha.1 (fun b hb => en_other ω ρ μ k x hb) (en_obj ω ρ (sv μ a k x) hLY f4)
  have hty9 : ty a k = FT ci k := by
    unfold ty
    rw [hLY, show Nat.blt ci 100 = true from (Nat.blt_eq).mpr f4]
    rfl
  refine va_put (s := s.setDrawn d0) G.1.1 G.1.2.1 (dr_words G.1.2.2.2.2 d0) f2 ty0 f5 f6 G.1.2.2.2.1 G.2.2.1.2.2.1 G.2.2.1.1 G.2.2.1.2.1 G.2.2.2.1 a.toNat he f1 k hk (dr_words G.1.2.2.2.2 d0 _ hlk) (fun _ h => h) hfin (by rw [f5 k hk, hty]) hn hf (by rw [List.length_map, List.length_range, f3]; exact hk) hdg (fun H1 locs1 hP hD hS => ?_)
  rw [hset] at hP hD
  refine WT.use (fun b1 b2 b3 b4 => ?_)
  exact kk H1 locs1 (G.wr hP hD hS (G.2.2.1.2.2.2.1.put (fun h => hr0 (by rw [hty9] at h; exact h)) (fun h => hr1 (by rw [hty9] at h; exact h))) hsr rfl b2 b3 b4)
theorem xa_iald (G : Gd ω ρ μ p m c cc nL s args own d0 R H locs) {a i : Int} (hLY : LY a = 100) (hi : 0 ≤ i ∧ i < μ.2.1 a) (hdg : decode cc pc = .ok (.iaload, 1)) {q : Nat} (hq : ad ω ρ a = q) (kk : WT p l e R s d0 m args below meth c H locs Q (F0 m (pc + 1) ls (.int (iv (μ.1 a i)) :: rest))) : WT p l e R s d0 m args below meth c H locs Q (F0 m pc ls (.int (iv i) :: .ref q :: rest)) := by
  have ha := LY_lt (a := a) (by omega)
  subst hq
  have hl := (G.ln a).2
  have he : (wd ω ρ μ)[a.toNat]? = some (ad ω ρ a, .inl (oA ω 0, (μ.2.1 a).toNat, .inl (fun k => iv (μ.1 a k)))) := by rw [wd_get ω ρ μ ha, en_arr ω ρ μ (t := 0) hLY]; rfl
  refine va_iald (s := s.setDrawn d0) G.1.1 G.1.2.1 G.2.2.1.2.2.1 G.2.2.1.1 a.toNat 0 he rfl (iv_in hi hl) hdg ?_
  rw [iv_clamp (by unfold ir; omega), Int.toNat_of_nonneg hi.1]
  exact kk
theorem xa_iast (G : Gd ω ρ μ p m c cc nL s args own d0 R H locs) {a i x : Int} (hLY : LY a = 100) (hi : 0 ≤ i ∧ i < μ.2.1 a) (hx : ir x) (hdg : decode cc pc = .ok (.iastore, 1)) {q : Nat} (hq : ad ω ρ a = q) (kk : ∀ (H1 : Heap) (locs1 : List Loc), Gd ω ρ (sv μ a i x) p m c cc nL s args own d0 R H1 locs1 → WT p l e R s d0 m args below meth c H1 locs1 Q (F0 m (pc + 1) ls rest)) : WT p l e R s d0 m args below meth c H locs Q (F0 m pc ls (.int (iv x) :: .int (iv i) :: .ref q :: rest)) := by
  have ha := LY_lt (a := a) (by omega)
  subst hq
  have hl := (G.ln a).2
  have he : (wd ω ρ μ)[a.toNat]? = some (ad ω ρ a, .inl (oA ω 0, (μ.2.1 a).toNat, .inl (fun k => iv (μ.1 a k)))) := by rw [wd_get ω ρ μ ha, en_arr ω ρ μ (t := 0) hLY]; rfl
  have hset : (wd ω ρ μ).set a.toNat (ad ω ρ a, .inl (oA ω 0, (μ.2.1 a).toNat, .inl (upd (fun k => iv (μ.1 a k)) (iv i).toNatClampNeg (iv x)))) = wd ω ρ (sv μ a i x) := by
    refine wd_set ha.1 (fun b hb => en_other ω ρ μ i x hb) ?_
    rw [en_arr ω ρ (sv μ a i x) (t := 0) hLY, iv_clamp (by unfold ir; omega)]
    congr 3
    show Sum.inl (fun (k : Nat) => iv ((sv μ a i x).1 a k)) = Sum.inl (upd (fun (k : Nat) => iv (μ.1 a k)) i.toNat (iv x))
    congr 1
    funext k
    show iv (if a = a ∧ (k : Int) = i then x else μ.1 a k) = (if k = i.toNat then iv x else iv (μ.1 a k))
    by_cases h : k = i.toNat
    · rw [if_pos h, if_pos ⟨rfl, by omega⟩]
    · rw [if_neg h, if_neg (fun z => h (by omega))]
  have hty9 : ty a i = 0 := by
    unfold ty
    rw [hLY]
    rfl
  refine va_iast (s := s.setDrawn d0) G.1.1 G.1.2.1 G.2.2.1.2.2.1 G.2.2.1.1 G.2.2.1.2.1 G.2.2.2.1 a.toNat 0 he rfl (iv_in hi hl) hdg (fun H1 locs1 hP hD hS => ?_)
  rw [hset] at hP hD
  refine WT.use (fun b1 b2 b3 b4 => ?_)
  exact kk H1 locs1 (G.wr hP hD hS (G.2.2.1.2.2.2.1.put (fun _ => hx) (fun h => by rw [hty9] at h; cases h)) (G.2.2.1.2.2.2.2.1.put (fun h => by rw [hLY] at h; omega) (by omega)) rfl b2 b3 b4)
theorem xa_geti (G : Gd ω ρ μ p m c cc nL s args own d0 R H locs) {ci N idx : Nat} {C : String} {T : u_T} {ty0 : Nat → FieldType} (F : Fdd ci C T N ty0) {a : Int} (k : Nat) (hLY : LY a = ci) (hk : k < N) (hFT : FT ci k = 0) {ref nm ds : String} (hlk : Cond.fieldLink own idx ref nm ds ∈ TG) (hT : ref = (T k).1 ∧ nm = (T k).2.1 ∧ ds = (T k).2.2.1) (hdg : decode cc pc = .ok (.getfield idx, 3)) {q : Nat} {x : Int} (hq : ad ω ρ a = q) (hv : μ.1 a k = x) (kk : WT p l e R s d0 m args below meth c H locs Q (F0 m (pc + 3) ls (.int (iv x) :: rest))) : WT p l e R s d0 m args below meth c H locs Q (F0 m pc ls (.ref q :: rest)) :=
  xa_get G F k hLY hk hlk hT hdg hq (by rw [hFT, hv]; rfl) kk
theorem xa_getl (G : Gd ω ρ μ p m c cc nL s args own d0 R H locs) {ci N idx : Nat} {C : String} {T : u_T} {ty0 : Nat → FieldType} (F : Fdd ci C T N ty0) {a : Int} (k : Nat) (hLY : LY a = ci) (hk : k < N) (hFT : FT ci k = 1) {ref nm ds : String} (hlk : Cond.fieldLink own idx ref nm ds ∈ TG) (hT : ref = (T k).1 ∧ nm = (T k).2.1 ∧ ds = (T k).2.2.1) (hdg : decode cc pc = .ok (.getfield idx, 3)) {q : Nat} {x : Int} (hq : ad ω ρ a = q) (hv : μ.1 a k = x) (kk : WT p l e R s d0 m args below meth c H locs Q (F0 m (pc + 3) ls (.long (jv x) :: rest))) : WT p l e R s d0 m args below meth c H locs Q (F0 m pc ls (.ref q :: rest)) :=
  xa_get G F k hLY hk hlk hT hdg hq (by rw [hFT, hv]; rfl) kk
theorem xa_getd (G : Gd ω ρ μ p m c cc nL s args own d0 R H locs) {ci N idx : Nat} {C : String} {T : u_T} {ty0 : Nat → FieldType} (F : Fdd ci C T N ty0) {a : Int} (k : Nat) (hLY : LY a = ci) (hk : k < N) (hFT : FT ci k = 2) {ref nm ds : String} (hlk : Cond.fieldLink own idx ref nm ds ∈ TG) (hT : ref = (T k).1 ∧ nm = (T k).2.1 ∧ ds = (T k).2.2.1) (hdg : decode cc pc = .ok (.getfield idx, 3)) {q : Nat} {x : Int} (hq : ad ω ρ a = q) (hv : μ.1 a k = x) (kk : WT p l e R s d0 m args below meth c H locs Q (F0 m (pc + 3) ls (.double (dv x) :: rest))) : WT p l e R s d0 m args below meth c H locs Q (F0 m pc ls (.ref q :: rest)) :=
  xa_get G F k hLY hk hlk hT hdg hq (by rw [hFT, hv]; rfl) kk
theorem xa_getr (G : Gd ω ρ μ p m c cc nL s args own d0 R H locs) {ci N idx : Nat} {C : String} {T : u_T} {ty0 : Nat → FieldType} (F : Fdd ci C T N ty0) {a : Int} (k : Nat) (hLY : LY a = ci) (hk : k < N) (hFT : FT ci k = 3) {ref nm ds : String} (hlk : Cond.fieldLink own idx ref nm ds ∈ TG) (hT : ref = (T k).1 ∧ nm = (T k).2.1 ∧ ds = (T k).2.2.1) (hdg : decode cc pc = .ok (.getfield idx, 3)) {q q2 : Nat} {x : Int} (hq : ad ω ρ a = q) (hv : μ.1 a k = x) (h0 : 0 ≤ x) (hq2 : ad ω ρ x = q2) (kk : WT p l e R s d0 m args below meth c H locs Q (F0 m (pc + 3) ls (.ref q2 :: rest))) : WT p l e R s d0 m args below meth c H locs Q (F0 m pc ls (.ref q :: rest)) :=
  xa_get G F k hLY hk hlk hT hdg hq (by rw [hFT, hv, ← hq2]; show (if x < 0 then Value.null else Value.ref (ad ω ρ x)) = _; rw [if_neg (by omega)]) kk
theorem xa_getN (G : Gd ω ρ μ p m c cc nL s args own d0 R H locs) {ci N idx : Nat} {C : String} {T : u_T} {ty0 : Nat → FieldType} (F : Fdd ci C T N ty0) {a : Int} (k : Nat) (hLY : LY a = ci) (hk : k < N) {ref nm ds host : String} (hlk : Cond.fieldLinkNest own idx ref nm ds host ∈ NWL) (hT : ref = (T k).1 ∧ nm = (T k).2.1 ∧ ds = (T k).2.2.1) (hdg : decode cc pc = .ok (.getfield idx, 3)) {q : Nat} {v : Value} (hq : ad ω ρ a = q) (hv : cv ω ρ (FT ci k) (μ.1 a k) = v) (kk : WT p l e R s d0 m args below meth c H locs Q (F0 m (pc + 3) ls (v :: rest))) : WT p l e R s d0 m args below meth c H locs Q (F0 m pc ls (.ref q :: rest)) := by
  obtain ⟨f1, f2, f3, f4, f5, f6⟩ := F
  obtain ⟨rfl, rfl, rfl⟩ := hT
  have ha := LY_lt (a := a) (by omega)
  subst hq
  have he : (wd ω ρ μ)[a.toNat]? = some (ad ω ρ a, .inr (ci, (List.range (NF ci)).map (fun (j : Nat) => cv ω ρ (FT ci j) (μ.1 a j)))) := by rw [wd_get ω ρ μ ha, en_obj ω ρ μ hLY f4]
  have hf := fs_get (ω := ω) (ρ := ρ) (μ := μ) (a := a) (k := (k : Int)) (ci := ci) ⟨by omega, by omega⟩
  rw [Int.toNat_natCast, hv] at hf
  have hw : va_Nw (Cond.fieldLinkNest own idx (T k).1 (T k).2.1 (T k).2.2.1 host) (s.setDrawn d0) := va_Nw.same (u := s) (U := s.setDrawn d0) rfl rfl (G.2.2.2.2.2.2.2.2.1 _ hlk)
  exact va_getN (s := s.setDrawn d0) G.1.1 G.1.2.1 (dr_words G.1.2.2.2.2 d0) f2 G.1.2.2.2.1 G.2.2.1.2.2.1 G.2.2.1.1 a.toNat he f1 k hk (va_Nw.use rfl hw) (fun _ h => h) hf hdg kk
theorem xa_puti (G : Gd ω ρ μ p m c cc nL s args own d0 R H locs) {ci N idx : Nat} {C : String} {T : u_T} {ty0 : Nat → FieldType} (F : Fdd ci C T N ty0) {a x : Int} (k : Nat) {kz : Int} (hkz : (k : Int) = kz) (hLY : LY a = ci) (hk : k < N) (hFT : FT ci k = 0) (hx : ir x) {ref nm ds : String} (hlk : Cond.fieldLink own idx ref nm ds ∈ TG) (hT : ref = (T k).1 ∧ nm = (T k).2.1 ∧ ds = (T k).2.2.1 ∧ (T k).2.2.2 = false) (hty : ty0 k = .int) (hdg : decode cc pc = .ok (.putfield idx, 3)) {q : Nat} (hq : ad ω ρ a = q) (kk : ∀ (H1 : Heap) (locs1 : List Loc), Gd ω ρ (sv μ a kz x) p m c cc nL s args own d0 R H1 locs1 → WT p l e R s d0 m args below meth c H1 locs1 Q (F0 m (pc + 3) ls rest)) : WT p l e R s d0 m args below meth c H locs Q (F0 m pc ls (.int (iv x) :: .ref q :: rest)) := by
  subst hkz
  exact xa_put G F k hLY hk hlk hT hdg hq (by rw [hFT]; rfl) hty rfl rfl (fun _ => hx) (fun h => by rw [hFT] at h; cases h) (G.2.2.1.2.2.2.2.1.put (fun _ => by rw [hLY, hFT]; decide) (by have := F.2.2.2.1; omega)) kk
theorem xa_putz (G : Gd ω ρ μ p m c cc nL s args own d0 R H locs) {ci N idx : Nat} {C : String} {T : u_T} {ty0 : Nat → FieldType} (F : Fdd ci C T N ty0) {a x : Int} (k : Nat) {kz : Int} (hkz : (k : Int) = kz) (hLY : LY a = ci) (hk : k < N) (hFT : FT ci k = 0) (hx : x = 0 ∨ x = 1) {ref nm ds : String} (hlk : Cond.fieldLink own idx ref nm ds ∈ TG) (hT : ref = (T k).1 ∧ nm = (T k).2.1 ∧ ds = (T k).2.2.1 ∧ (T k).2.2.2 = false) (hty : ty0 k = .boolean) (hdg : decode cc pc = .ok (.putfield idx, 3)) {q : Nat} (hq : ad ω ρ a = q) (kk : ∀ (H1 : Heap) (locs1 : List Loc), Gd ω ρ (sv μ a kz x) p m c cc nL s args own d0 R H1 locs1 → WT p l e R s d0 m args below meth c H1 locs1 Q (F0 m (pc + 3) ls rest)) : WT p l e R s d0 m args below meth c H locs Q (F0 m pc ls (.int (iv x) :: .ref q :: rest)) := by
  subst hkz
  exact xa_put G F k hLY hk hlk hT hdg hq (by rw [hFT]; rfl) hty (by rcases hx with rfl | rfl <;> rfl) (by rcases hx with rfl | rfl <;> rfl) (fun _ => by unfold ir; omega) (fun h => by rw [hFT] at h; cases h) (G.2.2.1.2.2.2.2.1.put (fun _ => by rw [hLY, hFT]; decide) (by have := F.2.2.2.1; omega)) kk
theorem xa_putl (G : Gd ω ρ μ p m c cc nL s args own d0 R H locs) {ci N idx : Nat} {C : String} {T : u_T} {ty0 : Nat → FieldType} (F : Fdd ci C T N ty0) {a x : Int} (k : Nat) {kz : Int} (hkz : (k : Int) = kz) (hLY : LY a = ci) (hk : k < N) (hFT : FT ci k = 1) (hx : jr x) {ref nm ds : String} (hlk : Cond.fieldLink own idx ref nm ds ∈ TG) (hT : ref = (T k).1 ∧ nm = (T k).2.1 ∧ ds = (T k).2.2.1 ∧ (T k).2.2.2 = false) (hty : ty0 k = .long) (hdg : decode cc pc = .ok (.putfield idx, 3)) {q : Nat} (hq : ad ω ρ a = q) (kk : ∀ (H1 : Heap) (locs1 : List Loc), Gd ω ρ (sv μ a kz x) p m c cc nL s args own d0 R H1 locs1 → WT p l e R s d0 m args below meth c H1 locs1 Q (F0 m (pc + 3) ls rest)) : WT p l e R s d0 m args below meth c H locs Q (F0 m pc ls (.long (jv x) :: .ref q :: rest)) := by
  subst hkz
  exact xa_put G F k hLY hk hlk hT hdg hq (by rw [hFT]; rfl) hty rfl rfl (fun h => by rw [hFT] at h; rcases h with h | h <;> cases h) (fun _ => hx) (G.2.2.1.2.2.2.2.1.put (fun _ => by rw [hLY, hFT]; decide) (by have := F.2.2.2.1; omega)) kk
theorem xa_putd (G : Gd ω ρ μ p m c cc nL s args own d0 R H locs) {ci N idx : Nat} {C : String} {T : u_T} {ty0 : Nat → FieldType} (F : Fdd ci C T N ty0) {a x : Int} (k : Nat) {kz : Int} (hkz : (k : Int) = kz) (hLY : LY a = ci) (hk : k < N) (hFT : FT ci k = 2) {ref nm ds : String} (hlk : Cond.fieldLink own idx ref nm ds ∈ TG) (hT : ref = (T k).1 ∧ nm = (T k).2.1 ∧ ds = (T k).2.2.1 ∧ (T k).2.2.2 = false) (hty : ty0 k = .double) (hdg : decode cc pc = .ok (.putfield idx, 3)) {q : Nat} (hq : ad ω ρ a = q) (kk : ∀ (H1 : Heap) (locs1 : List Loc), Gd ω ρ (sv μ a kz x) p m c cc nL s args own d0 R H1 locs1 → WT p l e R s d0 m args below meth c H1 locs1 Q (F0 m (pc + 3) ls rest)) : WT p l e R s d0 m args below meth c H locs Q (F0 m pc ls (.double (dv x) :: .ref q :: rest)) := by
  subst hkz
  exact xa_put G F k hLY hk hlk hT hdg hq (by rw [hFT]; rfl) hty rfl rfl (fun h => by rw [hFT] at h; rcases h with h | h <;> cases h) (fun h => by rw [hFT] at h; cases h) (G.2.2.1.2.2.2.2.1.put (fun _ => by rw [hLY, hFT]; decide) (by have := F.2.2.2.1; omega)) kk
theorem xa_putr (G : Gd ω ρ μ p m c cc nL s args own d0 R H locs) {ci N idx : Nat} {C : String} {T : u_T} {ty0 : Nat → FieldType} (F : Fdd ci C T N ty0) {a x : Int} (k : Nat) {kz : Int} (hkz : (k : Int) = kz) (hLY : LY a = ci) (hk : k < N) (hFT : FT ci k = 3) (hx : isPr x) (hw : (a = 0 ∧ k = 6) ∨ (a = 32 ∧ k = 10) ∨ (a = 23 ∧ k = 2)) {ref nm ds : String} (hlk : Cond.fieldLink own idx ref nm ds ∈ TG) (hT : ref = (T k).1 ∧ nm = (T k).2.1 ∧ ds = (T k).2.2.1 ∧ (T k).2.2.2 = false) (hty : ty0 k = .object "FourTongues$Program") (hdg : decode cc pc = .ok (.putfield idx, 3)) {q q2 : Nat} (hq : ad ω ρ a = q) (hq2 : ad ω ρ x = q2) (kk : ∀ (H1 : Heap) (locs1 : List Loc), Gd ω ρ (sv μ a kz x) p m c cc nL s args own d0 R H1 locs1 → WT p l e R s d0 m args below meth c H1 locs1 Q (F0 m (pc + 3) ls rest)) : WT p l e R s d0 m args below meth c H locs Q (F0 m pc ls (.ref q2 :: .ref q :: rest)) := by
  subst hkz
  have hx0 : 0 ≤ x ∧ x ≤ 101 := by rcases hx with rfl | rfl | rfl | rfl | rfl <;> omega
  refine xa_put G F k hLY hk hlk hT hdg hq (by rw [hFT, ← hq2]; show (if x < 0 then Value.null else Value.ref (ad ω ρ x)) = _; rw [if_neg (by omega)]) hty rfl rfl (fun _ => by unfold ir; omega) (fun h => by rw [hFT] at h; cases h) (G.2.2.1.2.2.2.2.1.putP hx ?_) kk
  rcases hw with ⟨rfl, rfl⟩ | ⟨rfl, rfl⟩ | ⟨rfl, rfl⟩
  · exact Or.inr (Or.inl ⟨rfl, rfl⟩)
  · exact Or.inr (Or.inr (Or.inl ⟨rfl, rfl⟩))
  · exact Or.inr (Or.inr (Or.inr ⟨rfl, rfl⟩))
/-- a loop by a number that falls -/
theorem xl {pc : Nat} {st : List Value} (I : Nat → M3 → Array Slot → Prop) (step : ∀ (n : Nat) (ρ : Int → Nat) (μ : M3) (d0 : Drawn) (H : Heap) (locs : List Loc) (ls : Array Slot), I n μ ls → Gd ω ρ μ p m c cc nL s args own d0 R H locs → (∀ (k : Nat) (ρ' : Int → Nat) (μ' : M3) (d' : Drawn) (H' : Heap) (locs' : List Loc) (ls' : Array Slot), k < n → I k μ' ls' → Gd ω ρ' μ' p m c cc nL s args own d' R H' locs' → WT p l e R s d' m args below meth c H' locs' Q (F0 m pc ls' st)) → WT p l e R s d0 m args below meth c H locs Q (F0 m pc ls st)) :
    ∀ (n : Nat) (ρ : Int → Nat) (μ : M3) (d0 : Drawn) (H : Heap) (locs : List Loc) (ls : Array Slot), I n μ ls → Gd ω ρ μ p m c cc nL s args own d0 R H locs → WT p l e R s d0 m args below meth c H locs Q (F0 m pc ls st) := by
  intro n
  induction n using Nat.strongRecOn with
  | _ n ih => exact fun ρ μ d0 H locs ls hI G => step n ρ μ d0 H locs ls hI G (fun k ρ' μ' d' H' locs' ls' hk hI' G' => ih k hk ρ' μ' d' H' locs' ls' hI' G')
theorem xb_icmp_lt (hx9 : p.tables.exec = Jvm.exec) (hb : c.code = cc) {x y : Int} {off : Int} {tgt : Nat} (hx : ir x) (hy : ir y) (hdg : decode cc pc = .ok (.if_icmp .lt off, 3)) (ht : (pc : Int) + off = (tgt : Int)) (kt : x < y → WT p l e R s d0 m args below meth c H locs Q (F0 m tgt ls rest)) (kf : ¬ x < y → WT p l e R s d0 m args below meth c H locs Q (F0 m (pc + 3) ls rest)) : WT p l e R s d0 m args below meth c H locs Q (F0 m pc ls (.int (iv y) :: .int (iv x) :: rest)) :=
  lv_icmp_lt hx9 hb hdg ht (fun q => kt ((iv_lt hx hy).mp q)) (fun q => kf (fun z => q ((iv_lt hx hy).mpr z)))
theorem xb_if_lt (hx9 : p.tables.exec = Jvm.exec) (hb : c.code = cc) {x : Int} {off : Int} {tgt : Nat} (hx : ir x) (hdg : decode cc pc = .ok (.ifCond .lt off, 3)) (ht : (pc : Int) + off = (tgt : Int)) (kt : x < 0 → WT p l e R s d0 m args below meth c H locs Q (F0 m tgt ls rest)) (kf : ¬ x < 0 → WT p l e R s d0 m args below meth c H locs Q (F0 m (pc + 3) ls rest)) : WT p l e R s d0 m args below meth c H locs Q (F0 m pc ls (.int (iv x) :: rest)) :=
  lv_if_lt hx9 hb hdg ht (fun q => kt ((iv_lt hx ir0).mp q)) (fun q => kf (fun z => q ((iv_lt hx ir0).mpr z)))
theorem xb_icmp_le (hx9 : p.tables.exec = Jvm.exec) (hb : c.code = cc) {x y : Int} {off : Int} {tgt : Nat} (hx : ir x) (hy : ir y) (hdg : decode cc pc = .ok (.if_icmp .le off, 3)) (ht : (pc : Int) + off = (tgt : Int)) (kt : x ≤ y → WT p l e R s d0 m args below meth c H locs Q (F0 m tgt ls rest)) (kf : ¬ x ≤ y → WT p l e R s d0 m args below meth c H locs Q (F0 m (pc + 3) ls rest)) : WT p l e R s d0 m args below meth c H locs Q (F0 m pc ls (.int (iv y) :: .int (iv x) :: rest)) :=
  lv_icmp_le hx9 hb hdg ht (fun q => kt ((iv_le hx hy).mp q)) (fun q => kf (fun z => q ((iv_le hx hy).mpr z)))
theorem xb_if_le (hx9 : p.tables.exec = Jvm.exec) (hb : c.code = cc) {x : Int} {off : Int} {tgt : Nat} (hx : ir x) (hdg : decode cc pc = .ok (.ifCond .le off, 3)) (ht : (pc : Int) + off = (tgt : Int)) (kt : x ≤ 0 → WT p l e R s d0 m args below meth c H locs Q (F0 m tgt ls rest)) (kf : ¬ x ≤ 0 → WT p l e R s d0 m args below meth c H locs Q (F0 m (pc + 3) ls rest)) : WT p l e R s d0 m args below meth c H locs Q (F0 m pc ls (.int (iv x) :: rest)) :=
  lv_if_le hx9 hb hdg ht (fun q => kt ((iv_le hx ir0).mp q)) (fun q => kf (fun z => q ((iv_le hx ir0).mpr z)))
theorem xb_icmp_gt (hx9 : p.tables.exec = Jvm.exec) (hb : c.code = cc) {x y : Int} {off : Int} {tgt : Nat} (hx : ir x) (hy : ir y) (hdg : decode cc pc = .ok (.if_icmp .gt off, 3)) (ht : (pc : Int) + off = (tgt : Int)) (kt : x > y → WT p l e R s d0 m args below meth c H locs Q (F0 m tgt ls rest)) (kf : ¬ x > y → WT p l e R s d0 m args below meth c H locs Q (F0 m (pc + 3) ls rest)) : WT p l e R s d0 m args below meth c H locs Q (F0 m pc ls (.int (iv y) :: .int (iv x) :: rest)) :=
  lv_icmp_gt hx9 hb hdg ht (fun q => kt ((iv_lt hy hx).mp q)) (fun q => kf (fun z => q ((iv_lt hy hx).mpr z)))
theorem xb_if_gt (hx9 : p.tables.exec = Jvm.exec) (hb : c.code = cc) {x : Int} {off : Int} {tgt : Nat} (hx : ir x) (hdg : decode cc pc = .ok (.ifCond .gt off, 3)) (ht : (pc : Int) + off = (tgt : Int)) (kt : x > 0 → WT p l e R s d0 m args below meth c H locs Q (F0 m tgt ls rest)) (kf : ¬ x > 0 → WT p l e R s d0 m args below meth c H locs Q (F0 m (pc + 3) ls rest)) : WT p l e R s d0 m args below meth c H locs Q (F0 m pc ls (.int (iv x) :: rest)) :=
  lv_if_gt hx9 hb hdg ht (fun q => kt ((iv_lt ir0 hx).mp q)) (fun q => kf (fun z => q ((iv_lt ir0 hx).mpr z)))
theorem xb_icmp_ge (hx9 : p.tables.exec = Jvm.exec) (hb : c.code = cc) {x y : Int} {off : Int} {tgt : Nat} (hx : ir x) (hy : ir y) (hdg : decode cc pc = .ok (.if_icmp .ge off, 3)) (ht : (pc : Int) + off = (tgt : Int)) (kt : x ≥ y → WT p l e R s d0 m args below meth c H locs Q (F0 m tgt ls rest)) (kf : ¬ x ≥ y → WT p l e R s d0 m args below meth c H locs Q (F0 m (pc + 3) ls rest)) : WT p l e R s d0 m args below meth c H locs Q (F0 m pc ls (.int (iv y) :: .int (iv x) :: rest)) :=
  lv_icmp_ge hx9 hb hdg ht (fun q => kt ((iv_le hy hx).mp q)) (fun q => kf (fun z => q ((iv_le hy hx).mpr z)))
theorem xb_if_ge (hx9 : p.tables.exec = Jvm.exec) (hb : c.code = cc) {x : Int} {off : Int} {tgt : Nat} (hx : ir x) (hdg : decode cc pc = .ok (.ifCond .ge off, 3)) (ht : (pc : Int) + off = (tgt : Int)) (kt : x ≥ 0 → WT p l e R s d0 m args below meth c H locs Q (F0 m tgt ls rest)) (kf : ¬ x ≥ 0 → WT p l e R s d0 m args below meth c H locs Q (F0 m (pc + 3) ls rest)) : WT p l e R s d0 m args below meth c H locs Q (F0 m pc ls (.int (iv x) :: rest)) :=
  lv_if_ge hx9 hb hdg ht (fun q => kt ((iv_le ir0 hx).mp q)) (fun q => kf (fun z => q ((iv_le ir0 hx).mpr z)))
theorem xb_icmp_eq (hx9 : p.tables.exec = Jvm.exec) (hb : c.code = cc) {x y : Int} {off : Int} {tgt : Nat} (hx : ir x) (hy : ir y) (hdg : decode cc pc = .ok (.if_icmp .eq off, 3)) (ht : (pc : Int) + off = (tgt : Int)) (kt : x = y → WT p l e R s d0 m args below meth c H locs Q (F0 m tgt ls rest)) (kf : ¬ x = y → WT p l e R s d0 m args below meth c H locs Q (F0 m (pc + 3) ls rest)) : WT p l e R s d0 m args below meth c H locs Q (F0 m pc ls (.int (iv y) :: .int (iv x) :: rest)) :=
  lv_icmp_eq hx9 hb hdg ht (fun q => kt ((iv_eq hx hy).mp q)) (fun q => kf (fun z => q ((iv_eq hx hy).mpr z)))
theorem xb_if_eq (hx9 : p.tables.exec = Jvm.exec) (hb : c.code = cc) {x : Int} {off : Int} {tgt : Nat} (hx : ir x) (hdg : decode cc pc = .ok (.ifCond .eq off, 3)) (ht : (pc : Int) + off = (tgt : Int)) (kt : x = 0 → WT p l e R s d0 m args below meth c H locs Q (F0 m tgt ls rest)) (kf : ¬ x = 0 → WT p l e R s d0 m args below meth c H locs Q (F0 m (pc + 3) ls rest)) : WT p l e R s d0 m args below meth c H locs Q (F0 m pc ls (.int (iv x) :: rest)) :=
  lv_if_eq hx9 hb hdg ht (fun q => kt ((iv_eq hx ir0).mp q)) (fun q => kf (fun z => q ((iv_eq hx ir0).mpr z)))
theorem xb_icmp_ne (hx9 : p.tables.exec = Jvm.exec) (hb : c.code = cc) {x y : Int} {off : Int} {tgt : Nat} (hx : ir x) (hy : ir y) (hdg : decode cc pc = .ok (.if_icmp .ne off, 3)) (ht : (pc : Int) + off = (tgt : Int)) (kt : x ≠ y → WT p l e R s d0 m args below meth c H locs Q (F0 m tgt ls rest)) (kf : x = y → WT p l e R s d0 m args below meth c H locs Q (F0 m (pc + 3) ls rest)) : WT p l e R s d0 m args below meth c H locs Q (F0 m pc ls (.int (iv y) :: .int (iv x) :: rest)) :=
  lv_icmp_ne hx9 hb hdg ht (fun q => kt (fun z => q ((iv_eq hx hy).mpr z))) (fun q => kf ((iv_eq hx hy).mp q))
theorem xb_if_ne (hx9 : p.tables.exec = Jvm.exec) (hb : c.code = cc) {x : Int} {off : Int} {tgt : Nat} (hx : ir x) (hdg : decode cc pc = .ok (.ifCond .ne off, 3)) (ht : (pc : Int) + off = (tgt : Int)) (kt : x ≠ 0 → WT p l e R s d0 m args below meth c H locs Q (F0 m tgt ls rest)) (kf : x = 0 → WT p l e R s d0 m args below meth c H locs Q (F0 m (pc + 3) ls rest)) : WT p l e R s d0 m args below meth c H locs Q (F0 m pc ls (.int (iv x) :: rest)) :=
  lv_if_ne hx9 hb hdg ht (fun q => kt (fun z => q ((iv_eq hx ir0).mpr z))) (fun q => kf ((iv_eq hx ir0).mp q))

end ROWS
