section ARR
variable {p : Program} {l : Launch} {e : Env} {R : Room} {s : State} {d0 : Drawn} {m : MethodId} {args : Array Value} {below : List Frame} {meth : Method} {c : Code} {H : Heap} {locs : List Loc} {Q : State → Prop} {cc : ByteArray} {nL pc : Nat} {own : String} {ls : Array Slot} {rest : List Value} {ω : Om} {ρ : Int → Nat} {μ : M3}
theorem iv_byte {x : Int} (h : -128 ≤ x ∧ x ≤ 127) : vp_nar .byte (iv x) = iv x := by
  show (iv x).toInt8.toInt32 = iv x
  rw [← Int32.toInt_inj, Int8.toInt_toInt32, Int32.toInt_toInt8, iv_toInt (by unfold ir; omega)]
  exact Int.bmod_eq_of_le (by omega) (by omega)
theorem xa_lald (G : Gd ω ρ μ p m c cc nL s args own d0 R H locs) {a i : Int} (hLY : LY a = 101) (hi : 0 ≤ i ∧ i < μ.2.1 a) (hdg : decode cc pc = .ok (.laload, 1)) {q : Nat} (hq : ad ω ρ a = q) (kk : WT p l e R s d0 m args below meth c H locs Q (F0 m (pc + 1) ls (.long (jv (μ.1 a i)) :: rest))) : WT p l e R s d0 m args below meth c H locs Q (F0 m pc ls (.int (iv i) :: .ref q :: rest)) := by
  have ha := LY_lt (a := a) (by omega)
  subst hq
  have hl := (G.ln a).2
  have he : (wd ω ρ μ)[a.toNat]? = some (ad ω ρ a, .inl (oA ω 1, (μ.2.1 a).toNat, .inr (.inl (fun (k : Nat) => jv (μ.1 a k))))) := by rw [wd_get ω ρ μ ha, en_arr ω ρ μ (t := 1) hLY]; rfl
  refine va_lald (s := s.setDrawn d0) G.1.1 G.1.2.1 G.2.2.1.2.2.1 G.2.2.1.1 a.toNat 1 he rfl (iv_in hi hl) hdg ?_
  rw [iv_clamp (by unfold ir; omega), Int.toNat_of_nonneg hi.1]
  exact kk
theorem xa_last (G : Gd ω ρ μ p m c cc nL s args own d0 R H locs) {a i x : Int} (hLY : LY a = 101) (hi : 0 ≤ i ∧ i < μ.2.1 a) (hx : jr x) (hdg : decode cc pc = .ok (.lastore, 1)) {q : Nat} (hq : ad ω ρ a = q) (kk : ∀ (H1 : Heap) (locs1 : List Loc), Gd ω ρ (sv μ a i x) p m c cc nL s args own d0 R H1 locs1 → WT p l e R s d0 m args below meth c H1 locs1 Q (F0 m (pc + 1) ls rest)) : WT p l e R s d0 m args below meth c H locs Q (F0 m pc ls (.long (jv x) :: .int (iv i) :: .ref q :: rest)) := by
  have ha := LY_lt (a := a) (by omega)
  subst hq
  have hl := (G.ln a).2
  have he : (wd ω ρ μ)[a.toNat]? = some (ad ω ρ a, .inl (oA ω 1, (μ.2.1 a).toNat, .inr (.inl (fun (k : Nat) => jv (μ.1 a k))))) := by rw [wd_get ω ρ μ ha, en_arr ω ρ μ (t := 1) hLY]; rfl
  have hset : (wd ω ρ μ).set a.toNat (ad ω ρ a, .inl (oA ω 1, (μ.2.1 a).toNat, .inr (.inl (vp_updL (fun (k : Nat) => jv (μ.1 a k)) (iv i).toNatClampNeg (jv x))))) = wd ω ρ (sv μ a i x) := by
    refine wd_set ha.1 (fun b hb => en_other ω ρ μ i x hb) ?_
    rw [en_arr ω ρ (sv μ a i x) (t := 1) hLY, iv_clamp (by unfold ir; omega)]
    have hfn : (fun (k : Nat) => jv ((sv μ a i x).1 a k)) = vp_updL (fun (k : Nat) => jv (μ.1 a k)) i.toNat (jv x) := by
      funext k
      show jv (if a = a ∧ (k : Int) = i then x else μ.1 a k) = (if k = i.toNat then jv x else jv (μ.1 a k))
      by_cases h : k = i.toNat
      · rw [if_pos h, if_pos ⟨rfl, by omega⟩]
      · rw [if_neg h, if_neg (fun z => h (by omega))]
    rw [← hfn]
    rfl
  have hty9 : ty a i = 1 := by
    unfold ty
    rw [hLY]
    rfl
  refine va_last (s := s.setDrawn d0) G.1.1 G.1.2.1 G.2.2.1.2.2.1 G.2.2.1.1 G.2.2.1.2.1 G.2.2.2.1 a.toNat 1 he rfl (iv_in hi hl) hdg (fun H1 locs1 hP hD hS => ?_)
  rw [hset] at hP hD
  refine WT.use (fun b1 b2 b3 b4 => ?_)
  exact kk H1 locs1 (G.wr hP hD hS (G.2.2.1.2.2.2.1.put (fun h => by rw [hty9] at h; rcases h with h | h <;> cases h) (fun _ => hx)) (G.2.2.1.2.2.2.2.1.put (fun h => by rw [hLY] at h; omega) (by omega)) rfl b2 b3 b4)
theorem xa_dald (G : Gd ω ρ μ p m c cc nL s args own d0 R H locs) {a i : Int} (hLY : LY a = 102) (hi : 0 ≤ i ∧ i < μ.2.1 a) (hdg : decode cc pc = .ok (.daload, 1)) {q : Nat} (hq : ad ω ρ a = q) (kk : WT p l e R s d0 m args below meth c H locs Q (F0 m (pc + 1) ls (.double (dv (μ.1 a i)) :: rest))) : WT p l e R s d0 m args below meth c H locs Q (F0 m pc ls (.int (iv i) :: .ref q :: rest)) := by
  have ha := LY_lt (a := a) (by omega)
  subst hq
  have hl := (G.ln a).2
  have he : (wd ω ρ μ)[a.toNat]? = some (ad ω ρ a, .inl (oA ω 2, (μ.2.1 a).toNat, .inr (.inr (.inr (.inl (fun (k : Nat) => dv (μ.1 a k))))))) := by rw [wd_get ω ρ μ ha, en_arr ω ρ μ (t := 2) hLY]; rfl
  refine va_dald (s := s.setDrawn d0) G.1.1 G.1.2.1 G.2.2.1.2.2.1 G.2.2.1.1 a.toNat 2 he rfl (iv_in hi hl) hdg ?_
  rw [iv_clamp (by unfold ir; omega), Int.toNat_of_nonneg hi.1]
  exact kk
theorem xa_dast (G : Gd ω ρ μ p m c cc nL s args own d0 R H locs) {a i x : Int} (hLY : LY a = 102) (hi : 0 ≤ i ∧ i < μ.2.1 a) (hx : True) (hdg : decode cc pc = .ok (.dastore, 1)) {q : Nat} (hq : ad ω ρ a = q) (kk : ∀ (H1 : Heap) (locs1 : List Loc), Gd ω ρ (sv μ a i x) p m c cc nL s args own d0 R H1 locs1 → WT p l e R s d0 m args below meth c H1 locs1 Q (F0 m (pc + 1) ls rest)) : WT p l e R s d0 m args below meth c H locs Q (F0 m pc ls (.double (dv x) :: .int (iv i) :: .ref q :: rest)) := by
  have ha := LY_lt (a := a) (by omega)
  subst hq
  have hl := (G.ln a).2
  have he : (wd ω ρ μ)[a.toNat]? = some (ad ω ρ a, .inl (oA ω 2, (μ.2.1 a).toNat, .inr (.inr (.inr (.inl (fun (k : Nat) => dv (μ.1 a k))))))) := by rw [wd_get ω ρ μ ha, en_arr ω ρ μ (t := 2) hLY]; rfl
  have hset : (wd ω ρ μ).set a.toNat (ad ω ρ a, .inl (oA ω 2, (μ.2.1 a).toNat, .inr (.inr (.inr (.inl (vf_upd (fun (k : Nat) => dv (μ.1 a k)) (iv i).toNatClampNeg (dv x))))))) = wd ω ρ (sv μ a i x) := by
    refine wd_set ha.1 (fun b hb => en_other ω ρ μ i x hb) ?_
    rw [en_arr ω ρ (sv μ a i x) (t := 2) hLY, iv_clamp (by unfold ir; omega)]
    have hfn : (fun (k : Nat) => dv ((sv μ a i x).1 a k)) = vf_upd (fun (k : Nat) => dv (μ.1 a k)) i.toNat (dv x) := by
      funext k
      show dv (if a = a ∧ (k : Int) = i then x else μ.1 a k) = (if k = i.toNat then dv x else dv (μ.1 a k))
      by_cases h : k = i.toNat
      · rw [if_pos h, if_pos ⟨rfl, by omega⟩]
      · rw [if_neg h, if_neg (fun z => h (by omega))]
    rw [← hfn]
    rfl
  have hty9 : ty a i = 2 := by
    unfold ty
    rw [hLY]
    rfl
  refine va_dast (s := s.setDrawn d0) G.1.1 G.1.2.1 G.2.2.1.2.2.1 G.2.2.1.1 G.2.2.1.2.1 G.2.2.2.1 a.toNat 2 he rfl (iv_in hi hl) hdg (fun H1 locs1 hP hD hS => ?_)
  rw [hset] at hP hD
  refine WT.use (fun b1 b2 b3 b4 => ?_)
  exact kk H1 locs1 (G.wr hP hD hS (G.2.2.1.2.2.2.1.put (fun h => by rw [hty9] at h; rcases h with h | h <;> cases h) (fun h => by rw [hty9] at h; cases h)) (G.2.2.1.2.2.2.2.1.put (fun h => by rw [hLY] at h; omega) (by omega)) rfl b2 b3 b4)
theorem xa_bald (G : Gd ω ρ μ p m c cc nL s args own d0 R H locs) {a i : Int} (hLY : LY a = 103) (hi : 0 ≤ i ∧ i < μ.2.1 a) (hdg : decode cc pc = .ok (.baload, 1)) {q : Nat} (hq : ad ω ρ a = q) (kk : WT p l e R s d0 m args below meth c H locs Q (F0 m (pc + 1) ls (.int (iv (μ.1 a i)) :: rest))) : WT p l e R s d0 m args below meth c H locs Q (F0 m pc ls (.int (iv i) :: .ref q :: rest)) := by
  have ha := LY_lt (a := a) (by omega)
  subst hq
  have hl := (G.ln a).2
  have he : (wd ω ρ μ)[a.toNat]? = some (ad ω ρ a, .inl (oA ω 3, (μ.2.1 a).toNat, .inl (fun (k : Nat) => iv (μ.1 a k)))) := by rw [wd_get ω ρ μ ha, en_arr ω ρ μ (t := 3) hLY]; rfl
  refine va_bald (s := s.setDrawn d0) G.1.1 G.1.2.1 G.2.2.1.2.2.1 G.2.2.1.1 a.toNat 3 he rfl (iv_in hi hl) hdg ?_
  rw [iv_clamp (by unfold ir; omega), Int.toNat_of_nonneg hi.1]
  exact kk
theorem xa_bast (G : Gd ω ρ μ p m c cc nL s args own d0 R H locs) {a i x : Int} (hLY : LY a = 103) (hi : 0 ≤ i ∧ i < μ.2.1 a) (hx : -128 ≤ x ∧ x ≤ 127) (hdg : decode cc pc = .ok (.bastore, 1)) {q : Nat} (hq : ad ω ρ a = q) (kk : ∀ (H1 : Heap) (locs1 : List Loc), Gd ω ρ (sv μ a i x) p m c cc nL s args own d0 R H1 locs1 → WT p l e R s d0 m args below meth c H1 locs1 Q (F0 m (pc + 1) ls rest)) : WT p l e R s d0 m args below meth c H locs Q (F0 m pc ls (.int (iv x) :: .int (iv i) :: .ref q :: rest)) := by
  have ha := LY_lt (a := a) (by omega)
  subst hq
  have hl := (G.ln a).2
  have he : (wd ω ρ μ)[a.toNat]? = some (ad ω ρ a, .inl (oA ω 3, (μ.2.1 a).toNat, .inl (fun (k : Nat) => iv (μ.1 a k)))) := by rw [wd_get ω ρ μ ha, en_arr ω ρ μ (t := 3) hLY]; rfl
  have hset : (wd ω ρ μ).set a.toNat (ad ω ρ a, .inl (oA ω 3, (μ.2.1 a).toNat, .inl (upd (fun (k : Nat) => iv (μ.1 a k)) (iv i).toNatClampNeg (vp_nar .byte (iv x))))) = wd ω ρ (sv μ a i x) := by
    refine wd_set ha.1 (fun b hb => en_other ω ρ μ i x hb) ?_
    rw [en_arr ω ρ (sv μ a i x) (t := 3) hLY, iv_clamp (by unfold ir; omega)]
    have hfn : (fun (k : Nat) => iv ((sv μ a i x).1 a k)) = upd (fun (k : Nat) => iv (μ.1 a k)) i.toNat (vp_nar .byte (iv x)) := by
      funext k
      rw [iv_byte hx]
      show iv (if a = a ∧ (k : Int) = i then x else μ.1 a k) = (if k = i.toNat then iv x else iv (μ.1 a k))
      by_cases h : k = i.toNat
      · rw [if_pos h, if_pos ⟨rfl, by omega⟩]
      · rw [if_neg h, if_neg (fun z => h (by omega))]
    rw [← hfn]
    rfl
  have hty9 : ty a i = 3 := by
    unfold ty
    rw [hLY]
    rfl
  refine va_bast (s := s.setDrawn d0) G.1.1 G.1.2.1 G.2.2.1.2.2.1 G.2.2.1.1 G.2.2.1.2.1 G.2.2.2.1 a.toNat 3 he rfl (iv_in hi hl) hdg (fun H1 locs1 hP hD hS => ?_)
  rw [hset] at hP hD
  refine WT.use (fun b1 b2 b3 b4 => ?_)
  exact kk H1 locs1 (G.wr hP hD hS (G.2.2.1.2.2.2.1.put (fun _ => by unfold ir; omega) (fun h => by rw [hty9] at h; cases h)) (G.2.2.1.2.2.2.2.1.put (fun h => by rw [hLY] at h; omega) (by omega)) rfl b2 b3 b4)
theorem xa_alen (G : Gd ω ρ μ p m c cc nL s args own d0 R H locs) {a : Int} {t : Nat} (hLY : LY a = 100 + t) (ht : t < 5) (hdg : decode cc pc = .ok (.arraylength, 1)) {q : Nat} (hq : ad ω ρ a = q) (kk : WT p l e R s d0 m args below meth c H locs Q (F0 m (pc + 1) ls (.int (iv (μ.2.1 a)) :: rest))) : WT p l e R s d0 m args below meth c H locs Q (F0 m pc ls (.ref q :: rest)) := by
  have ha := LY_lt (a := a) (by omega)
  subst hq
  have hl := (G.ln a).1
  have he : (wd ω ρ μ)[a.toNat]? = some (ad ω ρ a, .inl (oA ω t, (μ.2.1 a).toNat, ar ω ρ t (μ.1 a))) := by rw [wd_get ω ρ μ ha, en_arr ω ρ μ (t := t) hLY]
  have hn : Int32.ofNat (μ.2.1 a).toNat = iv (μ.2.1 a) := by rw [iv_nat, Int.toNat_of_nonneg hl]
  match t, ht, he with
  | 0, _, he => exact va_alen (s := s.setDrawn d0) (x := ((μ.2.1 a).toNat, _)) G.1.1 G.1.2.1 G.2.2.1.2.2.1 G.2.2.1.1 a.toNat 0 he rfl hn hdg kk
  | 1, _, he => exact va_alen (s := s.setDrawn d0) (x := ((μ.2.1 a).toNat, _)) G.1.1 G.1.2.1 G.2.2.1.2.2.1 G.2.2.1.1 a.toNat 1 he rfl hn hdg kk
  | 2, _, he => exact va_alen (s := s.setDrawn d0) (x := ((μ.2.1 a).toNat, _)) G.1.1 G.1.2.1 G.2.2.1.2.2.1 G.2.2.1.1 a.toNat 2 he rfl hn hdg kk
  | 3, _, he => exact va_alen (s := s.setDrawn d0) (x := ((μ.2.1 a).toNat, _)) G.1.1 G.1.2.1 G.2.2.1.2.2.1 G.2.2.1.1 a.toNat 3 he rfl hn hdg kk
  | 4, _, he => exact va_alen (s := s.setDrawn d0) (x := ((μ.2.1 a).toNat, _)) G.1.1 G.1.2.1 G.2.2.1.2.2.1 G.2.2.1.1 a.toNat 4 he rfl hn hdg kk
theorem xa_aald (G : Gd ω ρ μ p m c cc nL s args own d0 R H locs) {a i : Int} (hLY : LY a = 104) (hi : 0 ≤ i ∧ i < μ.2.1 a) {b : Int} (hb9 : μ.1 a i = b) (hb0 : 0 ≤ b) (hdg : decode cc pc = .ok (.aaload, 1)) {q q2 : Nat} (hq : ad ω ρ a = q) (hq2 : ad ω ρ b = q2) (kk : WT p l e R s d0 m args below meth c H locs Q (F0 m (pc + 1) ls (.ref q2 :: rest))) : WT p l e R s d0 m args below meth c H locs Q (F0 m pc ls (.int (iv i) :: .ref q :: rest)) := by
  have ha := LY_lt (a := a) (by omega)
  subst hq; subst hq2
  have hl := (G.ln a).2
  have he : (wd ω ρ μ)[a.toNat]? = some (ad ω ρ a, .inl (oA ω 4, (μ.2.1 a).toNat, .inr (.inr (.inr (.inr (fun (k : Nat) => if μ.1 a k < 0 then none else some (ad ω ρ (μ.1 a k)))))))) := by rw [wd_get ω ρ μ ha, en_arr ω ρ μ (t := 4) hLY]; rfl
  refine va_aldq (s := s.setDrawn d0) G.1.1 G.1.2.1 G.2.2.1.2.2.1 G.2.2.1.1 a.toNat 4 he rfl (iv_in hi hl) hdg ?_
  rw [iv_clamp (by unfold ir; omega), Int.toNat_of_nonneg hi.1, hb9, if_neg (by omega)]
  exact kk
theorem xa_aast (G : Gd ω ρ μ p m c cc nL s args own d0 R H locs) {a i b : Int} (hLY : LY a = 104) (hi : 0 ≤ i ∧ i < μ.2.1 a) (h12 : a = 12) (hpr : isPr b) (hdg : decode cc pc = .ok (.aastore, 1)) {q q2 : Nat} (hq : ad ω ρ a = q) (hq2 : ad ω ρ b = q2) (kk : ∀ (H1 : Heap) (locs1 : List Loc), Gd ω ρ (sv μ a i b) p m c cc nL s args own d0 R H1 locs1 → WT p l e R s d0 m args below meth c H1 locs1 Q (F0 m (pc + 1) ls rest)) : WT p l e R s d0 m args below meth c H locs Q (F0 m pc ls (.ref q2 :: .int (iv i) :: .ref q :: rest)) := by
  have ha := LY_lt (a := a) (by omega)
  have hb9 := hpr.ly
  have hbn := LY_lt (a := b) (by omega)
  subst hq; subst hq2
  have hl := (G.ln a).2
  have he : (wd ω ρ μ)[a.toNat]? = some (ad ω ρ a, .inl (oA ω 4, (μ.2.1 a).toNat, .inr (.inr (.inr (.inr (fun (k : Nat) => if μ.1 a k < 0 then none else some (ad ω ρ (μ.1 a k)))))))) := by rw [wd_get ω ρ μ ha, en_arr ω ρ μ (t := 4) hLY]; rfl
  have he2 : (wd ω ρ μ)[b.toNat]? = some (ad ω ρ b, .inr (7, (List.range (NF 7)).map (fun (j : Nat) => cv ω ρ (FT 7 j) (μ.1 b j)))) := by rw [wd_get ω ρ μ hbn, en_obj ω ρ μ hb9 (by omega)]
  have hset : (wd ω ρ μ).set a.toNat (ad ω ρ a, .inl (oA ω 4, (μ.2.1 a).toNat, .inr (.inr (.inr (.inr (va_up (fun (k : Nat) => if μ.1 a k < 0 then none else some (ad ω ρ (μ.1 a k))) (iv i).toNatClampNeg (some (ad ω ρ b)))))))) = wd ω ρ (sv μ a i b) := by
    refine wd_set ha.1 (fun b' hb' => en_other ω ρ μ i b hb') ?_
    rw [en_arr ω ρ (sv μ a i b) (t := 4) hLY, iv_clamp (by unfold ir; omega)]
    have hfn : (fun (k : Nat) => if (sv μ a i b).1 a k < 0 then none else some (ad ω ρ ((sv μ a i b).1 a k))) = va_up (fun (k : Nat) => if μ.1 a k < 0 then none else some (ad ω ρ (μ.1 a k))) i.toNat (some (ad ω ρ b)) := by
      funext k
      show (if (if a = a ∧ (k : Int) = i then b else μ.1 a k) < 0 then none else some (ad ω ρ (if a = a ∧ (k : Int) = i then b else μ.1 a k))) = (if k = i.toNat then some (ad ω ρ b) else if μ.1 a k < 0 then none else some (ad ω ρ (μ.1 a k)))
      by_cases h : k = i.toNat
      · have e1 : (if a = a ∧ (k : Int) = i then b else μ.1 a k) = b := if_pos ⟨rfl, by omega⟩
        rw [e1, if_pos h, if_neg (by omega)]
      · have e1 : (if a = a ∧ (k : Int) = i then b else μ.1 a k) = μ.1 a k := if_neg (fun z => h (by omega))
        rw [e1, if_neg h]
    rw [← hfn]
    rfl
  have hty9 : ty a i = 4 := by
    unfold ty
    rw [hLY]
    rfl
  refine va_astq (s := s.setDrawn d0) (r := (RX8, TX8, 8)) G.1.1 G.1.2.1 G.2.2.1.2.2.1 G.2.2.1.1 G.2.2.1.2.1 G.2.2.2.1 a.toNat 4 b.toNat 7 he rfl he2 rfl (iv_in hi hl) hdg (fun H1 locs1 hP hD hS => ?_)
  rw [hset] at hP hD
  refine WT.use (fun b1 b2 b3 b4 => ?_)
  exact kk H1 locs1 (G.wr hP hD hS (G.2.2.1.2.2.2.1.put (fun h => by rw [hty9] at h; rcases h with h | h <;> cases h) (fun h => by rw [hty9] at h; cases h)) (G.2.2.1.2.2.2.2.1.putP hpr (Or.inl h12)) rfl b2 b3 b4)
end ARR
