abbrev cX5_keep : ByteArray := prog_7_method_3_code
def yX5_keep : MethodName := ⟨RX5, "keep", "()V"⟩
abbrev cX5_giveBack : ByteArray := prog_7_method_4_code
def yX5_giveBack : MethodName := ⟨RX5, "giveBack", "()V"⟩
abbrev cX11_feed : ByteArray := prog_1_method_2_code
def yX11_feed : MethodName := ⟨RX11, "feed", "(IIIII)I"⟩
abbrev cX11_addBytes : ByteArray := prog_1_method_15_code
def yX11_addBytes : MethodName := ⟨RX11, "addBytes", "(I)V"⟩
abbrev cJ7_fill_53178 : ByteArray := prog_24_method_103_code
def yJ7_fill_53178 : MethodName := ⟨RJ7, "fill", "([II)V"⟩
theorem dX5_keep_0 : decode cX5_keep 0 = .ok (.aload_n 0, 1) := by decide +kernel
theorem dX5_keep_1 : decode cX5_keep 1 = .ok (.aload_n 0, 1) := by decide +kernel
theorem dX5_keep_2 : decode cX5_keep 2 = .ok (.getfield 22, 3) := by decide +kernel
theorem dX5_keep_5 : decode cX5_keep 5 = .ok (.putfield 26, 3) := by decide +kernel
theorem dX5_keep_8 : decode cX5_keep 8 = .ok (.aload_n 0, 1) := by decide +kernel
theorem dX5_keep_9 : decode cX5_keep 9 = .ok (.getfield 15, 3) := by decide +kernel
theorem dX5_keep_12 : decode cX5_keep 12 = .ok (.iconst 0, 1) := by decide +kernel
theorem dX5_keep_13 : decode cX5_keep 13 = .ok (.aload_n 0, 1) := by decide +kernel
theorem dX5_keep_14 : decode cX5_keep 14 = .ok (.getfield 19, 3) := by decide +kernel
theorem dX5_keep_17 : decode cX5_keep 17 = .ok (.iconst 0, 1) := by decide +kernel
theorem dX5_keep_18 : decode cX5_keep 18 = .ok (.bipush 52, 2) := by decide +kernel
theorem dX5_keep_20 : decode cX5_keep 20 = .ok (.invokestatic 41, 3) := by decide +kernel
theorem dX5_keep_23 : decode cX5_keep 23 = .ok (.return_, 1) := by decide +kernel
theorem dX5_giveBack_0 : decode cX5_giveBack 0 = .ok (.aload_n 0, 1) := by decide +kernel
theorem dX5_giveBack_1 : decode cX5_giveBack 1 = .ok (.aload_n 0, 1) := by decide +kernel
theorem dX5_giveBack_2 : decode cX5_giveBack 2 = .ok (.getfield 26, 3) := by decide +kernel
theorem dX5_giveBack_5 : decode cX5_giveBack 5 = .ok (.putfield 22, 3) := by decide +kernel
theorem dX5_giveBack_8 : decode cX5_giveBack 8 = .ok (.aload_n 0, 1) := by decide +kernel
theorem dX5_giveBack_9 : decode cX5_giveBack 9 = .ok (.getfield 19, 3) := by decide +kernel
theorem dX5_giveBack_12 : decode cX5_giveBack 12 = .ok (.iconst 0, 1) := by decide +kernel
theorem dX5_giveBack_13 : decode cX5_giveBack 13 = .ok (.aload_n 0, 1) := by decide +kernel
theorem dX5_giveBack_14 : decode cX5_giveBack 14 = .ok (.getfield 15, 3) := by decide +kernel
theorem dX5_giveBack_17 : decode cX5_giveBack 17 = .ok (.iconst 0, 1) := by decide +kernel
theorem dX5_giveBack_18 : decode cX5_giveBack 18 = .ok (.bipush 52, 2) := by decide +kernel
theorem dX5_giveBack_20 : decode cX5_giveBack 20 = .ok (.invokestatic 41, 3) := by decide +kernel
theorem dX5_giveBack_23 : decode cX5_giveBack 23 = .ok (.return_, 1) := by decide +kernel
theorem dX11_feed_0 : decode cX11_feed 0 = .ok (.aload_n 0, 1) := by decide +kernel
theorem dX11_feed_1 : decode cX11_feed 1 = .ok (.getfield 13, 3) := by decide +kernel
theorem dX11_feed_4 : decode cX11_feed 4 = .ok (.bipush 20, 2) := by decide +kernel
theorem dX11_feed_6 : decode cX11_feed 6 = .ok (.iadd, 1) := by decide +kernel
theorem dX11_feed_7 : decode cX11_feed 7 = .ok (.sipush 3000, 3) := by decide +kernel
theorem dX11_feed_10 : decode cX11_feed 10 = .ok (.if_icmp .le 5, 3) := by decide +kernel
theorem dX11_feed_13 : decode cX11_feed 13 = .ok (.iconst (-1), 1) := by decide +kernel
theorem dX11_feed_14 : decode cX11_feed 14 = .ok (.ireturn, 1) := by decide +kernel
theorem dX11_feed_15 : decode cX11_feed 15 = .ok (.aload_n 0, 1) := by decide +kernel
theorem dX11_feed_16 : decode cX11_feed 16 = .ok (.iload_n 1, 1) := by decide +kernel
theorem dX11_feed_17 : decode cX11_feed 17 = .ok (.invokevirtual 63, 3) := by decide +kernel
theorem dX11_feed_20 : decode cX11_feed 20 = .ok (.aload_n 0, 1) := by decide +kernel
theorem dX11_feed_21 : decode cX11_feed 21 = .ok (.iload_n 2, 1) := by decide +kernel
theorem dX11_feed_22 : decode cX11_feed 22 = .ok (.invokevirtual 63, 3) := by decide +kernel
theorem dX11_feed_25 : decode cX11_feed 25 = .ok (.aload_n 0, 1) := by decide +kernel
theorem dX11_feed_26 : decode cX11_feed 26 = .ok (.iload_n 3, 1) := by decide +kernel
theorem dX11_feed_27 : decode cX11_feed 27 = .ok (.invokevirtual 63, 3) := by decide +kernel
theorem dX11_feed_30 : decode cX11_feed 30 = .ok (.aload_n 0, 1) := by decide +kernel
theorem dX11_feed_31 : decode cX11_feed 31 = .ok (.iload 4, 2) := by decide +kernel
theorem dX11_feed_33 : decode cX11_feed 33 = .ok (.invokevirtual 63, 3) := by decide +kernel
theorem dX11_feed_36 : decode cX11_feed 36 = .ok (.aload_n 0, 1) := by decide +kernel
theorem dX11_feed_37 : decode cX11_feed 37 = .ok (.iload 5, 2) := by decide +kernel
theorem dX11_feed_39 : decode cX11_feed 39 = .ok (.invokevirtual 63, 3) := by decide +kernel
theorem dX11_feed_42 : decode cX11_feed 42 = .ok (.aload_n 0, 1) := by decide +kernel
theorem dX11_feed_43 : decode cX11_feed 43 = .ok (.getfield 13, 3) := by decide +kernel
theorem dX11_feed_46 : decode cX11_feed 46 = .ok (.ireturn, 1) := by decide +kernel
theorem dX11_addBytes_0 : decode cX11_addBytes 0 = .ok (.bipush 24, 2) := by decide +kernel
theorem dX11_addBytes_2 : decode cX11_addBytes 2 = .ok (.istore_n 2, 1) := by decide +kernel
theorem dX11_addBytes_3 : decode cX11_addBytes 3 = .ok (.iload_n 2, 1) := by decide +kernel
theorem dX11_addBytes_4 : decode cX11_addBytes 4 = .ok (.ifCond .lt 42, 3) := by decide +kernel
theorem dX11_addBytes_7 : decode cX11_addBytes 7 = .ok (.aload_n 0, 1) := by decide +kernel
theorem dX11_addBytes_8 : decode cX11_addBytes 8 = .ok (.getfield 13, 3) := by decide +kernel
theorem dX11_addBytes_11 : decode cX11_addBytes 11 = .ok (.sipush 3000, 3) := by decide +kernel
theorem dX11_addBytes_14 : decode cX11_addBytes 14 = .ok (.if_icmp .ge 32, 3) := by decide +kernel
theorem dX11_addBytes_17 : decode cX11_addBytes 17 = .ok (.aload_n 0, 1) := by decide +kernel
theorem dX11_addBytes_18 : decode cX11_addBytes 18 = .ok (.getfield 9, 3) := by decide +kernel
theorem dX11_addBytes_21 : decode cX11_addBytes 21 = .ok (.aload_n 0, 1) := by decide +kernel
theorem dX11_addBytes_22 : decode cX11_addBytes 22 = .ok (.getfield 13, 3) := by decide +kernel
theorem dX11_addBytes_25 : decode cX11_addBytes 25 = .ok (.iload_n 1, 1) := by decide +kernel
theorem dX11_addBytes_26 : decode cX11_addBytes 26 = .ok (.iload_n 2, 1) := by decide +kernel
theorem dX11_addBytes_27 : decode cX11_addBytes 27 = .ok (.ishr, 1) := by decide +kernel
theorem dX11_addBytes_28 : decode cX11_addBytes 28 = .ok (.i2b, 1) := by decide +kernel
theorem dX11_addBytes_29 : decode cX11_addBytes 29 = .ok (.bastore, 1) := by decide +kernel
theorem dX11_addBytes_30 : decode cX11_addBytes 30 = .ok (.aload_n 0, 1) := by decide +kernel
theorem dX11_addBytes_31 : decode cX11_addBytes 31 = .ok (.dup, 1) := by decide +kernel
theorem dX11_addBytes_32 : decode cX11_addBytes 32 = .ok (.getfield 13, 3) := by decide +kernel
theorem dX11_addBytes_35 : decode cX11_addBytes 35 = .ok (.iconst 1, 1) := by decide +kernel
theorem dX11_addBytes_36 : decode cX11_addBytes 36 = .ok (.iadd, 1) := by decide +kernel
theorem dX11_addBytes_37 : decode cX11_addBytes 37 = .ok (.putfield 13, 3) := by decide +kernel
theorem dX11_addBytes_40 : decode cX11_addBytes 40 = .ok (.iinc 2 (-8), 3) := by decide +kernel
theorem dX11_addBytes_43 : decode cX11_addBytes 43 = .ok (.goto (-40), 3) := by decide +kernel
theorem dX11_addBytes_46 : decode cX11_addBytes 46 = .ok (.return_, 1) := by decide +kernel
theorem dJ7_fill_53178_0 : decode cJ7_fill_53178 0 = .ok (.iconst 0, 1) := by decide +kernel
theorem dJ7_fill_53178_1 : decode cJ7_fill_53178 1 = .ok (.istore_n 2, 1) := by decide +kernel
theorem dJ7_fill_53178_2 : decode cJ7_fill_53178 2 = .ok (.aload_n 0, 1) := by decide +kernel
theorem dJ7_fill_53178_3 : decode cJ7_fill_53178 3 = .ok (.arraylength, 1) := by decide +kernel
theorem dJ7_fill_53178_4 : decode cJ7_fill_53178 4 = .ok (.istore_n 3, 1) := by decide +kernel
theorem dJ7_fill_53178_5 : decode cJ7_fill_53178 5 = .ok (.iload_n 2, 1) := by decide +kernel
theorem dJ7_fill_53178_6 : decode cJ7_fill_53178 6 = .ok (.iload_n 3, 1) := by decide +kernel
theorem dJ7_fill_53178_7 : decode cJ7_fill_53178 7 = .ok (.if_icmp .ge 13, 3) := by decide +kernel
theorem dJ7_fill_53178_10 : decode cJ7_fill_53178 10 = .ok (.aload_n 0, 1) := by decide +kernel
theorem dJ7_fill_53178_11 : decode cJ7_fill_53178 11 = .ok (.iload_n 2, 1) := by decide +kernel
theorem dJ7_fill_53178_12 : decode cJ7_fill_53178 12 = .ok (.iload_n 1, 1) := by decide +kernel
theorem dJ7_fill_53178_13 : decode cJ7_fill_53178 13 = .ok (.iastore, 1) := by decide +kernel
theorem dJ7_fill_53178_14 : decode cJ7_fill_53178 14 = .ok (.iinc 2 1, 3) := by decide +kernel
theorem dJ7_fill_53178_17 : decode cJ7_fill_53178 17 = .ok (.goto (-12), 3) := by decide +kernel
theorem dJ7_fill_53178_20 : decode cJ7_fill_53178 20 = .ok (.return_, 1) := by decide +kernel
/-! a whole array of ints at once -/
def mvv (μ : M3) (b : Int) (f : Int → Int) : M3 := (fun x j => if x = b then f j else μ.1 x j, μ.2)
theorem mv_s (μ : M3) (b : Int) (f : Int → Int) (j : Int) : (mvv μ b f).1 b j = f j := by
  show (if b = b then f j else μ.1 b j) = f j
  rw [if_pos rfl]
theorem mv_o (μ : M3) {b x : Int} (f : Int → Int) (h : x ≠ b) (j : Int) : (mvv μ b f).1 x j = μ.1 x j := by
  show (if x = b then f j else μ.1 x j) = μ.1 x j
  rw [if_neg h]
theorem mv_fr (μ : M3) (b : Int) (f : Int → Int) : Fr [b] μ (mvv μ b f) := ⟨fun x hx j => mv_o μ f (fun h => hx (by rw [h]; exact List.mem_singleton.2 rfl)) j, fun _ _ => rfl⟩
theorem Rg.mv {μ : M3} (h : Rg μ) {b : Int} {f : Int → Int} (hb : LY b = 100) (hf : ∀ j, ir (f j)) : Rg (mvv μ b f) := by
  refine ⟨fun a k ha => ?_, fun a k ha => ?_, h.2.2⟩
  · by_cases e : a = b
    · rw [e, mv_s]; exact hf k
    · rw [mv_o _ _ e]; exact h.1 a k ha
  · by_cases e : a = b
    · exfalso
      rw [e] at ha
      unfold ty at ha
      rw [hb] at ha
      cases ha
    · rw [mv_o _ _ e]; exact h.2.1 a k ha
theorem Sr.mv {μ : M3} (h : Sr μ) {b : Int} {f : Int → Int} (hb : LY b = 100) : Sr (mvv μ b f) := by
  have key : ∀ a j : Int, LY a ≠ 100 → (mvv μ b f).1 a j = μ.1 a j := fun a j ha => mv_o μ f (fun e => ha (by rw [e]; exact hb)) j
  refine ⟨fun q hq => ?_, h.2.1, fun j => ?_, ?_, ?_, ?_⟩
  · have h1 := (Nat.blt_eq).mp (SRL_ok q hq).1
    rw [key _ _ (by omega)]; exact h.1 q hq
  · rw [key _ _ (by decide)]; exact h.2.2.1 j
  · rw [key _ _ (by decide)]; exact h.2.2.2.1
  · rw [key _ _ (by decide)]; exact h.2.2.2.2.1
  · rw [key _ _ (by decide)]; exact h.2.2.2.2.2
theorem IC.mv {μ : M3} (h : IC μ) {b : Int} {f : Int → Int} (hb : LY b = 100) : IC (mvv μ b f) := by
  have e : ∀ a j, (a, j) ∈ FPL → (mvv μ b f).1 a j = μ.1 a j := fun a j hj => mv_o μ f (fun e => by have := FPL_ly _ hj; rw [e, hb] at this; omega) j
  refine h.mk2 rfl (fun r hr => e r 3 (FPL_r hr)) (fun p hp => ⟨e p 1 (FPL_p hp).1, e p 7 (FPL_p hp).2⟩) ?_
  have hn := h.nm
  unfold nums at *
  rw [e 0 1 (by decide +kernel), e 2 3 (by decide +kernel), e 2 4 (by decide +kernel), e 6 5 (by decide +kernel), e 52 7 (by decide +kernel), e 60 6 (by decide +kernel), e 45 1 (by decide +kernel), e 45 4 (by decide +kernel), e 23 5 (by decide +kernel), e 26 6 (by decide +kernel), e 26 7 (by decide +kernel), e 26 9 (by decide +kernel), e 26 10 (by decide +kernel)]
  exact hn
section COPY
variable {p : Program} {l : Launch} {e : Env} {R : Room} {s : State} {d0 : Drawn} {m : MethodId} {args : Array Value} {below : List Frame} {meth : Method} {c : Code} {H : Heap} {locs : List Loc} {Q : State → Prop} {cc : ByteArray} {nL pc : Nat} {own : String} {ls : Array Slot} {rest : List Value} {ω : Om} {ρ : Int → Nat} {μ : M3}
theorem xa_copyi (G : Gd ω ρ μ p m c cc nL s args own d0 R H locs) {a b n : Int} {idx fr lo : Nat} (hLa : LY a = 100) (hLb : LY b = 100) (hn : 0 ≤ n ∧ n ≤ μ.2.1 a ∧ n ≤ μ.2.1 b) (h1 : Cond.methodLink own idx arraycopyName ∈ TG) (h2 : Cond.native arraycopyName ∈ TG) (h3 : Cond.static arraycopyName ∈ TG) (h4 : Cond.initialized "java/lang/System" ∈ TG) (hR : R.frames = fr ∧ R.locals = lo) (hRR : Nat.ble 1 fr = true ∧ Nat.ble 40 lo = true) (hw : (rest.map fun v => v.category).sum ≤ 8) (hls : ls.size = nL) (hdg : decode cc pc = .ok (.invokestatic idx, 3)) {qa qb : Nat} (hqa : ad ω ρ a = qa) (hqb : ad ω ρ b = qb)
    (kk : ∀ (H1 : Heap) (locs1 : List Loc), Gd ω ρ (mvv μ b (fun j => if 0 ≤ j ∧ j < n then μ.1 a j else μ.1 b j)) p m c cc nL s args own d0 R H1 locs1 → WT p l e R s d0 m args below meth c H1 locs1 Q (F0 m (pc + 3) ls rest)) : WT p l e R s d0 m args below meth c H locs Q (F0 m pc ls (.int (iv n) :: .int (iv 0) :: .ref qb :: .int (iv 0) :: .ref qa :: rest)) := by
  have ha := LY_lt (a := a) (by omega)
  have hb := LY_lt (a := b) (by omega)
  subst hqa
  subst hqb
  have hla := (G.ln a).2
  have hlb := (G.ln b).2
  have hca : (wd ω ρ μ)[a.toNat]? = some (ad ω ρ a, .inl (oA ω 0, (μ.2.1 a).toNat, .inl (fun (k : Nat) => iv (μ.1 a k)))) := by rw [wd_get ω ρ μ ha, en_arr ω ρ μ (t := 0) hLa]; rfl
  have hcb : (wd ω ρ μ)[b.toNat]? = some (ad ω ρ b, .inl (oA ω 0, (μ.2.1 b).toNat, .inl (fun (k : Nat) => iv (μ.1 b k)))) := by rw [wd_get ω ρ μ hb, en_arr ω ρ μ (t := 0) hLb]; rfl
  have z0 : (iv 0).toNatClampNeg = 0 := rfl
  have zn : (iv n).toNatClampNeg = n.toNat := iv_clamp (by unfold ir; omega)
  have hset : (wd ω ρ μ).set b.toNat (ad ω ρ b, .inl (oA ω 0, (μ.2.1 b).toNat, .inl (va_cpy (fun (k : Nat) => iv (μ.1 a k)) (fun (k : Nat) => iv (μ.1 b k)) (iv 0).toNatClampNeg (iv 0).toNatClampNeg (iv n).toNatClampNeg))) = wd ω ρ (mvv μ b (fun j => if 0 ≤ j ∧ j < n then μ.1 a j else μ.1 b j)) := by
    refine wd_set hb.1 (fun x hx => ?_) ?_
    · have e1 : (mvv μ b (fun j => if 0 ≤ j ∧ j < n then μ.1 a j else μ.1 b j)).1 x = μ.1 x := by funext j; exact mv_o _ _ hx j
      unfold en
      rw [e1]
      rfl
    · rw [en_arr ω ρ _ (t := 0) hLb, z0, zn]
      have hfn : (fun (k : Nat) => iv ((mvv μ b (fun j => if 0 ≤ j ∧ j < n then μ.1 a j else μ.1 b j)).1 b k)) = va_cpy (fun (k : Nat) => iv (μ.1 a k)) (fun (k : Nat) => iv (μ.1 b k)) 0 0 n.toNat := by
        funext k
        rw [mv_s]
        show iv (if 0 ≤ (k : Int) ∧ (k : Int) < n then μ.1 a k else μ.1 b k) = (if 0 ≤ k ∧ k < 0 + n.toNat then iv (μ.1 a ((0 + (k - 0) : Nat) : Int)) else iv (μ.1 b k))
        by_cases hk : (k : Int) < n
        · rw [if_pos ⟨by omega, hk⟩, if_pos ⟨by omega, by omega⟩]
          have e9 : 0 + (k - 0) = k := by omega
          rw [e9]
        · rw [if_neg (fun z => hk z.2), if_neg (fun z => hk (by omega))]
      show Sum.inl (oA ω 0, (μ.2.1 b).toNat, Sum.inl (fun (k : Nat) => iv ((mvv μ b (fun j => if 0 ≤ j ∧ j < n then μ.1 a j else μ.1 b j)).1 b k))) = _
      rw [hfn]
  have w := fun c0 hc => dr_words G.1.2.2.2.2 d0 c0 hc
  have nz : ¬ (iv 0 : Int32) < 0 := by decide
  have nn : ¬ (iv n : Int32) < 0 := by
    intro h
    have h2 := Int32.lt_iff_toInt_lt.mp h
    rw [iv_toInt (by unfold ir; omega)] at h2
    have h3 : (0 : Int32).toInt = 0 := rfl
    omega
  have hlo : (rest.map fun v => v.category).sum + (nativeFrameWords "java/lang/System" "arraycopy" 5 + 11) ≤ lo := by
    have h8 := Nat.le_of_ble_eq_true hRR.2
    have h9 : nativeFrameWords "java/lang/System" "arraycopy" 5 ≤ 20 := by decide
    omega
  refine va_copyi (s := s.setDrawn d0) G.1.1 G.1.2.1 (by rw [hls]; exact G.1.2.2.1) G.1.2.2.2.1 (w _ h1) (w _ h2) (w _ h3) (w _ h4) G.2.2.1.2.2.1 G.2.2.1.1 G.2.2.1.2.1 G.2.2.2.1 a.toNat b.toNat 0 0 hca hcb (ty := .int) rfl rfl rfl nz nz nn (by rw [z0, zn]; omega) (by rw [z0, zn]; omega) (fun i _ => rfl) (by rw [hR.1]; exact Nat.le_of_ble_eq_true hRR.1) (by rw [hR.2]; exact hlo) hdg (fun H1 locs1 hP hD hS => ?_)
  rw [hset] at hP hD
  refine WT.use (fun b1 b2 b3 b4 => ?_)
  exact kk H1 locs1 (G.wr hP hD hS (G.2.2.1.2.2.2.1.mv hLb (fun j => by
    have hra := G.hr (a := a) (k := j) (by unfold ty; rw [hLa]; rfl)
    have hrb := G.hr (a := b) (k := j) (by unfold ty; rw [hLb]; rfl)
    by_cases hj : 0 ≤ j ∧ j < n
    · rw [if_pos hj]; exact hra
    · rw [if_neg hj]; exact hrb)) (G.2.2.1.2.2.2.2.1.mv hLb) rfl b2 b3 b4)
theorem xb_i2b (hexec : p.tables.exec = Jvm.exec) (hb : c.code = cc) {v : Int32} (hdg : decode cc pc = .ok (.i2b, 1)) (k : ∀ x : Int, (-128 ≤ x ∧ x ≤ 127) → WT p l e R s d0 m args below meth c H locs Q (F0 m (pc + 1) ls (.int (iv x) :: rest))) : WT p l e R s d0 m args below meth c H locs Q (F0 m pc ls (.int v :: rest)) := by
  refine lv_i2b hexec hb hdg rfl ?_
  have h1 : v.toInt8.toInt32.toInt = v.toInt8.toInt := Int8.toInt_toInt32 _
  have h2 := Int8.toInt_lt v.toInt8
  have h3 := Int8.le_toInt v.toInt8
  have h := k v.toInt8.toInt32.toInt (by rw [h1]; omega)
  rw [iv_of] at h
  exact h
end COPY
set_option maxHeartbeats 4000000 in
set_option maxRecDepth 100000 in
theorem c_X5_keep (ω : Om) (l : Launch) (μ : M3) (hI : IC μ) : CtV ω l yX5_keep cX5_keep 1 1 40 [.ref (oP ω 2)] μ (fun (μ' : M3) => (Fr [2, 5] μ μ') ∧ (IC μ') ∧ (μ'.1 2 3 = μ.1 2 3)) := by
  refine CtV.go (by decide) (Nat.le_of_ble_eq_true rfl) (fun ρ p e s m below meth c R ls G hR hret hlk hl => ?_)
  have hx := G.1.1
  have hb := G.1.2.1
  have hl : lv_has ls 1 [(0, .ref (oP ω 2))] := hl
  generalize s.drawn = d0 at G ⊢
  have hn_1 : 0 ≤ μ.1 2 3 ∧ μ.1 2 3 ≤ 51 := hI.nm.2.1
  refine lv_aload_n hx hb dX5_keep_0 rfl (lv_at hl 0 rfl) ?_
  refine lv_aload_n hx hb dX5_keep_1 rfl (lv_at hl 0 rfl) ?_
  refine xa_geti G fd_X5 (a := 2) (x := μ.1 2 3) 3 rfl (by decide) rfl (wm 1 90 rfl rfl) ⟨rfl, rfl, rfl⟩ dX5_keep_2 rfl rfl ?_
  have hr_2 : -2147483648 ≤ μ.1 2 3 ∧ μ.1 2 3 ≤ 2147483647 := by have h9 := G.hr (a := 2) (k := 3) rfl; exact h9
  refine xa_puti G fd_X5 (a := 2) (x := μ.1 2 3) 4 (kz := 4) rfl rfl (by decide) rfl (by unfold ir; omega) (wm 1 91 rfl rfl) ⟨rfl, rfl, rfl, rfl⟩ rfl dX5_keep_5 rfl (fun H locs G => ?_)
  refine lv_aload_n hx hb dX5_keep_8 rfl (lv_at hl 0 rfl) ?_
  refine xa_getr G fd_X5 (a := 2) (x := 4) 1 rfl (by decide) rfl (wm 1 88 rfl rfl) ⟨rfl, rfl, rfl⟩ dX5_keep_9 rfl (G.sk 7 rfl) (by decide) rfl ?_
  refine lv_iconst (v := iv 0) hx hb dX5_keep_12 rfl ?_
  refine lv_aload_n hx hb dX5_keep_13 rfl (lv_at hl 0 rfl) ?_
  refine xa_getr G fd_X5 (a := 2) (x := 5) 2 rfl (by decide) rfl (wm 1 89 rfl rfl) ⟨rfl, rfl, rfl⟩ dX5_keep_14 rfl (G.sk 8 rfl) (by decide) rfl ?_
  refine lv_iconst (v := iv 0) hx hb dX5_keep_17 rfl ?_
  refine lv_bipush (v := iv 52) hx hb dX5_keep_18 rfl ?_
  have hI_3 : IC (sv μ 2 4 (μ.1 2 3)) := (IC.n_2_4 hI (by omega))
  refine xa_copyi G (a := 4) (b := 5) (n := 52) rfl rfl (by have h9 : (sv μ 2 4 (μ.1 2 3)).2.1 4 = μ.2.1 4 := rfl; have h8 : (sv μ 2 4 (μ.1 2 3)).2.1 5 = μ.2.1 5 := rfl; have h7 := G.lc (a := 4) (n := 52) 2 rfl; have h6 := G.lc (a := 5) (n := 52) 3 rfl; omega) (wm 3 3 rfl rfl) (wm 3 5 rfl rfl) (wm 3 4 rfl rfl) (wm 1 19 rfl rfl) hR (by decide) (by decide) hl.1 dX5_keep_20 rfl rfl (fun H locs G => ?_)
  have hI_5 : IC (mvv (sv μ 2 4 (μ.1 2 3)) 5 (fun j => if 0 ≤ j ∧ j < 52 then (sv μ 2 4 (μ.1 2 3)).1 4 j else (sv μ 2 4 (μ.1 2 3)).1 5 j)) := hI_3.mv rfl
  have F_6 := mv_fr (sv μ 2 4 (μ.1 2 3)) 5 (fun j => if 0 ≤ j ∧ j < 52 then (sv μ 2 4 (μ.1 2 3)).1 4 j else (sv μ 2 4 (μ.1 2 3)).1 5 j)
  generalize mvv (sv μ 2 4 (μ.1 2 3)) 5 (fun j => if 0 ≤ j ∧ j < 52 then (sv μ 2 4 (μ.1 2 3)).1 4 j else (sv μ 2 4 (μ.1 2 3)).1 5 j) = μ4 at G hI_5 F_6
  have e_7 : μ4.1 2 3 = μ.1 2 3 := ((F_6.1 2 (by decide) 3).trans (sv_n _ (by decide)))
  exact xr_v G hret hlk dX5_keep_23 ⟨(Fr.tr (Fr.put Fr.rf (by decide)) F_6 (by decide)), hI_5, (by omega)⟩

set_option maxHeartbeats 4000000 in
set_option maxRecDepth 100000 in
theorem c_X5_giveBack (ω : Om) (l : Launch) (μ : M3) (hI : IC μ) : CtV ω l yX5_giveBack cX5_giveBack 1 1 40 [.ref (oP ω 2)] μ (fun (μ' : M3) => (Fr [2, 4] μ μ') ∧ (IC μ') ∧ (μ'.1 2 4 = μ.1 2 4)) := by
  refine CtV.go (by decide) (Nat.le_of_ble_eq_true rfl) (fun ρ p e s m below meth c R ls G hR hret hlk hl => ?_)
  have hx := G.1.1
  have hb := G.1.2.1
  have hl : lv_has ls 1 [(0, .ref (oP ω 2))] := hl
  generalize s.drawn = d0 at G ⊢
  have hn_1 : 0 ≤ μ.1 2 4 ∧ μ.1 2 4 ≤ 51 := hI.nm.2.2.1
  refine lv_aload_n hx hb dX5_giveBack_0 rfl (lv_at hl 0 rfl) ?_
  refine lv_aload_n hx hb dX5_giveBack_1 rfl (lv_at hl 0 rfl) ?_
  refine xa_geti G fd_X5 (a := 2) (x := μ.1 2 4) 4 rfl (by decide) rfl (wm 1 91 rfl rfl) ⟨rfl, rfl, rfl⟩ dX5_giveBack_2 rfl rfl ?_
  have hr_2 : -2147483648 ≤ μ.1 2 4 ∧ μ.1 2 4 ≤ 2147483647 := by have h9 := G.hr (a := 2) (k := 4) rfl; exact h9
  refine xa_puti G fd_X5 (a := 2) (x := μ.1 2 4) 3 (kz := 3) rfl rfl (by decide) rfl (by unfold ir; omega) (wm 1 90 rfl rfl) ⟨rfl, rfl, rfl, rfl⟩ rfl dX5_giveBack_5 rfl (fun H locs G => ?_)
  refine lv_aload_n hx hb dX5_giveBack_8 rfl (lv_at hl 0 rfl) ?_
  refine xa_getr G fd_X5 (a := 2) (x := 5) 2 rfl (by decide) rfl (wm 1 89 rfl rfl) ⟨rfl, rfl, rfl⟩ dX5_giveBack_9 rfl (G.sk 8 rfl) (by decide) rfl ?_
  refine lv_iconst (v := iv 0) hx hb dX5_giveBack_12 rfl ?_
  refine lv_aload_n hx hb dX5_giveBack_13 rfl (lv_at hl 0 rfl) ?_
  refine xa_getr G fd_X5 (a := 2) (x := 4) 1 rfl (by decide) rfl (wm 1 88 rfl rfl) ⟨rfl, rfl, rfl⟩ dX5_giveBack_14 rfl (G.sk 7 rfl) (by decide) rfl ?_
  refine lv_iconst (v := iv 0) hx hb dX5_giveBack_17 rfl ?_
  refine lv_bipush (v := iv 52) hx hb dX5_giveBack_18 rfl ?_
  have hI_3 : IC (sv μ 2 3 (μ.1 2 4)) := (IC.n_2_3 hI (by omega))
  refine xa_copyi G (a := 5) (b := 4) (n := 52) rfl rfl (by have h9 : (sv μ 2 3 (μ.1 2 4)).2.1 5 = μ.2.1 5 := rfl; have h8 : (sv μ 2 3 (μ.1 2 4)).2.1 4 = μ.2.1 4 := rfl; have h7 := G.lc (a := 5) (n := 52) 3 rfl; have h6 := G.lc (a := 4) (n := 52) 2 rfl; omega) (wm 3 3 rfl rfl) (wm 3 5 rfl rfl) (wm 3 4 rfl rfl) (wm 1 19 rfl rfl) hR (by decide) (by decide) hl.1 dX5_giveBack_20 rfl rfl (fun H locs G => ?_)
  have hI_5 : IC (mvv (sv μ 2 3 (μ.1 2 4)) 4 (fun j => if 0 ≤ j ∧ j < 52 then (sv μ 2 3 (μ.1 2 4)).1 5 j else (sv μ 2 3 (μ.1 2 4)).1 4 j)) := hI_3.mv rfl
  have F_6 := mv_fr (sv μ 2 3 (μ.1 2 4)) 4 (fun j => if 0 ≤ j ∧ j < 52 then (sv μ 2 3 (μ.1 2 4)).1 5 j else (sv μ 2 3 (μ.1 2 4)).1 4 j)
  generalize mvv (sv μ 2 3 (μ.1 2 4)) 4 (fun j => if 0 ≤ j ∧ j < 52 then (sv μ 2 3 (μ.1 2 4)).1 5 j else (sv μ 2 3 (μ.1 2 4)).1 4 j) = μ4 at G hI_5 F_6
  have e_7 : μ4.1 2 4 = μ.1 2 4 := ((F_6.1 2 (by decide) 4).trans (sv_n _ (by decide)))
  exact xr_v G hret hlk dX5_giveBack_23 ⟨(Fr.tr (Fr.put Fr.rf (by decide)) F_6 (by decide)), hI_5, (by omega)⟩

set_option maxHeartbeats 4000000 in
set_option maxRecDepth 100000 in
theorem c_X11_addBytes (ω : Om) (l : Launch) (μ : M3) (x1 : Int) (q : Int) (hx1 : ir x1) (hI : IC μ) (hq : q = μ.1 0 1) : CtV ω l yX11_addBytes cX11_addBytes 3 0 0 [.ref (oP ω 0), .int (iv x1)] μ (fun (μ' : M3) => (Fr [1, 0] μ μ') ∧ (IC μ') ∧ (q ≤ μ'.1 0 1 ∧ μ'.1 0 1 ≤ q + 4 ∧ μ'.1 0 1 ≤ 3000) ∧ (q + 4 ≤ 3000 → μ'.1 0 1 = q + 4) ∧ (μ'.1 0 2 = μ.1 0 2) ∧ (μ'.1 0 6 = μ.1 0 6)) := by
  refine CtV.go (by decide) (Nat.le_of_ble_eq_true rfl) (fun ρ p e s m below meth c R ls G hR hret hlk hl => ?_)
  have hx := G.1.1
  have hb := G.1.2.1
  have hl : lv_has ls 3 [(0, .ref (oP ω 0)), (1, .int (iv x1))] := hl
  generalize s.drawn = d0 at G ⊢
  have hr_x1 : -2147483648 ≤ x1 ∧ x1 ≤ 2147483647 := hx1
  have hn_1 : 0 ≤ μ.1 0 1 ∧ μ.1 0 1 ≤ 3000 := hI.nm.1
  refine lv_bipush (v := iv 24) hx hb dX11_addBytes_0 rfl ?_
  refine lv_istore_n (lv' := [(2, .int (iv 24)), (0, .ref (oP ω 0)), (1, .int (iv x1))]) hx hb dX11_addBytes_2 rfl hl (by decide) rfl (fun ls hl => ?_)
  have e_2 : μ.1 0 1 = q := hq.symm
  have e_3 : μ.1 0 1 = q := hq.symm
  have e_4 : μ.1 0 1 = q := hq.symm
  have e_5 : μ.1 0 1 = q := hq.symm
  refine xl (fun n_9 μ' ls => ∃ (s9 : Int), (Fr [1, 0] μ μ') ∧ (-2147483648 ≤ s9 ∧ s9 ≤ 2147483647) ∧ (-8 ≤ s9) ∧ (s9 ≤ 24) ∧ (q ≤ μ'.1 0 1) ∧ (8 * (μ'.1 0 1 - q) ≤ 24 - s9) ∧ (μ'.1 0 1 ≤ 3000) ∧ (8 * (μ'.1 0 1 - q) = 24 - s9) ∧ (μ'.1 0 2 = μ.1 0 2) ∧ (μ'.1 0 6 = μ.1 0 6) ∧ (IC μ') ∧ n_9 = Int.toNat (s9 + 8) ∧ lv_has ls 3 [(2, .int (iv s9)), (0, .ref (oP ω 0)), (1, .int (iv x1))]) (fun n_9 ρ μL6 d0 H locs ls hI_l G ih => ?_) _ _ _ _ _ _ _ ⟨24, Fr.rf, (by omega), (by omega), (by omega), (by omega), (by omega), (by omega), (by omega), rfl, rfl, hI, rfl, lv_sub hl [0, 1, 2] rfl⟩ G
  obtain ⟨s9, FL7, hi_9, hi_10, hi_11, hi_12, hi_13, hi_14, hi_15, hi_16, hi_17, hi_18, hn8, hl⟩ := hI_l
  refine lv_iload_n hx hb dX11_addBytes_3 rfl (lv_at hl 0 rfl) ?_
  refine xb_if_lt (tgt := 46) hx hb (by unfold ir; omega) dX11_addBytes_4 (by decide) (fun c_4 => ?_) (fun c_4 => ?_)
  · have e_19 : μL6.1 0 2 = μ.1 0 2 := hi_16
    have e_20 : μL6.1 0 6 = μ.1 0 6 := hi_17
    exact xr_v G hret hlk dX11_addBytes_46 ⟨(Fr.tr Fr.rf FL7 (by decide)), hi_18, (by omega), (by omega), (by omega), (by omega)⟩
  · have hn_21 : 0 ≤ μL6.1 0 1 ∧ μL6.1 0 1 ≤ 3000 := hi_18.nm.1
    refine lv_aload_n hx hb dX11_addBytes_7 rfl (lv_at hl 1 rfl) ?_
    refine xa_geti G fd_X11 (a := 0) (x := μL6.1 0 1) 1 rfl (by decide) rfl (wm 2 197 rfl rfl) ⟨rfl, rfl, rfl⟩ dX11_addBytes_8 rfl rfl ?_
    have hr_22 : -2147483648 ≤ μL6.1 0 1 ∧ μL6.1 0 1 ≤ 2147483647 := by have h9 := G.hr (a := 0) (k := 1) rfl; exact h9
    refine lv_sipush (v := iv 3000) hx hb dX11_addBytes_11 rfl ?_
    refine xb_icmp_ge (tgt := 46) hx hb (by unfold ir; omega) (by unfold ir; omega) dX11_addBytes_14 (by decide) (fun c_14 => ?_) (fun c_14 => ?_)
    · have e_23 : μL6.1 0 2 = μ.1 0 2 := hi_16
      have e_24 : μL6.1 0 6 = μ.1 0 6 := hi_17
      exact xr_v G hret hlk dX11_addBytes_46 ⟨(Fr.tr Fr.rf FL7 (by decide)), hi_18, (by omega), (by omega), (by omega), (by omega)⟩
    · refine lv_aload_n hx hb dX11_addBytes_17 rfl (lv_at hl 1 rfl) ?_
      refine xa_getr G fd_X11 (a := 0) (x := 1) 0 rfl (by decide) rfl (wm 2 196 rfl rfl) ⟨rfl, rfl, rfl⟩ dX11_addBytes_18 rfl (G.sk 0 rfl) (by decide) rfl ?_
      refine lv_aload_n hx hb dX11_addBytes_21 rfl (lv_at hl 1 rfl) ?_
      refine xa_geti G fd_X11 (a := 0) (x := μL6.1 0 1) 1 rfl (by decide) rfl (wm 2 197 rfl rfl) ⟨rfl, rfl, rfl⟩ dX11_addBytes_22 rfl rfl ?_
      refine lv_iload_n hx hb dX11_addBytes_25 rfl (lv_at hl 2 rfl) ?_
      refine lv_iload_n hx hb dX11_addBytes_26 rfl (lv_at hl 0 rfl) ?_
      refine lv_ishr hx hb dX11_addBytes_27 ?_
      refine xb_topi (fun y_25 hr_y_25 he_y_25 => ?_)
      have hr_y_25 : -2147483648 ≤ y_25 ∧ y_25 ≤ 2147483647 := hr_y_25
      refine xb_i2b hx hb dX11_addBytes_28 (fun y_26 hb_y_26 => ?_)
      have hr_y_26 : -2147483648 ≤ y_26 ∧ y_26 ≤ 2147483647 := (by omega)
      refine xa_bast G (a := 1) (i := μL6.1 0 1) (x := y_26) rfl (by have h9 := G.lc (a := 1) (n := 3000) 0 rfl; omega) (by omega) dX11_addBytes_29 rfl (fun H locs G => ?_)
      refine lv_aload_n hx hb dX11_addBytes_30 rfl (lv_at hl 1 rfl) ?_
      refine lv_dup hx hb dX11_addBytes_31 rfl ?_
      refine xa_geti G fd_X11 (a := 0) (x := μL6.1 0 1) 1 rfl (by decide) rfl (wm 2 197 rfl rfl) ⟨rfl, rfl, rfl⟩ dX11_addBytes_32 rfl (sv_n _ (fun h9 => absurd h9.1 (by decide))) ?_
      refine lv_iconst (v := iv 1) hx hb dX11_addBytes_35 rfl ?_
      refine xb_iadd hx hb dX11_addBytes_36 ?_
      refine xa_puti G fd_X11 (a := 0) (x := (μL6.1 0 1) + 1) 1 (kz := 1) rfl rfl (by decide) rfl (by unfold ir; omega) (wm 2 197 rfl rfl) ⟨rfl, rfl, rfl, rfl⟩ rfl dX11_addBytes_37 rfl (fun H locs G => ?_)
      refine lv_iinc (v := iv (s9 - 8)) (lv' := [(2, .int (iv (s9 - 8))), (0, .ref (oP ω 0)), (1, .int (iv x1))]) hx hb dX11_addBytes_40 hl (k := 0) rfl (by rw [show Int32.ofInt (-8) = iv (-8) from rfl, iv_add] <;> (congr 1 <;> omega)) (by decide) rfl (fun ls hl => ?_)
      refine lv_goto (tgt := 3) hx hb dX11_addBytes_43 (by decide) ?_
      have e_27 : (sv (sv μL6 1 (μL6.1 0 1) y_26) 0 1 ((μL6.1 0 1) + 1)).1 0 1 = (μL6.1 0 1) + 1 := (sv_s _ _ _ _)
      have e_28 : (sv (sv μL6 1 (μL6.1 0 1) y_26) 0 1 ((μL6.1 0 1) + 1)).1 0 1 = (μL6.1 0 1) + 1 := (sv_s _ _ _ _)
      have e_29 : (sv (sv μL6 1 (μL6.1 0 1) y_26) 0 1 ((μL6.1 0 1) + 1)).1 0 1 = (μL6.1 0 1) + 1 := (sv_s _ _ _ _)
      have e_30 : (sv (sv μL6 1 (μL6.1 0 1) y_26) 0 1 ((μL6.1 0 1) + 1)).1 0 1 = (μL6.1 0 1) + 1 := (sv_s _ _ _ _)
      have hI_31 : IC (sv (sv μL6 1 (μL6.1 0 1) y_26) 0 1 ((μL6.1 0 1) + 1)) := (IC.n_0_1 (IC.pua hi_18 (by decide)) (by omega))
      exact ih _ _ _ _ _ _ _ (by omega) ⟨s9 - 8, (Fr.put (Fr.put FL7 (by decide)) (by decide)), (by omega), (by omega), (by omega), (by omega), (by omega), (by omega), (by omega), ((sv_n _ (by decide)).trans ((sv_n _ (fun h9 => absurd h9.1 (by decide))).trans hi_16)), ((sv_n _ (by decide)).trans ((sv_n _ (fun h9 => absurd h9.1 (by decide))).trans hi_17)), hI_31, rfl, lv_sub hl [0, 1, 2] rfl⟩ G

set_option maxHeartbeats 4000000 in
set_option maxRecDepth 100000 in
theorem c_X11_feed (ω : Om) (l : Launch) (μ : M3) (x1 : Int) (x2 : Int) (x3 : Int) (x4 : Int) (x5 : Int) (q : Int) (hx1 : ir x1) (hx2 : ir x2) (hx3 : ir x3) (hx4 : ir x4) (hx5 : ir x5) (hI : IC μ) (hq : q = μ.1 0 1) : CtI ω l yX11_feed cX11_feed 6 .int 1 22 [.ref (oP ω 0), .int (iv x1), .int (iv x2), .int (iv x3), .int (iv x4), .int (iv x5)] μ (fun (r : Int) (μ' : M3) => (Fr [1, 0] μ μ') ∧ (IC μ') ∧ ((q + 20 ≤ 3000 ∧ r = q + 20 ∧ μ'.1 0 1 = q + 20) ∨ (¬ q + 20 ≤ 3000 ∧ r = -1 ∧ μ'.1 0 1 = q)) ∧ (μ'.1 0 2 = μ.1 0 2) ∧ (μ'.1 0 6 = μ.1 0 6)) := by
  refine CtI.go (by decide) (Nat.le_of_ble_eq_true rfl) (fun ρ p e s m below meth c R ls G hR hret hlk hl => ?_)
  have hx := G.1.1
  have hb := G.1.2.1
  have hl : lv_has ls 6 [(0, .ref (oP ω 0)), (1, .int (iv x1)), (2, .int (iv x2)), (3, .int (iv x3)), (4, .int (iv x4)), (5, .int (iv x5))] := hl
  generalize s.drawn = d0 at G ⊢
  have hr_x1 : -2147483648 ≤ x1 ∧ x1 ≤ 2147483647 := hx1
  have hr_x2 : -2147483648 ≤ x2 ∧ x2 ≤ 2147483647 := hx2
  have hr_x3 : -2147483648 ≤ x3 ∧ x3 ≤ 2147483647 := hx3
  have hr_x4 : -2147483648 ≤ x4 ∧ x4 ≤ 2147483647 := hx4
  have hr_x5 : -2147483648 ≤ x5 ∧ x5 ≤ 2147483647 := hx5
  have hn_1 : 0 ≤ μ.1 0 1 ∧ μ.1 0 1 ≤ 3000 := hI.nm.1
  refine lv_aload_n hx hb dX11_feed_0 rfl (lv_at hl 0 rfl) ?_
  refine xa_geti G fd_X11 (a := 0) (x := q) 1 rfl (by decide) rfl (wm 2 197 rfl rfl) ⟨rfl, rfl, rfl⟩ dX11_feed_1 rfl hq.symm ?_
  have hr_2 : -2147483648 ≤ q ∧ q ≤ 2147483647 := by have h9 := G.hr (a := 0) (k := 1) rfl; rw [show μ.1 0 1 = q from hq.symm] at h9; exact h9
  refine lv_bipush (v := iv 20) hx hb dX11_feed_4 rfl ?_
  refine xb_iadd hx hb dX11_feed_6 ?_
  refine lv_sipush (v := iv 3000) hx hb dX11_feed_7 rfl ?_
  refine xb_icmp_le (tgt := 15) hx hb (by unfold ir; omega) (by unfold ir; omega) dX11_feed_10 (by decide) (fun c_10 => ?_) (fun c_10 => ?_)
  · refine lv_aload_n hx hb dX11_feed_15 rfl (lv_at hl 0 rfl) ?_
    refine lv_iload_n hx hb dX11_feed_16 rfl (lv_at hl 1 rfl) ?_
    have e_3 : μ.1 0 1 = q := hq.symm
    refine xc_vV G (b := 0) (rest := []) (As := [.int (iv x1)]) (c_X11_addBytes ω l μ x1 q (by unfold ir; omega) hI (by omega)) (wm 2 228 rfl rfl) (wm 2 230 rfl rfl) (wm 0 0 rfl rfl) rfl rfl (by decide) rfl (wm 1 1 rfl rfl) (wm 2 231 rfl rfl) (by decide) hR (by decide) (n := 1) rfl rfl (Nat.le_of_ble_eq_true rfl) hl.1 dX11_feed_17 (fun μ4 ρ d0 H locs hp G => ?_)
    obtain ⟨F_5, hI_6, hp_7, hp_8, hs_9, hs_10⟩ := hp
    have hn_11 : 0 ≤ μ4.1 0 1 ∧ μ4.1 0 1 ≤ 3000 := hI_6.nm.1
    refine lv_aload_n hx hb dX11_feed_20 rfl (lv_at hl 0 rfl) ?_
    refine lv_iload_n hx hb dX11_feed_21 rfl (lv_at hl 2 rfl) ?_
    have e_12 : μ4.1 0 2 = μ.1 0 2 := hs_9
    have e_13 : μ4.1 0 6 = μ.1 0 6 := hs_10
    refine xc_vV G (b := 0) (rest := []) (As := [.int (iv x2)]) (c_X11_addBytes ω l μ4 x2 (μ4.1 0 1) (by unfold ir; omega) hI_6 (by omega)) (wm 2 228 rfl rfl) (wm 2 230 rfl rfl) (wm 0 0 rfl rfl) rfl rfl (by decide) rfl (wm 1 1 rfl rfl) (wm 2 231 rfl rfl) (by decide) hR (by decide) (n := 1) rfl rfl (Nat.le_of_ble_eq_true rfl) hl.1 dX11_feed_22 (fun μ14 ρ d0 H locs hp G => ?_)
    obtain ⟨F_15, hI_16, hp_17, hp_18, hs_19, hs_20⟩ := hp
    have hn_21 : 0 ≤ μ14.1 0 1 ∧ μ14.1 0 1 ≤ 3000 := hI_16.nm.1
    refine lv_aload_n hx hb dX11_feed_25 rfl (lv_at hl 0 rfl) ?_
    refine lv_iload_n hx hb dX11_feed_26 rfl (lv_at hl 3 rfl) ?_
    have e_22 : μ14.1 0 2 = μ.1 0 2 := (hs_19.trans hs_9)
    have e_23 : μ14.1 0 6 = μ.1 0 6 := (hs_20.trans hs_10)
    refine xc_vV G (b := 0) (rest := []) (As := [.int (iv x3)]) (c_X11_addBytes ω l μ14 x3 (μ14.1 0 1) (by unfold ir; omega) hI_16 (by omega)) (wm 2 228 rfl rfl) (wm 2 230 rfl rfl) (wm 0 0 rfl rfl) rfl rfl (by decide) rfl (wm 1 1 rfl rfl) (wm 2 231 rfl rfl) (by decide) hR (by decide) (n := 1) rfl rfl (Nat.le_of_ble_eq_true rfl) hl.1 dX11_feed_27 (fun μ24 ρ d0 H locs hp G => ?_)
    obtain ⟨F_25, hI_26, hp_27, hp_28, hs_29, hs_30⟩ := hp
    have hn_31 : 0 ≤ μ24.1 0 1 ∧ μ24.1 0 1 ≤ 3000 := hI_26.nm.1
    refine lv_aload_n hx hb dX11_feed_30 rfl (lv_at hl 0 rfl) ?_
    refine lv_iload hx hb dX11_feed_31 (lv_at hl 4 rfl) ?_
    have e_32 : μ24.1 0 2 = μ.1 0 2 := (hs_29.trans (hs_19.trans hs_9))
    have e_33 : μ24.1 0 6 = μ.1 0 6 := (hs_30.trans (hs_20.trans hs_10))
    refine xc_vV G (b := 0) (rest := []) (As := [.int (iv x4)]) (c_X11_addBytes ω l μ24 x4 (μ24.1 0 1) (by unfold ir; omega) hI_26 (by omega)) (wm 2 228 rfl rfl) (wm 2 230 rfl rfl) (wm 0 0 rfl rfl) rfl rfl (by decide) rfl (wm 1 1 rfl rfl) (wm 2 231 rfl rfl) (by decide) hR (by decide) (n := 1) rfl rfl (Nat.le_of_ble_eq_true rfl) hl.1 dX11_feed_33 (fun μ34 ρ d0 H locs hp G => ?_)
    obtain ⟨F_35, hI_36, hp_37, hp_38, hs_39, hs_40⟩ := hp
    have hn_41 : 0 ≤ μ34.1 0 1 ∧ μ34.1 0 1 ≤ 3000 := hI_36.nm.1
    refine lv_aload_n hx hb dX11_feed_36 rfl (lv_at hl 0 rfl) ?_
    refine lv_iload hx hb dX11_feed_37 (lv_at hl 5 rfl) ?_
    have e_42 : μ34.1 0 2 = μ.1 0 2 := (hs_39.trans (hs_29.trans (hs_19.trans hs_9)))
    have e_43 : μ34.1 0 6 = μ.1 0 6 := (hs_40.trans (hs_30.trans (hs_20.trans hs_10)))
    refine xc_vV G (b := 0) (rest := []) (As := [.int (iv x5)]) (c_X11_addBytes ω l μ34 x5 (μ34.1 0 1) (by unfold ir; omega) hI_36 (by omega)) (wm 2 228 rfl rfl) (wm 2 230 rfl rfl) (wm 0 0 rfl rfl) rfl rfl (by decide) rfl (wm 1 1 rfl rfl) (wm 2 231 rfl rfl) (by decide) hR (by decide) (n := 1) rfl rfl (Nat.le_of_ble_eq_true rfl) hl.1 dX11_feed_39 (fun μ44 ρ d0 H locs hp G => ?_)
    obtain ⟨F_45, hI_46, hp_47, hp_48, hs_49, hs_50⟩ := hp
    have hn_51 : 0 ≤ μ44.1 0 1 ∧ μ44.1 0 1 ≤ 3000 := hI_46.nm.1
    refine lv_aload_n hx hb dX11_feed_42 rfl (lv_at hl 0 rfl) ?_
    refine xa_geti G fd_X11 (a := 0) (x := μ44.1 0 1) 1 rfl (by decide) rfl (wm 2 197 rfl rfl) ⟨rfl, rfl, rfl⟩ dX11_feed_43 rfl rfl ?_
    have hr_52 : -2147483648 ≤ μ44.1 0 1 ∧ μ44.1 0 1 ≤ 2147483647 := by have h9 := G.hr (a := 0) (k := 1) rfl; exact h9
    have e_53 : μ44.1 0 2 = μ.1 0 2 := (hs_49.trans (hs_39.trans (hs_29.trans (hs_19.trans hs_9))))
    have e_54 : μ44.1 0 6 = μ.1 0 6 := (hs_50.trans (hs_40.trans (hs_30.trans (hs_20.trans hs_10))))
    exact xr_i G (x := μ44.1 0 1) hret hlk (by unfold ir; omega) rfl dX11_feed_46 ⟨(Fr.tr (Fr.tr (Fr.tr (Fr.tr (Fr.tr Fr.rf F_5 (by decide)) F_15 (by decide)) F_25 (by decide)) F_35 (by decide)) F_45 (by decide)), hI_46, (by omega), (by omega), (by omega)⟩
  · refine lv_iconst (v := iv (-1)) hx hb dX11_feed_13 rfl ?_
    have e_55 : μ.1 0 1 = q := hq.symm
    have e_56 : μ.1 0 1 = q := hq.symm
    exact xr_i G (x := (-1)) hret hlk (by unfold ir; omega) rfl dX11_feed_14 ⟨Fr.rf, hI, (by omega), (by omega), (by omega)⟩

set_option maxHeartbeats 4000000 in
set_option maxRecDepth 100000 in
theorem c_J7_fill_53178 (ω : Om) (l : Launch) (μ : M3) (x2 : Int) (hx2 : ir x2) (hI : IC μ) : CtV ω l yJ7_fill_53178 cJ7_fill_53178 4 0 0 [.ref (oP ω 24), .int (iv x2)] μ (fun (μ' : M3) => (Fr [24] μ μ') ∧ (IC μ') ∧ (∀ j, 0 ≤ j → j < 4 → μ'.1 24 j = x2)) := by
  refine CtV.go (by decide) (Nat.le_of_ble_eq_true rfl) (fun ρ p e s m below meth c R ls G hR hret hlk hl => ?_)
  have hx := G.1.1
  have hb := G.1.2.1
  have hl : lv_has ls 4 [(0, .ref (oP ω 24)), (1, .int (iv x2))] := hl
  generalize s.drawn = d0 at G ⊢
  have hr_x2 : -2147483648 ≤ x2 ∧ x2 ≤ 2147483647 := hx2
  refine lv_iconst (v := iv 0) hx hb dJ7_fill_53178_0 rfl ?_
  refine lv_istore_n (lv' := [(2, .int (iv 0)), (0, .ref (oP ω 24)), (1, .int (iv x2))]) hx hb dJ7_fill_53178_1 rfl hl (by decide) rfl (fun ls hl => ?_)
  refine lv_aload_n hx hb dJ7_fill_53178_2 rfl (lv_at hl 1 rfl) ?_
  refine xa_alen G (a := 24) (t := 0) rfl (by decide) dJ7_fill_53178_3 rfl ?_
  refine xb_ti (y := 4) (G.lc 14 rfl) ?_
  refine lv_istore_n (lv' := [(3, .int (iv 4)), (2, .int (iv 0)), (0, .ref (oP ω 24)), (1, .int (iv x2))]) hx hb dJ7_fill_53178_4 rfl hl (by decide) rfl (fun ls hl => ?_)
  refine xl (fun n_9 μ' ls => ∃ (i9 : Int), (Fr [24] μ μ') ∧ (-2147483648 ≤ i9 ∧ i9 ≤ 2147483647) ∧ (0 ≤ i9) ∧ (i9 ≤ 4) ∧ (∀ j, 0 ≤ j → j < i9 → μ'.1 24 j = x2) ∧ (IC μ') ∧ n_9 = Int.toNat (4 - i9) ∧ lv_has ls 4 [(3, .int (iv 4)), (2, .int (iv i9)), (0, .ref (oP ω 24)), (1, .int (iv x2))]) (fun n_9 ρ μL1 d0 H locs ls hI_l G ih => ?_) _ _ _ _ _ _ _ ⟨0, Fr.rf, (by omega), (by omega), (by omega), (fun j h1 h2 => absurd h2 (by omega)), hI, rfl, lv_sub hl [0, 1, 2, 3] rfl⟩ G
  obtain ⟨i9, FL2, hi_4, hi_5, hi_6, hi_7, hi_8, hn3, hl⟩ := hI_l
  refine lv_iload_n hx hb dJ7_fill_53178_5 rfl (lv_at hl 1 rfl) ?_
  refine lv_iload_n hx hb dJ7_fill_53178_6 rfl (lv_at hl 0 rfl) ?_
  refine xb_icmp_ge (tgt := 20) hx hb (by unfold ir; omega) (by unfold ir; omega) dJ7_fill_53178_7 (by decide) (fun c_7 => ?_) (fun c_7 => ?_)
  · exact xr_v G hret hlk dJ7_fill_53178_20 ⟨(Fr.tr Fr.rf FL2 (by decide)), hi_8, (fun j h1 h2 => hi_7 j h1 (by omega))⟩
  · refine lv_aload_n hx hb dJ7_fill_53178_10 rfl (lv_at hl 2 rfl) ?_
    refine lv_iload_n hx hb dJ7_fill_53178_11 rfl (lv_at hl 1 rfl) ?_
    refine lv_iload_n hx hb dJ7_fill_53178_12 rfl (lv_at hl 3 rfl) ?_
    refine xa_iast G (a := 24) (i := i9) (x := x2) rfl (by have h9 := G.lc (a := 24) (n := 4) 14 rfl; omega) (by unfold ir; omega) dJ7_fill_53178_13 rfl (fun H locs G => ?_)
    refine lv_iinc (v := iv (i9 + 1)) (lv' := [(2, .int (iv (i9 + 1))), (3, .int (iv 4)), (0, .ref (oP ω 24)), (1, .int (iv x2))]) hx hb dJ7_fill_53178_14 hl (k := 1) rfl (by rw [show Int32.ofInt 1 = iv 1 from rfl, iv_add]) (by decide) rfl (fun ls hl => ?_)
    refine lv_goto (tgt := 5) hx hb dJ7_fill_53178_17 (by decide) ?_
    have hI_9 : IC (sv μL1 24 i9 x2) := (IC.pua hi_8 (by decide))
    exact ih _ _ _ _ _ _ _ (by omega) ⟨i9 + 1, (Fr.put FL2 (by decide)), (by omega), (by omega), (by omega), (fun j h1 h2 => (Classical.em (j = i9)).elim (fun h => by rw [h]; exact sv_s _ _ _ _) (fun h => (sv_n _ (by omega)).trans (hi_7 j h1 (by omega)))), hI_9, rfl, lv_sub hl [1, 0, 2, 3] rfl⟩ G
