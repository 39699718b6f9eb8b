theorem iv_div {x y : Int} (hx : ir x) (hy : 0 < y ∧ y ≤ 2147483647) : iv x / iv y = iv (x.tdiv y) := by
  have hy2 : ir y := by unfold ir; omega
  have hne : iv y ≠ -1 := by
    intro q
    have := (iv_eq hy2 (show ir (-1) from ⟨by omega, by omega⟩)).mp q
    omega
  have hr : ir (x.tdiv y) := by
    unfold ir at *
    have h1 : (x.tdiv y).natAbs ≤ x.natAbs := by rw [Int.natAbs_tdiv]; exact Nat.div_le_self _ _
    by_cases h0 : 0 ≤ x
    · have := Int.tdiv_nonneg h0 (by omega : 0 ≤ y)
      omega
    · have h2 := Int.tdiv_nonneg (show 0 ≤ -x by omega) (by omega : 0 ≤ y)
      rw [Int.neg_tdiv] at h2
      omega
  rw [← Int32.toInt_inj, Int32.toInt_div_of_ne_right _ _ hne, iv_toInt hx, iv_toInt hy2, iv_toInt hr]
theorem iv_rem {x y : Int} (hx : ir x) (hy : 0 < y ∧ y ≤ 2147483647) : iv x - iv x / iv y * iv y = iv (x.tmod y) := by
  rw [iv_div hx hy, iv_mul, iv_sub, Int.tmod_def, Int.mul_comm]
theorem iv_toLong {x : Int} (hx : ir x) : (iv x).toInt64 = jv x := by
  rw [← Int64.toInt_inj, Int32.toInt_toInt64, iv_toInt hx, jv_toInt (by unfold ir at hx; unfold jr; omega)]
theorem jv_toInt32 (x : Int) : (jv x).toInt32 = iv x := by
  rw [← Int32.toInt_inj, Int64.toInt_toInt32]
  unfold jv iv
  rw [Int64.toInt_ofInt, Int32.toInt_ofInt]
  exact Int.bmod_bmod_of_dvd ⟨4294967296, by decide⟩
theorem iv_max {x y : Int} (hx : ir x) (hy : ir y) : (if iv x < iv y then iv y else iv x) = iv (max x y) := by
  by_cases h : x < y
  · rw [if_pos ((iv_lt hx hy).mpr h), Int.max_eq_right (by omega)]
  · rw [if_neg (fun q => h ((iv_lt hx hy).mp q)), Int.max_eq_left (by omega)]
theorem iv_min {x y : Int} (hx : ir x) (hy : ir y) : (if iv y < iv x then iv y else iv x) = iv (min x y) := by
  by_cases h : y < x
  · rw [if_pos ((iv_lt hy hx).mpr h), Int.min_eq_right (by omega)]
  · rw [if_neg (fun q => h ((iv_lt hy hx).mp q)), Int.min_eq_left (by omega)]
def lcm (x y : Int) : Int := if y < x then 1 else if x = y then 0 else -1
theorem lcm_ir (x y : Int) : ir (lcm x y) := by
  unfold lcm ir
  split
  · omega
  · split <;> omega
theorem jv_cmp {x y : Int} (hx : jr x) (hy : jr y) : lg_cmp (jv x) (jv y) = iv (lcm x y) := by
  unfold lg_cmp lcm
  by_cases h : y < x
  · rw [if_pos (show jv x > jv y from (jv_lt hy hx).mpr h), if_pos h]; rfl
  · rw [if_neg (show ¬ jv x > jv y from fun q => h ((jv_lt hy hx).mp q)), if_neg h]
    by_cases h2 : x = y
    · rw [if_pos ((jv_eq hx hy).mpr h2), if_pos h2]; rfl
    · rw [if_neg (fun q => h2 ((jv_eq hx hy).mp q)), if_neg h2]; rfl
theorem and_mask {x k : Int} (y : Int) (hk : 0 ≤ k ∧ k ≤ 2147483647) (h : iv x = iv y &&& iv k) (hx : ir x) : 0 ≤ x ∧ x ≤ k := by
  have e : x = (iv y &&& iv k).toInt := by rw [← h, iv_toInt hx]
  have hk2 : ir k := by unfold ir; omega
  have e2 : (iv y &&& iv k).toInt = ((iv y).toBitVec &&& (iv k).toBitVec).toInt := rfl
  have hm : (iv k).toBitVec.msb = false := by
    have : (iv k).toBitVec.toInt = k := iv_toInt hk2
    rw [BitVec.msb_eq_toInt]
    simp only [decide_eq_false_iff_not]
    omega
  have hm2 : ((iv y).toBitVec &&& (iv k).toBitVec).msb = false := by rw [BitVec.msb_and, hm, Bool.and_false]
  have e3 := BitVec.toInt_eq_toNat_of_msb hm2
  have e4 : ((iv y).toBitVec &&& (iv k).toBitVec).toNat ≤ (iv k).toBitVec.toNat := by rw [BitVec.toNat_and]; exact Nat.and_le_right
  have e5 : ((iv k).toBitVec.toNat : Int) = k := by
    rw [← BitVec.toInt_eq_toNat_of_msb hm]
    exact iv_toInt hk2
  rw [e, e2, e3]
  omega
section OPS
variable {p : Program} {l : Launch} {e : Env} {R : Room} {s : State} {d0 : Drawn} {m : MethodId} {args : Array Value} {below : List Frame} {meth : Method} {c : Code} {H : Heap} {locs : List Loc} {Q : State → Prop} {cc : ByteArray} {nL pc : Nat} {own : String} {ls : Array Slot} {rest : List Value} {ω : Om} {ρ : Int → Nat} {μ : M3}
theorem xb_iadd (hx : p.tables.exec = Jvm.exec) (hb : c.code = cc) {x y : Int} (hdg : decode cc pc = .ok (.iadd, 1)) (k : WT p l e R s d0 m args below meth c H locs Q (F0 m (pc + 1) ls (.int (iv (x + y)) :: rest))) : WT p l e R s d0 m args below meth c H locs Q (F0 m pc ls (.int (iv y) :: .int (iv x) :: rest)) := by
  refine lv_iadd hx hb hdg ?_
  rw [iv_add]
  exact k
theorem xb_isub (hx : p.tables.exec = Jvm.exec) (hb : c.code = cc) {x y : Int} (hdg : decode cc pc = .ok (.isub, 1)) (k : WT p l e R s d0 m args below meth c H locs Q (F0 m (pc + 1) ls (.int (iv (x - y)) :: rest))) : WT p l e R s d0 m args below meth c H locs Q (F0 m pc ls (.int (iv y) :: .int (iv x) :: rest)) := by
  refine lv_isub hx hb hdg ?_
  rw [iv_sub]
  exact k
theorem xb_imul (hx : p.tables.exec = Jvm.exec) (hb : c.code = cc) {x y : Int} (hdg : decode cc pc = .ok (.imul, 1)) (k : WT p l e R s d0 m args below meth c H locs Q (F0 m (pc + 1) ls (.int (iv (x * y)) :: rest))) : WT p l e R s d0 m args below meth c H locs Q (F0 m pc ls (.int (iv y) :: .int (iv x) :: rest)) := by
  refine lv_imul hx hb hdg ?_
  rw [iv_mul]
  exact k
theorem xb_ladd (hx : p.tables.exec = Jvm.exec) (hb : c.code = cc) {x y : Int} (hdg : decode cc pc = .ok (.ladd, 1)) (k : WT p l e R s d0 m args below meth c H locs Q (F0 m (pc + 1) ls (.long (jv (x + y)) :: rest))) : WT p l e R s d0 m args below meth c H locs Q (F0 m pc ls (.long (jv y) :: .long (jv x) :: rest)) := by
  refine lv_ladd hx hb hdg ?_
  rw [jv_add]
  exact k
theorem xb_lsub (hx : p.tables.exec = Jvm.exec) (hb : c.code = cc) {x y : Int} (hdg : decode cc pc = .ok (.lsub, 1)) (k : WT p l e R s d0 m args below meth c H locs Q (F0 m (pc + 1) ls (.long (jv (x - y)) :: rest))) : WT p l e R s d0 m args below meth c H locs Q (F0 m pc ls (.long (jv y) :: .long (jv x) :: rest)) := by
  refine lv_lsub hx hb hdg ?_
  rw [jv_sub]
  exact k
theorem xb_lmul (hx : p.tables.exec = Jvm.exec) (hb : c.code = cc) {x y : Int} (hdg : decode cc pc = .ok (.lmul, 1)) (k : WT p l e R s d0 m args below meth c H locs Q (F0 m (pc + 1) ls (.long (jv (x * y)) :: rest))) : WT p l e R s d0 m args below meth c H locs Q (F0 m pc ls (.long (jv y) :: .long (jv x) :: rest)) := by
  refine lv_lmul hx hb hdg ?_
  rw [jv_mul]
  exact k
theorem xb_ineg (hx : p.tables.exec = Jvm.exec) (hb : c.code = cc) {x : Int} (hdg : decode cc pc = .ok (.ineg, 1)) (k : WT p l e R s d0 m args below meth c H locs Q (F0 m (pc + 1) ls (.int (iv (-x)) :: rest))) : WT p l e R s d0 m args below meth c H locs Q (F0 m pc ls (.int (iv x) :: rest)) := by
  refine lv_ineg hx hb hdg ?_
  rw [iv_neg]
  exact k
theorem xb_lneg (hx : p.tables.exec = Jvm.exec) (hb : c.code = cc) {x : Int} (hdg : decode cc pc = .ok (.lneg, 1)) (k : WT p l e R s d0 m args below meth c H locs Q (F0 m (pc + 1) ls (.long (jv (-x)) :: rest))) : WT p l e R s d0 m args below meth c H locs Q (F0 m pc ls (.long (jv x) :: rest)) := by
  refine lv_lneg hx hb hdg ?_
  rw [jv_neg]
  exact k
theorem xb_idiv (hx : p.tables.exec = Jvm.exec) (hb : c.code = cc) {x y : Int} (hxr : ir x) (hy : 0 < y ∧ y ≤ 2147483647) (hdg : decode cc pc = .ok (.idiv, 1)) (k : WT p l e R s d0 m args below meth c H locs Q (F0 m (pc + 1) ls (.int (iv (x.tdiv y)) :: rest))) : WT p l e R s d0 m args below meth c H locs Q (F0 m pc ls (.int (iv y) :: .int (iv x) :: rest)) := by
  refine lv_idiv hx hb hdg (fun q => ?_) ?_
  · have := (iv_eq (show ir y from by unfold ir; omega) ir0).mp q
    omega
  · rw [iv_div hxr hy]
    exact k
theorem xb_irem (hx : p.tables.exec = Jvm.exec) (hb : c.code = cc) {x y : Int} (hxr : ir x) (hy : 0 < y ∧ y ≤ 2147483647) (hdg : decode cc pc = .ok (.irem, 1)) (k : WT p l e R s d0 m args below meth c H locs Q (F0 m (pc + 1) ls (.int (iv (x.tmod y)) :: rest))) : WT p l e R s d0 m args below meth c H locs Q (F0 m pc ls (.int (iv y) :: .int (iv x) :: rest)) := by
  refine lv_irem hx hb hdg (fun q => ?_) ?_
  · have := (iv_eq (show ir y from by unfold ir; omega) ir0).mp q
    omega
  · rw [iv_rem hxr hy]
    exact k
theorem xb_i2l (hx : p.tables.exec = Jvm.exec) (hb : c.code = cc) {x : Int} (hxr : ir x) (hdg : decode cc pc = .ok (.i2l, 1)) (k : WT p l e R s d0 m args below meth c H locs Q (F0 m (pc + 1) ls (.long (jv x) :: rest))) : WT p l e R s d0 m args below meth c H locs Q (F0 m pc ls (.int (iv x) :: rest)) := lv_i2l hx hb hdg (iv_toLong hxr) k
theorem xb_l2i (hx : p.tables.exec = Jvm.exec) (hb : c.code = cc) {x : Int} (hdg : decode cc pc = .ok (.l2i, 1)) (k : WT p l e R s d0 m args below meth c H locs Q (F0 m (pc + 1) ls (.int (iv x) :: rest))) : WT p l e R s d0 m args below meth c H locs Q (F0 m pc ls (.long (jv x) :: rest)) := lv_l2i hx hb hdg (jv_toInt32 x) k
theorem xb_lcmp (hx : p.tables.exec = Jvm.exec) (hb : c.code = cc) {x y : Int} (hxr : jr x) (hyr : jr y) (hdg : decode cc pc = .ok (.lcmp, 1)) (k : WT p l e R s d0 m args below meth c H locs Q (F0 m (pc + 1) ls (.int (iv (lcm x y)) :: rest))) : WT p l e R s d0 m args below meth c H locs Q (F0 m pc ls (.long (jv y) :: .long (jv x) :: rest)) := by
  refine W.lcmp hx hb hdg ?_
  rw [jv_cmp hxr hyr]
  exact k
theorem xb_topi {v : Int32} (k : ∀ x : Int, ir x → iv x = v → WT p l e R s d0 m args below meth c H locs Q (F0 m pc ls (.int (iv x) :: rest))) : WT p l e R s d0 m args below meth c H locs Q (F0 m pc ls (.int v :: rest)) := by
  have h := k v.toInt (ir_of v) (iv_of v)
  rw [iv_of] at h
  exact h
theorem xb_topl {v : Int64} (k : ∀ x : Int, jr x → jv x = v → WT p l e R s d0 m args below meth c H locs Q (F0 m pc ls (.long (jv x) :: rest))) : WT p l e R s d0 m args below meth c H locs Q (F0 m pc ls (.long v :: rest)) := by
  have h := k v.toInt (jr_of v) (jv_of v)
  rw [jv_of] at h
  exact h
theorem xb_topd {v : UInt64} (k : ∀ x : Int, dv x = v → WT p l e R s d0 m args below meth c H locs Q (F0 m pc ls (.double (dv x) :: rest))) : WT p l e R s d0 m args below meth c H locs Q (F0 m pc ls (.double v :: rest)) := by
  have h := k (v.toNat : Int) (dv_of v)
  rw [dv_of] at h
  exact h
theorem xb_ti {x y : Int} (h : x = y) (k : WT p l e R s d0 m args below meth c H locs Q (F0 m pc ls (.int (iv y) :: rest))) : WT p l e R s d0 m args below meth c H locs Q (F0 m pc ls (.int (iv x) :: rest)) := h ▸ k
theorem xb_tl {x y : Int} (h : x = y) (k : WT p l e R s d0 m args below meth c H locs Q (F0 m pc ls (.long (jv y) :: rest))) : WT p l e R s d0 m args below meth c H locs Q (F0 m pc ls (.long (jv x) :: rest)) := h ▸ k
theorem xb_wi {x y : Int} (h : iv x = iv y) (k : WT p l e R s d0 m args below meth c H locs Q (F0 m pc ls (.int (iv y) :: rest))) : WT p l e R s d0 m args below meth c H locs Q (F0 m pc ls (.int (iv x) :: rest)) := h ▸ k
theorem xb_wl {x y : Int} (h : jv x = jv y) (k : WT p l e R s d0 m args below meth c H locs Q (F0 m pc ls (.long (jv y) :: rest))) : WT p l e R s d0 m args below meth c H locs Q (F0 m pc ls (.long (jv x) :: rest)) := h ▸ k
theorem xb_lit {v : Int32} {x : Int} (h : v = iv x) (k : WT p l e R s d0 m args below meth c H locs Q (F0 m pc ls (.int (iv x) :: rest))) : WT p l e R s d0 m args below meth c H locs Q (F0 m pc ls (.int v :: rest)) := h ▸ k
theorem xb_litl {v : Int64} {x : Int} (h : v = jv x) (k : WT p l e R s d0 m args below meth c H locs Q (F0 m pc ls (.long (jv x) :: rest))) : WT p l e R s d0 m args below meth c H locs Q (F0 m pc ls (.long v :: rest)) := h ▸ k
theorem Gd.dr (G : Gd ω ρ μ p m c cc nL s args own d0 R H locs) {d1 : Drawn} (hd : s.drawn.sameBut d1 lw_cs) : Gd ω ρ μ p m c cc nL s args own d1 R H locs := ⟨G.1, hd, G.2.2⟩
theorem xd_dadd (G : Gd ω ρ μ p m c cc nL s args own d0 R H locs) {x y : UInt64} (hdg : decode cc pc = .ok (.dadd, 1)) (kk : ∀ (r : Int) (d1 : Drawn), Gd ω ρ μ p m c cc nL s args own d1 R H locs → WT p l e R s d1 m args below meth c H locs Q (F0 m (pc + 1) ls (.double (dv r) :: rest))) : WT p l e R s d0 m args below meth c H locs Q (F0 m pc ls (.double y :: .double x :: rest)) := by
  refine lv_dadd_any G.2.1 lw_bits G.1.1 G.1.2.1 hdg (fun r d1 _ hd => ?_)
  have h := kk (r.toNat : Int) d1 (G.dr hd)
  rw [dv_of] at h
  exact h
theorem xd_dsub (G : Gd ω ρ μ p m c cc nL s args own d0 R H locs) {x y : UInt64} (hdg : decode cc pc = .ok (.dsub, 1)) (kk : ∀ (r : Int) (d1 : Drawn), Gd ω ρ μ p m c cc nL s args own d1 R H locs → WT p l e R s d1 m args below meth c H locs Q (F0 m (pc + 1) ls (.double (dv r) :: rest))) : WT p l e R s d0 m args below meth c H locs Q (F0 m pc ls (.double y :: .double x :: rest)) := by
  refine lv_dsub_any G.2.1 lw_bits G.1.1 G.1.2.1 hdg (fun r d1 _ hd => ?_)
  have h := kk (r.toNat : Int) d1 (G.dr hd)
  rw [dv_of] at h
  exact h
theorem xd_dmul (G : Gd ω ρ μ p m c cc nL s args own d0 R H locs) {x y : UInt64} (hdg : decode cc pc = .ok (.dmul, 1)) (kk : ∀ (r : Int) (d1 : Drawn), Gd ω ρ μ p m c cc nL s args own d1 R H locs → WT p l e R s d1 m args below meth c H locs Q (F0 m (pc + 1) ls (.double (dv r) :: rest))) : WT p l e R s d0 m args below meth c H locs Q (F0 m pc ls (.double y :: .double x :: rest)) := by
  refine lv_dmul_any G.2.1 lw_bits G.1.1 G.1.2.1 hdg (fun r d1 _ hd => ?_)
  have h := kk (r.toNat : Int) d1 (G.dr hd)
  rw [dv_of] at h
  exact h
theorem xd_ddiv (G : Gd ω ρ μ p m c cc nL s args own d0 R H locs) {x y : UInt64} (hdg : decode cc pc = .ok (.ddiv, 1)) (kk : ∀ (r : Int) (d1 : Drawn), Gd ω ρ μ p m c cc nL s args own d1 R H locs → WT p l e R s d1 m args below meth c H locs Q (F0 m (pc + 1) ls (.double (dv r) :: rest))) : WT p l e R s d0 m args below meth c H locs Q (F0 m pc ls (.double y :: .double x :: rest)) := by
  refine lv_ddiv_any G.2.1 lw_bits G.1.1 G.1.2.1 hdg (fun r d1 _ hd => ?_)
  have h := kk (r.toNat : Int) d1 (G.dr hd)
  rw [dv_of] at h
  exact h
theorem xd_drem (G : Gd ω ρ μ p m c cc nL s args own d0 R H locs) {x y : UInt64} (hdg : decode cc pc = .ok (.drem, 1)) (kk : ∀ (r : Int) (d1 : Drawn), Gd ω ρ μ p m c cc nL s args own d1 R H locs → WT p l e R s d1 m args below meth c H locs Q (F0 m (pc + 1) ls (.double (dv r) :: rest))) : WT p l e R s d0 m args below meth c H locs Q (F0 m pc ls (.double y :: .double x :: rest)) := by
  refine lv_drem_any G.2.1 lw_bits G.1.1 G.1.2.1 hdg (fun r d1 _ hd => ?_)
  have h := kk (r.toNat : Int) d1 (G.dr hd)
  rw [dv_of] at h
  exact h
theorem xm_max (G : Gd ω ρ μ p m c cc nL s args own d0 R H locs) {idx fr lo : Nat} (h1 : Cond.methodLink own idx Lib.Math.max.name ∈ TG) (h2 : Cond.static Lib.Math.max.name ∈ TG) (h3 : Cond.initialized "java/lang/Math" ∈ TG) (h4 : Cond.code Lib.Math.max.name Lib.Math.max.code 2 (some .int) ∈ TG) (hR : R.frames = fr ∧ R.locals = lo) (hf : 1 ≤ fr) (hlo : (rest.map fun v => v.category).sum + 13 ≤ lo) (hls : ls.size = nL) {x y : Int} (hx : ir x) (hy : ir y) (hdg : decode cc pc = .ok (.invokestatic idx, 3)) (k : WT p l e R s d0 m args below meth c H locs Q (F0 m (pc + 3) ls (.int (iv (max x y)) :: rest))) : WT p l e R s d0 m args below meth c H locs Q (F0 m pc ls (.int (iv y) :: .int (iv x) :: rest)) := by
  have hrm := G.rm
  refine va_mmax (s := s.setDrawn d0) G.1.1 G.1.2.1 (by rw [hls]; exact G.1.2.2.1) G.1.2.2.2.1 (dr_words G.1.2.2.2.2 d0 _ h1) (dr_words G.1.2.2.2.2 d0 _ h2) (dr_words G.1.2.2.2.2 d0 _ h3) (dr_words G.1.2.2.2.2 d0 _ h4) (by rw [hR.1]; exact hf) (by rw [hR.2]; exact hlo) (by omega) (by omega) hdg ?_
  rw [iv_max hx hy]
  exact k
theorem xm_min (G : Gd ω ρ μ p m c cc nL s args own d0 R H locs) {idx fr lo : Nat} (h1 : Cond.methodLink own idx Lib.Math.min.name ∈ TG) (h2 : Cond.static Lib.Math.min.name ∈ TG) (h3 : Cond.initialized "java/lang/Math" ∈ TG) (h4 : Cond.code Lib.Math.min.name Lib.Math.min.code 2 (some .int) ∈ TG) (hR : R.frames = fr ∧ R.locals = lo) (hf : 1 ≤ fr) (hlo : (rest.map fun v => v.category).sum + 13 ≤ lo) (hls : ls.size = nL) {x y : Int} (hx : ir x) (hy : ir y) (hdg : decode cc pc = .ok (.invokestatic idx, 3)) (k : WT p l e R s d0 m args below meth c H locs Q (F0 m (pc + 3) ls (.int (iv (min x y)) :: rest))) : WT p l e R s d0 m args below meth c H locs Q (F0 m pc ls (.int (iv y) :: .int (iv x) :: rest)) := by
  have hrm := G.rm
  refine va_mmin (s := s.setDrawn d0) G.1.1 G.1.2.1 (by rw [hls]; exact G.1.2.2.1) G.1.2.2.2.1 (dr_words G.1.2.2.2.2 d0 _ h1) (dr_words G.1.2.2.2.2 d0 _ h2) (dr_words G.1.2.2.2.2 d0 _ h3) (dr_words G.1.2.2.2.2 d0 _ h4) (by rw [hR.1]; exact hf) (by rw [hR.2]; exact hlo) (by omega) (by omega) hdg ?_
  rw [iv_min hx hy]
  exact k
end OPS
