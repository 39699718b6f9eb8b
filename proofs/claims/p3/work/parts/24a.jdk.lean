section JDK
variable {p : Program} {l : Launch} {e : Env} {R : Room} {s : State} {d0 : Drawn} {m : MethodId} {args : Array Value} {below : List Frame} {meth : Method} {c : Code} {H : Heap} {locs : List Loc} {Q : State → Prop} {cc : ByteArray} {nL pc : Nat} {own : String} {ls : Array Slot} {rest : List Value} {ω : Om} {ρ : Int → Nat} {μ : M3}
theorem xm_maxl (G : Gd ω ρ μ p m c cc nL s args own d0 R H locs) {idx fr lo : Nat} (h1 : Cond.methodLink own idx Lib.MathLoose.max_long.x ∈ TG) (h2 : Cond.static Lib.MathLoose.max_long.x ∈ TG) (h3 : Cond.initialized "java/lang/Math" ∈ TG) (h4 : Cond.code Lib.MathLoose.max_long.x Lib.MathLoose.max_long.code 4 (some .long) ∈ TG) (hR : R.frames = fr ∧ R.locals = lo) (hf : 1 ≤ fr) (hlo : (rest.map fun v => v.category).sum + 15 ≤ lo) (hls : ls.size = nL) {x y : Int64} (hdg : decode cc pc = .ok (.invokestatic idx, 3)) (k : ∀ z : Int, jr z → WT p l e R s d0 m args below meth c H locs Q (F0 m (pc + 3) ls (.long (jv z) :: rest))) : WT p l e R s d0 m args below meth c H locs Q (F0 m pc ls (.long y :: .long x :: rest)) := by
  have hrm := G.rm
  refine va_mmax_long (s := s.setDrawn d0) G.1.1 G.1.2.1 (by rw [hls]; exact G.1.2.2.1) G.1.2.2.2.1 (dr_words G.1.2.2.2.2 d0 _ h1) (dr_words G.1.2.2.2.2 d0 _ h2) (dr_words G.1.2.2.2.2 d0 _ h3) (dr_words G.1.2.2.2.2 d0 _ h4) (by rw [hR.1]; exact hf) (by rw [hR.2]; exact hlo) (by omega) (by omega) hdg ?_
  exact xb_topl (fun z hz _ => k z hz)
theorem xm_minl (G : Gd ω ρ μ p m c cc nL s args own d0 R H locs) {idx fr lo : Nat} (h1 : Cond.methodLink own idx Lib.MathLoose.min_long.x ∈ TG) (h2 : Cond.static Lib.MathLoose.min_long.x ∈ TG) (h3 : Cond.initialized "java/lang/Math" ∈ TG) (h4 : Cond.code Lib.MathLoose.min_long.x Lib.MathLoose.min_long.code 4 (some .long) ∈ TG) (hR : R.frames = fr ∧ R.locals = lo) (hf : 1 ≤ fr) (hlo : (rest.map fun v => v.category).sum + 15 ≤ lo) (hls : ls.size = nL) {x y : Int64} (hdg : decode cc pc = .ok (.invokestatic idx, 3)) (k : ∀ z : Int, jr z → WT p l e R s d0 m args below meth c H locs Q (F0 m (pc + 3) ls (.long (jv z) :: rest))) : WT p l e R s d0 m args below meth c H locs Q (F0 m pc ls (.long y :: .long x :: rest)) := by
  have hrm := G.rm
  refine va_mmin_long (s := s.setDrawn d0) G.1.1 G.1.2.1 (by rw [hls]; exact G.1.2.2.1) G.1.2.2.2.1 (dr_words G.1.2.2.2.2 d0 _ h1) (dr_words G.1.2.2.2.2 d0 _ h2) (dr_words G.1.2.2.2.2 d0 _ h3) (dr_words G.1.2.2.2.2 d0 _ h4) (by rw [hR.1]; exact hf) (by rw [hR.2]; exact hlo) (by omega) (by omega) hdg ?_
  exact xb_topl (fun z hz _ => k z hz)
theorem xm_absl (G : Gd ω ρ μ p m c cc nL s args own d0 R H locs) {idx fr lo : Nat} (h1 : Cond.methodLink own idx Lib.MathLoose.abs_long.x ∈ TG) (h2 : Cond.static Lib.MathLoose.abs_long.x ∈ TG) (h3 : Cond.initialized "java/lang/Math" ∈ TG) (h4 : Cond.code Lib.MathLoose.abs_long.x Lib.MathLoose.abs_long.code 2 (some .long) ∈ TG) (hR : R.frames = fr ∧ R.locals = lo) (hf : 1 ≤ fr) (hlo : (rest.map fun v => v.category).sum + 13 ≤ lo) (hls : ls.size = nL) {x : Int} (hx : jr x) (hdg : decode cc pc = .ok (.invokestatic idx, 3)) (k : ∀ z : Int, jr z → (x ≠ 0 → z ≠ 0) → WT p l e R s d0 m args below meth c H locs Q (F0 m (pc + 3) ls (.long (jv z) :: rest))) : WT p l e R s d0 m args below meth c H locs Q (F0 m pc ls (.long (jv x) :: rest)) := by
  have hrm := G.rm
  refine va_mabs_long (s := s.setDrawn d0) G.1.1 G.1.2.1 (by rw [hls]; exact G.1.2.2.1) G.1.2.2.2.1 (dr_words G.1.2.2.2.2 d0 _ h1) (dr_words G.1.2.2.2.2 d0 _ h2) (dr_words G.1.2.2.2.2 d0 _ h3) (dr_words G.1.2.2.2.2 d0 _ h4) (by rw [hR.1]; exact hf) (by rw [hR.2]; exact hlo) (by omega) (by omega) hdg ?_
  refine xb_topl (fun z hz he => k z hz (fun hx0 hz0 => ?_))
  subst hz0
  have h0 : jr 0 := by unfold jr; omega
  by_cases hp : (0 : Int64) < jv x
  · rw [if_pos hp] at he
    exact hx0 ((jv_eq h0 hx).mp he).symm
  · rw [if_neg hp] at he
    have : jv x = 0 := by
      have h1 : - (- jv x) = - (jv 0) := by rw [he]
      rw [Int64.neg_neg] at h1
      rw [h1]; decide
    exact hx0 ((jv_eq hx h0).mp this)
end JDK
theorem jv_ne0 {z : Int} (hz : jr z) (h : z ≠ 0) : jv z ≠ 0 := fun e => h ((jv_eq hz (by unfold jr; omega)).mp e)
