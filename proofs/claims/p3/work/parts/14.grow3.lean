theorem gi_cons {w : Cond} {ws : List Cond} (h : w ∈ TG) (hg : GoodIn TG ws) : GoodIn TG (w :: ws) := by
  intro x hx
  rcases List.mem_cons.mp hx with rfl | h2
  · exact ⟨h, good_of_word (tg_good h)⟩
  · exact hg x h2
theorem gi_nil : GoodIn TG [] := fun x hx => by cases hx
theorem gw_int : GoodIn TG wqcopyOf_int := (gi_cons (wm 3 20 rfl rfl) (gi_cons (wm 1 105 rfl rfl) (gi_cons (wm 3 28 rfl rfl) (gi_cons (wm 3 29 rfl rfl) (gi_cons (wm 1 11 rfl rfl) (gi_cons (wm 3 30 rfl rfl) (gi_cons (wm 3 31 rfl rfl) (gi_cons (wm 3 5 rfl rfl) (gi_cons (wm 3 4 rfl rfl) (gi_cons (wm 1 19 rfl rfl) gi_nil))))))))))
theorem gw_long : GoodIn TG wqcopyOf_long := (gi_cons (wm 3 34 rfl rfl) (gi_cons (wm 1 104 rfl rfl) (gi_cons (wm 3 28 rfl rfl) (gi_cons (wm 3 29 rfl rfl) (gi_cons (wm 1 11 rfl rfl) (gi_cons (wm 3 30 rfl rfl) (gi_cons (wm 3 31 rfl rfl) (gi_cons (wm 3 5 rfl rfl) (gi_cons (wm 3 4 rfl rfl) (gi_cons (wm 1 19 rfl rfl) gi_nil))))))))))
theorem gw_double : GoodIn TG wqcopyOf_double := (gi_cons (wm 3 42 rfl rfl) (gi_cons (wm 1 163 rfl rfl) (gi_cons (wm 3 28 rfl rfl) (gi_cons (wm 3 29 rfl rfl) (gi_cons (wm 1 11 rfl rfl) (gi_cons (wm 3 30 rfl rfl) (gi_cons (wm 3 31 rfl rfl) (gi_cons (wm 3 5 rfl rfl) (gi_cons (wm 3 4 rfl rfl) (gi_cons (wm 1 19 rfl rfl) gi_nil))))))))))
section GRW
variable {p : Program} {l : Launch} {e : Env} {R : Room} {s : State} {d0 : Drawn} {m : MethodId} {args : Array Value} {below : List Frame} {meth : Method} {c : Code} {H : Heap} {locs : List Loc} {Q : State → Prop} {cc : ByteArray} {nL pc : Nat} {own : String} {ls : Array Slot} {rest : List Value} {ω : Om} {ρ : Int → Nat} {μ : M3}
set_option maxHeartbeats 4000000 in
theorem xg_int (G : Gd ω ρ μ p m c cc nL s args own d0 R H locs) {ci N idx idx2 fr lo : Nat} {C : String} {T : u_T} {ty0 : Nat → FieldType} (F : Fdd ci C T N ty0) {a b n : Int} (k : Nat) (hLY : LY a = ci) (hk : k < N) (hFT : FT ci k = 3) (hqa : ad ω ρ a = oP ω a) (hb9 : μ.1 a k = b) (hLYb : LY b = 100) (hRZ : RZ b = true) (hu : ∀ q ∈ SRL, q.2.2 = b → q.1 = a ∧ q.2.1 = (k : Int)) (hN : ∀ q ∈ LNL, q.1 ≠ b) (hn : μ.2.1 b < n ∧ n ≤ 1048576) (hroom : μ.2.2.1 + 1 ≤ 600000 ∧ μ.2.2.2 + n ≤ 7302250)
    (h1 : Cond.methodLink own idx yJ7_copyOf_59c91 ∈ TG) (hst : Cond.static yJ7_copyOf_59c91 ∈ TG) (hini : Cond.initialized yJ7_copyOf_59c91.cls ∈ TG) (hR : R.frames = fr ∧ R.locals = lo) (hRR : 2 ≤ fr ∧ 102 ≤ lo) {ref nm ds : String} (hlk : Cond.fieldLink own idx2 ref nm ds ∈ TG) (hT : ref = (T k).1 ∧ nm = (T k).2.1 ∧ ds = (T k).2.2.1 ∧ (T k).2.2.2 = false) (hty : ty0 k = .array .int) (hls : ls.size = nL) (hw : (rest.map fun v => v.category).sum ≤ 6) (hdg : decode cc pc = .ok (.invokestatic idx, 3)) (hdg2 : decode cc (pc + 3) = .ok (.putfield idx2, 3))
    (kk : ∀ (ρ1 : Int → Nat) (f : Int → Int) (H1 : Heap) (locs1 : List Loc), (∀ i, 0 ≤ i → i < μ.2.1 b → f i = μ.1 b i) → Gd ω ρ1 (gro μ b n f) p m c cc nL s args own d0 R H1 locs1 → WT p l e R s d0 m args below meth c H1 locs1 Q (F0 m (pc + 3 + 3) ls rest)) : WT p l e R s d0 m args below meth c H locs Q (F0 m pc ls (.int (iv n) :: .ref (ρ b) :: .ref (oP ω a) :: rest)) := by
  obtain ⟨f1, f2, f3, f4, f5, f6⟩ := F
  obtain ⟨rfl, rfl, rfl, hfin⟩ := hT
  have ha := LY_lt (a := a) (by omega)
  have hbn := LY_lt (a := b) (by omega)
  have hlnb := G.ln b
  have hqb : ad ω ρ b = ρ b := by unfold ad; rw [hRZ]; rfl
  have heb : (wd ω ρ μ)[b.toNat]? = some (ρ b, .inl (oA ω 0, (μ.2.1 b).toNat, .inl (fun (i : Nat) => iv (μ.1 b i)))) := by rw [wd_get ω ρ μ hbn, en_arr ω ρ μ (t := 0) hLYb, hqb]; rfl
  have hea : (wd ω ρ μ)[a.toNat]? = some (oP ω a, .inr (ci, (List.range (NF ci)).map (fun (j : Nat) => cv ω ρ (FT ci j) (μ.1 a j)))) := by rw [wd_get ω ρ μ ha, en_obj ω ρ μ hLY f4, hqa]
  have hP := G.2.2.1.1
  have hD := G.2.2.1.2.1
  have hK := G.2.2.1.2.2.1
  have hPc : va_P (ω.1, ω.2.1) vwCl [(ρ b, .inl (oA ω 0, (μ.2.1 b).toNat, .inl (fun (i : Nat) => iv (μ.1 b i))))] H := hP.sub [b.toNat] (by simp [heb])
  have hDc : va_D (Aw ω) [(ρ b, .inl (oA ω 0, (μ.2.1 b).toNat, .inl (fun (i : Nat) => iv (μ.1 b i))))] := hD.sub [b.toNat] (by simp [va_nd]) (by simp [heb])
  have hKc : va_K (ω.1, ω.2.1) vwCl [(oA ω 0, .int)] s := hK.sub [0] rfl
  have hFc : ∀ q, va_A [(ρ b, .inl (oA ω 0, (μ.2.1 b).toNat, .inl (fun (i : Nat) => iv (μ.1 b i))))] H.size q → Aw ω q := by
    intro q hq
    rcases hq with ⟨j, e9, hj⟩ | hq
    · exact hDc.2 j _ hj
    · exact Nat.le_trans G.2.2.2.2.1 (Nat.le_trans G.2.2.2.1.1 hq)
  have hivn : iv n = nI n.toNat := by unfold nI; rw [iv_nat, Int.toNat_of_nonneg (by omega)]
  have hrm := G.rm
  have hszH := G.2.2.1.2.2.2.2.2.1
  have htoH := G.2.2.1.2.2.2.2.2.2.1
  have hs1 := G.2.2.2.1.1
  have hs2 := G.2.2.2.2.2.2.2.1
  rw [hivn]
  refine va_callr (va_runS (s := s.setDrawn d0) (As := [.ref (ρ b), .int (nI n.toNat)]) (rest := .ref (oP ω a) :: rest) ⟨G.1.1, G.1.2.1, G.1.2.2.1, G.1.2.2.2.1, dr_words G.1.2.2.2.2 d0⟩ (c_copyOf_int l ω.1 ω.2.1 H.size (tot H) (ρ b) (oA ω 0) (μ.2.1 b).toNat (fun (i : Nat) => iv (μ.1 b i)) n.toNat (by omega) (by omega)) (va_cwS 2 (dr_words G.1.2.2.2.2 d0) (gi_S gw_int h1 hst hini) rfl rfl rfl (by decide +kernel) (by rw [hR.1, hR.2]; exact ⟨hRR.1, hRR.2⟩)) ⟨fb_ME (fun _ _ _ _ h => h), fun U hU hW => ⟨rfl, xM.at hPc hKc hDc hU hW, by rw [hU]⟩⟩ rfl rfl hls rfl (lv_room (by simp only [List.map_cons, List.sum_cons]; show 1 + _ ≤ 8; omega)) hdg (by omega)) G.2.2.2.1 (fun q _ h => hFc q h) hFc (fun u ra t H1 locs1 ht hvm hw9 hB hz1 hk1 hS => ?_)
  obtain ⟨cN, g9, hg9, htot, hsz9, hB1, hB2, hB3⟩ := hB
  rw [ht] at htot hsz9 hB1
  have hcN : cN = oA ω 0 := by
    have e1 := (hB2.2 1 (cN, .int) rfl).2
    have e2 := (hK.2 0 (oA ω 0, .int) rfl).2
    have e1 : t.vm.findClass _ = some cN := e1
    have e2 : s.vm.findClass _ = some (oA ω 0) := e2
    have hvm2 : s.vm.Alike t.vm := hvm
    rw [← Vm.Alike.findClass hvm2] at e2
    exact Option.some.inj (e1.symm.trans e2)
  subst hcN
  have hra : H.size ≤ ra := by
    rcases hB3.2 1 _ rfl with ⟨j, e9, hj⟩ | h9
    · have hj0 : j = 0 := by have := (List.getElem?_eq_some_iff.mp hj).1; simp at this; omega
      subst hj0
      have e5 : ρ b = ra := (Prod.mk.inj (Option.some.inj hj)).1
      have := hB3.1 0 1 _ _ rfl rfl e5
      omega
    · exact h9
  have hP1 : va_P (ω.1, ω.2.1) vwCl (wd ω ρ μ) H1 := by
    intro j q hq
    by_cases hj : j = b.toNat
    · subst hj
      rw [heb] at hq
      cases hq
      exact hB1 0 _ rfl
    · refine (hP j q hq).kept (hk1 q.1 (hP j q hq).lt ?_)
      rintro (⟨i, e9, hi⟩ | h9)
      · have hi0 : i = 0 := by have := (List.getElem?_eq_some_iff.mp hi).1; simp at this; omega
        subst hi0
        have e5 : ρ b = q.1 := (Prod.mk.inj (Option.some.inj hi)).1
        exact hj (hD.1 j b.toNat q _ hq heb e5.symm)
      · have := (hP j q hq).lt
        omega
  have hnew : va_P (ω.1, ω.2.1) vwCl ([(ra, .inl (oA ω 0, n.toNat, ar ω ρ 0 (fun i => (g9 i.toNat).toInt)))] : va_W) H1 := by
    have e3 : ar ω ρ 0 (fun i => (g9 i.toNat).toInt) = (.inl g9 : (Nat → Int32) ⊕ (Nat → Int64) ⊕ (Nat → UInt32) ⊕ (Nat → UInt64) ⊕ (Nat → Option Nat)) := by
      show (.inl (fun (i : Nat) => iv ((fun i => (g9 i.toNat).toInt) (i : Int))) : (Nat → Int32) ⊕ (Nat → Int64) ⊕ (Nat → UInt32) ⊕ (Nat → UInt64) ⊕ (Nat → Option Nat)) = (.inl g9 : (Nat → Int32) ⊕ (Nat → Int64) ⊕ (Nat → UInt32) ⊕ (Nat → UInt64) ⊕ (Nat → Option Nat))
      congr 1
      funext i
      show iv _ = _
      exact (iv_of _)
    rw [e3]
    intro j q hq
    have hj0 : j = 0 := by have := (List.getElem?_eq_some_iff.mp hq).1; simp at this; omega
    subst hj0
    cases hq
    exact hB1 1 _ rfl
  have hDn : va_D (Aw ω) ([(ra, .inl (oA ω 0, n.toNat, ar ω ρ 0 (fun i => (g9 i.toNat).toInt)))] : va_W) := by
    refine ⟨fun i j x y hi hj _ => ?_, fun j q hq => ?_⟩
    · have h5 := (List.getElem?_eq_some_iff.mp hi).1
      have h6 := (List.getElem?_eq_some_iff.mp hj).1
      simp at h5 h6
      omega
    · have hj0 : j = 0 := by have := (List.getElem?_eq_some_iff.mp hq).1; simp at this; omega
      subst hj0
      cases hq
      exact Nat.le_trans G.2.2.2.2.1 (Nat.le_trans hs1 hra)
  have hP2 := va_P.app hP1 hnew
  have hD2 := va_D.app hD hDn (fun i j x y hi hj => by
    have hj0 : j = 0 := by have := (List.getElem?_eq_some_iff.mp hj).1; simp at this; omega
    subst hj0
    cases hj
    have := (hP i x hi).lt
    intro z
    have z : x.1 = ra := z
    omega)
  have hlen : (wd ω ρ μ).length = NA := by unfold wd; rw [List.length_map, List.length_range]
  have hea2 : (wd ω ρ μ ++ ([(ra, .inl (oA ω 0, n.toNat, ar ω ρ 0 (fun i => (g9 i.toNat).toInt)))] : va_W))[a.toNat]? = some (oP ω a, .inr (ci, (List.range (NF ci)).map (fun (j : Nat) => cv ω ρ (FT ci j) (μ.1 a j)))) := by
    rw [List.getElem?_append_left (by omega)]
    exact hea
  refine va_put (s := s.setDrawn d0) G.1.1 G.1.2.1 (dr_words G.1.2.2.2.2 d0) f2 ty0 f5 f6 G.1.2.2.2.1 hK hP2 hD2 hS a.toNat hea2 f1 k hk (dr_words G.1.2.2.2.2 d0 _ hlk) (fun _ h => h) hfin (by rw [f5 k hk, hty]) rfl rfl (by rw [List.length_map, List.length_range, f3]; exact hk) hdg2 (fun H2 locs2 hP3 hD3 hS3 => ?_)
  rw [← hqa] at hP3 hD3
  obtain ⟨hP4, hD4⟩ := gro_world (s := s) G.2.2.1.2.2.2.2.1 hLY f4 (by rw [f3]; exact hk) hFT hLYb hRZ hb9 hu hP3 hD3 (by omega)
  refine WT.use (fun b1 b2 b3 b4 => ?_)
  have htb : ty b 0 = 0 := by unfold ty; rw [hLYb]; rfl
  have hG : Gd ω (rup ρ b ra) (gro μ b n (fun i => (g9 i.toNat).toInt)) p m c cc nL s args own d0 R H2 locs2 := by
    refine ⟨G.1, G.2.1, ⟨hP4, hD4, hK, G.2.2.1.2.2.2.1.gro ⟨by omega, by omega⟩ (fun _ k => ir_of _) (fun h => by rw [htb] at h; cases h) (by omega), G.2.2.1.2.2.2.2.1.gro hRZ ⟨by omega, by omega⟩ hN, ?_, ?_, hroom.1, hroom.2⟩, hS3, G.2.2.2.2.1, G.2.2.2.2.2.1, G.2.2.2.2.2.2.1, b3, G.2.2.2.2.2.2.2.2⟩
    · show (H2.size : Int) ≤ oB ω + (μ.2.2.1 + 1)
      omega
    · show (tot H2 : Int) ≤ oT ω + (μ.2.2.2 + n)
      omega
  exact kk _ _ H2 locs2 (fun i hi1 hi2 => by
    show (g9 i.toNat).toInt = μ.1 b i
    rw [hg9 i.toNat (by omega)]
    show (iv (μ.1 b (i.toNat : Int))).toInt = _
    rw [Int.toNat_of_nonneg hi1, iv_toInt (G.hr (a := b) (k := i) (by unfold ty; rw [hLYb]; rfl))]) hG
set_option maxHeartbeats 4000000 in
theorem xg_long (G : Gd ω ρ μ p m c cc nL s args own d0 R H locs) {ci N idx idx2 fr lo : Nat} {C : String} {T : u_T} {ty0 : Nat → FieldType} (F : Fdd ci C T N ty0) {a b n : Int} (k : Nat) (hLY : LY a = ci) (hk : k < N) (hFT : FT ci k = 3) (hqa : ad ω ρ a = oP ω a) (hb9 : μ.1 a k = b) (hLYb : LY b = 101) (hRZ : RZ b = true) (hu : ∀ q ∈ SRL, q.2.2 = b → q.1 = a ∧ q.2.1 = (k : Int)) (hN : ∀ q ∈ LNL, q.1 ≠ b) (hn : μ.2.1 b < n ∧ n ≤ 1048576) (hroom : μ.2.2.1 + 1 ≤ 600000 ∧ μ.2.2.2 + n ≤ 7302250)
    (h1 : Cond.methodLink own idx yJ7_copyOf_c38d5 ∈ TG) (hst : Cond.static yJ7_copyOf_c38d5 ∈ TG) (hini : Cond.initialized yJ7_copyOf_c38d5.cls ∈ TG) (hR : R.frames = fr ∧ R.locals = lo) (hRR : 2 ≤ fr ∧ 102 ≤ lo) {ref nm ds : String} (hlk : Cond.fieldLink own idx2 ref nm ds ∈ TG) (hT : ref = (T k).1 ∧ nm = (T k).2.1 ∧ ds = (T k).2.2.1 ∧ (T k).2.2.2 = false) (hty : ty0 k = .array .long) (hls : ls.size = nL) (hw : (rest.map fun v => v.category).sum ≤ 6) (hdg : decode cc pc = .ok (.invokestatic idx, 3)) (hdg2 : decode cc (pc + 3) = .ok (.putfield idx2, 3))
    (kk : ∀ (ρ1 : Int → Nat) (f : Int → Int) (H1 : Heap) (locs1 : List Loc), (∀ i, 0 ≤ i → i < μ.2.1 b → f i = μ.1 b i) → Gd ω ρ1 (gro μ b n f) p m c cc nL s args own d0 R H1 locs1 → WT p l e R s d0 m args below meth c H1 locs1 Q (F0 m (pc + 3 + 3) ls rest)) : WT p l e R s d0 m args below meth c H locs Q (F0 m pc ls (.int (iv n) :: .ref (ρ b) :: .ref (oP ω a) :: rest)) := by
  obtain ⟨f1, f2, f3, f4, f5, f6⟩ := F
  obtain ⟨rfl, rfl, rfl, hfin⟩ := hT
  have ha := LY_lt (a := a) (by omega)
  have hbn := LY_lt (a := b) (by omega)
  have hlnb := G.ln b
  have hqb : ad ω ρ b = ρ b := by unfold ad; rw [hRZ]; rfl
  have heb : (wd ω ρ μ)[b.toNat]? = some (ρ b, .inl (oA ω 1, (μ.2.1 b).toNat, .inr (.inl (fun (i : Nat) => jv (μ.1 b i))))) := by rw [wd_get ω ρ μ hbn, en_arr ω ρ μ (t := 1) hLYb, hqb]; rfl
  have hea : (wd ω ρ μ)[a.toNat]? = some (oP ω a, .inr (ci, (List.range (NF ci)).map (fun (j : Nat) => cv ω ρ (FT ci j) (μ.1 a j)))) := by rw [wd_get ω ρ μ ha, en_obj ω ρ μ hLY f4, hqa]
  have hP := G.2.2.1.1
  have hD := G.2.2.1.2.1
  have hK := G.2.2.1.2.2.1
  have hPc : va_P (ω.1, ω.2.1) vwCl [(ρ b, .inl (oA ω 1, (μ.2.1 b).toNat, .inr (.inl (fun (i : Nat) => jv (μ.1 b i)))))] H := hP.sub [b.toNat] (by simp [heb])
  have hDc : va_D (Aw ω) [(ρ b, .inl (oA ω 1, (μ.2.1 b).toNat, .inr (.inl (fun (i : Nat) => jv (μ.1 b i)))))] := hD.sub [b.toNat] (by simp [va_nd]) (by simp [heb])
  have hKc : va_K (ω.1, ω.2.1) vwCl [(oA ω 1, .long)] s := hK.sub [1] rfl
  have hFc : ∀ q, va_A [(ρ b, .inl (oA ω 1, (μ.2.1 b).toNat, .inr (.inl (fun (i : Nat) => jv (μ.1 b i)))))] H.size q → Aw ω q := by
    intro q hq
    rcases hq with ⟨j, e9, hj⟩ | hq
    · exact hDc.2 j _ hj
    · exact Nat.le_trans G.2.2.2.2.1 (Nat.le_trans G.2.2.2.1.1 hq)
  have hivn : iv n = nI n.toNat := by unfold nI; rw [iv_nat, Int.toNat_of_nonneg (by omega)]
  have hrm := G.rm
  have hszH := G.2.2.1.2.2.2.2.2.1
  have htoH := G.2.2.1.2.2.2.2.2.2.1
  have hs1 := G.2.2.2.1.1
  have hs2 := G.2.2.2.2.2.2.2.1
  rw [hivn]
  refine va_callr (va_runS (s := s.setDrawn d0) (As := [.ref (ρ b), .int (nI n.toNat)]) (rest := .ref (oP ω a) :: rest) ⟨G.1.1, G.1.2.1, G.1.2.2.1, G.1.2.2.2.1, dr_words G.1.2.2.2.2 d0⟩ (c_copyOf_long l ω.1 ω.2.1 H.size (tot H) (ρ b) (oA ω 1) (μ.2.1 b).toNat (fun (i : Nat) => jv (μ.1 b i)) n.toNat (by omega) (by omega)) (va_cwS 2 (dr_words G.1.2.2.2.2 d0) (gi_S gw_long h1 hst hini) rfl rfl rfl (by decide +kernel) (by rw [hR.1, hR.2]; exact ⟨hRR.1, hRR.2⟩)) ⟨fb_ME (fun _ _ _ _ h => h), fun U hU hW => ⟨rfl, xM.at hPc hKc hDc hU hW, by rw [hU]⟩⟩ rfl rfl hls rfl (lv_room (by simp only [List.map_cons, List.sum_cons]; show 1 + _ ≤ 8; omega)) hdg (by omega)) G.2.2.2.1 (fun q _ h => hFc q h) hFc (fun u ra t H1 locs1 ht hvm hw9 hB hz1 hk1 hS => ?_)
  obtain ⟨cN, g9, hg9, htot, hsz9, hB1, hB2, hB3⟩ := hB
  rw [ht] at htot hsz9 hB1
  have hcN : cN = oA ω 1 := by
    have e1 := (hB2.2 1 (cN, .long) rfl).2
    have e2 := (hK.2 1 (oA ω 1, .long) rfl).2
    have e1 : t.vm.findClass _ = some cN := e1
    have e2 : s.vm.findClass _ = some (oA ω 1) := e2
    have hvm2 : s.vm.Alike t.vm := hvm
    rw [← Vm.Alike.findClass hvm2] at e2
    exact Option.some.inj (e1.symm.trans e2)
  subst hcN
  have hra : H.size ≤ ra := by
    rcases hB3.2 1 _ rfl with ⟨j, e9, hj⟩ | h9
    · have hj0 : j = 0 := by have := (List.getElem?_eq_some_iff.mp hj).1; simp at this; omega
      subst hj0
      have e5 : ρ b = ra := (Prod.mk.inj (Option.some.inj hj)).1
      have := hB3.1 0 1 _ _ rfl rfl e5
      omega
    · exact h9
  have hP1 : va_P (ω.1, ω.2.1) vwCl (wd ω ρ μ) H1 := by
    intro j q hq
    by_cases hj : j = b.toNat
    · subst hj
      rw [heb] at hq
      cases hq
      exact hB1 0 _ rfl
    · refine (hP j q hq).kept (hk1 q.1 (hP j q hq).lt ?_)
      rintro (⟨i, e9, hi⟩ | h9)
      · have hi0 : i = 0 := by have := (List.getElem?_eq_some_iff.mp hi).1; simp at this; omega
        subst hi0
        have e5 : ρ b = q.1 := (Prod.mk.inj (Option.some.inj hi)).1
        exact hj (hD.1 j b.toNat q _ hq heb e5.symm)
      · have := (hP j q hq).lt
        omega
  have hnew : va_P (ω.1, ω.2.1) vwCl ([(ra, .inl (oA ω 1, n.toNat, ar ω ρ 1 (fun i => (g9 i.toNat).toInt)))] : va_W) H1 := by
    have e3 : ar ω ρ 1 (fun i => (g9 i.toNat).toInt) = (.inr (.inl g9) : (Nat → Int32) ⊕ (Nat → Int64) ⊕ (Nat → UInt32) ⊕ (Nat → UInt64) ⊕ (Nat → Option Nat)) := by
      show (.inr (.inl (fun (i : Nat) => jv ((fun i => (g9 i.toNat).toInt) (i : Int)))) : (Nat → Int32) ⊕ (Nat → Int64) ⊕ (Nat → UInt32) ⊕ (Nat → UInt64) ⊕ (Nat → Option Nat)) = (.inr (.inl g9) : (Nat → Int32) ⊕ (Nat → Int64) ⊕ (Nat → UInt32) ⊕ (Nat → UInt64) ⊕ (Nat → Option Nat))
      congr 2
      funext i
      show jv _ = _
      exact (jv_of _)
    rw [e3]
    intro j q hq
    have hj0 : j = 0 := by have := (List.getElem?_eq_some_iff.mp hq).1; simp at this; omega
    subst hj0
    cases hq
    exact hB1 1 _ rfl
  have hDn : va_D (Aw ω) ([(ra, .inl (oA ω 1, n.toNat, ar ω ρ 1 (fun i => (g9 i.toNat).toInt)))] : va_W) := by
    refine ⟨fun i j x y hi hj _ => ?_, fun j q hq => ?_⟩
    · have h5 := (List.getElem?_eq_some_iff.mp hi).1
      have h6 := (List.getElem?_eq_some_iff.mp hj).1
      simp at h5 h6
      omega
    · have hj0 : j = 0 := by have := (List.getElem?_eq_some_iff.mp hq).1; simp at this; omega
      subst hj0
      cases hq
      exact Nat.le_trans G.2.2.2.2.1 (Nat.le_trans hs1 hra)
  have hP2 := va_P.app hP1 hnew
  have hD2 := va_D.app hD hDn (fun i j x y hi hj => by
    have hj0 : j = 0 := by have := (List.getElem?_eq_some_iff.mp hj).1; simp at this; omega
    subst hj0
    cases hj
    have := (hP i x hi).lt
    intro z
    have z : x.1 = ra := z
    omega)
  have hlen : (wd ω ρ μ).length = NA := by unfold wd; rw [List.length_map, List.length_range]
  have hea2 : (wd ω ρ μ ++ ([(ra, .inl (oA ω 1, n.toNat, ar ω ρ 1 (fun i => (g9 i.toNat).toInt)))] : va_W))[a.toNat]? = some (oP ω a, .inr (ci, (List.range (NF ci)).map (fun (j : Nat) => cv ω ρ (FT ci j) (μ.1 a j)))) := by
    rw [List.getElem?_append_left (by omega)]
    exact hea
  refine va_put (s := s.setDrawn d0) G.1.1 G.1.2.1 (dr_words G.1.2.2.2.2 d0) f2 ty0 f5 f6 G.1.2.2.2.1 hK hP2 hD2 hS a.toNat hea2 f1 k hk (dr_words G.1.2.2.2.2 d0 _ hlk) (fun _ h => h) hfin (by rw [f5 k hk, hty]) rfl rfl (by rw [List.length_map, List.length_range, f3]; exact hk) hdg2 (fun H2 locs2 hP3 hD3 hS3 => ?_)
  rw [← hqa] at hP3 hD3
  obtain ⟨hP4, hD4⟩ := gro_world (s := s) G.2.2.1.2.2.2.2.1 hLY f4 (by rw [f3]; exact hk) hFT hLYb hRZ hb9 hu hP3 hD3 (by omega)
  refine WT.use (fun b1 b2 b3 b4 => ?_)
  have htb : ty b 0 = 1 := by unfold ty; rw [hLYb]; rfl
  have hG : Gd ω (rup ρ b ra) (gro μ b n (fun i => (g9 i.toNat).toInt)) p m c cc nL s args own d0 R H2 locs2 := by
    refine ⟨G.1, G.2.1, ⟨hP4, hD4, hK, G.2.2.1.2.2.2.1.gro ⟨by omega, by omega⟩ (fun h => by rw [htb] at h; rcases h with h | h <;> cases h) (fun _ k => jr_of _) (by omega), G.2.2.1.2.2.2.2.1.gro hRZ ⟨by omega, by omega⟩ hN, ?_, ?_, hroom.1, hroom.2⟩, hS3, G.2.2.2.2.1, G.2.2.2.2.2.1, G.2.2.2.2.2.2.1, b3, G.2.2.2.2.2.2.2.2⟩
    · show (H2.size : Int) ≤ oB ω + (μ.2.2.1 + 1)
      omega
    · show (tot H2 : Int) ≤ oT ω + (μ.2.2.2 + n)
      omega
  exact kk _ _ H2 locs2 (fun i hi1 hi2 => by
    show (g9 i.toNat).toInt = μ.1 b i
    rw [hg9 i.toNat (by omega)]
    show (jv (μ.1 b (i.toNat : Int))).toInt = _
    rw [Int.toNat_of_nonneg hi1, jv_toInt (G.hj (a := b) (k := i) (by unfold ty; rw [hLYb]; rfl))]) hG
set_option maxHeartbeats 4000000 in
theorem xg_double (G : Gd ω ρ μ p m c cc nL s args own d0 R H locs) {ci N idx idx2 fr lo : Nat} {C : String} {T : u_T} {ty0 : Nat → FieldType} (F : Fdd ci C T N ty0) {a b n : Int} (k : Nat) (hLY : LY a = ci) (hk : k < N) (hFT : FT ci k = 3) (hqa : ad ω ρ a = oP ω a) (hb9 : μ.1 a k = b) (hLYb : LY b = 102) (hRZ : RZ b = true) (hu : ∀ q ∈ SRL, q.2.2 = b → q.1 = a ∧ q.2.1 = (k : Int)) (hN : ∀ q ∈ LNL, q.1 ≠ b) (hn : μ.2.1 b < n ∧ n ≤ 1048576) (hroom : μ.2.2.1 + 1 ≤ 600000 ∧ μ.2.2.2 + n ≤ 7302250)
    (h1 : Cond.methodLink own idx yJ7_copyOf_65012 ∈ TG) (hst : Cond.static yJ7_copyOf_65012 ∈ TG) (hini : Cond.initialized yJ7_copyOf_65012.cls ∈ TG) (hR : R.frames = fr ∧ R.locals = lo) (hRR : 2 ≤ fr ∧ 102 ≤ lo) {ref nm ds : String} (hlk : Cond.fieldLink own idx2 ref nm ds ∈ TG) (hT : ref = (T k).1 ∧ nm = (T k).2.1 ∧ ds = (T k).2.2.1 ∧ (T k).2.2.2 = false) (hty : ty0 k = .array .double) (hls : ls.size = nL) (hw : (rest.map fun v => v.category).sum ≤ 6) (hdg : decode cc pc = .ok (.invokestatic idx, 3)) (hdg2 : decode cc (pc + 3) = .ok (.putfield idx2, 3))
    (kk : ∀ (ρ1 : Int → Nat) (f : Int → Int) (H1 : Heap) (locs1 : List Loc), Gd ω ρ1 (gro μ b n f) p m c cc nL s args own d0 R H1 locs1 → WT p l e R s d0 m args below meth c H1 locs1 Q (F0 m (pc + 3 + 3) ls rest)) : WT p l e R s d0 m args below meth c H locs Q (F0 m pc ls (.int (iv n) :: .ref (ρ b) :: .ref (oP ω a) :: rest)) := by
  obtain ⟨f1, f2, f3, f4, f5, f6⟩ := F
  obtain ⟨rfl, rfl, rfl, hfin⟩ := hT
  have ha := LY_lt (a := a) (by omega)
  have hbn := LY_lt (a := b) (by omega)
  have hlnb := G.ln b
  have hqb : ad ω ρ b = ρ b := by unfold ad; rw [hRZ]; rfl
  have heb : (wd ω ρ μ)[b.toNat]? = some (ρ b, .inl (oA ω 2, (μ.2.1 b).toNat, .inr (.inr (.inr (.inl (fun (i : Nat) => dv (μ.1 b i))))))) := by rw [wd_get ω ρ μ hbn, en_arr ω ρ μ (t := 2) hLYb, hqb]; rfl
  have hea : (wd ω ρ μ)[a.toNat]? = some (oP ω a, .inr (ci, (List.range (NF ci)).map (fun (j : Nat) => cv ω ρ (FT ci j) (μ.1 a j)))) := by rw [wd_get ω ρ μ ha, en_obj ω ρ μ hLY f4, hqa]
  have hP := G.2.2.1.1
  have hD := G.2.2.1.2.1
  have hK := G.2.2.1.2.2.1
  have hPc : va_P (ω.1, ω.2.1) vwCl [(ρ b, .inl (oA ω 2, (μ.2.1 b).toNat, .inr (.inr (.inr (.inl (fun (i : Nat) => dv (μ.1 b i)))))))] H := hP.sub [b.toNat] (by simp [heb])
  have hDc : va_D (Aw ω) [(ρ b, .inl (oA ω 2, (μ.2.1 b).toNat, .inr (.inr (.inr (.inl (fun (i : Nat) => dv (μ.1 b i)))))))] := hD.sub [b.toNat] (by simp [va_nd]) (by simp [heb])
  have hKc : va_K (ω.1, ω.2.1) vwCl [(oA ω 2, .double)] s := hK.sub [2] rfl
  have hFc : ∀ q, va_A [(ρ b, .inl (oA ω 2, (μ.2.1 b).toNat, .inr (.inr (.inr (.inl (fun (i : Nat) => dv (μ.1 b i)))))))] H.size q → Aw ω q := by
    intro q hq
    rcases hq with ⟨j, e9, hj⟩ | hq
    · exact hDc.2 j _ hj
    · exact Nat.le_trans G.2.2.2.2.1 (Nat.le_trans G.2.2.2.1.1 hq)
  have hivn : iv n = nI n.toNat := by unfold nI; rw [iv_nat, Int.toNat_of_nonneg (by omega)]
  have hrm := G.rm
  have hszH := G.2.2.1.2.2.2.2.2.1
  have htoH := G.2.2.1.2.2.2.2.2.2.1
  have hs1 := G.2.2.2.1.1
  have hs2 := G.2.2.2.2.2.2.2.1
  rw [hivn]
  refine va_callr (va_runS (s := s.setDrawn d0) (As := [.ref (ρ b), .int (nI n.toNat)]) (rest := .ref (oP ω a) :: rest) ⟨G.1.1, G.1.2.1, G.1.2.2.1, G.1.2.2.2.1, dr_words G.1.2.2.2.2 d0⟩ (c_copyOf_double l ω.1 ω.2.1 H.size (tot H) (ρ b) (oA ω 2) (μ.2.1 b).toNat (fun (i : Nat) => dv (μ.1 b i)) n.toNat (by omega) (by omega)) (va_cwS 2 (dr_words G.1.2.2.2.2 d0) (gi_S gw_double h1 hst hini) rfl rfl rfl (by decide +kernel) (by rw [hR.1, hR.2]; exact ⟨hRR.1, hRR.2⟩)) ⟨fb_ME (fun _ _ _ _ h => h), fun U hU hW => ⟨rfl, xM.at hPc hKc hDc hU hW, by rw [hU]⟩⟩ rfl rfl hls rfl (lv_room (by simp only [List.map_cons, List.sum_cons]; show 1 + _ ≤ 8; omega)) hdg (by omega)) G.2.2.2.1 (fun q _ h => hFc q h) hFc (fun u ra t H1 locs1 ht hvm hw9 hB hz1 hk1 hS => ?_)
  obtain ⟨cN, g9, hg9, htot, hsz9, hB1, hB2, hB3⟩ := hB
  rw [ht] at htot hsz9 hB1
  have hcN : cN = oA ω 2 := by
    have e1 := (hB2.2 1 (cN, .double) rfl).2
    have e2 := (hK.2 2 (oA ω 2, .double) rfl).2
    have e1 : t.vm.findClass _ = some cN := e1
    have e2 : s.vm.findClass _ = some (oA ω 2) := e2
    have hvm2 : s.vm.Alike t.vm := hvm
    rw [← Vm.Alike.findClass hvm2] at e2
    exact Option.some.inj (e1.symm.trans e2)
  subst hcN
  have hra : H.size ≤ ra := by
    rcases hB3.2 1 _ rfl with ⟨j, e9, hj⟩ | h9
    · have hj0 : j = 0 := by have := (List.getElem?_eq_some_iff.mp hj).1; simp at this; omega
      subst hj0
      have e5 : ρ b = ra := (Prod.mk.inj (Option.some.inj hj)).1
      have := hB3.1 0 1 _ _ rfl rfl e5
      omega
    · exact h9
  have hP1 : va_P (ω.1, ω.2.1) vwCl (wd ω ρ μ) H1 := by
    intro j q hq
    by_cases hj : j = b.toNat
    · subst hj
      rw [heb] at hq
      cases hq
      exact hB1 0 _ rfl
    · refine (hP j q hq).kept (hk1 q.1 (hP j q hq).lt ?_)
      rintro (⟨i, e9, hi⟩ | h9)
      · have hi0 : i = 0 := by have := (List.getElem?_eq_some_iff.mp hi).1; simp at this; omega
        subst hi0
        have e5 : ρ b = q.1 := (Prod.mk.inj (Option.some.inj hi)).1
        exact hj (hD.1 j b.toNat q _ hq heb e5.symm)
      · have := (hP j q hq).lt
        omega
  have hnew : va_P (ω.1, ω.2.1) vwCl ([(ra, .inl (oA ω 2, n.toNat, ar ω ρ 2 (fun i => ((g9 i.toNat).toNat : Int))))] : va_W) H1 := by
    have e3 : ar ω ρ 2 (fun i => ((g9 i.toNat).toNat : Int)) = (.inr (.inr (.inr (.inl g9))) : (Nat → Int32) ⊕ (Nat → Int64) ⊕ (Nat → UInt32) ⊕ (Nat → UInt64) ⊕ (Nat → Option Nat)) := by
      show (.inr (.inr (.inr (.inl (fun (i : Nat) => dv ((fun i => ((g9 i.toNat).toNat : Int)) (i : Int)))))) : (Nat → Int32) ⊕ (Nat → Int64) ⊕ (Nat → UInt32) ⊕ (Nat → UInt64) ⊕ (Nat → Option Nat)) = (.inr (.inr (.inr (.inl g9))) : (Nat → Int32) ⊕ (Nat → Int64) ⊕ (Nat → UInt32) ⊕ (Nat → UInt64) ⊕ (Nat → Option Nat))
      congr 4
      funext i
      show dv _ = _
      exact (dv_of _)
    rw [e3]
    intro j q hq
    have hj0 : j = 0 := by have := (List.getElem?_eq_some_iff.mp hq).1; simp at this; omega
    subst hj0
    cases hq
    exact hB1 1 _ rfl
  have hDn : va_D (Aw ω) ([(ra, .inl (oA ω 2, n.toNat, ar ω ρ 2 (fun i => ((g9 i.toNat).toNat : Int))))] : va_W) := by
    refine ⟨fun i j x y hi hj _ => ?_, fun j q hq => ?_⟩
    · have h5 := (List.getElem?_eq_some_iff.mp hi).1
      have h6 := (List.getElem?_eq_some_iff.mp hj).1
      simp at h5 h6
      omega
    · have hj0 : j = 0 := by have := (List.getElem?_eq_some_iff.mp hq).1; simp at this; omega
      subst hj0
      cases hq
      exact Nat.le_trans G.2.2.2.2.1 (Nat.le_trans hs1 hra)
  have hP2 := va_P.app hP1 hnew
  have hD2 := va_D.app hD hDn (fun i j x y hi hj => by
    have hj0 : j = 0 := by have := (List.getElem?_eq_some_iff.mp hj).1; simp at this; omega
    subst hj0
    cases hj
    have := (hP i x hi).lt
    intro z
    have z : x.1 = ra := z
    omega)
  have hlen : (wd ω ρ μ).length = NA := by unfold wd; rw [List.length_map, List.length_range]
  have hea2 : (wd ω ρ μ ++ ([(ra, .inl (oA ω 2, n.toNat, ar ω ρ 2 (fun i => ((g9 i.toNat).toNat : Int))))] : va_W))[a.toNat]? = some (oP ω a, .inr (ci, (List.range (NF ci)).map (fun (j : Nat) => cv ω ρ (FT ci j) (μ.1 a j)))) := by
    rw [List.getElem?_append_left (by omega)]
    exact hea
  refine va_put (s := s.setDrawn d0) G.1.1 G.1.2.1 (dr_words G.1.2.2.2.2 d0) f2 ty0 f5 f6 G.1.2.2.2.1 hK hP2 hD2 hS a.toNat hea2 f1 k hk (dr_words G.1.2.2.2.2 d0 _ hlk) (fun _ h => h) hfin (by rw [f5 k hk, hty]) rfl rfl (by rw [List.length_map, List.length_range, f3]; exact hk) hdg2 (fun H2 locs2 hP3 hD3 hS3 => ?_)
  rw [← hqa] at hP3 hD3
  obtain ⟨hP4, hD4⟩ := gro_world (s := s) G.2.2.1.2.2.2.2.1 hLY f4 (by rw [f3]; exact hk) hFT hLYb hRZ hb9 hu hP3 hD3 (by omega)
  refine WT.use (fun b1 b2 b3 b4 => ?_)
  have htb : ty b 0 = 2 := by unfold ty; rw [hLYb]; rfl
  have hG : Gd ω (rup ρ b ra) (gro μ b n (fun i => ((g9 i.toNat).toNat : Int))) p m c cc nL s args own d0 R H2 locs2 := by
    refine ⟨G.1, G.2.1, ⟨hP4, hD4, hK, G.2.2.1.2.2.2.1.gro ⟨by omega, by omega⟩ (fun h => by rw [htb] at h; rcases h with h | h <;> cases h) (fun h => by rw [htb] at h; cases h) (by omega), G.2.2.1.2.2.2.2.1.gro hRZ ⟨by omega, by omega⟩ hN, ?_, ?_, hroom.1, hroom.2⟩, hS3, G.2.2.2.2.1, G.2.2.2.2.2.1, G.2.2.2.2.2.2.1, b3, G.2.2.2.2.2.2.2.2⟩
    · show (H2.size : Int) ≤ oB ω + (μ.2.2.1 + 1)
      omega
    · show (tot H2 : Int) ≤ oT ω + (μ.2.2.2 + n)
      omega
  exact kk _ _ H2 locs2 hG
end GRW
