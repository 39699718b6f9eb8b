theorem gi_cons {w : Cond} {ws : List Cond} (h : w ∈ TG) (hg : GoodIn TG ws) : GoodIn TG (w :: ws) := by
  intro x hx
  rcases List.mem_cons.mp hx with rfl | h2
  · exact ⟨h, good_of_word (tg_good h)⟩
  · exact hg x h2
theorem gi_nil : GoodIn TG [] := fun x hx => by cases hx
theorem gw_int : GoodIn TG wqcopyOf_int := (gi_cons (wm 3 20 rfl rfl) (gi_cons (wm 1 105 rfl rfl) (gi_cons (wm 3 28 rfl rfl) (gi_cons (wm 3 29 rfl rfl) (gi_cons (wm 1 11 rfl rfl) (gi_cons (wm 3 30 rfl rfl) (gi_cons (wm 3 31 rfl rfl) (gi_cons (wm 3 5 rfl rfl) (gi_cons (wm 3 4 rfl rfl) (gi_cons (wm 1 19 rfl rfl) gi_nil))))))))))
theorem gw_long : GoodIn TG wqcopyOf_long := (gi_cons (wm 3 34 rfl rfl) (gi_cons (wm 1 104 rfl rfl) (gi_cons (wm 3 28 rfl rfl) (gi_cons (wm 3 29 rfl rfl) (gi_cons (wm 1 11 rfl rfl) (gi_cons (wm 3 30 rfl rfl) (gi_cons (wm 3 31 rfl rfl) (gi_cons (wm 3 5 rfl rfl) (gi_cons (wm 3 4 rfl rfl) (gi_cons (wm 1 19 rfl rfl) gi_nil))))))))))
theorem gw_double : GoodIn TG wqcopyOf_double := (gi_cons (wm 3 42 rfl rfl) (gi_cons (wm 1 163 rfl rfl) (gi_cons (wm 3 28 rfl rfl) (gi_cons (wm 3 29 rfl rfl) (gi_cons (wm 1 11 rfl rfl) (gi_cons (wm 3 30 rfl rfl) (gi_cons (wm 3 31 rfl rfl) (gi_cons (wm 3 5 rfl rfl) (gi_cons (wm 3 4 rfl rfl) (gi_cons (wm 1 19 rfl rfl) gi_nil))))))))))
section GRW
variable {p : Program} {l : Launch} {e : Env} {R : Room} {s : State} {d0 : Drawn} {m : MethodId} {args : Array Value} {below : List Frame} {meth : Method} {c : Code} {H : Heap} {locs : List Loc} {Q : State → Prop} {cc : ByteArray} {nL pc : Nat} {own : String} {ls : Array Slot} {rest : List Value} {ω : Om} {ρ : Int → Nat} {μ : M3}
set_option maxHeartbeats 4000000 in
theorem xg_int (G : Gd ω ρ μ p m c cc nL s args own d0 R H locs) {ci N idx idx2 fr lo : Nat} {C : String} {T : u_T} {ty0 : Nat → FieldType} (F : Fdd ci C T N ty0) {a b n : Int} (k : Nat) (hLY : LY a = ci) (hk : k < N) (hFT : FT ci k = 3) (hqa : ad ω ρ a = oP ω a) (hb9 : μ.1 a k = b) (hLYb : LY b = 100) (hRZ : RZ b = true) (hu : ∀ q ∈ SRL, q.2.2 = b → q.1 = a ∧ q.2.1 = (k : Int)) (hN : ∀ q ∈ LNL, q.1 ≠ b) (hn : μ.2.1 b < n ∧ n ≤ 1048576) (hroom : μ.2.2.1 + 1 ≤ 600000 ∧ μ.2.2.2 + n ≤ 7302250)
    (h1 : Cond.methodLink own idx yJ7_copyOf_59c91 ∈ TG) (hst : Cond.static yJ7_copyOf_59c91 ∈ TG) (hini : Cond.initialized yJ7_copyOf_59c91.cls ∈ TG) (hR : R.frames = fr ∧ R.locals = lo) (hRR : 2 ≤ fr ∧ 102 ≤ lo) {ref nm ds : String} (hlk : Cond.fieldLink own idx2 ref nm ds ∈ TG) (hT : ref = (T k).1 ∧ nm = (T k).2.1 ∧ ds = (T k).2.2.1 ∧ (T k).2.2.2 = false) (hty : ty0 k = .array .int) (hls : ls.size = nL) (hw : (rest.map fun v => v.category).sum ≤ 6) (hdg : decode cc pc = .ok (.invokestatic idx, 3)) (hdg2 : decode cc (pc + 3) = .ok (.putfield idx2, 3))
    (kk : ∀ (ρ1 : Int → Nat) (f : Int → Int) (H1 : Heap) (locs1 : List Loc), (∀ i, 0 ≤ i → i < μ.2.1 b → f i = μ.1 b i) → Gd ω ρ1 (gro μ b n f) p m c cc nL s args own d0 R H1 locs1 → WT p l e R s d0 m args below meth c H1 locs1 Q (F0 m (pc + 3 + 3) ls rest)) : WT p l e R s d0 m args below meth c H locs Q (F0 m pc ls (.int (iv n) :: .ref (ρ b) :: .ref (oP ω a) :: rest)) := by
  obtain ⟨f1, f2, f3, f4, f5, f6⟩ := F
  obtain ⟨rfl, rfl, rfl, hfin⟩ := hT
  have ha := LY_lt (a := a) (by omega)
  have hbn := LY_lt (a := b) (by omega)
  have hlnb := G.ln b
  have hqb : ad ω ρ b = ρ b := by unfold ad; rw [hRZ]; rfl
  have heb : (wd ω ρ μ)[b.toNat]? = some (ρ b, .inl (oA ω 0, (μ.2.1 b).toNat, .inl (fun (i : Nat) => iv (μ.1 b i)))) := by rw [wd_get ω ρ μ hbn, en_arr ω ρ μ (t := 0) hLYb, hqb]; rfl
  have hea : (wd ω ρ μ)[a.toNat]? = some (oP ω a, .inr (ci, (List.range (NF ci)).map (fun (j : Nat) => cv ω ρ (FT ci j) (μ.1 a j)))) := by rw [wd_get ω ρ μ ha, en_obj ω ρ μ hLY f4, hqa]
  have hP := G.2.2.1.1
  have hD := G.2.2.1.2.1
  have hK := G.2.2.1.2.2.1
  have hPc : va_P (ω.1, ω.2.1) vwCl [(ρ b, .inl (oA ω 0, (μ.2.1 b).toNat, .inl (fun (i : Nat) => iv (μ.1 b i))))] H := hP.sub [b.toNat] (by simp [heb])
  have hDc : va_D (Aw ω) [(ρ b, .inl (oA ω 0, (μ.2.1 b).toNat, .inl (fun (i : Nat) => iv (μ.1 b i))))] := hD.sub [b.toNat] (by simp [va_nd]) (by simp [heb])
  have hKc : va_K (ω.1, ω.2.1) vwCl [(oA ω 0, .int)] s := hK.sub [0] rfl
  have hFc : ∀ q, va_A [(ρ b, .inl (oA ω 0, (μ.2.1 b).toNat, .inl (fun (i : Nat) => iv (μ.1 b i))))] H.size q → Aw ω q := by
    intro q hq
    rcases hq with ⟨j, e9, hj⟩ | hq
    · exact hDc.2 j _ hj
    · exact Nat.le_trans G.2.2.2.2.1 (Nat.le_trans G.2.2.2.1.1 hq)
  have hivn : iv n = nI n.toNat := by unfold nI; rw [iv_nat, Int.toNat_of_nonneg (by omega)]
  have hrm := G.rm
  have hszH := G.2.2.1.2.2.2.2.2.1
  have htoH := G.2.2.1.2.2.2.2.2.2.1
  have hs1 := G.2.2.2.1.1
  have hs2 := G.2.2.2.2.2.2.2.1
  rw [hivn]
  refine va_callr (va_runS (s := s.setDrawn d0) (As := [.ref (ρ b), .int (nI n.toNat)]) (rest := .ref (oP ω a) :: rest) ⟨G.1.1, G.1.2.1, G.1.2.2.1, G.1.2.2.2.1, dr_words G.1.2.2.2.2 d0⟩ (c_copyOf_int l ω.1 ω.2.1 H.size (tot H) (ρ b) (oA ω 0) (μ.2.1 b).toNat (fun (i : Nat) => iv (μ.1 b i)) n.toNat (by omega) (by omega)) (va_cwS 2 (dr_words G.1.2.2.2.2 d0) (gi_S gw_int h1 hst hini) rfl rfl rfl (by decide +kernel) (by rw [hR.1, hR.2]; exact ⟨hRR.1, hRR.2⟩)) ⟨fb_ME (fun _ _ _ _ h => h), fun U hU hW => ⟨rfl, xM.at hPc hKc hDc hU hW, by rw [hU]⟩⟩ rfl rfl hls rfl (lv_room (by simp only [List.map_cons, List.sum_cons]; show 1 + _ ≤ 8; omega)) hdg (by omega)) G.2.2.2.1 (fun q _ h => hFc q h) hFc (fun u ra t H1 locs1 ht hvm hw9 hB hz1 hk1 hS => ?_)
  obtain ⟨cN, g9, hg9, htot, hsz9, hB1, hB2, hB3⟩ := hB
  rw [ht] at htot hsz9 hB1
  sorry
set_option maxHeartbeats 4000000 in
theorem xg_long (G : Gd ω ρ μ p m c cc nL s args own d0 R H locs) {ci N idx idx2 fr lo : Nat} {C : String} {T : u_T} {ty0 : Nat → FieldType} (F : Fdd ci C T N ty0) {a b n : Int} (k : Nat) (hLY : LY a = ci) (hk : k < N) (hFT : FT ci k = 3) (hqa : ad ω ρ a = oP ω a) (hb9 : μ.1 a k = b) (hLYb : LY b = 101) (hRZ : RZ b = true) (hu : ∀ q ∈ SRL, q.2.2 = b → q.1 = a ∧ q.2.1 = (k : Int)) (hN : ∀ q ∈ LNL, q.1 ≠ b) (hn : μ.2.1 b < n ∧ n ≤ 1048576) (hroom : μ.2.2.1 + 1 ≤ 600000 ∧ μ.2.2.2 + n ≤ 7302250)
    (h1 : Cond.methodLink own idx yJ7_copyOf_c38d5 ∈ TG) (hst : Cond.static yJ7_copyOf_c38d5 ∈ TG) (hini : Cond.initialized yJ7_copyOf_c38d5.cls ∈ TG) (hR : R.frames = fr ∧ R.locals = lo) (hRR : 2 ≤ fr ∧ 102 ≤ lo) {ref nm ds : String} (hlk : Cond.fieldLink own idx2 ref nm ds ∈ TG) (hT : ref = (T k).1 ∧ nm = (T k).2.1 ∧ ds = (T k).2.2.1 ∧ (T k).2.2.2 = false) (hty : ty0 k = .array .long) (hls : ls.size = nL) (hw : (rest.map fun v => v.category).sum ≤ 6) (hdg : decode cc pc = .ok (.invokestatic idx, 3)) (hdg2 : decode cc (pc + 3) = .ok (.putfield idx2, 3))
    (kk : ∀ (ρ1 : Int → Nat) (f : Int → Int) (H1 : Heap) (locs1 : List Loc), (∀ i, 0 ≤ i → i < μ.2.1 b → f i = μ.1 b i) → Gd ω ρ1 (gro μ b n f) p m c cc nL s args own d0 R H1 locs1 → WT p l e R s d0 m args below meth c H1 locs1 Q (F0 m (pc + 3 + 3) ls rest)) : WT p l e R s d0 m args below meth c H locs Q (F0 m pc ls (.int (iv n) :: .ref (ρ b) :: .ref (oP ω a) :: rest)) := by
  obtain ⟨f1, f2, f3, f4, f5, f6⟩ := F
  obtain ⟨rfl, rfl, rfl, hfin⟩ := hT
  have ha := LY_lt (a := a) (by omega)
  have hbn := LY_lt (a := b) (by omega)
  have hlnb := G.ln b
  have hqb : ad ω ρ b = ρ b := by unfold ad; rw [hRZ]; rfl
  have heb : (wd ω ρ μ)[b.toNat]? = some (ρ b, .inl (oA ω 1, (μ.2.1 b).toNat, .inr (.inl (fun (i : Nat) => jv (μ.1 b i))))) := by rw [wd_get ω ρ μ hbn, en_arr ω ρ μ (t := 1) hLYb, hqb]; rfl
  have hea : (wd ω ρ μ)[a.toNat]? = some (oP ω a, .inr (ci, (List.range (NF ci)).map (fun (j : Nat) => cv ω ρ (FT ci j) (μ.1 a j)))) := by rw [wd_get ω ρ μ ha, en_obj ω ρ μ hLY f4, hqa]
  have hP := G.2.2.1.1
  have hD := G.2.2.1.2.1
  have hK := G.2.2.1.2.2.1
  have hPc : va_P (ω.1, ω.2.1) vwCl [(ρ b, .inl (oA ω 1, (μ.2.1 b).toNat, .inr (.inl (fun (i : Nat) => jv (μ.1 b i)))))] H := hP.sub [b.toNat] (by simp [heb])
  have hDc : va_D (Aw ω) [(ρ b, .inl (oA ω 1, (μ.2.1 b).toNat, .inr (.inl (fun (i : Nat) => jv (μ.1 b i)))))] := hD.sub [b.toNat] (by simp [va_nd]) (by simp [heb])
  have hKc : va_K (ω.1, ω.2.1) vwCl [(oA ω 1, .long)] s := hK.sub [1] rfl
  have hFc : ∀ q, va_A [(ρ b, .inl (oA ω 1, (μ.2.1 b).toNat, .inr (.inl (fun (i : Nat) => jv (μ.1 b i)))))] H.size q → Aw ω q := by
    intro q hq
    rcases hq with ⟨j, e9, hj⟩ | hq
    · exact hDc.2 j _ hj
    · exact Nat.le_trans G.2.2.2.2.1 (Nat.le_trans G.2.2.2.1.1 hq)
  have hivn : iv n = nI n.toNat := by unfold nI; rw [iv_nat, Int.toNat_of_nonneg (by omega)]
  have hrm := G.rm
  have hszH := G.2.2.1.2.2.2.2.2.1
  have htoH := G.2.2.1.2.2.2.2.2.2.1
  have hs1 := G.2.2.2.1.1
  have hs2 := G.2.2.2.2.2.2.2.1
  rw [hivn]
  refine va_callr (va_runS (s := s.setDrawn d0) (As := [.ref (ρ b), .int (nI n.toNat)]) (rest := .ref (oP ω a) :: rest) ⟨G.1.1, G.1.2.1, G.1.2.2.1, G.1.2.2.2.1, dr_words G.1.2.2.2.2 d0⟩ (c_copyOf_long l ω.1 ω.2.1 H.size (tot H) (ρ b) (oA ω 1) (μ.2.1 b).toNat (fun (i : Nat) => jv (μ.1 b i)) n.toNat (by omega) (by omega)) (va_cwS 2 (dr_words G.1.2.2.2.2 d0) (gi_S gw_long h1 hst hini) rfl rfl rfl (by decide +kernel) (by rw [hR.1, hR.2]; exact ⟨hRR.1, hRR.2⟩)) ⟨fb_ME (fun _ _ _ _ h => h), fun U hU hW => ⟨rfl, xM.at hPc hKc hDc hU hW, by rw [hU]⟩⟩ rfl rfl hls rfl (lv_room (by simp only [List.map_cons, List.sum_cons]; show 1 + _ ≤ 8; omega)) hdg (by omega)) G.2.2.2.1 (fun q _ h => hFc q h) hFc (fun u ra t H1 locs1 ht hvm hw9 hB hz1 hk1 hS => ?_)
  obtain ⟨cN, g9, hg9, htot, hsz9, hB1, hB2, hB3⟩ := hB
  rw [ht] at htot hsz9 hB1
  sorry
set_option maxHeartbeats 4000000 in
theorem xg_double (G : Gd ω ρ μ p m c cc nL s args own d0 R H locs) {ci N idx idx2 fr lo : Nat} {C : String} {T : u_T} {ty0 : Nat → FieldType} (F : Fdd ci C T N ty0) {a b n : Int} (k : Nat) (hLY : LY a = ci) (hk : k < N) (hFT : FT ci k = 3) (hqa : ad ω ρ a = oP ω a) (hb9 : μ.1 a k = b) (hLYb : LY b = 102) (hRZ : RZ b = true) (hu : ∀ q ∈ SRL, q.2.2 = b → q.1 = a ∧ q.2.1 = (k : Int)) (hN : ∀ q ∈ LNL, q.1 ≠ b) (hn : μ.2.1 b < n ∧ n ≤ 1048576) (hroom : μ.2.2.1 + 1 ≤ 600000 ∧ μ.2.2.2 + n ≤ 7302250)
    (h1 : Cond.methodLink own idx yJ7_copyOf_65012 ∈ TG) (hst : Cond.static yJ7_copyOf_65012 ∈ TG) (hini : Cond.initialized yJ7_copyOf_65012.cls ∈ TG) (hR : R.frames = fr ∧ R.locals = lo) (hRR : 2 ≤ fr ∧ 102 ≤ lo) {ref nm ds : String} (hlk : Cond.fieldLink own idx2 ref nm ds ∈ TG) (hT : ref = (T k).1 ∧ nm = (T k).2.1 ∧ ds = (T k).2.2.1 ∧ (T k).2.2.2 = false) (hty : ty0 k = .array .double) (hls : ls.size = nL) (hw : (rest.map fun v => v.category).sum ≤ 6) (hdg : decode cc pc = .ok (.invokestatic idx, 3)) (hdg2 : decode cc (pc + 3) = .ok (.putfield idx2, 3))
    (kk : ∀ (ρ1 : Int → Nat) (f : Int → Int) (H1 : Heap) (locs1 : List Loc), Gd ω ρ1 (gro μ b n f) p m c cc nL s args own d0 R H1 locs1 → WT p l e R s d0 m args below meth c H1 locs1 Q (F0 m (pc + 3 + 3) ls rest)) : WT p l e R s d0 m args below meth c H locs Q (F0 m pc ls (.int (iv n) :: .ref (ρ b) :: .ref (oP ω a) :: rest)) := by
  obtain ⟨f1, f2, f3, f4, f5, f6⟩ := F
  obtain ⟨rfl, rfl, rfl, hfin⟩ := hT
  have ha := LY_lt (a := a) (by omega)
  have hbn := LY_lt (a := b) (by omega)
  have hlnb := G.ln b
  have hqb : ad ω ρ b = ρ b := by unfold ad; rw [hRZ]; rfl
  have heb : (wd ω ρ μ)[b.toNat]? = some (ρ b, .inl (oA ω 2, (μ.2.1 b).toNat, .inr (.inr (.inr (.inl (fun (i : Nat) => dv (μ.1 b i))))))) := by rw [wd_get ω ρ μ hbn, en_arr ω ρ μ (t := 2) hLYb, hqb]; rfl
  have hea : (wd ω ρ μ)[a.toNat]? = some (oP ω a, .inr (ci, (List.range (NF ci)).map (fun (j : Nat) => cv ω ρ (FT ci j) (μ.1 a j)))) := by rw [wd_get ω ρ μ ha, en_obj ω ρ μ hLY f4, hqa]
  have hP := G.2.2.1.1
  have hD := G.2.2.1.2.1
  have hK := G.2.2.1.2.2.1
  have hPc : va_P (ω.1, ω.2.1) vwCl [(ρ b, .inl (oA ω 2, (μ.2.1 b).toNat, .inr (.inr (.inr (.inl (fun (i : Nat) => dv (μ.1 b i)))))))] H := hP.sub [b.toNat] (by simp [heb])
  have hDc : va_D (Aw ω) [(ρ b, .inl (oA ω 2, (μ.2.1 b).toNat, .inr (.inr (.inr (.inl (fun (i : Nat) => dv (μ.1 b i)))))))] := hD.sub [b.toNat] (by simp [va_nd]) (by simp [heb])
  have hKc : va_K (ω.1, ω.2.1) vwCl [(oA ω 2, .double)] s := hK.sub [2] rfl
  have hFc : ∀ q, va_A [(ρ b, .inl (oA ω 2, (μ.2.1 b).toNat, .inr (.inr (.inr (.inl (fun (i : Nat) => dv (μ.1 b i)))))))] H.size q → Aw ω q := by
    intro q hq
    rcases hq with ⟨j, e9, hj⟩ | hq
    · exact hDc.2 j _ hj
    · exact Nat.le_trans G.2.2.2.2.1 (Nat.le_trans G.2.2.2.1.1 hq)
  have hivn : iv n = nI n.toNat := by unfold nI; rw [iv_nat, Int.toNat_of_nonneg (by omega)]
  have hrm := G.rm
  have hszH := G.2.2.1.2.2.2.2.2.1
  have htoH := G.2.2.1.2.2.2.2.2.2.1
  have hs1 := G.2.2.2.1.1
  have hs2 := G.2.2.2.2.2.2.2.1
  rw [hivn]
  refine va_callr (va_runS (s := s.setDrawn d0) (As := [.ref (ρ b), .int (nI n.toNat)]) (rest := .ref (oP ω a) :: rest) ⟨G.1.1, G.1.2.1, G.1.2.2.1, G.1.2.2.2.1, dr_words G.1.2.2.2.2 d0⟩ (c_copyOf_double l ω.1 ω.2.1 H.size (tot H) (ρ b) (oA ω 2) (μ.2.1 b).toNat (fun (i : Nat) => dv (μ.1 b i)) n.toNat (by omega) (by omega)) (va_cwS 2 (dr_words G.1.2.2.2.2 d0) (gi_S gw_double h1 hst hini) rfl rfl rfl (by decide +kernel) (by rw [hR.1, hR.2]; exact ⟨hRR.1, hRR.2⟩)) ⟨fb_ME (fun _ _ _ _ h => h), fun U hU hW => ⟨rfl, xM.at hPc hKc hDc hU hW, by rw [hU]⟩⟩ rfl rfl hls rfl (lv_room (by simp only [List.map_cons, List.sum_cons]; show 1 + _ ≤ 8; omega)) hdg (by omega)) G.2.2.2.1 (fun q _ h => hFc q h) hFc (fun u ra t H1 locs1 ht hvm hw9 hB hz1 hk1 hS => ?_)
  obtain ⟨cN, g9, hg9, htot, hsz9, hB1, hB2, hB3⟩ := hB
  rw [ht] at htot hsz9 hB1
  sorry
end GRW
