theorem tyq {U : State} {c c2 : ClassId} {t : FieldType} (h : va_RA U c t) (h2 : va_RA U c2 t) : c = c2 := by
  cases t with
  | object C =>
    obtain ⟨_, _, _, _, _, e⟩ := h
    obtain ⟨_, _, _, _, _, e2⟩ := h2
    exact Option.some.inj (e.symm.trans e2)
  | _ => exact Option.some.inj (Eq.trans (Eq.symm h) h2)
theorem at_arr {D : va_G} {H : Heap} {q : Nat} {c c2 : ClassId} {x x2 : vp_A} (h : va_at D vwCl (q, .inl (c, x)) H) (e : c = c2) (ex : x = x2) : va_at D vwCl (q, .inl (c2, x2)) H := by
  subst e; subst ex; exact h
theorem at_obj {D : va_G} {H : Heap} {q n : Nat} {c c2 : ClassId} {f f2 : Nat → Option Nat} (h : va_at D vwCl (q, .inl (c, n, .inr (.inr (.inr (.inr f))))) H) (e : c = c2) (ef : ∀ k, k < n → f k = f2 k) : va_at D vwCl (q, .inl (c2, n, .inr (.inr (.inr (.inr f2))))) H := by
  subst e
  have z : arrV c n (fun j => va_rf (f j)) = arrV c n (fun j => va_rf (f2 j)) := by
    unfold arrV
    congr 1
    congr 1
    funext j
    show va_rf (f j.val) = va_rf (f2 j.val)
    rw [ef j.val j.isLt]
  show H[q]? = some (arrV c n (fun j => va_rf (f2 j)))
  rw [← z]
  exact h
theorem lt_t {P : Nat → Prop} {n : Nat} (h : ∀ m, m < n → P m) (h2 : P n) : ∀ m, m < n + 1 → P m := fun m hm => by
  by_cases e : m = n
  · rw [e]; exact h2
  · exact h m (by omega)
theorem va_D.cg {A : Nat → Prop} {ws ws2 : va_W} (h : va_D A ws) (e : ws2.map (fun q => q.1) = ws.map (fun q => q.1)) : va_D A ws2 := by
  have g : ∀ (i : Nat) (p : Nat × va_E), ws2[i]? = some p → ∃ p2, ws[i]? = some p2 ∧ p2.1 = p.1 := by
    intro i p hp
    have z : (ws2.map (fun q => q.1))[i]? = some p.1 := by rw [List.getElem?_map, hp]; rfl
    rw [e, List.getElem?_map] at z
    cases hw : ws[i]? with
    | none => rw [hw] at z; cases z
    | some p2 => rw [hw] at z; exact ⟨p2, rfl, Option.some.inj z⟩
  refine ⟨fun i j p q hi hj hpq => ?_, fun k q hk => ?_⟩
  · obtain ⟨p2, hp2, e2⟩ := g i p hi
    obtain ⟨q2, hq2, e3⟩ := g j q hj
    exact h.1 i j p2 q2 hp2 hq2 (by rw [e2, e3, hpq])
  · obtain ⟨q2, hq2, e2⟩ := g k q hk
    rw [← e2]; exact h.2 k q2 hq2
set_option maxHeartbeats 4000000 in
set_option maxRecDepth 100000 in
theorem sm_z0 {dC : Nat → ClassId} {dI : Nat → Nat → Nat} {A : Int → Nat} {KK : Nat → ClassId} {b t : Nat} {oS0 : Nat → Nat} {H : Heap} (k_1 k_3 k_4 k_5 k_7 k_8 k_9 k_10 k_11 : ClassId) (g3 : Nat → Int64) (g4 : Nat → Int32) (g8 : Nat → Int32) (g27 : Nat → Int64) (g113 : Nat → Int64) (g114 : Nat → Int32) (g166 : Nat → Int32) (f_1 : k_1 = KK 3) (f_3 : k_3 = KK 1) (f_4 : k_4 = KK 0) (f_5 : k_5 = KK 0) (f_7 : k_7 = KK 0) (f_8 : k_8 = KK 0) (f_9 : k_9 = KK 0) (f_10 : k_10 = KK 0) (f_11 : k_11 = KK 0) (hP : va_P (dC, dI) vwCl [(A 0, .inr (10, [.ref (A 1), .int 0, .int 0, .ref (A 2), .ref (A 6), .ref (A 12), .ref (A 13), .ref (A 23), .ref (A 32)])), (A 1, .inl (k_1, 3000, .inl (fun _ => 0))), (A 2, .inr (5, [.ref (A 3), .ref (A 4), .ref (A 5), .int 11, .int 0])), (A 3, .inl (k_3, 52, .inr (.inl g3))), (A 4, .inl (k_4, 52, .inl g4)), (A 5, .inl (k_5, 52, .inl (fun _ => 0))), (A 6, .inr (0, [.ref (A 7), .ref (A 8), .ref (A 9), .ref (A 10), .ref (A 11), .int 0])), (A 7, .inl (k_7, 16, .inl (fun _ => 0))), (A 8, .inl (k_8, 16, .inl g8)), (A 9, .inl (k_9, 100, .inl (fun _ => 0))), (A 10, .inl (k_10, 100, .inl (fun _ => 0))), (A 11, .inl (k_11, 100, .inl (fun _ => 0)))] H) : ∀ n : Nat, 0 ≤ n → n < 12 → va_at (dC, dI) vwCl (ad (dC, dI, A, KK, b, t, oS0) A (n : Int), en (dC, dI, A, KK, b, t, oS0) A (m0 g3 g4 g8 g27 g113 g114 g166) (n : Int)) H := by
  intro n n1 n2
  have ea : ad (dC, dI, A, KK, b, t, oS0) A n = A n := by unfold ad; cases RZ n <;> rfl
  rw [ea]
  rcases (show n = 0 ∨ n = 1 ∨ n = 2 ∨ n = 3 ∨ n = 4 ∨ n = 5 ∨ n = 6 ∨ n = 7 ∨ n = 8 ∨ n = 9 ∨ n = 10 ∨ n = 11 by omega) with rfl | rfl | rfl | rfl | rfl | rfl | rfl | rfl | rfl | rfl | rfl | rfl
  · have h_0 := hP 0 _ rfl
    show va_at (dC, dI) vwCl (A 0, en (dC, dI, A, KK, b, t, oS0) A (m0 g3 g4 g8 g27 g113 g114 g166) 0) H
    exact (by rw [en_obj (dC, dI, A, KK, b, t, oS0) A (m0 g3 g4 g8 g27 g113 g114 g166) (a := 0) (ci := 10) rfl (by decide)]; exact h_0)
  · have h_1 := hP 1 _ rfl
    show va_at (dC, dI) vwCl (A 1, en (dC, dI, A, KK, b, t, oS0) A (m0 g3 g4 g8 g27 g113 g114 g166) 1) H
    exact (by rw [en_arr (dC, dI, A, KK, b, t, oS0) A (m0 g3 g4 g8 g27 g113 g114 g166) (a := 1) (t := 3) rfl]; exact at_arr h_1 f_1 rfl)
  · have h_2 := hP 2 _ rfl
    show va_at (dC, dI) vwCl (A 2, en (dC, dI, A, KK, b, t, oS0) A (m0 g3 g4 g8 g27 g113 g114 g166) 2) H
    exact (by rw [en_obj (dC, dI, A, KK, b, t, oS0) A (m0 g3 g4 g8 g27 g113 g114 g166) (a := 2) (ci := 5) rfl (by decide)]; exact h_2)
  · have h_3 := hP 3 _ rfl
    show va_at (dC, dI) vwCl (A 3, en (dC, dI, A, KK, b, t, oS0) A (m0 g3 g4 g8 g27 g113 g114 g166) 3) H
    exact (by rw [en_arr (dC, dI, A, KK, b, t, oS0) A (m0 g3 g4 g8 g27 g113 g114 g166) (a := 3) (t := 1) rfl]; exact at_arr h_3 f_3 (by have e : (fun k : Nat => jv ((m0 g3 g4 g8 g27 g113 g114 g166).1 3 (k : Int))) = g3 := funext fun k => (by show jv (g3 ((k : Int)).toNat).toInt = g3 k; rw [Int.toNat_natCast]; exact jv_of _); exact congrArg (fun z => (((52, .inr (.inl z))) : vp_A)) e.symm))
  · have h_4 := hP 4 _ rfl
    show va_at (dC, dI) vwCl (A 4, en (dC, dI, A, KK, b, t, oS0) A (m0 g3 g4 g8 g27 g113 g114 g166) 4) H
    exact (by rw [en_arr (dC, dI, A, KK, b, t, oS0) A (m0 g3 g4 g8 g27 g113 g114 g166) (a := 4) (t := 0) rfl]; exact at_arr h_4 f_4 (by have e : (fun k : Nat => iv ((m0 g3 g4 g8 g27 g113 g114 g166).1 4 (k : Int))) = g4 := funext fun k => (by show iv (g4 ((k : Int)).toNat).toInt = g4 k; rw [Int.toNat_natCast]; exact iv_of _); exact congrArg (fun z => (((52, .inl z)) : vp_A)) e.symm))
  · have h_5 := hP 5 _ rfl
    show va_at (dC, dI) vwCl (A 5, en (dC, dI, A, KK, b, t, oS0) A (m0 g3 g4 g8 g27 g113 g114 g166) 5) H
    exact (by rw [en_arr (dC, dI, A, KK, b, t, oS0) A (m0 g3 g4 g8 g27 g113 g114 g166) (a := 5) (t := 0) rfl]; exact at_arr h_5 f_5 rfl)
  · have h_6 := hP 6 _ rfl
    show va_at (dC, dI) vwCl (A 6, en (dC, dI, A, KK, b, t, oS0) A (m0 g3 g4 g8 g27 g113 g114 g166) 6) H
    exact (by rw [en_obj (dC, dI, A, KK, b, t, oS0) A (m0 g3 g4 g8 g27 g113 g114 g166) (a := 6) (ci := 0) rfl (by decide)]; exact h_6)
  · have h_7 := hP 7 _ rfl
    show va_at (dC, dI) vwCl (A 7, en (dC, dI, A, KK, b, t, oS0) A (m0 g3 g4 g8 g27 g113 g114 g166) 7) H
    exact (by rw [en_arr (dC, dI, A, KK, b, t, oS0) A (m0 g3 g4 g8 g27 g113 g114 g166) (a := 7) (t := 0) rfl]; exact at_arr h_7 f_7 rfl)
  · have h_8 := hP 8 _ rfl
    show va_at (dC, dI) vwCl (A 8, en (dC, dI, A, KK, b, t, oS0) A (m0 g3 g4 g8 g27 g113 g114 g166) 8) H
    exact (by rw [en_arr (dC, dI, A, KK, b, t, oS0) A (m0 g3 g4 g8 g27 g113 g114 g166) (a := 8) (t := 0) rfl]; exact at_arr h_8 f_8 (by have e : (fun k : Nat => iv ((m0 g3 g4 g8 g27 g113 g114 g166).1 8 (k : Int))) = g8 := funext fun k => (by show iv (g8 ((k : Int)).toNat).toInt = g8 k; rw [Int.toNat_natCast]; exact iv_of _); exact congrArg (fun z => (((16, .inl z)) : vp_A)) e.symm))
  · have h_9 := hP 9 _ rfl
    show va_at (dC, dI) vwCl (A 9, en (dC, dI, A, KK, b, t, oS0) A (m0 g3 g4 g8 g27 g113 g114 g166) 9) H
    exact (by rw [en_arr (dC, dI, A, KK, b, t, oS0) A (m0 g3 g4 g8 g27 g113 g114 g166) (a := 9) (t := 0) rfl]; exact at_arr h_9 f_9 rfl)
  · have h_10 := hP 10 _ rfl
    show va_at (dC, dI) vwCl (A 10, en (dC, dI, A, KK, b, t, oS0) A (m0 g3 g4 g8 g27 g113 g114 g166) 10) H
    exact (by rw [en_arr (dC, dI, A, KK, b, t, oS0) A (m0 g3 g4 g8 g27 g113 g114 g166) (a := 10) (t := 0) rfl]; exact at_arr h_10 f_10 rfl)
  · have h_11 := hP 11 _ rfl
    show va_at (dC, dI) vwCl (A 11, en (dC, dI, A, KK, b, t, oS0) A (m0 g3 g4 g8 g27 g113 g114 g166) 11) H
    exact (by rw [en_arr (dC, dI, A, KK, b, t, oS0) A (m0 g3 g4 g8 g27 g113 g114 g166) (a := 11) (t := 0) rfl]; exact at_arr h_11 f_11 rfl)
set_option maxHeartbeats 4000000 in
set_option maxRecDepth 100000 in
theorem sm_z12 {dC : Nat → ClassId} {dI : Nat → Nat → Nat} {A : Int → Nat} {KK : Nat → ClassId} {b t : Nat} {oS0 : Nat → Nat} {H : Heap} (k_12 k_14 k_16 k_17 k_18 k_19 k_20 k_21 k_22 : ClassId) (g3 : Nat → Int64) (g4 : Nat → Int32) (g8 : Nat → Int32) (g27 : Nat → Int64) (g113 : Nat → Int64) (g114 : Nat → Int32) (g166 : Nat → Int32) (gp : Nat → Option Nat) (hp0 : gp 0 = some (A 71)) (hp1 : gp 1 = some (A 81)) (hp2 : gp 2 = some (A 91)) (hp3 : gp 3 = some (A 101)) (f_12 : k_12 = KK 4) (f_14 : k_14 = KK 0) (f_16 : k_16 = KK 0) (f_17 : k_17 = KK 1) (f_18 : k_18 = KK 2) (f_19 : k_19 = KK 1) (f_20 : k_20 = KK 0) (f_21 : k_21 = KK 0) (f_22 : k_22 = KK 0) (hP : va_P (dC, dI) vwCl [(A 12, .inl (k_12, 4, .inr (.inr (.inr (.inr gp))))), (A 13, .inr (7, [.ref (A 14), .int 0, .ref (A 15), .ref (A 19), .ref (A 20), .ref (A 21), .ref (A 22), .int 0])), (A 14, .inl (k_14, 1024, .inl (fun _ => 0))), (A 15, .inr (8, [.ref (A 16), .ref (A 17), .ref (A 18), .int 0])), (A 16, .inl (k_16, 32, .inl (fun _ => 0))), (A 17, .inl (k_17, 32, .inr (.inl (fun _ => 0)))), (A 18, .inl (k_18, 32, .inr (.inr (.inr (.inl (fun _ => 0)))))), (A 19, .inl (k_19, 40, .inr (.inl (fun _ => 0)))), (A 20, .inl (k_20, 40, .inl (fun _ => 0))), (A 21, .inl (k_21, 40, .inl (fun _ => 0))), (A 22, .inl (k_22, 40, .inl (fun _ => 0))), (A 23, .inr (6, [.ref (A 26), .ref (A 2), .ref (A 13), .ref (A 24), .ref (A 25), .int 0, .int 0, .int 0, .int 0, .int 0, .int 0]))] H) : ∀ n : Nat, 12 ≤ n → n < 24 → va_at (dC, dI) vwCl (ad (dC, dI, A, KK, b, t, oS0) A (n : Int), en (dC, dI, A, KK, b, t, oS0) A (m0 g3 g4 g8 g27 g113 g114 g166) (n : Int)) H := by
  intro n n1 n2
  have ea : ad (dC, dI, A, KK, b, t, oS0) A n = A n := by unfold ad; cases RZ n <;> rfl
  rw [ea]
  rcases (show n = 12 ∨ n = 13 ∨ n = 14 ∨ n = 15 ∨ n = 16 ∨ n = 17 ∨ n = 18 ∨ n = 19 ∨ n = 20 ∨ n = 21 ∨ n = 22 ∨ n = 23 by omega) with rfl | rfl | rfl | rfl | rfl | rfl | rfl | rfl | rfl | rfl | rfl | rfl
  · have h_12 := hP 0 _ rfl
    show va_at (dC, dI) vwCl (A 12, en (dC, dI, A, KK, b, t, oS0) A (m0 g3 g4 g8 g27 g113 g114 g166) 12) H
    exact (by rw [en_arr (dC, dI, A, KK, b, t, oS0) A (m0 g3 g4 g8 g27 g113 g114 g166) (a := 12) (t := 4) rfl]; exact at_obj (n := 4) h_12 f_12 (fun k hk => by match k, hk with | 0, _ => exact hp0 | 1, _ => exact hp1 | 2, _ => exact hp2 | 3, _ => exact hp3 | k + 4, h => exact absurd h (by omega)))
  · have h_13 := hP 1 _ rfl
    show va_at (dC, dI) vwCl (A 13, en (dC, dI, A, KK, b, t, oS0) A (m0 g3 g4 g8 g27 g113 g114 g166) 13) H
    exact (by rw [en_obj (dC, dI, A, KK, b, t, oS0) A (m0 g3 g4 g8 g27 g113 g114 g166) (a := 13) (ci := 7) rfl (by decide)]; exact h_13)
  · have h_14 := hP 2 _ rfl
    show va_at (dC, dI) vwCl (A 14, en (dC, dI, A, KK, b, t, oS0) A (m0 g3 g4 g8 g27 g113 g114 g166) 14) H
    exact (by rw [en_arr (dC, dI, A, KK, b, t, oS0) A (m0 g3 g4 g8 g27 g113 g114 g166) (a := 14) (t := 0) rfl]; exact at_arr h_14 f_14 rfl)
  · have h_15 := hP 3 _ rfl
    show va_at (dC, dI) vwCl (A 15, en (dC, dI, A, KK, b, t, oS0) A (m0 g3 g4 g8 g27 g113 g114 g166) 15) H
    exact (by rw [en_obj (dC, dI, A, KK, b, t, oS0) A (m0 g3 g4 g8 g27 g113 g114 g166) (a := 15) (ci := 8) rfl (by decide)]; exact h_15)
  · have h_16 := hP 4 _ rfl
    show va_at (dC, dI) vwCl (A 16, en (dC, dI, A, KK, b, t, oS0) A (m0 g3 g4 g8 g27 g113 g114 g166) 16) H
    exact (by rw [en_arr (dC, dI, A, KK, b, t, oS0) A (m0 g3 g4 g8 g27 g113 g114 g166) (a := 16) (t := 0) rfl]; exact at_arr h_16 f_16 rfl)
  · have h_17 := hP 5 _ rfl
    show va_at (dC, dI) vwCl (A 17, en (dC, dI, A, KK, b, t, oS0) A (m0 g3 g4 g8 g27 g113 g114 g166) 17) H
    exact (by rw [en_arr (dC, dI, A, KK, b, t, oS0) A (m0 g3 g4 g8 g27 g113 g114 g166) (a := 17) (t := 1) rfl]; exact at_arr h_17 f_17 rfl)
  · have h_18 := hP 6 _ rfl
    show va_at (dC, dI) vwCl (A 18, en (dC, dI, A, KK, b, t, oS0) A (m0 g3 g4 g8 g27 g113 g114 g166) 18) H
    exact (by rw [en_arr (dC, dI, A, KK, b, t, oS0) A (m0 g3 g4 g8 g27 g113 g114 g166) (a := 18) (t := 2) rfl]; exact at_arr h_18 f_18 rfl)
  · have h_19 := hP 7 _ rfl
    show va_at (dC, dI) vwCl (A 19, en (dC, dI, A, KK, b, t, oS0) A (m0 g3 g4 g8 g27 g113 g114 g166) 19) H
    exact (by rw [en_arr (dC, dI, A, KK, b, t, oS0) A (m0 g3 g4 g8 g27 g113 g114 g166) (a := 19) (t := 1) rfl]; exact at_arr h_19 f_19 rfl)
  · have h_20 := hP 8 _ rfl
    show va_at (dC, dI) vwCl (A 20, en (dC, dI, A, KK, b, t, oS0) A (m0 g3 g4 g8 g27 g113 g114 g166) 20) H
    exact (by rw [en_arr (dC, dI, A, KK, b, t, oS0) A (m0 g3 g4 g8 g27 g113 g114 g166) (a := 20) (t := 0) rfl]; exact at_arr h_20 f_20 rfl)
  · have h_21 := hP 9 _ rfl
    show va_at (dC, dI) vwCl (A 21, en (dC, dI, A, KK, b, t, oS0) A (m0 g3 g4 g8 g27 g113 g114 g166) 21) H
    exact (by rw [en_arr (dC, dI, A, KK, b, t, oS0) A (m0 g3 g4 g8 g27 g113 g114 g166) (a := 21) (t := 0) rfl]; exact at_arr h_21 f_21 rfl)
  · have h_22 := hP 10 _ rfl
    show va_at (dC, dI) vwCl (A 22, en (dC, dI, A, KK, b, t, oS0) A (m0 g3 g4 g8 g27 g113 g114 g166) 22) H
    exact (by rw [en_arr (dC, dI, A, KK, b, t, oS0) A (m0 g3 g4 g8 g27 g113 g114 g166) (a := 22) (t := 0) rfl]; exact at_arr h_22 f_22 rfl)
  · have h_23 := hP 11 _ rfl
    show va_at (dC, dI) vwCl (A 23, en (dC, dI, A, KK, b, t, oS0) A (m0 g3 g4 g8 g27 g113 g114 g166) 23) H
    exact (by rw [en_obj (dC, dI, A, KK, b, t, oS0) A (m0 g3 g4 g8 g27 g113 g114 g166) (a := 23) (ci := 6) rfl (by decide)]; exact h_23)
set_option maxHeartbeats 4000000 in
set_option maxRecDepth 100000 in
theorem sm_z24 {dC : Nat → ClassId} {dI : Nat → Nat → Nat} {A : Int → Nat} {KK : Nat → ClassId} {b t : Nat} {oS0 : Nat → Nat} {H : Heap} (k_24 k_25 k_27 k_28 k_29 k_30 k_31 k_34 k_35 : ClassId) (g3 : Nat → Int64) (g4 : Nat → Int32) (g8 : Nat → Int32) (g27 : Nat → Int64) (g113 : Nat → Int64) (g114 : Nat → Int32) (g166 : Nat → Int32) (f_24 : k_24 = KK 0) (f_25 : k_25 = KK 1) (f_27 : k_27 = KK 1) (f_28 : k_28 = KK 0) (f_29 : k_29 = KK 0) (f_30 : k_30 = KK 1) (f_31 : k_31 = KK 2) (f_34 : k_34 = KK 0) (f_35 : k_35 = KK 1) (hP : va_P (dC, dI) vwCl [(A 24, .inl (k_24, 4, .inl (fun _ => 0))), (A 25, .inl (k_25, 1000, .inr (.inl (fun _ => 0)))), (A 26, .inr (9, [.ref (A 1), .ref (A 27), .ref (A 28), .ref (A 29), .ref (A 30), .ref (A 31), .int 0, .int 0, .int 0, .int 0, .int 0, .int 0, .int 0, .int 0, .long 0, .double FP.dconst0])), (A 27, .inl (k_27, 33, .inr (.inl g27))), (A 28, .inl (k_28, 3001, .inl (fun _ => 0))), (A 29, .inl (k_29, 3001, .inl (fun _ => 0))), (A 30, .inl (k_30, 3001, .inr (.inl (fun _ => 0)))), (A 31, .inl (k_31, 3001, .inr (.inr (.inr (.inl (fun _ => 0)))))), (A 32, .inr (4, [.ref (A 12), .ref (A 2), .ref (A 6), .ref (A 33), .ref (A 37), .ref (A 41), .ref (A 45), .ref (A 52), .ref (A 60), .ref (A 70), .ref (A 13), .int 0, .int 0, .int 4, .int (-1), .int (-1), .long 0])), (A 33, .inr (8, [.ref (A 34), .ref (A 35), .ref (A 36), .int 0])), (A 34, .inl (k_34, 64, .inl (fun _ => 0))), (A 35, .inl (k_35, 64, .inr (.inl (fun _ => 0))))] H) : ∀ n : Nat, 24 ≤ n → n < 36 → va_at (dC, dI) vwCl (ad (dC, dI, A, KK, b, t, oS0) A (n : Int), en (dC, dI, A, KK, b, t, oS0) A (m0 g3 g4 g8 g27 g113 g114 g166) (n : Int)) H := by
  intro n n1 n2
  have ea : ad (dC, dI, A, KK, b, t, oS0) A n = A n := by unfold ad; cases RZ n <;> rfl
  rw [ea]
  rcases (show n = 24 ∨ n = 25 ∨ n = 26 ∨ n = 27 ∨ n = 28 ∨ n = 29 ∨ n = 30 ∨ n = 31 ∨ n = 32 ∨ n = 33 ∨ n = 34 ∨ n = 35 by omega) with rfl | rfl | rfl | rfl | rfl | rfl | rfl | rfl | rfl | rfl | rfl | rfl
  · have h_24 := hP 0 _ rfl
    show va_at (dC, dI) vwCl (A 24, en (dC, dI, A, KK, b, t, oS0) A (m0 g3 g4 g8 g27 g113 g114 g166) 24) H
    exact (by rw [en_arr (dC, dI, A, KK, b, t, oS0) A (m0 g3 g4 g8 g27 g113 g114 g166) (a := 24) (t := 0) rfl]; exact at_arr h_24 f_24 rfl)
  · have h_25 := hP 1 _ rfl
    show va_at (dC, dI) vwCl (A 25, en (dC, dI, A, KK, b, t, oS0) A (m0 g3 g4 g8 g27 g113 g114 g166) 25) H
    exact (by rw [en_arr (dC, dI, A, KK, b, t, oS0) A (m0 g3 g4 g8 g27 g113 g114 g166) (a := 25) (t := 1) rfl]; exact at_arr h_25 f_25 rfl)
  · have h_26 := hP 2 _ rfl
    show va_at (dC, dI) vwCl (A 26, en (dC, dI, A, KK, b, t, oS0) A (m0 g3 g4 g8 g27 g113 g114 g166) 26) H
    exact (by rw [en_obj (dC, dI, A, KK, b, t, oS0) A (m0 g3 g4 g8 g27 g113 g114 g166) (a := 26) (ci := 9) rfl (by decide)]; exact h_26)
  · have h_27 := hP 3 _ rfl
    show va_at (dC, dI) vwCl (A 27, en (dC, dI, A, KK, b, t, oS0) A (m0 g3 g4 g8 g27 g113 g114 g166) 27) H
    exact (by rw [en_arr (dC, dI, A, KK, b, t, oS0) A (m0 g3 g4 g8 g27 g113 g114 g166) (a := 27) (t := 1) rfl]; exact at_arr h_27 f_27 (by have e : (fun k : Nat => jv ((m0 g3 g4 g8 g27 g113 g114 g166).1 27 (k : Int))) = g27 := funext fun k => (by show jv (g27 ((k : Int)).toNat).toInt = g27 k; rw [Int.toNat_natCast]; exact jv_of _); exact congrArg (fun z => (((33, .inr (.inl z))) : vp_A)) e.symm))
  · have h_28 := hP 4 _ rfl
    show va_at (dC, dI) vwCl (A 28, en (dC, dI, A, KK, b, t, oS0) A (m0 g3 g4 g8 g27 g113 g114 g166) 28) H
    exact (by rw [en_arr (dC, dI, A, KK, b, t, oS0) A (m0 g3 g4 g8 g27 g113 g114 g166) (a := 28) (t := 0) rfl]; exact at_arr h_28 f_28 rfl)
  · have h_29 := hP 5 _ rfl
    show va_at (dC, dI) vwCl (A 29, en (dC, dI, A, KK, b, t, oS0) A (m0 g3 g4 g8 g27 g113 g114 g166) 29) H
    exact (by rw [en_arr (dC, dI, A, KK, b, t, oS0) A (m0 g3 g4 g8 g27 g113 g114 g166) (a := 29) (t := 0) rfl]; exact at_arr h_29 f_29 rfl)
  · have h_30 := hP 6 _ rfl
    show va_at (dC, dI) vwCl (A 30, en (dC, dI, A, KK, b, t, oS0) A (m0 g3 g4 g8 g27 g113 g114 g166) 30) H
    exact (by rw [en_arr (dC, dI, A, KK, b, t, oS0) A (m0 g3 g4 g8 g27 g113 g114 g166) (a := 30) (t := 1) rfl]; exact at_arr h_30 f_30 rfl)
  · have h_31 := hP 7 _ rfl
    show va_at (dC, dI) vwCl (A 31, en (dC, dI, A, KK, b, t, oS0) A (m0 g3 g4 g8 g27 g113 g114 g166) 31) H
    exact (by rw [en_arr (dC, dI, A, KK, b, t, oS0) A (m0 g3 g4 g8 g27 g113 g114 g166) (a := 31) (t := 2) rfl]; exact at_arr h_31 f_31 rfl)
  · have h_32 := hP 8 _ rfl
    show va_at (dC, dI) vwCl (A 32, en (dC, dI, A, KK, b, t, oS0) A (m0 g3 g4 g8 g27 g113 g114 g166) 32) H
    exact (by rw [en_obj (dC, dI, A, KK, b, t, oS0) A (m0 g3 g4 g8 g27 g113 g114 g166) (a := 32) (ci := 4) rfl (by decide)]; exact h_32)
  · have h_33 := hP 9 _ rfl
    show va_at (dC, dI) vwCl (A 33, en (dC, dI, A, KK, b, t, oS0) A (m0 g3 g4 g8 g27 g113 g114 g166) 33) H
    exact (by rw [en_obj (dC, dI, A, KK, b, t, oS0) A (m0 g3 g4 g8 g27 g113 g114 g166) (a := 33) (ci := 8) rfl (by decide)]; exact h_33)
  · have h_34 := hP 10 _ rfl
    show va_at (dC, dI) vwCl (A 34, en (dC, dI, A, KK, b, t, oS0) A (m0 g3 g4 g8 g27 g113 g114 g166) 34) H
    exact (by rw [en_arr (dC, dI, A, KK, b, t, oS0) A (m0 g3 g4 g8 g27 g113 g114 g166) (a := 34) (t := 0) rfl]; exact at_arr h_34 f_34 rfl)
  · have h_35 := hP 11 _ rfl
    show va_at (dC, dI) vwCl (A 35, en (dC, dI, A, KK, b, t, oS0) A (m0 g3 g4 g8 g27 g113 g114 g166) 35) H
    exact (by rw [en_arr (dC, dI, A, KK, b, t, oS0) A (m0 g3 g4 g8 g27 g113 g114 g166) (a := 35) (t := 1) rfl]; exact at_arr h_35 f_35 rfl)
set_option maxHeartbeats 4000000 in
set_option maxRecDepth 100000 in
theorem sm_z36 {dC : Nat → ClassId} {dI : Nat → Nat → Nat} {A : Int → Nat} {KK : Nat → ClassId} {b t : Nat} {oS0 : Nat → Nat} {H : Heap} (k_36 k_38 k_39 k_40 k_42 k_43 k_44 k_46 : ClassId) (g3 : Nat → Int64) (g4 : Nat → Int32) (g8 : Nat → Int32) (g27 : Nat → Int64) (g113 : Nat → Int64) (g114 : Nat → Int32) (g166 : Nat → Int32) (f_36 : k_36 = KK 2) (f_38 : k_38 = KK 0) (f_39 : k_39 = KK 1) (f_40 : k_40 = KK 2) (f_42 : k_42 = KK 0) (f_43 : k_43 = KK 1) (f_44 : k_44 = KK 2) (f_46 : k_46 = KK 0) (hP : va_P (dC, dI) vwCl [(A 36, .inl (k_36, 64, .inr (.inr (.inr (.inl (fun _ => 0)))))), (A 37, .inr (8, [.ref (A 38), .ref (A 39), .ref (A 40), .int 0])), (A 38, .inl (k_38, 64, .inl (fun _ => 0))), (A 39, .inl (k_39, 64, .inr (.inl (fun _ => 0)))), (A 40, .inl (k_40, 64, .inr (.inr (.inr (.inl (fun _ => 0)))))), (A 41, .inr (8, [.ref (A 42), .ref (A 43), .ref (A 44), .int 0])), (A 42, .inl (k_42, 16, .inl (fun _ => 0))), (A 43, .inl (k_43, 16, .inr (.inl (fun _ => 0)))), (A 44, .inl (k_44, 16, .inr (.inr (.inr (.inl (fun _ => 0)))))), (A 45, .inr (1, [.ref (A 46), .int 0, .ref (A 47), .ref (A 51), .int 0])), (A 46, .inl (k_46, 288, .inl (fun _ => 0))), (A 47, .inr (8, [.ref (A 48), .ref (A 49), .ref (A 50), .int 0]))] H) : ∀ n : Nat, 36 ≤ n → n < 48 → va_at (dC, dI) vwCl (ad (dC, dI, A, KK, b, t, oS0) A (n : Int), en (dC, dI, A, KK, b, t, oS0) A (m0 g3 g4 g8 g27 g113 g114 g166) (n : Int)) H := by
  intro n n1 n2
  have ea : ad (dC, dI, A, KK, b, t, oS0) A n = A n := by unfold ad; cases RZ n <;> rfl
  rw [ea]
  rcases (show n = 36 ∨ n = 37 ∨ n = 38 ∨ n = 39 ∨ n = 40 ∨ n = 41 ∨ n = 42 ∨ n = 43 ∨ n = 44 ∨ n = 45 ∨ n = 46 ∨ n = 47 by omega) with rfl | rfl | rfl | rfl | rfl | rfl | rfl | rfl | rfl | rfl | rfl | rfl
  · have h_36 := hP 0 _ rfl
    show va_at (dC, dI) vwCl (A 36, en (dC, dI, A, KK, b, t, oS0) A (m0 g3 g4 g8 g27 g113 g114 g166) 36) H
    exact (by rw [en_arr (dC, dI, A, KK, b, t, oS0) A (m0 g3 g4 g8 g27 g113 g114 g166) (a := 36) (t := 2) rfl]; exact at_arr h_36 f_36 rfl)
  · have h_37 := hP 1 _ rfl
    show va_at (dC, dI) vwCl (A 37, en (dC, dI, A, KK, b, t, oS0) A (m0 g3 g4 g8 g27 g113 g114 g166) 37) H
    exact (by rw [en_obj (dC, dI, A, KK, b, t, oS0) A (m0 g3 g4 g8 g27 g113 g114 g166) (a := 37) (ci := 8) rfl (by decide)]; exact h_37)
  · have h_38 := hP 2 _ rfl
    show va_at (dC, dI) vwCl (A 38, en (dC, dI, A, KK, b, t, oS0) A (m0 g3 g4 g8 g27 g113 g114 g166) 38) H
    exact (by rw [en_arr (dC, dI, A, KK, b, t, oS0) A (m0 g3 g4 g8 g27 g113 g114 g166) (a := 38) (t := 0) rfl]; exact at_arr h_38 f_38 rfl)
  · have h_39 := hP 3 _ rfl
    show va_at (dC, dI) vwCl (A 39, en (dC, dI, A, KK, b, t, oS0) A (m0 g3 g4 g8 g27 g113 g114 g166) 39) H
    exact (by rw [en_arr (dC, dI, A, KK, b, t, oS0) A (m0 g3 g4 g8 g27 g113 g114 g166) (a := 39) (t := 1) rfl]; exact at_arr h_39 f_39 rfl)
  · have h_40 := hP 4 _ rfl
    show va_at (dC, dI) vwCl (A 40, en (dC, dI, A, KK, b, t, oS0) A (m0 g3 g4 g8 g27 g113 g114 g166) 40) H
    exact (by rw [en_arr (dC, dI, A, KK, b, t, oS0) A (m0 g3 g4 g8 g27 g113 g114 g166) (a := 40) (t := 2) rfl]; exact at_arr h_40 f_40 rfl)
  · have h_41 := hP 5 _ rfl
    show va_at (dC, dI) vwCl (A 41, en (dC, dI, A, KK, b, t, oS0) A (m0 g3 g4 g8 g27 g113 g114 g166) 41) H
    exact (by rw [en_obj (dC, dI, A, KK, b, t, oS0) A (m0 g3 g4 g8 g27 g113 g114 g166) (a := 41) (ci := 8) rfl (by decide)]; exact h_41)
  · have h_42 := hP 6 _ rfl
    show va_at (dC, dI) vwCl (A 42, en (dC, dI, A, KK, b, t, oS0) A (m0 g3 g4 g8 g27 g113 g114 g166) 42) H
    exact (by rw [en_arr (dC, dI, A, KK, b, t, oS0) A (m0 g3 g4 g8 g27 g113 g114 g166) (a := 42) (t := 0) rfl]; exact at_arr h_42 f_42 rfl)
  · have h_43 := hP 7 _ rfl
    show va_at (dC, dI) vwCl (A 43, en (dC, dI, A, KK, b, t, oS0) A (m0 g3 g4 g8 g27 g113 g114 g166) 43) H
    exact (by rw [en_arr (dC, dI, A, KK, b, t, oS0) A (m0 g3 g4 g8 g27 g113 g114 g166) (a := 43) (t := 1) rfl]; exact at_arr h_43 f_43 rfl)
  · have h_44 := hP 8 _ rfl
    show va_at (dC, dI) vwCl (A 44, en (dC, dI, A, KK, b, t, oS0) A (m0 g3 g4 g8 g27 g113 g114 g166) 44) H
    exact (by rw [en_arr (dC, dI, A, KK, b, t, oS0) A (m0 g3 g4 g8 g27 g113 g114 g166) (a := 44) (t := 2) rfl]; exact at_arr h_44 f_44 rfl)
  · have h_45 := hP 9 _ rfl
    show va_at (dC, dI) vwCl (A 45, en (dC, dI, A, KK, b, t, oS0) A (m0 g3 g4 g8 g27 g113 g114 g166) 45) H
    exact (by rw [en_obj (dC, dI, A, KK, b, t, oS0) A (m0 g3 g4 g8 g27 g113 g114 g166) (a := 45) (ci := 1) rfl (by decide)]; exact h_45)
  · have h_46 := hP 10 _ rfl
    show va_at (dC, dI) vwCl (A 46, en (dC, dI, A, KK, b, t, oS0) A (m0 g3 g4 g8 g27 g113 g114 g166) 46) H
    exact (by rw [en_arr (dC, dI, A, KK, b, t, oS0) A (m0 g3 g4 g8 g27 g113 g114 g166) (a := 46) (t := 0) rfl]; exact at_arr h_46 f_46 rfl)
  · have h_47 := hP 11 _ rfl
    show va_at (dC, dI) vwCl (A 47, en (dC, dI, A, KK, b, t, oS0) A (m0 g3 g4 g8 g27 g113 g114 g166) 47) H
    exact (by rw [en_obj (dC, dI, A, KK, b, t, oS0) A (m0 g3 g4 g8 g27 g113 g114 g166) (a := 47) (ci := 8) rfl (by decide)]; exact h_47)
set_option maxHeartbeats 4000000 in
set_option maxRecDepth 100000 in
theorem sm_z48 {dC : Nat → ClassId} {dI : Nat → Nat → Nat} {A : Int → Nat} {KK : Nat → ClassId} {b t : Nat} {oS0 : Nat → Nat} {H : Heap} (k_48 k_49 k_50 k_51 k_53 k_54 k_55 k_56 k_57 k_58 k_59 : ClassId) (g3 : Nat → Int64) (g4 : Nat → Int32) (g8 : Nat → Int32) (g27 : Nat → Int64) (g113 : Nat → Int64) (g114 : Nat → Int32) (g166 : Nat → Int32) (f_48 : k_48 = KK 0) (f_49 : k_49 = KK 1) (f_50 : k_50 = KK 2) (f_51 : k_51 = KK 0) (f_53 : k_53 = KK 0) (f_54 : k_54 = KK 0) (f_55 : k_55 = KK 0) (f_56 : k_56 = KK 0) (f_57 : k_57 = KK 0) (f_58 : k_58 = KK 0) (f_59 : k_59 = KK 0) (hP : va_P (dC, dI) vwCl [(A 48, .inl (k_48, 32, .inl (fun _ => 0))), (A 49, .inl (k_49, 32, .inr (.inl (fun _ => 0)))), (A 50, .inl (k_50, 32, .inr (.inr (.inr (.inl (fun _ => 0)))))), (A 51, .inl (k_51, 64, .inl (fun _ => 0))), (A 52, .inr (2, [.ref (A 53), .ref (A 54), .ref (A 55), .ref (A 56), .ref (A 57), .ref (A 58), .ref (A 59), .int 0])), (A 53, .inl (k_53, 24, .inl (fun _ => 0))), (A 54, .inl (k_54, 24, .inl (fun _ => 0))), (A 55, .inl (k_55, 24, .inl (fun _ => 0))), (A 56, .inl (k_56, 24, .inl (fun _ => 0))), (A 57, .inl (k_57, 24, .inl (fun _ => 0))), (A 58, .inl (k_58, 24, .inl (fun _ => 0))), (A 59, .inl (k_59, 24, .inl (fun _ => 0)))] H) : ∀ n : Nat, 48 ≤ n → n < 60 → va_at (dC, dI) vwCl (ad (dC, dI, A, KK, b, t, oS0) A (n : Int), en (dC, dI, A, KK, b, t, oS0) A (m0 g3 g4 g8 g27 g113 g114 g166) (n : Int)) H := by
  intro n n1 n2
  have ea : ad (dC, dI, A, KK, b, t, oS0) A n = A n := by unfold ad; cases RZ n <;> rfl
  rw [ea]
  rcases (show n = 48 ∨ n = 49 ∨ n = 50 ∨ n = 51 ∨ n = 52 ∨ n = 53 ∨ n = 54 ∨ n = 55 ∨ n = 56 ∨ n = 57 ∨ n = 58 ∨ n = 59 by omega) with rfl | rfl | rfl | rfl | rfl | rfl | rfl | rfl | rfl | rfl | rfl | rfl
  · have h_48 := hP 0 _ rfl
    show va_at (dC, dI) vwCl (A 48, en (dC, dI, A, KK, b, t, oS0) A (m0 g3 g4 g8 g27 g113 g114 g166) 48) H
    exact (by rw [en_arr (dC, dI, A, KK, b, t, oS0) A (m0 g3 g4 g8 g27 g113 g114 g166) (a := 48) (t := 0) rfl]; exact at_arr h_48 f_48 rfl)
  · have h_49 := hP 1 _ rfl
    show va_at (dC, dI) vwCl (A 49, en (dC, dI, A, KK, b, t, oS0) A (m0 g3 g4 g8 g27 g113 g114 g166) 49) H
    exact (by rw [en_arr (dC, dI, A, KK, b, t, oS0) A (m0 g3 g4 g8 g27 g113 g114 g166) (a := 49) (t := 1) rfl]; exact at_arr h_49 f_49 rfl)
  · have h_50 := hP 2 _ rfl
    show va_at (dC, dI) vwCl (A 50, en (dC, dI, A, KK, b, t, oS0) A (m0 g3 g4 g8 g27 g113 g114 g166) 50) H
    exact (by rw [en_arr (dC, dI, A, KK, b, t, oS0) A (m0 g3 g4 g8 g27 g113 g114 g166) (a := 50) (t := 2) rfl]; exact at_arr h_50 f_50 rfl)
  · have h_51 := hP 3 _ rfl
    show va_at (dC, dI) vwCl (A 51, en (dC, dI, A, KK, b, t, oS0) A (m0 g3 g4 g8 g27 g113 g114 g166) 51) H
    exact (by rw [en_arr (dC, dI, A, KK, b, t, oS0) A (m0 g3 g4 g8 g27 g113 g114 g166) (a := 51) (t := 0) rfl]; exact at_arr h_51 f_51 rfl)
  · have h_52 := hP 4 _ rfl
    show va_at (dC, dI) vwCl (A 52, en (dC, dI, A, KK, b, t, oS0) A (m0 g3 g4 g8 g27 g113 g114 g166) 52) H
    exact (by rw [en_obj (dC, dI, A, KK, b, t, oS0) A (m0 g3 g4 g8 g27 g113 g114 g166) (a := 52) (ci := 2) rfl (by decide)]; exact h_52)
  · have h_53 := hP 5 _ rfl
    show va_at (dC, dI) vwCl (A 53, en (dC, dI, A, KK, b, t, oS0) A (m0 g3 g4 g8 g27 g113 g114 g166) 53) H
    exact (by rw [en_arr (dC, dI, A, KK, b, t, oS0) A (m0 g3 g4 g8 g27 g113 g114 g166) (a := 53) (t := 0) rfl]; exact at_arr h_53 f_53 rfl)
  · have h_54 := hP 6 _ rfl
    show va_at (dC, dI) vwCl (A 54, en (dC, dI, A, KK, b, t, oS0) A (m0 g3 g4 g8 g27 g113 g114 g166) 54) H
    exact (by rw [en_arr (dC, dI, A, KK, b, t, oS0) A (m0 g3 g4 g8 g27 g113 g114 g166) (a := 54) (t := 0) rfl]; exact at_arr h_54 f_54 rfl)
  · have h_55 := hP 7 _ rfl
    show va_at (dC, dI) vwCl (A 55, en (dC, dI, A, KK, b, t, oS0) A (m0 g3 g4 g8 g27 g113 g114 g166) 55) H
    exact (by rw [en_arr (dC, dI, A, KK, b, t, oS0) A (m0 g3 g4 g8 g27 g113 g114 g166) (a := 55) (t := 0) rfl]; exact at_arr h_55 f_55 rfl)
  · have h_56 := hP 8 _ rfl
    show va_at (dC, dI) vwCl (A 56, en (dC, dI, A, KK, b, t, oS0) A (m0 g3 g4 g8 g27 g113 g114 g166) 56) H
    exact (by rw [en_arr (dC, dI, A, KK, b, t, oS0) A (m0 g3 g4 g8 g27 g113 g114 g166) (a := 56) (t := 0) rfl]; exact at_arr h_56 f_56 rfl)
  · have h_57 := hP 9 _ rfl
    show va_at (dC, dI) vwCl (A 57, en (dC, dI, A, KK, b, t, oS0) A (m0 g3 g4 g8 g27 g113 g114 g166) 57) H
    exact (by rw [en_arr (dC, dI, A, KK, b, t, oS0) A (m0 g3 g4 g8 g27 g113 g114 g166) (a := 57) (t := 0) rfl]; exact at_arr h_57 f_57 rfl)
  · have h_58 := hP 10 _ rfl
    show va_at (dC, dI) vwCl (A 58, en (dC, dI, A, KK, b, t, oS0) A (m0 g3 g4 g8 g27 g113 g114 g166) 58) H
    exact (by rw [en_arr (dC, dI, A, KK, b, t, oS0) A (m0 g3 g4 g8 g27 g113 g114 g166) (a := 58) (t := 0) rfl]; exact at_arr h_58 f_58 rfl)
  · have h_59 := hP 11 _ rfl
    show va_at (dC, dI) vwCl (A 59, en (dC, dI, A, KK, b, t, oS0) A (m0 g3 g4 g8 g27 g113 g114 g166) 59) H
    exact (by rw [en_arr (dC, dI, A, KK, b, t, oS0) A (m0 g3 g4 g8 g27 g113 g114 g166) (a := 59) (t := 0) rfl]; exact at_arr h_59 f_59 rfl)
set_option maxHeartbeats 4000000 in
set_option maxRecDepth 100000 in
theorem sm_z60 {dC : Nat → ClassId} {dI : Nat → Nat → Nat} {A : Int → Nat} {KK : Nat → ClassId} {b t : Nat} {oS0 : Nat → Nat} {H : Heap} (k_61 k_62 k_63 k_64 k_65 k_67 k_68 k_69 k_70 : ClassId) (g3 : Nat → Int64) (g4 : Nat → Int32) (g8 : Nat → Int32) (g27 : Nat → Int64) (g113 : Nat → Int64) (g114 : Nat → Int32) (g166 : Nat → Int32) (f_61 : k_61 = KK 0) (f_62 : k_62 = KK 0) (f_63 : k_63 = KK 0) (f_64 : k_64 = KK 0) (f_65 : k_65 = KK 0) (f_67 : k_67 = KK 0) (f_68 : k_68 = KK 1) (f_69 : k_69 = KK 2) (f_70 : k_70 = KK 0) (hP : va_P (dC, dI) vwCl [(A 60, .inr (3, [.ref (A 61), .ref (A 62), .ref (A 63), .ref (A 64), .ref (A 65), .ref (A 66), .int 0])), (A 61, .inl (k_61, 400, .inl (fun _ => 0))), (A 62, .inl (k_62, 400, .inl (fun _ => 0))), (A 63, .inl (k_63, 400, .inl (fun _ => 0))), (A 64, .inl (k_64, 400, .inl (fun _ => 0))), (A 65, .inl (k_65, 400, .inl (fun _ => 0))), (A 66, .inr (8, [.ref (A 67), .ref (A 68), .ref (A 69), .int 0])), (A 67, .inl (k_67, 16, .inl (fun _ => 0))), (A 68, .inl (k_68, 16, .inr (.inl (fun _ => 0)))), (A 69, .inl (k_69, 16, .inr (.inr (.inr (.inl (fun _ => 0)))))), (A 70, .inl (k_70, 10, .inl (fun _ => 0))), (A 71, .inr (7, [.ref (A 72), .int 0, .ref (A 73), .ref (A 77), .ref (A 78), .ref (A 79), .ref (A 80), .int 0]))] H) : ∀ n : Nat, 60 ≤ n → n < 72 → va_at (dC, dI) vwCl (ad (dC, dI, A, KK, b, t, oS0) A (n : Int), en (dC, dI, A, KK, b, t, oS0) A (m0 g3 g4 g8 g27 g113 g114 g166) (n : Int)) H := by
  intro n n1 n2
  have ea : ad (dC, dI, A, KK, b, t, oS0) A n = A n := by unfold ad; cases RZ n <;> rfl
  rw [ea]
  rcases (show n = 60 ∨ n = 61 ∨ n = 62 ∨ n = 63 ∨ n = 64 ∨ n = 65 ∨ n = 66 ∨ n = 67 ∨ n = 68 ∨ n = 69 ∨ n = 70 ∨ n = 71 by omega) with rfl | rfl | rfl | rfl | rfl | rfl | rfl | rfl | rfl | rfl | rfl | rfl
  · have h_60 := hP 0 _ rfl
    show va_at (dC, dI) vwCl (A 60, en (dC, dI, A, KK, b, t, oS0) A (m0 g3 g4 g8 g27 g113 g114 g166) 60) H
    exact (by rw [en_obj (dC, dI, A, KK, b, t, oS0) A (m0 g3 g4 g8 g27 g113 g114 g166) (a := 60) (ci := 3) rfl (by decide)]; exact h_60)
  · have h_61 := hP 1 _ rfl
    show va_at (dC, dI) vwCl (A 61, en (dC, dI, A, KK, b, t, oS0) A (m0 g3 g4 g8 g27 g113 g114 g166) 61) H
    exact (by rw [en_arr (dC, dI, A, KK, b, t, oS0) A (m0 g3 g4 g8 g27 g113 g114 g166) (a := 61) (t := 0) rfl]; exact at_arr h_61 f_61 rfl)
  · have h_62 := hP 2 _ rfl
    show va_at (dC, dI) vwCl (A 62, en (dC, dI, A, KK, b, t, oS0) A (m0 g3 g4 g8 g27 g113 g114 g166) 62) H
    exact (by rw [en_arr (dC, dI, A, KK, b, t, oS0) A (m0 g3 g4 g8 g27 g113 g114 g166) (a := 62) (t := 0) rfl]; exact at_arr h_62 f_62 rfl)
  · have h_63 := hP 3 _ rfl
    show va_at (dC, dI) vwCl (A 63, en (dC, dI, A, KK, b, t, oS0) A (m0 g3 g4 g8 g27 g113 g114 g166) 63) H
    exact (by rw [en_arr (dC, dI, A, KK, b, t, oS0) A (m0 g3 g4 g8 g27 g113 g114 g166) (a := 63) (t := 0) rfl]; exact at_arr h_63 f_63 rfl)
  · have h_64 := hP 4 _ rfl
    show va_at (dC, dI) vwCl (A 64, en (dC, dI, A, KK, b, t, oS0) A (m0 g3 g4 g8 g27 g113 g114 g166) 64) H
    exact (by rw [en_arr (dC, dI, A, KK, b, t, oS0) A (m0 g3 g4 g8 g27 g113 g114 g166) (a := 64) (t := 0) rfl]; exact at_arr h_64 f_64 rfl)
  · have h_65 := hP 5 _ rfl
    show va_at (dC, dI) vwCl (A 65, en (dC, dI, A, KK, b, t, oS0) A (m0 g3 g4 g8 g27 g113 g114 g166) 65) H
    exact (by rw [en_arr (dC, dI, A, KK, b, t, oS0) A (m0 g3 g4 g8 g27 g113 g114 g166) (a := 65) (t := 0) rfl]; exact at_arr h_65 f_65 rfl)
  · have h_66 := hP 6 _ rfl
    show va_at (dC, dI) vwCl (A 66, en (dC, dI, A, KK, b, t, oS0) A (m0 g3 g4 g8 g27 g113 g114 g166) 66) H
    exact (by rw [en_obj (dC, dI, A, KK, b, t, oS0) A (m0 g3 g4 g8 g27 g113 g114 g166) (a := 66) (ci := 8) rfl (by decide)]; exact h_66)
  · have h_67 := hP 7 _ rfl
    show va_at (dC, dI) vwCl (A 67, en (dC, dI, A, KK, b, t, oS0) A (m0 g3 g4 g8 g27 g113 g114 g166) 67) H
    exact (by rw [en_arr (dC, dI, A, KK, b, t, oS0) A (m0 g3 g4 g8 g27 g113 g114 g166) (a := 67) (t := 0) rfl]; exact at_arr h_67 f_67 rfl)
  · have h_68 := hP 8 _ rfl
    show va_at (dC, dI) vwCl (A 68, en (dC, dI, A, KK, b, t, oS0) A (m0 g3 g4 g8 g27 g113 g114 g166) 68) H
    exact (by rw [en_arr (dC, dI, A, KK, b, t, oS0) A (m0 g3 g4 g8 g27 g113 g114 g166) (a := 68) (t := 1) rfl]; exact at_arr h_68 f_68 rfl)
  · have h_69 := hP 9 _ rfl
    show va_at (dC, dI) vwCl (A 69, en (dC, dI, A, KK, b, t, oS0) A (m0 g3 g4 g8 g27 g113 g114 g166) 69) H
    exact (by rw [en_arr (dC, dI, A, KK, b, t, oS0) A (m0 g3 g4 g8 g27 g113 g114 g166) (a := 69) (t := 2) rfl]; exact at_arr h_69 f_69 rfl)
  · have h_70 := hP 10 _ rfl
    show va_at (dC, dI) vwCl (A 70, en (dC, dI, A, KK, b, t, oS0) A (m0 g3 g4 g8 g27 g113 g114 g166) 70) H
    exact (by rw [en_arr (dC, dI, A, KK, b, t, oS0) A (m0 g3 g4 g8 g27 g113 g114 g166) (a := 70) (t := 0) rfl]; exact at_arr h_70 f_70 rfl)
  · have h_71 := hP 11 _ rfl
    show va_at (dC, dI) vwCl (A 71, en (dC, dI, A, KK, b, t, oS0) A (m0 g3 g4 g8 g27 g113 g114 g166) 71) H
    exact (by rw [en_obj (dC, dI, A, KK, b, t, oS0) A (m0 g3 g4 g8 g27 g113 g114 g166) (a := 71) (ci := 7) rfl (by decide)]; exact h_71)
set_option maxHeartbeats 4000000 in
set_option maxRecDepth 100000 in
theorem sm_z72 {dC : Nat → ClassId} {dI : Nat → Nat → Nat} {A : Int → Nat} {KK : Nat → ClassId} {b t : Nat} {oS0 : Nat → Nat} {H : Heap} (k_72 k_74 k_75 k_76 k_77 k_78 k_79 k_80 k_82 : ClassId) (g3 : Nat → Int64) (g4 : Nat → Int32) (g8 : Nat → Int32) (g27 : Nat → Int64) (g113 : Nat → Int64) (g114 : Nat → Int32) (g166 : Nat → Int32) (f_72 : k_72 = KK 0) (f_74 : k_74 = KK 0) (f_75 : k_75 = KK 1) (f_76 : k_76 = KK 2) (f_77 : k_77 = KK 1) (f_78 : k_78 = KK 0) (f_79 : k_79 = KK 0) (f_80 : k_80 = KK 0) (f_82 : k_82 = KK 0) (hP : va_P (dC, dI) vwCl [(A 72, .inl (k_72, 1024, .inl (fun _ => 0))), (A 73, .inr (8, [.ref (A 74), .ref (A 75), .ref (A 76), .int 0])), (A 74, .inl (k_74, 32, .inl (fun _ => 0))), (A 75, .inl (k_75, 32, .inr (.inl (fun _ => 0)))), (A 76, .inl (k_76, 32, .inr (.inr (.inr (.inl (fun _ => 0)))))), (A 77, .inl (k_77, 40, .inr (.inl (fun _ => 0)))), (A 78, .inl (k_78, 40, .inl (fun _ => 0))), (A 79, .inl (k_79, 40, .inl (fun _ => 0))), (A 80, .inl (k_80, 40, .inl (fun _ => 0))), (A 81, .inr (7, [.ref (A 82), .int 0, .ref (A 83), .ref (A 87), .ref (A 88), .ref (A 89), .ref (A 90), .int 0])), (A 82, .inl (k_82, 1024, .inl (fun _ => 0))), (A 83, .inr (8, [.ref (A 84), .ref (A 85), .ref (A 86), .int 0]))] H) : ∀ n : Nat, 72 ≤ n → n < 84 → va_at (dC, dI) vwCl (ad (dC, dI, A, KK, b, t, oS0) A (n : Int), en (dC, dI, A, KK, b, t, oS0) A (m0 g3 g4 g8 g27 g113 g114 g166) (n : Int)) H := by
  intro n n1 n2
  have ea : ad (dC, dI, A, KK, b, t, oS0) A n = A n := by unfold ad; cases RZ n <;> rfl
  rw [ea]
  rcases (show n = 72 ∨ n = 73 ∨ n = 74 ∨ n = 75 ∨ n = 76 ∨ n = 77 ∨ n = 78 ∨ n = 79 ∨ n = 80 ∨ n = 81 ∨ n = 82 ∨ n = 83 by omega) with rfl | rfl | rfl | rfl | rfl | rfl | rfl | rfl | rfl | rfl | rfl | rfl
  · have h_72 := hP 0 _ rfl
    show va_at (dC, dI) vwCl (A 72, en (dC, dI, A, KK, b, t, oS0) A (m0 g3 g4 g8 g27 g113 g114 g166) 72) H
    exact (by rw [en_arr (dC, dI, A, KK, b, t, oS0) A (m0 g3 g4 g8 g27 g113 g114 g166) (a := 72) (t := 0) rfl]; exact at_arr h_72 f_72 rfl)
  · have h_73 := hP 1 _ rfl
    show va_at (dC, dI) vwCl (A 73, en (dC, dI, A, KK, b, t, oS0) A (m0 g3 g4 g8 g27 g113 g114 g166) 73) H
    exact (by rw [en_obj (dC, dI, A, KK, b, t, oS0) A (m0 g3 g4 g8 g27 g113 g114 g166) (a := 73) (ci := 8) rfl (by decide)]; exact h_73)
  · have h_74 := hP 2 _ rfl
    show va_at (dC, dI) vwCl (A 74, en (dC, dI, A, KK, b, t, oS0) A (m0 g3 g4 g8 g27 g113 g114 g166) 74) H
    exact (by rw [en_arr (dC, dI, A, KK, b, t, oS0) A (m0 g3 g4 g8 g27 g113 g114 g166) (a := 74) (t := 0) rfl]; exact at_arr h_74 f_74 rfl)
  · have h_75 := hP 3 _ rfl
    show va_at (dC, dI) vwCl (A 75, en (dC, dI, A, KK, b, t, oS0) A (m0 g3 g4 g8 g27 g113 g114 g166) 75) H
    exact (by rw [en_arr (dC, dI, A, KK, b, t, oS0) A (m0 g3 g4 g8 g27 g113 g114 g166) (a := 75) (t := 1) rfl]; exact at_arr h_75 f_75 rfl)
  · have h_76 := hP 4 _ rfl
    show va_at (dC, dI) vwCl (A 76, en (dC, dI, A, KK, b, t, oS0) A (m0 g3 g4 g8 g27 g113 g114 g166) 76) H
    exact (by rw [en_arr (dC, dI, A, KK, b, t, oS0) A (m0 g3 g4 g8 g27 g113 g114 g166) (a := 76) (t := 2) rfl]; exact at_arr h_76 f_76 rfl)
  · have h_77 := hP 5 _ rfl
    show va_at (dC, dI) vwCl (A 77, en (dC, dI, A, KK, b, t, oS0) A (m0 g3 g4 g8 g27 g113 g114 g166) 77) H
    exact (by rw [en_arr (dC, dI, A, KK, b, t, oS0) A (m0 g3 g4 g8 g27 g113 g114 g166) (a := 77) (t := 1) rfl]; exact at_arr h_77 f_77 rfl)
  · have h_78 := hP 6 _ rfl
    show va_at (dC, dI) vwCl (A 78, en (dC, dI, A, KK, b, t, oS0) A (m0 g3 g4 g8 g27 g113 g114 g166) 78) H
    exact (by rw [en_arr (dC, dI, A, KK, b, t, oS0) A (m0 g3 g4 g8 g27 g113 g114 g166) (a := 78) (t := 0) rfl]; exact at_arr h_78 f_78 rfl)
  · have h_79 := hP 7 _ rfl
    show va_at (dC, dI) vwCl (A 79, en (dC, dI, A, KK, b, t, oS0) A (m0 g3 g4 g8 g27 g113 g114 g166) 79) H
    exact (by rw [en_arr (dC, dI, A, KK, b, t, oS0) A (m0 g3 g4 g8 g27 g113 g114 g166) (a := 79) (t := 0) rfl]; exact at_arr h_79 f_79 rfl)
  · have h_80 := hP 8 _ rfl
    show va_at (dC, dI) vwCl (A 80, en (dC, dI, A, KK, b, t, oS0) A (m0 g3 g4 g8 g27 g113 g114 g166) 80) H
    exact (by rw [en_arr (dC, dI, A, KK, b, t, oS0) A (m0 g3 g4 g8 g27 g113 g114 g166) (a := 80) (t := 0) rfl]; exact at_arr h_80 f_80 rfl)
  · have h_81 := hP 9 _ rfl
    show va_at (dC, dI) vwCl (A 81, en (dC, dI, A, KK, b, t, oS0) A (m0 g3 g4 g8 g27 g113 g114 g166) 81) H
    exact (by rw [en_obj (dC, dI, A, KK, b, t, oS0) A (m0 g3 g4 g8 g27 g113 g114 g166) (a := 81) (ci := 7) rfl (by decide)]; exact h_81)
  · have h_82 := hP 10 _ rfl
    show va_at (dC, dI) vwCl (A 82, en (dC, dI, A, KK, b, t, oS0) A (m0 g3 g4 g8 g27 g113 g114 g166) 82) H
    exact (by rw [en_arr (dC, dI, A, KK, b, t, oS0) A (m0 g3 g4 g8 g27 g113 g114 g166) (a := 82) (t := 0) rfl]; exact at_arr h_82 f_82 rfl)
  · have h_83 := hP 11 _ rfl
    show va_at (dC, dI) vwCl (A 83, en (dC, dI, A, KK, b, t, oS0) A (m0 g3 g4 g8 g27 g113 g114 g166) 83) H
    exact (by rw [en_obj (dC, dI, A, KK, b, t, oS0) A (m0 g3 g4 g8 g27 g113 g114 g166) (a := 83) (ci := 8) rfl (by decide)]; exact h_83)
set_option maxHeartbeats 4000000 in
set_option maxRecDepth 100000 in
theorem sm_z84 {dC : Nat → ClassId} {dI : Nat → Nat → Nat} {A : Int → Nat} {KK : Nat → ClassId} {b t : Nat} {oS0 : Nat → Nat} {H : Heap} (k_84 k_85 k_86 k_87 k_88 k_89 k_90 k_92 k_94 k_95 : ClassId) (g3 : Nat → Int64) (g4 : Nat → Int32) (g8 : Nat → Int32) (g27 : Nat → Int64) (g113 : Nat → Int64) (g114 : Nat → Int32) (g166 : Nat → Int32) (f_84 : k_84 = KK 0) (f_85 : k_85 = KK 1) (f_86 : k_86 = KK 2) (f_87 : k_87 = KK 1) (f_88 : k_88 = KK 0) (f_89 : k_89 = KK 0) (f_90 : k_90 = KK 0) (f_92 : k_92 = KK 0) (f_94 : k_94 = KK 0) (f_95 : k_95 = KK 1) (hP : va_P (dC, dI) vwCl [(A 84, .inl (k_84, 32, .inl (fun _ => 0))), (A 85, .inl (k_85, 32, .inr (.inl (fun _ => 0)))), (A 86, .inl (k_86, 32, .inr (.inr (.inr (.inl (fun _ => 0)))))), (A 87, .inl (k_87, 40, .inr (.inl (fun _ => 0)))), (A 88, .inl (k_88, 40, .inl (fun _ => 0))), (A 89, .inl (k_89, 40, .inl (fun _ => 0))), (A 90, .inl (k_90, 40, .inl (fun _ => 0))), (A 91, .inr (7, [.ref (A 92), .int 0, .ref (A 93), .ref (A 97), .ref (A 98), .ref (A 99), .ref (A 100), .int 0])), (A 92, .inl (k_92, 1024, .inl (fun _ => 0))), (A 93, .inr (8, [.ref (A 94), .ref (A 95), .ref (A 96), .int 0])), (A 94, .inl (k_94, 32, .inl (fun _ => 0))), (A 95, .inl (k_95, 32, .inr (.inl (fun _ => 0))))] H) : ∀ n : Nat, 84 ≤ n → n < 96 → va_at (dC, dI) vwCl (ad (dC, dI, A, KK, b, t, oS0) A (n : Int), en (dC, dI, A, KK, b, t, oS0) A (m0 g3 g4 g8 g27 g113 g114 g166) (n : Int)) H := by
  intro n n1 n2
  have ea : ad (dC, dI, A, KK, b, t, oS0) A n = A n := by unfold ad; cases RZ n <;> rfl
  rw [ea]
  rcases (show n = 84 ∨ n = 85 ∨ n = 86 ∨ n = 87 ∨ n = 88 ∨ n = 89 ∨ n = 90 ∨ n = 91 ∨ n = 92 ∨ n = 93 ∨ n = 94 ∨ n = 95 by omega) with rfl | rfl | rfl | rfl | rfl | rfl | rfl | rfl | rfl | rfl | rfl | rfl
  · have h_84 := hP 0 _ rfl
    show va_at (dC, dI) vwCl (A 84, en (dC, dI, A, KK, b, t, oS0) A (m0 g3 g4 g8 g27 g113 g114 g166) 84) H
    exact (by rw [en_arr (dC, dI, A, KK, b, t, oS0) A (m0 g3 g4 g8 g27 g113 g114 g166) (a := 84) (t := 0) rfl]; exact at_arr h_84 f_84 rfl)
  · have h_85 := hP 1 _ rfl
    show va_at (dC, dI) vwCl (A 85, en (dC, dI, A, KK, b, t, oS0) A (m0 g3 g4 g8 g27 g113 g114 g166) 85) H
    exact (by rw [en_arr (dC, dI, A, KK, b, t, oS0) A (m0 g3 g4 g8 g27 g113 g114 g166) (a := 85) (t := 1) rfl]; exact at_arr h_85 f_85 rfl)
  · have h_86 := hP 2 _ rfl
    show va_at (dC, dI) vwCl (A 86, en (dC, dI, A, KK, b, t, oS0) A (m0 g3 g4 g8 g27 g113 g114 g166) 86) H
    exact (by rw [en_arr (dC, dI, A, KK, b, t, oS0) A (m0 g3 g4 g8 g27 g113 g114 g166) (a := 86) (t := 2) rfl]; exact at_arr h_86 f_86 rfl)
  · have h_87 := hP 3 _ rfl
    show va_at (dC, dI) vwCl (A 87, en (dC, dI, A, KK, b, t, oS0) A (m0 g3 g4 g8 g27 g113 g114 g166) 87) H
    exact (by rw [en_arr (dC, dI, A, KK, b, t, oS0) A (m0 g3 g4 g8 g27 g113 g114 g166) (a := 87) (t := 1) rfl]; exact at_arr h_87 f_87 rfl)
  · have h_88 := hP 4 _ rfl
    show va_at (dC, dI) vwCl (A 88, en (dC, dI, A, KK, b, t, oS0) A (m0 g3 g4 g8 g27 g113 g114 g166) 88) H
    exact (by rw [en_arr (dC, dI, A, KK, b, t, oS0) A (m0 g3 g4 g8 g27 g113 g114 g166) (a := 88) (t := 0) rfl]; exact at_arr h_88 f_88 rfl)
  · have h_89 := hP 5 _ rfl
    show va_at (dC, dI) vwCl (A 89, en (dC, dI, A, KK, b, t, oS0) A (m0 g3 g4 g8 g27 g113 g114 g166) 89) H
    exact (by rw [en_arr (dC, dI, A, KK, b, t, oS0) A (m0 g3 g4 g8 g27 g113 g114 g166) (a := 89) (t := 0) rfl]; exact at_arr h_89 f_89 rfl)
  · have h_90 := hP 6 _ rfl
    show va_at (dC, dI) vwCl (A 90, en (dC, dI, A, KK, b, t, oS0) A (m0 g3 g4 g8 g27 g113 g114 g166) 90) H
    exact (by rw [en_arr (dC, dI, A, KK, b, t, oS0) A (m0 g3 g4 g8 g27 g113 g114 g166) (a := 90) (t := 0) rfl]; exact at_arr h_90 f_90 rfl)
  · have h_91 := hP 7 _ rfl
    show va_at (dC, dI) vwCl (A 91, en (dC, dI, A, KK, b, t, oS0) A (m0 g3 g4 g8 g27 g113 g114 g166) 91) H
    exact (by rw [en_obj (dC, dI, A, KK, b, t, oS0) A (m0 g3 g4 g8 g27 g113 g114 g166) (a := 91) (ci := 7) rfl (by decide)]; exact h_91)
  · have h_92 := hP 8 _ rfl
    show va_at (dC, dI) vwCl (A 92, en (dC, dI, A, KK, b, t, oS0) A (m0 g3 g4 g8 g27 g113 g114 g166) 92) H
    exact (by rw [en_arr (dC, dI, A, KK, b, t, oS0) A (m0 g3 g4 g8 g27 g113 g114 g166) (a := 92) (t := 0) rfl]; exact at_arr h_92 f_92 rfl)
  · have h_93 := hP 9 _ rfl
    show va_at (dC, dI) vwCl (A 93, en (dC, dI, A, KK, b, t, oS0) A (m0 g3 g4 g8 g27 g113 g114 g166) 93) H
    exact (by rw [en_obj (dC, dI, A, KK, b, t, oS0) A (m0 g3 g4 g8 g27 g113 g114 g166) (a := 93) (ci := 8) rfl (by decide)]; exact h_93)
  · have h_94 := hP 10 _ rfl
    show va_at (dC, dI) vwCl (A 94, en (dC, dI, A, KK, b, t, oS0) A (m0 g3 g4 g8 g27 g113 g114 g166) 94) H
    exact (by rw [en_arr (dC, dI, A, KK, b, t, oS0) A (m0 g3 g4 g8 g27 g113 g114 g166) (a := 94) (t := 0) rfl]; exact at_arr h_94 f_94 rfl)
  · have h_95 := hP 11 _ rfl
    show va_at (dC, dI) vwCl (A 95, en (dC, dI, A, KK, b, t, oS0) A (m0 g3 g4 g8 g27 g113 g114 g166) 95) H
    exact (by rw [en_arr (dC, dI, A, KK, b, t, oS0) A (m0 g3 g4 g8 g27 g113 g114 g166) (a := 95) (t := 1) rfl]; exact at_arr h_95 f_95 rfl)
set_option maxHeartbeats 4000000 in
set_option maxRecDepth 100000 in
theorem sm_z96 {dC : Nat → ClassId} {dI : Nat → Nat → Nat} {A : Int → Nat} {KK : Nat → ClassId} {b t : Nat} {oS0 : Nat → Nat} {H : Heap} (k_96 k_97 k_98 k_99 k_100 k_102 k_104 k_105 k_106 k_107 : ClassId) (g3 : Nat → Int64) (g4 : Nat → Int32) (g8 : Nat → Int32) (g27 : Nat → Int64) (g113 : Nat → Int64) (g114 : Nat → Int32) (g166 : Nat → Int32) (f_96 : k_96 = KK 2) (f_97 : k_97 = KK 1) (f_98 : k_98 = KK 0) (f_99 : k_99 = KK 0) (f_100 : k_100 = KK 0) (f_102 : k_102 = KK 0) (f_104 : k_104 = KK 0) (f_105 : k_105 = KK 1) (f_106 : k_106 = KK 2) (f_107 : k_107 = KK 1) (hP : va_P (dC, dI) vwCl [(A 96, .inl (k_96, 32, .inr (.inr (.inr (.inl (fun _ => 0)))))), (A 97, .inl (k_97, 40, .inr (.inl (fun _ => 0)))), (A 98, .inl (k_98, 40, .inl (fun _ => 0))), (A 99, .inl (k_99, 40, .inl (fun _ => 0))), (A 100, .inl (k_100, 40, .inl (fun _ => 0))), (A 101, .inr (7, [.ref (A 102), .int 0, .ref (A 103), .ref (A 107), .ref (A 108), .ref (A 109), .ref (A 110), .int 0])), (A 102, .inl (k_102, 1024, .inl (fun _ => 0))), (A 103, .inr (8, [.ref (A 104), .ref (A 105), .ref (A 106), .int 0])), (A 104, .inl (k_104, 32, .inl (fun _ => 0))), (A 105, .inl (k_105, 32, .inr (.inl (fun _ => 0)))), (A 106, .inl (k_106, 32, .inr (.inr (.inr (.inl (fun _ => 0)))))), (A 107, .inl (k_107, 40, .inr (.inl (fun _ => 0))))] H) : ∀ n : Nat, 96 ≤ n → n < 108 → va_at (dC, dI) vwCl (ad (dC, dI, A, KK, b, t, oS0) A (n : Int), en (dC, dI, A, KK, b, t, oS0) A (m0 g3 g4 g8 g27 g113 g114 g166) (n : Int)) H := by
  intro n n1 n2
  have ea : ad (dC, dI, A, KK, b, t, oS0) A n = A n := by unfold ad; cases RZ n <;> rfl
  rw [ea]
  rcases (show n = 96 ∨ n = 97 ∨ n = 98 ∨ n = 99 ∨ n = 100 ∨ n = 101 ∨ n = 102 ∨ n = 103 ∨ n = 104 ∨ n = 105 ∨ n = 106 ∨ n = 107 by omega) with rfl | rfl | rfl | rfl | rfl | rfl | rfl | rfl | rfl | rfl | rfl | rfl
  · have h_96 := hP 0 _ rfl
    show va_at (dC, dI) vwCl (A 96, en (dC, dI, A, KK, b, t, oS0) A (m0 g3 g4 g8 g27 g113 g114 g166) 96) H
    exact (by rw [en_arr (dC, dI, A, KK, b, t, oS0) A (m0 g3 g4 g8 g27 g113 g114 g166) (a := 96) (t := 2) rfl]; exact at_arr h_96 f_96 rfl)
  · have h_97 := hP 1 _ rfl
    show va_at (dC, dI) vwCl (A 97, en (dC, dI, A, KK, b, t, oS0) A (m0 g3 g4 g8 g27 g113 g114 g166) 97) H
    exact (by rw [en_arr (dC, dI, A, KK, b, t, oS0) A (m0 g3 g4 g8 g27 g113 g114 g166) (a := 97) (t := 1) rfl]; exact at_arr h_97 f_97 rfl)
  · have h_98 := hP 2 _ rfl
    show va_at (dC, dI) vwCl (A 98, en (dC, dI, A, KK, b, t, oS0) A (m0 g3 g4 g8 g27 g113 g114 g166) 98) H
    exact (by rw [en_arr (dC, dI, A, KK, b, t, oS0) A (m0 g3 g4 g8 g27 g113 g114 g166) (a := 98) (t := 0) rfl]; exact at_arr h_98 f_98 rfl)
  · have h_99 := hP 3 _ rfl
    show va_at (dC, dI) vwCl (A 99, en (dC, dI, A, KK, b, t, oS0) A (m0 g3 g4 g8 g27 g113 g114 g166) 99) H
    exact (by rw [en_arr (dC, dI, A, KK, b, t, oS0) A (m0 g3 g4 g8 g27 g113 g114 g166) (a := 99) (t := 0) rfl]; exact at_arr h_99 f_99 rfl)
  · have h_100 := hP 4 _ rfl
    show va_at (dC, dI) vwCl (A 100, en (dC, dI, A, KK, b, t, oS0) A (m0 g3 g4 g8 g27 g113 g114 g166) 100) H
    exact (by rw [en_arr (dC, dI, A, KK, b, t, oS0) A (m0 g3 g4 g8 g27 g113 g114 g166) (a := 100) (t := 0) rfl]; exact at_arr h_100 f_100 rfl)
  · have h_101 := hP 5 _ rfl
    show va_at (dC, dI) vwCl (A 101, en (dC, dI, A, KK, b, t, oS0) A (m0 g3 g4 g8 g27 g113 g114 g166) 101) H
    exact (by rw [en_obj (dC, dI, A, KK, b, t, oS0) A (m0 g3 g4 g8 g27 g113 g114 g166) (a := 101) (ci := 7) rfl (by decide)]; exact h_101)
  · have h_102 := hP 6 _ rfl
    show va_at (dC, dI) vwCl (A 102, en (dC, dI, A, KK, b, t, oS0) A (m0 g3 g4 g8 g27 g113 g114 g166) 102) H
    exact (by rw [en_arr (dC, dI, A, KK, b, t, oS0) A (m0 g3 g4 g8 g27 g113 g114 g166) (a := 102) (t := 0) rfl]; exact at_arr h_102 f_102 rfl)
  · have h_103 := hP 7 _ rfl
    show va_at (dC, dI) vwCl (A 103, en (dC, dI, A, KK, b, t, oS0) A (m0 g3 g4 g8 g27 g113 g114 g166) 103) H
    exact (by rw [en_obj (dC, dI, A, KK, b, t, oS0) A (m0 g3 g4 g8 g27 g113 g114 g166) (a := 103) (ci := 8) rfl (by decide)]; exact h_103)
  · have h_104 := hP 8 _ rfl
    show va_at (dC, dI) vwCl (A 104, en (dC, dI, A, KK, b, t, oS0) A (m0 g3 g4 g8 g27 g113 g114 g166) 104) H
    exact (by rw [en_arr (dC, dI, A, KK, b, t, oS0) A (m0 g3 g4 g8 g27 g113 g114 g166) (a := 104) (t := 0) rfl]; exact at_arr h_104 f_104 rfl)
  · have h_105 := hP 9 _ rfl
    show va_at (dC, dI) vwCl (A 105, en (dC, dI, A, KK, b, t, oS0) A (m0 g3 g4 g8 g27 g113 g114 g166) 105) H
    exact (by rw [en_arr (dC, dI, A, KK, b, t, oS0) A (m0 g3 g4 g8 g27 g113 g114 g166) (a := 105) (t := 1) rfl]; exact at_arr h_105 f_105 rfl)
  · have h_106 := hP 10 _ rfl
    show va_at (dC, dI) vwCl (A 106, en (dC, dI, A, KK, b, t, oS0) A (m0 g3 g4 g8 g27 g113 g114 g166) 106) H
    exact (by rw [en_arr (dC, dI, A, KK, b, t, oS0) A (m0 g3 g4 g8 g27 g113 g114 g166) (a := 106) (t := 2) rfl]; exact at_arr h_106 f_106 rfl)
  · have h_107 := hP 11 _ rfl
    show va_at (dC, dI) vwCl (A 107, en (dC, dI, A, KK, b, t, oS0) A (m0 g3 g4 g8 g27 g113 g114 g166) 107) H
    exact (by rw [en_arr (dC, dI, A, KK, b, t, oS0) A (m0 g3 g4 g8 g27 g113 g114 g166) (a := 107) (t := 1) rfl]; exact at_arr h_107 f_107 rfl)
set_option maxHeartbeats 4000000 in
set_option maxRecDepth 100000 in
theorem sm_z108 {dC : Nat → ClassId} {dI : Nat → Nat → Nat} {A : Int → Nat} {KK : Nat → ClassId} {b t : Nat} {oS0 : Nat → Nat} {H : Heap} (k_108 k_109 k_110 k_112 k_113 k_114 k_115 k_116 k_117 k_118 k_119 : ClassId) (g3 : Nat → Int64) (g4 : Nat → Int32) (g8 : Nat → Int32) (g27 : Nat → Int64) (g113 : Nat → Int64) (g114 : Nat → Int32) (g166 : Nat → Int32) (f_108 : k_108 = KK 0) (f_109 : k_109 = KK 0) (f_110 : k_110 = KK 0) (f_112 : k_112 = KK 0) (f_113 : k_113 = KK 1) (f_114 : k_114 = KK 0) (f_115 : k_115 = KK 0) (f_116 : k_116 = KK 1) (f_117 : k_117 = KK 0) (f_118 : k_118 = KK 1) (f_119 : k_119 = KK 0) (hP : va_P (dC, dI) vwCl [(A 108, .inl (k_108, 40, .inl (fun _ => 0))), (A 109, .inl (k_109, 40, .inl (fun _ => 0))), (A 110, .inl (k_110, 40, .inl (fun _ => 0))), (A 111, .inr (11, [.int 0, .ref (A 112), .int 0, .ref (A 113), .int 12, .ref (A 114), .int 0, .int 0, .int 0, .int 0, .long 0, .int 0, .long 0, .int 0, .int 0, .int 0, .int 0, .int 0, .int 0, .ref (A 115), .ref (A 116), .ref (A 117), .int 0, .ref (A 118), .ref (A 119), .ref (A 120), .ref (A 121), .ref (A 122), .ref (A 123), .int 0, .ref (A 124), .int 0, .int 0, .ref (A 125), .int 0, .int 0, .long 0, .int 0, .ref (A 126), .int 0, .int 0, .ref (A 127), .ref (A 128), .ref (A 129), .ref (A 130), .ref (A 131), .ref (A 132), .int 0, .int 0, .ref (A 133), .ref (A 134), .ref (A 135), .ref (A 136), .int 0, .ref (A 137), .ref (A 138), .ref (A 139), .ref (A 140), .ref (A 141), .ref (A 142), .ref (A 143), .int 0, .ref (A 144), .ref (A 145), .ref (A 146), .int 0, .ref (A 147), .ref (A 148), .int 0, .int 0, .ref (A 149), .ref (A 150), .ref (A 151), .ref (A 152), .ref (A 153), .ref (A 154), .ref (A 155), .ref (A 156), .ref (A 157), .ref (A 158), .ref (A 159), .int 0, .int 0, .int 0, .int 0, .int 0, .ref (A 160), .ref (A 161), .int 0, .int 0, .int 0, .int 0, .int 0, .int 0, .int 0, .int 0, .long 0, .int 0, .int 0, .long 0, .ref (A 162), .ref (A 163), .ref (A 164), .ref (A 165), .int 0, .ref (A 166)])), (A 112, .inl (k_112, 3000, .inl (fun _ => 0))), (A 113, .inl (k_113, 64, .inr (.inl g113))), (A 114, .inl (k_114, 64, .inl g114)), (A 115, .inl (k_115, 45000, .inl (fun _ => 0))), (A 116, .inl (k_116, 45000, .inr (.inl (fun _ => 0)))), (A 117, .inl (k_117, 45000, .inl (fun _ => 0))), (A 118, .inl (k_118, 200, .inr (.inl (fun _ => 0)))), (A 119, .inl (k_119, 200, .inl (fun _ => 0)))] H) : ∀ n : Nat, 108 ≤ n → n < 120 → va_at (dC, dI) vwCl (ad (dC, dI, A, KK, b, t, oS0) A (n : Int), en (dC, dI, A, KK, b, t, oS0) A (m0 g3 g4 g8 g27 g113 g114 g166) (n : Int)) H := by
  intro n n1 n2
  have ea : ad (dC, dI, A, KK, b, t, oS0) A n = A n := by unfold ad; cases RZ n <;> rfl
  rw [ea]
  rcases (show n = 108 ∨ n = 109 ∨ n = 110 ∨ n = 111 ∨ n = 112 ∨ n = 113 ∨ n = 114 ∨ n = 115 ∨ n = 116 ∨ n = 117 ∨ n = 118 ∨ n = 119 by omega) with rfl | rfl | rfl | rfl | rfl | rfl | rfl | rfl | rfl | rfl | rfl | rfl
  · have h_108 := hP 0 _ rfl
    show va_at (dC, dI) vwCl (A 108, en (dC, dI, A, KK, b, t, oS0) A (m0 g3 g4 g8 g27 g113 g114 g166) 108) H
    exact (by rw [en_arr (dC, dI, A, KK, b, t, oS0) A (m0 g3 g4 g8 g27 g113 g114 g166) (a := 108) (t := 0) rfl]; exact at_arr h_108 f_108 rfl)
  · have h_109 := hP 1 _ rfl
    show va_at (dC, dI) vwCl (A 109, en (dC, dI, A, KK, b, t, oS0) A (m0 g3 g4 g8 g27 g113 g114 g166) 109) H
    exact (by rw [en_arr (dC, dI, A, KK, b, t, oS0) A (m0 g3 g4 g8 g27 g113 g114 g166) (a := 109) (t := 0) rfl]; exact at_arr h_109 f_109 rfl)
  · have h_110 := hP 2 _ rfl
    show va_at (dC, dI) vwCl (A 110, en (dC, dI, A, KK, b, t, oS0) A (m0 g3 g4 g8 g27 g113 g114 g166) 110) H
    exact (by rw [en_arr (dC, dI, A, KK, b, t, oS0) A (m0 g3 g4 g8 g27 g113 g114 g166) (a := 110) (t := 0) rfl]; exact at_arr h_110 f_110 rfl)
  · have h_111 := hP 3 _ rfl
    show va_at (dC, dI) vwCl (A 111, en (dC, dI, A, KK, b, t, oS0) A (m0 g3 g4 g8 g27 g113 g114 g166) 111) H
    exact (by rw [en_obj (dC, dI, A, KK, b, t, oS0) A (m0 g3 g4 g8 g27 g113 g114 g166) (a := 111) (ci := 11) rfl (by decide)]; exact h_111)
  · have h_112 := hP 4 _ rfl
    show va_at (dC, dI) vwCl (A 112, en (dC, dI, A, KK, b, t, oS0) A (m0 g3 g4 g8 g27 g113 g114 g166) 112) H
    exact (by rw [en_arr (dC, dI, A, KK, b, t, oS0) A (m0 g3 g4 g8 g27 g113 g114 g166) (a := 112) (t := 0) rfl]; exact at_arr h_112 f_112 rfl)
  · have h_113 := hP 5 _ rfl
    show va_at (dC, dI) vwCl (A 113, en (dC, dI, A, KK, b, t, oS0) A (m0 g3 g4 g8 g27 g113 g114 g166) 113) H
    exact (by rw [en_arr (dC, dI, A, KK, b, t, oS0) A (m0 g3 g4 g8 g27 g113 g114 g166) (a := 113) (t := 1) rfl]; exact at_arr h_113 f_113 (by have e : (fun k : Nat => jv ((m0 g3 g4 g8 g27 g113 g114 g166).1 113 (k : Int))) = g113 := funext fun k => (by show jv (g113 ((k : Int)).toNat).toInt = g113 k; rw [Int.toNat_natCast]; exact jv_of _); exact congrArg (fun z => (((64, .inr (.inl z))) : vp_A)) e.symm))
  · have h_114 := hP 6 _ rfl
    show va_at (dC, dI) vwCl (A 114, en (dC, dI, A, KK, b, t, oS0) A (m0 g3 g4 g8 g27 g113 g114 g166) 114) H
    exact (by rw [en_arr (dC, dI, A, KK, b, t, oS0) A (m0 g3 g4 g8 g27 g113 g114 g166) (a := 114) (t := 0) rfl]; exact at_arr h_114 f_114 (by have e : (fun k : Nat => iv ((m0 g3 g4 g8 g27 g113 g114 g166).1 114 (k : Int))) = g114 := funext fun k => (by show iv (g114 ((k : Int)).toNat).toInt = g114 k; rw [Int.toNat_natCast]; exact iv_of _); exact congrArg (fun z => (((64, .inl z)) : vp_A)) e.symm))
  · have h_115 := hP 7 _ rfl
    show va_at (dC, dI) vwCl (A 115, en (dC, dI, A, KK, b, t, oS0) A (m0 g3 g4 g8 g27 g113 g114 g166) 115) H
    exact (by rw [en_arr (dC, dI, A, KK, b, t, oS0) A (m0 g3 g4 g8 g27 g113 g114 g166) (a := 115) (t := 0) rfl]; exact at_arr h_115 f_115 rfl)
  · have h_116 := hP 8 _ rfl
    show va_at (dC, dI) vwCl (A 116, en (dC, dI, A, KK, b, t, oS0) A (m0 g3 g4 g8 g27 g113 g114 g166) 116) H
    exact (by rw [en_arr (dC, dI, A, KK, b, t, oS0) A (m0 g3 g4 g8 g27 g113 g114 g166) (a := 116) (t := 1) rfl]; exact at_arr h_116 f_116 rfl)
  · have h_117 := hP 9 _ rfl
    show va_at (dC, dI) vwCl (A 117, en (dC, dI, A, KK, b, t, oS0) A (m0 g3 g4 g8 g27 g113 g114 g166) 117) H
    exact (by rw [en_arr (dC, dI, A, KK, b, t, oS0) A (m0 g3 g4 g8 g27 g113 g114 g166) (a := 117) (t := 0) rfl]; exact at_arr h_117 f_117 rfl)
  · have h_118 := hP 10 _ rfl
    show va_at (dC, dI) vwCl (A 118, en (dC, dI, A, KK, b, t, oS0) A (m0 g3 g4 g8 g27 g113 g114 g166) 118) H
    exact (by rw [en_arr (dC, dI, A, KK, b, t, oS0) A (m0 g3 g4 g8 g27 g113 g114 g166) (a := 118) (t := 1) rfl]; exact at_arr h_118 f_118 rfl)
  · have h_119 := hP 11 _ rfl
    show va_at (dC, dI) vwCl (A 119, en (dC, dI, A, KK, b, t, oS0) A (m0 g3 g4 g8 g27 g113 g114 g166) 119) H
    exact (by rw [en_arr (dC, dI, A, KK, b, t, oS0) A (m0 g3 g4 g8 g27 g113 g114 g166) (a := 119) (t := 0) rfl]; exact at_arr h_119 f_119 rfl)
set_option maxHeartbeats 4000000 in
set_option maxRecDepth 100000 in
theorem sm_z120 {dC : Nat → ClassId} {dI : Nat → Nat → Nat} {A : Int → Nat} {KK : Nat → ClassId} {b t : Nat} {oS0 : Nat → Nat} {H : Heap} (k_120 k_121 k_122 k_123 k_124 k_125 k_126 k_127 k_128 k_129 k_130 k_131 : ClassId) (g3 : Nat → Int64) (g4 : Nat → Int32) (g8 : Nat → Int32) (g27 : Nat → Int64) (g113 : Nat → Int64) (g114 : Nat → Int32) (g166 : Nat → Int32) (f_120 : k_120 = KK 0) (f_121 : k_121 = KK 0) (f_122 : k_122 = KK 0) (f_123 : k_123 = KK 0) (f_124 : k_124 = KK 1) (f_125 : k_125 = KK 0) (f_126 : k_126 = KK 0) (f_127 : k_127 = KK 0) (f_128 : k_128 = KK 0) (f_129 : k_129 = KK 0) (f_130 : k_130 = KK 0) (f_131 : k_131 = KK 0) (hP : va_P (dC, dI) vwCl [(A 120, .inl (k_120, 200, .inl (fun _ => 0))), (A 121, .inl (k_121, 200, .inl (fun _ => 0))), (A 122, .inl (k_122, 5, .inl (fun _ => 0))), (A 123, .inl (k_123, 64, .inl (fun _ => 0))), (A 124, .inl (k_124, 320, .inr (.inl (fun _ => 0)))), (A 125, .inl (k_125, 700, .inl (fun _ => 0))), (A 126, .inl (k_126, 12000, .inl (fun _ => 0))), (A 127, .inl (k_127, 26, .inl (fun _ => 0))), (A 128, .inl (k_128, 26, .inl (fun _ => 0))), (A 129, .inl (k_129, 26, .inl (fun _ => 0))), (A 130, .inl (k_130, 26, .inl (fun _ => 0))), (A 131, .inl (k_131, 26, .inl (fun _ => 0)))] H) : ∀ n : Nat, 120 ≤ n → n < 132 → va_at (dC, dI) vwCl (ad (dC, dI, A, KK, b, t, oS0) A (n : Int), en (dC, dI, A, KK, b, t, oS0) A (m0 g3 g4 g8 g27 g113 g114 g166) (n : Int)) H := by
  intro n n1 n2
  have ea : ad (dC, dI, A, KK, b, t, oS0) A n = A n := by unfold ad; cases RZ n <;> rfl
  rw [ea]
  rcases (show n = 120 ∨ n = 121 ∨ n = 122 ∨ n = 123 ∨ n = 124 ∨ n = 125 ∨ n = 126 ∨ n = 127 ∨ n = 128 ∨ n = 129 ∨ n = 130 ∨ n = 131 by omega) with rfl | rfl | rfl | rfl | rfl | rfl | rfl | rfl | rfl | rfl | rfl | rfl
  · have h_120 := hP 0 _ rfl
    show va_at (dC, dI) vwCl (A 120, en (dC, dI, A, KK, b, t, oS0) A (m0 g3 g4 g8 g27 g113 g114 g166) 120) H
    exact (by rw [en_arr (dC, dI, A, KK, b, t, oS0) A (m0 g3 g4 g8 g27 g113 g114 g166) (a := 120) (t := 0) rfl]; exact at_arr h_120 f_120 rfl)
  · have h_121 := hP 1 _ rfl
    show va_at (dC, dI) vwCl (A 121, en (dC, dI, A, KK, b, t, oS0) A (m0 g3 g4 g8 g27 g113 g114 g166) 121) H
    exact (by rw [en_arr (dC, dI, A, KK, b, t, oS0) A (m0 g3 g4 g8 g27 g113 g114 g166) (a := 121) (t := 0) rfl]; exact at_arr h_121 f_121 rfl)
  · have h_122 := hP 2 _ rfl
    show va_at (dC, dI) vwCl (A 122, en (dC, dI, A, KK, b, t, oS0) A (m0 g3 g4 g8 g27 g113 g114 g166) 122) H
    exact (by rw [en_arr (dC, dI, A, KK, b, t, oS0) A (m0 g3 g4 g8 g27 g113 g114 g166) (a := 122) (t := 0) rfl]; exact at_arr h_122 f_122 rfl)
  · have h_123 := hP 3 _ rfl
    show va_at (dC, dI) vwCl (A 123, en (dC, dI, A, KK, b, t, oS0) A (m0 g3 g4 g8 g27 g113 g114 g166) 123) H
    exact (by rw [en_arr (dC, dI, A, KK, b, t, oS0) A (m0 g3 g4 g8 g27 g113 g114 g166) (a := 123) (t := 0) rfl]; exact at_arr h_123 f_123 rfl)
  · have h_124 := hP 4 _ rfl
    show va_at (dC, dI) vwCl (A 124, en (dC, dI, A, KK, b, t, oS0) A (m0 g3 g4 g8 g27 g113 g114 g166) 124) H
    exact (by rw [en_arr (dC, dI, A, KK, b, t, oS0) A (m0 g3 g4 g8 g27 g113 g114 g166) (a := 124) (t := 1) rfl]; exact at_arr h_124 f_124 rfl)
  · have h_125 := hP 5 _ rfl
    show va_at (dC, dI) vwCl (A 125, en (dC, dI, A, KK, b, t, oS0) A (m0 g3 g4 g8 g27 g113 g114 g166) 125) H
    exact (by rw [en_arr (dC, dI, A, KK, b, t, oS0) A (m0 g3 g4 g8 g27 g113 g114 g166) (a := 125) (t := 0) rfl]; exact at_arr h_125 f_125 rfl)
  · have h_126 := hP 6 _ rfl
    show va_at (dC, dI) vwCl (A 126, en (dC, dI, A, KK, b, t, oS0) A (m0 g3 g4 g8 g27 g113 g114 g166) 126) H
    exact (by rw [en_arr (dC, dI, A, KK, b, t, oS0) A (m0 g3 g4 g8 g27 g113 g114 g166) (a := 126) (t := 0) rfl]; exact at_arr h_126 f_126 rfl)
  · have h_127 := hP 7 _ rfl
    show va_at (dC, dI) vwCl (A 127, en (dC, dI, A, KK, b, t, oS0) A (m0 g3 g4 g8 g27 g113 g114 g166) 127) H
    exact (by rw [en_arr (dC, dI, A, KK, b, t, oS0) A (m0 g3 g4 g8 g27 g113 g114 g166) (a := 127) (t := 0) rfl]; exact at_arr h_127 f_127 rfl)
  · have h_128 := hP 8 _ rfl
    show va_at (dC, dI) vwCl (A 128, en (dC, dI, A, KK, b, t, oS0) A (m0 g3 g4 g8 g27 g113 g114 g166) 128) H
    exact (by rw [en_arr (dC, dI, A, KK, b, t, oS0) A (m0 g3 g4 g8 g27 g113 g114 g166) (a := 128) (t := 0) rfl]; exact at_arr h_128 f_128 rfl)
  · have h_129 := hP 9 _ rfl
    show va_at (dC, dI) vwCl (A 129, en (dC, dI, A, KK, b, t, oS0) A (m0 g3 g4 g8 g27 g113 g114 g166) 129) H
    exact (by rw [en_arr (dC, dI, A, KK, b, t, oS0) A (m0 g3 g4 g8 g27 g113 g114 g166) (a := 129) (t := 0) rfl]; exact at_arr h_129 f_129 rfl)
  · have h_130 := hP 10 _ rfl
    show va_at (dC, dI) vwCl (A 130, en (dC, dI, A, KK, b, t, oS0) A (m0 g3 g4 g8 g27 g113 g114 g166) 130) H
    exact (by rw [en_arr (dC, dI, A, KK, b, t, oS0) A (m0 g3 g4 g8 g27 g113 g114 g166) (a := 130) (t := 0) rfl]; exact at_arr h_130 f_130 rfl)
  · have h_131 := hP 11 _ rfl
    show va_at (dC, dI) vwCl (A 131, en (dC, dI, A, KK, b, t, oS0) A (m0 g3 g4 g8 g27 g113 g114 g166) 131) H
    exact (by rw [en_arr (dC, dI, A, KK, b, t, oS0) A (m0 g3 g4 g8 g27 g113 g114 g166) (a := 131) (t := 0) rfl]; exact at_arr h_131 f_131 rfl)
set_option maxHeartbeats 4000000 in
set_option maxRecDepth 100000 in
theorem sm_z132 {dC : Nat → ClassId} {dI : Nat → Nat → Nat} {A : Int → Nat} {KK : Nat → ClassId} {b t : Nat} {oS0 : Nat → Nat} {H : Heap} (k_132 k_133 k_134 k_135 k_136 k_137 k_138 k_139 k_140 k_141 k_142 k_143 : ClassId) (g3 : Nat → Int64) (g4 : Nat → Int32) (g8 : Nat → Int32) (g27 : Nat → Int64) (g113 : Nat → Int64) (g114 : Nat → Int32) (g166 : Nat → Int32) (f_132 : k_132 = KK 0) (f_133 : k_133 = KK 3) (f_134 : k_134 = KK 1) (f_135 : k_135 = KK 3) (f_136 : k_136 = KK 1) (f_137 : k_137 = KK 0) (f_138 : k_138 = KK 0) (f_139 : k_139 = KK 0) (f_140 : k_140 = KK 0) (f_141 : k_141 = KK 0) (f_142 : k_142 = KK 0) (f_143 : k_143 = KK 1) (hP : va_P (dC, dI) vwCl [(A 132, .inl (k_132, 26, .inl (fun _ => 0))), (A 133, .inl (k_133, 8400, .inl (fun _ => 0))), (A 134, .inl (k_134, 8400, .inr (.inl (fun _ => 0)))), (A 135, .inl (k_135, 9000, .inl (fun _ => 0))), (A 136, .inl (k_136, 9000, .inr (.inl (fun _ => 0)))), (A 137, .inl (k_137, 900, .inl (fun _ => 0))), (A 138, .inl (k_138, 900, .inl (fun _ => 0))), (A 139, .inl (k_139, 900, .inl (fun _ => 0))), (A 140, .inl (k_140, 900, .inl (fun _ => 0))), (A 141, .inl (k_141, 900, .inl (fun _ => 0))), (A 142, .inl (k_142, 900, .inl (fun _ => 0))), (A 143, .inl (k_143, 900, .inr (.inl (fun _ => 0))))] H) : ∀ n : Nat, 132 ≤ n → n < 144 → va_at (dC, dI) vwCl (ad (dC, dI, A, KK, b, t, oS0) A (n : Int), en (dC, dI, A, KK, b, t, oS0) A (m0 g3 g4 g8 g27 g113 g114 g166) (n : Int)) H := by
  intro n n1 n2
  have ea : ad (dC, dI, A, KK, b, t, oS0) A n = A n := by unfold ad; cases RZ n <;> rfl
  rw [ea]
  rcases (show n = 132 ∨ n = 133 ∨ n = 134 ∨ n = 135 ∨ n = 136 ∨ n = 137 ∨ n = 138 ∨ n = 139 ∨ n = 140 ∨ n = 141 ∨ n = 142 ∨ n = 143 by omega) with rfl | rfl | rfl | rfl | rfl | rfl | rfl | rfl | rfl | rfl | rfl | rfl
  · have h_132 := hP 0 _ rfl
    show va_at (dC, dI) vwCl (A 132, en (dC, dI, A, KK, b, t, oS0) A (m0 g3 g4 g8 g27 g113 g114 g166) 132) H
    exact (by rw [en_arr (dC, dI, A, KK, b, t, oS0) A (m0 g3 g4 g8 g27 g113 g114 g166) (a := 132) (t := 0) rfl]; exact at_arr h_132 f_132 rfl)
  · have h_133 := hP 1 _ rfl
    show va_at (dC, dI) vwCl (A 133, en (dC, dI, A, KK, b, t, oS0) A (m0 g3 g4 g8 g27 g113 g114 g166) 133) H
    exact (by rw [en_arr (dC, dI, A, KK, b, t, oS0) A (m0 g3 g4 g8 g27 g113 g114 g166) (a := 133) (t := 3) rfl]; exact at_arr h_133 f_133 rfl)
  · have h_134 := hP 2 _ rfl
    show va_at (dC, dI) vwCl (A 134, en (dC, dI, A, KK, b, t, oS0) A (m0 g3 g4 g8 g27 g113 g114 g166) 134) H
    exact (by rw [en_arr (dC, dI, A, KK, b, t, oS0) A (m0 g3 g4 g8 g27 g113 g114 g166) (a := 134) (t := 1) rfl]; exact at_arr h_134 f_134 rfl)
  · have h_135 := hP 3 _ rfl
    show va_at (dC, dI) vwCl (A 135, en (dC, dI, A, KK, b, t, oS0) A (m0 g3 g4 g8 g27 g113 g114 g166) 135) H
    exact (by rw [en_arr (dC, dI, A, KK, b, t, oS0) A (m0 g3 g4 g8 g27 g113 g114 g166) (a := 135) (t := 3) rfl]; exact at_arr h_135 f_135 rfl)
  · have h_136 := hP 4 _ rfl
    show va_at (dC, dI) vwCl (A 136, en (dC, dI, A, KK, b, t, oS0) A (m0 g3 g4 g8 g27 g113 g114 g166) 136) H
    exact (by rw [en_arr (dC, dI, A, KK, b, t, oS0) A (m0 g3 g4 g8 g27 g113 g114 g166) (a := 136) (t := 1) rfl]; exact at_arr h_136 f_136 rfl)
  · have h_137 := hP 5 _ rfl
    show va_at (dC, dI) vwCl (A 137, en (dC, dI, A, KK, b, t, oS0) A (m0 g3 g4 g8 g27 g113 g114 g166) 137) H
    exact (by rw [en_arr (dC, dI, A, KK, b, t, oS0) A (m0 g3 g4 g8 g27 g113 g114 g166) (a := 137) (t := 0) rfl]; exact at_arr h_137 f_137 rfl)
  · have h_138 := hP 6 _ rfl
    show va_at (dC, dI) vwCl (A 138, en (dC, dI, A, KK, b, t, oS0) A (m0 g3 g4 g8 g27 g113 g114 g166) 138) H
    exact (by rw [en_arr (dC, dI, A, KK, b, t, oS0) A (m0 g3 g4 g8 g27 g113 g114 g166) (a := 138) (t := 0) rfl]; exact at_arr h_138 f_138 rfl)
  · have h_139 := hP 7 _ rfl
    show va_at (dC, dI) vwCl (A 139, en (dC, dI, A, KK, b, t, oS0) A (m0 g3 g4 g8 g27 g113 g114 g166) 139) H
    exact (by rw [en_arr (dC, dI, A, KK, b, t, oS0) A (m0 g3 g4 g8 g27 g113 g114 g166) (a := 139) (t := 0) rfl]; exact at_arr h_139 f_139 rfl)
  · have h_140 := hP 8 _ rfl
    show va_at (dC, dI) vwCl (A 140, en (dC, dI, A, KK, b, t, oS0) A (m0 g3 g4 g8 g27 g113 g114 g166) 140) H
    exact (by rw [en_arr (dC, dI, A, KK, b, t, oS0) A (m0 g3 g4 g8 g27 g113 g114 g166) (a := 140) (t := 0) rfl]; exact at_arr h_140 f_140 rfl)
  · have h_141 := hP 9 _ rfl
    show va_at (dC, dI) vwCl (A 141, en (dC, dI, A, KK, b, t, oS0) A (m0 g3 g4 g8 g27 g113 g114 g166) 141) H
    exact (by rw [en_arr (dC, dI, A, KK, b, t, oS0) A (m0 g3 g4 g8 g27 g113 g114 g166) (a := 141) (t := 0) rfl]; exact at_arr h_141 f_141 rfl)
  · have h_142 := hP 10 _ rfl
    show va_at (dC, dI) vwCl (A 142, en (dC, dI, A, KK, b, t, oS0) A (m0 g3 g4 g8 g27 g113 g114 g166) 142) H
    exact (by rw [en_arr (dC, dI, A, KK, b, t, oS0) A (m0 g3 g4 g8 g27 g113 g114 g166) (a := 142) (t := 0) rfl]; exact at_arr h_142 f_142 rfl)
  · have h_143 := hP 11 _ rfl
    show va_at (dC, dI) vwCl (A 143, en (dC, dI, A, KK, b, t, oS0) A (m0 g3 g4 g8 g27 g113 g114 g166) 143) H
    exact (by rw [en_arr (dC, dI, A, KK, b, t, oS0) A (m0 g3 g4 g8 g27 g113 g114 g166) (a := 143) (t := 1) rfl]; exact at_arr h_143 f_143 rfl)
set_option maxHeartbeats 4000000 in
set_option maxRecDepth 100000 in
theorem sm_z144 {dC : Nat → ClassId} {dI : Nat → Nat → Nat} {A : Int → Nat} {KK : Nat → ClassId} {b t : Nat} {oS0 : Nat → Nat} {H : Heap} (k_144 k_145 k_146 k_147 k_148 k_149 k_150 k_151 k_152 k_153 k_154 k_155 : ClassId) (g3 : Nat → Int64) (g4 : Nat → Int32) (g8 : Nat → Int32) (g27 : Nat → Int64) (g113 : Nat → Int64) (g114 : Nat → Int32) (g166 : Nat → Int32) (f_144 : k_144 = KK 0) (f_145 : k_145 = KK 0) (f_146 : k_146 = KK 0) (f_147 : k_147 = KK 3) (f_148 : k_148 = KK 1) (f_149 : k_149 = KK 0) (f_150 : k_150 = KK 0) (f_151 : k_151 = KK 3) (f_152 : k_152 = KK 1) (f_153 : k_153 = KK 0) (f_154 : k_154 = KK 0) (f_155 : k_155 = KK 0) (hP : va_P (dC, dI) vwCl [(A 144, .inl (k_144, 20100, .inl (fun _ => 0))), (A 145, .inl (k_145, 20100, .inl (fun _ => 0))), (A 146, .inl (k_146, 20100, .inl (fun _ => 0))), (A 147, .inl (k_147, 20100, .inl (fun _ => 0))), (A 148, .inl (k_148, 20100, .inr (.inl (fun _ => 0)))), (A 149, .inl (k_149, 12000, .inl (fun _ => 0))), (A 150, .inl (k_150, 12000, .inl (fun _ => 0))), (A 151, .inl (k_151, 12000, .inl (fun _ => 0))), (A 152, .inl (k_152, 12000, .inr (.inl (fun _ => 0)))), (A 153, .inl (k_153, 12000, .inl (fun _ => 0))), (A 154, .inl (k_154, 12000, .inl (fun _ => 0))), (A 155, .inl (k_155, 12000, .inl (fun _ => 0)))] H) : ∀ n : Nat, 144 ≤ n → n < 156 → va_at (dC, dI) vwCl (ad (dC, dI, A, KK, b, t, oS0) A (n : Int), en (dC, dI, A, KK, b, t, oS0) A (m0 g3 g4 g8 g27 g113 g114 g166) (n : Int)) H := by
  intro n n1 n2
  have ea : ad (dC, dI, A, KK, b, t, oS0) A n = A n := by unfold ad; cases RZ n <;> rfl
  rw [ea]
  rcases (show n = 144 ∨ n = 145 ∨ n = 146 ∨ n = 147 ∨ n = 148 ∨ n = 149 ∨ n = 150 ∨ n = 151 ∨ n = 152 ∨ n = 153 ∨ n = 154 ∨ n = 155 by omega) with rfl | rfl | rfl | rfl | rfl | rfl | rfl | rfl | rfl | rfl | rfl | rfl
  · have h_144 := hP 0 _ rfl
    show va_at (dC, dI) vwCl (A 144, en (dC, dI, A, KK, b, t, oS0) A (m0 g3 g4 g8 g27 g113 g114 g166) 144) H
    exact (by rw [en_arr (dC, dI, A, KK, b, t, oS0) A (m0 g3 g4 g8 g27 g113 g114 g166) (a := 144) (t := 0) rfl]; exact at_arr h_144 f_144 rfl)
  · have h_145 := hP 1 _ rfl
    show va_at (dC, dI) vwCl (A 145, en (dC, dI, A, KK, b, t, oS0) A (m0 g3 g4 g8 g27 g113 g114 g166) 145) H
    exact (by rw [en_arr (dC, dI, A, KK, b, t, oS0) A (m0 g3 g4 g8 g27 g113 g114 g166) (a := 145) (t := 0) rfl]; exact at_arr h_145 f_145 rfl)
  · have h_146 := hP 2 _ rfl
    show va_at (dC, dI) vwCl (A 146, en (dC, dI, A, KK, b, t, oS0) A (m0 g3 g4 g8 g27 g113 g114 g166) 146) H
    exact (by rw [en_arr (dC, dI, A, KK, b, t, oS0) A (m0 g3 g4 g8 g27 g113 g114 g166) (a := 146) (t := 0) rfl]; exact at_arr h_146 f_146 rfl)
  · have h_147 := hP 3 _ rfl
    show va_at (dC, dI) vwCl (A 147, en (dC, dI, A, KK, b, t, oS0) A (m0 g3 g4 g8 g27 g113 g114 g166) 147) H
    exact (by rw [en_arr (dC, dI, A, KK, b, t, oS0) A (m0 g3 g4 g8 g27 g113 g114 g166) (a := 147) (t := 3) rfl]; exact at_arr h_147 f_147 rfl)
  · have h_148 := hP 4 _ rfl
    show va_at (dC, dI) vwCl (A 148, en (dC, dI, A, KK, b, t, oS0) A (m0 g3 g4 g8 g27 g113 g114 g166) 148) H
    exact (by rw [en_arr (dC, dI, A, KK, b, t, oS0) A (m0 g3 g4 g8 g27 g113 g114 g166) (a := 148) (t := 1) rfl]; exact at_arr h_148 f_148 rfl)
  · have h_149 := hP 5 _ rfl
    show va_at (dC, dI) vwCl (A 149, en (dC, dI, A, KK, b, t, oS0) A (m0 g3 g4 g8 g27 g113 g114 g166) 149) H
    exact (by rw [en_arr (dC, dI, A, KK, b, t, oS0) A (m0 g3 g4 g8 g27 g113 g114 g166) (a := 149) (t := 0) rfl]; exact at_arr h_149 f_149 rfl)
  · have h_150 := hP 6 _ rfl
    show va_at (dC, dI) vwCl (A 150, en (dC, dI, A, KK, b, t, oS0) A (m0 g3 g4 g8 g27 g113 g114 g166) 150) H
    exact (by rw [en_arr (dC, dI, A, KK, b, t, oS0) A (m0 g3 g4 g8 g27 g113 g114 g166) (a := 150) (t := 0) rfl]; exact at_arr h_150 f_150 rfl)
  · have h_151 := hP 7 _ rfl
    show va_at (dC, dI) vwCl (A 151, en (dC, dI, A, KK, b, t, oS0) A (m0 g3 g4 g8 g27 g113 g114 g166) 151) H
    exact (by rw [en_arr (dC, dI, A, KK, b, t, oS0) A (m0 g3 g4 g8 g27 g113 g114 g166) (a := 151) (t := 3) rfl]; exact at_arr h_151 f_151 rfl)
  · have h_152 := hP 8 _ rfl
    show va_at (dC, dI) vwCl (A 152, en (dC, dI, A, KK, b, t, oS0) A (m0 g3 g4 g8 g27 g113 g114 g166) 152) H
    exact (by rw [en_arr (dC, dI, A, KK, b, t, oS0) A (m0 g3 g4 g8 g27 g113 g114 g166) (a := 152) (t := 1) rfl]; exact at_arr h_152 f_152 rfl)
  · have h_153 := hP 9 _ rfl
    show va_at (dC, dI) vwCl (A 153, en (dC, dI, A, KK, b, t, oS0) A (m0 g3 g4 g8 g27 g113 g114 g166) 153) H
    exact (by rw [en_arr (dC, dI, A, KK, b, t, oS0) A (m0 g3 g4 g8 g27 g113 g114 g166) (a := 153) (t := 0) rfl]; exact at_arr h_153 f_153 rfl)
  · have h_154 := hP 10 _ rfl
    show va_at (dC, dI) vwCl (A 154, en (dC, dI, A, KK, b, t, oS0) A (m0 g3 g4 g8 g27 g113 g114 g166) 154) H
    exact (by rw [en_arr (dC, dI, A, KK, b, t, oS0) A (m0 g3 g4 g8 g27 g113 g114 g166) (a := 154) (t := 0) rfl]; exact at_arr h_154 f_154 rfl)
  · have h_155 := hP 11 _ rfl
    show va_at (dC, dI) vwCl (A 155, en (dC, dI, A, KK, b, t, oS0) A (m0 g3 g4 g8 g27 g113 g114 g166) 155) H
    exact (by rw [en_arr (dC, dI, A, KK, b, t, oS0) A (m0 g3 g4 g8 g27 g113 g114 g166) (a := 155) (t := 0) rfl]; exact at_arr h_155 f_155 rfl)
set_option maxHeartbeats 4000000 in
set_option maxRecDepth 100000 in
theorem sm_z156 {dC : Nat → ClassId} {dI : Nat → Nat → Nat} {A : Int → Nat} {KK : Nat → ClassId} {b t : Nat} {oS0 : Nat → Nat} {H : Heap} (k_156 k_157 k_158 k_159 k_160 k_161 k_162 k_163 k_164 k_165 k_166 : ClassId) (g3 : Nat → Int64) (g4 : Nat → Int32) (g8 : Nat → Int32) (g27 : Nat → Int64) (g113 : Nat → Int64) (g114 : Nat → Int32) (g166 : Nat → Int32) (f_156 : k_156 = KK 0) (f_157 : k_157 = KK 0) (f_158 : k_158 = KK 0) (f_159 : k_159 = KK 0) (f_160 : k_160 = KK 1) (f_161 : k_161 = KK 0) (f_162 : k_162 = KK 0) (f_163 : k_163 = KK 0) (f_164 : k_164 = KK 0) (f_165 : k_165 = KK 0) (f_166 : k_166 = KK 0) (hP : va_P (dC, dI) vwCl [(A 156, .inl (k_156, 12000, .inl (fun _ => 0))), (A 157, .inl (k_157, 12000, .inl (fun _ => 0))), (A 158, .inl (k_158, 12000, .inl (fun _ => 0))), (A 159, .inl (k_159, 12000, .inl (fun _ => 0))), (A 160, .inl (k_160, 200, .inr (.inl (fun _ => 0)))), (A 161, .inl (k_161, 200, .inl (fun _ => 0))), (A 162, .inl (k_162, 16, .inl (fun _ => 0))), (A 163, .inl (k_163, 100, .inl (fun _ => 0))), (A 164, .inl (k_164, 100, .inl (fun _ => 0))), (A 165, .inl (k_165, 100, .inl (fun _ => 0))), (A 166, .inl (k_166, 16, .inl g166))] H) : ∀ n : Nat, 156 ≤ n → n < 167 → va_at (dC, dI) vwCl (ad (dC, dI, A, KK, b, t, oS0) A (n : Int), en (dC, dI, A, KK, b, t, oS0) A (m0 g3 g4 g8 g27 g113 g114 g166) (n : Int)) H := by
  intro n n1 n2
  have ea : ad (dC, dI, A, KK, b, t, oS0) A n = A n := by unfold ad; cases RZ n <;> rfl
  rw [ea]
  rcases (show n = 156 ∨ n = 157 ∨ n = 158 ∨ n = 159 ∨ n = 160 ∨ n = 161 ∨ n = 162 ∨ n = 163 ∨ n = 164 ∨ n = 165 ∨ n = 166 by omega) with rfl | rfl | rfl | rfl | rfl | rfl | rfl | rfl | rfl | rfl | rfl
  · have h_156 := hP 0 _ rfl
    show va_at (dC, dI) vwCl (A 156, en (dC, dI, A, KK, b, t, oS0) A (m0 g3 g4 g8 g27 g113 g114 g166) 156) H
    exact (by rw [en_arr (dC, dI, A, KK, b, t, oS0) A (m0 g3 g4 g8 g27 g113 g114 g166) (a := 156) (t := 0) rfl]; exact at_arr h_156 f_156 rfl)
  · have h_157 := hP 1 _ rfl
    show va_at (dC, dI) vwCl (A 157, en (dC, dI, A, KK, b, t, oS0) A (m0 g3 g4 g8 g27 g113 g114 g166) 157) H
    exact (by rw [en_arr (dC, dI, A, KK, b, t, oS0) A (m0 g3 g4 g8 g27 g113 g114 g166) (a := 157) (t := 0) rfl]; exact at_arr h_157 f_157 rfl)
  · have h_158 := hP 2 _ rfl
    show va_at (dC, dI) vwCl (A 158, en (dC, dI, A, KK, b, t, oS0) A (m0 g3 g4 g8 g27 g113 g114 g166) 158) H
    exact (by rw [en_arr (dC, dI, A, KK, b, t, oS0) A (m0 g3 g4 g8 g27 g113 g114 g166) (a := 158) (t := 0) rfl]; exact at_arr h_158 f_158 rfl)
  · have h_159 := hP 3 _ rfl
    show va_at (dC, dI) vwCl (A 159, en (dC, dI, A, KK, b, t, oS0) A (m0 g3 g4 g8 g27 g113 g114 g166) 159) H
    exact (by rw [en_arr (dC, dI, A, KK, b, t, oS0) A (m0 g3 g4 g8 g27 g113 g114 g166) (a := 159) (t := 0) rfl]; exact at_arr h_159 f_159 rfl)
  · have h_160 := hP 4 _ rfl
    show va_at (dC, dI) vwCl (A 160, en (dC, dI, A, KK, b, t, oS0) A (m0 g3 g4 g8 g27 g113 g114 g166) 160) H
    exact (by rw [en_arr (dC, dI, A, KK, b, t, oS0) A (m0 g3 g4 g8 g27 g113 g114 g166) (a := 160) (t := 1) rfl]; exact at_arr h_160 f_160 rfl)
  · have h_161 := hP 5 _ rfl
    show va_at (dC, dI) vwCl (A 161, en (dC, dI, A, KK, b, t, oS0) A (m0 g3 g4 g8 g27 g113 g114 g166) 161) H
    exact (by rw [en_arr (dC, dI, A, KK, b, t, oS0) A (m0 g3 g4 g8 g27 g113 g114 g166) (a := 161) (t := 0) rfl]; exact at_arr h_161 f_161 rfl)
  · have h_162 := hP 6 _ rfl
    show va_at (dC, dI) vwCl (A 162, en (dC, dI, A, KK, b, t, oS0) A (m0 g3 g4 g8 g27 g113 g114 g166) 162) H
    exact (by rw [en_arr (dC, dI, A, KK, b, t, oS0) A (m0 g3 g4 g8 g27 g113 g114 g166) (a := 162) (t := 0) rfl]; exact at_arr h_162 f_162 rfl)
  · have h_163 := hP 7 _ rfl
    show va_at (dC, dI) vwCl (A 163, en (dC, dI, A, KK, b, t, oS0) A (m0 g3 g4 g8 g27 g113 g114 g166) 163) H
    exact (by rw [en_arr (dC, dI, A, KK, b, t, oS0) A (m0 g3 g4 g8 g27 g113 g114 g166) (a := 163) (t := 0) rfl]; exact at_arr h_163 f_163 rfl)
  · have h_164 := hP 8 _ rfl
    show va_at (dC, dI) vwCl (A 164, en (dC, dI, A, KK, b, t, oS0) A (m0 g3 g4 g8 g27 g113 g114 g166) 164) H
    exact (by rw [en_arr (dC, dI, A, KK, b, t, oS0) A (m0 g3 g4 g8 g27 g113 g114 g166) (a := 164) (t := 0) rfl]; exact at_arr h_164 f_164 rfl)
  · have h_165 := hP 9 _ rfl
    show va_at (dC, dI) vwCl (A 165, en (dC, dI, A, KK, b, t, oS0) A (m0 g3 g4 g8 g27 g113 g114 g166) 165) H
    exact (by rw [en_arr (dC, dI, A, KK, b, t, oS0) A (m0 g3 g4 g8 g27 g113 g114 g166) (a := 165) (t := 0) rfl]; exact at_arr h_165 f_165 rfl)
  · have h_166 := hP 10 _ rfl
    show va_at (dC, dI) vwCl (A 166, en (dC, dI, A, KK, b, t, oS0) A (m0 g3 g4 g8 g27 g113 g114 g166) 166) H
    exact (by rw [en_arr (dC, dI, A, KK, b, t, oS0) A (m0 g3 g4 g8 g27 g113 g114 g166) (a := 166) (t := 0) rfl]; exact at_arr h_166 f_166 (by have e : (fun k : Nat => iv ((m0 g3 g4 g8 g27 g113 g114 g166).1 166 (k : Int))) = g166 := funext fun k => (by show iv (g166 ((k : Int)).toNat).toInt = g166 k; rw [Int.toNat_natCast]; exact iv_of _); exact congrArg (fun z => (((16, .inl z)) : vp_A)) e.symm))
theorem tyK {D : va_G} {s : State} {tys : List (ClassId × FieldType)} (hK : va_K D vwCl tys s) {i j : Nat} {c c2 : ClassId} {t : FieldType} (h : tys[i]? = some (c, t)) (h2 : tys[j]? = some (c2, t)) : c = c2 := tyq (hK.2 i _ h).2 (hK.2 j _ h2).2
set_option maxHeartbeats 4000000 in
theorem sm_0 {dC : Nat → ClassId} {dI : Nat → Nat → Nat} {A : Int → Nat} {KK : Nat → ClassId} {b t : Nat} {oS0 : Nat → Nat} {H : Heap} {s : State} (g3 : Nat → Int64) (g4 : Nat → Int32) (g8 : Nat → Int32) (g27 : Nat → Int64) (g113 : Nat → Int64) (g114 : Nat → Int32) (g166 : Nat → Int32) (hb : b = s.heap.size) (ht : t = tot s.heap) (z : ∀ n : Nat, n < 167 → va_at (dC, dI) vwCl (ad (dC, dI, A, KK, b, t, oS0) A (n : Int), en (dC, dI, A, KK, b, t, oS0) A (m0 g3 g4 g8 g27 g113 g114 g166) (n : Int)) H) {ws : va_W} (hD : va_D (fun q => s.heap.size ≤ q) ws) (hm : (List.range NA).map (fun (a : Nat) => A (a : Int)) = ws.map (fun q => q.1)) (hK : va_K (dC, dI) vwCl [(KK 0, .int), (KK 1, .long), (KK 2, .double), (KK 3, .byte), (KK 4, .object RX8)] s) (h1 : H.size ≤ s.heap.size + 167) (h2 : tot H ≤ tot s.heap + 452814) : Sm (dC, dI, A, KK, b, t, oS0) A (m0 g3 g4 g8 g27 g113 g114 g166) s H := by
  refine ⟨?_, ?_, hK, m0_Rg, m0_Sr, ?_, ?_, (by decide : (167 : Int) ≤ 600000), (by decide : (452814 : Int) ≤ 7302250)⟩
  · intro k q hk
    by_cases hn : k < NA
    · rw [wd_n _ _ _ hn] at hk
      rw [← Option.some.inj hk]
      exact z k hn
    · rw [wd_none _ _ _ hn] at hk; cases hk
  · rw [show oB (dC, dI, A, KK, b, t, oS0) = s.heap.size from hb]
    refine hD.cg ?_
    have e : (wd (dC, dI, A, KK, b, t, oS0) A (m0 g3 g4 g8 g27 g113 g114 g166)).map (fun q => q.1) = (List.range NA).map (fun (a : Nat) => A (a : Int)) := by
      unfold wd
      rw [List.map_map]
      refine List.map_congr_left (fun a _ => ?_)
      show ad (dC, dI, A, KK, b, t, oS0) A (a : Int) = A (a : Int)
      unfold ad
      cases RZ (a : Int) <;> rfl
    rw [e]
    exact hm
  · rw [show oB (dC, dI, A, KK, b, t, oS0) = s.heap.size from hb]
    show (H.size : Int) ≤ (s.heap.size : Int) + 167
    omega
  · rw [show oT (dC, dI, A, KK, b, t, oS0) = tot s.heap from ht]
    show (tot H : Int) ≤ (tot s.heap : Int) + 452814
    omega
theorem va_D.pm {A : Nat → Prop} {ws : va_W} (hD : va_D A ws) (is : List Nat) (hn : va_nd is = true) (hb : (is.all fun i => Nat.blt i ws.length) = true) : va_D A (is.filterMap (fun i => ws[i]?)) := by
  refine hD.sub is hn ?_
  clear hn
  induction is with
  | nil => rfl
  | cons i is ih =>
    rw [List.all_cons, Bool.and_eq_true] at hb
    have hi := (Nat.blt_eq).mp hb.1
    rw [List.map_cons, List.filterMap_cons, List.getElem?_eq_getElem hi]
    show some ws[i] :: _ = some ws[i] :: _
    rw [ih hb.2]
theorem z_all {P : Nat → Prop} (z0 : ∀ n : Nat, 0 ≤ n → n < 12 → P n) (z12 : ∀ n : Nat, 12 ≤ n → n < 24 → P n) (z24 : ∀ n : Nat, 24 ≤ n → n < 36 → P n) (z36 : ∀ n : Nat, 36 ≤ n → n < 48 → P n) (z48 : ∀ n : Nat, 48 ≤ n → n < 60 → P n) (z60 : ∀ n : Nat, 60 ≤ n → n < 72 → P n) (z72 : ∀ n : Nat, 72 ≤ n → n < 84 → P n) (z84 : ∀ n : Nat, 84 ≤ n → n < 96 → P n) (z96 : ∀ n : Nat, 96 ≤ n → n < 108 → P n) (z108 : ∀ n : Nat, 108 ≤ n → n < 120 → P n) (z120 : ∀ n : Nat, 120 ≤ n → n < 132 → P n) (z132 : ∀ n : Nat, 132 ≤ n → n < 144 → P n) (z144 : ∀ n : Nat, 144 ≤ n → n < 156 → P n) (z156 : ∀ n : Nat, 156 ≤ n → n < 167 → P n) : ∀ n : Nat, n < 167 → P n := by
  intro n hn
  by_cases c0 : n < 12
  · exact z0 n (by omega) c0
  by_cases c12 : n < 24
  · exact z12 n (by omega) c12
  by_cases c24 : n < 36
  · exact z24 n (by omega) c24
  by_cases c36 : n < 48
  · exact z36 n (by omega) c36
  by_cases c48 : n < 60
  · exact z48 n (by omega) c48
  by_cases c60 : n < 72
  · exact z60 n (by omega) c60
  by_cases c72 : n < 84
  · exact z72 n (by omega) c72
  by_cases c84 : n < 96
  · exact z84 n (by omega) c84
  by_cases c96 : n < 108
  · exact z96 n (by omega) c96
  by_cases c108 : n < 120
  · exact z108 n (by omega) c108
  by_cases c120 : n < 132
  · exact z120 n (by omega) c120
  by_cases c132 : n < 144
  · exact z132 n (by omega) c132
  by_cases c144 : n < 156
  · exact z144 n (by omega) c144
  by_cases c156 : n < 167
  · exact z156 n (by omega) c156
  omega
