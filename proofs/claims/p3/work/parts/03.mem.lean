/-! room, made tight again behind a call: the heap itself says how much was made -/
def tot (H : Heap) : Nat := (H.toList.map (fun c => c.slots.size)).sum
section TIGHT
variable {p : Program} {l : Launch} {e : Env} {R : Room} {s : State} {m : MethodId} {args : Array Value} {below : List Frame} {meth : Method} {c : Code} {H : Heap} {locs : List Loc} {cells slots : Nat} {Q : State → Prop}
theorem my_tight {g : JFrame} {k n : Nat} (h1 : H.size ≤ s.heap.size + k) (h2 : ((H.toList.drop s.heap.size).map (fun c => c.slots.size)).sum ≤ n) (kk : W p l e R s m args below meth c H locs k n Q g) : W p l e R s m args below meth c H locs cells slots Q g := by
  intro T hT X
  refine kk T hT { X with same := ?_ }
  obtain ⟨a1, a2, a3, a4, a5, a6⟩ := X.same
  refine ⟨a1, a2, ?_, a4, ?_, a6⟩
  · show T.heap.size ≤ _
    rw [hT]; exact h1
  · show ((T.heap.toList.drop s.heap.size).map (fun c => c.slots.size)).sum ≤ _
    rw [hT]; exact h2
/-- what the machine itself says of the heap at a point of a walk -/
theorem my_heap {g : JFrame} (kk : s.heap.size ≤ H.size → H.size ≤ s.heap.size + cells → ((H.toList.drop s.heap.size).map (fun c => c.slots.size)).sum ≤ slots → (∀ (a : Nat) (x : Cell), s.heap[a]? = some x → ∃ y, H[a]? = some y ∧ y.slots.size = x.slots.size) → W p l e R s m args below meth c H locs cells slots Q g) : W p l e R s m args below meth c H locs cells slots Q g := by
  intro T hT X
  obtain ⟨a1, a2, a3, a4, a5, a6⟩ := X.same
  have b2 : s.heap.size ≤ T.heap.size := a2
  have b3 : T.heap.size ≤ s.heap.size + cells := a3
  have b5 : ((T.heap.toList.drop s.heap.size).map (fun c => c.slots.size)).sum ≤ slots := a5
  have b6 : ∀ (a : Nat) (x : Cell), s.heap[a]? = some x → ∃ y, T.heap[a]? = some y ∧ y.slots.size = x.slots.size := fun a x h => by
    obtain ⟨y, h1, -, h2, -⟩ := a6 a x h
    exact ⟨y, h1, h2⟩
  rw [hT] at b2 b3 b5 b6
  exact kk b2 b3 b5 b6 T hT X
end TIGHT
/-- the slots of all cells are those of the old ones and those of the new ones -/
theorem tot_split {H0 H : Heap} (hs : H0.size ≤ H.size) (h : ∀ (a : Nat) (x : Cell), H0[a]? = some x → ∃ y, H[a]? = some y ∧ y.slots.size = x.slots.size) : tot H = tot H0 + ((H.toList.drop H0.size).map (fun c => c.slots.size)).sum := by
  have e : (H.toList.take H0.size).map (fun c => c.slots.size) = H0.toList.map (fun c => c.slots.size) := by
    apply List.ext_getElem?
    intro i
    rw [List.getElem?_map, List.getElem?_map, List.getElem?_take]
    by_cases hi : i < H0.size
    · rw [if_pos hi]
      obtain ⟨y, h1, h2⟩ := h i (H0[i]) (Array.getElem?_eq_getElem hi)
      rw [Array.getElem?_toList, Array.getElem?_toList, h1, Array.getElem?_eq_getElem hi]
      simp [h2]
    · rw [if_neg hi, Array.getElem?_toList, Array.getElem?_eq_none (by omega)]
  unfold tot
  conv => lhs; rw [← List.take_append_drop H0.size H.toList]
  rw [List.map_append, List.sum_append, e]

/-! numbers -/
def iv (x : Int) : Int32 := Int32.ofInt x
def jv (x : Int) : Int64 := Int64.ofInt x
def dv (x : Int) : UInt64 := UInt64.ofNat x.toNat
def ir (x : Int) : Prop := -2147483648 ≤ x ∧ x ≤ 2147483647
def jr (x : Int) : Prop := -9223372036854775808 ≤ x ∧ x ≤ 9223372036854775807
theorem iv_toInt {x : Int} (h : ir x) : (iv x).toInt = x := by
  unfold ir at h
  exact Int32.toInt_ofInt_of_le (by omega) (by omega)
theorem jv_toInt {x : Int} (h : jr x) : (jv x).toInt = x := by
  unfold jr at h
  exact Int64.toInt_ofInt_of_le (by omega) (by omega)
theorem iv_of (y : Int32) : iv y.toInt = y := Int32.ofInt_toInt y
theorem jv_of (y : Int64) : jv y.toInt = y := Int64.ofInt_toInt y
theorem dv_of (y : UInt64) : dv (y.toNat : Int) = y := by
  unfold dv
  rw [Int.toNat_natCast, UInt64.ofNat_toNat]
theorem ir_of (y : Int32) : ir y.toInt := by
  have h1 := Int32.toInt_lt y
  have h2 := Int32.le_toInt y
  unfold ir
  omega
theorem jr_of (y : Int64) : jr y.toInt := by
  have h1 := Int64.toInt_lt y
  have h2 := Int64.le_toInt y
  unfold jr
  omega
theorem iv_add (x y : Int) : iv x + iv y = iv (x + y) := (Int32.ofInt_add x y).symm
theorem iv_sub (x y : Int) : iv x - iv y = iv (x - y) := (Int32.ofInt_sub x y).symm
theorem iv_mul (x y : Int) : iv x * iv y = iv (x * y) := (Int32.ofInt_mul x y).symm
theorem iv_neg (x : Int) : - iv x = iv (-x) := (Int32.ofInt_neg x).symm
theorem jv_add (x y : Int) : jv x + jv y = jv (x + y) := (Int64.ofInt_add x y).symm
theorem jv_sub (x y : Int) : jv x - jv y = jv (x - y) := (Int64.ofInt_sub x y).symm
theorem jv_mul (x y : Int) : jv x * jv y = jv (x * y) := (Int64.ofInt_mul x y).symm
theorem jv_neg (x : Int) : - jv x = jv (-x) := (Int64.ofInt_neg x).symm
theorem iv_lt {x y : Int} (hx : ir x) (hy : ir y) : iv x < iv y ↔ x < y := by
  rw [Int32.lt_iff_toInt_lt, iv_toInt hx, iv_toInt hy]
theorem iv_le {x y : Int} (hx : ir x) (hy : ir y) : iv x ≤ iv y ↔ x ≤ y := by
  rw [Int32.le_iff_toInt_le, iv_toInt hx, iv_toInt hy]
theorem iv_eq {x y : Int} (hx : ir x) (hy : ir y) : iv x = iv y ↔ x = y := by
  rw [← Int32.toInt_inj, iv_toInt hx, iv_toInt hy]
theorem jv_eq {x y : Int} (hx : jr x) (hy : jr y) : jv x = jv y ↔ x = y := by
  rw [← Int64.toInt_inj, jv_toInt hx, jv_toInt hy]
theorem jv_lt {x y : Int} (hx : jr x) (hy : jr y) : jv x < jv y ↔ x < y := by
  rw [Int64.lt_iff_toInt_lt, jv_toInt hx, jv_toInt hy]
theorem iv_clamp {x : Int} (h : ir x) : (iv x).toNatClampNeg = x.toNat := by
  unfold ir at h
  exact Int32.toNatClampNeg_ofInt_of_le (by omega) (by omega)
theorem iv_in {x n : Int} (h : 0 ≤ x ∧ x < n) (hn : n ≤ 2147483647) : vp_in (iv x) n.toNat := by
  have hx : ir x := by unfold ir; omega
  have h0 : ir 0 := by unfold ir; omega
  unfold vp_in
  rw [iv_clamp hx, show (0 : Int32) = iv 0 from rfl, iv_lt hx h0]
  omega
theorem iv_nat (n : Nat) : Int32.ofNat n = iv (n : Int) := Int32.ofInt_eq_ofNat.symm
/-! the layout: what lies at each place -/
abbrev M3 : Type := (Int → Int → Int) × (Int → Int) × Int × Int
abbrev Om : Type := (Nat → ClassId) × (Nat → Nat → Nat) × (Int → Nat) × (Nat → ClassId) × Nat × Nat × (Nat → Nat)
def NA : Nat := 167
def LYL : List Nat := [10, 103, 5, 101, 100, 100, 0, 100, 100, 100, 100, 100, 104, 7, 100, 8, 100, 101, 102, 101, 100, 100, 100, 6, 100, 101, 9, 101, 100, 100, 101, 102, 4, 8, 100, 101, 102, 8, 100, 101, 102, 8, 100, 101, 102, 1, 100, 8, 100, 101, 102, 100, 2, 100, 100, 100, 100, 100, 100, 100, 3, 100, 100, 100, 100, 100, 8, 100, 101, 102, 100, 7, 100, 8, 100, 101, 102, 101, 100, 100, 100, 7, 100, 8, 100, 101, 102, 101, 100, 100, 100, 7, 100, 8, 100, 101, 102, 101, 100, 100, 100, 7, 100, 8, 100, 101, 102, 101, 100, 100, 100, 11, 100, 101, 100, 100, 101, 100, 101, 100, 100, 100, 100, 100, 101, 100, 100, 100, 100, 100, 100, 100, 100, 103, 101, 103, 101, 100, 100, 100, 100, 100, 100, 101, 100, 100, 100, 103, 101, 100, 100, 103, 101, 100, 100, 100, 100, 100, 100, 100, 101, 100, 100, 100, 100, 100, 100]
def LY (a : Int) : Nat := match a with
  | .ofNat n => LYL.getD n 999
  | .negSucc _ => 999
def RZL : List Nat := [14, 16, 17, 18, 34, 35, 36, 38, 39, 40, 42, 43, 44, 46, 48, 49, 50, 51, 67, 68, 69, 72, 74, 75, 76, 82, 84, 85, 86, 92, 94, 95, 96, 102, 104, 105, 106]
def RZ (a : Int) : Bool := match a with
  | .ofNat n => RZL.contains n
  | .negSucc _ => false
def FTL : List (List Nat) := [[3, 3, 3, 3, 3, 0], [3, 0, 3, 3, 0], [3, 3, 3, 3, 3, 3, 3, 0], [3, 3, 3, 3, 3, 3, 0], [3, 3, 3, 3, 3, 3, 3, 3, 3, 3, 3, 0, 0, 0, 0, 0, 1], [3, 3, 3, 0, 0], [3, 3, 3, 3, 3, 0, 0, 0, 0, 0, 0], [3, 0, 3, 3, 3, 3, 3, 0], [3, 3, 3, 0], [3, 3, 3, 3, 3, 3, 0, 0, 0, 0, 0, 0, 0, 0, 1, 2], [3, 0, 0, 3, 3, 3, 3, 3, 3], [0, 3, 0, 3, 0, 3, 0, 0, 0, 0, 1, 0, 1, 0, 0, 0, 0, 0, 0, 3, 3, 3, 0, 3, 3, 3, 3, 3, 3, 0, 3, 0, 0, 3, 0, 0, 1, 0, 3, 0, 0, 3, 3, 3, 3, 3, 3, 0, 0, 3, 3, 3, 3, 0, 3, 3, 3, 3, 3, 3, 3, 0, 3, 3, 3, 0, 3, 3, 0, 0, 3, 3, 3, 3, 3, 3, 3, 3, 3, 3, 3, 0, 0, 0, 0, 0, 3, 3, 0, 0, 0, 0, 0, 0, 0, 0, 1, 0, 0, 1, 3, 3, 3, 3, 0, 3]]
def NF (c : Nat) : Nat := (FTL.getD c []).length
def FT (c : Nat) (k : Int) : Nat := match k with
  | .ofNat n => (FTL.getD c []).getD n 9
  | .negSucc _ => 9
def SRL : List (Int × Int × Int) := [(0, 0, 1), (0, 3, 2), (0, 4, 6), (0, 5, 12), (0, 7, 23), (0, 8, 32), (2, 0, 3), (2, 1, 4), (2, 2, 5), (6, 0, 7), (6, 1, 8), (6, 2, 9), (6, 3, 10), (6, 4, 11), (13, 0, 14), (13, 2, 15), (13, 3, 19), (13, 4, 20), (13, 5, 21), (13, 6, 22), (15, 0, 16), (15, 1, 17), (15, 2, 18), (23, 0, 26), (23, 1, 2), (23, 3, 24), (23, 4, 25), (26, 0, 1), (26, 1, 27), (26, 2, 28), (26, 3, 29), (26, 4, 30), (26, 5, 31), (32, 0, 12), (32, 1, 2), (32, 2, 6), (32, 3, 33), (32, 4, 37), (32, 5, 41), (32, 6, 45), (32, 7, 52), (32, 8, 60), (32, 9, 70), (33, 0, 34), (33, 1, 35), (33, 2, 36), (37, 0, 38), (37, 1, 39), (37, 2, 40), (41, 0, 42), (41, 1, 43), (41, 2, 44), (45, 0, 46), (45, 2, 47), (45, 3, 51), (47, 0, 48), (47, 1, 49), (47, 2, 50), (52, 0, 53), (52, 1, 54), (52, 2, 55), (52, 3, 56), (52, 4, 57), (52, 5, 58), (52, 6, 59), (60, 0, 61), (60, 1, 62), (60, 2, 63), (60, 3, 64), (60, 4, 65), (60, 5, 66), (66, 0, 67), (66, 1, 68), (66, 2, 69), (71, 0, 72), (71, 2, 73), (71, 3, 77), (71, 4, 78), (71, 5, 79), (71, 6, 80), (73, 0, 74), (73, 1, 75), (73, 2, 76), (81, 0, 82), (81, 2, 83), (81, 3, 87), (81, 4, 88), (81, 5, 89), (81, 6, 90), (83, 0, 84), (83, 1, 85), (83, 2, 86), (91, 0, 92), (91, 2, 93), (91, 3, 97), (91, 4, 98), (91, 5, 99), (91, 6, 100), (93, 0, 94), (93, 1, 95), (93, 2, 96), (101, 0, 102), (101, 2, 103), (101, 3, 107), (101, 4, 108), (101, 5, 109), (101, 6, 110), (103, 0, 104), (103, 1, 105), (103, 2, 106), (111, 1, 112), (111, 3, 113), (111, 5, 114), (111, 19, 115), (111, 20, 116), (111, 21, 117), (111, 23, 118), (111, 24, 119), (111, 25, 120), (111, 26, 121), (111, 27, 122), (111, 28, 123), (111, 30, 124), (111, 33, 125), (111, 38, 126), (111, 41, 127), (111, 42, 128), (111, 43, 129), (111, 44, 130), (111, 45, 131), (111, 46, 132), (111, 49, 133), (111, 50, 134), (111, 51, 135), (111, 52, 136), (111, 54, 137), (111, 55, 138), (111, 56, 139), (111, 57, 140), (111, 58, 141), (111, 59, 142), (111, 60, 143), (111, 62, 144), (111, 63, 145), (111, 64, 146), (111, 66, 147), (111, 67, 148), (111, 70, 149), (111, 71, 150), (111, 72, 151), (111, 73, 152), (111, 74, 153), (111, 75, 154), (111, 76, 155), (111, 77, 156), (111, 78, 157), (111, 79, 158), (111, 80, 159), (111, 86, 160), (111, 87, 161), (111, 100, 162), (111, 101, 163), (111, 102, 164), (111, 103, 165), (111, 105, 166)]
def LNL : List (Int × Int) := [(1, 3000), (3, 52), (4, 52), (5, 52), (7, 16), (8, 16), (9, 100), (10, 100), (11, 100), (12, 4), (19, 40), (20, 40), (21, 40), (22, 40), (24, 4), (25, 1000), (27, 33), (28, 3001), (29, 3001), (30, 3001), (31, 3001), (53, 24), (54, 24), (55, 24), (56, 24), (57, 24), (58, 24), (59, 24), (61, 400), (62, 400), (63, 400), (64, 400), (65, 400), (70, 10), (77, 40), (78, 40), (79, 40), (80, 40), (87, 40), (88, 40), (89, 40), (90, 40), (97, 40), (98, 40), (99, 40), (100, 40), (107, 40), (108, 40), (109, 40), (110, 40), (112, 3000), (113, 64), (114, 64), (115, 45000), (116, 45000), (117, 45000), (118, 200), (119, 200), (120, 200), (121, 200), (122, 5), (123, 64), (124, 320), (125, 700), (126, 12000), (127, 26), (128, 26), (129, 26), (130, 26), (131, 26), (132, 26), (133, 8400), (134, 8400), (135, 9000), (136, 9000), (137, 900), (138, 900), (139, 900), (140, 900), (141, 900), (142, 900), (143, 900), (144, 20100), (145, 20100), (146, 20100), (147, 20100), (148, 20100), (149, 12000), (150, 12000), (151, 12000), (152, 12000), (153, 12000), (154, 12000), (155, 12000), (156, 12000), (157, 12000), (158, 12000), (159, 12000), (160, 200), (161, 200), (162, 16), (163, 100), (164, 100), (165, 100), (166, 16)]
abbrev oP (ω : Om) : Int → Nat := ω.2.2.1
abbrev oA (ω : Om) : Nat → ClassId := ω.2.2.2.1
abbrev oB (ω : Om) : Nat := ω.2.2.2.2.1
abbrev oT (ω : Om) : Nat := ω.2.2.2.2.2.1
abbrev oS (ω : Om) : Nat → Nat := ω.2.2.2.2.2.2
def ad (ω : Om) (ρ : Int → Nat) (a : Int) : Nat := bif RZ a then ρ a else oP ω a
def cv (ω : Om) (ρ : Int → Nat) (t : Nat) (x : Int) : Value := match t with
  | 0 => .int (iv x)
  | 1 => .long (jv x)
  | 2 => .double (dv x)
  | _ => if x < 0 then .null else .ref (ad ω ρ x)
def ar (ω : Om) (ρ : Int → Nat) (t : Nat) (f : Int → Int) : (Nat → Int32) ⊕ (Nat → Int64) ⊕ (Nat → UInt32) ⊕ (Nat → UInt64) ⊕ (Nat → Option Nat) := match t with
  | 0 => .inl (fun k => iv (f k))
  | 1 => .inr (.inl (fun k => jv (f k)))
  | 2 => .inr (.inr (.inr (.inl (fun k => dv (f k)))))
  | 3 => .inl (fun k => iv (f k))
  | _ => .inr (.inr (.inr (.inr (fun k => if f k < 0 then none else some (ad ω ρ (f k))))))
def en (ω : Om) (ρ : Int → Nat) (μ : M3) (a : Int) : va_E := bif Nat.blt (LY a) 100 then .inr (LY a, (List.range (NF (LY a))).map (fun (k : Nat) => cv ω ρ (FT (LY a) k) (μ.1 a k))) else .inl (oA ω (LY a - 100), (μ.2.1 a).toNat, ar ω ρ (LY a - 100) (μ.1 a))
def wd (ω : Om) (ρ : Int → Nat) (μ : M3) : va_W := (List.range NA).map (fun (a : Nat) => (ad ω ρ a, en ω ρ μ a))
def ty (a k : Int) : Nat := bif Nat.blt (LY a) 100 then FT (LY a) k else LY a - 100
def tyL (ω : Om) : List (ClassId × FieldType) := [(oA ω 0, .int), (oA ω 1, .long), (oA ω 2, .double), (oA ω 3, .byte), (oA ω 4, .object RX8)]
def sv (μ : M3) (a k x : Int) : M3 := (fun b j => if b = a ∧ j = k then x else μ.1 b j, μ.2)
theorem sv_s (μ : M3) (a k x : Int) : (sv μ a k x).1 a k = x := if_pos ⟨rfl, rfl⟩
theorem sv_a (μ : M3) {a b : Int} (k j x : Int) (h : b ≠ a) : (sv μ a k x).1 b j = μ.1 b j := if_neg (fun q => h q.1)
theorem sv_k (μ : M3) {a b k j : Int} (x : Int) (h : j ≠ k) : (sv μ a k x).1 b j = μ.1 b j := if_neg (fun q => h q.2)
theorem sv_f (μ : M3) {a b : Int} (k x : Int) (h : b ≠ a) : (sv μ a k x).1 b = μ.1 b := funext fun j => sv_a μ k j x h
theorem LY_lt {a : Int} (h : LY a ≠ 999) : 0 ≤ a ∧ a < (NA : Int) := by
  unfold LY at h
  match a, h with
  | .ofNat n, h =>
    refine ⟨Int.natCast_nonneg n, ?_⟩
    show (n : Int) < (NA : Int)
    have : n < LYL.length := by
      apply Nat.lt_of_not_le
      intro q
      exact h (by show LYL.getD n 999 = 999; rw [List.getD_eq_getElem?_getD, List.getElem?_eq_none q]; rfl)
    have e : LYL.length = NA := by decide +kernel
    omega
  | .negSucc n, h => exact absurd rfl h
theorem wd_get (ω : Om) (ρ : Int → Nat) (μ : M3) {a : Int} (h : 0 ≤ a ∧ a < (NA : Int)) : (wd ω ρ μ)[a.toNat]? = some (ad ω ρ a, en ω ρ μ a) := by
  unfold wd
  rw [List.getElem?_map, List.getElem?_range (by omega)]
  show some (ad ω ρ (a.toNat : Int), en ω ρ μ (a.toNat : Int)) = _
  rw [Int.toNat_of_nonneg h.1]
theorem wd_n (ω : Om) (ρ : Int → Nat) (μ : M3) {n : Nat} (h : n < NA) : (wd ω ρ μ)[n]? = some (ad ω ρ (n : Int), en ω ρ μ (n : Int)) := by
  unfold wd
  rw [List.getElem?_map, List.getElem?_range h]
  rfl
theorem wd_none (ω : Om) (ρ : Int → Nat) (μ : M3) {n : Nat} (h : ¬ n < NA) : (wd ω ρ μ)[n]? = none := by
  unfold wd
  rw [List.getElem?_map, List.getElem?_eq_none (by rw [List.length_range]; omega)]
  rfl
theorem en_obj (ω : Om) (ρ : Int → Nat) (μ : M3) {a : Int} {ci : Nat} (h : LY a = ci) (hc : ci < 100) : en ω ρ μ a = .inr (ci, (List.range (NF ci)).map (fun (k : Nat) => cv ω ρ (FT ci k) (μ.1 a k))) := by
  subst h
  unfold en
  rw [show Nat.blt (LY a) 100 = true from (Nat.blt_eq).mpr hc]
  rfl
theorem en_arr (ω : Om) (ρ : Int → Nat) (μ : M3) {a : Int} {t : Nat} (h : LY a = 100 + t) : en ω ρ μ a = .inl (oA ω t, (μ.2.1 a).toNat, ar ω ρ t (μ.1 a)) := by
  unfold en
  rw [h, show Nat.blt (100 + t) 100 = false from by rw [Bool.eq_false_iff]; intro q; have := (Nat.blt_eq).mp q; omega, Nat.add_sub_cancel_left]
  rfl
theorem en_other (ω : Om) (ρ : Int → Nat) (μ : M3) {a b : Int} (k x : Int) (h : b ≠ a) : en ω ρ (sv μ a k x) b = en ω ρ μ b := by
  unfold en
  rw [sv_f μ k x h]
  rfl
theorem wd_set {ω : Om} {ρ : Int → Nat} {μ μ' : M3} {a : Int} {e : va_E} (h0 : 0 ≤ a) (ho : ∀ b, b ≠ a → en ω ρ μ' b = en ω ρ μ b) (hs : en ω ρ μ' a = e) : (wd ω ρ μ).set a.toNat (ad ω ρ a, e) = wd ω ρ μ' := by
  apply List.ext_getElem?
  intro n
  by_cases hn : n = a.toNat
  · subst hn
    by_cases h : a.toNat < NA
    · rw [List.getElem?_set_self (by unfold wd; rw [List.length_map, List.length_range]; exact h), wd_n ω ρ μ' h, Int.toNat_of_nonneg h0, hs]
    · rw [wd_none ω ρ μ' h, List.getElem?_eq_none (by rw [List.length_set]; unfold wd; rw [List.length_map, List.length_range]; omega)]
  · rw [List.getElem?_set_ne (Ne.symm hn)]
    by_cases h : n < NA
    · rw [wd_n ω ρ μ h, wd_n ω ρ μ' h, ho n (by omega)]
    · rw [wd_none ω ρ μ h, wd_none ω ρ μ' h]
theorem fs_get {ω : Om} {ρ : Int → Nat} {μ : M3} {a k : Int} {ci : Nat} (hk : 0 ≤ k ∧ k < (NF ci : Int)) : ((List.range (NF ci)).map (fun (j : Nat) => cv ω ρ (FT ci j) (μ.1 a j)))[k.toNat]? = some (cv ω ρ (FT ci k) (μ.1 a k)) := by
  rw [List.getElem?_map, List.getElem?_range (by omega)]
  show some (cv ω ρ (FT ci (k.toNat : Int)) (μ.1 a (k.toNat : Int))) = _
  rw [Int.toNat_of_nonneg hk.1]
theorem fs_set {ω : Om} {ρ : Int → Nat} {μ : M3} {a k x : Int} {ci : Nat} (hk : 0 ≤ k ∧ k < (NF ci : Int)) : ((List.range (NF ci)).map (fun (j : Nat) => cv ω ρ (FT ci j) (μ.1 a j))).set k.toNat (cv ω ρ (FT ci k) x) = (List.range (NF ci)).map (fun (j : Nat) => cv ω ρ (FT ci j) ((sv μ a k x).1 a j)) := by
  apply List.ext_getElem?
  intro n
  have hk1 : k.toNat < NF ci := by omega
  by_cases hn : n = k.toNat
  · subst hn
    rw [List.getElem?_set_self (by rw [List.length_map, List.length_range]; exact hk1), List.getElem?_map, List.getElem?_range hk1]
    show _ = some (cv ω ρ (FT ci (k.toNat : Int)) ((sv μ a k x).1 a (k.toNat : Int)))
    rw [Int.toNat_of_nonneg hk.1, sv_s]
  · rw [List.getElem?_set_ne (Ne.symm hn), List.getElem?_map, List.getElem?_map]
    by_cases h : n < NF ci
    · rw [List.getElem?_range h]
      show some (cv ω ρ (FT ci (n : Int)) (μ.1 a (n : Int))) = some (cv ω ρ (FT ci (n : Int)) ((sv μ a k x).1 a (n : Int)))
      rw [sv_k μ x (by omega)]
    · rw [List.getElem?_eq_none (by rw [List.length_range]; omega)]
      rfl
/-! the words -/
def TG : List Cond := lw_tbl.filter goodWord
theorem tg {w : Cond} (h : w ∈ lw_tbl) (hg : goodWord w = true) : w ∈ TG := List.mem_filter.mpr ⟨h, hg⟩
theorem tg_good {w : Cond} (h : w ∈ TG) : goodWord w = true := (List.mem_filter.mp h).2
theorem tg_in {w : Cond} (h : w ∈ TG) : w ∈ lw_tbl := (List.mem_filter.mp h).1
/-! the state of the memory and the machine at a point of a walk -/
def Rg (μ : M3) : Prop := (∀ a k, (ty a k = 0 ∨ ty a k = 3) → ir (μ.1 a k)) ∧ (∀ a k, ty a k = 1 → jr (μ.1 a k)) ∧ ∀ a, 0 ≤ μ.2.1 a ∧ μ.2.1 a ≤ 2147483647
def isPr (p : Int) : Prop := p = 13 ∨ p = 71 ∨ p = 81 ∨ p = 91 ∨ p = 101
def Sr (μ : M3) : Prop := (∀ q ∈ SRL, μ.1 q.1 q.2.1 = q.2.2) ∧ (∀ q ∈ LNL, μ.2.1 q.1 = q.2) ∧ (∀ k, isPr (μ.1 12 k)) ∧ isPr (μ.1 0 6) ∧ isPr (μ.1 32 10) ∧ isPr (μ.1 23 2)
def Sm (ω : Om) (ρ : Int → Nat) (μ : M3) (s : State) (H : Heap) : Prop := va_P (ω.1, ω.2.1) vwCl (wd ω ρ μ) H ∧ va_D (fun q => oB ω ≤ q) (wd ω ρ μ) ∧ va_K (ω.1, ω.2.1) vwCl (tyL ω) s ∧ Rg μ ∧ Sr μ ∧ (H.size : Int) ≤ oB ω + μ.2.2.1 ∧ (tot H : Int) ≤ oT ω + μ.2.2.2 ∧ μ.2.2.1 ≤ 600000 ∧ μ.2.2.2 ≤ 7302250
abbrev WT (p : Program) (l : Launch) (e : Env) (R : Room) (s : State) (d0 : Drawn) (m : MethodId) (args : Array Value) (below : List Frame) (meth : Method) (c : Code) (H : Heap) (locs : List Loc) (Q : State → Prop) (g : JFrame) : Prop :=
  W p l e R (s.setDrawn d0) m args below meth c H locs (H.size - s.heap.size) (tot H - tot s.heap) Q g
section MEM
variable {p : Program} {l : Launch} {e : Env} {R : Room} {s : State} {d0 : Drawn} {m : MethodId} {args : Array Value} {below : List Frame} {meth : Method} {c : Code} {H : Heap} {locs : List Loc} {cells slots : Nat} {Q : State → Prop}
theorem WT.use {g : JFrame} (k : s.heap.size ≤ H.size → H.size ≤ s.heap.size + cells → tot s.heap ≤ tot H → tot H ≤ tot s.heap + slots → WT p l e R s d0 m args below meth c H locs Q g) : W p l e R (s.setDrawn d0) m args below meth c H locs cells slots Q g := by
  refine my_heap (fun b2 b3 b5 b6 => ?_)
  have b2 : s.heap.size ≤ H.size := b2
  have b3 : H.size ≤ s.heap.size + cells := b3
  have b5 : ((H.toList.drop s.heap.size).map (fun c => c.slots.size)).sum ≤ slots := b5
  have ht := tot_split (H0 := s.heap) (H := H) b2 b6
  refine my_tight (k := H.size - s.heap.size) (n := tot H - tot s.heap) ?_ ?_ (k b2 b3 (by omega) (by omega))
  · show H.size ≤ s.heap.size + _
    omega
  · show ((H.toList.drop s.heap.size).map (fun c => c.slots.size)).sum ≤ _
    omega
end MEM
