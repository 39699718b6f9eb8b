/-! the class's objects: what always holds between calls of methods, and the room that is used -/
def CPL : List (Int × Int) := [(14, 73024), (16, 18064), (17, 18064), (18, 18064), (34, 480264), (35, 480264), (36, 480264), (38, 40884), (39, 40884), (40, 40884), (42, 484), (43, 484), (44, 484), (46, 90400), (48, 10084), (49, 10084), (50, 10084), (51, 40200), (67, 884), (68, 884), (69, 884), (72, 73024), (74, 18064), (75, 18064), (76, 18064), (82, 73024), (84, 18064), (85, 18064), (86, 18064), (92, 73024), (94, 18064), (95, 18064), (96, 18064), (102, 73024), (104, 18064), (105, 18064), (106, 18064)]
def SLn (μ : M3) : Int := (CPL.map (fun q => μ.2.1 q.1)).sum
def RM (μ : M3) : Prop := (∀ q ∈ CPL, 16 ≤ μ.2.1 q.1 ∧ μ.2.1 q.1 ≤ q.2) ∧ μ.2.2.2 ≤ 700000 + 2 * SLn μ ∧ 16 * μ.2.2.1 ≤ 3200 + SLn μ
theorem sum_le (g : Int → Int) : ∀ l : List (Int × Int), (∀ q ∈ l, g q.1 ≤ q.2) → (l.map (fun q => g q.1)).sum ≤ (l.map (fun q => q.2)).sum
  | [], _ => by simp
  | q :: l, h => by
    have h1 := sum_le g l (fun x hx => h x (List.mem_cons_of_mem _ hx))
    have h2 := h q (List.mem_cons_self ..)
    simp only [List.map_cons, List.sum_cons]; omega
theorem sum_same (g : Int → Int) (b n : Int) : ∀ l : List (Int × Int), (∀ q ∈ l, q.1 ≠ b) → (l.map (fun q => if q.1 = b then n else g q.1)).sum = (l.map (fun q => g q.1)).sum
  | [], _ => rfl
  | q :: l, h => by
    have h1 := sum_same g b n l (fun x hx => h x (List.mem_cons_of_mem _ hx))
    simp only [List.map_cons, List.sum_cons, h1, if_neg (h q (List.mem_cons_self ..))]
theorem sum_one (g : Int → Int) (b n : Int) : ∀ l : List (Int × Int), (l.map (fun q => q.1)).Nodup → b ∈ l.map (fun q => q.1) → (l.map (fun q => if q.1 = b then n else g q.1)).sum = (l.map (fun q => g q.1)).sum - g b + n
  | [], _, h => by cases h
  | q :: l, hn, h => by
    rw [List.map_cons, List.nodup_cons] at hn
    simp only [List.map_cons, List.sum_cons]
    by_cases e : q.1 = b
    · subst e
      rw [if_pos rfl, sum_same g q.1 n l (fun x hx z => hn.1 (z ▸ List.mem_map_of_mem hx))]
      omega
    · rw [if_neg e, sum_one g b n l hn.2 (by
        rcases List.mem_cons.mp h with h | h
        · exact absurd h.symm e
        · exact h)]
      omega
theorem CPL_nd : (CPL.map (fun q => q.1)).Nodup := by decide +kernel
theorem RM.sum {μ : M3} (h : RM μ) : SLn μ ≤ 2364480 := Int.le_trans (sum_le (fun b => μ.2.1 b) CPL (fun q hq => (h.1 q hq).2)) (by decide +kernel)
theorem RM.gro {μ : M3} (h : RM μ) {b cap n : Int} {f : Int → Int} (hb : (b, cap) ∈ CPL) (h2 : 2 * μ.2.1 b ≤ n) (hn : n ≤ cap) : RM (gro μ b n f) := by
  have hu : ∀ q ∈ CPL, q.1 = b → q.2 = cap := by
    have hd : ∀ q1 ∈ CPL, ∀ q2 ∈ CPL, q1.1 = q2.1 → q1.2 = q2.2 := by decide +kernel
    exact fun q hq e => hd q hq (b, cap) hb e
  have e1 : SLn (_root_.Jvm.Pilot.CFourTonguesLaw_law_r5116_030cba.gro μ b n f) = SLn μ - μ.2.1 b + n := sum_one (fun b => μ.2.1 b) b n CPL CPL_nd (List.mem_map_of_mem (f := fun (q : Int × Int) => q.1) hb)
  have h16 := (h.1 _ hb).1
  have h16 : 16 ≤ μ.2.1 b := h16
  obtain ⟨h3, h4, h5⟩ := h
  refine ⟨fun q hq => ?_, ?_, ?_⟩
  · show 16 ≤ (if q.1 = b then n else μ.2.1 q.1) ∧ (if q.1 = b then n else μ.2.1 q.1) ≤ q.2
    by_cases e : q.1 = b
    · rw [if_pos e, hu q hq e]; omega
    · rw [if_neg e]; exact h3 q hq
  · show μ.2.2.2 + n ≤ _
    rw [e1]; omega
  · show 16 * (μ.2.2.1 + 1) ≤ _
    rw [e1]; omega
theorem RM.ok {μ : M3} (h : RM μ) : μ.2.2.1 ≤ 600000 ∧ μ.2.2.2 ≤ 7302250 := by
  have := h.sum
  obtain ⟨h3, h4, h5⟩ := h
  omega
theorem RM.roomy {μ : M3} (h : RM μ) {b cap n : Int} (hb : (b, cap) ∈ CPL) (h2 : 2 * μ.2.1 b ≤ n) (hn : n ≤ cap) : μ.2.2.1 + 1 ≤ 600000 ∧ μ.2.2.2 + n ≤ 7302250 := (h.gro (f := fun _ => 0) hb h2 hn).ok
theorem RM.same {μ μ' : M3} (h : RM μ) (e : μ'.2 = μ.2) : RM μ' := by
  unfold RM SLn at *
  rw [e]; exact h
theorem isPr.ly1 {p : Int} (h : isPr p) : LY (p + 1) = 100 := by
  rcases h with rfl | rfl | rfl | rfl | rfl <;> rfl
theorem isPr.ly6 {p : Int} (h : isPr p) : LY (p + 6) = 101 := by
  rcases h with rfl | rfl | rfl | rfl | rfl <;> rfl
theorem isPr.ly7 {p : Int} (h : isPr p) : LY (p + 7) = 100 := by
  rcases h with rfl | rfl | rfl | rfl | rfl <;> rfl
theorem isPr.ly8 {p : Int} (h : isPr p) : LY (p + 8) = 100 := by
  rcases h with rfl | rfl | rfl | rfl | rfl <;> rfl
theorem isPr.ly9 {p : Int} (h : isPr p) : LY (p + 9) = 100 := by
  rcases h with rfl | rfl | rfl | rfl | rfl <;> rfl
theorem isPr.hq {p : Int} (h : isPr p) (ω : Om) (ρ : Int → Nat) : ad ω ρ p = oP ω p := by
  rcases h with rfl | rfl | rfl | rfl | rfl <;> rfl
theorem isPr.hq1 {p : Int} (h : isPr p) (ω : Om) (ρ : Int → Nat) : ad ω ρ (p + 1) = ρ (p + 1) := by
  rcases h with rfl | rfl | rfl | rfl | rfl <;> rfl
theorem isPr.hq6 {p : Int} (h : isPr p) (ω : Om) (ρ : Int → Nat) : ad ω ρ (p + 6) = oP ω (p + 6) := by
  rcases h with rfl | rfl | rfl | rfl | rfl <;> rfl
theorem isPr.hq7 {p : Int} (h : isPr p) (ω : Om) (ρ : Int → Nat) : ad ω ρ (p + 7) = oP ω (p + 7) := by
  rcases h with rfl | rfl | rfl | rfl | rfl <;> rfl
theorem isPr.hq8 {p : Int} (h : isPr p) (ω : Om) (ρ : Int → Nat) : ad ω ρ (p + 8) = oP ω (p + 8) := by
  rcases h with rfl | rfl | rfl | rfl | rfl <;> rfl
theorem isPr.hq9 {p : Int} (h : isPr p) (ω : Om) (ρ : Int → Nat) : ad ω ρ (p + 9) = oP ω (p + 9) := by
  rcases h with rfl | rfl | rfl | rfl | rfl <;> rfl
theorem isPr.t1 {p : Int} (h : isPr p) : ty p 1 = 0 := by
  rcases h with rfl | rfl | rfl | rfl | rfl <;> rfl
theorem isPr.t7 {p : Int} (h : isPr p) : ty p 7 = 0 := by
  rcases h with rfl | rfl | rfl | rfl | rfl <;> rfl
theorem isPr.ta {p : Int} (h : isPr p) {i : Int} : ty (p + 1) i = 0 := by
  unfold ty; rw [h.ly1]; rfl
theorem isPr.ta6 {p : Int} (h : isPr p) {i : Int} : ty (p + 6) i = 1 := by
  unfold ty; rw [h.ly6]; rfl
theorem isPr.ta7 {p : Int} (h : isPr p) {i : Int} : ty (p + 7) i = 0 := by
  unfold ty; rw [h.ly7]; rfl
theorem isPr.ta8 {p : Int} (h : isPr p) {i : Int} : ty (p + 8) i = 0 := by
  unfold ty; rw [h.ly8]; rfl
theorem isPr.ta9 {p : Int} (h : isPr p) {i : Int} : ty (p + 9) i = 0 := by
  unfold ty; rw [h.ly9]; rfl
theorem isPr.s0 {p : Int} (h : isPr p) : (p, 0, p + 1) ∈ SRL := by
  rcases h with rfl | rfl | rfl | rfl | rfl <;> decide +kernel
theorem isPr.s2 {p : Int} (h : isPr p) : (p, 2, p + 2) ∈ SRL := by
  rcases h with rfl | rfl | rfl | rfl | rfl <;> decide +kernel
theorem isPr.s3 {p : Int} (h : isPr p) : (p, 3, p + 6) ∈ SRL := by
  rcases h with rfl | rfl | rfl | rfl | rfl <;> decide +kernel
theorem isPr.s4 {p : Int} (h : isPr p) : (p, 4, p + 7) ∈ SRL := by
  rcases h with rfl | rfl | rfl | rfl | rfl <;> decide +kernel
theorem isPr.s5 {p : Int} (h : isPr p) : (p, 5, p + 8) ∈ SRL := by
  rcases h with rfl | rfl | rfl | rfl | rfl <;> decide +kernel
theorem isPr.s6 {p : Int} (h : isPr p) : (p, 6, p + 9) ∈ SRL := by
  rcases h with rfl | rfl | rfl | rfl | rfl <;> decide +kernel
theorem isPr.l6 {p : Int} (h : isPr p) : (p + 6, 40) ∈ LNL := by
  rcases h with rfl | rfl | rfl | rfl | rfl <;> decide +kernel
theorem isPr.l7 {p : Int} (h : isPr p) : (p + 7, 40) ∈ LNL := by
  rcases h with rfl | rfl | rfl | rfl | rfl <;> decide +kernel
theorem isPr.l8 {p : Int} (h : isPr p) : (p + 8, 40) ∈ LNL := by
  rcases h with rfl | rfl | rfl | rfl | rfl <;> decide +kernel
theorem isPr.l9 {p : Int} (h : isPr p) : (p + 9, 40) ∈ LNL := by
  rcases h with rfl | rfl | rfl | rfl | rfl <;> decide +kernel
theorem isPr.row {p : Int} (h : isPr p) : isRow (p + 2) := by
  rcases h with rfl | rfl | rfl | rfl | rfl <;> (unfold isRow; decide)
theorem isPr.cap {p : Int} (h : isPr p) : (p + 1, 73024) ∈ CPL := by
  rcases h with rfl | rfl | rfl | rfl | rfl <;> decide +kernel
theorem isPr.u0 {p : Int} (h : isPr p) : ∀ q ∈ SRL, q.2.2 = p + 1 → q.1 = p ∧ q.2.1 = ((0 : Nat) : Int) := by
  rcases h with rfl | rfl | rfl | rfl | rfl <;> decide +kernel
theorem isPr.n {p : Int} (h : isPr p) : ∀ q ∈ LNL, q.1 ≠ p + 1 := by
  rcases h with rfl | rfl | rfl | rfl | rfl <;> decide +kernel
theorem isPr.z {p : Int} (h : isPr p) : RZ (p + 1) = true := by
  rcases h with rfl | rfl | rfl | rfl | rfl <;> decide +kernel
theorem isPr.br {p : Int} (h : isPr p) : BR (p + 2) = 9000 := by
  rcases h with rfl | rfl | rfl | rfl | rfl <;> decide +kernel
theorem isRow.cap {r : Int} (h : isRow r) : (r + 1, 2 * BR r + 64) ∈ CPL ∧ (r + 2, 2 * BR r + 64) ∈ CPL ∧ (r + 3, 2 * BR r + 64) ∈ CPL := by
  rcases h with rfl | rfl | rfl | rfl | rfl | rfl | rfl | rfl | rfl | rfl <;> decide +kernel
theorem isRow.br {r : Int} (h : isRow r) : 210 ≤ BR r ∧ BR r ≤ 240100 := by
  rcases h with rfl | rfl | rfl | rfl | rfl | rfl | rfl | rfl | rfl | rfl <;> decide +kernel
theorem Gd.ll {p : Program} {R : Room} {s : State} {d0 : Drawn} {m : MethodId} {args : Array Value} {c : Code} {H : Heap} {locs : List Loc} {cc : ByteArray} {nL : Nat} {own : String} {ω : Om} {ρ : Int → Nat} {μ : M3} (G : Gd ω ρ μ p m c cc nL s args own d0 R H locs) {a n : Int} (h : (a, n) ∈ LNL) : μ.2.1 a = n := G.2.2.1.2.2.2.2.1.2.1 (a, n) h
theorem Gd.sr0 {p : Program} {R : Room} {s : State} {d0 : Drawn} {m : MethodId} {args : Array Value} {c : Code} {H : Heap} {locs : List Loc} {cc : ByteArray} {nL : Nat} {own : String} {ω : Om} {ρ : Int → Nat} {μ : M3} (G : Gd ω ρ μ p m c cc nL s args own d0 R H locs) : Sr μ := G.2.2.1.2.2.2.2.1
def pk (μ : M3) (p : Int) : Prop := 0 ≤ μ.1 p 1 ∧ 4 * μ.1 p 1 ≤ μ.2.1 (p + 1) ∧ 0 ≤ μ.1 p 7 ∧ μ.1 p 7 ≤ 40
def nums (μ : M3) : Prop := (0 ≤ μ.1 0 1 ∧ μ.1 0 1 ≤ 3000) ∧ (0 ≤ μ.1 2 3 ∧ μ.1 2 3 ≤ 51) ∧ (0 ≤ μ.1 2 4 ∧ μ.1 2 4 ≤ 51) ∧ (0 ≤ μ.1 6 5 ∧ μ.1 6 5 ≤ 100) ∧ (0 ≤ μ.1 52 7 ∧ μ.1 52 7 ≤ 24) ∧ (0 ≤ μ.1 60 6 ∧ μ.1 60 6 ≤ 400) ∧ (0 ≤ μ.1 45 1 ∧ 9 * μ.1 45 1 ≤ μ.2.1 46) ∧ (0 ≤ μ.1 45 4 ∧ 2 * μ.1 45 4 ≤ μ.2.1 51) ∧ (0 ≤ μ.1 23 5 ∧ μ.1 23 5 ≤ 1000) ∧ (0 ≤ μ.1 26 6 ∧ μ.1 26 6 ≤ 3001) ∧ (0 ≤ μ.1 26 7 ∧ μ.1 26 7 ≤ 3000) ∧ (0 ≤ μ.1 26 9 ∧ μ.1 26 9 ≤ 3000) ∧ (-1 ≤ μ.1 26 10 ∧ μ.1 26 10 ≤ 3000)
def IC (μ : M3) : Prop := (∀ r, isRow r → rk μ r) ∧ (∀ p, isPr p → pk μ p) ∧ nums μ ∧ RM μ
theorem IC.row {μ : M3} (h : IC μ) {r : Int} (hr : isRow r) : rk μ r := h.1 r hr
theorem IC.pr {μ : M3} (h : IC μ) {p : Int} (hp : isPr p) : pk μ p := h.2.1 p hp
theorem IC.nm {μ : M3} (h : IC μ) : nums μ := h.2.2.1
theorem IC.rm {μ : M3} (h : IC μ) : RM μ := h.2.2.2
theorem IC.mk2 {μ μ' : M3} (h : IC μ) (h2 : μ'.2 = μ.2) (hr : ∀ r, isRow r → μ'.1 r 3 = μ.1 r 3) (hp : ∀ p, isPr p → μ'.1 p 1 = μ.1 p 1 ∧ μ'.1 p 7 = μ.1 p 7) (hn : nums μ') : IC μ' := by
  refine ⟨fun r q => ?_, fun p q => ?_, hn, h.rm.same h2⟩
  · have := h.row q
    unfold rk at *
    rw [h2, hr r q]; exact this
  · have := h.pr q
    unfold pk at *
    rw [h2, (hp p q).1, (hp p q).2]; exact this
def FPL : List (Int × Int) := [(15, 3), (33, 3), (37, 3), (41, 3), (47, 3), (66, 3), (73, 3), (83, 3), (93, 3), (103, 3), (13, 1), (13, 7), (71, 1), (71, 7), (81, 1), (81, 7), (91, 1), (91, 7), (101, 1), (101, 7), (0, 1), (2, 3), (2, 4), (6, 5), (52, 7), (60, 6), (45, 1), (45, 4), (23, 5), (26, 6), (26, 7), (26, 9), (26, 10)]
theorem FPL_r {r : Int} (h : isRow r) : (r, 3) ∈ FPL := by
  rcases h with rfl | rfl | rfl | rfl | rfl | rfl | rfl | rfl | rfl | rfl <;> decide +kernel
theorem FPL_p {p : Int} (h : isPr p) : (p, 1) ∈ FPL ∧ (p, 7) ∈ FPL := by
  rcases h with rfl | rfl | rfl | rfl | rfl <;> decide +kernel
theorem IC.pun {μ : M3} (h : IC μ) {a k x : Int} (hs : ∀ b j, (b, j) ∈ FPL → ¬ (b = a ∧ j = k)) : IC (sv μ a k x) := by
  have e : ∀ b j, (b, j) ∈ FPL → (sv μ a k x).1 b j = μ.1 b j := fun b j hj => sv_n μ (hs b j hj)
  refine h.mk2 rfl (fun r hr => e r 3 (FPL_r hr)) (fun p hp => ⟨e p 1 (FPL_p hp).1, e p 7 (FPL_p hp).2⟩) ?_
  have hn := h.nm
  unfold nums at *
  rw [e 0 1 (by decide +kernel), e 2 3 (by decide +kernel), e 2 4 (by decide +kernel), e 6 5 (by decide +kernel), e 52 7 (by decide +kernel), e 60 6 (by decide +kernel), e 45 1 (by decide +kernel), e 45 4 (by decide +kernel), e 23 5 (by decide +kernel), e 26 6 (by decide +kernel), e 26 7 (by decide +kernel), e 26 9 (by decide +kernel), e 26 10 (by decide +kernel)]
  exact hn
theorem IC.put {μ : M3} (h : IC μ) {a k x : Int} (hs : FPL.contains (a, k) = false) : IC (sv μ a k x) := h.pun (fun b j hj z => by
  rw [← z.1, ← z.2, List.contains_iff_mem.mpr hj] at hs; cases hs)
theorem FPL_ly : ∀ q ∈ FPL, LY q.1 < 100 := by decide +kernel
theorem IC.pua {μ : M3} (h : IC μ) {a k x : Int} (ha : 100 ≤ LY a) : IC (sv μ a k x) := h.pun (fun b j hj z => by
  have : LY b < 100 := FPL_ly _ hj
  rw [← z.1] at ha
  omega)
theorem isRow.ap {r q : Int} (hr : isRow r) (hq : isRow q) (hn : r ≠ q) : r + 3 < q ∨ q + 3 < r := by
  rcases hr with rfl | rfl | rfl | rfl | rfl | rfl | rfl | rfl | rfl | rfl <;> rcases hq with rfl | rfl | rfl | rfl | rfl | rfl | rfl | rfl | rfl | rfl <;> omega
theorem isPr.ap {p q : Int} (hp : isPr p) (hq : isPr q) (hn : p ≠ q) : p + 9 < q ∨ q + 9 < p := by
  rcases hp with rfl | rfl | rfl | rfl | rfl <;> rcases hq with rfl | rfl | rfl | rfl | rfl <;> omega
theorem isPr.apr {p q : Int} (hp : isPr p) (hq : isRow q) : p + 1 < q ∨ q + 3 < p := by
  rcases hp with rfl | rfl | rfl | rfl | rfl <;> rcases hq with rfl | rfl | rfl | rfl | rfl | rfl | rfl | rfl | rfl | rfl <;> omega
theorem isRow.apn {q : Int} (hq : isRow q) : (0 < q ∨ q + 3 < 0) ∧ (2 < q ∨ q + 3 < 2) ∧ (6 < q ∨ q + 3 < 6) ∧ (23 < q ∨ q + 3 < 23) ∧ (26 < q ∨ q + 3 < 26) ∧ (45 < q ∨ q + 3 < 45) ∧ (46 < q ∨ q + 3 < 46) ∧ (51 < q ∨ q + 3 < 51) ∧ (52 < q ∨ q + 3 < 52) ∧ (60 < q ∨ q + 3 < 60) := by
  rcases hq with rfl | rfl | rfl | rfl | rfl | rfl | rfl | rfl | rfl | rfl <;> decide
theorem isPr.apn {q : Int} (hq : isPr q) : (0 < q ∨ q + 1 < 0) ∧ (2 < q ∨ q + 1 < 2) ∧ (6 < q ∨ q + 1 < 6) ∧ (23 < q ∨ q + 1 < 23) ∧ (26 < q ∨ q + 1 < 26) ∧ (45 < q ∨ q + 1 < 45) ∧ (46 < q ∨ q + 1 < 46) ∧ (51 < q ∨ q + 1 < 51) ∧ (52 < q ∨ q + 1 < 52) ∧ (60 < q ∨ q + 1 < 60) := by
  rcases hq with rfl | rfl | rfl | rfl | rfl <;> decide
/-- a row that was changed, perhaps grown -/
theorem IC.res {μ μ' : M3} (h : IC μ) {q : Int} (hq : isRow q) (F : Fr [q, q + 1, q + 2, q + 3] μ μ') (hk : rk μ' q) (hm : RM μ') : IC μ' := by
  have e : ∀ b, b < q ∨ q + 3 < b → (∀ j, μ'.1 b j = μ.1 b j) ∧ μ'.2.1 b = μ.2.1 b := fun b hb =>
    have hn : b ∉ [q, q + 1, q + 2, q + 3] := by simp; omega
    ⟨F.1 b hn, F.2 b hn⟩
  refine ⟨fun r hr => ?_, fun p hp => ?_, ?_, hm⟩
  · by_cases z : r = q
    · rw [z]; exact hk
    · have h1 := hr.ap hq z
      have h2 := h.row hr
      unfold rk at *
      rw [(e r (by omega)).1, (e (r + 1) (by omega)).2, (e (r + 2) (by omega)).2, (e (r + 3) (by omega)).2]
      exact h2
  · have h1 := hp.apr hq
    have h2 := h.pr hp
    unfold pk at *
    rw [(e p (by omega)).1, (e p (by omega)).1, (e (p + 1) (by omega)).2]
    exact h2
  · have h2 := h.nm
    have h1 := hq.apn
    unfold nums at *
    rw [(e 0 (by omega)).1 1, (e 2 (by omega)).1 3, (e 2 (by omega)).1 4, (e 6 (by omega)).1 5, (e 52 (by omega)).1 7, (e 60 (by omega)).1 6, (e 45 (by omega)).1 1, (e 45 (by omega)).1 4, (e 23 (by omega)).1 5, (e 26 (by omega)).1 6, (e 26 (by omega)).1 7, (e 26 (by omega)).1 9, (e 26 (by omega)).1 10, (e 46 (by omega)).2, (e 51 (by omega)).2]
    exact h2
theorem IC.resP {μ μ' : M3} (h : IC μ) {q : Int} (hq : isPr q) (F : Fr [q, q + 1] μ μ') (hk : pk μ' q) (hm : RM μ') : IC μ' := by
  have e : ∀ b, b < q ∨ q + 1 < b → (∀ j, μ'.1 b j = μ.1 b j) ∧ μ'.2.1 b = μ.2.1 b := fun b hb =>
    have hn : b ∉ [q, q + 1] := by simp; omega
    ⟨F.1 b hn, F.2 b hn⟩
  refine ⟨fun r hr => ?_, fun p hp => ?_, ?_, hm⟩
  · have h1 := hq.apr hr
    have h2 := h.row hr
    unfold rk at *
    rw [(e r (by omega)).1, (e (r + 1) (by omega)).2, (e (r + 2) (by omega)).2, (e (r + 3) (by omega)).2]
    exact h2
  · by_cases z : p = q
    · rw [z]; exact hk
    · have h1 := hp.ap hq z
      have h2 := h.pr hp
      unfold pk at *
      rw [(e p (by omega)).1, (e p (by omega)).1, (e (p + 1) (by omega)).2]
      exact h2
  · have h2 := h.nm
    have h1 := hq.apn
    unfold nums at *
    rw [(e 0 (by omega)).1 1, (e 2 (by omega)).1 3, (e 2 (by omega)).1 4, (e 6 (by omega)).1 5, (e 52 (by omega)).1 7, (e 60 (by omega)).1 6, (e 45 (by omega)).1 1, (e 45 (by omega)).1 4, (e 23 (by omega)).1 5, (e 26 (by omega)).1 6, (e 26 (by omega)).1 7, (e 26 (by omega)).1 9, (e 26 (by omega)).1 10, (e 46 (by omega)).2, (e 51 (by omega)).2]
    exact h2
/-- the failures' own arrays -/
theorem IC.resF {μ μ' : M3} (h : IC μ) (F : Fr [45, 46, 51] μ μ') (h1 : 0 ≤ μ'.1 45 1 ∧ 9 * μ'.1 45 1 ≤ μ'.2.1 46) (h2 : 0 ≤ μ'.1 45 4 ∧ 2 * μ'.1 45 4 ≤ μ'.2.1 51) (hm : RM μ') : IC μ' := by
  refine ⟨fun r hr => ?_, fun p hp => ?_, ?_, hm⟩
  · have h2 := h.row hr
    unfold rk at *
    rcases hr with rfl | rfl | rfl | rfl | rfl | rfl | rfl | rfl | rfl | rfl <;> (rw [F.1 _ (by decide), F.2 _ (by decide), F.2 _ (by decide), F.2 _ (by decide)]; exact h2)
  · have h2 := h.pr hp
    unfold pk at *
    rcases hp with rfl | rfl | rfl | rfl | rfl <;> (rw [F.1 _ (by decide), F.1 _ (by decide), F.2 _ (by decide)]; exact h2)
  · have h3 := h.nm
    unfold nums at *
    rw [F.1 0 (by decide) 1, F.1 2 (by decide) 3, F.1 2 (by decide) 4, F.1 6 (by decide) 5, F.1 52 (by decide) 7, F.1 60 (by decide) 6, F.1 23 (by decide) 5, F.1 26 (by decide) 6, F.1 26 (by decide) 7, F.1 26 (by decide) 9, F.1 26 (by decide) 10]
    obtain ⟨a1, a2, a3, a4, a5, a6, -, -, a9, a10, a11, a12, a13⟩ := h3
    exact ⟨a1, a2, a3, a4, a5, a6, h1, h2, a9, a10, a11, a12, a13⟩
theorem IC.rc {μ : M3} (h : IC μ) {q x : Int} (hq : isRow q) (hx : 0 ≤ x ∧ x ≤ μ.2.1 (q + 1) ∧ x ≤ BR q) : IC (sv μ q 3 x) := by
  refine h.res hq (Fr.put Fr.rf (by simp)) ?_ (h.rm.same rfl)
  have h2 := h.row hq
  unfold rk at *
  rw [sv_s]
  exact ⟨hx.1, hx.2.1, h2.2.2.1, h2.2.2.2.1, h2.2.2.2.2.1, hx.2.2⟩
theorem IC.pl {μ : M3} (h : IC μ) {q x : Int} (hq : isPr q) (hx : 0 ≤ x ∧ 4 * x ≤ μ.2.1 (q + 1)) : IC (sv μ q 1 x) := by
  refine h.resP hq (Fr.put Fr.rf (by simp)) ?_ (h.rm.same rfl)
  have h2 := h.pr hq
  unfold pk at *
  rw [sv_s, sv_k μ x (by decide)]
  exact ⟨hx.1, hx.2, h2.2.2⟩
theorem IC.pf {μ : M3} (h : IC μ) {q x : Int} (hq : isPr q) (hx : 0 ≤ x ∧ x ≤ 40) : IC (sv μ q 7 x) := by
  refine h.resP hq (Fr.put Fr.rf (by simp)) ?_ (h.rm.same rfl)
  have h2 := h.pr hq
  unfold pk at *
  rw [sv_s, sv_k μ x (by decide)]
  exact ⟨h2.1, h2.2.1, hx.1, hx.2⟩
theorem IC.n_0_1 {μ : M3} (h : IC μ) {x : Int} (hx : 0 ≤ x ∧ x ≤ 3000) : IC (sv μ 0 1 x) := by
  have e : ∀ b j, (b, j) ∈ FPL → ¬ (b = 0 ∧ j = 1) → (sv μ 0 1 x).1 b j = μ.1 b j := fun b j _ hj => sv_n μ hj
  refine h.mk2 rfl (fun r hr => e r 3 (FPL_r hr) (by rcases hr with rfl | rfl | rfl | rfl | rfl | rfl | rfl | rfl | rfl | rfl <;> decide)) (fun p hp => ⟨e p 1 (FPL_p hp).1 (by rcases hp with rfl | rfl | rfl | rfl | rfl <;> decide), e p 7 (FPL_p hp).2 (by rcases hp with rfl | rfl | rfl | rfl | rfl <;> decide)⟩) ?_
  have hn := h.nm
  unfold nums at *
  rw [sv_n (j := 3) (b := 2) μ (by decide), sv_n (j := 4) (b := 2) μ (by decide), sv_n (j := 5) (b := 6) μ (by decide), sv_n (j := 7) (b := 52) μ (by decide), sv_n (j := 6) (b := 60) μ (by decide), sv_n (j := 1) (b := 45) μ (by decide), sv_n (j := 4) (b := 45) μ (by decide), sv_n (j := 5) (b := 23) μ (by decide), sv_n (j := 6) (b := 26) μ (by decide), sv_n (j := 7) (b := 26) μ (by decide), sv_n (j := 9) (b := 26) μ (by decide), sv_n (j := 10) (b := 26) μ (by decide), sv_s]
  obtain ⟨a0, a1, a2, a3, a4, a5, a6, a7, a8, a9, a10, a11, a12⟩ := hn
  exact ⟨hx, a1, a2, a3, a4, a5, a6, a7, a8, a9, a10, a11, a12⟩
theorem IC.n_2_3 {μ : M3} (h : IC μ) {x : Int} (hx : 0 ≤ x ∧ x ≤ 51) : IC (sv μ 2 3 x) := by
  have e : ∀ b j, (b, j) ∈ FPL → ¬ (b = 2 ∧ j = 3) → (sv μ 2 3 x).1 b j = μ.1 b j := fun b j _ hj => sv_n μ hj
  refine h.mk2 rfl (fun r hr => e r 3 (FPL_r hr) (by rcases hr with rfl | rfl | rfl | rfl | rfl | rfl | rfl | rfl | rfl | rfl <;> decide)) (fun p hp => ⟨e p 1 (FPL_p hp).1 (by rcases hp with rfl | rfl | rfl | rfl | rfl <;> decide), e p 7 (FPL_p hp).2 (by rcases hp with rfl | rfl | rfl | rfl | rfl <;> decide)⟩) ?_
  have hn := h.nm
  unfold nums at *
  rw [sv_n (j := 1) (b := 0) μ (by decide), sv_n (j := 4) (b := 2) μ (by decide), sv_n (j := 5) (b := 6) μ (by decide), sv_n (j := 7) (b := 52) μ (by decide), sv_n (j := 6) (b := 60) μ (by decide), sv_n (j := 1) (b := 45) μ (by decide), sv_n (j := 4) (b := 45) μ (by decide), sv_n (j := 5) (b := 23) μ (by decide), sv_n (j := 6) (b := 26) μ (by decide), sv_n (j := 7) (b := 26) μ (by decide), sv_n (j := 9) (b := 26) μ (by decide), sv_n (j := 10) (b := 26) μ (by decide), sv_s]
  obtain ⟨a0, a1, a2, a3, a4, a5, a6, a7, a8, a9, a10, a11, a12⟩ := hn
  exact ⟨a0, hx, a2, a3, a4, a5, a6, a7, a8, a9, a10, a11, a12⟩
theorem IC.n_2_4 {μ : M3} (h : IC μ) {x : Int} (hx : 0 ≤ x ∧ x ≤ 51) : IC (sv μ 2 4 x) := by
  have e : ∀ b j, (b, j) ∈ FPL → ¬ (b = 2 ∧ j = 4) → (sv μ 2 4 x).1 b j = μ.1 b j := fun b j _ hj => sv_n μ hj
  refine h.mk2 rfl (fun r hr => e r 3 (FPL_r hr) (by rcases hr with rfl | rfl | rfl | rfl | rfl | rfl | rfl | rfl | rfl | rfl <;> decide)) (fun p hp => ⟨e p 1 (FPL_p hp).1 (by rcases hp with rfl | rfl | rfl | rfl | rfl <;> decide), e p 7 (FPL_p hp).2 (by rcases hp with rfl | rfl | rfl | rfl | rfl <;> decide)⟩) ?_
  have hn := h.nm
  unfold nums at *
  rw [sv_n (j := 1) (b := 0) μ (by decide), sv_n (j := 3) (b := 2) μ (by decide), sv_n (j := 5) (b := 6) μ (by decide), sv_n (j := 7) (b := 52) μ (by decide), sv_n (j := 6) (b := 60) μ (by decide), sv_n (j := 1) (b := 45) μ (by decide), sv_n (j := 4) (b := 45) μ (by decide), sv_n (j := 5) (b := 23) μ (by decide), sv_n (j := 6) (b := 26) μ (by decide), sv_n (j := 7) (b := 26) μ (by decide), sv_n (j := 9) (b := 26) μ (by decide), sv_n (j := 10) (b := 26) μ (by decide), sv_s]
  obtain ⟨a0, a1, a2, a3, a4, a5, a6, a7, a8, a9, a10, a11, a12⟩ := hn
  exact ⟨a0, a1, hx, a3, a4, a5, a6, a7, a8, a9, a10, a11, a12⟩
theorem IC.n_6_5 {μ : M3} (h : IC μ) {x : Int} (hx : 0 ≤ x ∧ x ≤ 100) : IC (sv μ 6 5 x) := by
  have e : ∀ b j, (b, j) ∈ FPL → ¬ (b = 6 ∧ j = 5) → (sv μ 6 5 x).1 b j = μ.1 b j := fun b j _ hj => sv_n μ hj
  refine h.mk2 rfl (fun r hr => e r 3 (FPL_r hr) (by rcases hr with rfl | rfl | rfl | rfl | rfl | rfl | rfl | rfl | rfl | rfl <;> decide)) (fun p hp => ⟨e p 1 (FPL_p hp).1 (by rcases hp with rfl | rfl | rfl | rfl | rfl <;> decide), e p 7 (FPL_p hp).2 (by rcases hp with rfl | rfl | rfl | rfl | rfl <;> decide)⟩) ?_
  have hn := h.nm
  unfold nums at *
  rw [sv_n (j := 1) (b := 0) μ (by decide), sv_n (j := 3) (b := 2) μ (by decide), sv_n (j := 4) (b := 2) μ (by decide), sv_n (j := 7) (b := 52) μ (by decide), sv_n (j := 6) (b := 60) μ (by decide), sv_n (j := 1) (b := 45) μ (by decide), sv_n (j := 4) (b := 45) μ (by decide), sv_n (j := 5) (b := 23) μ (by decide), sv_n (j := 6) (b := 26) μ (by decide), sv_n (j := 7) (b := 26) μ (by decide), sv_n (j := 9) (b := 26) μ (by decide), sv_n (j := 10) (b := 26) μ (by decide), sv_s]
  obtain ⟨a0, a1, a2, a3, a4, a5, a6, a7, a8, a9, a10, a11, a12⟩ := hn
  exact ⟨a0, a1, a2, hx, a4, a5, a6, a7, a8, a9, a10, a11, a12⟩
theorem IC.n_52_7 {μ : M3} (h : IC μ) {x : Int} (hx : 0 ≤ x ∧ x ≤ 24) : IC (sv μ 52 7 x) := by
  have e : ∀ b j, (b, j) ∈ FPL → ¬ (b = 52 ∧ j = 7) → (sv μ 52 7 x).1 b j = μ.1 b j := fun b j _ hj => sv_n μ hj
  refine h.mk2 rfl (fun r hr => e r 3 (FPL_r hr) (by rcases hr with rfl | rfl | rfl | rfl | rfl | rfl | rfl | rfl | rfl | rfl <;> decide)) (fun p hp => ⟨e p 1 (FPL_p hp).1 (by rcases hp with rfl | rfl | rfl | rfl | rfl <;> decide), e p 7 (FPL_p hp).2 (by rcases hp with rfl | rfl | rfl | rfl | rfl <;> decide)⟩) ?_
  have hn := h.nm
  unfold nums at *
  rw [sv_n (j := 1) (b := 0) μ (by decide), sv_n (j := 3) (b := 2) μ (by decide), sv_n (j := 4) (b := 2) μ (by decide), sv_n (j := 5) (b := 6) μ (by decide), sv_n (j := 6) (b := 60) μ (by decide), sv_n (j := 1) (b := 45) μ (by decide), sv_n (j := 4) (b := 45) μ (by decide), sv_n (j := 5) (b := 23) μ (by decide), sv_n (j := 6) (b := 26) μ (by decide), sv_n (j := 7) (b := 26) μ (by decide), sv_n (j := 9) (b := 26) μ (by decide), sv_n (j := 10) (b := 26) μ (by decide), sv_s]
  obtain ⟨a0, a1, a2, a3, a4, a5, a6, a7, a8, a9, a10, a11, a12⟩ := hn
  exact ⟨a0, a1, a2, a3, hx, a5, a6, a7, a8, a9, a10, a11, a12⟩
theorem IC.n_60_6 {μ : M3} (h : IC μ) {x : Int} (hx : 0 ≤ x ∧ x ≤ 400) : IC (sv μ 60 6 x) := by
  have e : ∀ b j, (b, j) ∈ FPL → ¬ (b = 60 ∧ j = 6) → (sv μ 60 6 x).1 b j = μ.1 b j := fun b j _ hj => sv_n μ hj
  refine h.mk2 rfl (fun r hr => e r 3 (FPL_r hr) (by rcases hr with rfl | rfl | rfl | rfl | rfl | rfl | rfl | rfl | rfl | rfl <;> decide)) (fun p hp => ⟨e p 1 (FPL_p hp).1 (by rcases hp with rfl | rfl | rfl | rfl | rfl <;> decide), e p 7 (FPL_p hp).2 (by rcases hp with rfl | rfl | rfl | rfl | rfl <;> decide)⟩) ?_
  have hn := h.nm
  unfold nums at *
  rw [sv_n (j := 1) (b := 0) μ (by decide), sv_n (j := 3) (b := 2) μ (by decide), sv_n (j := 4) (b := 2) μ (by decide), sv_n (j := 5) (b := 6) μ (by decide), sv_n (j := 7) (b := 52) μ (by decide), sv_n (j := 1) (b := 45) μ (by decide), sv_n (j := 4) (b := 45) μ (by decide), sv_n (j := 5) (b := 23) μ (by decide), sv_n (j := 6) (b := 26) μ (by decide), sv_n (j := 7) (b := 26) μ (by decide), sv_n (j := 9) (b := 26) μ (by decide), sv_n (j := 10) (b := 26) μ (by decide), sv_s]
  obtain ⟨a0, a1, a2, a3, a4, a5, a6, a7, a8, a9, a10, a11, a12⟩ := hn
  exact ⟨a0, a1, a2, a3, a4, hx, a6, a7, a8, a9, a10, a11, a12⟩
theorem IC.n_45_1 {μ : M3} (h : IC μ) {x : Int} (hx : 0 ≤ x ∧ 9 * x ≤ μ.2.1 46) : IC (sv μ 45 1 x) := by
  have e : ∀ b j, (b, j) ∈ FPL → ¬ (b = 45 ∧ j = 1) → (sv μ 45 1 x).1 b j = μ.1 b j := fun b j _ hj => sv_n μ hj
  refine h.mk2 rfl (fun r hr => e r 3 (FPL_r hr) (by rcases hr with rfl | rfl | rfl | rfl | rfl | rfl | rfl | rfl | rfl | rfl <;> decide)) (fun p hp => ⟨e p 1 (FPL_p hp).1 (by rcases hp with rfl | rfl | rfl | rfl | rfl <;> decide), e p 7 (FPL_p hp).2 (by rcases hp with rfl | rfl | rfl | rfl | rfl <;> decide)⟩) ?_
  have hn := h.nm
  unfold nums at *
  rw [sv_n (j := 1) (b := 0) μ (by decide), sv_n (j := 3) (b := 2) μ (by decide), sv_n (j := 4) (b := 2) μ (by decide), sv_n (j := 5) (b := 6) μ (by decide), sv_n (j := 7) (b := 52) μ (by decide), sv_n (j := 6) (b := 60) μ (by decide), sv_n (j := 4) (b := 45) μ (by decide), sv_n (j := 5) (b := 23) μ (by decide), sv_n (j := 6) (b := 26) μ (by decide), sv_n (j := 7) (b := 26) μ (by decide), sv_n (j := 9) (b := 26) μ (by decide), sv_n (j := 10) (b := 26) μ (by decide), sv_s]
  obtain ⟨a0, a1, a2, a3, a4, a5, a6, a7, a8, a9, a10, a11, a12⟩ := hn
  exact ⟨a0, a1, a2, a3, a4, a5, hx, a7, a8, a9, a10, a11, a12⟩
theorem IC.n_45_4 {μ : M3} (h : IC μ) {x : Int} (hx : 0 ≤ x ∧ 2 * x ≤ μ.2.1 51) : IC (sv μ 45 4 x) := by
  have e : ∀ b j, (b, j) ∈ FPL → ¬ (b = 45 ∧ j = 4) → (sv μ 45 4 x).1 b j = μ.1 b j := fun b j _ hj => sv_n μ hj
  refine h.mk2 rfl (fun r hr => e r 3 (FPL_r hr) (by rcases hr with rfl | rfl | rfl | rfl | rfl | rfl | rfl | rfl | rfl | rfl <;> decide)) (fun p hp => ⟨e p 1 (FPL_p hp).1 (by rcases hp with rfl | rfl | rfl | rfl | rfl <;> decide), e p 7 (FPL_p hp).2 (by rcases hp with rfl | rfl | rfl | rfl | rfl <;> decide)⟩) ?_
  have hn := h.nm
  unfold nums at *
  rw [sv_n (j := 1) (b := 0) μ (by decide), sv_n (j := 3) (b := 2) μ (by decide), sv_n (j := 4) (b := 2) μ (by decide), sv_n (j := 5) (b := 6) μ (by decide), sv_n (j := 7) (b := 52) μ (by decide), sv_n (j := 6) (b := 60) μ (by decide), sv_n (j := 1) (b := 45) μ (by decide), sv_n (j := 5) (b := 23) μ (by decide), sv_n (j := 6) (b := 26) μ (by decide), sv_n (j := 7) (b := 26) μ (by decide), sv_n (j := 9) (b := 26) μ (by decide), sv_n (j := 10) (b := 26) μ (by decide), sv_s]
  obtain ⟨a0, a1, a2, a3, a4, a5, a6, a7, a8, a9, a10, a11, a12⟩ := hn
  exact ⟨a0, a1, a2, a3, a4, a5, a6, hx, a8, a9, a10, a11, a12⟩
theorem IC.n_23_5 {μ : M3} (h : IC μ) {x : Int} (hx : 0 ≤ x ∧ x ≤ 1000) : IC (sv μ 23 5 x) := by
  have e : ∀ b j, (b, j) ∈ FPL → ¬ (b = 23 ∧ j = 5) → (sv μ 23 5 x).1 b j = μ.1 b j := fun b j _ hj => sv_n μ hj
  refine h.mk2 rfl (fun r hr => e r 3 (FPL_r hr) (by rcases hr with rfl | rfl | rfl | rfl | rfl | rfl | rfl | rfl | rfl | rfl <;> decide)) (fun p hp => ⟨e p 1 (FPL_p hp).1 (by rcases hp with rfl | rfl | rfl | rfl | rfl <;> decide), e p 7 (FPL_p hp).2 (by rcases hp with rfl | rfl | rfl | rfl | rfl <;> decide)⟩) ?_
  have hn := h.nm
  unfold nums at *
  rw [sv_n (j := 1) (b := 0) μ (by decide), sv_n (j := 3) (b := 2) μ (by decide), sv_n (j := 4) (b := 2) μ (by decide), sv_n (j := 5) (b := 6) μ (by decide), sv_n (j := 7) (b := 52) μ (by decide), sv_n (j := 6) (b := 60) μ (by decide), sv_n (j := 1) (b := 45) μ (by decide), sv_n (j := 4) (b := 45) μ (by decide), sv_n (j := 6) (b := 26) μ (by decide), sv_n (j := 7) (b := 26) μ (by decide), sv_n (j := 9) (b := 26) μ (by decide), sv_n (j := 10) (b := 26) μ (by decide), sv_s]
  obtain ⟨a0, a1, a2, a3, a4, a5, a6, a7, a8, a9, a10, a11, a12⟩ := hn
  exact ⟨a0, a1, a2, a3, a4, a5, a6, a7, hx, a9, a10, a11, a12⟩
theorem IC.n_26_6 {μ : M3} (h : IC μ) {x : Int} (hx : 0 ≤ x ∧ x ≤ 3001) : IC (sv μ 26 6 x) := by
  have e : ∀ b j, (b, j) ∈ FPL → ¬ (b = 26 ∧ j = 6) → (sv μ 26 6 x).1 b j = μ.1 b j := fun b j _ hj => sv_n μ hj
  refine h.mk2 rfl (fun r hr => e r 3 (FPL_r hr) (by rcases hr with rfl | rfl | rfl | rfl | rfl | rfl | rfl | rfl | rfl | rfl <;> decide)) (fun p hp => ⟨e p 1 (FPL_p hp).1 (by rcases hp with rfl | rfl | rfl | rfl | rfl <;> decide), e p 7 (FPL_p hp).2 (by rcases hp with rfl | rfl | rfl | rfl | rfl <;> decide)⟩) ?_
  have hn := h.nm
  unfold nums at *
  rw [sv_n (j := 1) (b := 0) μ (by decide), sv_n (j := 3) (b := 2) μ (by decide), sv_n (j := 4) (b := 2) μ (by decide), sv_n (j := 5) (b := 6) μ (by decide), sv_n (j := 7) (b := 52) μ (by decide), sv_n (j := 6) (b := 60) μ (by decide), sv_n (j := 1) (b := 45) μ (by decide), sv_n (j := 4) (b := 45) μ (by decide), sv_n (j := 5) (b := 23) μ (by decide), sv_n (j := 7) (b := 26) μ (by decide), sv_n (j := 9) (b := 26) μ (by decide), sv_n (j := 10) (b := 26) μ (by decide), sv_s]
  obtain ⟨a0, a1, a2, a3, a4, a5, a6, a7, a8, a9, a10, a11, a12⟩ := hn
  exact ⟨a0, a1, a2, a3, a4, a5, a6, a7, a8, hx, a10, a11, a12⟩
theorem IC.n_26_7 {μ : M3} (h : IC μ) {x : Int} (hx : 0 ≤ x ∧ x ≤ 3000) : IC (sv μ 26 7 x) := by
  have e : ∀ b j, (b, j) ∈ FPL → ¬ (b = 26 ∧ j = 7) → (sv μ 26 7 x).1 b j = μ.1 b j := fun b j _ hj => sv_n μ hj
  refine h.mk2 rfl (fun r hr => e r 3 (FPL_r hr) (by rcases hr with rfl | rfl | rfl | rfl | rfl | rfl | rfl | rfl | rfl | rfl <;> decide)) (fun p hp => ⟨e p 1 (FPL_p hp).1 (by rcases hp with rfl | rfl | rfl | rfl | rfl <;> decide), e p 7 (FPL_p hp).2 (by rcases hp with rfl | rfl | rfl | rfl | rfl <;> decide)⟩) ?_
  have hn := h.nm
  unfold nums at *
  rw [sv_n (j := 1) (b := 0) μ (by decide), sv_n (j := 3) (b := 2) μ (by decide), sv_n (j := 4) (b := 2) μ (by decide), sv_n (j := 5) (b := 6) μ (by decide), sv_n (j := 7) (b := 52) μ (by decide), sv_n (j := 6) (b := 60) μ (by decide), sv_n (j := 1) (b := 45) μ (by decide), sv_n (j := 4) (b := 45) μ (by decide), sv_n (j := 5) (b := 23) μ (by decide), sv_n (j := 6) (b := 26) μ (by decide), sv_n (j := 9) (b := 26) μ (by decide), sv_n (j := 10) (b := 26) μ (by decide), sv_s]
  obtain ⟨a0, a1, a2, a3, a4, a5, a6, a7, a8, a9, a10, a11, a12⟩ := hn
  exact ⟨a0, a1, a2, a3, a4, a5, a6, a7, a8, a9, hx, a11, a12⟩
theorem IC.n_26_9 {μ : M3} (h : IC μ) {x : Int} (hx : 0 ≤ x ∧ x ≤ 3000) : IC (sv μ 26 9 x) := by
  have e : ∀ b j, (b, j) ∈ FPL → ¬ (b = 26 ∧ j = 9) → (sv μ 26 9 x).1 b j = μ.1 b j := fun b j _ hj => sv_n μ hj
  refine h.mk2 rfl (fun r hr => e r 3 (FPL_r hr) (by rcases hr with rfl | rfl | rfl | rfl | rfl | rfl | rfl | rfl | rfl | rfl <;> decide)) (fun p hp => ⟨e p 1 (FPL_p hp).1 (by rcases hp with rfl | rfl | rfl | rfl | rfl <;> decide), e p 7 (FPL_p hp).2 (by rcases hp with rfl | rfl | rfl | rfl | rfl <;> decide)⟩) ?_
  have hn := h.nm
  unfold nums at *
  rw [sv_n (j := 1) (b := 0) μ (by decide), sv_n (j := 3) (b := 2) μ (by decide), sv_n (j := 4) (b := 2) μ (by decide), sv_n (j := 5) (b := 6) μ (by decide), sv_n (j := 7) (b := 52) μ (by decide), sv_n (j := 6) (b := 60) μ (by decide), sv_n (j := 1) (b := 45) μ (by decide), sv_n (j := 4) (b := 45) μ (by decide), sv_n (j := 5) (b := 23) μ (by decide), sv_n (j := 6) (b := 26) μ (by decide), sv_n (j := 7) (b := 26) μ (by decide), sv_n (j := 10) (b := 26) μ (by decide), sv_s]
  obtain ⟨a0, a1, a2, a3, a4, a5, a6, a7, a8, a9, a10, a11, a12⟩ := hn
  exact ⟨a0, a1, a2, a3, a4, a5, a6, a7, a8, a9, a10, hx, a12⟩
theorem IC.n_26_10 {μ : M3} (h : IC μ) {x : Int} (hx : -1 ≤ x ∧ x ≤ 3000) : IC (sv μ 26 10 x) := by
  have e : ∀ b j, (b, j) ∈ FPL → ¬ (b = 26 ∧ j = 10) → (sv μ 26 10 x).1 b j = μ.1 b j := fun b j _ hj => sv_n μ hj
  refine h.mk2 rfl (fun r hr => e r 3 (FPL_r hr) (by rcases hr with rfl | rfl | rfl | rfl | rfl | rfl | rfl | rfl | rfl | rfl <;> decide)) (fun p hp => ⟨e p 1 (FPL_p hp).1 (by rcases hp with rfl | rfl | rfl | rfl | rfl <;> decide), e p 7 (FPL_p hp).2 (by rcases hp with rfl | rfl | rfl | rfl | rfl <;> decide)⟩) ?_
  have hn := h.nm
  unfold nums at *
  rw [sv_n (j := 1) (b := 0) μ (by decide), sv_n (j := 3) (b := 2) μ (by decide), sv_n (j := 4) (b := 2) μ (by decide), sv_n (j := 5) (b := 6) μ (by decide), sv_n (j := 7) (b := 52) μ (by decide), sv_n (j := 6) (b := 60) μ (by decide), sv_n (j := 1) (b := 45) μ (by decide), sv_n (j := 4) (b := 45) μ (by decide), sv_n (j := 5) (b := 23) μ (by decide), sv_n (j := 6) (b := 26) μ (by decide), sv_n (j := 7) (b := 26) μ (by decide), sv_n (j := 9) (b := 26) μ (by decide), sv_s]
  obtain ⟨a0, a1, a2, a3, a4, a5, a6, a7, a8, a9, a10, a11, a12⟩ := hn
  exact ⟨a0, a1, a2, a3, a4, a5, a6, a7, a8, a9, a10, a11, hx⟩
