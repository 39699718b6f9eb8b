def BR (r : Int) : Int := if r = 33 then 240100 else if r = 37 then 20410 else if r = 41 then 210 else if r = 47 then 5010 else if r = 66 then 410 else 9000
def rk (μ : M3) (r : Int) : Prop := 0 ≤ μ.1 r 3 ∧ μ.1 r 3 ≤ μ.2.1 (r + 1) ∧ μ.2.1 (r + 2) = μ.2.1 (r + 1) ∧ μ.2.1 (r + 3) = μ.2.1 (r + 1) ∧ 16 ≤ μ.2.1 (r + 1) ∧ μ.1 r 3 ≤ BR r
theorem gro_s (μ : M3) (b n : Int) (f : Int → Int) (k : Int) : (gro μ b n f).1 b k = f k := if_pos rfl
theorem gro_o (μ : M3) {b n a : Int} {f : Int → Int} (h : a ≠ b) (k : Int) : (gro μ b n f).1 a k = μ.1 a k := if_neg h
theorem gro_ls (μ : M3) (b n : Int) (f : Int → Int) : (gro μ b n f).2.1 b = n := if_pos rfl
theorem gro_lo (μ : M3) {b n a : Int} {f : Int → Int} (h : a ≠ b) : (gro μ b n f).2.1 a = μ.2.1 a := if_neg h
theorem Fr.gro {L : List Int} {μ ν : M3} (h : Fr L μ ν) {b n : Int} {f : Int → Int} (ha : b ∈ L) : Fr L μ (_root_.Jvm.Pilot.CFourTonguesLaw_law_r5116_030cba.gro ν b n f) := ⟨fun c hc j => (gro_o ν (fun q => hc (by rw [q]; exact ha)) j).trans (h.1 c hc j), fun c hc => (gro_lo ν (fun q => hc (by rw [q]; exact ha))).trans (h.2 c hc)⟩
theorem isRow.u0 {r : Int} (h : isRow r) : ∀ q ∈ SRL, q.2.2 = r + 1 → q.1 = r ∧ q.2.1 = ((0 : Nat) : Int) := by
  rcases h with rfl | rfl | rfl | rfl | rfl | rfl | rfl | rfl | rfl | rfl <;> decide +kernel
theorem isRow.u1 {r : Int} (h : isRow r) : ∀ q ∈ SRL, q.2.2 = r + 2 → q.1 = r ∧ q.2.1 = ((1 : Nat) : Int) := by
  rcases h with rfl | rfl | rfl | rfl | rfl | rfl | rfl | rfl | rfl | rfl <;> decide +kernel
theorem isRow.u2 {r : Int} (h : isRow r) : ∀ q ∈ SRL, q.2.2 = r + 3 → q.1 = r ∧ q.2.1 = ((2 : Nat) : Int) := by
  rcases h with rfl | rfl | rfl | rfl | rfl | rfl | rfl | rfl | rfl | rfl <;> decide +kernel
theorem isRow.n {r : Int} (h : isRow r) : (∀ q ∈ LNL, q.1 ≠ r + 1) ∧ (∀ q ∈ LNL, q.1 ≠ r + 2) ∧ ∀ q ∈ LNL, q.1 ≠ r + 3 := by
  rcases h with rfl | rfl | rfl | rfl | rfl | rfl | rfl | rfl | rfl | rfl <;> decide +kernel
theorem isRow.z {r : Int} (h : isRow r) : RZ (r + 1) = true ∧ RZ (r + 2) = true ∧ RZ (r + 3) = true := by
  rcases h with rfl | rfl | rfl | rfl | rfl | rfl | rfl | rfl | rfl | rfl <;> decide +kernel
