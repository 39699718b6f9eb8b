/-- a frame of the twin: nothing but the addresses L changed, and no array was made -/
def FrM (L : List Int) (μ ν : M3) : Prop := (∀ b, b ∉ L → ∀ j, ν.1 b j = μ.1 b j) ∧ ν.2 = μ.2
theorem FrM.rf {L : List Int} {μ : M3} : FrM L μ μ := ⟨fun _ _ _ => rfl, rfl⟩
theorem FrM.put {L : List Int} {μ ν : M3} (h : FrM L μ ν) {a k x : Int} (ha : a ∈ L) : FrM L μ (sv ν a k x) := ⟨fun b hb j => (sv_a ν k j x (fun q => hb (by rw [q]; exact ha))).trans (h.1 b hb j), h.2⟩
theorem FrM.tr {L L2 : List Int} {μ ν π : M3} (h : FrM L μ ν) (h2 : FrM L2 ν π) (hs : ∀ b ∈ L2, b ∈ L) : FrM L μ π := ⟨fun b hb j => (h2.1 b (fun q => hb (hs b q)) j).trans (h.1 b hb j), h2.2.trans h.2⟩
theorem FrM.fr {L : List Int} {μ ν : M3} (h : FrM L μ ν) : Fr L μ ν := ⟨h.1, fun b _ => by rw [h.2]⟩
