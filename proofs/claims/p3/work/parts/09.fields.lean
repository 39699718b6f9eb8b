def chk (k : Nat) : List Cond := match k with
  | 0 => k2_sels lw_privs
  | 1 => tables_1_1
  | 2 => tables_1_2
  | 3 => tables_1_3
  | 4 => tables_1_4
  | 5 => tables_1_5
  | 6 => tables_1_6
  | 7 => tables_1_7
  | 8 => tables_1_8
  | 9 => tables_1_9
  | 10 => tables_1_10
  | 11 => tables_1_11
  | _ => []
theorem chk_in (k : Nat) (w : Cond) (h : w ∈ chk k) : w ∈ lw_tbl := by
  match k, h with
  | 0, h => exact List.mem_append_left _ h
  | 1, h => exact (List.mem_append_right _ (List.mem_append_left _ h))
  | 2, h => exact (List.mem_append_right _ (List.mem_append_right _ (List.mem_append_left _ h)))
  | 3, h => exact (List.mem_append_right _ (List.mem_append_right _ (List.mem_append_right _ (List.mem_append_left _ h))))
  | 4, h => exact (List.mem_append_right _ (List.mem_append_right _ (List.mem_append_right _ (List.mem_append_right _ (List.mem_append_left _ h)))))
  | 5, h => exact (List.mem_append_right _ (List.mem_append_right _ (List.mem_append_right _ (List.mem_append_right _ (List.mem_append_right _ (List.mem_append_left _ h))))))
  | 6, h => exact (List.mem_append_right _ (List.mem_append_right _ (List.mem_append_right _ (List.mem_append_right _ (List.mem_append_right _ (List.mem_append_right _ (List.mem_append_left _ h)))))))
  | 7, h => exact (List.mem_append_right _ (List.mem_append_right _ (List.mem_append_right _ (List.mem_append_right _ (List.mem_append_right _ (List.mem_append_right _ (List.mem_append_right _ (List.mem_append_left _ h))))))))
  | 8, h => exact (List.mem_append_right _ (List.mem_append_right _ (List.mem_append_right _ (List.mem_append_right _ (List.mem_append_right _ (List.mem_append_right _ (List.mem_append_right _ (List.mem_append_right _ (List.mem_append_left _ h)))))))))
  | 9, h => exact (List.mem_append_right _ (List.mem_append_right _ (List.mem_append_right _ (List.mem_append_right _ (List.mem_append_right _ (List.mem_append_right _ (List.mem_append_right _ (List.mem_append_right _ (List.mem_append_right _ (List.mem_append_left _ h))))))))))
  | 10, h => exact (List.mem_append_right _ (List.mem_append_right _ (List.mem_append_right _ (List.mem_append_right _ (List.mem_append_right _ (List.mem_append_right _ (List.mem_append_right _ (List.mem_append_right _ (List.mem_append_right _ (List.mem_append_right _ (List.mem_append_left _ h)))))))))))
  | 11, h => exact (List.mem_append_right _ (List.mem_append_right _ (List.mem_append_right _ (List.mem_append_right _ (List.mem_append_right _ (List.mem_append_right _ (List.mem_append_right _ (List.mem_append_right _ (List.mem_append_right _ (List.mem_append_right _ (List.mem_append_right _ h)))))))))))
  | (n + 12), h => exact absurd h List.not_mem_nil
theorem wm (k i : Nat) {w : Cond} (h : (chk k)[i]? = some w) (hg : goodWord w = true) : w ∈ TG := tg (chk_in k w (List.mem_of_getElem? h)) hg
theorem uw_X0 : ∀ w ∈ u_ws RX0 TX0 6, w ∈ TG := by
  intro w h
  obtain ⟨k, hk, rfl⟩ := List.mem_map.mp h
  have h2 := List.mem_range.mp hk
  match k, h2 with
  | 0, _ => exact wm 1 121 rfl rfl
  | 1, _ => exact wm 1 123 rfl rfl
  | 2, _ => exact wm 1 125 rfl rfl
  | 3, _ => exact wm 1 127 rfl rfl
  | 4, _ => exact wm 1 129 rfl rfl
  | 5, _ => exact wm 1 131 rfl rfl
  | (k + 6), h => exact absurd h (by omega)
theorem fd_X0 : Fdd 0 RX0 TX0 6 tyX0 := ⟨rfl, uw_X0, by decide +kernel, by decide, tyX0_ok, nmX0⟩
theorem uw_X1 : ∀ w ∈ u_ws RX1 TX1 5, w ∈ TG := by
  intro w h
  obtain ⟨k, hk, rfl⟩ := List.mem_map.mp h
  have h2 := List.mem_range.mp hk
  match k, h2 with
  | 0, _ => exact wm 2 72 rfl rfl
  | 1, _ => exact wm 2 74 rfl rfl
  | 2, _ => exact wm 2 76 rfl rfl
  | 3, _ => exact wm 2 78 rfl rfl
  | 4, _ => exact wm 2 80 rfl rfl
  | (k + 5), h => exact absurd h (by omega)
theorem fd_X1 : Fdd 1 RX1 TX1 5 tyX1 := ⟨rfl, uw_X1, by decide +kernel, by decide, tyX1_ok, nmX1⟩
theorem uw_X2 : ∀ w ∈ u_ws RX2 TX2 8, w ∈ TG := by
  intro w h
  obtain ⟨k, hk, rfl⟩ := List.mem_map.mp h
  have h2 := List.mem_range.mp hk
  match k, h2 with
  | 0, _ => exact wm 2 97 rfl rfl
  | 1, _ => exact wm 2 99 rfl rfl
  | 2, _ => exact wm 2 101 rfl rfl
  | 3, _ => exact wm 2 103 rfl rfl
  | 4, _ => exact wm 2 105 rfl rfl
  | 5, _ => exact wm 2 107 rfl rfl
  | 6, _ => exact wm 2 109 rfl rfl
  | 7, _ => exact wm 2 111 rfl rfl
  | (k + 8), h => exact absurd h (by omega)
theorem fd_X2 : Fdd 2 RX2 TX2 8 tyX2 := ⟨rfl, uw_X2, by decide +kernel, by decide, tyX2_ok, nmX2⟩
theorem uw_X3 : ∀ w ∈ u_ws RX3 TX3 7, w ∈ TG := by
  intro w h
  obtain ⟨k, hk, rfl⟩ := List.mem_map.mp h
  have h2 := List.mem_range.mp hk
  match k, h2 with
  | 0, _ => exact wm 2 129 rfl rfl
  | 1, _ => exact wm 2 131 rfl rfl
  | 2, _ => exact wm 2 133 rfl rfl
  | 3, _ => exact wm 2 135 rfl rfl
  | 4, _ => exact wm 2 137 rfl rfl
  | 5, _ => exact wm 2 139 rfl rfl
  | 6, _ => exact wm 2 141 rfl rfl
  | (k + 7), h => exact absurd h (by omega)
theorem fd_X3 : Fdd 3 RX3 TX3 7 tyX3 := ⟨rfl, uw_X3, by decide +kernel, by decide, tyX3_ok, nmX3⟩
theorem uw_X4 : ∀ w ∈ u_ws RX4 TX4 17, w ∈ TG := by
  intro w h
  obtain ⟨k, hk, rfl⟩ := List.mem_map.mp h
  have h2 := List.mem_range.mp hk
  match k, h2 with
  | 0, _ => exact wm 2 161 rfl rfl
  | 1, _ => exact wm 2 163 rfl rfl
  | 2, _ => exact wm 2 165 rfl rfl
  | 3, _ => exact wm 2 167 rfl rfl
  | 4, _ => exact wm 2 169 rfl rfl
  | 5, _ => exact wm 2 171 rfl rfl
  | 6, _ => exact wm 2 173 rfl rfl
  | 7, _ => exact wm 2 175 rfl rfl
  | 8, _ => exact wm 2 177 rfl rfl
  | 9, _ => exact wm 2 179 rfl rfl
  | 10, _ => exact wm 2 181 rfl rfl
  | 11, _ => exact wm 2 183 rfl rfl
  | 12, _ => exact wm 2 185 rfl rfl
  | 13, _ => exact wm 2 187 rfl rfl
  | 14, _ => exact wm 2 189 rfl rfl
  | 15, _ => exact wm 2 191 rfl rfl
  | 16, _ => exact wm 2 193 rfl rfl
  | (k + 17), h => exact absurd h (by omega)
theorem fd_X4 : Fdd 4 RX4 TX4 17 tyX4 := ⟨rfl, uw_X4, by decide +kernel, by decide, tyX4_ok, nmX4⟩
theorem uw_X5 : ∀ w ∈ u_ws RX5 TX5 5, w ∈ TG := by
  intro w h
  obtain ⟨k, hk, rfl⟩ := List.mem_map.mp h
  have h2 := List.mem_range.mp hk
  match k, h2 with
  | 0, _ => exact wm 1 92 rfl rfl
  | 1, _ => exact wm 1 94 rfl rfl
  | 2, _ => exact wm 1 96 rfl rfl
  | 3, _ => exact wm 1 98 rfl rfl
  | 4, _ => exact wm 1 100 rfl rfl
  | (k + 5), h => exact absurd h (by omega)
theorem fd_X5 : Fdd 5 RX5 TX5 5 tyX5 := ⟨rfl, uw_X5, by decide +kernel, by decide, tyX5_ok, nmX5⟩
theorem uw_X7 : ∀ w ∈ u_ws RX7 TX7 11, w ∈ TG := by
  intro w h
  obtain ⟨k, hk, rfl⟩ := List.mem_map.mp h
  have h2 := List.mem_range.mp hk
  match k, h2 with
  | 0, _ => exact wm 2 28 rfl rfl
  | 1, _ => exact wm 2 30 rfl rfl
  | 2, _ => exact wm 2 32 rfl rfl
  | 3, _ => exact wm 2 34 rfl rfl
  | 4, _ => exact wm 2 36 rfl rfl
  | 5, _ => exact wm 2 38 rfl rfl
  | 6, _ => exact wm 2 40 rfl rfl
  | 7, _ => exact wm 2 42 rfl rfl
  | 8, _ => exact wm 2 44 rfl rfl
  | 9, _ => exact wm 2 46 rfl rfl
  | 10, _ => exact wm 2 48 rfl rfl
  | (k + 11), h => exact absurd h (by omega)
theorem fd_X7 : Fdd 6 RX7 TX7 11 tyX7 := ⟨rfl, uw_X7, by decide +kernel, by decide, tyX7_ok, nmX7⟩
theorem uw_X8 : ∀ w ∈ u_ws RX8 TX8 8, w ∈ TG := by
  intro w h
  obtain ⟨k, hk, rfl⟩ := List.mem_map.mp h
  have h2 := List.mem_range.mp hk
  match k, h2 with
  | 0, _ => exact wm 1 172 rfl rfl
  | 1, _ => exact wm 1 174 rfl rfl
  | 2, _ => exact wm 1 176 rfl rfl
  | 3, _ => exact wm 1 178 rfl rfl
  | 4, _ => exact wm 1 180 rfl rfl
  | 5, _ => exact wm 1 182 rfl rfl
  | 6, _ => exact wm 1 184 rfl rfl
  | 7, _ => exact wm 1 186 rfl rfl
  | (k + 8), h => exact absurd h (by omega)
theorem fd_X8 : Fdd 7 RX8 TX8 8 tyX8 := ⟨rfl, uw_X8, by decide +kernel, by decide, tyX8_ok, nmX8⟩
theorem uw_X9 : ∀ w ∈ u_ws RX9 TX9 4, w ∈ TG := by
  intro w h
  obtain ⟨k, hk, rfl⟩ := List.mem_map.mp h
  have h2 := List.mem_range.mp hk
  match k, h2 with
  | 0, _ => exact wm 1 154 rfl rfl
  | 1, _ => exact wm 1 156 rfl rfl
  | 2, _ => exact wm 1 158 rfl rfl
  | 3, _ => exact wm 1 160 rfl rfl
  | (k + 4), h => exact absurd h (by omega)
theorem fd_X9 : Fdd 8 RX9 TX9 4 tyX9 := ⟨rfl, uw_X9, by decide +kernel, by decide, tyX9_ok, nmX9⟩
theorem uw_X10 : ∀ w ∈ u_ws RX10 TX10 16, w ∈ TG := by
  intro w h
  obtain ⟨k, hk, rfl⟩ := List.mem_map.mp h
  have h2 := List.mem_range.mp hk
  match k, h2 with
  | 0, _ => exact wm 1 224 rfl rfl
  | 1, _ => exact wm 1 226 rfl rfl
  | 2, _ => exact wm 1 228 rfl rfl
  | 3, _ => exact wm 1 230 rfl rfl
  | 4, _ => exact wm 1 232 rfl rfl
  | 5, _ => exact wm 1 234 rfl rfl
  | 6, _ => exact wm 1 236 rfl rfl
  | 7, _ => exact wm 1 238 rfl rfl
  | 8, _ => exact wm 2 0 rfl rfl
  | 9, _ => exact wm 2 2 rfl rfl
  | 10, _ => exact wm 2 4 rfl rfl
  | 11, _ => exact wm 2 6 rfl rfl
  | 12, _ => exact wm 2 8 rfl rfl
  | 13, _ => exact wm 2 10 rfl rfl
  | 14, _ => exact wm 2 12 rfl rfl
  | 15, _ => exact wm 2 14 rfl rfl
  | (k + 16), h => exact absurd h (by omega)
theorem fd_X10 : Fdd 9 RX10 TX10 16 tyX10 := ⟨rfl, uw_X10, by decide +kernel, by decide, tyX10_ok, nmX10⟩
theorem uw_X11 : ∀ w ∈ u_ws RX11 TX11 9, w ∈ TG := by
  intro w h
  obtain ⟨k, hk, rfl⟩ := List.mem_map.mp h
  have h2 := List.mem_range.mp hk
  match k, h2 with
  | 0, _ => exact wm 2 205 rfl rfl
  | 1, _ => exact wm 2 207 rfl rfl
  | 2, _ => exact wm 2 209 rfl rfl
  | 3, _ => exact wm 2 211 rfl rfl
  | 4, _ => exact wm 2 213 rfl rfl
  | 5, _ => exact wm 2 215 rfl rfl
  | 6, _ => exact wm 2 217 rfl rfl
  | 7, _ => exact wm 2 219 rfl rfl
  | 8, _ => exact wm 2 221 rfl rfl
  | (k + 9), h => exact absurd h (by omega)
theorem fd_X11 : Fdd 10 RX11 TX11 9 tyX11 := ⟨rfl, uw_X11, by decide +kernel, by decide, tyX11_ok, nmX11⟩
theorem uw_X12 : ∀ w ∈ u_ws RX12 TX12 106, w ∈ TG := by
  intro w h
  obtain ⟨k, hk, rfl⟩ := List.mem_map.mp h
  have h2 := List.mem_range.mp hk
  match k, h2 with
  | 0, _ => exact wm 8 15 rfl rfl
  | 1, _ => exact wm 8 17 rfl rfl
  | 2, _ => exact wm 8 19 rfl rfl
  | 3, _ => exact wm 8 21 rfl rfl
  | 4, _ => exact wm 8 23 rfl rfl
  | 5, _ => exact wm 8 25 rfl rfl
  | 6, _ => exact wm 8 27 rfl rfl
  | 7, _ => exact wm 8 29 rfl rfl
  | 8, _ => exact wm 8 31 rfl rfl
  | 9, _ => exact wm 8 33 rfl rfl
  | 10, _ => exact wm 8 35 rfl rfl
  | 11, _ => exact wm 8 37 rfl rfl
  | 12, _ => exact wm 8 39 rfl rfl
  | 13, _ => exact wm 8 41 rfl rfl
  | 14, _ => exact wm 8 43 rfl rfl
  | 15, _ => exact wm 8 45 rfl rfl
  | 16, _ => exact wm 8 47 rfl rfl
  | 17, _ => exact wm 8 49 rfl rfl
  | 18, _ => exact wm 8 51 rfl rfl
  | 19, _ => exact wm 8 53 rfl rfl
  | 20, _ => exact wm 8 55 rfl rfl
  | 21, _ => exact wm 8 57 rfl rfl
  | 22, _ => exact wm 8 59 rfl rfl
  | 23, _ => exact wm 8 61 rfl rfl
  | 24, _ => exact wm 8 63 rfl rfl
  | 25, _ => exact wm 8 65 rfl rfl
  | 26, _ => exact wm 8 67 rfl rfl
  | 27, _ => exact wm 8 69 rfl rfl
  | 28, _ => exact wm 8 71 rfl rfl
  | 29, _ => exact wm 8 73 rfl rfl
  | 30, _ => exact wm 8 75 rfl rfl
  | 31, _ => exact wm 8 77 rfl rfl
  | 32, _ => exact wm 8 79 rfl rfl
  | 33, _ => exact wm 8 81 rfl rfl
  | 34, _ => exact wm 8 83 rfl rfl
  | 35, _ => exact wm 8 85 rfl rfl
  | 36, _ => exact wm 8 87 rfl rfl
  | 37, _ => exact wm 8 89 rfl rfl
  | 38, _ => exact wm 8 91 rfl rfl
  | 39, _ => exact wm 8 93 rfl rfl
  | 40, _ => exact wm 8 95 rfl rfl
  | 41, _ => exact wm 8 97 rfl rfl
  | 42, _ => exact wm 8 99 rfl rfl
  | 43, _ => exact wm 8 101 rfl rfl
  | 44, _ => exact wm 8 103 rfl rfl
  | 45, _ => exact wm 8 105 rfl rfl
  | 46, _ => exact wm 8 107 rfl rfl
  | 47, _ => exact wm 8 109 rfl rfl
  | 48, _ => exact wm 8 111 rfl rfl
  | 49, _ => exact wm 8 113 rfl rfl
  | 50, _ => exact wm 8 115 rfl rfl
  | 51, _ => exact wm 8 117 rfl rfl
  | 52, _ => exact wm 8 119 rfl rfl
  | 53, _ => exact wm 8 121 rfl rfl
  | 54, _ => exact wm 8 123 rfl rfl
  | 55, _ => exact wm 8 125 rfl rfl
  | 56, _ => exact wm 8 127 rfl rfl
  | 57, _ => exact wm 8 129 rfl rfl
  | 58, _ => exact wm 8 131 rfl rfl
  | 59, _ => exact wm 8 133 rfl rfl
  | 60, _ => exact wm 8 135 rfl rfl
  | 61, _ => exact wm 8 137 rfl rfl
  | 62, _ => exact wm 8 139 rfl rfl
  | 63, _ => exact wm 8 141 rfl rfl
  | 64, _ => exact wm 8 143 rfl rfl
  | 65, _ => exact wm 8 145 rfl rfl
  | 66, _ => exact wm 8 147 rfl rfl
  | 67, _ => exact wm 8 149 rfl rfl
  | 68, _ => exact wm 8 151 rfl rfl
  | 69, _ => exact wm 8 153 rfl rfl
  | 70, _ => exact wm 8 155 rfl rfl
  | 71, _ => exact wm 8 157 rfl rfl
  | 72, _ => exact wm 8 159 rfl rfl
  | 73, _ => exact wm 8 161 rfl rfl
  | 74, _ => exact wm 8 163 rfl rfl
  | 75, _ => exact wm 8 165 rfl rfl
  | 76, _ => exact wm 8 167 rfl rfl
  | 77, _ => exact wm 8 169 rfl rfl
  | 78, _ => exact wm 8 171 rfl rfl
  | 79, _ => exact wm 8 173 rfl rfl
  | 80, _ => exact wm 8 175 rfl rfl
  | 81, _ => exact wm 8 177 rfl rfl
  | 82, _ => exact wm 8 179 rfl rfl
  | 83, _ => exact wm 8 181 rfl rfl
  | 84, _ => exact wm 8 183 rfl rfl
  | 85, _ => exact wm 8 185 rfl rfl
  | 86, _ => exact wm 8 187 rfl rfl
  | 87, _ => exact wm 8 189 rfl rfl
  | 88, _ => exact wm 8 191 rfl rfl
  | 89, _ => exact wm 8 193 rfl rfl
  | 90, _ => exact wm 8 195 rfl rfl
  | 91, _ => exact wm 8 197 rfl rfl
  | 92, _ => exact wm 8 199 rfl rfl
  | 93, _ => exact wm 8 201 rfl rfl
  | 94, _ => exact wm 8 203 rfl rfl
  | 95, _ => exact wm 8 205 rfl rfl
  | 96, _ => exact wm 8 207 rfl rfl
  | 97, _ => exact wm 8 209 rfl rfl
  | 98, _ => exact wm 8 211 rfl rfl
  | 99, _ => exact wm 8 213 rfl rfl
  | 100, _ => exact wm 8 215 rfl rfl
  | 101, _ => exact wm 8 217 rfl rfl
  | 102, _ => exact wm 8 219 rfl rfl
  | 103, _ => exact wm 8 221 rfl rfl
  | 104, _ => exact wm 8 223 rfl rfl
  | 105, _ => exact wm 8 225 rfl rfl
  | (k + 106), h => exact absurd h (by omega)
theorem fd_X12 : Fdd 11 RX12 TX12 106 tyX12 := ⟨rfl, uw_X12, by decide +kernel, by decide, tyX12_ok, nmX12⟩
theorem sv_n (μ : M3) {a k b j x : Int} (h : ¬ (b = a ∧ j = k)) : (sv μ a k x).1 b j = μ.1 b j := if_neg h
theorem zr {x : Int} (h : x = 0 ∨ x = 1) : narrow .boolean (.int (iv x)) = .int (iv x) := by
  rcases h with rfl | rfl <;> rfl
def Fr (L : List Int) (μ ν : M3) : Prop := (∀ b, b ∉ L → ∀ j, ν.1 b j = μ.1 b j) ∧ ∀ b, b ∉ L → ν.2.1 b = μ.2.1 b
theorem Fr.rf {L : List Int} {μ : M3} : Fr L μ μ := ⟨fun _ _ _ => rfl, fun _ _ => rfl⟩
theorem Fr.put {L : List Int} {μ ν : M3} (h : Fr L μ ν) {a k x : Int} (ha : a ∈ L) : Fr L μ (sv ν a k x) := ⟨fun b hb j => (sv_a ν k j x (fun q => hb (by rw [q]; exact ha))).trans (h.1 b hb j), fun b hb => h.2 b hb⟩
theorem Fr.tr {L L2 : List Int} {μ ν π : M3} (h : Fr L μ ν) (h2 : Fr L2 ν π) (hs : ∀ b ∈ L2, b ∈ L) : Fr L μ π := ⟨fun b hb j => (h2.1 b (fun q => hb (hs b q)) j).trans (h.1 b hb j), fun b hb => (h2.2 b (fun q => hb (hs b q))).trans (h.2 b hb)⟩
theorem Fr.mono {L L2 : List Int} {μ ν : M3} (h : Fr L μ ν) (hs : ∀ b ∈ L, b ∈ L2) : Fr L2 μ ν := ⟨fun b hb j => h.1 b (fun q => hb (hs b q)) j, fun b hb => h.2 b (fun q => hb (hs b q))⟩
def isRow (r : Int) : Prop := r = 15 ∨ r = 33 ∨ r = 37 ∨ r = 41 ∨ r = 47 ∨ r = 66 ∨ r = 73 ∨ r = 83 ∨ r = 93 ∨ r = 103
theorem isRow.ly {r : Int} (h : isRow r) : LY r = 8 := by
  rcases h with rfl | rfl | rfl | rfl | rfl | rfl | rfl | rfl | rfl | rfl <;> rfl
theorem isRow.ly1 {r : Int} (h : isRow r) : LY (r + 1) = 100 := by
  rcases h with rfl | rfl | rfl | rfl | rfl | rfl | rfl | rfl | rfl | rfl <;> rfl
theorem isRow.ly2 {r : Int} (h : isRow r) : LY (r + 2) = 101 := by
  rcases h with rfl | rfl | rfl | rfl | rfl | rfl | rfl | rfl | rfl | rfl <;> rfl
theorem isRow.ly3 {r : Int} (h : isRow r) : LY (r + 3) = 102 := by
  rcases h with rfl | rfl | rfl | rfl | rfl | rfl | rfl | rfl | rfl | rfl <;> rfl
theorem isRow.hq {r : Int} (h : isRow r) (ω : Om) (ρ : Int → Nat) : ad ω ρ r = oP ω r := by
  rcases h with rfl | rfl | rfl | rfl | rfl | rfl | rfl | rfl | rfl | rfl <;> rfl
theorem isRow.hq1 {r : Int} (h : isRow r) (ω : Om) (ρ : Int → Nat) : ad ω ρ (r + 1) = ρ (r + 1) := by
  rcases h with rfl | rfl | rfl | rfl | rfl | rfl | rfl | rfl | rfl | rfl <;> rfl
theorem isRow.hq2 {r : Int} (h : isRow r) (ω : Om) (ρ : Int → Nat) : ad ω ρ (r + 2) = ρ (r + 2) := by
  rcases h with rfl | rfl | rfl | rfl | rfl | rfl | rfl | rfl | rfl | rfl <;> rfl
theorem isRow.hq3 {r : Int} (h : isRow r) (ω : Om) (ρ : Int → Nat) : ad ω ρ (r + 3) = ρ (r + 3) := by
  rcases h with rfl | rfl | rfl | rfl | rfl | rfl | rfl | rfl | rfl | rfl <;> rfl
theorem isRow.tz {r : Int} (h : isRow r) : ty r 3 = 0 := by
  rcases h with rfl | rfl | rfl | rfl | rfl | rfl | rfl | rfl | rfl | rfl <;> rfl
theorem isRow.tz1 {r : Int} (h : isRow r) {i : Int} : ty (r + 1) i = 0 := by
  unfold ty
  rw [h.ly1]
  rfl
theorem isRow.tz2 {r : Int} (h : isRow r) {i : Int} : ty (r + 2) i = 1 := by
  unfold ty
  rw [h.ly2]
  rfl
theorem isRow.tz3 {r : Int} (h : isRow r) {i : Int} : ty (r + 3) i = 2 := by
  unfold ty
  rw [h.ly3]
  rfl
theorem isRow.s0 {r : Int} (h : isRow r) : (r, 0, r + 1) ∈ SRL := by
  rcases h with rfl | rfl | rfl | rfl | rfl | rfl | rfl | rfl | rfl | rfl <;> decide +kernel
theorem isRow.s1 {r : Int} (h : isRow r) : (r, 1, r + 2) ∈ SRL := by
  rcases h with rfl | rfl | rfl | rfl | rfl | rfl | rfl | rfl | rfl | rfl <;> decide +kernel
theorem isRow.s2 {r : Int} (h : isRow r) : (r, 2, r + 3) ∈ SRL := by
  rcases h with rfl | rfl | rfl | rfl | rfl | rfl | rfl | rfl | rfl | rfl <;> decide +kernel
theorem isRow.nn {r : Int} (h : isRow r) : 0 ≤ r := by
  rcases h with rfl | rfl | rfl | rfl | rfl | rfl | rfl | rfl | rfl | rfl <;> decide
