def RL : String := "FourTonguesLaw"
/-! THE CLAIM OUT OF ONE WALK OF THE LAW'S BODY. Your part is whole_start (and what it stands on); all else here is the same for every law, but numbers. -/
def R_law : String := "FourTonguesLaw"
def lw_P (b : Addr) (xs : List Int32) (args : Array Value) (s : State) : Prop := args = #[.ref b] ∧ s.IntsAt b xs ∧ xs.length ≤ 6 ∧ (Jvm.Cond.and given_1 narrow_1).before args s = true
/-- what a walk over the start with the record d0 says of its end, said of the start itself -/
theorem lw_closed {s t : State} {o : Outcome} {d0 : Drawn} {L : List Loc} {k n : Nat} (hd0 : s.drawn.sameBut d0 lw_cs) (hv : ∃ v, o = .returned v) (hW : (s.setDrawn d0).WarmedH t.vm) (hs : (s.setDrawn d0).sameButNew ({ t with vm := s.vm } : State) L k n) : State.butDraws s t lw_cs (fun t1 => Framed s o t1 L k n) := by
  have h2 : t.drawn = d0 := congrArg State.drawn hs.1
  refine ⟨⟨hv, hW, State.sameButNew.setDrawn hs s.drawn⟩, ?_, by decide⟩
  rw [h2]
  exact hd0
def lw_Q (_ : Array Value) (s : State) (o : Outcome) (t : State) : Prop := o = .returned (some (.int 1)) ∧ State.butDraws s t lw_cs (fun t1 => Framed s o t1 [] 600000 7302250)
def lw_Z (below : List Frame) (a : Array Value) (s : State) : State → Prop := fun t => ∃ o, t.status = .running ∧ Ended t below o ∧ lw_Q a s o t
/-- the law's own end, with 1 on the stack, nothing written that was there before, its room as the claim has it; d0: the record of draws at this point (at the entry s.drawn: begin with 'refine W.base ?_' and 'have hd0 := Drawn.sameBut.refl s.drawn lw_cs') -/
theorem lw_ret {p : Program} {l : Launch} {e : Env} {s : State} {m : MethodId} {below : List Frame} {meth : Method} {c : Code} {b : Nat} {d0 : Drawn} (hd0 : s.drawn.sameBut d0 lw_cs) (hx : p.tables.exec = Jvm.exec) (hb : c.code = code) (hr : meth.sig.returnType = ret) (hlocks : meth.locks = false) {pc : Nat} {H : Heap} {ls : Array Slot} (hdg : decode code pc = .ok (.ireturn, 1)) : W p l e room_1 (s.setDrawn d0) m #[Value.ref b] below meth c H [] 600000 7302250 (lw_Z below #[Value.ref b] s) (F0 m pc ls [.int 1]) := by
  intro T hT X
  obtain ⟨fs, hret, hrun, hended, hW, hframe⟩ := X.leave (v := some (.int 1)) (hlocks := hlocks) (fun h => by rw [hr] at h; cases h)
  have hmeth' : T.vm.method? m = some meth := X.method'
  refine ⟨T.setFrames fs, ?_, .returned (some (.int 1)), hrun, hended, rfl, lw_closed hd0 ⟨_, rfl⟩ hW hframe⟩
  jvm_step X.here [X.here.top, hx, hb, hdg, hmeth', hr, ret, narrow_b1]
  (try refine ⟨rfl, ?_⟩); (try refine ⟨rfl, ?_⟩)
  first | (intro acts; rw [hret _ acts rfl rfl rfl]) | rw [hret _ _ rfl rfl rfl]
  exact Steps.refl _
/-- what holds at the law's entry: the machine, the code, the tables' words (any of lw_tbl by 'hts w (by decide +kernel)'), the script of L ints xs at the cell b, what the Statement gives of the start (any of its parts by flat_of_before) -/
def lw_At (p : Program) (s : State) (m : MethodId) (meth : Method) (c : Code) (b L : Nat) (xs : Nat → Int32) : Prop :=
  p.tables.exec = Jvm.exec ∧ c.code = code ∧ meth.sig.returnType = ret ∧ c.maxLocals = 4 ∧ s.vm.findClass R_law = some m.cls ∧ (∀ w ∈ lw_tbl, w.before #[Value.ref b] s = true) ∧ va_X b L xs s s.heap ∧ b < s.heap.size ∧ meth.locks = false ∧ (Jvm.Cond.and given_1 narrow_1).before #[Value.ref b] s = true
theorem fa_and (a b : Nat) : nI a &&& nI b = nI (a &&& b) := by
  apply Int32.toBitVec_inj.1
  show BitVec.ofNat 32 a &&& BitVec.ofNat 32 b = BitVec.ofNat 32 (a &&& b)
  apply BitVec.eq_of_getLsbD_eq
  intro i hi
  simp [hi]
theorem and15 (x : Int32) : ∃ j, j < 16 ∧ x &&& 15 = nI j := by
  have e : x = nI x.toBitVec.toNat := by
    apply Int32.toBitVec_inj.1
    show x.toBitVec = BitVec.ofNat 32 x.toBitVec.toNat
    simp
  refine ⟨x.toBitVec.toNat % 16, Nat.mod_lt _ (by omega), ?_⟩
  have h : nI x.toBitVec.toNat &&& nI (2 ^ 4 - 1) = nI (x.toBitVec.toNat % 2 ^ 4) := by rw [fa_and, Nat.and_two_pow_sub_one_eq_mod]
  rw [← e] at h
  exact h
theorem len6 {n : Nat} (h : n ≤ 6) (c : ¬ (Int32.ofNat n - 6 < 0)) : n = 6 := by
  rcases (show n = 0 ∨ n = 1 ∨ n = 2 ∨ n = 3 ∨ n = 4 ∨ n = 5 ∨ n = 6 by omega) with rfl | rfl | rfl | rfl | rfl | rfl | rfl <;> first | rfl | exact absurd (by decide) c
theorem or_eq {C : Prop} {r1 r2 a b : Int32} (h1 : (C ∧ r1 = a) ∨ (¬ C ∧ r1 = b)) (h2 : (C ∧ r2 = a) ∨ (¬ C ∧ r2 = b)) : r1 = r2 := by
  rcases h1 with ⟨u, rfl⟩ | ⟨u, rfl⟩ <;> rcases h2 with ⟨v, rfl⟩ | ⟨v, rfl⟩
  · rfl
  · exact absurd u v
  · exact absurd v u
  · rfl
theorem look_eq {C E : Prop} {r1 r2 a b d : Int32} (h1 : (C ∧ r1 = a) ∨ (¬ C ∧ E ∧ r1 = b) ∨ (¬ C ∧ ¬ E ∧ r1 = d)) (h2 : (C ∧ r2 = a) ∨ (¬ C ∧ E ∧ r2 = b) ∨ (¬ C ∧ ¬ E ∧ r2 = d)) : r1 = r2 := by
  rcases h1 with ⟨u, rfl⟩ | ⟨u, u2, rfl⟩ | ⟨u, u2, rfl⟩ <;> rcases h2 with ⟨v, rfl⟩ | ⟨v, v2, rfl⟩ | ⟨v, v2, rfl⟩ <;> first | rfl | exact absurd u v | exact absurd v u | exact absurd u2 v2 | exact absurd v2 u2
theorem df_X11 : ∀ j, j < 9 → defaultValue (tyX11 j) = vp_V [.null, .int 0, .int 0, .null, .null, .null, .null, .null, .null] j := by
  intro j hj
  match j, hj with
  | 0, _ => rfl
  | 1, _ => rfl
  | 2, _ => rfl
  | 3, _ => rfl
  | 4, _ => rfl
  | 5, _ => rfl
  | 6, _ => rfl
  | 7, _ => rfl
  | 8, _ => rfl
  | (k + 9), h => exact absurd h (by omega)
theorem df_X12 : ∀ j, j < 106 → defaultValue (tyX12 j) = vp_V [.int 0, .null, .int 0, .null, .int 0, .null, .int 0, .int 0, .int 0, .int 0, .long 0, .int 0, .long 0, .int 0, .int 0, .int 0, .int 0, .int 0, .int 0, .null, .null, .null, .int 0, .null, .null, .null, .null, .null, .null, .int 0, .null, .int 0, .int 0, .null, .int 0, .int 0, .long 0, .int 0, .null, .int 0, .int 0, .null, .null, .null, .null, .null, .null, .int 0, .int 0, .null, .null, .null, .null, .int 0, .null, .null, .null, .null, .null, .null, .null, .int 0, .null, .null, .null, .int 0, .null, .null, .int 0, .int 0, .null, .null, .null, .null, .null, .null, .null, .null, .null, .null, .null, .int 0, .int 0, .int 0, .int 0, .int 0, .null, .null, .int 0, .int 0, .int 0, .int 0, .int 0, .int 0, .int 0, .int 0, .long 0, .int 0, .int 0, .long 0, .null, .null, .null, .null, .int 0, .null] j := by
  intro j hj
  match j, hj with
  | 0, _ => rfl
  | 1, _ => rfl
  | 2, _ => rfl
  | 3, _ => rfl
  | 4, _ => rfl
  | 5, _ => rfl
  | 6, _ => rfl
  | 7, _ => rfl
  | 8, _ => rfl
  | 9, _ => rfl
  | 10, _ => rfl
  | 11, _ => rfl
  | 12, _ => rfl
  | 13, _ => rfl
  | 14, _ => rfl
  | 15, _ => rfl
  | 16, _ => rfl
  | 17, _ => rfl
  | 18, _ => rfl
  | 19, _ => rfl
  | 20, _ => rfl
  | 21, _ => rfl
  | 22, _ => rfl
  | 23, _ => rfl
  | 24, _ => rfl
  | 25, _ => rfl
  | 26, _ => rfl
  | 27, _ => rfl
  | 28, _ => rfl
  | 29, _ => rfl
  | 30, _ => rfl
  | 31, _ => rfl
  | 32, _ => rfl
  | 33, _ => rfl
  | 34, _ => rfl
  | 35, _ => rfl
  | 36, _ => rfl
  | 37, _ => rfl
  | 38, _ => rfl
  | 39, _ => rfl
  | 40, _ => rfl
  | 41, _ => rfl
  | 42, _ => rfl
  | 43, _ => rfl
  | 44, _ => rfl
  | 45, _ => rfl
  | 46, _ => rfl
  | 47, _ => rfl
  | 48, _ => rfl
  | 49, _ => rfl
  | 50, _ => rfl
  | 51, _ => rfl
  | 52, _ => rfl
  | 53, _ => rfl
  | 54, _ => rfl
  | 55, _ => rfl
  | 56, _ => rfl
  | 57, _ => rfl
  | 58, _ => rfl
  | 59, _ => rfl
  | 60, _ => rfl
  | 61, _ => rfl
  | 62, _ => rfl
  | 63, _ => rfl
  | 64, _ => rfl
  | 65, _ => rfl
  | 66, _ => rfl
  | 67, _ => rfl
  | 68, _ => rfl
  | 69, _ => rfl
  | 70, _ => rfl
  | 71, _ => rfl
  | 72, _ => rfl
  | 73, _ => rfl
  | 74, _ => rfl
  | 75, _ => rfl
  | 76, _ => rfl
  | 77, _ => rfl
  | 78, _ => rfl
  | 79, _ => rfl
  | 80, _ => rfl
  | 81, _ => rfl
  | 82, _ => rfl
  | 83, _ => rfl
  | 84, _ => rfl
  | 85, _ => rfl
  | 86, _ => rfl
  | 87, _ => rfl
  | 88, _ => rfl
  | 89, _ => rfl
  | 90, _ => rfl
  | 91, _ => rfl
  | 92, _ => rfl
  | 93, _ => rfl
  | 94, _ => rfl
  | 95, _ => rfl
  | 96, _ => rfl
  | 97, _ => rfl
  | 98, _ => rfl
  | 99, _ => rfl
  | 100, _ => rfl
  | 101, _ => rfl
  | 102, _ => rfl
  | 103, _ => rfl
  | 104, _ => rfl
  | 105, _ => rfl
  | (k + 106), h => exact absurd h (by omega)
set_option maxRecDepth 100000 in
theorem in_law_RX0 : ∀ w ∈ u_ws RX0 TX0 6, w ∈ lw_tbl := by decide +kernel
set_option maxRecDepth 100000 in
theorem in_law_RX1 : ∀ w ∈ u_ws RX1 TX1 5, w ∈ lw_tbl := by decide +kernel
set_option maxRecDepth 100000 in
theorem in_law_RX10 : ∀ w ∈ u_ws RX10 TX10 16, w ∈ lw_tbl := by decide +kernel
set_option maxRecDepth 100000 in
theorem in_law_RX11 : ∀ w ∈ u_ws RX11 TX11 9, w ∈ lw_tbl := by decide +kernel
set_option maxRecDepth 100000 in
theorem in_law_RX12 : ∀ w ∈ u_ws RX12 TX12 106, w ∈ lw_tbl := by decide +kernel
set_option maxRecDepth 100000 in
theorem in_law_RX2 : ∀ w ∈ u_ws RX2 TX2 8, w ∈ lw_tbl := by decide +kernel
set_option maxRecDepth 100000 in
theorem in_law_RX3 : ∀ w ∈ u_ws RX3 TX3 7, w ∈ lw_tbl := by decide +kernel
set_option maxRecDepth 100000 in
theorem in_law_RX4 : ∀ w ∈ u_ws RX4 TX4 17, w ∈ lw_tbl := by decide +kernel
set_option maxRecDepth 100000 in
theorem in_law_RX5 : ∀ w ∈ u_ws RX5 TX5 5, w ∈ lw_tbl := by decide +kernel
set_option maxRecDepth 100000 in
theorem in_law_RX7 : ∀ w ∈ u_ws RX7 TX7 11, w ∈ lw_tbl := by decide +kernel
set_option maxRecDepth 100000 in
theorem in_law_RX8 : ∀ w ∈ u_ws RX8 TX8 8, w ∈ lw_tbl := by decide +kernel
set_option maxRecDepth 100000 in
theorem in_law_RX9 : ∀ w ∈ u_ws RX9 TX9 4, w ∈ lw_tbl := by decide +kernel
set_option maxRecDepth 100000 in
theorem gl_wsX11_init : GoodIn lw_tbl (wsX11_init) := goodIn_p _ [265, 268, 273, 279, 283, 289, 293, 296, 299, 304, 307, 310, 313, 317, 347, 351, 376, 382, 386, 430, 436, 532, 540, 564, 595] (by decide +kernel) (by decide +kernel)
set_option maxRecDepth 100000 in
theorem gl_wqX12_init : GoodIn lw_tbl (wqX12_init) := goodIn_p _ [1816, 268, 279, 283, 289, 293, 296, 299, 304, 307, 310, 313, 317, 1825] (by decide +kernel) (by decide +kernel)
set_option maxRecDepth 100000 in
theorem gl_wsX11_feed_13 : GoodIn lw_tbl (wsV RL 13 RX11 yX11_feed wsX11_feed) := goodIn_p _ [704, 708] (by decide +kernel) (by decide +kernel)
set_option maxRecDepth 100000 in
theorem gl_wqX12_feed_17 : GoodIn lw_tbl (wsV RL 17 RX12 yX12_feed wqX12_feed) := goodIn_p _ [2152] (by decide +kernel) (by decide +kernel)
set_option maxRecDepth 100000 in
theorem gl_wqX11_load_18 : GoodIn lw_tbl (wsV RL 18 RX11 yX11_load wqX11_load) := goodIn_p _ [712, 715, 719, 726, 730, 734, 386, 351, 769, 747, 774, 778, 876, 1167, 909] (by decide +kernel) (by decide +kernel)
set_option maxRecDepth 100000 in
theorem gl_wqX12_load_22 : GoodIn lw_tbl (wsV RL 22 RX12 yX12_load wqX12_load) := goodIn_p _ [2156, 2160, 2164, 2168, 2218, 2164] (by decide +kernel) (by decide +kernel)
set_option maxRecDepth 100000 in
theorem gl_wsX11_fault_23 : GoodIn lw_tbl (wsV RL 23 RX11 yX11_fault wsX11_fault) := goodIn_p _ [1181] (by decide +kernel) (by decide +kernel)
set_option maxRecDepth 100000 in
theorem gl_wqX12_fault_27 : GoodIn lw_tbl (wsV RL 27 RX12 yX12_fault wqX12_fault) := goodIn_p _ [2459] (by decide +kernel) (by decide +kernel)
set_option maxRecDepth 100000 in
theorem gl_wsX11_letter_28 : GoodIn lw_tbl (wsV RL 28 RX11 yX11_letter wsX11_letter) := goodIn_p _ [1185, 1189] (by decide +kernel) (by decide +kernel)
set_option maxRecDepth 100000 in
theorem gl_wqX12_letter_31 : GoodIn lw_tbl (wsV RL 31 RX12 yX12_letter wqX12_letter) := goodIn_p _ [2148] (by decide +kernel) (by decide +kernel)
set_option maxRecDepth 100000 in
theorem gl_wsX11_rule_32 : GoodIn lw_tbl (wsV RL 32 RX11 yX11_rule wsX11_rule) := goodIn_p _ [1194, 715, 1198, 1201] (by decide +kernel) (by decide +kernel)
set_option maxRecDepth 100000 in
theorem gl_wqX12_rule_36 : GoodIn lw_tbl (wsV RL 36 RX12 yX12_rule wqX12_rule) := goodIn_p _ [2463] (by decide +kernel) (by decide +kernel)
set_option maxRecDepth 100000 in
theorem gl_wsX11_entry_37 : GoodIn lw_tbl (wsV RL 37 RX11 yX11_entry wsX11_entry) := goodIn_p _ [1205, 715, 1209, 1213, 1217, 1201, 1221, 1225] (by decide +kernel) (by decide +kernel)
set_option maxRecDepth 100000 in
theorem gl_wqX12_entry_41 : GoodIn lw_tbl (wsV RL 41 RX12 yX12_entry wqX12_entry) := goodIn_p _ [2467, 2471, 2475] (by decide +kernel) (by decide +kernel)
set_option maxRecDepth 100000 in
theorem gl_wqX11_callq_44 : GoodIn lw_tbl (wsV RL 44 RX11 yX11_call wqX11_callq) := goodIn_p _ [1229, 715, 909] (by decide +kernel) (by decide +kernel)
set_option maxRecDepth 100000 in
theorem gl_wqX12_call__48 : GoodIn lw_tbl (wsV RL 48 RX12 yX12_call_ wqX12_call_) := goodIn_p _ [2479] (by decide +kernel) (by decide +kernel)
set_option maxRecDepth 100000 in
theorem gl_wsX11_look_49 : GoodIn lw_tbl (wsV RL 49 RX11 yX11_look wsX11_look) := goodIn_p _ [1758, 1213, 1762] (by decide +kernel) (by decide +kernel)
set_option maxRecDepth 100000 in
theorem gl_wqX12_look_53 : GoodIn lw_tbl (wsV RL 53 RX12 yX12_look wqX12_look) := goodIn_p _ [2692] (by decide +kernel) (by decide +kernel)
set_option maxRecDepth 100000 in
theorem gl_wsX11_answer_54 : GoodIn lw_tbl (wsV RL 54 RX11 yX11_answer wsX11_answer) := goodIn_p _ [1766, 1770] (by decide +kernel) (by decide +kernel)
set_option maxRecDepth 100000 in
theorem gl_wqX12_answer_58 : GoodIn lw_tbl (wsV RL 58 RX12 yX12_answer wqX12_answer) := goodIn_p _ [2696] (by decide +kernel) (by decide +kernel)
set_option maxRecDepth 100000 in
theorem gl_wsX11_mark_59 : GoodIn lw_tbl (wsV RL 59 RX11 yX11_mark wsX11_mark) := goodIn_p _ [1774, 1778, 1355, 1405, 1546, 1359] (by decide +kernel) (by decide +kernel)
set_option maxRecDepth 100000 in
theorem gl_wqX12_mark_63 : GoodIn lw_tbl (wsV RL 63 RX12 yX12_mark wqX12_mark) := goodIn_p _ [2700] (by decide +kernel) (by decide +kernel)
set_option maxRecDepth 100000 in
theorem gl_wsX11_markTongue_64 : GoodIn lw_tbl (wsV RL 64 RX11 yX11_markTongue wsX11_markTongue) := goodIn_p _ [1782, 1786, 1040, 1355] (by decide +kernel) (by decide +kernel)
set_option maxRecDepth 100000 in
theorem gl_wqX12_markTongue_67 : GoodIn lw_tbl (wsV RL 67 RX12 yX12_markTongue wqX12_markTongue) := goodIn_p _ [2704] (by decide +kernel) (by decide +kernel)
set_option maxRecDepth 100000 in
theorem gl_wsX11_failure_68 : GoodIn lw_tbl (wsV RL 68 RX11 yX11_failure wsX11_failure) := goodIn_p _ [1790, 1794, 1798, 1368, 1355] (by decide +kernel) (by decide +kernel)
set_option maxRecDepth 100000 in
theorem gl_wqX12_failure_71 : GoodIn lw_tbl (wsV RL 71 RX12 yX12_failure wqX12_failure) := goodIn_p _ [2708, 2712, 2716] (by decide +kernel) (by decide +kernel)
set_option maxRecDepth 100000 in
theorem gl_wsX11_under_72 : GoodIn lw_tbl (wsV RL 72 RX11 yX11_under wsX11_under) := goodIn_p _ [1803, 1807, 1798, 1368, 1355, 1811] (by decide +kernel) (by decide +kernel)
set_option maxRecDepth 100000 in
theorem gl_wqX12_under_76 : GoodIn lw_tbl (wsV RL 76 RX12 yX12_under wqX12_under) := goodIn_p _ [2724, 2712] (by decide +kernel) (by decide +kernel)
set_option maxRecDepth 100000 in
theorem st_names_m : ∀ j, j < 63 → Cond.eq (.elem (.field (.string RX5 29) "java/lang/String" "value" "[B") (.int (Int32.ofNat j))) (.int (nmB.getD j 0)) ∈ flatC (Jvm.Cond.and given_1 narrow_1) := by decide +kernel
set_option maxHeartbeats 4000000 in
set_option maxRecDepth 100000 in
theorem st_names {s : State} {b : Nat} {A : Nat → Prop} (hts : ∀ w ∈ lw_tbl, w.before #[Value.ref b] s = true) (hgv : (Jvm.Cond.and given_1 narrow_1).before #[Value.ref b] s = true) (hA : ∀ a : Nat, a < s.heap.size → ¬ A a) : ∃ aK aV : Nat, eS RX5 29 "zero index nothing sort size deep trap lost border any machine " 63 nmB aK aV A s := by
  have hs := flat_of_before _ hgv
  obtain ⟨adK, adV, hv, hq⟩ := vk_Sof (N := 1) (tm := fun _ => .string RX5 29) (len := [63]) (byt := [nmB]) (A := A) (args := #[Value.ref b]) (s := s) (fun i hi => by obtain rfl : i = 0 := by omega
                                                                                                       decide) (fun _ _ => hs _ (by decide +kernel)) (fun _ _ => hs _ (by decide +kernel)) (fun _ _ => hs _ (by decide +kernel)) (fun i hi => by obtain rfl : i = 0 := by omega
                                                                                                       exact hs _ (by decide +kernel)) (fun i hi j hj => by obtain rfl : i = 0 := by omega
                                                                                                       exact hs _ (st_names_m j hj)) (fun i j hi hj hne => absurd (show i = j by omega) hne) hA
  obtain ⟨h1, h2, h3, h4⟩ := hv.1 0 (by decide)
  refine ⟨adK 0, adV 0, ⟨h1, h2, h3, h4, ?_, ?_⟩, vk_R.of (hts (.stringRef RX5 29 "zero index nothing sort size deep trap lost border any machine ") (by decide +kernel)) (hq 0 (by decide))⟩
  · exact va_Zof (hts (.laysStatic "java/lang/String" "COMPACT_STRINGS" "Z") (by decide +kernel)) (hts (.initialized "java/lang/String") (by decide +kernel)) (va_eqt (hs _ (by decide +kernel))) hA
  · exact va_Zqof (hts (.laysStatic "jdk/internal/util/Preconditions" "SIOOBE_FORMATTER" "Ljava/util/function/BiFunction;") (by decide +kernel)) (hts (.initialized "jdk/internal/util/Preconditions") (by decide +kernel)) (hs _ (by decide +kernel)) hA
set_option maxRecDepth 100000 in
theorem st_words_m : ∀ j, j < 165 → Cond.eq (.elem (.field (.string RX10 67) "java/lang/String" "value" "[B") (.int (Int32.ofNat j))) (.int (wdB.getD j 0)) ∈ flatC (Jvm.Cond.and given_1 narrow_1) := by decide +kernel
set_option maxHeartbeats 4000000 in
set_option maxRecDepth 100000 in
theorem st_words {s : State} {b : Nat} {A : Nat → Prop} (hts : ∀ w ∈ lw_tbl, w.before #[Value.ref b] s = true) (hgv : (Jvm.Cond.and given_1 narrow_1).before #[Value.ref b] s = true) (hA : ∀ a : Nat, a < s.heap.size → ¬ A a) : ∃ aK aV : Nat, eS RX10 67 "kind under fn let if else while return mark throw try catch finally fail on go with end exit open then clean do none new size cell tag bad throws codes values exits " 165 wdB aK aV A s := by
  have hs := flat_of_before _ hgv
  obtain ⟨adK, adV, hv, hq⟩ := vk_Sof (N := 1) (tm := fun _ => .string RX10 67) (len := [165]) (byt := [wdB]) (A := A) (args := #[Value.ref b]) (s := s) (fun i hi => by obtain rfl : i = 0 := by omega
                                                                                                       decide) (fun _ _ => hs _ (by decide +kernel)) (fun _ _ => hs _ (by decide +kernel)) (fun _ _ => hs _ (by decide +kernel)) (fun i hi => by obtain rfl : i = 0 := by omega
                                                                                                       exact hs _ (by decide +kernel)) (fun i hi j hj => by obtain rfl : i = 0 := by omega
                                                                                                       exact hs _ (st_words_m j hj)) (fun i j hi hj hne => absurd (show i = j by omega) hne) hA
  obtain ⟨h1, h2, h3, h4⟩ := hv.1 0 (by decide)
  refine ⟨adK 0, adV 0, ⟨h1, h2, h3, h4, ?_, ?_⟩, vk_R.of (hts (.stringRef RX10 67 "kind under fn let if else while return mark throw try catch finally fail on go with end exit open then clean do none new size cell tag bad throws codes values exits ") (by decide +kernel)) (hq 0 (by decide))⟩
  · exact va_Zof (hts (.laysStatic "java/lang/String" "COMPACT_STRINGS" "Z") (by decide +kernel)) (hts (.initialized "java/lang/String") (by decide +kernel)) (va_eqt (hs _ (by decide +kernel))) hA
  · exact va_Zqof (hts (.laysStatic "jdk/internal/util/Preconditions" "SIOOBE_FORMATTER" "Ljava/util/function/BiFunction;") (by decide +kernel)) (hts (.initialized "jdk/internal/util/Preconditions") (by decide +kernel)) (hs _ (by decide +kernel)) hA
set_option maxRecDepth 100000 in
theorem st_model_m : ∀ j, j < 63 → Cond.eq (.elem (.field (.string RX12 182) "java/lang/String" "value" "[B") (.int (Int32.ofNat j))) (.int (nmB.getD j 0)) ∈ flatC (Jvm.Cond.and given_1 narrow_1) := by decide +kernel
set_option maxHeartbeats 4000000 in
set_option maxRecDepth 100000 in
theorem st_model {s : State} {b : Nat} {A : Nat → Prop} (hts : ∀ w ∈ lw_tbl, w.before #[Value.ref b] s = true) (hgv : (Jvm.Cond.and given_1 narrow_1).before #[Value.ref b] s = true) (hA : ∀ a : Nat, a < s.heap.size → ¬ A a) : ∃ aK aV : Nat, eS RX12 182 "zero index nothing sort size deep trap lost border any machine " 63 nmB aK aV A s := by
  have hs := flat_of_before _ hgv
  obtain ⟨adK, adV, hv, hq⟩ := vk_Sof (N := 1) (tm := fun _ => .string RX12 182) (len := [63]) (byt := [nmB]) (A := A) (args := #[Value.ref b]) (s := s) (fun i hi => by obtain rfl : i = 0 := by omega
                                                                                                       decide) (fun _ _ => hs _ (by decide +kernel)) (fun _ _ => hs _ (by decide +kernel)) (fun _ _ => hs _ (by decide +kernel)) (fun i hi => by obtain rfl : i = 0 := by omega
                                                                                                       exact hs _ (by decide +kernel)) (fun i hi j hj => by obtain rfl : i = 0 := by omega
                                                                                                       exact hs _ (st_model_m j hj)) (fun i j hi hj hne => absurd (show i = j by omega) hne) hA
  obtain ⟨h1, h2, h3, h4⟩ := hv.1 0 (by decide)
  refine ⟨adK 0, adV 0, ⟨h1, h2, h3, h4, ?_, ?_⟩, vk_R.of (hts (.stringRef RX12 182 "zero index nothing sort size deep trap lost border any machine ") (by decide +kernel)) (hq 0 (by decide))⟩
  · exact va_Zof (hts (.laysStatic "java/lang/String" "COMPACT_STRINGS" "Z") (by decide +kernel)) (hts (.initialized "java/lang/String") (by decide +kernel)) (va_eqt (hs _ (by decide +kernel))) hA
  · exact va_Zqof (hts (.laysStatic "jdk/internal/util/Preconditions" "SIOOBE_FORMATTER" "Ljava/util/function/BiFunction;") (by decide +kernel)) (hts (.initialized "jdk/internal/util/Preconditions") (by decide +kernel)) (hs _ (by decide +kernel)) hA
