/-! THE CLAIM OUT OF ONE WALK OF THE LAW'S BODY. Your part is whole_start (and what it stands on); all else here is the same for every law, but numbers. -/
def R_law : String := "FourTonguesLaw"
def lw_P (b : Addr) (xs : List Int32) (args : Array Value) (s : State) : Prop := args = #[.ref b] ∧ s.IntsAt b xs ∧ xs.length ≤ 3072 ∧ (Jvm.Cond.and given_1 narrow_1).before args s = true
/-- what a walk over the start with the record d0 says of its end, said of the start itself -/
theorem lw_closed {s t : State} {o : Outcome} {d0 : Drawn} {L : List Loc} {k n : Nat} (hd0 : s.drawn.sameBut d0 lw_cs) (hv : ∃ v, o = .returned v) (hW : (s.setDrawn d0).WarmedH t.vm) (hs : (s.setDrawn d0).sameButNew ({ t with vm := s.vm } : State) L k n) : State.butDraws s t lw_cs (fun t1 => Framed s o t1 L k n) := by
  have h2 : t.drawn = d0 := congrArg State.drawn hs.1
  refine ⟨⟨hv, hW, State.sameButNew.setDrawn hs s.drawn⟩, ?_, by decide⟩
  rw [h2]
  exact hd0
def lw_Q (_ : Array Value) (s : State) (o : Outcome) (t : State) : Prop := o = .returned (some (.int 1)) ∧ State.butDraws s t lw_cs (fun t1 => Framed s o t1 [] 600000 7302250)
def lw_Z (below : List Frame) (a : Array Value) (s : State) : State → Prop := fun t => ∃ o, t.status = .running ∧ Ended t below o ∧ lw_Q a s o t
/-- the law's own end, with 1 on the stack, nothing written that was there before, its room as the claim has it; d0: the record of draws at this point (at the entry s.drawn: begin with 'refine W.base ?_' and 'have hd0 := Drawn.sameBut.refl s.drawn lw_cs') -/
theorem lw_ret {p : Program} {l : Launch} {e : Env} {s : State} {m : MethodId} {below : List Frame} {meth : Method} {c : Code} {b : Nat} {d0 : Drawn} (hd0 : s.drawn.sameBut d0 lw_cs) (hx : p.tables.exec = Jvm.exec) (hb : c.code = code) (hr : meth.sig.returnType = ret) (hlocks : meth.locks = false) {pc : Nat} {H : Heap} {ls : Array Slot} (hdg : decode code pc = .ok (.ireturn, 1)) : W p l e room_1 (s.setDrawn d0) m #[Value.ref b] below meth c H [] 600000 7302250 (lw_Z below #[Value.ref b] s) (F0 m pc ls [.int 1]) := by
  intro T hT X
  obtain ⟨fs, hret, hrun, hended, hW, hframe⟩ := X.leave (v := some (.int 1)) (hlocks := hlocks) (fun h => by rw [hr] at h; cases h)
  have hmeth' : T.vm.method? m = some meth := X.method'
  refine ⟨T.setFrames fs, ?_, .returned (some (.int 1)), hrun, hended, rfl, lw_closed hd0 ⟨_, rfl⟩ hW hframe⟩
  jvm_step X.here [X.here.top, hx, hb, hdg, hmeth', hr, ret, narrow_b1]
  (try refine ⟨rfl, ?_⟩); (try refine ⟨rfl, ?_⟩)
  first | (intro acts; rw [hret _ acts rfl rfl rfl]) | rw [hret _ _ rfl rfl rfl]
  exact Steps.refl _
/-- what holds at the law's entry: the machine, the code, the tables' words (any of lw_tbl by 'hts w (by decide +kernel)'), the script of L ints xs at the cell b, what the Statement gives of the start (any of its parts by flat_of_before) -/
def lw_At (p : Program) (s : State) (m : MethodId) (meth : Method) (c : Code) (b L : Nat) (xs : Nat → Int32) : Prop :=
  p.tables.exec = Jvm.exec ∧ c.code = code ∧ meth.sig.returnType = ret ∧ c.maxLocals = 4 ∧ s.vm.findClass R_law = some m.cls ∧ (∀ w ∈ lw_tbl, w.before #[Value.ref b] s = true) ∧ va_X b L xs s s.heap ∧ b < s.heap.size ∧ meth.locks = false ∧ (Jvm.Cond.and given_1 narrow_1).before #[Value.ref b] s = true
theorem my_S1 {args : Array Value} {s : State} {tm : Term} {kn : Nat} {byt : List Int32} {A : Nat → Prop} (hN : kn < 2 ^ 31) (hex : (Cond.exactly tm "java/lang/String").before args s = true) (hco : (Cond.eq (.field tm "java/lang/String" "coder" "B") (.int 0)).before args s = true) (har : (Cond.arrayOf (.field tm "java/lang/String" "value" "[B") .byte).before args s = true) (hle : (Cond.eq (.length (.field tm "java/lang/String" "value" "[B")) (.int (Int32.ofNat kn))).before args s = true) (hel : ∀ j : Nat, j < kn → (Cond.eq (.elem (.field tm "java/lang/String" "value" "[B") (.int (Int32.ofNat j))) (.int (byt.getD j 0))).before args s = true) (hA : ∀ a : Nat, a < s.heap.size → ¬ A a) :
    ∃ aK aV : Nat, (va_O "java/lang/String" aK A s s.heap ∧ va_OF "java/lang/String" "coder" "B" (.int 0) aK A s s.heap ∧ va_OF "java/lang/String" "value" "[B" (.ref aV) aK A s s.heap ∧ va_T .byte aV kn (fun j => .int (byt.getD j 0)) A s s.heap) ∧ tm.eval args s none [] s = some (.ref aK) := by
  have h0 : ∀ {i : Nat}, i < 1 → i = 0 := fun h => by omega
  obtain ⟨adK, adV, hv, hq⟩ := vk_Sof (N := 1) (tm := fun _ => tm) (len := [kn]) (byt := [byt]) (A := A) (args := args) (s := s) (fun i hi => by rw [h0 hi]; exact hN) (fun _ _ => hex) (fun _ _ => hco) (fun _ _ => har) (fun i hi => by rw [h0 hi]; exact hle) (fun i hi => by rw [h0 hi]; exact hel) (fun i j hi hj hne => absurd ((h0 hi).trans (h0 hj).symm) hne) hA
  exact ⟨adK 0, adV 0, hv.1 0 (by decide), hq 0 (by decide)⟩
set_option maxRecDepth 100000 in
theorem st_m2 : Cond.eq (.static "java/lang/String" "COMPACT_STRINGS" "Z") (.int 1) ∈ flatC (Jvm.Cond.and given_1 narrow_1) ∧ Cond.isRef (.static "jdk/internal/util/Preconditions" "SIOOBE_FORMATTER" "Ljava/util/function/BiFunction;") ∈ flatC (Jvm.Cond.and given_1 narrow_1) := ⟨List.mem_of_getElem? (i := 4) (by decide +kernel), List.mem_of_getElem? (i := 5) (by decide +kernel)⟩
set_option maxRecDepth 100000 in
theorem st_cs {s : State} {b : Nat} {A : Nat → Prop} (hts : ∀ w ∈ lw_tbl, w.before #[Value.ref b] s = true) (hs : ∀ c ∈ flatC (Jvm.Cond.and given_1 narrow_1), c.before #[Value.ref b] s = true) (hA : ∀ a : Nat, a < s.heap.size → ¬ A a) : va_Z "java/lang/String" "COMPACT_STRINGS" "Z" (.int 1) A s s.heap := va_Zof (hts (.laysStatic "java/lang/String" "COMPACT_STRINGS" "Z") (List.mem_of_getElem? (i := 285) (by decide +kernel))) (hts (.initialized "java/lang/String") (List.mem_of_getElem? (i := 240) (by decide +kernel))) (va_eqt (hs _ st_m2.1)) hA
set_option maxRecDepth 100000 in
theorem st_fm {s : State} {b : Nat} {A : Nat → Prop} (hts : ∀ w ∈ lw_tbl, w.before #[Value.ref b] s = true) (hs : ∀ c ∈ flatC (Jvm.Cond.and given_1 narrow_1), c.before #[Value.ref b] s = true) (hA : ∀ a : Nat, a < s.heap.size → ¬ A a) : va_Zq "jdk/internal/util/Preconditions" "SIOOBE_FORMATTER" "Ljava/util/function/BiFunction;" A s s.heap := va_Zqof (hts (.laysStatic "jdk/internal/util/Preconditions" "SIOOBE_FORMATTER" "Ljava/util/function/BiFunction;") (List.mem_of_getElem? (i := 301) (by decide +kernel))) (hts (.initialized "jdk/internal/util/Preconditions") (List.mem_of_getElem? (i := 242) (by decide +kernel))) (hs _ st_m2.2) hA
set_option maxRecDepth 100000 in
theorem st_names_i : ∀ j, j < 63 → (flatC (Jvm.Cond.and given_1 narrow_1))[13 + j]? = some (Cond.eq (.elem (.field (.string RX5 29) "java/lang/String" "value" "[B") (.int (Int32.ofNat j))) (.int (nmB.getD j 0))) := by decide +kernel
theorem st_names_m (j : Nat) (hj : j < 63) : Cond.eq (.elem (.field (.string RX5 29) "java/lang/String" "value" "[B") (.int (Int32.ofNat j))) (.int (nmB.getD j 0)) ∈ flatC (Jvm.Cond.and given_1 narrow_1) := List.mem_of_getElem? (st_names_i j hj)
set_option maxRecDepth 100000 in
theorem st_names_a : Cond.exactly (.string RX5 29) "java/lang/String" ∈ flatC (Jvm.Cond.and given_1 narrow_1) ∧ Cond.eq (.field (.string RX5 29) "java/lang/String" "coder" "B") (.int 0) ∈ flatC (Jvm.Cond.and given_1 narrow_1) ∧ Cond.arrayOf (.field (.string RX5 29) "java/lang/String" "value" "[B") .byte ∈ flatC (Jvm.Cond.and given_1 narrow_1) ∧ Cond.eq (.length (.field (.string RX5 29) "java/lang/String" "value" "[B")) (.int (Int32.ofNat 63)) ∈ flatC (Jvm.Cond.and given_1 narrow_1) := ⟨List.mem_of_getElem? (i := 9) (by decide +kernel), List.mem_of_getElem? (i := 10) (by decide +kernel), List.mem_of_getElem? (i := 11) (by decide +kernel), List.mem_of_getElem? (i := 12) (by decide +kernel)⟩
set_option maxRecDepth 100000 in
theorem st_words_i : ∀ j, j < 165 → (flatC (Jvm.Cond.and given_1 narrow_1))[80 + j]? = some (Cond.eq (.elem (.field (.string RX10 67) "java/lang/String" "value" "[B") (.int (Int32.ofNat j))) (.int (wdB.getD j 0))) := by decide +kernel
theorem st_words_m (j : Nat) (hj : j < 165) : Cond.eq (.elem (.field (.string RX10 67) "java/lang/String" "value" "[B") (.int (Int32.ofNat j))) (.int (wdB.getD j 0)) ∈ flatC (Jvm.Cond.and given_1 narrow_1) := List.mem_of_getElem? (st_words_i j hj)
set_option maxRecDepth 100000 in
theorem st_words_a : Cond.exactly (.string RX10 67) "java/lang/String" ∈ flatC (Jvm.Cond.and given_1 narrow_1) ∧ Cond.eq (.field (.string RX10 67) "java/lang/String" "coder" "B") (.int 0) ∈ flatC (Jvm.Cond.and given_1 narrow_1) ∧ Cond.arrayOf (.field (.string RX10 67) "java/lang/String" "value" "[B") .byte ∈ flatC (Jvm.Cond.and given_1 narrow_1) ∧ Cond.eq (.length (.field (.string RX10 67) "java/lang/String" "value" "[B")) (.int (Int32.ofNat 165)) ∈ flatC (Jvm.Cond.and given_1 narrow_1) := ⟨List.mem_of_getElem? (i := 76) (by decide +kernel), List.mem_of_getElem? (i := 77) (by decide +kernel), List.mem_of_getElem? (i := 78) (by decide +kernel), List.mem_of_getElem? (i := 79) (by decide +kernel)⟩
set_option maxRecDepth 100000 in
theorem st_model_i : ∀ j, j < 63 → (flatC (Jvm.Cond.and given_1 narrow_1))[275 + j]? = some (Cond.eq (.elem (.field (.string RX12 182) "java/lang/String" "value" "[B") (.int (Int32.ofNat j))) (.int (nmB.getD j 0))) := by decide +kernel
theorem st_model_m (j : Nat) (hj : j < 63) : Cond.eq (.elem (.field (.string RX12 182) "java/lang/String" "value" "[B") (.int (Int32.ofNat j))) (.int (nmB.getD j 0)) ∈ flatC (Jvm.Cond.and given_1 narrow_1) := List.mem_of_getElem? (st_model_i j hj)
set_option maxRecDepth 100000 in
theorem st_model_a : Cond.exactly (.string RX12 182) "java/lang/String" ∈ flatC (Jvm.Cond.and given_1 narrow_1) ∧ Cond.eq (.field (.string RX12 182) "java/lang/String" "coder" "B") (.int 0) ∈ flatC (Jvm.Cond.and given_1 narrow_1) ∧ Cond.arrayOf (.field (.string RX12 182) "java/lang/String" "value" "[B") .byte ∈ flatC (Jvm.Cond.and given_1 narrow_1) ∧ Cond.eq (.length (.field (.string RX12 182) "java/lang/String" "value" "[B")) (.int (Int32.ofNat 63)) ∈ flatC (Jvm.Cond.and given_1 narrow_1) := ⟨List.mem_of_getElem? (i := 271) (by decide +kernel), List.mem_of_getElem? (i := 272) (by decide +kernel), List.mem_of_getElem? (i := 273) (by decide +kernel), List.mem_of_getElem? (i := 274) (by decide +kernel)⟩
set_option maxRecDepth 100000 in
theorem st_signs_i : ∀ j, j < 19 → (flatC (Jvm.Cond.and given_1 narrow_1))[250 + j]? = some (Cond.eq (.elem (.field (.string RX10 130) "java/lang/String" "value" "[B") (.int (Int32.ofNat j))) (.int (by1.getD j 0))) := by decide +kernel
theorem st_signs_m (j : Nat) (hj : j < 19) : Cond.eq (.elem (.field (.string RX10 130) "java/lang/String" "value" "[B") (.int (Int32.ofNat j))) (.int (by1.getD j 0)) ∈ flatC (Jvm.Cond.and given_1 narrow_1) := List.mem_of_getElem? (st_signs_i j hj)
set_option maxRecDepth 100000 in
theorem st_signs_a : Cond.exactly (.string RX10 130) "java/lang/String" ∈ flatC (Jvm.Cond.and given_1 narrow_1) ∧ Cond.eq (.field (.string RX10 130) "java/lang/String" "coder" "B") (.int 0) ∈ flatC (Jvm.Cond.and given_1 narrow_1) ∧ Cond.arrayOf (.field (.string RX10 130) "java/lang/String" "value" "[B") .byte ∈ flatC (Jvm.Cond.and given_1 narrow_1) ∧ Cond.eq (.length (.field (.string RX10 130) "java/lang/String" "value" "[B")) (.int (Int32.ofNat 19)) ∈ flatC (Jvm.Cond.and given_1 narrow_1) := ⟨List.mem_of_getElem? (i := 246) (by decide +kernel), List.mem_of_getElem? (i := 247) (by decide +kernel), List.mem_of_getElem? (i := 248) (by decide +kernel), List.mem_of_getElem? (i := 249) (by decide +kernel)⟩
set_option maxRecDepth 100000 in
theorem st_mwords_i : ∀ j, j < 165 → (flatC (Jvm.Cond.and given_1 narrow_1))[345 + j]? = some (Cond.eq (.elem (.field (.string RX12 259) "java/lang/String" "value" "[B") (.int (Int32.ofNat j))) (.int (by2.getD j 0))) := by decide +kernel
theorem st_mwords_m (j : Nat) (hj : j < 165) : Cond.eq (.elem (.field (.string RX12 259) "java/lang/String" "value" "[B") (.int (Int32.ofNat j))) (.int (by2.getD j 0)) ∈ flatC (Jvm.Cond.and given_1 narrow_1) := List.mem_of_getElem? (st_mwords_i j hj)
set_option maxRecDepth 100000 in
theorem st_mwords_a : Cond.exactly (.string RX12 259) "java/lang/String" ∈ flatC (Jvm.Cond.and given_1 narrow_1) ∧ Cond.eq (.field (.string RX12 259) "java/lang/String" "coder" "B") (.int 0) ∈ flatC (Jvm.Cond.and given_1 narrow_1) ∧ Cond.arrayOf (.field (.string RX12 259) "java/lang/String" "value" "[B") .byte ∈ flatC (Jvm.Cond.and given_1 narrow_1) ∧ Cond.eq (.length (.field (.string RX12 259) "java/lang/String" "value" "[B")) (.int (Int32.ofNat 165)) ∈ flatC (Jvm.Cond.and given_1 narrow_1) := ⟨List.mem_of_getElem? (i := 341) (by decide +kernel), List.mem_of_getElem? (i := 342) (by decide +kernel), List.mem_of_getElem? (i := 343) (by decide +kernel), List.mem_of_getElem? (i := 344) (by decide +kernel)⟩
set_option maxHeartbeats 4000000 in
set_option maxRecDepth 100000 in
theorem st_names {s : State} {b : Nat} {A : Nat → Prop} (hts : ∀ w ∈ lw_tbl, w.before #[Value.ref b] s = true) (hgv : (Jvm.Cond.and given_1 narrow_1).before #[Value.ref b] s = true) (hA : ∀ a : Nat, a < s.heap.size → ¬ A a) : ∃ aK aV : Nat, eS RX5 29 "zero index nothing sort size deep trap lost border any machine " 63 nmB aK aV A s := by
  have hs := flat_of_before _ hgv
  obtain ⟨aK, aV, ⟨h1, h2, h3, h4⟩, hq⟩ := my_S1 (kn := 63) (byt := nmB) (A := A) (by decide) (hs _ st_names_a.1) (hs _ st_names_a.2.1) (hs _ st_names_a.2.2.1) (hs _ st_names_a.2.2.2) (fun j hj => hs _ (st_names_m j hj)) hA
  exact ⟨aK, aV, ⟨h1, h2, h3, h4, st_cs hts hs hA, st_fm hts hs hA⟩, vk_R.of (hts (.stringRef RX5 29 "zero index nothing sort size deep trap lost border any machine ") (List.mem_of_getElem? (i := 275) (by decide +kernel))) hq⟩
set_option maxHeartbeats 4000000 in
set_option maxRecDepth 100000 in
theorem st_words {s : State} {b : Nat} {A : Nat → Prop} (hts : ∀ w ∈ lw_tbl, w.before #[Value.ref b] s = true) (hgv : (Jvm.Cond.and given_1 narrow_1).before #[Value.ref b] s = true) (hA : ∀ a : Nat, a < s.heap.size → ¬ A a) : ∃ aK aV : Nat, eS RX10 67 "kind under fn let if else while return mark throw try catch finally fail on go with end exit open then clean do none new size cell tag bad throws codes values exits " 165 wdB aK aV A s := by
  have hs := flat_of_before _ hgv
  obtain ⟨aK, aV, ⟨h1, h2, h3, h4⟩, hq⟩ := my_S1 (kn := 165) (byt := wdB) (A := A) (by decide) (hs _ st_words_a.1) (hs _ st_words_a.2.1) (hs _ st_words_a.2.2.1) (hs _ st_words_a.2.2.2) (fun j hj => hs _ (st_words_m j hj)) hA
  exact ⟨aK, aV, ⟨h1, h2, h3, h4, st_cs hts hs hA, st_fm hts hs hA⟩, vk_R.of (hts (.stringRef RX10 67 "kind under fn let if else while return mark throw try catch finally fail on go with end exit open then clean do none new size cell tag bad throws codes values exits ") (List.mem_of_getElem? (i := 438) (by decide +kernel))) hq⟩
set_option maxHeartbeats 4000000 in
set_option maxRecDepth 100000 in
theorem st_model {s : State} {b : Nat} {A : Nat → Prop} (hts : ∀ w ∈ lw_tbl, w.before #[Value.ref b] s = true) (hgv : (Jvm.Cond.and given_1 narrow_1).before #[Value.ref b] s = true) (hA : ∀ a : Nat, a < s.heap.size → ¬ A a) : ∃ aK aV : Nat, eS RX12 182 "zero index nothing sort size deep trap lost border any machine " 63 nmB aK aV A s := by
  have hs := flat_of_before _ hgv
  obtain ⟨aK, aV, ⟨h1, h2, h3, h4⟩, hq⟩ := my_S1 (kn := 63) (byt := nmB) (A := A) (by decide) (hs _ st_model_a.1) (hs _ st_model_a.2.1) (hs _ st_model_a.2.2.1) (hs _ st_model_a.2.2.2) (fun j hj => hs _ (st_model_m j hj)) hA
  exact ⟨aK, aV, ⟨h1, h2, h3, h4, st_cs hts hs hA, st_fm hts hs hA⟩, vk_R.of (hts (.stringRef RX12 182 "zero index nothing sort size deep trap lost border any machine ") (List.mem_of_getElem? (i := 1819) (by decide +kernel))) hq⟩
set_option maxHeartbeats 4000000 in
set_option maxRecDepth 100000 in
theorem st_signs {s : State} {b : Nat} {A : Nat → Prop} (hts : ∀ w ∈ lw_tbl, w.before #[Value.ref b] s = true) (hgv : (Jvm.Cond.and given_1 narrow_1).before #[Value.ref b] s = true) (hA : ∀ a : Nat, a < s.heap.size → ¬ A a) : ∃ aK aV : Nat, eS RX10 130 "(){}[],;.&!=<>+-*/%" 19 by1 aK aV A s := by
  have hs := flat_of_before _ hgv
  obtain ⟨aK, aV, ⟨h1, h2, h3, h4⟩, hq⟩ := my_S1 (kn := 19) (byt := by1) (A := A) (by decide) (hs _ st_signs_a.1) (hs _ st_signs_a.2.1) (hs _ st_signs_a.2.2.1) (hs _ st_signs_a.2.2.2) (fun j hj => hs _ (st_signs_m j hj)) hA
  exact ⟨aK, aV, ⟨h1, h2, h3, h4, st_cs hts hs hA, st_fm hts hs hA⟩, vk_R.of (hts (.stringRef RX10 130 "(){}[],;.&!=<>+-*/%") (List.mem_of_getElem? (i := 817) (by decide +kernel))) hq⟩
set_option maxHeartbeats 4000000 in
set_option maxRecDepth 100000 in
theorem st_mwords {s : State} {b : Nat} {A : Nat → Prop} (hts : ∀ w ∈ lw_tbl, w.before #[Value.ref b] s = true) (hgv : (Jvm.Cond.and given_1 narrow_1).before #[Value.ref b] s = true) (hA : ∀ a : Nat, a < s.heap.size → ¬ A a) : ∃ aK aV : Nat, eS RX12 259 "kind under fn let if else while return mark throw try catch finally fail on go with end exit open then clean do none new size cell tag bad throws codes values exits " 165 by2 aK aV A s := by
  have hs := flat_of_before _ hgv
  obtain ⟨aK, aV, ⟨h1, h2, h3, h4⟩, hq⟩ := my_S1 (kn := 165) (byt := by2) (A := A) (by decide) (hs _ st_mwords_a.1) (hs _ st_mwords_a.2.1) (hs _ st_mwords_a.2.2.1) (hs _ st_mwords_a.2.2.2) (fun j hj => hs _ (st_mwords_m j hj)) hA
  exact ⟨aK, aV, ⟨h1, h2, h3, h4, st_cs hts hs hA, st_fm hts hs hA⟩, vk_R.of (hts (.stringRef RX12 259 "kind under fn let if else while return mark throw try catch finally fail on go with end exit open then clean do none new size cell tag bad throws codes values exits ") (List.mem_of_getElem? (i := 2186) (by decide +kernel))) hq⟩
def chk6 (k : Nat) : List Cond := match k with
  | 0 => k2_sels lw_privs
  | 1 => tables_1_1
  | 2 => tables_1_2
  | 3 => tables_1_3
  | 4 => tables_1_4
  | 5 => tables_1_5
  | 6 => tables_1_6
  | 7 => tables_1_7
  | 8 => tables_1_8
  | 9 => tables_1_9
  | 10 => tables_1_10
  | 11 => tables_1_11
  | _ => []
theorem chk6_in (k : Nat) (w : Cond) (h : w ∈ chk6 k) : w ∈ lw_tbl := by
  match k, h with
  | 0, h => exact List.mem_append_left _ h
  | 1, h => exact List.mem_append_right _ (List.mem_append_left _ h)
  | 2, h => exact List.mem_append_right _ (List.mem_append_right _ (List.mem_append_left _ h))
  | 3, h => exact List.mem_append_right _ (List.mem_append_right _ (List.mem_append_right _ (List.mem_append_left _ h)))
  | 4, h => exact List.mem_append_right _ (List.mem_append_right _ (List.mem_append_right _ (List.mem_append_right _ (List.mem_append_left _ h))))
  | 5, h => exact List.mem_append_right _ (List.mem_append_right _ (List.mem_append_right _ (List.mem_append_right _ (List.mem_append_right _ (List.mem_append_left _ h)))))
  | 6, h => exact List.mem_append_right _ (List.mem_append_right _ (List.mem_append_right _ (List.mem_append_right _ (List.mem_append_right _ (List.mem_append_right _ (List.mem_append_left _ h))))))
  | 7, h => exact List.mem_append_right _ (List.mem_append_right _ (List.mem_append_right _ (List.mem_append_right _ (List.mem_append_right _ (List.mem_append_right _ (List.mem_append_right _ (List.mem_append_left _ h)))))))
  | 8, h => exact List.mem_append_right _ (List.mem_append_right _ (List.mem_append_right _ (List.mem_append_right _ (List.mem_append_right _ (List.mem_append_right _ (List.mem_append_right _ (List.mem_append_right _ (List.mem_append_left _ h))))))))
  | 9, h => exact List.mem_append_right _ (List.mem_append_right _ (List.mem_append_right _ (List.mem_append_right _ (List.mem_append_right _ (List.mem_append_right _ (List.mem_append_right _ (List.mem_append_right _ (List.mem_append_right _ (List.mem_append_left _ h)))))))))
  | 10, h => exact List.mem_append_right _ (List.mem_append_right _ (List.mem_append_right _ (List.mem_append_right _ (List.mem_append_right _ (List.mem_append_right _ (List.mem_append_right _ (List.mem_append_right _ (List.mem_append_right _ (List.mem_append_right _ (List.mem_append_left _ h))))))))))
  | 11, h => exact List.mem_append_right _ (List.mem_append_right _ (List.mem_append_right _ (List.mem_append_right _ (List.mem_append_right _ (List.mem_append_right _ (List.mem_append_right _ (List.mem_append_right _ (List.mem_append_right _ (List.mem_append_right _ (List.mem_append_right _ (h)))))))))))
  | (n + 12), h => exact absurd h List.not_mem_nil
theorem goodIn_c (ws : List Cond) (ps : List (Nat × Nat)) (hp : ws = ps.filterMap (fun q => (chk6 q.1)[q.2]?)) (h : ws.all goodWord = true) : GoodIn lw_tbl ws := by
  intro w hw
  have h1 := List.all_eq_true.mp h w hw
  rw [hp] at hw
  obtain ⟨q, -, hq⟩ := List.mem_filterMap.mp hw
  exact ⟨chk6_in q.1 w (List.mem_of_getElem? hq), good_of_word h1⟩
