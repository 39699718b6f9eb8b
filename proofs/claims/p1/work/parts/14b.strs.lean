set_option maxHeartbeats 4000000 in
set_option maxRecDepth 100000 in
theorem st_names {s : State} {b : Nat} {A : Nat → Prop} (hts : ∀ w ∈ lw_tbl, w.before #[Value.ref b] s = true) (hgv : (Jvm.Cond.and given_1 narrow_1).before #[Value.ref b] s = true) (hA : ∀ a : Nat, a < s.heap.size → ¬ A a) : ∃ aK aV : Nat, eS RX5 29 "zero index nothing sort size deep trap lost border any machine " 63 nmB aK aV A s := by
  have hs := flat_of_before _ hgv
  obtain ⟨aK, aV, ⟨h1, h2, h3, h4⟩, hq⟩ := my_S1 (kn := 63) (byt := nmB) (A := A) (by decide) (hs _ st_names_a.1) (hs _ st_names_a.2.1) (hs _ st_names_a.2.2.1) (hs _ st_names_a.2.2.2) (fun j hj => hs _ (st_names_m j hj)) hA
  exact ⟨aK, aV, ⟨h1, h2, h3, h4, st_cs hts hs hA, st_fm hts hs hA⟩, vk_R.of (hts (.stringRef RX5 29 "zero index nothing sort size deep trap lost border any machine ") (List.mem_of_getElem? (i := 275) (by decide +kernel))) hq⟩
set_option maxHeartbeats 4000000 in
set_option maxRecDepth 100000 in
theorem st_words {s : State} {b : Nat} {A : Nat → Prop} (hts : ∀ w ∈ lw_tbl, w.before #[Value.ref b] s = true) (hgv : (Jvm.Cond.and given_1 narrow_1).before #[Value.ref b] s = true) (hA : ∀ a : Nat, a < s.heap.size → ¬ A a) : ∃ aK aV : Nat, eS RX10 67 "kind under fn let if else while return mark throw try catch finally fail on go with end exit open then clean do none new size cell tag bad throws codes values exits " 165 wdB aK aV A s := by
  have hs := flat_of_before _ hgv
  obtain ⟨aK, aV, ⟨h1, h2, h3, h4⟩, hq⟩ := my_S1 (kn := 165) (byt := wdB) (A := A) (by decide) (hs _ st_words_a.1) (hs _ st_words_a.2.1) (hs _ st_words_a.2.2.1) (hs _ st_words_a.2.2.2) (fun j hj => hs _ (st_words_m j hj)) hA
  exact ⟨aK, aV, ⟨h1, h2, h3, h4, st_cs hts hs hA, st_fm hts hs hA⟩, vk_R.of (hts (.stringRef RX10 67 "kind under fn let if else while return mark throw try catch finally fail on go with end exit open then clean do none new size cell tag bad throws codes values exits ") (List.mem_of_getElem? (i := 438) (by decide +kernel))) hq⟩
set_option maxHeartbeats 4000000 in
set_option maxRecDepth 100000 in
theorem st_model {s : State} {b : Nat} {A : Nat → Prop} (hts : ∀ w ∈ lw_tbl, w.before #[Value.ref b] s = true) (hgv : (Jvm.Cond.and given_1 narrow_1).before #[Value.ref b] s = true) (hA : ∀ a : Nat, a < s.heap.size → ¬ A a) : ∃ aK aV : Nat, eS RX12 182 "zero index nothing sort size deep trap lost border any machine " 63 nmB aK aV A s := by
  have hs := flat_of_before _ hgv
  obtain ⟨aK, aV, ⟨h1, h2, h3, h4⟩, hq⟩ := my_S1 (kn := 63) (byt := nmB) (A := A) (by decide) (hs _ st_model_a.1) (hs _ st_model_a.2.1) (hs _ st_model_a.2.2.1) (hs _ st_model_a.2.2.2) (fun j hj => hs _ (st_model_m j hj)) hA
  exact ⟨aK, aV, ⟨h1, h2, h3, h4, st_cs hts hs hA, st_fm hts hs hA⟩, vk_R.of (hts (.stringRef RX12 182 "zero index nothing sort size deep trap lost border any machine ") (List.mem_of_getElem? (i := 1819) (by decide +kernel))) hq⟩
