/-! words of my own over the kit's worlds: what a method that only reads is given (xR), what one that writes is given (xM), what it leaves (xB) -/
section XB
variable {p : Program} {l : Launch} {e : Env} {R : Room} {s : State} {m : MethodId} {args : Array Value} {below : List Frame} {meth : Method} {c : Code} {H : Heap} {locs : List Loc} {cells slots : Nat} {Q : State → Prop}
theorem my_ti {pc : Nat} {ls : Array Slot} {rest : List Value} {x v : Int32} (h : x = v) (k : W p l e R s m args below meth c H locs cells slots Q (F0 m pc ls (.int v :: rest))) : W p l e R s m args below meth c H locs cells slots Q (F0 m pc ls (.int x :: rest)) := by
  subst h; exact k
theorem my_tl {pc : Nat} {ls : Array Slot} {rest : List Value} {x v : Int64} (h : x = v) (k : W p l e R s m args below meth c H locs cells slots Q (F0 m pc ls (.long v :: rest))) : W p l e R s m args below meth c H locs cells slots Q (F0 m pc ls (.long x :: rest)) := by
  subst h; exact k
theorem my_tv {pc : Nat} {ls : Array Slot} {rest : List Value} {x v : Value} (h : x = v) (k : W p l e R s m args below meth c H locs cells slots Q (F0 m pc ls (v :: rest))) : W p l e R s m args below meth c H locs cells slots Q (F0 m pc ls (x :: rest)) := by
  subst h; exact k
end XB
def xR (D : va_G) (ws : va_W) (tys : List (ClassId × FieldType)) (U : State) : Prop := va_P D vwCl ws U.heap ∧ va_K D vwCl tys U
def xM (D : va_G) (sz : Nat) (ws : va_W) (tys : List (ClassId × FieldType)) (U : State) : Prop := U.heap.size = sz ∧ va_P D vwCl ws U.heap ∧ va_K D vwCl tys U ∧ va_D (fun _ => True) ws
def xB (D : va_G) (ws : va_W) (tys : List (ClassId × FieldType)) (A : Nat → Prop) (t : State) : Prop := va_P D vwCl ws t.heap ∧ va_K D vwCl tys t ∧ va_D A ws
theorem xR.at {D : va_G} {ws : va_W} {tys : List (ClassId × FieldType)} {s U : State} {H : Heap} (hP : va_P D vwCl ws H) (hK : va_K D vwCl tys s) (hU : U.heap = H) (hW : s.WarmedH U.vm) : xR D ws tys U := ⟨by rw [hU]; exact hP, va_K.moved hW.alike hK⟩
theorem xM.at {D : va_G} {ws : va_W} {tys : List (ClassId × FieldType)} {s U : State} {H : Heap} {A : Nat → Prop} (hP : va_P D vwCl ws H) (hK : va_K D vwCl tys s) (hD : va_D A ws) (hU : U.heap = H) (hW : s.WarmedH U.vm) : xM D H.size ws tys U := ⟨by rw [hU], by rw [hU]; exact hP, va_K.moved hW.alike hK, hD.weaken (fun _ _ _ _ => trivial)⟩
theorem xR.keep {D : va_G} {ws : va_W} {H H1 : Heap} (hP : va_P D vwCl ws H) (hk : ∀ q : Nat, q < H.size → ¬ (fun _ : Nat => False) q → H1[q]? = H[q]?) : va_P D vwCl ws H1 := fun k q h => (hP k q h).kept (hk q.1 (hP k q h).lt (fun h => h))
theorem xB.nil {D : va_G} {A : Nat → Prop} {tys : List (ClassId × FieldType)} {s t : State} (hvm : s.vm.Alike t.vm) (hK : va_K D vwCl tys s) : xB D [] [] A t := ⟨fun k q h => by simp at h, va_K.moved hvm (hK.sub [] rfl), ⟨fun i j p q h => by simp at h, fun k q h => by simp at h⟩⟩
theorem xB.join {A0 : Nat → Prop} {D : va_G} {ws wc wr w1 : va_W} {tys t1 : List (ClassId × FieldType)} {H H1 : Heap} {s t : State} (hP : va_P D vwCl ws H) (hD : va_D A0 ws) (hK : va_K D vwCl tys s) (isC isR : List Nat) (hC : isC.map (fun i => ws[i]?) = wc.map some) (hR : isR.map (fun i => ws[i]?) = wr.map some) (hn : va_nd isR = true) (hdis : ∀ i ∈ isR, i ∉ isC)
    (hk : ∀ q : Nat, q < H.size → ¬ va_A wc H.size q → H1[q]? = H[q]?) (hF : ∀ q, va_A wc H.size q → A0 q) (hB : xB D w1 t1 (va_A wc H.size) t) (ht : t.heap = H1) (hvm : s.vm.Alike t.vm) : va_P D vwCl (wr ++ w1) H1 ∧ va_D A0 (wr ++ w1) ∧ va_K D vwCl (tys ++ t1) s := by
  obtain ⟨hP1, hK1, hD1⟩ := hB
  rw [ht] at hP1
  obtain ⟨h1, h2⟩ := va_join hP hD isC isR hC hR hn hdis hk hF hP1 hD1
  exact ⟨h1, h2, hK.app (va_K.moved hvm.symm hK1)⟩
theorem cz_int (n : Nat) : ∀ cA : ClassId, vp_cell cA (n, .inl (fun _ => 0)) = arrV cA n (fun _ => defaultValue .int) := fun _ => rfl
theorem cz_byte (n : Nat) : ∀ cA : ClassId, vp_cell cA (n, .inl (fun _ => 0)) = arrV cA n (fun _ => defaultValue .byte) := fun _ => rfl
theorem cz_long (n : Nat) : ∀ cA : ClassId, vp_cell cA (n, .inr (.inl (fun _ => 0))) = arrV cA n (fun _ => defaultValue .long) := fun _ => rfl
theorem cz_double (n : Nat) : ∀ cA : ClassId, vp_cell cA (n, .inr (.inr (.inr (.inl (fun _ => 0))))) = arrV cA n (fun _ => defaultValue .double) := fun _ => rfl
theorem fb_R {av : List Value} {D : va_G} {ws : va_W} {tys : List (ClassId × FieldType)} : FrameBlind (va_Pc av (fun U => xR D ws tys U)) := fun a U g mk q => ⟨q.1, q.2.1, va_K.moved (u := U) (U := U.calling g mk a) (Vm.Alike.refl U.vm) q.2.2⟩
theorem fb_M {av : List Value} {D : va_G} {sz : Nat} {ws : va_W} {tys : List (ClassId × FieldType)} : FrameBlind (va_Pc av (fun U => xM D sz ws tys U)) := fun a U g mk q => ⟨q.1, q.2.1, q.2.2.1, va_K.moved (u := U) (U := U.calling g mk a) (Vm.Alike.refl U.vm) q.2.2.2.1, q.2.2.2.2⟩
theorem fb_RE {av : List Value} {D : va_G} {ws : va_W} {tys : List (ClassId × FieldType)} {E : State → Prop} (hE : ∀ (U : State) (g : JFrame) (mk : MethodId) (a : Array Value), E U → E (U.calling g mk a)) : FrameBlind (va_Pc av (fun U => xR D ws tys U ∧ E U)) := fun a U g mk q => ⟨q.1, ⟨q.2.1.1, va_K.moved (u := U) (U := U.calling g mk a) (Vm.Alike.refl U.vm) q.2.1.2⟩, hE U g mk a q.2.2⟩
theorem fb_ME {av : List Value} {D : va_G} {sz : Nat} {ws : va_W} {tys : List (ClassId × FieldType)} {E : State → Prop} (hE : ∀ (U : State) (g : JFrame) (mk : MethodId) (a : Array Value), E U → E (U.calling g mk a)) : FrameBlind (va_Pc av (fun U => xM D sz ws tys U ∧ E U)) := fun a U g mk q => ⟨q.1, ⟨q.2.1.1, q.2.1.2.1, va_K.moved (u := U) (U := U.calling g mk a) (Vm.Alike.refl U.vm) q.2.1.2.2.1, q.2.1.2.2.2⟩, hE U g mk a q.2.2⟩
/-- a text that the class has as a constant: its String at aK, the bytes at aV; and the two statics that its methods read -/
def sE (kn : Nat) (byt : List Int32) (aK aV : Nat) (A : Nat → Prop) (U : State) (H : Heap) : Prop :=
  va_O "java/lang/String" aK A U H ∧ va_OF "java/lang/String" "coder" "B" (.int 0) aK A U H ∧ va_OF "java/lang/String" "value" "[B" (.ref aV) aK A U H ∧ va_T .byte aV kn (fun j => .int (byt.getD j 0)) A U H ∧ va_Z "java/lang/String" "COMPACT_STRINGS" "Z" (.int 1) A U H ∧ va_Zq "jdk/internal/util/Preconditions" "SIOOBE_FORMATTER" "Ljava/util/function/BiFunction;" A U H
theorem sE.moved {kn : Nat} {byt : List Int32} {aK aV : Nat} {A : Nat → Prop} {u U : State} {H : Heap} (hvm : u.vm.Alike U.vm) (h : sE kn byt aK aV A u H) : sE kn byt aK aV A U H := ⟨h.1.moved hvm, h.2.1.moved hvm, h.2.2.1.moved hvm, h.2.2.2.1.moved hvm, h.2.2.2.2.1.moved hvm, h.2.2.2.2.2.moved hvm⟩
theorem sE.kept {kn : Nat} {byt : List Int32} {aK aV : Nat} {A : Nat → Prop} {U : State} {H H1 : Heap} (h : sE kn byt aK aV A U H) (hq : ∀ a : Nat, a < H.size → ¬ A a → H1[a]? = H[a]?) : sE kn byt aK aV A U H1 := ⟨h.1.kept hq, h.2.1.kept hq, h.2.2.1.kept hq, h.2.2.2.1.kept hq, h.2.2.2.2.1.kept hq, h.2.2.2.2.2.kept hq⟩
theorem sE.narrow {kn : Nat} {byt : List Int32} {aK aV : Nat} {A B : Nat → Prop} {U : State} {H : Heap} (h : sE kn byt aK aV A U H) (hAB : ∀ q, B q → A q) : sE kn byt aK aV B U H := ⟨h.1.narrow hAB, h.2.1.narrow hAB, h.2.2.1.narrow hAB, h.2.2.2.1.narrow hAB, h.2.2.2.2.1.narrow hAB, h.2.2.2.2.2.narrow hAB⟩
theorem sE.at {kn : Nat} {byt : List Int32} {aK aV : Nat} {A B : Nat → Prop} {s U : State} {H : Heap} {locs : List Loc} (hE : sE kn byt aK aV A s s.heap) (hS : va_S A s.heap H locs) (hAB : ∀ q, B q → A q) (hU : U.heap = H) (hW : s.WarmedH U.vm) : sE kn byt aK aV B U U.heap := by
  rw [hU]
  exact ((hE.kept hS.2.1).moved hW.alike).narrow hAB
theorem sE.fb {kn : Nat} {byt : List Int32} {aK aV : Nat} {A : Nat → Prop} : ∀ (U : State) (g : JFrame) (mk : MethodId) (a : Array Value), sE kn byt aK aV A U U.heap → sE kn byt aK aV A (U.calling g mk a) (U.calling g mk a).heap := fun U g mk a h => sE.moved (u := U) (U := U.calling g mk a) (Vm.Alike.refl U.vm) h
theorem sE.recv {kn : Nat} {byt : List Int32} {aK aV : Nat} {A : Nat → Prop} {s : State} {H : Heap} {locs : List Loc} (hE : sE kn byt aK aV A s s.heap) (hS : va_S A s.heap H locs) : ∃ cell : Cell, H[aK]? = some cell ∧ cell.vm.isStatics = false ∧ s.vm.findClass RJ0 = some cell.cls := va_Orecv hE.1 hS
theorem na_char (x : Int32) : narrow .char (.int (x.toUInt32 % 65536).toInt32) = .int (x.toUInt32 % 65536).toInt32 := by
  have h : ∀ y : UInt32, y % 65536 % 65536 = y % 65536 := fun y => UInt32.toNat_inj.mp (by rw [UInt32.toNat_mod, UInt32.toNat_mod, Nat.mod_mod])
  simp [narrow, h]
/-- a loop: what holds at its head, i times round -/
theorem my_for {p : Program} {l : Launch} {e : Env} {R : Room} {s : State} {m : MethodId} {args : Array Value} {below : List Frame} {meth : Method} {c : Code} {cells slots : Nat} {Q : State → Prop} {I : Nat → Heap → List Loc → Array Slot → Prop} {pc : Nat} {st : List Value} (N : Nat)
    (step : ∀ (i : Nat) (H : Heap) (locs : List Loc) (ls : Array Slot), i ≤ N → I i H locs ls → (i < N → ∀ (H' : Heap) (locs' : List Loc) (ls' : Array Slot), I (i + 1) H' locs' ls' → W p l e R s m args below meth c H' locs' cells slots Q (F0 m pc ls' st)) → W p l e R s m args below meth c H locs cells slots Q (F0 m pc ls st)) :
    ∀ (i : Nat) (H : Heap) (locs : List Loc) (ls : Array Slot), i ≤ N → I i H locs ls → W p l e R s m args below meth c H locs cells slots Q (F0 m pc ls st) := by
  suffices h : ∀ (d i : Nat), i + d = N → ∀ (H : Heap) (locs : List Loc) (ls : Array Slot), I i H locs ls → W p l e R s m args below meth c H locs cells slots Q (F0 m pc ls st) from fun i H locs ls hi hI => h (N - i) i (by omega) H locs ls hI
  intro d
  induction d with
  | zero => intro i hi H locs ls hI; exact step i H locs ls (by omega) hI (fun h => absurd h (by omega))
  | succ d ih => intro i hi H locs ls hI; exact step i H locs ls (by omega) hI (fun _ H' locs' ls' h' => ih (i + 1) (by omega) H' locs' ls' h')
/-- a text constant, and the row that loads it -/
def eS (own : String) (ix : Nat) (tx : String) (kn : Nat) (byt : List Int32) (aK aV : Nat) (A : Nat → Prop) (U : State) : Prop := sE kn byt aK aV A U U.heap ∧ vk_R own ix tx aK U
theorem eS.at {own tx : String} {ix kn : Nat} {byt : List Int32} {aK aV : Nat} {A B : Nat → Prop} {s U : State} {H : Heap} {locs : List Loc} (hE : eS own ix tx kn byt aK aV A s) (hS : va_S A s.heap H locs) (hAB : ∀ q, B q → A q) (hU : U.heap = H) (hW : s.WarmedH U.vm) : eS own ix tx kn byt aK aV B U := ⟨hE.1.at hS hAB hU hW, hE.2.warm hW⟩
theorem eS.fb {own tx : String} {ix kn : Nat} {byt : List Int32} {aK aV : Nat} {A : Nat → Prop} : ∀ (U : State) (g : JFrame) (mk : MethodId) (a : Array Value), eS own ix tx kn byt aK aV A U → eS own ix tx kn byt aK aV A (U.calling g mk a) := fun U g mk a h => ⟨sE.fb U g mk a h.1, vk_R.same (u := U) (U := U.calling g mk a) rfl h.2⟩
theorem eN_at {a : String} {i : Nat} {x : MethodName} {h : String} {s U : State} (hZ : va_Nw (.methodLinkNest a i x h) s) (hW : s.WarmedH U.vm) : va_Nw (.methodLinkNest a i x h) U := va_Nw.warmM hW hZ
theorem eN_fb {a : String} {i : Nat} {x : MethodName} {h : String} (U : State) (g : JFrame) (mk : MethodId) (b : Array Value) (hZ : va_Nw (.methodLinkNest a i x h) U) : va_Nw (.methodLinkNest a i x h) (U.calling g mk b) := va_Nw.same (u := U) (U := U.calling g mk b) rfl rfl hZ
