abbrev cX0_border : ByteArray := prog_2_method_2_code
def yX0_border : MethodName := ⟨RX0, "border", "(II)I"⟩
abbrev cX0_setRule : ByteArray := prog_2_method_3_code
def yX0_setRule : MethodName := ⟨RX0, "setRule", "(III)V"⟩
abbrev cX0_setDefault : ByteArray := prog_2_method_4_code
def yX0_setDefault : MethodName := ⟨RX0, "setDefault", "(III)V"⟩
abbrev cX1_values : ByteArray := prog_3_method_5_code
def yX1_values : MethodName := ⟨RX1, "values", "()LFourTongues$Row;"⟩
abbrev cX2_clear : ByteArray := prog_4_method_2_code
def yX2_clear : MethodName := ⟨RX2, "clear", "()V"⟩
abbrev cX2_count : ByteArray := prog_4_method_3_code
def yX2_count : MethodName := ⟨RX2, "count", "()I"⟩
abbrev cX2_isFull : ByteArray := prog_4_method_4_code
def yX2_isFull : MethodName := ⟨RX2, "isFull", "()Z"⟩
abbrev cX2_pop : ByteArray := prog_4_method_6_code
def yX2_pop : MethodName := ⟨RX2, "pop", "()V"⟩
abbrev cX3_count : ByteArray := prog_5_method_4_code
def yX3_count : MethodName := ⟨RX3, "count", "()I"⟩
abbrev cX3_answers : ByteArray := prog_5_method_15_code
def yX3_answers : MethodName := ⟨RX3, "answers", "()LFourTongues$Row;"⟩
abbrev cX5_inAll : ByteArray := prog_7_method_2_code
def yX5_inAll : MethodName := ⟨RX5, "inAll", "()I"⟩
abbrev cX5_above : ByteArray := prog_7_method_7_code
def yX5_above : MethodName := ⟨RX5, "above", "(I)I"⟩
abbrev cX5_setAbove : ByteArray := prog_7_method_8_code
def yX5_setAbove : MethodName := ⟨RX5, "setAbove", "(II)V"⟩
abbrev cX8_functions : ByteArray := prog_10_method_3_code
def yX8_functions : MethodName := ⟨RX8, "functions", "()I"⟩
abbrev cX8_length : ByteArray := prog_10_method_4_code
def yX8_length : MethodName := ⟨RX8, "length", "()I"⟩
abbrev cX8_constants : ByteArray := prog_10_method_15_code
def yX8_constants : MethodName := ⟨RX8, "constants", "()LFourTongues$Row;"⟩
abbrev cX9_count : ByteArray := prog_11_method_2_code
def yX9_count : MethodName := ⟨RX9, "count", "()I"⟩
abbrev cX9_kind : ByteArray := prog_11_method_3_code
def yX9_kind : MethodName := ⟨RX9, "kind", "(I)I"⟩
abbrev cX9_whole : ByteArray := prog_11_method_4_code
def yX9_whole : MethodName := ⟨RX9, "whole", "(I)J"⟩
abbrev cX9_real : ByteArray := prog_11_method_5_code
def yX9_real : MethodName := ⟨RX9, "real", "(I)D"⟩
abbrev cX9_kindOfTop : ByteArray := prog_11_method_6_code
def yX9_kindOfTop : MethodName := ⟨RX9, "kindOfTop", "()I"⟩
abbrev cX9_set : ByteArray := prog_11_method_9_code
def yX9_set : MethodName := ⟨RX9, "set", "(IIJD)V"⟩
theorem dX0_border_0 : decode cX0_border 0 = .ok (.iload_n 0, 1) := by decide +kernel
theorem dX0_border_1 : decode cX0_border 1 = .ok (.iconst 3, 1) := by decide +kernel
theorem dX0_border_2 : decode cX0_border 2 = .ok (.iand, 1) := by decide +kernel
theorem dX0_border_3 : decode cX0_border 3 = .ok (.iconst 4, 1) := by decide +kernel
theorem dX0_border_4 : decode cX0_border 4 = .ok (.imul, 1) := by decide +kernel
theorem dX0_border_5 : decode cX0_border 5 = .ok (.iload_n 1, 1) := by decide +kernel
theorem dX0_border_6 : decode cX0_border 6 = .ok (.iconst 3, 1) := by decide +kernel
theorem dX0_border_7 : decode cX0_border 7 = .ok (.iand, 1) := by decide +kernel
theorem dX0_border_8 : decode cX0_border 8 = .ok (.iadd, 1) := by decide +kernel
theorem dX0_border_9 : decode cX0_border 9 = .ok (.ireturn, 1) := by decide +kernel
theorem dX0_setRule_0 : decode cX0_setRule 0 = .ok (.aload_n 0, 1) := by decide +kernel
theorem dX0_setRule_1 : decode cX0_setRule 1 = .ok (.getfield 9, 3) := by decide +kernel
theorem dX0_setRule_4 : decode cX0_setRule 4 = .ok (.iload_n 1, 1) := by decide +kernel
theorem dX0_setRule_5 : decode cX0_setRule 5 = .ok (.iload_n 2, 1) := by decide +kernel
theorem dX0_setRule_6 : decode cX0_setRule 6 = .ok (.invokestatic 37, 3) := by decide +kernel
theorem dX0_setRule_9 : decode cX0_setRule 9 = .ok (.iload_n 3, 1) := by decide +kernel
theorem dX0_setRule_10 : decode cX0_setRule 10 = .ok (.iastore, 1) := by decide +kernel
theorem dX0_setRule_11 : decode cX0_setRule 11 = .ok (.return_, 1) := by decide +kernel
theorem dX0_setDefault_0 : decode cX0_setDefault 0 = .ok (.aload_n 0, 1) := by decide +kernel
theorem dX0_setDefault_1 : decode cX0_setDefault 1 = .ok (.getfield 15, 3) := by decide +kernel
theorem dX0_setDefault_4 : decode cX0_setDefault 4 = .ok (.iload_n 1, 1) := by decide +kernel
theorem dX0_setDefault_5 : decode cX0_setDefault 5 = .ok (.iload_n 2, 1) := by decide +kernel
theorem dX0_setDefault_6 : decode cX0_setDefault 6 = .ok (.invokestatic 37, 3) := by decide +kernel
theorem dX0_setDefault_9 : decode cX0_setDefault 9 = .ok (.iload_n 3, 1) := by decide +kernel
theorem dX0_setDefault_10 : decode cX0_setDefault 10 = .ok (.iastore, 1) := by decide +kernel
theorem dX0_setDefault_11 : decode cX0_setDefault 11 = .ok (.return_, 1) := by decide +kernel
theorem dX1_values_0 : decode cX1_values 0 = .ok (.aload_n 0, 1) := by decide +kernel
theorem dX1_values_1 : decode cX1_values 1 = .ok (.getfield 24, 3) := by decide +kernel
theorem dX1_values_4 : decode cX1_values 4 = .ok (.areturn, 1) := by decide +kernel
theorem dX2_clear_0 : decode cX2_clear 0 = .ok (.aload_n 0, 1) := by decide +kernel
theorem dX2_clear_1 : decode cX2_clear 1 = .ok (.iconst 0, 1) := by decide +kernel
theorem dX2_clear_2 : decode cX2_clear 2 = .ok (.putfield 31, 3) := by decide +kernel
theorem dX2_clear_5 : decode cX2_clear 5 = .ok (.return_, 1) := by decide +kernel
theorem dX2_count_0 : decode cX2_count 0 = .ok (.aload_n 0, 1) := by decide +kernel
theorem dX2_count_1 : decode cX2_count 1 = .ok (.getfield 31, 3) := by decide +kernel
theorem dX2_count_4 : decode cX2_count 4 = .ok (.ireturn, 1) := by decide +kernel
theorem dX2_isFull_0 : decode cX2_isFull 0 = .ok (.aload_n 0, 1) := by decide +kernel
theorem dX2_isFull_1 : decode cX2_isFull 1 = .ok (.getfield 31, 3) := by decide +kernel
theorem dX2_isFull_4 : decode cX2_isFull 4 = .ok (.bipush 24, 2) := by decide +kernel
theorem dX2_isFull_6 : decode cX2_isFull 6 = .ok (.if_icmp .lt 7, 3) := by decide +kernel
theorem dX2_isFull_9 : decode cX2_isFull 9 = .ok (.iconst 1, 1) := by decide +kernel
theorem dX2_isFull_10 : decode cX2_isFull 10 = .ok (.goto 4, 3) := by decide +kernel
theorem dX2_isFull_13 : decode cX2_isFull 13 = .ok (.iconst 0, 1) := by decide +kernel
theorem dX2_isFull_14 : decode cX2_isFull 14 = .ok (.ireturn, 1) := by decide +kernel
theorem dX2_pop_0 : decode cX2_pop 0 = .ok (.aload_n 0, 1) := by decide +kernel
theorem dX2_pop_1 : decode cX2_pop 1 = .ok (.getfield 31, 3) := by decide +kernel
theorem dX2_pop_4 : decode cX2_pop 4 = .ok (.ifCond .le 13, 3) := by decide +kernel
theorem dX2_pop_7 : decode cX2_pop 7 = .ok (.aload_n 0, 1) := by decide +kernel
theorem dX2_pop_8 : decode cX2_pop 8 = .ok (.dup, 1) := by decide +kernel
theorem dX2_pop_9 : decode cX2_pop 9 = .ok (.getfield 31, 3) := by decide +kernel
theorem dX2_pop_12 : decode cX2_pop 12 = .ok (.iconst 1, 1) := by decide +kernel
theorem dX2_pop_13 : decode cX2_pop 13 = .ok (.isub, 1) := by decide +kernel
theorem dX2_pop_14 : decode cX2_pop 14 = .ok (.putfield 31, 3) := by decide +kernel
theorem dX2_pop_17 : decode cX2_pop 17 = .ok (.return_, 1) := by decide +kernel
theorem dX3_count_0 : decode cX3_count 0 = .ok (.aload_n 0, 1) := by decide +kernel
theorem dX3_count_1 : decode cX3_count 1 = .ok (.getfield 34, 3) := by decide +kernel
theorem dX3_count_4 : decode cX3_count 4 = .ok (.ireturn, 1) := by decide +kernel
theorem dX3_answers_0 : decode cX3_answers 0 = .ok (.aload_n 0, 1) := by decide +kernel
theorem dX3_answers_1 : decode cX3_answers 1 = .ok (.getfield 30, 3) := by decide +kernel
theorem dX3_answers_4 : decode cX3_answers 4 = .ok (.areturn, 1) := by decide +kernel
theorem dX5_inAll_0 : decode cX5_inAll 0 = .ok (.aload_n 0, 1) := by decide +kernel
theorem dX5_inAll_1 : decode cX5_inAll 1 = .ok (.getfield 22, 3) := by decide +kernel
theorem dX5_inAll_4 : decode cX5_inAll 4 = .ok (.ireturn, 1) := by decide +kernel
theorem dX5_above_0 : decode cX5_above 0 = .ok (.iload_n 1, 1) := by decide +kernel
theorem dX5_above_1 : decode cX5_above 1 = .ok (.iconst 1, 1) := by decide +kernel
theorem dX5_above_2 : decode cX5_above 2 = .ok (.if_icmp .lt 20, 3) := by decide +kernel
theorem dX5_above_5 : decode cX5_above 5 = .ok (.iload_n 1, 1) := by decide +kernel
theorem dX5_above_6 : decode cX5_above 6 = .ok (.aload_n 0, 1) := by decide +kernel
theorem dX5_above_7 : decode cX5_above 7 = .ok (.getfield 22, 3) := by decide +kernel
theorem dX5_above_10 : decode cX5_above 10 = .ok (.if_icmp .gt 12, 3) := by decide +kernel
theorem dX5_above_13 : decode cX5_above 13 = .ok (.aload_n 0, 1) := by decide +kernel
theorem dX5_above_14 : decode cX5_above 14 = .ok (.getfield 15, 3) := by decide +kernel
theorem dX5_above_17 : decode cX5_above 17 = .ok (.iload_n 1, 1) := by decide +kernel
theorem dX5_above_18 : decode cX5_above 18 = .ok (.iaload, 1) := by decide +kernel
theorem dX5_above_19 : decode cX5_above 19 = .ok (.goto 4, 3) := by decide +kernel
theorem dX5_above_22 : decode cX5_above 22 = .ok (.iconst 0, 1) := by decide +kernel
theorem dX5_above_23 : decode cX5_above 23 = .ok (.ireturn, 1) := by decide +kernel
theorem dX5_setAbove_0 : decode cX5_setAbove 0 = .ok (.iload_n 1, 1) := by decide +kernel
theorem dX5_setAbove_1 : decode cX5_setAbove 1 = .ok (.iconst 1, 1) := by decide +kernel
theorem dX5_setAbove_2 : decode cX5_setAbove 2 = .ok (.if_icmp .lt 18, 3) := by decide +kernel
theorem dX5_setAbove_5 : decode cX5_setAbove 5 = .ok (.iload_n 1, 1) := by decide +kernel
theorem dX5_setAbove_6 : decode cX5_setAbove 6 = .ok (.aload_n 0, 1) := by decide +kernel
theorem dX5_setAbove_7 : decode cX5_setAbove 7 = .ok (.getfield 22, 3) := by decide +kernel
theorem dX5_setAbove_10 : decode cX5_setAbove 10 = .ok (.if_icmp .gt 10, 3) := by decide +kernel
theorem dX5_setAbove_13 : decode cX5_setAbove 13 = .ok (.aload_n 0, 1) := by decide +kernel
theorem dX5_setAbove_14 : decode cX5_setAbove 14 = .ok (.getfield 15, 3) := by decide +kernel
theorem dX5_setAbove_17 : decode cX5_setAbove 17 = .ok (.iload_n 1, 1) := by decide +kernel
theorem dX5_setAbove_18 : decode cX5_setAbove 18 = .ok (.iload_n 2, 1) := by decide +kernel
theorem dX5_setAbove_19 : decode cX5_setAbove 19 = .ok (.iastore, 1) := by decide +kernel
theorem dX5_setAbove_20 : decode cX5_setAbove 20 = .ok (.return_, 1) := by decide +kernel
theorem dX8_functions_0 : decode cX8_functions 0 = .ok (.aload_n 0, 1) := by decide +kernel
theorem dX8_functions_1 : decode cX8_functions 1 = .ok (.getfield 39, 3) := by decide +kernel
theorem dX8_functions_4 : decode cX8_functions 4 = .ok (.ireturn, 1) := by decide +kernel
theorem dX8_length_0 : decode cX8_length 0 = .ok (.aload_n 0, 1) := by decide +kernel
theorem dX8_length_1 : decode cX8_length 1 = .ok (.getfield 13, 3) := by decide +kernel
theorem dX8_length_4 : decode cX8_length 4 = .ok (.ireturn, 1) := by decide +kernel
theorem dX8_constants_0 : decode cX8_constants 0 = .ok (.aload_n 0, 1) := by decide +kernel
theorem dX8_constants_1 : decode cX8_constants 1 = .ok (.getfield 22, 3) := by decide +kernel
theorem dX8_constants_4 : decode cX8_constants 4 = .ok (.areturn, 1) := by decide +kernel
theorem dX9_count_0 : decode cX9_count 0 = .ok (.aload_n 0, 1) := by decide +kernel
theorem dX9_count_1 : decode cX9_count 1 = .ok (.getfield 7, 3) := by decide +kernel
theorem dX9_count_4 : decode cX9_count 4 = .ok (.ireturn, 1) := by decide +kernel
theorem dX9_kind_0 : decode cX9_kind 0 = .ok (.iload_n 1, 1) := by decide +kernel
theorem dX9_kind_1 : decode cX9_kind 1 = .ok (.ifCond .lt 20, 3) := by decide +kernel
theorem dX9_kind_4 : decode cX9_kind 4 = .ok (.iload_n 1, 1) := by decide +kernel
theorem dX9_kind_5 : decode cX9_kind 5 = .ok (.aload_n 0, 1) := by decide +kernel
theorem dX9_kind_6 : decode cX9_kind 6 = .ok (.getfield 7, 3) := by decide +kernel
theorem dX9_kind_9 : decode cX9_kind 9 = .ok (.if_icmp .ge 12, 3) := by decide +kernel
theorem dX9_kind_12 : decode cX9_kind 12 = .ok (.aload_n 0, 1) := by decide +kernel
theorem dX9_kind_13 : decode cX9_kind 13 = .ok (.getfield 19, 3) := by decide +kernel
theorem dX9_kind_16 : decode cX9_kind 16 = .ok (.iload_n 1, 1) := by decide +kernel
theorem dX9_kind_17 : decode cX9_kind 17 = .ok (.iaload, 1) := by decide +kernel
theorem dX9_kind_18 : decode cX9_kind 18 = .ok (.goto 4, 3) := by decide +kernel
theorem dX9_kind_21 : decode cX9_kind 21 = .ok (.iconst 0, 1) := by decide +kernel
theorem dX9_kind_22 : decode cX9_kind 22 = .ok (.ireturn, 1) := by decide +kernel
theorem dX9_whole_0 : decode cX9_whole 0 = .ok (.iload_n 1, 1) := by decide +kernel
theorem dX9_whole_1 : decode cX9_whole 1 = .ok (.ifCond .lt 20, 3) := by decide +kernel
theorem dX9_whole_4 : decode cX9_whole 4 = .ok (.iload_n 1, 1) := by decide +kernel
theorem dX9_whole_5 : decode cX9_whole 5 = .ok (.aload_n 0, 1) := by decide +kernel
theorem dX9_whole_6 : decode cX9_whole 6 = .ok (.getfield 7, 3) := by decide +kernel
theorem dX9_whole_9 : decode cX9_whole 9 = .ok (.if_icmp .ge 12, 3) := by decide +kernel
theorem dX9_whole_12 : decode cX9_whole 12 = .ok (.aload_n 0, 1) := by decide +kernel
theorem dX9_whole_13 : decode cX9_whole 13 = .ok (.getfield 23, 3) := by decide +kernel
theorem dX9_whole_16 : decode cX9_whole 16 = .ok (.iload_n 1, 1) := by decide +kernel
theorem dX9_whole_17 : decode cX9_whole 17 = .ok (.laload, 1) := by decide +kernel
theorem dX9_whole_18 : decode cX9_whole 18 = .ok (.goto 4, 3) := by decide +kernel
theorem dX9_whole_21 : decode cX9_whole 21 = .ok (.lconst 0, 1) := by decide +kernel
theorem dX9_whole_22 : decode cX9_whole 22 = .ok (.lreturn, 1) := by decide +kernel
theorem dX9_real_0 : decode cX9_real 0 = .ok (.iload_n 1, 1) := by decide +kernel
theorem dX9_real_1 : decode cX9_real 1 = .ok (.ifCond .lt 20, 3) := by decide +kernel
theorem dX9_real_4 : decode cX9_real 4 = .ok (.iload_n 1, 1) := by decide +kernel
theorem dX9_real_5 : decode cX9_real 5 = .ok (.aload_n 0, 1) := by decide +kernel
theorem dX9_real_6 : decode cX9_real 6 = .ok (.getfield 7, 3) := by decide +kernel
theorem dX9_real_9 : decode cX9_real 9 = .ok (.if_icmp .ge 12, 3) := by decide +kernel
theorem dX9_real_12 : decode cX9_real 12 = .ok (.aload_n 0, 1) := by decide +kernel
theorem dX9_real_13 : decode cX9_real 13 = .ok (.getfield 27, 3) := by decide +kernel
theorem dX9_real_16 : decode cX9_real 16 = .ok (.iload_n 1, 1) := by decide +kernel
theorem dX9_real_17 : decode cX9_real 17 = .ok (.daload, 1) := by decide +kernel
theorem dX9_real_18 : decode cX9_real 18 = .ok (.goto 4, 3) := by decide +kernel
theorem dX9_real_21 : decode cX9_real 21 = .ok (.dconst 0, 1) := by decide +kernel
theorem dX9_real_22 : decode cX9_real 22 = .ok (.dreturn, 1) := by decide +kernel
theorem dX9_kindOfTop_0 : decode cX9_kindOfTop 0 = .ok (.aload_n 0, 1) := by decide +kernel
theorem dX9_kindOfTop_1 : decode cX9_kindOfTop 1 = .ok (.aload_n 0, 1) := by decide +kernel
theorem dX9_kindOfTop_2 : decode cX9_kindOfTop 2 = .ok (.getfield 7, 3) := by decide +kernel
theorem dX9_kindOfTop_5 : decode cX9_kindOfTop 5 = .ok (.iconst 1, 1) := by decide +kernel
theorem dX9_kindOfTop_6 : decode cX9_kindOfTop 6 = .ok (.isub, 1) := by decide +kernel
theorem dX9_kindOfTop_7 : decode cX9_kindOfTop 7 = .ok (.invokevirtual 31, 3) := by decide +kernel
theorem dX9_kindOfTop_10 : decode cX9_kindOfTop 10 = .ok (.ireturn, 1) := by decide +kernel
theorem dX9_set_0 : decode cX9_set 0 = .ok (.iload_n 1, 1) := by decide +kernel
theorem dX9_set_1 : decode cX9_set 1 = .ok (.ifCond .lt 33, 3) := by decide +kernel
theorem dX9_set_4 : decode cX9_set 4 = .ok (.iload_n 1, 1) := by decide +kernel
theorem dX9_set_5 : decode cX9_set 5 = .ok (.aload_n 0, 1) := by decide +kernel
theorem dX9_set_6 : decode cX9_set 6 = .ok (.getfield 7, 3) := by decide +kernel
theorem dX9_set_9 : decode cX9_set 9 = .ok (.if_icmp .ge 25, 3) := by decide +kernel
theorem dX9_set_12 : decode cX9_set 12 = .ok (.aload_n 0, 1) := by decide +kernel
theorem dX9_set_13 : decode cX9_set 13 = .ok (.getfield 19, 3) := by decide +kernel
theorem dX9_set_16 : decode cX9_set 16 = .ok (.iload_n 1, 1) := by decide +kernel
theorem dX9_set_17 : decode cX9_set 17 = .ok (.iload_n 2, 1) := by decide +kernel
theorem dX9_set_18 : decode cX9_set 18 = .ok (.iastore, 1) := by decide +kernel
theorem dX9_set_19 : decode cX9_set 19 = .ok (.aload_n 0, 1) := by decide +kernel
theorem dX9_set_20 : decode cX9_set 20 = .ok (.getfield 23, 3) := by decide +kernel
theorem dX9_set_23 : decode cX9_set 23 = .ok (.iload_n 1, 1) := by decide +kernel
theorem dX9_set_24 : decode cX9_set 24 = .ok (.lload_n 3, 1) := by decide +kernel
theorem dX9_set_25 : decode cX9_set 25 = .ok (.lastore, 1) := by decide +kernel
theorem dX9_set_26 : decode cX9_set 26 = .ok (.aload_n 0, 1) := by decide +kernel
theorem dX9_set_27 : decode cX9_set 27 = .ok (.getfield 27, 3) := by decide +kernel
theorem dX9_set_30 : decode cX9_set 30 = .ok (.iload_n 1, 1) := by decide +kernel
theorem dX9_set_31 : decode cX9_set 31 = .ok (.dload 5, 2) := by decide +kernel
theorem dX9_set_33 : decode cX9_set 33 = .ok (.dastore, 1) := by decide +kernel
theorem dX9_set_34 : decode cX9_set 34 = .ok (.return_, 1) := by decide +kernel
set_option maxHeartbeats 4000000 in
set_option maxRecDepth 100000 in
theorem c_X9_kind (ω : Om) (l : Launch) (μ : M3) (q : Int) (x1 : Int) (hrw : isRow q) (hx1 : ir x1) (hI : IC μ) : CtI ω l yX9_kind cX9_kind 2 .int 0 0 [.ref (oP ω q), .int (iv x1)] μ (fun (r : Int) (μ' : M3) => (μ' = μ)) := by
  refine CtI.go (by decide) (Nat.le_of_ble_eq_true rfl) (fun ρ p e s m below meth c R ls G hR hret hlk hl => ?_)
  have hx := G.1.1
  have hb := G.1.2.1
  have hl : lv_has ls 2 [(0, .ref (oP ω q)), (1, .int (iv x1))] := hl
  generalize s.drawn = d0 at G ⊢
  have hr_x1 : -2147483648 ≤ x1 ∧ x1 ≤ 2147483647 := hx1
  have hrw_nn := hrw.nn
  refine lv_iload_n hx hb dX9_kind_0 rfl (lv_at hl 1 rfl) ?_
  refine xb_if_lt (tgt := 21) hx hb (by unfold ir; omega) dX9_kind_1 (by decide) (fun c_1 => ?_) (fun c_1 => ?_)
  · refine lv_iconst (v := iv 0) hx hb dX9_kind_21 rfl ?_
    exact xr_i G (x := 0) hret hlk (by unfold ir; omega) rfl dX9_kind_22 rfl
  · refine lv_iload_n hx hb dX9_kind_4 rfl (lv_at hl 1 rfl) ?_
    refine lv_aload_n hx hb dX9_kind_5 rfl (lv_at hl 0 rfl) ?_
    refine xa_geti G fd_X9 (a := q) (x := μ.1 q 3) 3 hrw.ly (by decide) rfl (wm 1 153 rfl rfl) ⟨rfl, rfl, rfl⟩ dX9_kind_6 (hrw.hq ω ρ) rfl ?_
    have hr_1 : -2147483648 ≤ μ.1 q 3 ∧ μ.1 q 3 ≤ 2147483647 := by have h9 := G.hr (a := q) (k := 3) hrw.tz; exact h9
    have hk_2 := hI.row (r := q) hrw
    unfold rk at hk_2
    refine xb_icmp_ge (tgt := 21) hx hb (by unfold ir; omega) (by unfold ir; omega) dX9_kind_9 (by decide) (fun c_9 => ?_) (fun c_9 => ?_)
    · refine lv_iconst (v := iv 0) hx hb dX9_kind_21 rfl ?_
      exact xr_i G (x := 0) hret hlk (by unfold ir; omega) rfl dX9_kind_22 rfl
    · refine lv_aload_n hx hb dX9_kind_12 rfl (lv_at hl 0 rfl) ?_
      refine xa_getr G fd_X9 (a := q) (x := q + 1) 0 hrw.ly (by decide) rfl (wm 1 150 rfl rfl) ⟨rfl, rfl, rfl⟩ dX9_kind_13 (hrw.hq ω ρ) (G.sr hrw.s0) (by omega) (hrw.hq1 ω ρ) ?_
      refine lv_iload_n hx hb dX9_kind_16 rfl (lv_at hl 1 rfl) ?_
      refine xa_iald G (a := q + 1) (i := x1) hrw.ly1 (by omega) dX9_kind_17 (hrw.hq1 ω ρ) ?_
      have hr_3 : -2147483648 ≤ μ.1 (q + 1) x1 ∧ μ.1 (q + 1) x1 ≤ 2147483647 := by have h9 := G.hr (a := q + 1) (k := x1) hrw.tz1; exact h9
      refine lv_goto (tgt := 22) hx hb dX9_kind_18 (by decide) ?_
      exact xr_i G (x := μ.1 (q + 1) x1) hret hlk (by unfold ir; omega) rfl dX9_kind_22 rfl

set_option maxHeartbeats 4000000 in
set_option maxRecDepth 100000 in
theorem c_X9_whole (ω : Om) (l : Launch) (μ : M3) (q : Int) (x1 : Int) (hrw : isRow q) (hx1 : ir x1) (hI : IC μ) : CtL ω l yX9_whole cX9_whole 2 0 0 [.ref (oP ω q), .int (iv x1)] μ (fun (r : Int) (μ' : M3) => (μ' = μ)) := by
  refine CtL.go (by decide) (Nat.le_of_ble_eq_true rfl) (fun ρ p e s m below meth c R ls G hR hret hlk hl => ?_)
  have hx := G.1.1
  have hb := G.1.2.1
  have hl : lv_has ls 2 [(0, .ref (oP ω q)), (1, .int (iv x1))] := hl
  generalize s.drawn = d0 at G ⊢
  have hr_x1 : -2147483648 ≤ x1 ∧ x1 ≤ 2147483647 := hx1
  have hrw_nn := hrw.nn
  refine lv_iload_n hx hb dX9_whole_0 rfl (lv_at hl 1 rfl) ?_
  refine xb_if_lt (tgt := 21) hx hb (by unfold ir; omega) dX9_whole_1 (by decide) (fun c_1 => ?_) (fun c_1 => ?_)
  · refine lv_lconst (v := jv 0) hx hb dX9_whole_21 rfl ?_
    exact xr_l G (x := 0) hret hlk (by unfold jr; omega) dX9_whole_22 rfl
  · refine lv_iload_n hx hb dX9_whole_4 rfl (lv_at hl 1 rfl) ?_
    refine lv_aload_n hx hb dX9_whole_5 rfl (lv_at hl 0 rfl) ?_
    refine xa_geti G fd_X9 (a := q) (x := μ.1 q 3) 3 hrw.ly (by decide) rfl (wm 1 153 rfl rfl) ⟨rfl, rfl, rfl⟩ dX9_whole_6 (hrw.hq ω ρ) rfl ?_
    have hr_1 : -2147483648 ≤ μ.1 q 3 ∧ μ.1 q 3 ≤ 2147483647 := by have h9 := G.hr (a := q) (k := 3) hrw.tz; exact h9
    have hk_2 := hI.row (r := q) hrw
    unfold rk at hk_2
    refine xb_icmp_ge (tgt := 21) hx hb (by unfold ir; omega) (by unfold ir; omega) dX9_whole_9 (by decide) (fun c_9 => ?_) (fun c_9 => ?_)
    · refine lv_lconst (v := jv 0) hx hb dX9_whole_21 rfl ?_
      exact xr_l G (x := 0) hret hlk (by unfold jr; omega) dX9_whole_22 rfl
    · refine lv_aload_n hx hb dX9_whole_12 rfl (lv_at hl 0 rfl) ?_
      refine xa_getr G fd_X9 (a := q) (x := q + 2) 1 hrw.ly (by decide) rfl (wm 1 151 rfl rfl) ⟨rfl, rfl, rfl⟩ dX9_whole_13 (hrw.hq ω ρ) (G.sr hrw.s1) (by omega) (hrw.hq2 ω ρ) ?_
      refine lv_iload_n hx hb dX9_whole_16 rfl (lv_at hl 1 rfl) ?_
      refine xa_lald G (a := q + 2) (i := x1) hrw.ly2 (by omega) dX9_whole_17 (hrw.hq2 ω ρ) ?_
      have hj_3 : jr (μ.1 (q + 2) x1) := (by have h9 := G.hj (a := q + 2) (k := x1) hrw.tz2; exact h9)
      refine lv_goto (tgt := 22) hx hb dX9_whole_18 (by decide) ?_
      exact xr_l G (x := μ.1 (q + 2) x1) hret hlk hj_3 dX9_whole_22 rfl

set_option maxHeartbeats 4000000 in
set_option maxRecDepth 100000 in
theorem c_X9_real (ω : Om) (l : Launch) (μ : M3) (q : Int) (x1 : Int) (hrw : isRow q) (hx1 : ir x1) (hI : IC μ) : CtD ω l yX9_real cX9_real 2 0 0 [.ref (oP ω q), .int (iv x1)] μ (fun (r : Int) (μ' : M3) => (μ' = μ)) := by
  refine CtD.go (by decide) (Nat.le_of_ble_eq_true rfl) (fun ρ p e s m below meth c R ls G hR hret hlk hl => ?_)
  have hx := G.1.1
  have hb := G.1.2.1
  have hl : lv_has ls 2 [(0, .ref (oP ω q)), (1, .int (iv x1))] := hl
  generalize s.drawn = d0 at G ⊢
  have hr_x1 : -2147483648 ≤ x1 ∧ x1 ≤ 2147483647 := hx1
  have hrw_nn := hrw.nn
  refine lv_iload_n hx hb dX9_real_0 rfl (lv_at hl 1 rfl) ?_
  refine xb_if_lt (tgt := 21) hx hb (by unfold ir; omega) dX9_real_1 (by decide) (fun c_1 => ?_) (fun c_1 => ?_)
  · refine lv_dconst0 hx hb dX9_real_21 ?_
    refine xb_topd (fun dd_1 he_dd_1 => ?_)
    exact xr_d G (x := (dv dd_1)) hret hlk dX9_real_22 rfl
  · refine lv_iload_n hx hb dX9_real_4 rfl (lv_at hl 1 rfl) ?_
    refine lv_aload_n hx hb dX9_real_5 rfl (lv_at hl 0 rfl) ?_
    refine xa_geti G fd_X9 (a := q) (x := μ.1 q 3) 3 hrw.ly (by decide) rfl (wm 1 153 rfl rfl) ⟨rfl, rfl, rfl⟩ dX9_real_6 (hrw.hq ω ρ) rfl ?_
    have hr_2 : -2147483648 ≤ μ.1 q 3 ∧ μ.1 q 3 ≤ 2147483647 := by have h9 := G.hr (a := q) (k := 3) hrw.tz; exact h9
    have hk_3 := hI.row (r := q) hrw
    unfold rk at hk_3
    refine xb_icmp_ge (tgt := 21) hx hb (by unfold ir; omega) (by unfold ir; omega) dX9_real_9 (by decide) (fun c_9 => ?_) (fun c_9 => ?_)
    · refine lv_dconst0 hx hb dX9_real_21 ?_
      refine xb_topd (fun dd_4 he_dd_4 => ?_)
      exact xr_d G (x := (dv dd_4)) hret hlk dX9_real_22 rfl
    · refine lv_aload_n hx hb dX9_real_12 rfl (lv_at hl 0 rfl) ?_
      refine xa_getr G fd_X9 (a := q) (x := q + 3) 2 hrw.ly (by decide) rfl (wm 1 152 rfl rfl) ⟨rfl, rfl, rfl⟩ dX9_real_13 (hrw.hq ω ρ) (G.sr hrw.s2) (by omega) (hrw.hq3 ω ρ) ?_
      refine lv_iload_n hx hb dX9_real_16 rfl (lv_at hl 1 rfl) ?_
      refine xa_dald G (a := q + 3) (i := x1) hrw.ly3 (by omega) dX9_real_17 (hrw.hq3 ω ρ) ?_
      refine lv_goto (tgt := 22) hx hb dX9_real_18 (by decide) ?_
      exact xr_d G (x := (dv (μ.1 (q + 3) x1))) hret hlk dX9_real_22 rfl

set_option maxHeartbeats 4000000 in
set_option maxRecDepth 100000 in
theorem c_X9_count (ω : Om) (l : Launch) (μ : M3) (q : Int) (hrw : isRow q) (hI : IC μ) : CtI ω l yX9_count cX9_count 1 .int 0 0 [.ref (oP ω q)] μ (fun (r : Int) (μ' : M3) => (μ' = μ) ∧ (r = μ.1 q 3)) := by
  refine CtI.go (by decide) (Nat.le_of_ble_eq_true rfl) (fun ρ p e s m below meth c R ls G hR hret hlk hl => ?_)
  have hx := G.1.1
  have hb := G.1.2.1
  have hl : lv_has ls 1 [(0, .ref (oP ω q))] := hl
  generalize s.drawn = d0 at G ⊢
  have hrw_nn := hrw.nn
  refine lv_aload_n hx hb dX9_count_0 rfl (lv_at hl 0 rfl) ?_
  refine xa_geti G fd_X9 (a := q) (x := μ.1 q 3) 3 hrw.ly (by decide) rfl (wm 1 153 rfl rfl) ⟨rfl, rfl, rfl⟩ dX9_count_1 (hrw.hq ω ρ) rfl ?_
  have hr_1 : -2147483648 ≤ μ.1 q 3 ∧ μ.1 q 3 ≤ 2147483647 := by have h9 := G.hr (a := q) (k := 3) hrw.tz; exact h9
  have hk_2 := hI.row (r := q) hrw
  unfold rk at hk_2
  exact xr_i G (x := μ.1 q 3) hret hlk (by unfold ir; omega) rfl dX9_count_4 ⟨rfl, (by omega)⟩

set_option maxHeartbeats 4000000 in
set_option maxRecDepth 100000 in
theorem c_X9_kindOfTop (ω : Om) (l : Launch) (μ : M3) (q : Int) (hrw : isRow q) (hI : IC μ) : CtI ω l yX9_kindOfTop cX9_kindOfTop 1 .int 1 21 [.ref (oP ω q)] μ (fun (r : Int) (μ' : M3) => (μ' = μ)) := by
  refine CtI.go (by decide) (Nat.le_of_ble_eq_true rfl) (fun ρ p e s m below meth c R ls G hR hret hlk hl => ?_)
  have hx := G.1.1
  have hb := G.1.2.1
  have hl : lv_has ls 1 [(0, .ref (oP ω q))] := hl
  generalize s.drawn = d0 at G ⊢
  have hrw_nn := hrw.nn
  refine lv_aload_n hx hb dX9_kindOfTop_0 rfl (lv_at hl 0 rfl) ?_
  refine lv_aload_n hx hb dX9_kindOfTop_1 rfl (lv_at hl 0 rfl) ?_
  refine xa_geti G fd_X9 (a := q) (x := μ.1 q 3) 3 hrw.ly (by decide) rfl (wm 1 153 rfl rfl) ⟨rfl, rfl, rfl⟩ dX9_kindOfTop_2 (hrw.hq ω ρ) rfl ?_
  have hr_1 : -2147483648 ≤ μ.1 q 3 ∧ μ.1 q 3 ≤ 2147483647 := by have h9 := G.hr (a := q) (k := 3) hrw.tz; exact h9
  have hk_2 := hI.row (r := q) hrw
  unfold rk at hk_2
  refine lv_iconst (v := iv 1) hx hb dX9_kindOfTop_5 rfl ?_
  refine xb_isub hx hb dX9_kindOfTop_6 ?_
  refine xc_iV G (b := q) (rest := []) (As := [.int (iv ((μ.1 q 3) - 1))]) (c_X9_kind ω l μ q ((μ.1 q 3) - 1) hrw (by unfold ir; omega) hI) (wm 5 155 rfl rfl) (wm 5 156 rfl rfl) (wm 5 157 rfl rfl) hrw.ly rfl (by decide) (hrw.hq ω ρ) (wm 1 10 rfl rfl) (wm 5 158 rfl rfl) (by decide) hR (by decide) (n := 1) rfl rfl (Nat.le_of_ble_eq_true rfl) hl.1 dX9_kindOfTop_7 (fun r_4 μ3 ρ d0 H locs hr_r_4 hp G => ?_)
  have hr_r_4 : -2147483648 ≤ r_4 ∧ r_4 ≤ 2147483647 := hr_r_4
  have hsm_5 := hp
  have hsm_5 := Eq.symm hsm_5
  subst hsm_5
  exact xr_i G (x := r_4) hret hlk (by unfold ir; omega) rfl dX9_kindOfTop_10 rfl

set_option maxHeartbeats 4000000 in
set_option maxRecDepth 100000 in
theorem c_X9_set (ω : Om) (l : Launch) (μ : M3) (q : Int) (x1 : Int) (x2 : Int) (x3 : Int) (x4 : Int) (hrw : isRow q) (hx1 : ir x1) (hx2 : ir x2) (hx3 : jr x3) (hI : IC μ) : CtV ω l yX9_set cX9_set 7 0 0 [.ref (oP ω q), .int (iv x1), .int (iv x2), .long (jv x3), .double (dv x4)] μ (fun (μ' : M3) => (Fr [q + 1, q + 2, q + 3] μ μ') ∧ (IC μ') ∧ (μ'.2 = μ.2)) := by
  refine CtV.go (by decide) (Nat.le_of_ble_eq_true rfl) (fun ρ p e s m below meth c R ls G hR hret hlk hl => ?_)
  have hx := G.1.1
  have hb := G.1.2.1
  have hl : lv_has ls 7 [(0, .ref (oP ω q)), (1, .int (iv x1)), (2, .int (iv x2)), (3, .long (jv x3)), (5, .double (dv x4))] := hl
  generalize s.drawn = d0 at G ⊢
  have hr_x1 : -2147483648 ≤ x1 ∧ x1 ≤ 2147483647 := hx1
  have hr_x2 : -2147483648 ≤ x2 ∧ x2 ≤ 2147483647 := hx2
  have hrw_nn := hrw.nn
  refine lv_iload_n hx hb dX9_set_0 rfl (lv_at hl 1 rfl) ?_
  refine xb_if_lt (tgt := 34) hx hb (by unfold ir; omega) dX9_set_1 (by decide) (fun c_1 => ?_) (fun c_1 => ?_)
  · exact xr_v G hret hlk dX9_set_34 ⟨Fr.rf, hI, rfl⟩
  · refine lv_iload_n hx hb dX9_set_4 rfl (lv_at hl 1 rfl) ?_
    refine lv_aload_n hx hb dX9_set_5 rfl (lv_at hl 0 rfl) ?_
    refine xa_geti G fd_X9 (a := q) (x := μ.1 q 3) 3 hrw.ly (by decide) rfl (wm 1 153 rfl rfl) ⟨rfl, rfl, rfl⟩ dX9_set_6 (hrw.hq ω ρ) rfl ?_
    have hr_1 : -2147483648 ≤ μ.1 q 3 ∧ μ.1 q 3 ≤ 2147483647 := by have h9 := G.hr (a := q) (k := 3) hrw.tz; exact h9
    have hk_2 := hI.row (r := q) hrw
    unfold rk at hk_2
    refine xb_icmp_ge (tgt := 34) hx hb (by unfold ir; omega) (by unfold ir; omega) dX9_set_9 (by decide) (fun c_9 => ?_) (fun c_9 => ?_)
    · exact xr_v G hret hlk dX9_set_34 ⟨Fr.rf, hI, rfl⟩
    · refine lv_aload_n hx hb dX9_set_12 rfl (lv_at hl 0 rfl) ?_
      refine xa_getr G fd_X9 (a := q) (x := q + 1) 0 hrw.ly (by decide) rfl (wm 1 150 rfl rfl) ⟨rfl, rfl, rfl⟩ dX9_set_13 (hrw.hq ω ρ) (G.sr hrw.s0) (by omega) (hrw.hq1 ω ρ) ?_
      refine lv_iload_n hx hb dX9_set_16 rfl (lv_at hl 1 rfl) ?_
      refine lv_iload_n hx hb dX9_set_17 rfl (lv_at hl 2 rfl) ?_
      refine xa_iast G (a := q + 1) (i := x1) (x := x2) hrw.ly1 (by omega) (by unfold ir; omega) dX9_set_18 (hrw.hq1 ω ρ) (fun H locs G => ?_)
      refine lv_aload_n hx hb dX9_set_19 rfl (lv_at hl 0 rfl) ?_
      refine xa_getr G fd_X9 (a := q) (x := q + 2) 1 hrw.ly (by decide) rfl (wm 1 151 rfl rfl) ⟨rfl, rfl, rfl⟩ dX9_set_20 (hrw.hq ω ρ) (G.sr hrw.s1) (by omega) (hrw.hq2 ω ρ) ?_
      refine lv_iload_n hx hb dX9_set_23 rfl (lv_at hl 1 rfl) ?_
      refine lv_lload_n hx hb dX9_set_24 rfl (lv_at hl 3 rfl) ?_
      refine xa_last G (a := q + 2) (i := x1) (x := x3) hrw.ly2 (by have h9 : (sv μ (q + 1) x1 x2).2.1 (q + 2) = μ.2.1 (q + 2) := rfl; omega) hx3 dX9_set_25 (hrw.hq2 ω ρ) (fun H locs G => ?_)
      refine lv_aload_n hx hb dX9_set_26 rfl (lv_at hl 0 rfl) ?_
      refine xa_getr G fd_X9 (a := q) (x := q + 3) 2 hrw.ly (by decide) rfl (wm 1 152 rfl rfl) ⟨rfl, rfl, rfl⟩ dX9_set_27 (hrw.hq ω ρ) (G.sr hrw.s2) (by omega) (hrw.hq3 ω ρ) ?_
      refine lv_iload_n hx hb dX9_set_30 rfl (lv_at hl 1 rfl) ?_
      refine lv_dload hx hb dX9_set_31 (lv_at hl 4 rfl) ?_
      refine xa_dast G (a := q + 3) (i := x1) (x := x4) hrw.ly3 (by have h9 : (sv (sv μ (q + 1) x1 x2) (q + 2) x1 x3).2.1 (q + 3) = μ.2.1 (q + 3) := rfl; omega) trivial dX9_set_33 (hrw.hq3 ω ρ) (fun H locs G => ?_)
      have hI_3 : IC (sv (sv (sv μ (q + 1) x1 x2) (q + 2) x1 x3) (q + 3) x1 x4) := (IC.pua (IC.pua (IC.pua hI (by rw [hrw.ly1]; decide)) (by rw [hrw.ly2]; decide)) (by rw [hrw.ly3]; decide))
      exact xr_v G hret hlk dX9_set_34 ⟨(Fr.put (Fr.put (Fr.put Fr.rf (by simp)) (by simp)) (by simp)), hI_3, rfl⟩

set_option maxHeartbeats 4000000 in
set_option maxRecDepth 100000 in
theorem c_X2_clear (ω : Om) (l : Launch) (μ : M3) (hI : IC μ) : CtV ω l yX2_clear cX2_clear 1 0 0 [.ref (oP ω 52)] μ (fun (μ' : M3) => (Fr [52] μ μ') ∧ (IC μ') ∧ (μ'.1 52 7 = 0)) := by
  refine CtV.go (by decide) (Nat.le_of_ble_eq_true rfl) (fun ρ p e s m below meth c R ls G hR hret hlk hl => ?_)
  have hx := G.1.1
  have hb := G.1.2.1
  have hl : lv_has ls 1 [(0, .ref (oP ω 52))] := hl
  generalize s.drawn = d0 at G ⊢
  refine lv_aload_n hx hb dX2_clear_0 rfl (lv_at hl 0 rfl) ?_
  refine lv_iconst (v := iv 0) hx hb dX2_clear_1 rfl ?_
  refine xa_puti G fd_X2 (a := 52) (x := 0) 7 (kz := 7) rfl rfl (by decide) rfl (by unfold ir; omega) (wm 2 96 rfl rfl) ⟨rfl, rfl, rfl, rfl⟩ rfl dX2_clear_2 rfl (fun H locs G => ?_)
  have hI_1 : IC (sv μ 52 7 0) := (IC.n_52_7 hI (by omega))
  have e_2 : (sv μ 52 7 0).1 52 7 = 0 := (sv_s _ _ _ _)
  exact xr_v G hret hlk dX2_clear_5 ⟨(Fr.put Fr.rf (by decide)), hI_1, (by omega)⟩

set_option maxHeartbeats 4000000 in
set_option maxRecDepth 100000 in
theorem c_X2_count (ω : Om) (l : Launch) (μ : M3) (hI : IC μ) : CtI ω l yX2_count cX2_count 1 .int 0 0 [.ref (oP ω 52)] μ (fun (r : Int) (μ' : M3) => (μ' = μ) ∧ (r = μ.1 52 7)) := by
  refine CtI.go (by decide) (Nat.le_of_ble_eq_true rfl) (fun ρ p e s m below meth c R ls G hR hret hlk hl => ?_)
  have hx := G.1.1
  have hb := G.1.2.1
  have hl : lv_has ls 1 [(0, .ref (oP ω 52))] := hl
  generalize s.drawn = d0 at G ⊢
  refine lv_aload_n hx hb dX2_count_0 rfl (lv_at hl 0 rfl) ?_
  refine xa_geti G fd_X2 (a := 52) (x := μ.1 52 7) 7 rfl (by decide) rfl (wm 2 96 rfl rfl) ⟨rfl, rfl, rfl⟩ dX2_count_1 rfl rfl ?_
  have hr_1 : -2147483648 ≤ μ.1 52 7 ∧ μ.1 52 7 ≤ 2147483647 := by have h9 := G.hr (a := 52) (k := 7) rfl; exact h9
  have hn_2 : 0 ≤ μ.1 52 7 ∧ μ.1 52 7 ≤ 24 := hI.nm.2.2.2.2.1
  exact xr_i G (x := μ.1 52 7) hret hlk (by unfold ir; omega) rfl dX2_count_4 ⟨rfl, (by omega)⟩

set_option maxHeartbeats 4000000 in
set_option maxRecDepth 100000 in
theorem c_X2_isFull (ω : Om) (l : Launch) (μ : M3) (hI : IC μ) : CtI ω l yX2_isFull cX2_isFull 1 .boolean 0 0 [.ref (oP ω 52)] μ (fun (r : Int) (μ' : M3) => (μ' = μ) ∧ ((r = 1 ∧ 24 ≤ μ.1 52 7) ∨ (r = 0 ∧ μ.1 52 7 < 24))) := by
  refine CtI.go (by decide) (Nat.le_of_ble_eq_true rfl) (fun ρ p e s m below meth c R ls G hR hret hlk hl => ?_)
  have hx := G.1.1
  have hb := G.1.2.1
  have hl : lv_has ls 1 [(0, .ref (oP ω 52))] := hl
  generalize s.drawn = d0 at G ⊢
  refine lv_aload_n hx hb dX2_isFull_0 rfl (lv_at hl 0 rfl) ?_
  refine xa_geti G fd_X2 (a := 52) (x := μ.1 52 7) 7 rfl (by decide) rfl (wm 2 96 rfl rfl) ⟨rfl, rfl, rfl⟩ dX2_isFull_1 rfl rfl ?_
  have hr_1 : -2147483648 ≤ μ.1 52 7 ∧ μ.1 52 7 ≤ 2147483647 := by have h9 := G.hr (a := 52) (k := 7) rfl; exact h9
  have hn_2 : 0 ≤ μ.1 52 7 ∧ μ.1 52 7 ≤ 24 := hI.nm.2.2.2.2.1
  refine lv_bipush (v := iv 24) hx hb dX2_isFull_4 rfl ?_
  refine xb_icmp_lt (tgt := 13) hx hb (by unfold ir; omega) (by unfold ir; omega) dX2_isFull_6 (by decide) (fun c_6 => ?_) (fun c_6 => ?_)
  · refine lv_iconst (v := iv 0) hx hb dX2_isFull_13 rfl ?_
    exact xr_i G (x := 0) hret hlk (by unfold ir; omega) (zr (by omega)) dX2_isFull_14 ⟨rfl, (by omega)⟩
  · refine lv_iconst (v := iv 1) hx hb dX2_isFull_9 rfl ?_
    refine lv_goto (tgt := 14) hx hb dX2_isFull_10 (by decide) ?_
    exact xr_i G (x := 1) hret hlk (by unfold ir; omega) (zr (by omega)) dX2_isFull_14 ⟨rfl, (by omega)⟩

set_option maxHeartbeats 4000000 in
set_option maxRecDepth 100000 in
theorem c_X2_pop (ω : Om) (l : Launch) (μ : M3) (hI : IC μ) : CtV ω l yX2_pop cX2_pop 1 0 0 [.ref (oP ω 52)] μ (fun (μ' : M3) => (Fr [52] μ μ') ∧ (IC μ') ∧ (μ'.1 52 7 = max (μ.1 52 7 - 1) 0)) := by
  refine CtV.go (by decide) (Nat.le_of_ble_eq_true rfl) (fun ρ p e s m below meth c R ls G hR hret hlk hl => ?_)
  have hx := G.1.1
  have hb := G.1.2.1
  have hl : lv_has ls 1 [(0, .ref (oP ω 52))] := hl
  generalize s.drawn = d0 at G ⊢
  refine lv_aload_n hx hb dX2_pop_0 rfl (lv_at hl 0 rfl) ?_
  refine xa_geti G fd_X2 (a := 52) (x := μ.1 52 7) 7 rfl (by decide) rfl (wm 2 96 rfl rfl) ⟨rfl, rfl, rfl⟩ dX2_pop_1 rfl rfl ?_
  have hr_1 : -2147483648 ≤ μ.1 52 7 ∧ μ.1 52 7 ≤ 2147483647 := by have h9 := G.hr (a := 52) (k := 7) rfl; exact h9
  have hn_2 : 0 ≤ μ.1 52 7 ∧ μ.1 52 7 ≤ 24 := hI.nm.2.2.2.2.1
  refine xb_if_le (tgt := 17) hx hb (by unfold ir; omega) dX2_pop_4 (by decide) (fun c_4 => ?_) (fun c_4 => ?_)
  · exact xr_v G hret hlk dX2_pop_17 ⟨Fr.rf, hI, (by omega)⟩
  · refine lv_aload_n hx hb dX2_pop_7 rfl (lv_at hl 0 rfl) ?_
    refine lv_dup hx hb dX2_pop_8 rfl ?_
    refine xa_geti G fd_X2 (a := 52) (x := μ.1 52 7) 7 rfl (by decide) rfl (wm 2 96 rfl rfl) ⟨rfl, rfl, rfl⟩ dX2_pop_9 rfl rfl ?_
    refine lv_iconst (v := iv 1) hx hb dX2_pop_12 rfl ?_
    refine xb_isub hx hb dX2_pop_13 ?_
    refine xa_puti G fd_X2 (a := 52) (x := (μ.1 52 7) - 1) 7 (kz := 7) rfl rfl (by decide) rfl (by unfold ir; omega) (wm 2 96 rfl rfl) ⟨rfl, rfl, rfl, rfl⟩ rfl dX2_pop_14 rfl (fun H locs G => ?_)
    have hI_3 : IC (sv μ 52 7 ((μ.1 52 7) - 1)) := (IC.n_52_7 hI (by omega))
    have e_4 : (sv μ 52 7 ((μ.1 52 7) - 1)).1 52 7 = (μ.1 52 7) - 1 := (sv_s _ _ _ _)
    exact xr_v G hret hlk dX2_pop_17 ⟨(Fr.put Fr.rf (by decide)), hI_3, (by omega)⟩

set_option maxHeartbeats 4000000 in
set_option maxRecDepth 100000 in
theorem c_X5_inAll (ω : Om) (l : Launch) (μ : M3) (hI : IC μ) : CtI ω l yX5_inAll cX5_inAll 1 .int 0 0 [.ref (oP ω 2)] μ (fun (r : Int) (μ' : M3) => (μ' = μ) ∧ (r = μ.1 2 3)) := by
  refine CtI.go (by decide) (Nat.le_of_ble_eq_true rfl) (fun ρ p e s m below meth c R ls G hR hret hlk hl => ?_)
  have hx := G.1.1
  have hb := G.1.2.1
  have hl : lv_has ls 1 [(0, .ref (oP ω 2))] := hl
  generalize s.drawn = d0 at G ⊢
  refine lv_aload_n hx hb dX5_inAll_0 rfl (lv_at hl 0 rfl) ?_
  refine xa_geti G fd_X5 (a := 2) (x := μ.1 2 3) 3 rfl (by decide) rfl (wm 1 90 rfl rfl) ⟨rfl, rfl, rfl⟩ dX5_inAll_1 rfl rfl ?_
  have hr_1 : -2147483648 ≤ μ.1 2 3 ∧ μ.1 2 3 ≤ 2147483647 := by have h9 := G.hr (a := 2) (k := 3) rfl; exact h9
  have hn_2 : 0 ≤ μ.1 2 3 ∧ μ.1 2 3 ≤ 51 := hI.nm.2.1
  exact xr_i G (x := μ.1 2 3) hret hlk (by unfold ir; omega) rfl dX5_inAll_4 ⟨rfl, (by omega)⟩

set_option maxHeartbeats 4000000 in
set_option maxRecDepth 100000 in
theorem c_X5_above (ω : Om) (l : Launch) (μ : M3) (x1 : Int) (hx1 : ir x1) (hI : IC μ) : CtI ω l yX5_above cX5_above 2 .int 0 0 [.ref (oP ω 2), .int (iv x1)] μ (fun (r : Int) (μ' : M3) => (μ' = μ)) := by
  refine CtI.go (by decide) (Nat.le_of_ble_eq_true rfl) (fun ρ p e s m below meth c R ls G hR hret hlk hl => ?_)
  have hx := G.1.1
  have hb := G.1.2.1
  have hl : lv_has ls 2 [(0, .ref (oP ω 2)), (1, .int (iv x1))] := hl
  generalize s.drawn = d0 at G ⊢
  have hr_x1 : -2147483648 ≤ x1 ∧ x1 ≤ 2147483647 := hx1
  refine lv_iload_n hx hb dX5_above_0 rfl (lv_at hl 1 rfl) ?_
  refine lv_iconst (v := iv 1) hx hb dX5_above_1 rfl ?_
  refine xb_icmp_lt (tgt := 22) hx hb (by unfold ir; omega) (by unfold ir; omega) dX5_above_2 (by decide) (fun c_2 => ?_) (fun c_2 => ?_)
  · refine lv_iconst (v := iv 0) hx hb dX5_above_22 rfl ?_
    exact xr_i G (x := 0) hret hlk (by unfold ir; omega) rfl dX5_above_23 rfl
  · refine lv_iload_n hx hb dX5_above_5 rfl (lv_at hl 1 rfl) ?_
    refine lv_aload_n hx hb dX5_above_6 rfl (lv_at hl 0 rfl) ?_
    refine xa_geti G fd_X5 (a := 2) (x := μ.1 2 3) 3 rfl (by decide) rfl (wm 1 90 rfl rfl) ⟨rfl, rfl, rfl⟩ dX5_above_7 rfl rfl ?_
    have hr_1 : -2147483648 ≤ μ.1 2 3 ∧ μ.1 2 3 ≤ 2147483647 := by have h9 := G.hr (a := 2) (k := 3) rfl; exact h9
    have hn_2 : 0 ≤ μ.1 2 3 ∧ μ.1 2 3 ≤ 51 := hI.nm.2.1
    refine xb_icmp_gt (tgt := 22) hx hb (by unfold ir; omega) (by unfold ir; omega) dX5_above_10 (by decide) (fun c_10 => ?_) (fun c_10 => ?_)
    · refine lv_iconst (v := iv 0) hx hb dX5_above_22 rfl ?_
      exact xr_i G (x := 0) hret hlk (by unfold ir; omega) rfl dX5_above_23 rfl
    · refine lv_aload_n hx hb dX5_above_13 rfl (lv_at hl 0 rfl) ?_
      refine xa_getr G fd_X5 (a := 2) (x := 4) 1 rfl (by decide) rfl (wm 1 88 rfl rfl) ⟨rfl, rfl, rfl⟩ dX5_above_14 rfl (G.sk 7 rfl) (by decide) rfl ?_
      refine lv_iload_n hx hb dX5_above_17 rfl (lv_at hl 1 rfl) ?_
      refine xa_iald G (a := 4) (i := x1) rfl (by have h9 := G.lc (a := 4) (n := 52) 2 rfl; omega) dX5_above_18 rfl ?_
      have hr_3 : -2147483648 ≤ μ.1 4 x1 ∧ μ.1 4 x1 ≤ 2147483647 := by have h9 := G.hr (a := 4) (k := x1) rfl; exact h9
      refine lv_goto (tgt := 23) hx hb dX5_above_19 (by decide) ?_
      exact xr_i G (x := μ.1 4 x1) hret hlk (by unfold ir; omega) rfl dX5_above_23 rfl

set_option maxHeartbeats 4000000 in
set_option maxRecDepth 100000 in
theorem c_X5_setAbove (ω : Om) (l : Launch) (μ : M3) (x1 : Int) (x2 : Int) (hx1 : ir x1) (hx2 : ir x2) (hI : IC μ) : CtV ω l yX5_setAbove cX5_setAbove 3 0 0 [.ref (oP ω 2), .int (iv x1), .int (iv x2)] μ (fun (μ' : M3) => (Fr [4] μ μ') ∧ (IC μ')) := by
  refine CtV.go (by decide) (Nat.le_of_ble_eq_true rfl) (fun ρ p e s m below meth c R ls G hR hret hlk hl => ?_)
  have hx := G.1.1
  have hb := G.1.2.1
  have hl : lv_has ls 3 [(0, .ref (oP ω 2)), (1, .int (iv x1)), (2, .int (iv x2))] := hl
  generalize s.drawn = d0 at G ⊢
  have hr_x1 : -2147483648 ≤ x1 ∧ x1 ≤ 2147483647 := hx1
  have hr_x2 : -2147483648 ≤ x2 ∧ x2 ≤ 2147483647 := hx2
  refine lv_iload_n hx hb dX5_setAbove_0 rfl (lv_at hl 1 rfl) ?_
  refine lv_iconst (v := iv 1) hx hb dX5_setAbove_1 rfl ?_
  refine xb_icmp_lt (tgt := 20) hx hb (by unfold ir; omega) (by unfold ir; omega) dX5_setAbove_2 (by decide) (fun c_2 => ?_) (fun c_2 => ?_)
  · exact xr_v G hret hlk dX5_setAbove_20 ⟨Fr.rf, hI⟩
  · refine lv_iload_n hx hb dX5_setAbove_5 rfl (lv_at hl 1 rfl) ?_
    refine lv_aload_n hx hb dX5_setAbove_6 rfl (lv_at hl 0 rfl) ?_
    refine xa_geti G fd_X5 (a := 2) (x := μ.1 2 3) 3 rfl (by decide) rfl (wm 1 90 rfl rfl) ⟨rfl, rfl, rfl⟩ dX5_setAbove_7 rfl rfl ?_
    have hr_1 : -2147483648 ≤ μ.1 2 3 ∧ μ.1 2 3 ≤ 2147483647 := by have h9 := G.hr (a := 2) (k := 3) rfl; exact h9
    have hn_2 : 0 ≤ μ.1 2 3 ∧ μ.1 2 3 ≤ 51 := hI.nm.2.1
    refine xb_icmp_gt (tgt := 20) hx hb (by unfold ir; omega) (by unfold ir; omega) dX5_setAbove_10 (by decide) (fun c_10 => ?_) (fun c_10 => ?_)
    · exact xr_v G hret hlk dX5_setAbove_20 ⟨Fr.rf, hI⟩
    · refine lv_aload_n hx hb dX5_setAbove_13 rfl (lv_at hl 0 rfl) ?_
      refine xa_getr G fd_X5 (a := 2) (x := 4) 1 rfl (by decide) rfl (wm 1 88 rfl rfl) ⟨rfl, rfl, rfl⟩ dX5_setAbove_14 rfl (G.sk 7 rfl) (by decide) rfl ?_
      refine lv_iload_n hx hb dX5_setAbove_17 rfl (lv_at hl 1 rfl) ?_
      refine lv_iload_n hx hb dX5_setAbove_18 rfl (lv_at hl 2 rfl) ?_
      refine xa_iast G (a := 4) (i := x1) (x := x2) rfl (by have h9 := G.lc (a := 4) (n := 52) 2 rfl; omega) (by unfold ir; omega) dX5_setAbove_19 rfl (fun H locs G => ?_)
      have hI_3 : IC (sv μ 4 x1 x2) := (IC.pua hI (by decide))
      exact xr_v G hret hlk dX5_setAbove_20 ⟨(Fr.put Fr.rf (by decide)), hI_3⟩

set_option maxHeartbeats 4000000 in
set_option maxRecDepth 100000 in
theorem c_X0_border (ω : Om) (l : Launch) (μ : M3) (x1 : Int) (x2 : Int) (hx1 : ir x1) (hx2 : ir x2) : CtI ω l yX0_border cX0_border 2 .int 0 0 [.int (iv x1), .int (iv x2)] μ (fun (r : Int) (μ' : M3) => (μ' = μ) ∧ (0 ≤ r ∧ r ≤ 15)) := by
  refine CtI.go (by decide) (Nat.le_of_ble_eq_true rfl) (fun ρ p e s m below meth c R ls G hR hret hlk hl => ?_)
  have hx := G.1.1
  have hb := G.1.2.1
  have hl : lv_has ls 2 [(0, .int (iv x1)), (1, .int (iv x2))] := hl
  generalize s.drawn = d0 at G ⊢
  have hr_x1 : -2147483648 ≤ x1 ∧ x1 ≤ 2147483647 := hx1
  have hr_x2 : -2147483648 ≤ x2 ∧ x2 ≤ 2147483647 := hx2
  refine lv_iload_n hx hb dX0_border_0 rfl (lv_at hl 0 rfl) ?_
  refine lv_iconst (v := iv 3) hx hb dX0_border_1 rfl ?_
  refine lv_iand hx hb dX0_border_2 ?_
  refine xb_topi (fun y_1 hr_y_1 he_y_1 => ?_)
  have hr_y_1 : -2147483648 ≤ y_1 ∧ y_1 ≤ 2147483647 := hr_y_1
  have hm_y_1 := and_mask x1 (k := 3) (by omega) he_y_1 hr_y_1
  have hm3_y_1 : 0 ≤ x1 ∧ x1 ≤ 3 → y_1 = x1 := and3 he_y_1 hr_y_1
  refine lv_iconst (v := iv 4) hx hb dX0_border_3 rfl ?_
  refine xb_imul hx hb dX0_border_4 ?_
  refine lv_iload_n hx hb dX0_border_5 rfl (lv_at hl 1 rfl) ?_
  refine lv_iconst (v := iv 3) hx hb dX0_border_6 rfl ?_
  refine lv_iand hx hb dX0_border_7 ?_
  refine xb_topi (fun y_2 hr_y_2 he_y_2 => ?_)
  have hr_y_2 : -2147483648 ≤ y_2 ∧ y_2 ≤ 2147483647 := hr_y_2
  have hm_y_2 := and_mask x2 (k := 3) (by omega) he_y_2 hr_y_2
  have hm3_y_2 : 0 ≤ x2 ∧ x2 ≤ 3 → y_2 = x2 := and3 he_y_2 hr_y_2
  refine xb_iadd hx hb dX0_border_8 ?_
  exact xr_i G (x := (y_1 * 4) + y_2) hret hlk (by unfold ir; omega) rfl dX0_border_9 ⟨rfl, (by omega)⟩

set_option maxHeartbeats 4000000 in
set_option maxRecDepth 100000 in
theorem c_X0_setRule (ω : Om) (l : Launch) (μ : M3) (x1 : Int) (x2 : Int) (x3 : Int) (hx1 : ir x1) (hx2 : ir x2) (hx3 : ir x3) (hI : IC μ) : CtV ω l yX0_setRule cX0_setRule 4 1 21 [.ref (oP ω 6), .int (iv x1), .int (iv x2), .int (iv x3)] μ (fun (μ' : M3) => (Fr [7] μ μ') ∧ (IC μ')) := by
  refine CtV.go (by decide) (Nat.le_of_ble_eq_true rfl) (fun ρ p e s m below meth c R ls G hR hret hlk hl => ?_)
  have hx := G.1.1
  have hb := G.1.2.1
  have hl : lv_has ls 4 [(0, .ref (oP ω 6)), (1, .int (iv x1)), (2, .int (iv x2)), (3, .int (iv x3))] := hl
  generalize s.drawn = d0 at G ⊢
  have hr_x1 : -2147483648 ≤ x1 ∧ x1 ≤ 2147483647 := hx1
  have hr_x2 : -2147483648 ≤ x2 ∧ x2 ≤ 2147483647 := hx2
  have hr_x3 : -2147483648 ≤ x3 ∧ x3 ≤ 2147483647 := hx3
  refine lv_aload_n hx hb dX0_setRule_0 rfl (lv_at hl 0 rfl) ?_
  refine xa_getr G fd_X0 (a := 6) (x := 7) 0 rfl (by decide) rfl (wm 1 115 rfl rfl) ⟨rfl, rfl, rfl⟩ dX0_setRule_1 rfl (G.sk 9 rfl) (by decide) rfl ?_
  refine lv_iload_n hx hb dX0_setRule_4 rfl (lv_at hl 1 rfl) ?_
  refine lv_iload_n hx hb dX0_setRule_5 rfl (lv_at hl 2 rfl) ?_
  refine xc_iS G (rest := [.ref (oP ω 7)]) (As := [.int (iv x1), .int (iv x2)]) (c_X0_border ω l μ x1 x2 (by unfold ir; omega) (by unfold ir; omega)) (wm 5 2 rfl rfl) (wm 5 3 rfl rfl) (wm 1 7 rfl rfl) (wm 5 4 rfl rfl) (by decide) hR (by decide) (n := 2) rfl rfl (Nat.le_of_ble_eq_true rfl) hl.1 dX0_setRule_6 (fun r_2 μ1 ρ d0 H locs hr_r_2 hp G => ?_)
  have hr_r_2 : -2147483648 ≤ r_2 ∧ r_2 ≤ 2147483647 := hr_r_2
  obtain ⟨hsm_3, hp_4⟩ := hp
  have hsm_3 := Eq.symm hsm_3
  subst hsm_3
  refine lv_iload_n hx hb dX0_setRule_9 rfl (lv_at hl 3 rfl) ?_
  refine xa_iast G (a := 7) (i := r_2) (x := x3) rfl (by have h9 := G.lc (a := 7) (n := 16) 4 rfl; omega) (by unfold ir; omega) dX0_setRule_10 rfl (fun H locs G => ?_)
  have hI_5 : IC (sv μ 7 r_2 x3) := (IC.pua hI (by decide))
  exact xr_v G hret hlk dX0_setRule_11 ⟨(Fr.put Fr.rf (by decide)), hI_5⟩

set_option maxHeartbeats 4000000 in
set_option maxRecDepth 100000 in
theorem c_X0_setDefault (ω : Om) (l : Launch) (μ : M3) (x1 : Int) (x2 : Int) (x3 : Int) (hx1 : ir x1) (hx2 : ir x2) (hx3 : ir x3) (hI : IC μ) : CtV ω l yX0_setDefault cX0_setDefault 4 1 21 [.ref (oP ω 6), .int (iv x1), .int (iv x2), .int (iv x3)] μ (fun (μ' : M3) => (Fr [8] μ μ') ∧ (IC μ')) := by
  refine CtV.go (by decide) (Nat.le_of_ble_eq_true rfl) (fun ρ p e s m below meth c R ls G hR hret hlk hl => ?_)
  have hx := G.1.1
  have hb := G.1.2.1
  have hl : lv_has ls 4 [(0, .ref (oP ω 6)), (1, .int (iv x1)), (2, .int (iv x2)), (3, .int (iv x3))] := hl
  generalize s.drawn = d0 at G ⊢
  have hr_x1 : -2147483648 ≤ x1 ∧ x1 ≤ 2147483647 := hx1
  have hr_x2 : -2147483648 ≤ x2 ∧ x2 ≤ 2147483647 := hx2
  have hr_x3 : -2147483648 ≤ x3 ∧ x3 ≤ 2147483647 := hx3
  refine lv_aload_n hx hb dX0_setDefault_0 rfl (lv_at hl 0 rfl) ?_
  refine xa_getr G fd_X0 (a := 6) (x := 8) 1 rfl (by decide) rfl (wm 1 116 rfl rfl) ⟨rfl, rfl, rfl⟩ dX0_setDefault_1 rfl (G.sk 10 rfl) (by decide) rfl ?_
  refine lv_iload_n hx hb dX0_setDefault_4 rfl (lv_at hl 1 rfl) ?_
  refine lv_iload_n hx hb dX0_setDefault_5 rfl (lv_at hl 2 rfl) ?_
  refine xc_iS G (rest := [.ref (oP ω 8)]) (As := [.int (iv x1), .int (iv x2)]) (c_X0_border ω l μ x1 x2 (by unfold ir; omega) (by unfold ir; omega)) (wm 5 2 rfl rfl) (wm 5 3 rfl rfl) (wm 1 7 rfl rfl) (wm 5 4 rfl rfl) (by decide) hR (by decide) (n := 2) rfl rfl (Nat.le_of_ble_eq_true rfl) hl.1 dX0_setDefault_6 (fun r_2 μ1 ρ d0 H locs hr_r_2 hp G => ?_)
  have hr_r_2 : -2147483648 ≤ r_2 ∧ r_2 ≤ 2147483647 := hr_r_2
  obtain ⟨hsm_3, hp_4⟩ := hp
  have hsm_3 := Eq.symm hsm_3
  subst hsm_3
  refine lv_iload_n hx hb dX0_setDefault_9 rfl (lv_at hl 3 rfl) ?_
  refine xa_iast G (a := 8) (i := r_2) (x := x3) rfl (by have h9 := G.lc (a := 8) (n := 16) 5 rfl; omega) (by unfold ir; omega) dX0_setDefault_10 rfl (fun H locs G => ?_)
  have hI_5 : IC (sv μ 8 r_2 x3) := (IC.pua hI (by decide))
  exact xr_v G hret hlk dX0_setDefault_11 ⟨(Fr.put Fr.rf (by decide)), hI_5⟩

set_option maxHeartbeats 4000000 in
set_option maxRecDepth 100000 in
theorem c_X8_functions (ω : Om) (l : Launch) (μ : M3) (pq : Int) (hpr : isPr pq) (hI : IC μ) : CtI ω l yX8_functions cX8_functions 1 .int 0 0 [.ref (oP ω pq)] μ (fun (r : Int) (μ' : M3) => (μ' = μ) ∧ (r = μ.1 pq 7)) := by
  refine CtI.go (by decide) (Nat.le_of_ble_eq_true rfl) (fun ρ p e s m below meth c R ls G hR hret hlk hl => ?_)
  have hx := G.1.1
  have hb := G.1.2.1
  have hl : lv_has ls 1 [(0, .ref (oP ω pq))] := hl
  generalize s.drawn = d0 at G ⊢
  have hpr_d : pq = 13 ∨ pq = 71 ∨ pq = 81 ∨ pq = 91 ∨ pq = 101 := hpr
  refine lv_aload_n hx hb dX8_functions_0 rfl (lv_at hl 0 rfl) ?_
  refine xa_geti G fd_X8 (a := pq) (x := μ.1 pq 7) 7 hpr.ly (by decide) rfl (wm 1 171 rfl rfl) ⟨rfl, rfl, rfl⟩ dX8_functions_1 (hpr.hq ω ρ) rfl ?_
  have hr_1 : -2147483648 ≤ μ.1 pq 7 ∧ μ.1 pq 7 ≤ 2147483647 := by have h9 := G.hr (a := pq) (k := 7) hpr.t7; exact h9
  have hk_2 := hI.pr (p := pq) hpr
  unfold pk at hk_2
  have hc_3 : 16 ≤ μ.2.1 (pq + 1) ∧ μ.2.1 (pq + 1) ≤ 73024 := hI.rm.1 _ hpr.cap
  exact xr_i G (x := μ.1 pq 7) hret hlk (by unfold ir; omega) rfl dX8_functions_4 ⟨rfl, (by omega)⟩

set_option maxHeartbeats 4000000 in
set_option maxRecDepth 100000 in
theorem c_X8_length (ω : Om) (l : Launch) (μ : M3) (pq : Int) (hpr : isPr pq) (hI : IC μ) : CtI ω l yX8_length cX8_length 1 .int 0 0 [.ref (oP ω pq)] μ (fun (r : Int) (μ' : M3) => (μ' = μ) ∧ (r = μ.1 pq 1)) := by
  refine CtI.go (by decide) (Nat.le_of_ble_eq_true rfl) (fun ρ p e s m below meth c R ls G hR hret hlk hl => ?_)
  have hx := G.1.1
  have hb := G.1.2.1
  have hl : lv_has ls 1 [(0, .ref (oP ω pq))] := hl
  generalize s.drawn = d0 at G ⊢
  have hpr_d : pq = 13 ∨ pq = 71 ∨ pq = 81 ∨ pq = 91 ∨ pq = 101 := hpr
  refine lv_aload_n hx hb dX8_length_0 rfl (lv_at hl 0 rfl) ?_
  refine xa_geti G fd_X8 (a := pq) (x := μ.1 pq 1) 1 hpr.ly (by decide) rfl (wm 1 165 rfl rfl) ⟨rfl, rfl, rfl⟩ dX8_length_1 (hpr.hq ω ρ) rfl ?_
  have hr_1 : -2147483648 ≤ μ.1 pq 1 ∧ μ.1 pq 1 ≤ 2147483647 := by have h9 := G.hr (a := pq) (k := 1) hpr.t1; exact h9
  have hk_2 := hI.pr (p := pq) hpr
  unfold pk at hk_2
  have hc_3 : 16 ≤ μ.2.1 (pq + 1) ∧ μ.2.1 (pq + 1) ≤ 73024 := hI.rm.1 _ hpr.cap
  exact xr_i G (x := μ.1 pq 1) hret hlk (by unfold ir; omega) rfl dX8_length_4 ⟨rfl, (by omega)⟩

set_option maxHeartbeats 4000000 in
set_option maxRecDepth 100000 in
theorem c_X8_constants (ω : Om) (l : Launch) (μ : M3) (pq : Int) (hpr : isPr pq) (hI : IC μ) : CtR ω l yX8_constants cX8_constants 1 (.object "FourTongues$Row") 0 0 [.ref (oP ω pq)] μ (fun (r : Int) (μ' : M3) => (μ' = μ) ∧ (r = pq + 2)) := by
  refine CtR.go (by decide) (Nat.le_of_ble_eq_true rfl) (fun ρ p e s m below meth c R ls G hR hret hlk hl => ?_)
  have hx := G.1.1
  have hb := G.1.2.1
  have hl : lv_has ls 1 [(0, .ref (oP ω pq))] := hl
  generalize s.drawn = d0 at G ⊢
  have hpr_d : pq = 13 ∨ pq = 71 ∨ pq = 81 ∨ pq = 91 ∨ pq = 101 := hpr
  refine lv_aload_n hx hb dX8_constants_0 rfl (lv_at hl 0 rfl) ?_
  refine xa_getr G fd_X8 (a := pq) (x := pq + 2) 2 hpr.ly (by decide) rfl (wm 1 166 rfl rfl) ⟨rfl, rfl, rfl⟩ dX8_constants_1 (hpr.hq ω ρ) (G.sr hpr.s2) (by omega) ((hpr.row).hq ω ρ) ?_
  exact xr_r G (b := pq + 2) hret hlk dX8_constants_4 ⟨rfl, rfl⟩

set_option maxHeartbeats 4000000 in
set_option maxRecDepth 100000 in
theorem c_X1_values (ω : Om) (l : Launch) (μ : M3) (hI : IC μ) : CtR ω l yX1_values cX1_values 1 (.object "FourTongues$Row") 0 0 [.ref (oP ω 45)] μ (fun (r : Int) (μ' : M3) => (μ' = μ) ∧ (r = 47)) := by
  refine CtR.go (by decide) (Nat.le_of_ble_eq_true rfl) (fun ρ p e s m below meth c R ls G hR hret hlk hl => ?_)
  have hx := G.1.1
  have hb := G.1.2.1
  have hl : lv_has ls 1 [(0, .ref (oP ω 45))] := hl
  generalize s.drawn = d0 at G ⊢
  refine lv_aload_n hx hb dX1_values_0 rfl (lv_at hl 0 rfl) ?_
  refine xa_getr G fd_X1 (a := 45) (x := 47) 2 rfl (by decide) rfl (wm 2 69 rfl rfl) ⟨rfl, rfl, rfl⟩ dX1_values_1 rfl (G.sk 53 rfl) (by decide) rfl ?_
  exact xr_r G (b := 47) hret hlk dX1_values_4 ⟨rfl, rfl⟩

set_option maxHeartbeats 4000000 in
set_option maxRecDepth 100000 in
theorem c_X3_answers (ω : Om) (l : Launch) (μ : M3) (hI : IC μ) : CtR ω l yX3_answers cX3_answers 1 (.object "FourTongues$Row") 0 0 [.ref (oP ω 60)] μ (fun (r : Int) (μ' : M3) => (μ' = μ) ∧ (r = 66)) := by
  refine CtR.go (by decide) (Nat.le_of_ble_eq_true rfl) (fun ρ p e s m below meth c R ls G hR hret hlk hl => ?_)
  have hx := G.1.1
  have hb := G.1.2.1
  have hl : lv_has ls 1 [(0, .ref (oP ω 60))] := hl
  generalize s.drawn = d0 at G ⊢
  refine lv_aload_n hx hb dX3_answers_0 rfl (lv_at hl 0 rfl) ?_
  refine xa_getr G fd_X3 (a := 60) (x := 66) 5 rfl (by decide) rfl (wm 2 127 rfl rfl) ⟨rfl, rfl, rfl⟩ dX3_answers_1 rfl (G.sk 70 rfl) (by decide) rfl ?_
  exact xr_r G (b := 66) hret hlk dX3_answers_4 ⟨rfl, rfl⟩

set_option maxHeartbeats 4000000 in
set_option maxRecDepth 100000 in
theorem c_X3_count (ω : Om) (l : Launch) (μ : M3) (hI : IC μ) : CtI ω l yX3_count cX3_count 1 .int 0 0 [.ref (oP ω 60)] μ (fun (r : Int) (μ' : M3) => (μ' = μ) ∧ (r = μ.1 60 6)) := by
  refine CtI.go (by decide) (Nat.le_of_ble_eq_true rfl) (fun ρ p e s m below meth c R ls G hR hret hlk hl => ?_)
  have hx := G.1.1
  have hb := G.1.2.1
  have hl : lv_has ls 1 [(0, .ref (oP ω 60))] := hl
  generalize s.drawn = d0 at G ⊢
  refine lv_aload_n hx hb dX3_count_0 rfl (lv_at hl 0 rfl) ?_
  refine xa_geti G fd_X3 (a := 60) (x := μ.1 60 6) 6 rfl (by decide) rfl (wm 2 128 rfl rfl) ⟨rfl, rfl, rfl⟩ dX3_count_1 rfl rfl ?_
  have hr_1 : -2147483648 ≤ μ.1 60 6 ∧ μ.1 60 6 ≤ 2147483647 := by have h9 := G.hr (a := 60) (k := 6) rfl; exact h9
  have hn_2 : 0 ≤ μ.1 60 6 ∧ μ.1 60 6 ≤ 400 := hI.nm.2.2.2.2.2.1
  exact xr_i G (x := μ.1 60 6) hret hlk (by unfold ir; omega) rfl dX3_count_4 ⟨rfl, (by omega)⟩
