abbrev cX0_border : ByteArray := prog_2_method_2_code
def yX0_border : MethodName := ⟨RX0, "border", "(II)I"⟩
abbrev cX0_setRule : ByteArray := prog_2_method_3_code
def yX0_setRule : MethodName := ⟨RX0, "setRule", "(III)V"⟩
abbrev cX0_setDefault : ByteArray := prog_2_method_4_code
def yX0_setDefault : MethodName := ⟨RX0, "setDefault", "(III)V"⟩
abbrev cX0_setEntry : ByteArray := prog_2_method_5_code
def yX0_setEntry : MethodName := ⟨RX0, "setEntry", "(IIII)Z"⟩
abbrev cX0_find : ByteArray := prog_2_method_6_code
def yX0_find : MethodName := ⟨RX0, "find", "(III)I"⟩
abbrev cX0_entryFor : ByteArray := prog_2_method_7_code
def yX0_entryFor : MethodName := ⟨RX0, "entryFor", "(IIILFourTongues$Names;)I"⟩
abbrev cX0_becomes : ByteArray := prog_2_method_8_code
def yX0_becomes : MethodName := ⟨RX0, "becomes", "(III)I"⟩
abbrev cX0_turn : ByteArray := prog_2_method_9_code
def yX0_turn : MethodName := ⟨RX0, "turn", "(LFourTongues$Row;III)Z"⟩
abbrev cX0_setTurned : ByteArray := prog_2_method_10_code
def yX0_setTurned : MethodName := ⟨RX0, "setTurned", "(LFourTongues$Row;IIIJ)V"⟩
abbrev cX0_wrapped : ByteArray := prog_2_method_11_code
def yX0_wrapped : MethodName := ⟨RX0, "wrapped", "(IJ)J"⟩
abbrev cX1_clear : ByteArray := prog_3_method_2_code
def yX1_clear : MethodName := ⟨RX1, "clear", "()V"⟩
abbrev cX1_add : ByteArray := prog_3_method_3_code
def yX1_add : MethodName := ⟨RX1, "add", "(IIIIII)I"⟩
abbrev cX1_values : ByteArray := prog_3_method_5_code
def yX1_values : MethodName := ⟨RX1, "values", "()LFourTongues$Row;"⟩
abbrev cX1_putUnder : ByteArray := prog_3_method_6_code
def yX1_putUnder : MethodName := ⟨RX1, "putUnder", "(II)V"⟩
abbrev cX2_clear : ByteArray := prog_4_method_2_code
def yX2_clear : MethodName := ⟨RX2, "clear", "()V"⟩
abbrev cX2_count : ByteArray := prog_4_method_3_code
def yX2_count : MethodName := ⟨RX2, "count", "()I"⟩
abbrev cX2_isFull : ByteArray := prog_4_method_4_code
def yX2_isFull : MethodName := ⟨RX2, "isFull", "()Z"⟩
abbrev cX2_push : ByteArray := prog_4_method_5_code
def yX2_push : MethodName := ⟨RX2, "push", "(IIIIIII)V"⟩
abbrev cX2_pop : ByteArray := prog_4_method_6_code
def yX2_pop : MethodName := ⟨RX2, "pop", "()V"⟩
abbrev cX2_of : ByteArray := prog_4_method_7_code
def yX2_of : MethodName := ⟨RX2, "of", "([I)I"⟩
abbrev cX2_tongue : ByteArray := prog_4_method_8_code
def yX2_tongue : MethodName := ⟨RX2, "tongue", "()I"⟩
abbrev cX2_function : ByteArray := prog_4_method_9_code
def yX2_function : MethodName := ⟨RX2, "function", "()I"⟩
abbrev cX2_base : ByteArray := prog_4_method_10_code
def yX2_base : MethodName := ⟨RX2, "base", "()I"⟩
abbrev cX2_floor : ByteArray := prog_4_method_11_code
def yX2_floor : MethodName := ⟨RX2, "floor", "()I"⟩
abbrev cX2_top : ByteArray := prog_4_method_12_code
def yX2_top : MethodName := ⟨RX2, "top", "()I"⟩
abbrev cX2_calledAt : ByteArray := prog_4_method_13_code
def yX2_calledAt : MethodName := ⟨RX2, "calledAt", "()I"⟩
abbrev cX2_guardBase : ByteArray := prog_4_method_14_code
def yX2_guardBase : MethodName := ⟨RX2, "guardBase", "()I"⟩
abbrev cX2_guardBaseOfPart : ByteArray := prog_4_method_15_code
def yX2_guardBaseOfPart : MethodName := ⟨RX2, "guardBaseOfPart", "()I"⟩
abbrev cX3_clear : ByteArray := prog_5_method_3_code
def yX3_clear : MethodName := ⟨RX3, "clear", "()V"⟩
abbrev cX3_count : ByteArray := prog_5_method_4_code
def yX3_count : MethodName := ⟨RX3, "count", "()I"⟩
abbrev cX3_push : ByteArray := prog_5_method_5_code
def yX3_push : MethodName := ⟨RX3, "push", "(II)V"⟩
abbrev cX3_pop : ByteArray := prog_5_method_6_code
def yX3_pop : MethodName := ⟨RX3, "pop", "()V"⟩
abbrev cX3_of : ByteArray := prog_5_method_7_code
def yX3_of : MethodName := ⟨RX3, "of", "([I)I"⟩
abbrev cX3_kind : ByteArray := prog_5_method_8_code
def yX3_kind : MethodName := ⟨RX3, "kind", "()I"⟩
abbrev cX3_target : ByteArray := prog_5_method_9_code
def yX3_target : MethodName := ⟨RX3, "target", "()I"⟩
abbrev cX3_name : ByteArray := prog_5_method_10_code
def yX3_name : MethodName := ⟨RX3, "name", "()I"⟩
abbrev cX3_underWay : ByteArray := prog_5_method_11_code
def yX3_underWay : MethodName := ⟨RX3, "underWay", "()I"⟩
abbrev cX3_hasOpen : ByteArray := prog_5_method_12_code
def yX3_hasOpen : MethodName := ⟨RX3, "hasOpen", "(II)Z"⟩
abbrev cX3_finish : ByteArray := prog_5_method_13_code
def yX3_finish : MethodName := ⟨RX3, "finish", "(II)V"⟩
abbrev cX3_finishAnswer : ByteArray := prog_5_method_14_code
def yX3_finishAnswer : MethodName := ⟨RX3, "finishAnswer", "(LFourTongues$Row;I)V"⟩
abbrev cX3_answers : ByteArray := prog_5_method_15_code
def yX3_answers : MethodName := ⟨RX3, "answers", "()LFourTongues$Row;"⟩
abbrev cX3_failureUnderWay : ByteArray := prog_5_method_16_code
def yX3_failureUnderWay : MethodName := ⟨RX3, "failureUnderWay", "()I"⟩
abbrev cX4_run : ByteArray := prog_6_method_8_code
def yX4_run : MethodName := ⟨RX4, "run", "(IIJ)I"⟩
abbrev cX4_clear : ByteArray := prog_6_method_9_code
def yX4_clear : MethodName := ⟨RX4, "clear", "()V"⟩
abbrev cX4_end : ByteArray := prog_6_method_10_code
def yX4_end : MethodName := ⟨RX4, "end", "(I)V"⟩
abbrev cX4_step : ByteArray := prog_6_method_11_code
def yX4_step : MethodName := ⟨RX4, "step", "()Z"⟩
abbrev cX4_pushNumber : ByteArray := prog_6_method_12_code
def yX4_pushNumber : MethodName := ⟨RX4, "pushNumber", "(IJ)V"⟩
abbrev cX4_workOut : ByteArray := prog_6_method_13_code
def yX4_workOut : MethodName := ⟨RX4, "workOut", "()V"⟩
abbrev cX4_goElsewhere : ByteArray := prog_6_method_14_code
def yX4_goElsewhere : MethodName := ⟨RX4, "goElsewhere", "()V"⟩
abbrev cX4_top : ByteArray := prog_6_method_15_code
def yX4_top : MethodName := ⟨RX4, "top", "()I"⟩
abbrev cX4_store : ByteArray := prog_6_method_16_code
def yX4_store : MethodName := ⟨RX4, "store", "(I)V"⟩
abbrev cX4_dropValue : ByteArray := prog_6_method_17_code
def yX4_dropValue : MethodName := ⟨RX4, "dropValue", "()V"⟩
abbrev cX4_fails : ByteArray := prog_6_method_18_code
def yX4_fails : MethodName := ⟨RX4, "fails", "(II)V"⟩
abbrev cX4_leaveIfGoing : ByteArray := prog_6_method_19_code
def yX4_leaveIfGoing : MethodName := ⟨RX4, "leaveIfGoing", "()V"⟩
abbrev cX4_failsWithTop : ByteArray := prog_6_method_20_code
def yX4_failsWithTop : MethodName := ⟨RX4, "failsWithTop", "(I)V"⟩
abbrev cX4_give : ByteArray := prog_6_method_21_code
def yX4_give : MethodName := ⟨RX4, "give", "(I)V"⟩
abbrev cX4_failWithCode : ByteArray := prog_6_method_22_code
def yX4_failWithCode : MethodName := ⟨RX4, "failWithCode", "()V"⟩
abbrev cX4_exitTo : ByteArray := prog_6_method_23_code
def yX4_exitTo : MethodName := ⟨RX4, "exitTo", "(I)V"⟩
abbrev cX4_carryOn : ByteArray := prog_6_method_24_code
def yX4_carryOn : MethodName := ⟨RX4, "carryOn", "()V"⟩
abbrev cX4_isHeld : ByteArray := prog_6_method_25_code
def yX4_isHeld : MethodName := ⟨RX4, "isHeld", "(I)Z"⟩
abbrev cX4_targetFor : ByteArray := prog_6_method_26_code
def yX4_targetFor : MethodName := ⟨RX4, "targetFor", "(II)I"⟩
abbrev cX4_catchFor : ByteArray := prog_6_method_27_code
def yX4_catchFor : MethodName := ⟨RX4, "catchFor", "(II)I"⟩
abbrev cX4_outOfFunction : ByteArray := prog_6_method_28_code
def yX4_outOfFunction : MethodName := ⟨RX4, "outOfFunction", "(I)V"⟩
abbrev cX4_backToCaller : ByteArray := prog_6_method_29_code
def yX4_backToCaller : MethodName := ⟨RX4, "backToCaller", "()V"⟩
abbrev cX4_turnFailure : ByteArray := prog_6_method_30_code
def yX4_turnFailure : MethodName := ⟨RX4, "turnFailure", "(I)V"⟩
abbrev cX4_goOnBehindCall : ByteArray := prog_6_method_31_code
def yX4_goOnBehindCall : MethodName := ⟨RX4, "goOnBehindCall", "()V"⟩
abbrev cX4_leaveFunction : ByteArray := prog_6_method_32_code
def yX4_leaveFunction : MethodName := ⟨RX4, "leaveFunction", "()V"⟩
abbrev cX4_giveAnswer : ByteArray := prog_6_method_33_code
def yX4_giveAnswer : MethodName := ⟨RX4, "giveAnswer", "()V"⟩
abbrev cX4_endWithAnswer : ByteArray := prog_6_method_34_code
def yX4_endWithAnswer : MethodName := ⟨RX4, "endWithAnswer", "()V"⟩
abbrev cX4_finished : ByteArray := prog_6_method_35_code
def yX4_finished : MethodName := ⟨RX4, "finished", "(I)V"⟩
abbrev cX4_jumpIfFails : ByteArray := prog_6_method_36_code
def yX4_jumpIfFails : MethodName := ⟨RX4, "jumpIfFails", "(II)V"⟩
abbrev cX4_jumpIfWell : ByteArray := prog_6_method_37_code
def yX4_jumpIfWell : MethodName := ⟨RX4, "jumpIfWell", "(I)V"⟩
abbrev cX4_tagOfTop : ByteArray := prog_6_method_38_code
def yX4_tagOfTop : MethodName := ⟨RX4, "tagOfTop", "()V"⟩
abbrev cX4_question : ByteArray := prog_6_method_39_code
def yX4_question : MethodName := ⟨RX4, "question", "(I)V"⟩
abbrev cX4_keepMark : ByteArray := prog_6_method_40_code
def yX4_keepMark : MethodName := ⟨RX4, "keepMark", "()V"⟩
abbrev cX4_sign : ByteArray := prog_6_method_41_code
def yX4_sign : MethodName := ⟨RX4, "sign", "(I)V"⟩
abbrev cX4_replaceParts : ByteArray := prog_6_method_42_code
def yX4_replaceParts : MethodName := ⟨RX4, "replaceParts", "(II)V"⟩
abbrev cX4_areSame : ByteArray := prog_6_method_43_code
def yX4_areSame : MethodName := ⟨RX4, "areSame", "(II)Z"⟩
abbrev cX4_isTrue : ByteArray := prog_6_method_44_code
def yX4_isTrue : MethodName := ⟨RX4, "isTrue", "(II)Z"⟩
abbrev cX4_reckonWholes : ByteArray := prog_6_method_45_code
def yX4_reckonWholes : MethodName := ⟨RX4, "reckonWholes", "(II)I"⟩
abbrev cX4_reckonReals : ByteArray := prog_6_method_46_code
def yX4_reckonReals : MethodName := ⟨RX4, "reckonReals", "(II)I"⟩
abbrev cX4_negate : ByteArray := prog_6_method_47_code
def yX4_negate : MethodName := ⟨RX4, "negate", "()V"⟩
abbrev cX4_smallWhole : ByteArray := prog_6_method_48_code
def yX4_smallWhole : MethodName := ⟨RX4, "smallWhole", "(I)I"⟩
abbrev cX4_newArray : ByteArray := prog_6_method_49_code
def yX4_newArray : MethodName := ⟨RX4, "newArray", "()V"⟩
abbrev cX4_lengthAt : ByteArray := prog_6_method_50_code
def yX4_lengthAt : MethodName := ⟨RX4, "lengthAt", "(J)I"⟩
abbrev cX4_tongueOfArray : ByteArray := prog_6_method_51_code
def yX4_tongueOfArray : MethodName := ⟨RX4, "tongueOfArray", "(I)I"⟩
abbrev cX4_lengthOfArray : ByteArray := prog_6_method_52_code
def yX4_lengthOfArray : MethodName := ⟨RX4, "lengthOfArray", "()V"⟩
abbrev cX4_whatFailsAsArray : ByteArray := prog_6_method_53_code
def yX4_whatFailsAsArray : MethodName := ⟨RX4, "whatFailsAsArray", "(I)I"⟩
abbrev cX4_whatFailsAsIndex : ByteArray := prog_6_method_54_code
def yX4_whatFailsAsIndex : MethodName := ⟨RX4, "whatFailsAsIndex", "(II)I"⟩
abbrev cX4_cellAt : ByteArray := prog_6_method_55_code
def yX4_cellAt : MethodName := ⟨RX4, "cellAt", "(II)I"⟩
abbrev cX4_cellOfArray : ByteArray := prog_6_method_56_code
def yX4_cellOfArray : MethodName := ⟨RX4, "cellOfArray", "()V"⟩
abbrev cX4_putIntoArray : ByteArray := prog_6_method_57_code
def yX4_putIntoArray : MethodName := ⟨RX4, "putIntoArray", "()V"⟩
abbrev cX4_functionItself : ByteArray := prog_6_method_58_code
def yX4_functionItself : MethodName := ⟨RX4, "functionItself", "(II)V"⟩
abbrev cX4_callNamed : ByteArray := prog_6_method_59_code
def yX4_callNamed : MethodName := ⟨RX4, "callNamed", "(II)V"⟩
abbrev cX4_callHeld : ByteArray := prog_6_method_60_code
def yX4_callHeld : MethodName := ⟨RX4, "callHeld", "(I)V"⟩
abbrev cX4_whatFailsGoing : ByteArray := prog_6_method_61_code
def yX4_whatFailsGoing : MethodName := ⟨RX4, "whatFailsGoing", "(II)I"⟩
abbrev cX4_enter : ByteArray := prog_6_method_62_code
def yX4_enter : MethodName := ⟨RX4, "enter", "(IIII)V"⟩
abbrev cX5_letterOf : ByteArray := prog_7_method_6_code
def yX5_letterOf : MethodName := ⟨RX5, "letterOf", "(II)I"⟩
abbrev cX5_above : ByteArray := prog_7_method_7_code
def yX5_above : MethodName := ⟨RX5, "above", "(I)I"⟩
abbrev cX5_isOrUnder : ByteArray := prog_7_method_9_code
def yX5_isOrUnder : MethodName := ⟨RX5, "isOrUnder", "(II)Z"⟩
abbrev cX6_least : ByteArray := prog_8_method_2_code
def yX6_least : MethodName := ⟨RX6, "least", "(I)J"⟩
abbrev cX6_most : ByteArray := prog_8_method_3_code
def yX6_most : MethodName := ⟨RX6, "most", "(I)J"⟩
abbrev cX6_twoTo63 : ByteArray := prog_8_method_4_code
def yX6_twoTo63 : MethodName := ⟨RX6, "twoTo63", "()D"⟩
abbrev cX6_greatest : ByteArray := prog_8_method_5_code
def yX6_greatest : MethodName := ⟨RX6, "greatest", "()D"⟩
abbrev cX6_has : ByteArray := prog_8_method_6_code
def yX6_has : MethodName := ⟨RX6, "has", "(IJ)Z"⟩
abbrev cX6_isWhole : ByteArray := prog_8_method_7_code
def yX6_isWhole : MethodName := ⟨RX6, "isWhole", "(D)Z"⟩
abbrev cX6_isFinite : ByteArray := prog_8_method_8_code
def yX6_isFinite : MethodName := ⟨RX6, "isFinite", "(D)Z"⟩
abbrev cX6_traps : ByteArray := prog_8_method_9_code
def yX6_traps : MethodName := ⟨RX6, "traps", "(IIJJ)Z"⟩
abbrev cX6_ofWholes : ByteArray := prog_8_method_10_code
def yX6_ofWholes : MethodName := ⟨RX6, "ofWholes", "(IJJ)J"⟩
abbrev cX6_ofReals : ByteArray := prog_8_method_11_code
def yX6_ofReals : MethodName := ⟨RX6, "ofReals", "(IDD)D"⟩
abbrev cX6_rest : ByteArray := prog_8_method_12_code
def yX6_rest : MethodName := ⟨RX6, "rest", "(DD)D"⟩
abbrev cX6_compareWholes : ByteArray := prog_8_method_13_code
def yX6_compareWholes : MethodName := ⟨RX6, "compareWholes", "(IJJ)Z"⟩
abbrev cX6_compareReals : ByteArray := prog_8_method_14_code
def yX6_compareReals : MethodName := ⟨RX6, "compareReals", "(IDD)Z"⟩
abbrev cX8_functions : ByteArray := prog_10_method_3_code
def yX8_functions : MethodName := ⟨RX8, "functions", "()I"⟩
abbrev cX8_length : ByteArray := prog_10_method_4_code
def yX8_length : MethodName := ⟨RX8, "length", "()I"⟩
abbrev cX8_part : ByteArray := prog_10_method_6_code
def yX8_part : MethodName := ⟨RX8, "part", "(II)I"⟩
abbrev cX8_op : ByteArray := prog_10_method_7_code
def yX8_op : MethodName := ⟨RX8, "op", "(I)I"⟩
abbrev cX8_first : ByteArray := prog_10_method_8_code
def yX8_first : MethodName := ⟨RX8, "first", "(I)I"⟩
abbrev cX8_second : ByteArray := prog_10_method_9_code
def yX8_second : MethodName := ⟨RX8, "second", "(I)I"⟩
abbrev cX8_place : ByteArray := prog_10_method_10_code
def yX8_place : MethodName := ⟨RX8, "place", "(I)I"⟩
abbrev cX8_constants : ByteArray := prog_10_method_15_code
def yX8_constants : MethodName := ⟨RX8, "constants", "()LFourTongues$Row;"⟩
abbrev cX8_find : ByteArray := prog_10_method_18_code
def yX8_find : MethodName := ⟨RX8, "find", "(J)I"⟩
abbrev cX8_start : ByteArray := prog_10_method_19_code
def yX8_start : MethodName := ⟨RX8, "start", "(I)I"⟩
abbrev cX8_parameters : ByteArray := prog_10_method_20_code
def yX8_parameters : MethodName := ⟨RX8, "parameters", "(I)I"⟩
abbrev cX8_variables : ByteArray := prog_10_method_21_code
def yX8_variables : MethodName := ⟨RX8, "variables", "(I)I"⟩
abbrev cX9_kindOfTop : ByteArray := prog_11_method_6_code
def yX9_kindOfTop : MethodName := ⟨RX9, "kindOfTop", "()I"⟩
abbrev cX9_resize : ByteArray := prog_11_method_7_code
def yX9_resize : MethodName := ⟨RX9, "resize", "(I)V"⟩
abbrev cX9_drop : ByteArray := prog_11_method_8_code
def yX9_drop : MethodName := ⟨RX9, "drop", "(I)V"⟩
abbrev cX9_set : ByteArray := prog_11_method_9_code
def yX9_set : MethodName := ⟨RX9, "set", "(IIJD)V"⟩
abbrev cX9_push : ByteArray := prog_11_method_10_code
def yX9_push : MethodName := ⟨RX9, "push", "(IJD)V"⟩
abbrev cX9_copy : ByteArray := prog_11_method_11_code
def yX9_copy : MethodName := ⟨RX9, "copy", "(ILFourTongues$Row;I)V"⟩
abbrev cX9_pushCopy : ByteArray := prog_11_method_12_code
def yX9_pushCopy : MethodName := ⟨RX9, "pushCopy", "(LFourTongues$Row;I)V"⟩
abbrev cX11_letter : ByteArray := prog_1_method_5_code
def yX11_letter : MethodName := ⟨RX11, "letter", "(II)I"⟩
abbrev cX11_rule : ByteArray := prog_1_method_6_code
def yX11_rule : MethodName := ⟨RX11, "rule", "(III)Z"⟩
abbrev cX11_entry : ByteArray := prog_1_method_7_code
def yX11_entry : MethodName := ⟨RX11, "entry", "(IIII)Z"⟩
abbrev cX11_call : ByteArray := prog_1_method_8_code
def yX11_call : MethodName := ⟨RX11, "call", "(IIJ)I"⟩
abbrev cX11_canFail : ByteArray := prog_1_method_16_code
def yX11_canFail : MethodName := ⟨RX11, "canFail", "(II)Z"⟩
abbrev cJ7_copyOf_59c91 : ByteArray := prog_24_method_123_code
def yJ7_copyOf_59c91 : MethodName := ⟨RJ7, "copyOf", "([II)[I"⟩
abbrev cJ7_copyOf_c38d5 : ByteArray := prog_24_method_124_code
def yJ7_copyOf_c38d5 : MethodName := ⟨RJ7, "copyOf", "([JI)[J"⟩
abbrev cJ7_copyOf_65012 : ByteArray := prog_24_method_127_code
def yJ7_copyOf_65012 : MethodName := ⟨RJ7, "copyOf", "([DI)[D"⟩
def wsX0_border : List Cond := .code yX0_border cX0_border 2 (some .int) :: ([])
def wsX0_setRule : List Cond := .code yX0_setRule cX0_setRule 4 none :: ([.fieldLink RX0 9 "FourTongues$Borders" "rules" "[I", .methodLink RX0 37 yX0_border, .static yX0_border, .initialized RX0, .code yX0_border cX0_border 2 (some .int)] ++ wsX00)
def wsX0_setDefault : List Cond := .code yX0_setDefault cX0_setDefault 4 none :: ([.fieldLink RX0 15 "FourTongues$Borders" "defaults" "[I", .methodLink RX0 37 yX0_border, .static yX0_border, .initialized RX0, .code yX0_border cX0_border 2 (some .int)] ++ wsX00)
def wsX0_find : List Cond := .code yX0_find cX0_find 6 (some .int) :: ([.fieldLink RX0 27 "FourTongues$Borders" "entries" "I", .fieldLink RX0 18 "FourTongues$Borders" "entryBorders" "[I", .fieldLink RX0 21 "FourTongues$Borders" "entryWhats" "[I", .methodLink RX0 37 yX0_border, .static yX0_border, .initialized RX0, .code yX0_border cX0_border 2 (some .int)] ++ wsX00)
def wsX0_setEntry : List Cond := .code yX0_setEntry cX0_setEntry 6 (some .boolean) :: ([.fieldLink RX0 27 "FourTongues$Borders" "entries" "I", .fieldLink RX0 18 "FourTongues$Borders" "entryBorders" "[I", .fieldLink RX0 21 "FourTongues$Borders" "entryWhats" "[I", .fieldLink RX0 24 "FourTongues$Borders" "entryAs" "[I", .methodLink RX0 41 yX0_find, .instanceMethod yX0_find, .selects RX0 yX0_find yX0_find, .initialized RX0, .code yX0_find cX0_find 6 (some .int), .methodLink RX0 37 yX0_border, .static yX0_border, .code yX0_border cX0_border 2 (some .int)] ++ wsX00)
def wsX5_letterOf : List Cond := .code yX5_letterOf cX5_letterOf 6 (some .int) :: ([.fieldLink RX5 22 "FourTongues$Names" "count" "I", .fieldLink RX5 11 "FourTongues$Names" "packed" "[J", .constantLong RX5 47 (255)] ++ wsX50)
def wsX8_functions : List Cond := .code yX8_functions cX8_functions 1 (some .int) :: ([.fieldLink RX8 39 "FourTongues$Program" "functions" "I"] ++ wsX80)
def wsX11_letter : List Cond := .code yX11_letter cX11_letter 3 (some .int) :: ([.fieldLink RX11 23 "FourTongues" "names" "LFourTongues$Names;", .methodLink RX11 90 yX5_letterOf, .instanceMethod yX5_letterOf, .selects RX5 yX5_letterOf yX5_letterOf, .initialized RX5, .code yX5_letterOf cX5_letterOf 6 (some .int), .fieldLink RX5 22 "FourTongues$Names" "count" "I", .fieldLink RX5 11 "FourTongues$Names" "packed" "[J", .constantLong RX5 47 (255)] ++ wsX110 ++ wsX50)
def wsX11_rule : List Cond := .code yX11_rule cX11_rule 4 (some .boolean) :: ([.fieldLink RX11 30 "FourTongues" "borders" "LFourTongues$Borders;", .methodLink RX11 67 yX11_isTongue, .static yX11_isTongue, .initialized RX11, .code yX11_isTongue cX11_isTongue 1 (some .boolean), .methodLink RX11 94 yX0_setRule, .instanceMethod yX0_setRule, .selects RX0 yX0_setRule yX0_setRule, .initialized RX0, .code yX0_setRule cX0_setRule 4 none, .fieldLink RX0 9 "FourTongues$Borders" "rules" "[I", .methodLink RX0 37 yX0_border, .static yX0_border, .code yX0_border cX0_border 2 (some .int)] ++ wsX110 ++ wsX00)
def wsX11_canFail : List Cond := .code yX11_canFail cX11_canFail 3 (some .boolean) :: ([.fieldLink RX11 23 "FourTongues" "names" "LFourTongues$Names;", .methodLink RX11 119 yX5_inAll, .instanceMethod yX5_inAll, .selects RX5 yX5_inAll yX5_inAll, .initialized RX5, .code yX5_inAll cX5_inAll 1 (some .int), .fieldLink RX5 22 "FourTongues$Names" "count" "I"] ++ wsX110 ++ wsX50)
def wsX11_entry_r1 : List Cond := [Cond.fieldLink RX11 30 "FourTongues" "borders" "LFourTongues$Borders;", Cond.methodLink RX11 67 yX11_isTongue, Cond.static yX11_isTongue, Cond.initialized RX11, Cond.code yX11_isTongue cX11_isTongue 1 (some .boolean), Cond.methodLink RX11 98 yX11_canFail, Cond.instanceMethod yX11_canFail, Cond.selects RX11 yX11_canFail yX11_canFail, Cond.code yX11_canFail cX11_canFail 3 (some .boolean), Cond.fieldLink RX11 23 "FourTongues" "names" "LFourTongues$Names;", Cond.methodLink RX11 119 yX5_inAll, Cond.instanceMethod yX5_inAll, Cond.selects RX5 yX5_inAll yX5_inAll, Cond.initialized RX5, Cond.code yX5_inAll cX5_inAll 1 (some .int), Cond.fieldLink RX5 22 "FourTongues$Names" "count" "I", Cond.methodLink RX11 102 yX0_setDefault, Cond.instanceMethod yX0_setDefault, Cond.selects RX0 yX0_setDefault yX0_setDefault, Cond.initialized RX0, Cond.code yX0_setDefault cX0_setDefault 4 none, Cond.fieldLink RX0 15 "FourTongues$Borders" "defaults" "[I", Cond.methodLink RX0 37 yX0_border, Cond.static yX0_border]
def wsX11_entry_r2 : List Cond := [Cond.code yX0_border cX0_border 2 (some .int), Cond.methodLink RX11 105 yX0_setEntry, Cond.instanceMethod yX0_setEntry, Cond.selects RX0 yX0_setEntry yX0_setEntry, Cond.code yX0_setEntry cX0_setEntry 6 (some .boolean), Cond.fieldLink RX0 27 "FourTongues$Borders" "entries" "I", Cond.fieldLink RX0 18 "FourTongues$Borders" "entryBorders" "[I", Cond.fieldLink RX0 21 "FourTongues$Borders" "entryWhats" "[I", Cond.fieldLink RX0 24 "FourTongues$Borders" "entryAs" "[I", Cond.methodLink RX0 41 yX0_find, Cond.instanceMethod yX0_find, Cond.selects RX0 yX0_find yX0_find, Cond.code yX0_find cX0_find 6 (some .int)]
def wsX11_entry : List Cond := .code yX11_entry cX11_entry 5 (some .boolean) :: ((wsX11_entry_r1 ++ wsX11_entry_r2) ++ wsX110 ++ wsX50 ++ wsX00)
def wsX11_call_r1 : List Cond := [Cond.fieldLink RX11 36 "FourTongues" "programs" "[LFourTongues$Program;", Cond.fieldLink RX11 59 "FourTongues" "machine" "LFourTongues$Machine;", Cond.methodLink RX11 67 yX11_isTongue, Cond.static yX11_isTongue, Cond.initialized RX11, Cond.code yX11_isTongue cX11_isTongue 1 (some .boolean), Cond.methodLink RX11 87 yX8_functions, Cond.instanceMethod yX8_functions, Cond.selects RX8 yX8_functions yX8_functions, Cond.initialized RX8, Cond.code yX8_functions cX8_functions 1 (some .int), Cond.fieldLink RX8 39 "FourTongues$Program" "functions" "I", Cond.methodLink RX11 109 yX6_has, Cond.static yX6_has, Cond.initialized RX6, Cond.code yX6_has cX6_has 5 (some .boolean), Cond.methodLink RX6 27 yX6_twoTo63, Cond.static yX6_twoTo63, Cond.code yX6_twoTo63 cX6_twoTo63 0 (some .double), Cond.constantDouble RX6 23 (4890909195324358656), Cond.methodLink RX6 31 yX6_least, Cond.static yX6_least, Cond.code yX6_least cX6_least 1 (some .long), Cond.constantLong RX6 9 (-2147483648)]
def wsX11_call_r2 : List Cond := [Cond.constantLong RX6 13 (-100000000000000000), Cond.constantLong RX6 15 (-9223372036854775808), Cond.methodLink RX6 35 yX6_most, Cond.static yX6_most, Cond.code yX6_most cX6_most 1 (some .long), Cond.constantLong RX6 17 (2147483647), Cond.constantLong RX6 19 (100000000000000000), Cond.constantLong RX6 21 (9223372036854775807), Cond.methodLink RX11 115 yX4_run, Cond.instanceMethod yX4_run, Cond.selects RX4 yX4_run yX4_run, Cond.initialized RX4, Cond.code yX4_run cX4_run 6 (some .int), Cond.constant RX4 130 (20000000), Cond.fieldLink RX4 58 "FourTongues$Machine" "state" "I", Cond.fieldLink RX4 83 "FourTongues$Machine" "program" "LFourTongues$Program;", Cond.fieldLink RX4 55 "FourTongues$Machine" "pc" "I", Cond.fieldLink RX4 51 "FourTongues$Machine" "at" "I", Cond.fieldLink RX4 47 "FourTongues$Machine" "tally" "[I", Cond.methodLink RX4 119 yX4_clear, Cond.instanceMethod yX4_clear, Cond.selects RX4 yX4_clear yX4_clear, Cond.code yX4_clear cX4_clear 2 none, Cond.fieldLink RX4 14 "FourTongues$Machine" "stack" "LFourTongues$Row;"]
def wsX11_call_r3 : List Cond := [Cond.fieldLink RX4 20 "FourTongues$Machine" "heap" "LFourTongues$Row;", Cond.fieldLink RX4 23 "FourTongues$Machine" "marks" "LFourTongues$Row;", Cond.fieldLink RX4 29 "FourTongues$Machine" "failures" "LFourTongues$Failures;", Cond.fieldLink RX4 36 "FourTongues$Machine" "frames" "LFourTongues$Frames;", Cond.fieldLink RX4 43 "FourTongues$Machine" "guards" "LFourTongues$Guards;", Cond.fieldLink RX4 64 "FourTongues$Machine" "cameOut" "I", Cond.fieldLink RX4 67 "FourTongues$Machine" "answer" "J", Cond.methodLink RX4 151 yX9_resize, Cond.instanceMethod yX9_resize, Cond.selects RX9 yX9_resize yX9_resize, Cond.initialized RX9, Cond.code yX9_resize cX9_resize 4 none, Cond.methodLink RX9 13 Lib.Math.max.name, Cond.static Lib.Math.max.name, Cond.initialized "java/lang/Math", Cond.code Lib.Math.max.name Lib.Math.max.code 2 (some .int), Cond.fieldLink RX9 19 "FourTongues$Row" "kinds" "[I", Cond.fieldLink RX9 23 "FourTongues$Row" "wholes" "[J", Cond.fieldLink RX9 27 "FourTongues$Row" "reals" "[D", Cond.fieldLink RX9 7 "FourTongues$Row" "count" "I", Cond.methodLink RX9 35 yJ7_copyOf_59c91, Cond.static yJ7_copyOf_59c91, Cond.initialized RJ7, Cond.code yJ7_copyOf_59c91 cJ7_copyOf_59c91 3 (some (.array .int))]
def wsX11_call_r4 : List Cond := [Cond.methodLink RJ7 316 ⟨"[I", "clone", "()Ljava/lang/Object;"⟩, Cond.sameMethod "[I" "java/lang/Object" "clone" "()Ljava/lang/Object;", Cond.native ⟨"java/lang/Object", "clone", "()Ljava/lang/Object;"⟩, Cond.instanceMethod ⟨"java/lang/Object", "clone", "()Ljava/lang/Object;"⟩, Cond.selects "[I" ⟨"[I", "clone", "()Ljava/lang/Object;"⟩ ⟨"java/lang/Object", "clone", "()Ljava/lang/Object;"⟩, Cond.classLink RJ7 317 "[I", Cond.arrayClass .int, Cond.methodLink RJ7 304 Lib.Math.min.name, Cond.static Lib.Math.min.name, Cond.code Lib.Math.min.name Lib.Math.min.code 2 (some .int), Cond.methodLink RJ7 150 arraycopyName, Cond.native arraycopyName, Cond.static arraycopyName, Cond.initialized "java/lang/System", Cond.methodLink RX9 41 yJ7_copyOf_c38d5, Cond.static yJ7_copyOf_c38d5, Cond.code yJ7_copyOf_c38d5 cJ7_copyOf_c38d5 3 (some (.array .long)), Cond.methodLink RJ7 319 ⟨"[J", "clone", "()Ljava/lang/Object;"⟩, Cond.sameMethod "[J" "java/lang/Object" "clone" "()Ljava/lang/Object;", Cond.selects "[J" ⟨"[J", "clone", "()Ljava/lang/Object;"⟩ ⟨"java/lang/Object", "clone", "()Ljava/lang/Object;"⟩, Cond.classLink RJ7 320 "[J", Cond.arrayClass .long, Cond.methodLink RX9 44 yJ7_copyOf_65012, Cond.static yJ7_copyOf_65012]
def wsX11_call_r5 : List Cond := [Cond.code yJ7_copyOf_65012 cJ7_copyOf_65012 3 (some (.array .double)), Cond.methodLink RJ7 328 ⟨"[D", "clone", "()Ljava/lang/Object;"⟩, Cond.sameMethod "[D" "java/lang/Object" "clone" "()Ljava/lang/Object;", Cond.selects "[D" ⟨"[D", "clone", "()Ljava/lang/Object;"⟩ ⟨"java/lang/Object", "clone", "()Ljava/lang/Object;"⟩, Cond.classLink RJ7 329 "[D", Cond.arrayClass .double, Cond.methodLink RX4 154 yX1_clear, Cond.instanceMethod yX1_clear, Cond.selects RX1 yX1_clear yX1_clear, Cond.initialized RX1, Cond.code yX1_clear cX1_clear 1 none, Cond.fieldLink RX1 15 "FourTongues$Failures" "count" "I", Cond.fieldLink RX1 31 "FourTongues$Failures" "lyingCount" "I", Cond.fieldLink RX1 24 "FourTongues$Failures" "values" "LFourTongues$Row;", Cond.methodLink RX1 34 yX9_resize, Cond.methodLink RX4 155 yX2_clear, Cond.instanceMethod yX2_clear, Cond.selects RX2 yX2_clear yX2_clear, Cond.initialized RX2, Cond.code yX2_clear cX2_clear 1 none, Cond.fieldLink RX2 31 "FourTongues$Frames" "count" "I", Cond.methodLink RX4 156 yX3_clear, Cond.instanceMethod yX3_clear, Cond.selects RX3 yX3_clear yX3_clear]
def wsX11_call_r6 : List Cond := [Cond.initialized RX3, Cond.code yX3_clear cX3_clear 1 none, Cond.fieldLink RX3 34 "FourTongues$Guards" "count" "I", Cond.fieldLink RX3 30 "FourTongues$Guards" "answers" "LFourTongues$Row;", Cond.methodLink RX3 38 yX9_resize, Cond.methodLink RX4 122 yX4_pushNumber, Cond.instanceMethod yX4_pushNumber, Cond.selects RX4 yX4_pushNumber yX4_pushNumber, Cond.code yX4_pushNumber cX4_pushNumber 4 none, Cond.methodLink RX4 161 yX9_push, Cond.instanceMethod yX9_push, Cond.selects RX9 yX9_push yX9_push, Cond.code yX9_push cX9_push 6 none, Cond.methodLink RX9 47 yX9_resize, Cond.methodLink RX9 51 yX9_set, Cond.instanceMethod yX9_set, Cond.selects RX9 yX9_set yX9_set, Cond.code yX9_set cX9_set 7 none, Cond.methodLink RX4 126 yX4_enter, Cond.instanceMethod yX4_enter, Cond.selects RX4 yX4_enter yX4_enter, Cond.code yX4_enter cX4_enter 7 none, Cond.fieldLink RX4 71 "FourTongues$Machine" "programs" "[LFourTongues$Program;", Cond.methodLink RX4 475 Lib.Math.min.name]
def wsX11_call_r7 : List Cond := [Cond.methodLink RX4 388 Lib.Math.max.name, Cond.methodLink RX4 105 yX9_count, Cond.instanceMethod yX9_count, Cond.selects RX9 yX9_count yX9_count, Cond.code yX9_count cX9_count 1 (some .int), Cond.methodLink RX4 469 yX8_variables, Cond.instanceMethod yX8_variables, Cond.selects RX8 yX8_variables yX8_variables, Cond.code yX8_variables cX8_variables 2 (some .int), Cond.fieldLink RX8 36 "FourTongues$Program" "variables" "[I", Cond.methodLink RX4 472 yX8_parameters, Cond.instanceMethod yX8_parameters, Cond.selects RX8 yX8_parameters yX8_parameters, Cond.code yX8_parameters cX8_parameters 2 (some .int), Cond.fieldLink RX8 33 "FourTongues$Program" "parameters" "[I", Cond.methodLink RX4 304 yX3_count, Cond.instanceMethod yX3_count, Cond.selects RX3 yX3_count yX3_count, Cond.code yX3_count cX3_count 1 (some .int), Cond.methodLink RX4 478 yX2_push, Cond.instanceMethod yX2_push, Cond.selects RX2 yX2_push yX2_push, Cond.code yX2_push cX2_push 8 none, Cond.fieldLink RX2 9 "FourTongues$Frames" "tongues" "[I"]
def wsX11_call_r8 : List Cond := [Cond.fieldLink RX2 13 "FourTongues$Frames" "functions" "[I", Cond.fieldLink RX2 16 "FourTongues$Frames" "bases" "[I", Cond.fieldLink RX2 19 "FourTongues$Frames" "floors" "[I", Cond.fieldLink RX2 22 "FourTongues$Frames" "tops" "[I", Cond.fieldLink RX2 25 "FourTongues$Frames" "calledAt" "[I", Cond.fieldLink RX2 28 "FourTongues$Frames" "guardBases" "[I", Cond.methodLink RX4 481 yX8_start, Cond.instanceMethod yX8_start, Cond.selects RX8 yX8_start yX8_start, Cond.code yX8_start cX8_start 2 (some .int), Cond.fieldLink RX8 30 "FourTongues$Program" "starts" "[I", Cond.fieldLink RX8 13 "FourTongues$Program" "length" "I", Cond.methodLink RX4 339 yX2_count, Cond.instanceMethod yX2_count, Cond.selects RX2 yX2_count yX2_count, Cond.code yX2_count cX2_count 1 (some .int), Cond.methodLink RX4 131 yX4_carryOn, Cond.instanceMethod yX4_carryOn, Cond.selects RX4 yX4_carryOn yX4_carryOn, Cond.code yX4_carryOn cX4_carryOn 1 none, Cond.fieldLink RX4 61 "FourTongues$Machine" "carried" "I", Cond.methodLink RX4 297 yX4_isHeld, Cond.instanceMethod yX4_isHeld, Cond.selects RX4 yX4_isHeld yX4_isHeld]
def wsX11_call_r9 : List Cond := [Cond.code yX4_isHeld cX4_isHeld 5 (some .boolean), Cond.methodLink RX4 305 yX2_guardBase, Cond.instanceMethod yX2_guardBase, Cond.selects RX2 yX2_guardBase yX2_guardBase, Cond.code yX2_guardBase cX2_guardBase 1 (some .int), Cond.methodLink RX2 35 yX2_of, Cond.instanceMethod yX2_of, Cond.selects RX2 yX2_of yX2_of, Cond.code yX2_of cX2_of 2 (some .int), Cond.methodLink RX4 308 yX3_kind, Cond.instanceMethod yX3_kind, Cond.selects RX3 yX3_kind yX3_kind, Cond.code yX3_kind cX3_kind 1 (some .int), Cond.fieldLink RX3 9 "FourTongues$Guards" "kinds" "[I", Cond.methodLink RX3 41 yX3_of, Cond.instanceMethod yX3_of, Cond.selects RX3 yX3_of yX3_of, Cond.code yX3_of cX3_of 2 (some .int), Cond.methodLink RX4 249 yX3_finish, Cond.instanceMethod yX3_finish, Cond.selects RX3 yX3_finish yX3_finish, Cond.code yX3_finish cX3_finish 3 none, Cond.fieldLink RX3 19 "FourTongues$Guards" "underWay" "[I", Cond.fieldLink RX3 22 "FourTongues$Guards" "failures" "[I"]
def wsX11_call_r10 : List Cond := [Cond.methodLink RX4 310 yX2_floor, Cond.instanceMethod yX2_floor, Cond.selects RX2 yX2_floor yX2_floor, Cond.code yX2_floor cX2_floor 1 (some .int), Cond.methodLink RX4 313 yX3_target, Cond.instanceMethod yX3_target, Cond.selects RX3 yX3_target yX3_target, Cond.code yX3_target cX3_target 1 (some .int), Cond.fieldLink RX3 13 "FourTongues$Guards" "targets" "[I", Cond.methodLink RX4 316 yX3_failureUnderWay, Cond.instanceMethod yX3_failureUnderWay, Cond.selects RX3 yX3_failureUnderWay yX3_failureUnderWay, Cond.code yX3_failureUnderWay cX3_failureUnderWay 1 (some .int), Cond.methodLink RX3 59 yX3_underWay, Cond.instanceMethod yX3_underWay, Cond.selects RX3 yX3_underWay yX3_underWay, Cond.code yX3_underWay cX3_underWay 1 (some .int), Cond.methodLink RX3 62 yX9_kindOfTop, Cond.instanceMethod yX9_kindOfTop, Cond.selects RX9 yX9_kindOfTop yX9_kindOfTop, Cond.code yX9_kindOfTop cX9_kindOfTop 1 (some .int), Cond.methodLink RX9 31 yX9_kind, Cond.instanceMethod yX9_kind, Cond.selects RX9 yX9_kind yX9_kind]
def wsX11_call_r11 : List Cond := [Cond.code yX9_kind cX9_kind 2 (some .int), Cond.methodLink RX3 65 yX9_whole, Cond.instanceMethod yX9_whole, Cond.selects RX9 yX9_whole yX9_whole, Cond.code yX9_whole cX9_whole 2 (some .long), Cond.methodLink RX4 319 yX1_putUnder, Cond.instanceMethod yX1_putUnder, Cond.selects RX1 yX1_putUnder yX1_putUnder, Cond.code yX1_putUnder cX1_putUnder 4 none, Cond.fieldLink RX1 28 "FourTongues$Failures" "lying" "[I", Cond.fieldLink RX1 11 "FourTongues$Failures" "facts" "[I", Cond.methodLink RX1 37 yJ7_copyOf_59c91, Cond.methodLink RX4 113 yX1_fact, Cond.instanceMethod yX1_fact, Cond.selects RX1 yX1_fact yX1_fact, Cond.code yX1_fact cX1_fact 3 (some .int), Cond.methodLink RX1 43 yX9_kind, Cond.methodLink RX4 322 yX4_targetFor, Cond.instanceMethod yX4_targetFor, Cond.selects RX4 yX4_targetFor yX4_targetFor, Cond.code yX4_targetFor cX4_targetFor 3 (some .int), Cond.methodLink RX4 325 yX4_catchFor, Cond.instanceMethod yX4_catchFor, Cond.selects RX4 yX4_catchFor yX4_catchFor]
def wsX11_call_r12 : List Cond := [Cond.code yX4_catchFor cX4_catchFor 5 (some .int), Cond.fieldLink RX4 75 "FourTongues$Machine" "names" "LFourTongues$Names;", Cond.methodLink RX4 331 yX8_length, Cond.instanceMethod yX8_length, Cond.selects RX8 yX8_length yX8_length, Cond.code yX8_length cX8_length 1 (some .int), Cond.methodLink RX4 165 yX8_first, Cond.instanceMethod yX8_first, Cond.selects RX8 yX8_first yX8_first, Cond.code yX8_first cX8_first 2 (some .int), Cond.methodLink RX8 51 yX8_part, Cond.instanceMethod yX8_part, Cond.selects RX8 yX8_part yX8_part, Cond.code yX8_part cX8_part 3 (some .int), Cond.fieldLink RX8 7 "FourTongues$Program" "code" "[I", Cond.methodLink RX4 334 yX5_isOrUnder, Cond.instanceMethod yX5_isOrUnder, Cond.selects RX5 yX5_isOrUnder yX5_isOrUnder, Cond.initialized RX5, Cond.code yX5_isOrUnder cX5_isOrUnder 5 (some .boolean), Cond.methodLink RX5 49 yX5_above, Cond.instanceMethod yX5_above, Cond.selects RX5 yX5_above yX5_above, Cond.code yX5_above cX5_above 2 (some .int)]
def wsX11_call_r13 : List Cond := [Cond.fieldLink RX5 22 "FourTongues$Names" "count" "I", Cond.fieldLink RX5 15 "FourTongues$Names" "above" "[I", Cond.methodLink RX4 168 yX8_second, Cond.instanceMethod yX8_second, Cond.selects RX8 yX8_second yX8_second, Cond.code yX8_second cX8_second 2 (some .int), Cond.methodLink RX4 328 yX3_name, Cond.instanceMethod yX3_name, Cond.selects RX3 yX3_name yX3_name, Cond.code yX3_name cX3_name 1 (some .int), Cond.fieldLink RX3 16 "FourTongues$Guards" "names" "[I", Cond.methodLink RX4 246 yX3_pop, Cond.instanceMethod yX3_pop, Cond.selects RX3 yX3_pop yX3_pop, Cond.code yX3_pop cX3_pop 1 none, Cond.methodLink RX4 284 yX1_values, Cond.instanceMethod yX1_values, Cond.selects RX1 yX1_values yX1_values, Cond.code yX1_values cX1_values 1 (some (.object "FourTongues$Row")), Cond.methodLink RX4 179 yX9_pushCopy, Cond.instanceMethod yX9_pushCopy, Cond.selects RX9 yX9_pushCopy yX9_pushCopy, Cond.code yX9_pushCopy cX9_pushCopy 3 none, Cond.methodLink RX9 55 yX9_whole]
def wsX11_call_r14 : List Cond := [Cond.methodLink RX9 59 yX9_real, Cond.instanceMethod yX9_real, Cond.selects RX9 yX9_real yX9_real, Cond.code yX9_real cX9_real 2 (some .double), Cond.methodLink RX9 63 yX9_push, Cond.methodLink RX4 301 yX4_outOfFunction, Cond.instanceMethod yX4_outOfFunction, Cond.selects RX4 yX4_outOfFunction yX4_outOfFunction, Cond.code yX4_outOfFunction cX4_outOfFunction 3 none, Cond.methodLink RX4 158 yX4_end, Cond.instanceMethod yX4_end, Cond.selects RX4 yX4_end yX4_end, Cond.code yX4_end cX4_end 2 none, Cond.methodLink RX4 268 yX2_tongue, Cond.instanceMethod yX2_tongue, Cond.selects RX2 yX2_tongue yX2_tongue, Cond.code yX2_tongue cX2_tongue 1 (some .int), Cond.methodLink RX4 340 yX2_top, Cond.instanceMethod yX2_top, Cond.selects RX2 yX2_top yX2_top, Cond.code yX2_top cX2_top 1 (some .int), Cond.methodLink RX4 341 yX4_backToCaller, Cond.instanceMethod yX4_backToCaller, Cond.selects RX4 yX4_backToCaller yX4_backToCaller]
def wsX11_call_r15 : List Cond := [Cond.code yX4_backToCaller cX4_backToCaller 1 none, Cond.methodLink RX4 347 yX2_calledAt, Cond.instanceMethod yX2_calledAt, Cond.selects RX2 yX2_calledAt yX2_calledAt, Cond.code yX2_calledAt cX2_calledAt 1 (some .int), Cond.methodLink RX4 350 yX2_pop, Cond.instanceMethod yX2_pop, Cond.selects RX2 yX2_pop yX2_pop, Cond.code yX2_pop cX2_pop 1 none, Cond.methodLink RX4 344 yX4_turnFailure, Cond.instanceMethod yX4_turnFailure, Cond.selects RX4 yX4_turnFailure yX4_turnFailure, Cond.code yX4_turnFailure cX4_turnFailure 8 none, Cond.fieldLink RX4 79 "FourTongues$Machine" "borders" "LFourTongues$Borders;", Cond.methodLink RX4 171 yX4_step, Cond.instanceMethod yX4_step, Cond.selects RX4 yX4_step yX4_step, Cond.code yX4_step cX4_step 1 (some .boolean), Cond.constant RX4 157 (80000), Cond.methodLink RX4 351 yX0_entryFor, Cond.instanceMethod yX0_entryFor, Cond.selects RX0 yX0_entryFor yX0_entryFor, Cond.initialized RX0, Cond.code yX0_entryFor cX0_entryFor 8 (some .int)]
def wsX11_call_r16 : List Cond := [Cond.methodLink RX0 41 yX0_find, Cond.instanceMethod yX0_find, Cond.selects RX0 yX0_find yX0_find, Cond.code yX0_find cX0_find 6 (some .int), Cond.fieldLink RX0 27 "FourTongues$Borders" "entries" "I", Cond.fieldLink RX0 18 "FourTongues$Borders" "entryBorders" "[I", Cond.fieldLink RX0 21 "FourTongues$Borders" "entryWhats" "[I", Cond.methodLink RX0 37 yX0_border, Cond.static yX0_border, Cond.code yX0_border cX0_border 2 (some .int), Cond.methodLink RX0 47 yX5_above, Cond.methodLink RX4 357 yX0_becomes, Cond.instanceMethod yX0_becomes, Cond.selects RX0 yX0_becomes yX0_becomes, Cond.code yX0_becomes cX0_becomes 4 (some .int), Cond.fieldLink RX0 24 "FourTongues$Borders" "entryAs" "[I", Cond.fieldLink RX0 15 "FourTongues$Borders" "defaults" "[I", Cond.methodLink RX4 271 yX8_place, Cond.instanceMethod yX8_place, Cond.selects RX8 yX8_place yX8_place, Cond.code yX8_place cX8_place 2 (some .int), Cond.methodLink RX4 274 yX2_function, Cond.instanceMethod yX2_function, Cond.selects RX2 yX2_function yX2_function]
def wsX11_call_r17 : List Cond := [Cond.code yX2_function cX2_function 1 (some .int), Cond.methodLink RX4 277 yX1_add, Cond.instanceMethod yX1_add, Cond.selects RX1 yX1_add yX1_add, Cond.code yX1_add cX1_add 8 (some .int), Cond.methodLink RX4 258 yX9_copy, Cond.instanceMethod yX9_copy, Cond.selects RX9 yX9_copy yX9_copy, Cond.code yX9_copy cX9_copy 4 none, Cond.methodLink RX4 361 yX0_turn, Cond.instanceMethod yX0_turn, Cond.selects RX0 yX0_turn yX0_turn, Cond.code yX0_turn cX0_turn 10 (some .boolean), Cond.fieldLink RX0 9 "FourTongues$Borders" "rules" "[I", Cond.methodLink RX0 51 yX9_kind, Cond.methodLink RX0 56 yX9_real, Cond.methodLink RX0 60 yX9_whole, Cond.methodLink RX0 64 yX6_isWhole, Cond.static yX6_isWhole, Cond.code yX6_isWhole cX6_isWhole 2 (some .boolean), Cond.methodLink RX0 70 yX6_has, Cond.methodLink RX0 74 yX0_setTurned, Cond.instanceMethod yX0_setTurned, Cond.selects RX0 yX0_setTurned yX0_setTurned]
def wsX11_call_r18 : List Cond := [Cond.code yX0_setTurned cX0_setTurned 9 none, Cond.methodLink RX0 92 Lib.MathLoose.min_long.x, Cond.static Lib.MathLoose.min_long.x, Cond.code Lib.MathLoose.min_long.x Lib.MathLoose.min_long.code 4 (some .long), Cond.methodLink RX0 98 Lib.MathLoose.max_long.x, Cond.static Lib.MathLoose.max_long.x, Cond.code Lib.MathLoose.max_long.x Lib.MathLoose.max_long.code 4 (some .long), Cond.methodLink RX0 78 yX9_set, Cond.methodLink RX0 82 yX0_wrapped, Cond.static yX0_wrapped, Cond.code yX0_wrapped cX0_wrapped 3 (some .long), Cond.constantLong RX0 101 (100000000000000000), Cond.methodLink RX0 86 yX6_least, Cond.methodLink RX0 89 yX6_most, Cond.methodLink RX4 365 yX9_set, Cond.methodLink RX4 281 yX4_give, Cond.instanceMethod yX4_give, Cond.selects RX4 yX4_give yX4_give, Cond.code yX4_give cX4_give 3 none, Cond.methodLink RX4 134 yX4_goOnBehindCall, Cond.instanceMethod yX4_goOnBehindCall, Cond.selects RX4 yX4_goOnBehindCall yX4_goOnBehindCall, Cond.code yX4_goOnBehindCall cX4_goOnBehindCall 1 none, Cond.methodLink RX4 137 yX4_leaveFunction]
def wsX11_call_r19 : List Cond := [Cond.instanceMethod yX4_leaveFunction, Cond.selects RX4 yX4_leaveFunction yX4_leaveFunction, Cond.code yX4_leaveFunction cX4_leaveFunction 2 none, Cond.methodLink RX4 255 yX4_top, Cond.instanceMethod yX4_top, Cond.selects RX4 yX4_top yX4_top, Cond.code yX4_top cX4_top 1 (some .int), Cond.methodLink RX4 369 yX3_finishAnswer, Cond.instanceMethod yX3_finishAnswer, Cond.selects RX3 yX3_finishAnswer yX3_finishAnswer, Cond.code yX3_finishAnswer cX3_finishAnswer 3 none, Cond.methodLink RX3 51 yX3_finish, Cond.methodLink RX3 55 yX9_copy, Cond.methodLink RX4 265 yX9_kindOfTop, Cond.methodLink RX4 101 yX9_whole, Cond.methodLink RX4 372 yX4_giveAnswer, Cond.instanceMethod yX4_giveAnswer, Cond.selects RX4 yX4_giveAnswer yX4_giveAnswer, Cond.code yX4_giveAnswer cX4_giveAnswer 4 none, Cond.methodLink RX4 262 yX9_drop, Cond.instanceMethod yX9_drop, Cond.selects RX9 yX9_drop yX9_drop, Cond.code yX9_drop cX9_drop 2 none, Cond.methodLink RX4 287 yX4_fails]
def wsX11_call_r20 : List Cond := [Cond.instanceMethod yX4_fails, Cond.selects RX4 yX4_fails yX4_fails, Cond.code yX4_fails cX4_fails 3 none, Cond.methodLink RX4 375 yX4_endWithAnswer, Cond.instanceMethod yX4_endWithAnswer, Cond.selects RX4 yX4_endWithAnswer yX4_endWithAnswer, Cond.code yX4_endWithAnswer cX4_endWithAnswer 4 none, Cond.methodLink RX4 378 yX4_lengthAt, Cond.instanceMethod yX4_lengthAt, Cond.selects RX4 yX4_lengthAt yX4_lengthAt, Cond.code yX4_lengthAt cX4_lengthAt 3 (some .int), Cond.constantLong RX4 444 (4), Cond.methodLink RX4 91 yX9_real, Cond.methodLink RX4 95 yX6_bits, Cond.static yX6_bits, Cond.code yX6_bits cX6_bits 9 (some .long), Cond.constantDouble RX6 55 (4611686018427387904), Cond.constantDouble RX6 57 (4602678819172646912), Cond.constantDouble RX6 59 (4841369599423283200), Cond.constantLong RX6 61 (4503599627370496), Cond.methodLink RX4 140 yX8_op, Cond.instanceMethod yX8_op, Cond.selects RX8 yX8_op yX8_op, Cond.code yX8_op cX8_op 2 (some .int)]
def wsX11_call_r21 : List Cond := [Cond.methodLink RX4 145 yX4_workOut, Cond.instanceMethod yX4_workOut, Cond.selects RX4 yX4_workOut yX4_workOut, Cond.code yX4_workOut cX4_workOut 3 none, Cond.methodLink RX4 175 yX8_constants, Cond.instanceMethod yX8_constants, Cond.selects RX8 yX8_constants yX8_constants, Cond.code yX8_constants cX8_constants 1 (some (.object "FourTongues$Row")), Cond.fieldLink RX8 22 "FourTongues$Program" "constants" "LFourTongues$Row;", Cond.methodLink RX4 183 yX2_base, Cond.instanceMethod yX2_base, Cond.selects RX2 yX2_base yX2_base, Cond.code yX2_base cX2_base 1 (some .int), Cond.methodLink RX4 186 yX4_store, Cond.instanceMethod yX4_store, Cond.selects RX4 yX4_store yX4_store, Cond.code yX4_store cX4_store 2 none, Cond.methodLink RX4 189 yX4_dropValue, Cond.instanceMethod yX4_dropValue, Cond.selects RX4 yX4_dropValue yX4_dropValue, Cond.code yX4_dropValue cX4_dropValue 1 none, Cond.methodLink RX4 192 yX4_sign, Cond.instanceMethod yX4_sign, Cond.selects RX4 yX4_sign yX4_sign]
def wsX11_call_r22 : List Cond := [Cond.code yX4_sign cX4_sign 5 none, Cond.methodLink RX4 398 yX4_areSame, Cond.instanceMethod yX4_areSame, Cond.selects RX4 yX4_areSame yX4_areSame, Cond.code yX4_areSame cX4_areSame 3 (some .boolean), Cond.methodLink RX4 87 yX9_kind, Cond.methodLink RX4 401 yX4_replaceParts, Cond.instanceMethod yX4_replaceParts, Cond.selects RX4 yX4_replaceParts yX4_replaceParts, Cond.code yX4_replaceParts cX4_replaceParts 3 none, Cond.methodLink RX4 404 yX4_isTrue, Cond.instanceMethod yX4_isTrue, Cond.selects RX4 yX4_isTrue yX4_isTrue, Cond.code yX4_isTrue cX4_isTrue 3 (some .boolean), Cond.methodLink RX4 413 yX6_compareReals, Cond.static yX6_compareReals, Cond.code yX6_compareReals cX6_compareReals 5 (some .boolean), Cond.methodLink RX4 417 yX6_compareWholes, Cond.static yX6_compareWholes, Cond.code yX6_compareWholes cX6_compareWholes 5 (some .boolean), Cond.methodLink RX4 407 yX4_reckonReals, Cond.instanceMethod yX4_reckonReals, Cond.selects RX4 yX4_reckonReals yX4_reckonReals, Cond.code yX4_reckonReals cX4_reckonReals 7 (some .int)]
def wsX11_call_r23 : List Cond := [Cond.methodLink RX4 429 yX6_ofReals, Cond.static yX6_ofReals, Cond.code yX6_ofReals cX6_ofReals 5 (some .double), Cond.methodLink RX6 51 yX6_rest, Cond.static yX6_rest, Cond.code yX6_rest cX6_rest 10 (some .double), Cond.methodLink RX6 38 yX6_greatest, Cond.static yX6_greatest, Cond.code yX6_greatest cX6_greatest 0 (some .double), Cond.constantDouble RX6 25 (9218868437227405311), Cond.methodLink RX4 433 yX6_isFinite, Cond.static yX6_isFinite, Cond.code yX6_isFinite cX6_isFinite 2 (some .boolean), Cond.methodLink RX4 410 yX4_reckonWholes, Cond.instanceMethod yX4_reckonWholes, Cond.selects RX4 yX4_reckonWholes yX4_reckonWholes, Cond.code yX4_reckonWholes cX4_reckonWholes 7 (some .int), Cond.methodLink RX4 421 yX6_traps, Cond.static yX6_traps, Cond.code yX6_traps cX6_traps 8 (some .boolean), Cond.methodLink RX6 41 Lib.MathLoose.abs_long.x, Cond.static Lib.MathLoose.abs_long.x, Cond.code Lib.MathLoose.abs_long.x Lib.MathLoose.abs_long.code 2 (some .long), Cond.methodLink RX6 47 yX6_ofWholes]
def wsX11_call_r24 : List Cond := [Cond.static yX6_ofWholes, Cond.code yX6_ofWholes cX6_ofWholes 5 (some .long), Cond.methodLink RX4 425 yX6_ofWholes, Cond.methodLink RX4 195 yX4_negate, Cond.instanceMethod yX4_negate, Cond.selects RX4 yX4_negate yX4_negate, Cond.code yX4_negate cX4_negate 3 none, Cond.methodLink RX4 198 yX4_newArray, Cond.instanceMethod yX4_newArray, Cond.selects RX4 yX4_newArray yX4_newArray, Cond.code yX4_newArray cX4_newArray 3 none, Cond.methodLink RX4 441 yX4_smallWhole, Cond.instanceMethod yX4_smallWhole, Cond.selects RX4 yX4_smallWhole yX4_smallWhole, Cond.code yX4_smallWhole cX4_smallWhole 4 (some .int), Cond.constantDouble RX4 437 (4645744490609377280), Cond.constantLong RX4 439 (400), Cond.methodLink RX4 201 yX4_lengthOfArray, Cond.instanceMethod yX4_lengthOfArray, Cond.selects RX4 yX4_lengthOfArray yX4_lengthOfArray, Cond.code yX4_lengthOfArray cX4_lengthOfArray 2 none, Cond.methodLink RX4 204 yX4_cellOfArray, Cond.instanceMethod yX4_cellOfArray, Cond.selects RX4 yX4_cellOfArray yX4_cellOfArray]
def wsX11_call_r25 : List Cond := [Cond.code yX4_cellOfArray cX4_cellOfArray 4 none, Cond.methodLink RX4 446 yX4_whatFailsAsArray, Cond.instanceMethod yX4_whatFailsAsArray, Cond.selects RX4 yX4_whatFailsAsArray yX4_whatFailsAsArray, Cond.code yX4_whatFailsAsArray cX4_whatFailsAsArray 2 (some .int), Cond.methodLink RX4 449 yX4_whatFailsAsIndex, Cond.instanceMethod yX4_whatFailsAsIndex, Cond.selects RX4 yX4_whatFailsAsIndex yX4_whatFailsAsIndex, Cond.code yX4_whatFailsAsIndex cX4_whatFailsAsIndex 4 (some .int), Cond.methodLink RX4 452 yX4_tongueOfArray, Cond.instanceMethod yX4_tongueOfArray, Cond.selects RX4 yX4_tongueOfArray yX4_tongueOfArray, Cond.code yX4_tongueOfArray cX4_tongueOfArray 2 (some .int), Cond.methodLink RX4 455 yX4_cellAt, Cond.instanceMethod yX4_cellAt, Cond.selects RX4 yX4_cellAt yX4_cellAt, Cond.code yX4_cellAt cX4_cellAt 3 (some .int), Cond.methodLink RX4 207 yX4_putIntoArray, Cond.instanceMethod yX4_putIntoArray, Cond.selects RX4 yX4_putIntoArray yX4_putIntoArray, Cond.code yX4_putIntoArray cX4_putIntoArray 4 none, Cond.methodLink RX4 393 yX4_leaveIfGoing, Cond.instanceMethod yX4_leaveIfGoing, Cond.selects RX4 yX4_leaveIfGoing yX4_leaveIfGoing]
def wsX11_call_r26 : List Cond := [Cond.code yX4_leaveIfGoing cX4_leaveIfGoing 1 none, Cond.methodLink RX4 210 yX4_callNamed, Cond.instanceMethod yX4_callNamed, Cond.selects RX4 yX4_callNamed yX4_callNamed, Cond.code yX4_callNamed cX4_callNamed 7 none, Cond.methodLink RX4 458 yX8_find, Cond.instanceMethod yX8_find, Cond.selects RX8 yX8_find yX8_find, Cond.code yX8_find cX8_find 4 (some .int), Cond.fieldLink RX8 26 "FourTongues$Program" "names" "[J", Cond.methodLink RX4 463 yX4_whatFailsGoing, Cond.instanceMethod yX4_whatFailsGoing, Cond.selects RX4 yX4_whatFailsGoing yX4_whatFailsGoing, Cond.code yX4_whatFailsGoing cX4_whatFailsGoing 5 (some .int), Cond.methodLink RX4 466 yX2_isFull, Cond.instanceMethod yX2_isFull, Cond.selects RX2 yX2_isFull yX2_isFull, Cond.code yX2_isFull cX2_isFull 1 (some .boolean), Cond.methodLink RX4 214 yX4_callHeld, Cond.instanceMethod yX4_callHeld, Cond.selects RX4 yX4_callHeld yX4_callHeld, Cond.code yX4_callHeld cX4_callHeld 6 none, Cond.constantLong RX4 461 (64), Cond.methodLink RX4 217 yX4_functionItself]
def wsX11_call_r27 : List Cond := [Cond.instanceMethod yX4_functionItself, Cond.selects RX4 yX4_functionItself yX4_functionItself, Cond.code yX4_functionItself cX4_functionItself 4 none, Cond.methodLink RX4 220 yX4_tagOfTop, Cond.instanceMethod yX4_tagOfTop, Cond.selects RX4 yX4_tagOfTop yX4_tagOfTop, Cond.code yX4_tagOfTop cX4_tagOfTop 2 none, Cond.methodLink RX4 223 yX4_failsWithTop, Cond.instanceMethod yX4_failsWithTop, Cond.selects RX4 yX4_failsWithTop yX4_failsWithTop, Cond.code yX4_failsWithTop cX4_failsWithTop 3 none, Cond.methodLink RX4 148 yX4_goElsewhere, Cond.instanceMethod yX4_goElsewhere, Cond.selects RX4 yX4_goElsewhere yX4_goElsewhere, Cond.code yX4_goElsewhere cX4_goElsewhere 3 none, Cond.methodLink RX4 226 yX4_question, Cond.instanceMethod yX4_question, Cond.selects RX4 yX4_question yX4_question, Cond.code yX4_question cX4_question 3 none, Cond.methodLink RX4 229 yX4_keepMark, Cond.instanceMethod yX4_keepMark, Cond.selects RX4 yX4_keepMark yX4_keepMark, Cond.code yX4_keepMark cX4_keepMark 2 none, Cond.methodLink RX4 232 yX4_failWithCode]
def wsX11_call_r28 : List Cond := [Cond.instanceMethod yX4_failWithCode, Cond.selects RX4 yX4_failWithCode yX4_failWithCode, Cond.code yX4_failWithCode cX4_failWithCode 2 none, Cond.methodLink RX4 235 yX4_exitTo, Cond.instanceMethod yX4_exitTo, Cond.selects RX4 yX4_exitTo yX4_exitTo, Cond.code yX4_exitTo cX4_exitTo 2 none, Cond.methodLink RX4 290 yX2_guardBaseOfPart, Cond.instanceMethod yX2_guardBaseOfPart, Cond.selects RX2 yX2_guardBaseOfPart yX2_guardBaseOfPart, Cond.code yX2_guardBaseOfPart cX2_guardBaseOfPart 2 (some .int), Cond.methodLink RX4 293 yX3_hasOpen, Cond.instanceMethod yX3_hasOpen, Cond.selects RX3 yX3_hasOpen yX3_hasOpen, Cond.code yX3_hasOpen cX3_hasOpen 4 (some .boolean), Cond.methodLink RX3 45 Lib.Math.max.name, Cond.methodLink RX4 238 yX4_jumpIfFails, Cond.instanceMethod yX4_jumpIfFails, Cond.selects RX4 yX4_jumpIfFails yX4_jumpIfFails, Cond.code yX4_jumpIfFails cX4_jumpIfFails 3 none, Cond.methodLink RX4 241 yX4_jumpIfWell, Cond.instanceMethod yX4_jumpIfWell, Cond.selects RX4 yX4_jumpIfWell yX4_jumpIfWell, Cond.code yX4_jumpIfWell cX4_jumpIfWell 2 none]
def wsX11_call_r29 : List Cond := [Cond.methodLink RX4 244 yX3_push, Cond.instanceMethod yX3_push, Cond.selects RX3 yX3_push yX3_push, Cond.code yX3_push cX3_push 3 none, Cond.methodLink RX4 252 yX4_finished, Cond.instanceMethod yX4_finished, Cond.selects RX4 yX4_finished yX4_finished, Cond.code yX4_finished cX4_finished 3 none, Cond.methodLink RX4 382 yX3_underWay, Cond.methodLink RX4 385 yX3_answers, Cond.instanceMethod yX3_answers, Cond.selects RX3 yX3_answers yX3_answers, Cond.code yX3_answers cX3_answers 1 (some (.object "FourTongues$Row"))]
def wsX11_call : List Cond := .code yX11_call cX11_call 5 (some .int) :: ((wsX11_call_r1 ++ (wsX11_call_r2 ++ (wsX11_call_r3 ++ (wsX11_call_r4 ++ (wsX11_call_r5 ++ (wsX11_call_r6 ++ (wsX11_call_r7 ++ (wsX11_call_r8 ++ (wsX11_call_r9 ++ (wsX11_call_r10 ++ (wsX11_call_r11 ++ (wsX11_call_r12 ++ (wsX11_call_r13 ++ (wsX11_call_r14 ++ (wsX11_call_r15 ++ (wsX11_call_r16 ++ (wsX11_call_r17 ++ (wsX11_call_r18 ++ (wsX11_call_r19 ++ (wsX11_call_r20 ++ (wsX11_call_r21 ++ (wsX11_call_r22 ++ (wsX11_call_r23 ++ (wsX11_call_r24 ++ (wsX11_call_r25 ++ (wsX11_call_r26 ++ (wsX11_call_r27 ++ (wsX11_call_r28 ++ wsX11_call_r29)))))))))))))))))))))))))))) ++ wsX110 ++ wsX80 ++ wsX40 ++ wsX90 ++ wsX10 ++ wsX20 ++ wsX30 ++ wsX50 ++ wsX00)
theorem dX0_border_0 : decode cX0_border 0 = .ok (.iload_n 0, 1) := by decide +kernel
theorem dX0_border_1 : decode cX0_border 1 = .ok (.iconst 3, 1) := by decide +kernel
theorem dX0_border_2 : decode cX0_border 2 = .ok (.iand, 1) := by decide +kernel
theorem dX0_border_3 : decode cX0_border 3 = .ok (.iconst 4, 1) := by decide +kernel
theorem dX0_border_4 : decode cX0_border 4 = .ok (.imul, 1) := by decide +kernel
theorem dX0_border_5 : decode cX0_border 5 = .ok (.iload_n 1, 1) := by decide +kernel
theorem dX0_border_6 : decode cX0_border 6 = .ok (.iconst 3, 1) := by decide +kernel
theorem dX0_border_7 : decode cX0_border 7 = .ok (.iand, 1) := by decide +kernel
theorem dX0_border_8 : decode cX0_border 8 = .ok (.iadd, 1) := by decide +kernel
theorem dX0_border_9 : decode cX0_border 9 = .ok (.ireturn, 1) := by decide +kernel
set_option maxRecDepth 20000 in
theorem ggX0_setRule_X0_border : GoodIn wsX0_setRule wsX0_border := goodIn_r _ [5] (by decide +kernel) (by decide +kernel)
set_option maxRecDepth 20000 in
theorem gX0_setRule_X0_border : GoodIn wsX0_setRule (va_wsS RX0 37 yX0_border wsX0_border) := goodIn_app (goodIn_of _ (by decide +kernel)) ggX0_setRule_X0_border
theorem dX0_setRule_0 : decode cX0_setRule 0 = .ok (.aload_n 0, 1) := by decide +kernel
theorem dX0_setRule_1 : decode cX0_setRule 1 = .ok (.getfield 9, 3) := by decide +kernel
theorem dX0_setRule_4 : decode cX0_setRule 4 = .ok (.iload_n 1, 1) := by decide +kernel
theorem dX0_setRule_5 : decode cX0_setRule 5 = .ok (.iload_n 2, 1) := by decide +kernel
theorem dX0_setRule_6 : decode cX0_setRule 6 = .ok (.invokestatic 37, 3) := by decide +kernel
theorem dX0_setRule_9 : decode cX0_setRule 9 = .ok (.iload_n 3, 1) := by decide +kernel
theorem dX0_setRule_10 : decode cX0_setRule 10 = .ok (.iastore, 1) := by decide +kernel
theorem dX0_setRule_11 : decode cX0_setRule 11 = .ok (.return_, 1) := by decide +kernel
set_option maxRecDepth 20000 in
theorem ggX0_setDefault_X0_border : GoodIn wsX0_setDefault wsX0_border := goodIn_r _ [5] (by decide +kernel) (by decide +kernel)
set_option maxRecDepth 20000 in
theorem gX0_setDefault_X0_border : GoodIn wsX0_setDefault (va_wsS RX0 37 yX0_border wsX0_border) := goodIn_app (goodIn_of _ (by decide +kernel)) ggX0_setDefault_X0_border
theorem dX0_setDefault_0 : decode cX0_setDefault 0 = .ok (.aload_n 0, 1) := by decide +kernel
theorem dX0_setDefault_1 : decode cX0_setDefault 1 = .ok (.getfield 15, 3) := by decide +kernel
theorem dX0_setDefault_4 : decode cX0_setDefault 4 = .ok (.iload_n 1, 1) := by decide +kernel
theorem dX0_setDefault_5 : decode cX0_setDefault 5 = .ok (.iload_n 2, 1) := by decide +kernel
theorem dX0_setDefault_6 : decode cX0_setDefault 6 = .ok (.invokestatic 37, 3) := by decide +kernel
theorem dX0_setDefault_9 : decode cX0_setDefault 9 = .ok (.iload_n 3, 1) := by decide +kernel
theorem dX0_setDefault_10 : decode cX0_setDefault 10 = .ok (.iastore, 1) := by decide +kernel
theorem dX0_setDefault_11 : decode cX0_setDefault 11 = .ok (.return_, 1) := by decide +kernel
set_option maxRecDepth 20000 in
theorem ggX0_setEntry_X0_find : GoodIn wsX0_setEntry wsX0_find := goodIn_r _ [9, 1, 2, 3, 10, 11, 8, 12, 13, 14, 15, 16, 17, 18] (by decide +kernel) (by decide +kernel)
set_option maxRecDepth 20000 in
theorem gX0_setEntry_X0_find : GoodIn wsX0_setEntry (wsV RX0 41 RX0 yX0_find wsX0_find) := goodIn_app (goodIn_of _ (by decide +kernel)) ggX0_setEntry_X0_find
set_option maxRecDepth 20000 in
theorem ggX0_setEntry_X0_border : GoodIn wsX0_setEntry wsX0_border := goodIn_r _ [12] (by decide +kernel) (by decide +kernel)
set_option maxRecDepth 20000 in
theorem gX0_setEntry_X0_border : GoodIn wsX0_setEntry (va_wsS RX0 37 yX0_border wsX0_border) := goodIn_app (goodIn_of _ (by decide +kernel)) ggX0_setEntry_X0_border
theorem dX0_setEntry_0 : decode cX0_setEntry 0 = .ok (.aload_n 0, 1) := by decide +kernel
theorem dX0_setEntry_1 : decode cX0_setEntry 1 = .ok (.iload_n 1, 1) := by decide +kernel
theorem dX0_setEntry_2 : decode cX0_setEntry 2 = .ok (.iload_n 2, 1) := by decide +kernel
theorem dX0_setEntry_3 : decode cX0_setEntry 3 = .ok (.iload_n 3, 1) := by decide +kernel
theorem dX0_setEntry_4 : decode cX0_setEntry 4 = .ok (.invokevirtual 41, 3) := by decide +kernel
theorem dX0_setEntry_7 : decode cX0_setEntry 7 = .ok (.istore 5, 2) := by decide +kernel
theorem dX0_setEntry_9 : decode cX0_setEntry 9 = .ok (.iload 5, 2) := by decide +kernel
theorem dX0_setEntry_11 : decode cX0_setEntry 11 = .ok (.ifCond .ge 30, 3) := by decide +kernel
theorem dX0_setEntry_14 : decode cX0_setEntry 14 = .ok (.aload_n 0, 1) := by decide +kernel
theorem dX0_setEntry_15 : decode cX0_setEntry 15 = .ok (.getfield 27, 3) := by decide +kernel
theorem dX0_setEntry_18 : decode cX0_setEntry 18 = .ok (.bipush 100, 2) := by decide +kernel
theorem dX0_setEntry_20 : decode cX0_setEntry 20 = .ok (.if_icmp .lt 5, 3) := by decide +kernel
theorem dX0_setEntry_25 : decode cX0_setEntry 25 = .ok (.aload_n 0, 1) := by decide +kernel
theorem dX0_setEntry_26 : decode cX0_setEntry 26 = .ok (.getfield 27, 3) := by decide +kernel
theorem dX0_setEntry_29 : decode cX0_setEntry 29 = .ok (.istore 5, 2) := by decide +kernel
theorem dX0_setEntry_31 : decode cX0_setEntry 31 = .ok (.aload_n 0, 1) := by decide +kernel
theorem dX0_setEntry_32 : decode cX0_setEntry 32 = .ok (.dup, 1) := by decide +kernel
theorem dX0_setEntry_33 : decode cX0_setEntry 33 = .ok (.getfield 27, 3) := by decide +kernel
theorem dX0_setEntry_36 : decode cX0_setEntry 36 = .ok (.iconst 1, 1) := by decide +kernel
theorem dX0_setEntry_37 : decode cX0_setEntry 37 = .ok (.iadd, 1) := by decide +kernel
theorem dX0_setEntry_38 : decode cX0_setEntry 38 = .ok (.putfield 27, 3) := by decide +kernel
theorem dX0_setEntry_41 : decode cX0_setEntry 41 = .ok (.aload_n 0, 1) := by decide +kernel
theorem dX0_setEntry_42 : decode cX0_setEntry 42 = .ok (.getfield 18, 3) := by decide +kernel
theorem dX0_setEntry_45 : decode cX0_setEntry 45 = .ok (.iload 5, 2) := by decide +kernel
theorem dX0_setEntry_47 : decode cX0_setEntry 47 = .ok (.iload_n 1, 1) := by decide +kernel
theorem dX0_setEntry_48 : decode cX0_setEntry 48 = .ok (.iload_n 2, 1) := by decide +kernel
theorem dX0_setEntry_49 : decode cX0_setEntry 49 = .ok (.invokestatic 37, 3) := by decide +kernel
theorem dX0_setEntry_52 : decode cX0_setEntry 52 = .ok (.iastore, 1) := by decide +kernel
theorem dX0_setEntry_53 : decode cX0_setEntry 53 = .ok (.aload_n 0, 1) := by decide +kernel
theorem dX0_setEntry_54 : decode cX0_setEntry 54 = .ok (.getfield 21, 3) := by decide +kernel
theorem dX0_setEntry_57 : decode cX0_setEntry 57 = .ok (.iload 5, 2) := by decide +kernel
theorem dX0_setEntry_59 : decode cX0_setEntry 59 = .ok (.iload_n 3, 1) := by decide +kernel
theorem dX0_setEntry_60 : decode cX0_setEntry 60 = .ok (.iastore, 1) := by decide +kernel
theorem dX0_setEntry_61 : decode cX0_setEntry 61 = .ok (.aload_n 0, 1) := by decide +kernel
theorem dX0_setEntry_62 : decode cX0_setEntry 62 = .ok (.getfield 24, 3) := by decide +kernel
theorem dX0_setEntry_65 : decode cX0_setEntry 65 = .ok (.iload 5, 2) := by decide +kernel
theorem dX0_setEntry_67 : decode cX0_setEntry 67 = .ok (.iload 4, 2) := by decide +kernel
theorem dX0_setEntry_69 : decode cX0_setEntry 69 = .ok (.iastore, 1) := by decide +kernel
theorem dX0_setEntry_70 : decode cX0_setEntry 70 = .ok (.iconst 1, 1) := by decide +kernel
theorem dX0_setEntry_71 : decode cX0_setEntry 71 = .ok (.ireturn, 1) := by decide +kernel
set_option maxRecDepth 20000 in
theorem ggX0_find_X0_border : GoodIn wsX0_find wsX0_border := goodIn_r _ [7] (by decide +kernel) (by decide +kernel)
set_option maxRecDepth 20000 in
theorem gX0_find_X0_border : GoodIn wsX0_find (va_wsS RX0 37 yX0_border wsX0_border) := goodIn_app (goodIn_of _ (by decide +kernel)) ggX0_find_X0_border
theorem dX0_find_0 : decode cX0_find 0 = .ok (.iload_n 1, 1) := by decide +kernel
theorem dX0_find_1 : decode cX0_find 1 = .ok (.iload_n 2, 1) := by decide +kernel
theorem dX0_find_2 : decode cX0_find 2 = .ok (.invokestatic 37, 3) := by decide +kernel
theorem dX0_find_5 : decode cX0_find 5 = .ok (.istore 4, 2) := by decide +kernel
theorem dX0_find_7 : decode cX0_find 7 = .ok (.iconst 0, 1) := by decide +kernel
theorem dX0_find_8 : decode cX0_find 8 = .ok (.istore 5, 2) := by decide +kernel
theorem dX0_find_10 : decode cX0_find 10 = .ok (.iload 5, 2) := by decide +kernel
theorem dX0_find_12 : decode cX0_find 12 = .ok (.aload_n 0, 1) := by decide +kernel
theorem dX0_find_13 : decode cX0_find 13 = .ok (.getfield 27, 3) := by decide +kernel
theorem dX0_find_16 : decode cX0_find 16 = .ok (.if_icmp .ge 35, 3) := by decide +kernel
theorem dX0_find_51 : decode cX0_find 51 = .ok (.iconst (-1), 1) := by decide +kernel
theorem dX0_find_52 : decode cX0_find 52 = .ok (.ireturn, 1) := by decide +kernel
theorem dX5_letterOf_0 : decode cX5_letterOf 0 = .ok (.iload_n 1, 1) := by decide +kernel
theorem dX5_letterOf_1 : decode cX5_letterOf 1 = .ok (.iconst 1, 1) := by decide +kernel
theorem dX5_letterOf_2 : decode cX5_letterOf 2 = .ok (.if_icmp .lt 21, 3) := by decide +kernel
theorem dX5_letterOf_5 : decode cX5_letterOf 5 = .ok (.iload_n 1, 1) := by decide +kernel
theorem dX5_letterOf_6 : decode cX5_letterOf 6 = .ok (.aload_n 0, 1) := by decide +kernel
theorem dX5_letterOf_7 : decode cX5_letterOf 7 = .ok (.getfield 22, 3) := by decide +kernel
theorem dX5_letterOf_10 : decode cX5_letterOf 10 = .ok (.if_icmp .gt 13, 3) := by decide +kernel
theorem dX5_letterOf_13 : decode cX5_letterOf 13 = .ok (.iload_n 2, 1) := by decide +kernel
theorem dX5_letterOf_14 : decode cX5_letterOf 14 = .ok (.ifCond .lt 9, 3) := by decide +kernel
theorem dX5_letterOf_17 : decode cX5_letterOf 17 = .ok (.iload_n 2, 1) := by decide +kernel
theorem dX5_letterOf_18 : decode cX5_letterOf 18 = .ok (.bipush 7, 2) := by decide +kernel
theorem dX5_letterOf_20 : decode cX5_letterOf 20 = .ok (.if_icmp .le 5, 3) := by decide +kernel
theorem dX5_letterOf_23 : decode cX5_letterOf 23 = .ok (.iconst (-1), 1) := by decide +kernel
theorem dX5_letterOf_24 : decode cX5_letterOf 24 = .ok (.ireturn, 1) := by decide +kernel
theorem dX5_letterOf_25 : decode cX5_letterOf 25 = .ok (.iconst 0, 1) := by decide +kernel
theorem dX5_letterOf_26 : decode cX5_letterOf 26 = .ok (.istore_n 3, 1) := by decide +kernel
theorem dX5_letterOf_27 : decode cX5_letterOf 27 = .ok (.aload_n 0, 1) := by decide +kernel
theorem dX5_letterOf_28 : decode cX5_letterOf 28 = .ok (.getfield 11, 3) := by decide +kernel
theorem dX5_letterOf_31 : decode cX5_letterOf 31 = .ok (.iload_n 1, 1) := by decide +kernel
theorem dX5_letterOf_32 : decode cX5_letterOf 32 = .ok (.laload, 1) := by decide +kernel
theorem dX5_letterOf_33 : decode cX5_letterOf 33 = .ok (.lstore 4, 2) := by decide +kernel
theorem dX5_letterOf_35 : decode cX5_letterOf 35 = .ok (.lload 4, 2) := by decide +kernel
theorem dX5_letterOf_37 : decode cX5_letterOf 37 = .ok (.lconst 0, 1) := by decide +kernel
theorem dX5_letterOf_38 : decode cX5_letterOf 38 = .ok (.lcmp, 1) := by decide +kernel
theorem dX5_letterOf_39 : decode cX5_letterOf 39 = .ok (.ifCond .eq 22, 3) := by decide +kernel
theorem dX5_letterOf_42 : decode cX5_letterOf 42 = .ok (.iload_n 3, 1) := by decide +kernel
theorem dX5_letterOf_43 : decode cX5_letterOf 43 = .ok (.bipush 8, 2) := by decide +kernel
theorem dX5_letterOf_45 : decode cX5_letterOf 45 = .ok (.if_icmp .ge 16, 3) := by decide +kernel
theorem dX5_letterOf_48 : decode cX5_letterOf 48 = .ok (.iinc 3 1, 3) := by decide +kernel
theorem dX5_letterOf_51 : decode cX5_letterOf 51 = .ok (.lload 4, 2) := by decide +kernel
theorem dX5_letterOf_53 : decode cX5_letterOf 53 = .ok (.bipush 8, 2) := by decide +kernel
theorem dX5_letterOf_55 : decode cX5_letterOf 55 = .ok (.lushr, 1) := by decide +kernel
theorem dX5_letterOf_56 : decode cX5_letterOf 56 = .ok (.lstore 4, 2) := by decide +kernel
theorem dX5_letterOf_58 : decode cX5_letterOf 58 = .ok (.goto (-23), 3) := by decide +kernel
theorem dX5_letterOf_61 : decode cX5_letterOf 61 = .ok (.iload_n 2, 1) := by decide +kernel
theorem dX5_letterOf_62 : decode cX5_letterOf 62 = .ok (.iload_n 3, 1) := by decide +kernel
theorem dX5_letterOf_63 : decode cX5_letterOf 63 = .ok (.if_icmp .ge 26, 3) := by decide +kernel
theorem dX5_letterOf_66 : decode cX5_letterOf 66 = .ok (.aload_n 0, 1) := by decide +kernel
theorem dX5_letterOf_67 : decode cX5_letterOf 67 = .ok (.getfield 11, 3) := by decide +kernel
theorem dX5_letterOf_70 : decode cX5_letterOf 70 = .ok (.iload_n 1, 1) := by decide +kernel
theorem dX5_letterOf_71 : decode cX5_letterOf 71 = .ok (.laload, 1) := by decide +kernel
theorem dX5_letterOf_72 : decode cX5_letterOf 72 = .ok (.bipush 8, 2) := by decide +kernel
theorem dX5_letterOf_74 : decode cX5_letterOf 74 = .ok (.iload_n 3, 1) := by decide +kernel
theorem dX5_letterOf_75 : decode cX5_letterOf 75 = .ok (.iconst 1, 1) := by decide +kernel
theorem dX5_letterOf_76 : decode cX5_letterOf 76 = .ok (.isub, 1) := by decide +kernel
theorem dX5_letterOf_77 : decode cX5_letterOf 77 = .ok (.iload_n 2, 1) := by decide +kernel
theorem dX5_letterOf_78 : decode cX5_letterOf 78 = .ok (.isub, 1) := by decide +kernel
theorem dX5_letterOf_79 : decode cX5_letterOf 79 = .ok (.imul, 1) := by decide +kernel
theorem dX5_letterOf_80 : decode cX5_letterOf 80 = .ok (.lushr, 1) := by decide +kernel
theorem dX5_letterOf_81 : decode cX5_letterOf 81 = .ok (.ldc2_w 47, 3) := by decide +kernel
theorem dX5_letterOf_84 : decode cX5_letterOf 84 = .ok (.land, 1) := by decide +kernel
theorem dX5_letterOf_85 : decode cX5_letterOf 85 = .ok (.l2i, 1) := by decide +kernel
theorem dX5_letterOf_86 : decode cX5_letterOf 86 = .ok (.goto 4, 3) := by decide +kernel
theorem dX5_letterOf_89 : decode cX5_letterOf 89 = .ok (.iconst (-1), 1) := by decide +kernel
theorem dX5_letterOf_90 : decode cX5_letterOf 90 = .ok (.ireturn, 1) := by decide +kernel
theorem dX8_functions_0 : decode cX8_functions 0 = .ok (.aload_n 0, 1) := by decide +kernel
theorem dX8_functions_1 : decode cX8_functions 1 = .ok (.getfield 39, 3) := by decide +kernel
theorem dX8_functions_4 : decode cX8_functions 4 = .ok (.ireturn, 1) := by decide +kernel
set_option maxRecDepth 20000 in
theorem ggX11_letter_X5_letterOf : GoodIn wsX11_letter wsX5_letterOf := goodIn_r _ [6, 7, 8, 9, 19, 20, 21, 22, 23] (by decide +kernel) (by decide +kernel)
set_option maxRecDepth 20000 in
theorem gX11_letter_X5_letterOf : GoodIn wsX11_letter (wsV RX11 90 RX5 yX5_letterOf wsX5_letterOf) := goodIn_app (goodIn_of _ (by decide +kernel)) ggX11_letter_X5_letterOf
theorem dX11_letter_0 : decode cX11_letter 0 = .ok (.aload_n 0, 1) := by decide +kernel
theorem dX11_letter_1 : decode cX11_letter 1 = .ok (.getfield 23, 3) := by decide +kernel
theorem dX11_letter_4 : decode cX11_letter 4 = .ok (.iload_n 1, 1) := by decide +kernel
theorem dX11_letter_5 : decode cX11_letter 5 = .ok (.iload_n 2, 1) := by decide +kernel
theorem dX11_letter_6 : decode cX11_letter 6 = .ok (.invokevirtual 90, 3) := by decide +kernel
theorem dX11_letter_9 : decode cX11_letter 9 = .ok (.ireturn, 1) := by decide +kernel
set_option maxRecDepth 20000 in
theorem ggX11_rule_X11_isTongue : GoodIn wsX11_rule wsX11_isTongue := goodIn_r _ [5] (by decide +kernel) (by decide +kernel)
set_option maxRecDepth 20000 in
theorem gX11_rule_X11_isTongue : GoodIn wsX11_rule (va_wsS RX11 67 yX11_isTongue wsX11_isTongue) := goodIn_app (goodIn_of _ (by decide +kernel)) ggX11_rule_X11_isTongue
set_option maxRecDepth 20000 in
theorem ggX11_rule_X0_setRule : GoodIn wsX11_rule wsX0_setRule := goodIn_r _ [10, 11, 12, 13, 9, 14, 24, 25, 26, 27, 28, 29] (by decide +kernel) (by decide +kernel)
set_option maxRecDepth 20000 in
theorem gX11_rule_X0_setRule : GoodIn wsX11_rule (wsV RX11 94 RX0 yX0_setRule wsX0_setRule) := goodIn_app (goodIn_of _ (by decide +kernel)) ggX11_rule_X0_setRule
theorem dX11_rule_0 : decode cX11_rule 0 = .ok (.iload_n 1, 1) := by decide +kernel
theorem dX11_rule_1 : decode cX11_rule 1 = .ok (.invokestatic 67, 3) := by decide +kernel
theorem dX11_rule_4 : decode cX11_rule 4 = .ok (.ifCond .eq 24, 3) := by decide +kernel
theorem dX11_rule_7 : decode cX11_rule 7 = .ok (.iload_n 2, 1) := by decide +kernel
theorem dX11_rule_8 : decode cX11_rule 8 = .ok (.invokestatic 67, 3) := by decide +kernel
theorem dX11_rule_11 : decode cX11_rule 11 = .ok (.ifCond .eq 17, 3) := by decide +kernel
theorem dX11_rule_14 : decode cX11_rule 14 = .ok (.iload_n 1, 1) := by decide +kernel
theorem dX11_rule_15 : decode cX11_rule 15 = .ok (.iload_n 2, 1) := by decide +kernel
theorem dX11_rule_16 : decode cX11_rule 16 = .ok (.if_icmp .eq 12, 3) := by decide +kernel
theorem dX11_rule_19 : decode cX11_rule 19 = .ok (.iload_n 3, 1) := by decide +kernel
theorem dX11_rule_20 : decode cX11_rule 20 = .ok (.ifCond .lt 8, 3) := by decide +kernel
theorem dX11_rule_23 : decode cX11_rule 23 = .ok (.iload_n 3, 1) := by decide +kernel
theorem dX11_rule_24 : decode cX11_rule 24 = .ok (.iconst 2, 1) := by decide +kernel
theorem dX11_rule_25 : decode cX11_rule 25 = .ok (.if_icmp .le 5, 3) := by decide +kernel
theorem dX11_rule_28 : decode cX11_rule 28 = .ok (.iconst 0, 1) := by decide +kernel
theorem dX11_rule_29 : decode cX11_rule 29 = .ok (.ireturn, 1) := by decide +kernel
theorem dX11_rule_30 : decode cX11_rule 30 = .ok (.aload_n 0, 1) := by decide +kernel
theorem dX11_rule_31 : decode cX11_rule 31 = .ok (.getfield 30, 3) := by decide +kernel
theorem dX11_rule_34 : decode cX11_rule 34 = .ok (.iload_n 1, 1) := by decide +kernel
theorem dX11_rule_35 : decode cX11_rule 35 = .ok (.iload_n 2, 1) := by decide +kernel
theorem dX11_rule_36 : decode cX11_rule 36 = .ok (.iload_n 3, 1) := by decide +kernel
theorem dX11_rule_37 : decode cX11_rule 37 = .ok (.invokevirtual 94, 3) := by decide +kernel
theorem dX11_rule_40 : decode cX11_rule 40 = .ok (.iconst 1, 1) := by decide +kernel
theorem dX11_rule_41 : decode cX11_rule 41 = .ok (.ireturn, 1) := by decide +kernel
set_option maxRecDepth 20000 in
theorem ggX11_entry_X11_isTongue : GoodIn wsX11_entry wsX11_isTongue := goodIn_r _ [5] (by decide +kernel) (by decide +kernel)
set_option maxRecDepth 20000 in
theorem gX11_entry_X11_isTongue : GoodIn wsX11_entry (va_wsS RX11 67 yX11_isTongue wsX11_isTongue) := goodIn_app (goodIn_of _ (by decide +kernel)) ggX11_entry_X11_isTongue
set_option maxRecDepth 20000 in
theorem ggX11_entry_X11_canFail : GoodIn wsX11_entry wsX11_canFail := goodIn_r _ [9, 10, 11, 12, 13, 14, 15, 16, 38, 39, 40, 41, 42, 43, 44, 45, 46, 47, 48, 49, 50, 51] (by decide +kernel) (by decide +kernel)
set_option maxRecDepth 20000 in
theorem gX11_entry_X11_canFail : GoodIn wsX11_entry (wsV RX11 98 RX11 yX11_canFail wsX11_canFail) := goodIn_app (goodIn_of _ (by decide +kernel)) ggX11_entry_X11_canFail
set_option maxRecDepth 20000 in
theorem ggX11_entry_X0_setDefault : GoodIn wsX11_entry wsX0_setDefault := goodIn_r _ [21, 22, 23, 24, 20, 25, 52, 53, 54, 55, 56, 57] (by decide +kernel) (by decide +kernel)
set_option maxRecDepth 20000 in
theorem gX11_entry_X0_setDefault : GoodIn wsX11_entry (wsV RX11 102 RX0 yX0_setDefault wsX0_setDefault) := goodIn_app (goodIn_of _ (by decide +kernel)) ggX11_entry_X0_setDefault
set_option maxRecDepth 20000 in
theorem ggX11_entry_X0_setEntry : GoodIn wsX11_entry wsX0_setEntry := goodIn_r _ [29, 30, 31, 32, 33, 34, 35, 36, 20, 37, 23, 24, 25, 52, 53, 54, 55, 56, 57] (by decide +kernel) (by decide +kernel)
set_option maxRecDepth 20000 in
theorem gX11_entry_X0_setEntry : GoodIn wsX11_entry (wsV RX11 105 RX0 yX0_setEntry wsX0_setEntry) := goodIn_app (goodIn_of _ (by decide +kernel)) ggX11_entry_X0_setEntry
theorem dX11_entry_0 : decode cX11_entry 0 = .ok (.iload_n 1, 1) := by decide +kernel
theorem dX11_entry_1 : decode cX11_entry 1 = .ok (.invokestatic 67, 3) := by decide +kernel
theorem dX11_entry_4 : decode cX11_entry 4 = .ok (.ifCond .eq 15, 3) := by decide +kernel
theorem dX11_entry_7 : decode cX11_entry 7 = .ok (.iload_n 2, 1) := by decide +kernel
theorem dX11_entry_8 : decode cX11_entry 8 = .ok (.invokestatic 67, 3) := by decide +kernel
theorem dX11_entry_11 : decode cX11_entry 11 = .ok (.ifCond .eq 8, 3) := by decide +kernel
theorem dX11_entry_14 : decode cX11_entry 14 = .ok (.iload_n 1, 1) := by decide +kernel
theorem dX11_entry_15 : decode cX11_entry 15 = .ok (.iload_n 2, 1) := by decide +kernel
theorem dX11_entry_16 : decode cX11_entry 16 = .ok (.if_icmp .ne 5, 3) := by decide +kernel
theorem dX11_entry_19 : decode cX11_entry 19 = .ok (.iconst 0, 1) := by decide +kernel
theorem dX11_entry_20 : decode cX11_entry 20 = .ok (.ireturn, 1) := by decide +kernel
theorem dX11_entry_21 : decode cX11_entry 21 = .ok (.aload_n 0, 1) := by decide +kernel
theorem dX11_entry_22 : decode cX11_entry 22 = .ok (.iload_n 2, 1) := by decide +kernel
theorem dX11_entry_23 : decode cX11_entry 23 = .ok (.iload 4, 2) := by decide +kernel
theorem dX11_entry_25 : decode cX11_entry 25 = .ok (.invokevirtual 98, 3) := by decide +kernel
theorem dX11_entry_28 : decode cX11_entry 28 = .ok (.ifCond .ne 5, 3) := by decide +kernel
theorem dX11_entry_31 : decode cX11_entry 31 = .ok (.iconst 0, 1) := by decide +kernel
theorem dX11_entry_32 : decode cX11_entry 32 = .ok (.ireturn, 1) := by decide +kernel
theorem dX11_entry_33 : decode cX11_entry 33 = .ok (.iload_n 3, 1) := by decide +kernel
theorem dX11_entry_34 : decode cX11_entry 34 = .ok (.ifCond .ne 16, 3) := by decide +kernel
theorem dX11_entry_37 : decode cX11_entry 37 = .ok (.aload_n 0, 1) := by decide +kernel
theorem dX11_entry_38 : decode cX11_entry 38 = .ok (.getfield 30, 3) := by decide +kernel
theorem dX11_entry_41 : decode cX11_entry 41 = .ok (.iload_n 1, 1) := by decide +kernel
theorem dX11_entry_42 : decode cX11_entry 42 = .ok (.iload_n 2, 1) := by decide +kernel
theorem dX11_entry_43 : decode cX11_entry 43 = .ok (.iload 4, 2) := by decide +kernel
theorem dX11_entry_45 : decode cX11_entry 45 = .ok (.invokevirtual 102, 3) := by decide +kernel
theorem dX11_entry_48 : decode cX11_entry 48 = .ok (.iconst 1, 1) := by decide +kernel
theorem dX11_entry_49 : decode cX11_entry 49 = .ok (.ireturn, 1) := by decide +kernel
theorem dX11_entry_50 : decode cX11_entry 50 = .ok (.aload_n 0, 1) := by decide +kernel
theorem dX11_entry_51 : decode cX11_entry 51 = .ok (.iload_n 1, 1) := by decide +kernel
theorem dX11_entry_52 : decode cX11_entry 52 = .ok (.iload_n 3, 1) := by decide +kernel
theorem dX11_entry_53 : decode cX11_entry 53 = .ok (.invokevirtual 98, 3) := by decide +kernel
theorem dX11_entry_56 : decode cX11_entry 56 = .ok (.ifCond .eq 22, 3) := by decide +kernel
theorem dX11_entry_59 : decode cX11_entry 59 = .ok (.aload_n 0, 1) := by decide +kernel
theorem dX11_entry_60 : decode cX11_entry 60 = .ok (.getfield 30, 3) := by decide +kernel
theorem dX11_entry_63 : decode cX11_entry 63 = .ok (.iload_n 1, 1) := by decide +kernel
theorem dX11_entry_64 : decode cX11_entry 64 = .ok (.iload_n 2, 1) := by decide +kernel
theorem dX11_entry_65 : decode cX11_entry 65 = .ok (.iload_n 3, 1) := by decide +kernel
theorem dX11_entry_66 : decode cX11_entry 66 = .ok (.iload 4, 2) := by decide +kernel
theorem dX11_entry_68 : decode cX11_entry 68 = .ok (.invokevirtual 105, 3) := by decide +kernel
theorem dX11_entry_71 : decode cX11_entry 71 = .ok (.ifCond .eq 7, 3) := by decide +kernel
theorem dX11_entry_74 : decode cX11_entry 74 = .ok (.iconst 1, 1) := by decide +kernel
theorem dX11_entry_75 : decode cX11_entry 75 = .ok (.goto 4, 3) := by decide +kernel
theorem dX11_entry_78 : decode cX11_entry 78 = .ok (.iconst 0, 1) := by decide +kernel
theorem dX11_entry_79 : decode cX11_entry 79 = .ok (.ireturn, 1) := by decide +kernel
set_option maxRecDepth 20000 in
theorem ggX11_call_X11_isTongue : GoodIn wsX11_call wsX11_isTongue := goodIn_r _ [6] (by decide +kernel) (by decide +kernel)
set_option maxRecDepth 20000 in
theorem gX11_call_X11_isTongue : GoodIn wsX11_call (va_wsS RX11 67 yX11_isTongue wsX11_isTongue) := goodIn_app (goodIn_of _ (by decide +kernel)) ggX11_call_X11_isTongue
set_option maxRecDepth 20000 in
theorem ggX11_call_X8_functions : GoodIn wsX11_call wsX8_functions := goodIn_r _ [11, 12, 695, 696, 697, 698, 699, 700, 701, 702] (by decide +kernel) (by decide +kernel)
set_option maxRecDepth 20000 in
theorem gX11_call_X8_functions : GoodIn wsX11_call (wsV RX11 87 RX8 yX8_functions wsX8_functions) := goodIn_app (goodIn_of _ (by decide +kernel)) ggX11_call_X8_functions
theorem dX11_call_0 : decode cX11_call 0 = .ok (.iload_n 1, 1) := by decide +kernel
theorem dX11_call_1 : decode cX11_call 1 = .ok (.invokestatic 67, 3) := by decide +kernel
theorem dX11_call_4 : decode cX11_call 4 = .ok (.ifCond .eq 20, 3) := by decide +kernel
theorem dX11_call_7 : decode cX11_call 7 = .ok (.iload_n 2, 1) := by decide +kernel
theorem dX11_call_8 : decode cX11_call 8 = .ok (.ifCond .lt 16, 3) := by decide +kernel
theorem dX11_call_11 : decode cX11_call 11 = .ok (.iload_n 2, 1) := by decide +kernel
theorem dX11_call_12 : decode cX11_call 12 = .ok (.aload_n 0, 1) := by decide +kernel
theorem dX11_call_13 : decode cX11_call 13 = .ok (.getfield 36, 3) := by decide +kernel
theorem dX11_call_16 : decode cX11_call 16 = .ok (.iload_n 1, 1) := by decide +kernel
theorem dX11_call_17 : decode cX11_call 17 = .ok (.aaload, 1) := by decide +kernel
theorem dX11_call_18 : decode cX11_call 18 = .ok (.invokevirtual 87, 3) := by decide +kernel
theorem dX11_call_21 : decode cX11_call 21 = .ok (.if_icmp .lt 5, 3) := by decide +kernel
theorem dX11_call_24 : decode cX11_call 24 = .ok (.iconst 3, 1) := by decide +kernel
theorem dX11_call_25 : decode cX11_call 25 = .ok (.ireturn, 1) := by decide +kernel
set_option maxRecDepth 20000 in
theorem ggX11_canFail_X5_inAll : GoodIn wsX11_canFail wsX5_inAll := goodIn_r _ [6, 7, 17, 18, 19, 20, 21] (by decide +kernel) (by decide +kernel)
set_option maxRecDepth 20000 in
theorem gX11_canFail_X5_inAll : GoodIn wsX11_canFail (wsV RX11 119 RX5 yX5_inAll wsX5_inAll) := goodIn_app (goodIn_of _ (by decide +kernel)) ggX11_canFail_X5_inAll
theorem dX11_canFail_0 : decode cX11_canFail 0 = .ok (.iload_n 1, 1) := by decide +kernel
theorem dX11_canFail_1 : decode cX11_canFail 1 = .ok (.iconst 1, 1) := by decide +kernel
theorem dX11_canFail_2 : decode cX11_canFail 2 = .ok (.if_icmp .ne 13, 3) := by decide +kernel
theorem dX11_canFail_5 : decode cX11_canFail 5 = .ok (.iload_n 2, 1) := by decide +kernel
theorem dX11_canFail_6 : decode cX11_canFail 6 = .ok (.ifCond .eq 7, 3) := by decide +kernel
theorem dX11_canFail_9 : decode cX11_canFail 9 = .ok (.iconst 1, 1) := by decide +kernel
theorem dX11_canFail_10 : decode cX11_canFail 10 = .ok (.goto 4, 3) := by decide +kernel
theorem dX11_canFail_13 : decode cX11_canFail 13 = .ok (.iconst 0, 1) := by decide +kernel
theorem dX11_canFail_14 : decode cX11_canFail 14 = .ok (.ireturn, 1) := by decide +kernel
theorem dX11_canFail_15 : decode cX11_canFail 15 = .ok (.iload_n 2, 1) := by decide +kernel
theorem dX11_canFail_16 : decode cX11_canFail 16 = .ok (.iconst 1, 1) := by decide +kernel
theorem dX11_canFail_17 : decode cX11_canFail 17 = .ok (.if_icmp .lt 18, 3) := by decide +kernel
theorem dX11_canFail_20 : decode cX11_canFail 20 = .ok (.iload_n 2, 1) := by decide +kernel
theorem dX11_canFail_21 : decode cX11_canFail 21 = .ok (.aload_n 0, 1) := by decide +kernel
theorem dX11_canFail_22 : decode cX11_canFail 22 = .ok (.getfield 23, 3) := by decide +kernel
theorem dX11_canFail_25 : decode cX11_canFail 25 = .ok (.invokevirtual 119, 3) := by decide +kernel
theorem dX11_canFail_28 : decode cX11_canFail 28 = .ok (.if_icmp .gt 7, 3) := by decide +kernel
theorem dX11_canFail_31 : decode cX11_canFail 31 = .ok (.iconst 1, 1) := by decide +kernel
theorem dX11_canFail_32 : decode cX11_canFail 32 = .ok (.goto 4, 3) := by decide +kernel
theorem dX11_canFail_35 : decode cX11_canFail 35 = .ok (.iconst 0, 1) := by decide +kernel
theorem dX11_canFail_36 : decode cX11_canFail 36 = .ok (.ireturn, 1) := by decide +kernel
set_option maxRecDepth 100000 in
theorem in_X0_setRule_RX0 : ∀ w ∈ u_ws RX0 TX0 6, w ∈ wsX0_setRule := by decide +kernel
set_option maxRecDepth 100000 in
theorem in_X0_setDefault_RX0 : ∀ w ∈ u_ws RX0 TX0 6, w ∈ wsX0_setDefault := by decide +kernel
set_option maxRecDepth 100000 in
theorem in_X11_rule_RX11 : ∀ w ∈ u_ws RX11 TX11 9, w ∈ wsX11_rule := by decide +kernel
set_option maxRecDepth 100000 in
theorem in_X11_canFail_RX11 : ∀ w ∈ u_ws RX11 TX11 9, w ∈ wsX11_canFail := by decide +kernel
set_option maxRecDepth 100000 in
theorem in_X0_find_RX0 : ∀ w ∈ u_ws RX0 TX0 6, w ∈ wsX0_find := by decide +kernel
set_option maxRecDepth 100000 in
theorem in_X0_setEntry_RX0 : ∀ w ∈ u_ws RX0 TX0 6, w ∈ wsX0_setEntry := by decide +kernel
set_option maxRecDepth 100000 in
theorem in_X11_entry_RX11 : ∀ w ∈ u_ws RX11 TX11 9, w ∈ wsX11_entry := by decide +kernel
set_option maxRecDepth 100000 in
theorem in_X8_functions_RX8 : ∀ w ∈ u_ws RX8 TX8 8, w ∈ wsX8_functions := by decide +kernel
set_option maxRecDepth 100000 in
theorem in_X11_call_RX11 : ∀ w ∈ u_ws RX11 TX11 9, w ∈ wsX11_call := by decide +kernel
set_option maxRecDepth 100000 in
theorem in_X5_letterOf_RX5 : ∀ w ∈ u_ws RX5 TX5 5, w ∈ wsX5_letterOf := by decide +kernel
set_option maxRecDepth 100000 in
theorem in_X11_letter_RX11 : ∀ w ∈ u_ws RX11 TX11 9, w ∈ wsX11_letter := by decide +kernel
theorem succ_le {a b x : Int32} (h : b.toInt = a.toInt + 1) : a < x ↔ b ≤ x := by
  rw [Int32.lt_iff_toInt_lt, Int32.le_iff_toInt_le, h]
  omega
theorem br_in {x1 x2 : Int32} (h1 : ¬ ng x1) (h2 : ¬ ng x2) : vp_in ((x1 &&& 3) * 4 + (x2 &&& 3)) 16 := by
  rcases ng_cases h1 with rfl | rfl | rfl | rfl <;> rcases ng_cases h2 with rfl | rfl | rfl | rfl <;> (unfold vp_in; decide)
theorem br_in2 {x1 x2 : Int32} (h1 : ¬ ng x1) (h2 : ¬ ng x2) : vp_in (4 * x1 + x2) 16 := by
  rcases ng_cases h1 with rfl | rfl | rfl | rfl <;> rcases ng_cases h2 with rfl | rfl | rfl | rfl <;> (unfold vp_in; decide)
/-- what can fail -/
def cf (x y : Int32) : Prop := (x = 1 ∧ ¬ y = 0) ∨ (¬ x = 1 ∧ ¬ y < 1 ∧ ¬ 11 < y)
def rlC (x1 x2 x3 : Int32) : Prop := ng x1 ∨ ng x2 ∨ x1 = x2 ∨ x3 < 0 ∨ ¬ x3 ≤ 2
def enC (x1 x2 x3 x4 : Int32) : Prop := ng x1 ∨ ng x2 ∨ x1 = x2 ∨ ¬ cf x2 x4 ∨ (¬ x3 = 0 ∧ ¬ cf x1 x3)
def ltT : List (List Int32) := [[], [122, 101, 114, 111], [105, 110, 100, 101, 120], [110, 111, 116, 104, 105, 110, 103], [115, 111, 114, 116], [115, 105, 122, 101], [100, 101, 101, 112], [116, 114, 97, 112], [108, 111, 115, 116], [98, 111, 114, 100, 101, 114], [97, 110, 121], [109, 97, 99, 104, 105, 110, 101]]
def ltF (x1 x2 : Int32) : Int32 := if x1 < 1 ∨ 11 < x1 ∨ x2 < 0 ∨ ¬ x2 ≤ 7 then -1 else (ltT.getD x1.toNatClampNeg []).getD x2.toNatClampNeg (-1)
theorem ltF_out {x1 x2 : Int32} (h : x1 < 1 ∨ 11 < x1 ∨ x2 < 0 ∨ ¬ x2 ≤ 7) : -1 = ltF x1 x2 := by rw [ltF, if_pos h]
theorem cs11 {x : Int32} (h1 : ¬ x < 1) (h2 : ¬ 11 < x) : x = 1 ∨ x = 2 ∨ x = 3 ∨ x = 4 ∨ x = 5 ∨ x = 6 ∨ x = 7 ∨ x = 8 ∨ x = 9 ∨ x = 10 ∨ x = 11 := by
  have h0 : ¬ x < 0 := fun q => h1 (Int32.lt_trans q (by decide))
  obtain ⟨j, hj, rfl⟩ := nI_of h0
  have h3 : j ≤ 11 := Nat.le_of_not_lt (fun q => h2 (nI_lt (a := 11) q hj))
  have h4 : 1 ≤ j := Nat.le_of_not_lt (fun q => h1 (nI_lt (b := 1) q (by decide)))
  rcases (show j = 1 ∨ j = 2 ∨ j = 3 ∨ j = 4 ∨ j = 5 ∨ j = 6 ∨ j = 7 ∨ j = 8 ∨ j = 9 ∨ j = 10 ∨ j = 11 by omega) with rfl | rfl | rfl | rfl | rfl | rfl | rfl | rfl | rfl | rfl | rfl <;> decide
theorem cs8 {x : Int32} (h1 : ¬ x < 0) (h2 : x ≤ 7) : x = 0 ∨ x = 1 ∨ x = 2 ∨ x = 3 ∨ x = 4 ∨ x = 5 ∨ x = 6 ∨ x = 7 := by
  obtain ⟨j, hj, rfl⟩ := nI_of h1
  have h3 : j ≤ 7 := Nat.le_of_not_lt (fun q => nI_ge (b := j) (a := 7) q hj h2)
  rcases (show j = 0 ∨ j = 1 ∨ j = 2 ∨ j = 3 ∨ j = 4 ∨ j = 5 ∨ j = 6 ∨ j = 7 by omega) with rfl | rfl | rfl | rfl | rfl | rfl | rfl | rfl <;> decide
set_option maxHeartbeats 4000000 in
set_option maxRecDepth 100000 in
theorem c_X0_border (l : Launch) (dC : Nat → ClassId) (dI : Nat → Nat → Nat) (x1 : Int32) (x2 : Int32) : Met l yX0_border wsX0_border ({ frames := 0, cells := 0, slots := 0, locals := 0 }) (va_Pc [.int x1, .int x2] (fun U => xR (dC, dI) [] [] U)) (va_Qi (fun (r : Int32) (_ : Unit) => r = (x1 &&& 3) * 4 + (x2 &&& 3)) (fun (_ : Unit) _ => True) (fun _ => False)) 0 0 (fun _ => False) := by
  refine Met.ofW (cc := cX0_border) (maxL := 2) (ret := (some .int)) (by decide) rfl ?_
  intro p e s m args below meth c s₁ B hml hv
  obtain ⟨rfl, hP, hK⟩ := hv
  have hx := B.exec
  have hb := B.bytes
  have hr := B.returns
  have hts := atoms_spec (ws := wsX0_border) B.pre
  have hown : s.vm.findClass RX0 = some m.cls := findClass_of_methodNamed B.named
  have hlocks := B.notSynchronized
  have hS : va_S (fun _ => False) s.heap s.heap [] := va_S.rf
  have hl := lv_entry ([.int x1, .int x2]) (n := 2) (Nat.le_of_ble_eq_true rfl)
  rw [lg_entry_eq]
  generalize (lg_sl ([.int x1, .int x2]) ++ List.replicate (2 - (lg_sl ([.int x1, .int x2])).length) Slot.unset).toArray = ls at hl ⊢
  have hl : lv_has ls 2 [(0, .int x1), (1, .int x2)] := hl
  refine lv_iload_n hx hb dX0_border_0 rfl (lv_at hl 0 rfl) ?_
  refine lv_iconst (v := 3) hx hb dX0_border_1 (by decide) ?_
  refine lv_iand hx hb dX0_border_2 ?_
  refine lv_iconst (v := 4) hx hb dX0_border_3 (by decide) ?_
  refine lv_imul hx hb dX0_border_4 ?_
  refine lv_iload_n hx hb dX0_border_5 rfl (lv_at hl 1 rfl) ?_
  refine lv_iconst (v := 3) hx hb dX0_border_6 (by decide) ?_
  refine lv_iand hx hb dX0_border_7 ?_
  refine lv_iadd hx hb dX0_border_8 ?_
  exact W.iret (v := ((x1 &&& 3) * 4) + (x2 &&& 3)) hx hb hr (fun t ht hW => ⟨⟨((x1 &&& 3) * 4) + (x2 &&& 3), (), rfl, rfl, trivial⟩, hS.F ht⟩) hS.2.2 dX0_border_9

set_option maxHeartbeats 4000000 in
set_option maxRecDepth 100000 in
theorem c_X0_setRule (l : Launch) (dC : Nat → ClassId) (dI : Nat → Nat → Nat) (sz : Nat) (h0 : Nat) (b_rules : Nat) (b_defaults : Nat) (b_entryBorders : Nat) (b_entryWhats : Nat) (b_entryAs : Nat) (c_b_rules : ClassId) (f_rules : Nat → Int32) (x1 : Int32) (x2 : Int32) (x3 : Int32) (hg1 : ¬ ng x1) (hg2 : ¬ ng x2) : Met l yX0_setRule wsX0_setRule ({ frames := 1, cells := 0, slots := 0, locals := 21 }) (va_Pc [.ref h0, .int x1, .int x2, .int x3] (fun U => xM (dC, dI) sz [(h0, .inr (0, [.ref b_rules, .ref b_defaults, .ref b_entryBorders, .ref b_entryWhats, .ref b_entryAs, .int 0])), (b_rules, .inl (c_b_rules, 16, .inl f_rules))] [(c_b_rules, .int)] U)) (va_Qv (fun _ : Unit => True) (fun (_ : Unit) _ => True) (va_A [(h0, .inr (0, [.ref b_rules, .ref b_defaults, .ref b_entryBorders, .ref b_entryWhats, .ref b_entryAs, .int 0])), (b_rules, .inl (c_b_rules, 16, .inl f_rules))] sz)) 0 0 (va_A [(h0, .inr (0, [.ref b_rules, .ref b_defaults, .ref b_entryBorders, .ref b_entryWhats, .ref b_entryAs, .int 0])), (b_rules, .inl (c_b_rules, 16, .inl f_rules))] sz) := by
  refine Met.ofW (cc := cX0_setRule) (maxL := 4) (ret := none) (by decide) rfl ?_
  intro p e s m args below meth c s₁ B hml hv
  obtain ⟨rfl, hsz, hP, hK, hD0⟩ := hv
  have hx := B.exec
  have hb := B.bytes
  have hr := B.returns
  have hts := atoms_spec (ws := wsX0_setRule) B.pre
  have hown : s.vm.findClass RX0 = some m.cls := findClass_of_methodNamed B.named
  have hlocks := B.notSynchronized
  subst hsz
  have hD := hD0.self (sz := s.heap.size)
  generalize hAe : va_A [(h0, .inr (0, [.ref b_rules, .ref b_defaults, .ref b_entryBorders, .ref b_entryWhats, .ref b_entryAs, .int 0])), (b_rules, .inl (c_b_rules, 16, .inl f_rules))] s.heap.size = A at hD ⊢
  have hA : ∀ q : Nat, s.heap.size ≤ q → A q := fun q h => by rw [← hAe]; exact Or.inr h
  have hS : va_S A s.heap s.heap [] := va_S.rf
  have hl := lv_entry ([.ref h0, .int x1, .int x2, .int x3]) (n := 4) (Nat.le_of_ble_eq_true rfl)
  rw [lg_entry_eq]
  generalize (lg_sl ([.ref h0, .int x1, .int x2, .int x3]) ++ List.replicate (4 - (lg_sl ([.ref h0, .int x1, .int x2, .int x3])).length) Slot.unset).toArray = ls at hl ⊢
  have hl : lv_has ls 4 [(0, .ref h0), (1, .int x1), (2, .int x2), (3, .int x3)] := hl
  refine lv_aload_n hx hb dX0_setRule_0 rfl (lv_at hl 0 rfl) ?_
  refine va_get (D := (dC, dI)) (ci := 0) (v := .ref b_rules) (C := RX0) (T := TX0) (N := 6) hx hb hts in_X0_setRule_RX0 hown hK hP 0 rfl rfl 0 (by decide) (hts (.fieldLink RX0 9 "FourTongues$Borders" "rules" "[I") (by decide +kernel)) (fun _ h9 => h9) rfl dX0_setRule_1 ?_
  refine lv_iload_n hx hb dX0_setRule_4 rfl (lv_at hl 1 rfl) ?_
  refine lv_iload_n hx hb dX0_setRule_5 rfl (lv_at hl 2 rfl) ?_
  refine va_calli (va_runS (As := [.int x1, .int x2]) (rest := [.ref b_rules]) ⟨hx, hb, hml, hown, hts⟩ (c_X0_border l dC dI x1 x2 ) (va_cwS 2 hts gX0_setRule_X0_border rfl rfl rfl (by decide +kernel) ⟨Nat.le_of_ble_eq_true rfl, Nat.le_of_ble_eq_true rfl⟩) ⟨fb_R, fun U hU hW => ⟨rfl, xR.at (hP.sub (ws' := []) [] rfl) (hK.sub (tys' := []) [] rfl) hU hW⟩⟩ rfl rfl hl.1 rfl (lv_room (Nat.le_of_ble_eq_true rfl)) dX0_setRule_6 ⟨Nat.le_of_ble_eq_true rfl, Nat.le_of_ble_eq_true rfl⟩) hS (fun q _ h => h.elim) (fun q h => h.elim) (fun r_1 u t H locs ht hvm hw hB hz1 hk1 hS => ?_)
  have hw_2 := hw
  have hP := xR.keep hP hk1
  subst hw_2
  refine lv_iload_n hx hb dX0_setRule_9 rfl (lv_at hl 3 rfl) ?_
  refine va_iast hx hb hK hP hD hS 1 0 rfl rfl (br_in hg1 hg2) dX0_setRule_10 (fun H locs hP hD hS => ?_)
  obtain ⟨f_3, ef_3⟩ : ∃ y : Nat → Int32, y = upd f_rules (((x1 &&& 3) * 4 + (x2 &&& 3) : Int32).toNatClampNeg) x3 := ⟨_, rfl⟩
  rw [← ef_3] at hP hD
  have hP : va_P (dC, dI) vwCl [(h0, .inr (0, [.ref b_rules, .ref b_defaults, .ref b_entryBorders, .ref b_entryWhats, .ref b_entryAs, .int 0])), (b_rules, .inl (c_b_rules, 16, .inl f_3))] _ := hP
  have hD : va_D A [(h0, .inr (0, [.ref b_rules, .ref b_defaults, .ref b_entryBorders, .ref b_entryWhats, .ref b_entryAs, .int 0])), (b_rules, .inl (c_b_rules, 16, .inl f_3))] := hD
  exact W.vret hx hb hr (fun t ht hW => ⟨⟨(), rfl, trivial, trivial⟩, hS.F ht⟩) hS.2.2 dX0_setRule_11

set_option maxHeartbeats 4000000 in
set_option maxRecDepth 100000 in
theorem c_X0_setDefault (l : Launch) (dC : Nat → ClassId) (dI : Nat → Nat → Nat) (sz : Nat) (h0 : Nat) (b_rules : Nat) (b_defaults : Nat) (b_entryBorders : Nat) (b_entryWhats : Nat) (b_entryAs : Nat) (c_b_defaults : ClassId) (f_defaults : Nat → Int32) (x1 : Int32) (x2 : Int32) (x3 : Int32) (hg1 : ¬ ng x1) (hg2 : ¬ ng x2) : Met l yX0_setDefault wsX0_setDefault ({ frames := 1, cells := 0, slots := 0, locals := 21 }) (va_Pc [.ref h0, .int x1, .int x2, .int x3] (fun U => xM (dC, dI) sz [(h0, .inr (0, [.ref b_rules, .ref b_defaults, .ref b_entryBorders, .ref b_entryWhats, .ref b_entryAs, .int 0])), (b_defaults, .inl (c_b_defaults, 16, .inl f_defaults))] [(c_b_defaults, .int)] U)) (va_Qv (fun _ : Unit => True) (fun (_ : Unit) _ => True) (va_A [(h0, .inr (0, [.ref b_rules, .ref b_defaults, .ref b_entryBorders, .ref b_entryWhats, .ref b_entryAs, .int 0])), (b_defaults, .inl (c_b_defaults, 16, .inl f_defaults))] sz)) 0 0 (va_A [(h0, .inr (0, [.ref b_rules, .ref b_defaults, .ref b_entryBorders, .ref b_entryWhats, .ref b_entryAs, .int 0])), (b_defaults, .inl (c_b_defaults, 16, .inl f_defaults))] sz) := by
  refine Met.ofW (cc := cX0_setDefault) (maxL := 4) (ret := none) (by decide) rfl ?_
  intro p e s m args below meth c s₁ B hml hv
  obtain ⟨rfl, hsz, hP, hK, hD0⟩ := hv
  have hx := B.exec
  have hb := B.bytes
  have hr := B.returns
  have hts := atoms_spec (ws := wsX0_setDefault) B.pre
  have hown : s.vm.findClass RX0 = some m.cls := findClass_of_methodNamed B.named
  have hlocks := B.notSynchronized
  subst hsz
  have hD := hD0.self (sz := s.heap.size)
  generalize hAe : va_A [(h0, .inr (0, [.ref b_rules, .ref b_defaults, .ref b_entryBorders, .ref b_entryWhats, .ref b_entryAs, .int 0])), (b_defaults, .inl (c_b_defaults, 16, .inl f_defaults))] s.heap.size = A at hD ⊢
  have hA : ∀ q : Nat, s.heap.size ≤ q → A q := fun q h => by rw [← hAe]; exact Or.inr h
  have hS : va_S A s.heap s.heap [] := va_S.rf
  have hl := lv_entry ([.ref h0, .int x1, .int x2, .int x3]) (n := 4) (Nat.le_of_ble_eq_true rfl)
  rw [lg_entry_eq]
  generalize (lg_sl ([.ref h0, .int x1, .int x2, .int x3]) ++ List.replicate (4 - (lg_sl ([.ref h0, .int x1, .int x2, .int x3])).length) Slot.unset).toArray = ls at hl ⊢
  have hl : lv_has ls 4 [(0, .ref h0), (1, .int x1), (2, .int x2), (3, .int x3)] := hl
  refine lv_aload_n hx hb dX0_setDefault_0 rfl (lv_at hl 0 rfl) ?_
  refine va_get (D := (dC, dI)) (ci := 0) (v := .ref b_defaults) (C := RX0) (T := TX0) (N := 6) hx hb hts in_X0_setDefault_RX0 hown hK hP 0 rfl rfl 1 (by decide) (hts (.fieldLink RX0 15 "FourTongues$Borders" "defaults" "[I") (by decide +kernel)) (fun _ h9 => h9) rfl dX0_setDefault_1 ?_
  refine lv_iload_n hx hb dX0_setDefault_4 rfl (lv_at hl 1 rfl) ?_
  refine lv_iload_n hx hb dX0_setDefault_5 rfl (lv_at hl 2 rfl) ?_
  refine va_calli (va_runS (As := [.int x1, .int x2]) (rest := [.ref b_defaults]) ⟨hx, hb, hml, hown, hts⟩ (c_X0_border l dC dI x1 x2 ) (va_cwS 2 hts gX0_setDefault_X0_border rfl rfl rfl (by decide +kernel) ⟨Nat.le_of_ble_eq_true rfl, Nat.le_of_ble_eq_true rfl⟩) ⟨fb_R, fun U hU hW => ⟨rfl, xR.at (hP.sub (ws' := []) [] rfl) (hK.sub (tys' := []) [] rfl) hU hW⟩⟩ rfl rfl hl.1 rfl (lv_room (Nat.le_of_ble_eq_true rfl)) dX0_setDefault_6 ⟨Nat.le_of_ble_eq_true rfl, Nat.le_of_ble_eq_true rfl⟩) hS (fun q _ h => h.elim) (fun q h => h.elim) (fun r_1 u t H locs ht hvm hw hB hz1 hk1 hS => ?_)
  have hw_2 := hw
  have hP := xR.keep hP hk1
  subst hw_2
  refine lv_iload_n hx hb dX0_setDefault_9 rfl (lv_at hl 3 rfl) ?_
  refine va_iast hx hb hK hP hD hS 1 0 rfl rfl (br_in hg1 hg2) dX0_setDefault_10 (fun H locs hP hD hS => ?_)
  obtain ⟨f_3, ef_3⟩ : ∃ y : Nat → Int32, y = upd f_defaults (((x1 &&& 3) * 4 + (x2 &&& 3) : Int32).toNatClampNeg) x3 := ⟨_, rfl⟩
  rw [← ef_3] at hP hD
  have hP : va_P (dC, dI) vwCl [(h0, .inr (0, [.ref b_rules, .ref b_defaults, .ref b_entryBorders, .ref b_entryWhats, .ref b_entryAs, .int 0])), (b_defaults, .inl (c_b_defaults, 16, .inl f_3))] _ := hP
  have hD : va_D A [(h0, .inr (0, [.ref b_rules, .ref b_defaults, .ref b_entryBorders, .ref b_entryWhats, .ref b_entryAs, .int 0])), (b_defaults, .inl (c_b_defaults, 16, .inl f_3))] := hD
  exact W.vret hx hb hr (fun t ht hW => ⟨⟨(), rfl, trivial, trivial⟩, hS.F ht⟩) hS.2.2 dX0_setDefault_11

set_option maxHeartbeats 4000000 in
set_option maxRecDepth 100000 in
theorem c_X11_rule (l : Launch) (dC : Nat → ClassId) (dI : Nat → Nat → Nat) (sz : Nat) (h0 : Nat) (v_tape : Nat) (v_names : Nat) (v_borders : Nat) (v_programs : Nat) (v_draft : Nat) (v_parser : Nat) (v_machine : Nat) (b_rules : Nat) (b_defaults : Nat) (b_entryBorders : Nat) (b_entryWhats : Nat) (b_entryAs : Nat) (c_b_rules : ClassId) (f_rules : Nat → Int32) (x1 : Int32) (x2 : Int32) (x3 : Int32) : Met l yX11_rule wsX11_rule ({ frames := 2, cells := 0, slots := 0, locals := 44 }) (va_Pc [.ref h0, .int x1, .int x2, .int x3] (fun U => xM (dC, dI) sz [(h0, .inr (10, [.ref v_tape, .int 0, .int 0, .ref v_names, .ref v_borders, .ref v_programs, .ref v_draft, .ref v_parser, .ref v_machine])), (v_borders, .inr (0, [.ref b_rules, .ref b_defaults, .ref b_entryBorders, .ref b_entryWhats, .ref b_entryAs, .int 0])), (b_rules, .inl (c_b_rules, 16, .inl f_rules))] [(c_b_rules, .int)] U)) (va_Qi (fun (r : Int32) (_ : Unit) => (rlC x1 x2 x3 ∧ r = 0) ∨ (¬ rlC x1 x2 x3 ∧ r = 1)) (fun (_ : Unit) _ => True) (va_A [(h0, .inr (10, [.ref v_tape, .int 0, .int 0, .ref v_names, .ref v_borders, .ref v_programs, .ref v_draft, .ref v_parser, .ref v_machine])), (v_borders, .inr (0, [.ref b_rules, .ref b_defaults, .ref b_entryBorders, .ref b_entryWhats, .ref b_entryAs, .int 0])), (b_rules, .inl (c_b_rules, 16, .inl f_rules))] sz)) 0 0 (va_A [(h0, .inr (10, [.ref v_tape, .int 0, .int 0, .ref v_names, .ref v_borders, .ref v_programs, .ref v_draft, .ref v_parser, .ref v_machine])), (v_borders, .inr (0, [.ref b_rules, .ref b_defaults, .ref b_entryBorders, .ref b_entryWhats, .ref b_entryAs, .int 0])), (b_rules, .inl (c_b_rules, 16, .inl f_rules))] sz) := by
  refine Met.ofW (cc := cX11_rule) (maxL := 4) (ret := (some .boolean)) (by decide) rfl ?_
  intro p e s m args below meth c s₁ B hml hv
  obtain ⟨rfl, hsz, hP, hK, hD0⟩ := hv
  have hx := B.exec
  have hb := B.bytes
  have hr := B.returns
  have hts := atoms_spec (ws := wsX11_rule) B.pre
  have hown : s.vm.findClass RX11 = some m.cls := findClass_of_methodNamed B.named
  have hlocks := B.notSynchronized
  subst hsz
  have hD := hD0.self (sz := s.heap.size)
  generalize hAe : va_A [(h0, .inr (10, [.ref v_tape, .int 0, .int 0, .ref v_names, .ref v_borders, .ref v_programs, .ref v_draft, .ref v_parser, .ref v_machine])), (v_borders, .inr (0, [.ref b_rules, .ref b_defaults, .ref b_entryBorders, .ref b_entryWhats, .ref b_entryAs, .int 0])), (b_rules, .inl (c_b_rules, 16, .inl f_rules))] s.heap.size = A at hD ⊢
  have hA : ∀ q : Nat, s.heap.size ≤ q → A q := fun q h => by rw [← hAe]; exact Or.inr h
  have hS : va_S A s.heap s.heap [] := va_S.rf
  have hl := lv_entry ([.ref h0, .int x1, .int x2, .int x3]) (n := 4) (Nat.le_of_ble_eq_true rfl)
  rw [lg_entry_eq]
  generalize (lg_sl ([.ref h0, .int x1, .int x2, .int x3]) ++ List.replicate (4 - (lg_sl ([.ref h0, .int x1, .int x2, .int x3])).length) Slot.unset).toArray = ls at hl ⊢
  have hl : lv_has ls 4 [(0, .ref h0), (1, .int x1), (2, .int x2), (3, .int x3)] := hl
  refine lv_iload_n hx hb dX11_rule_0 rfl (lv_at hl 1 rfl) ?_
  refine va_calli (va_runS (As := [.int x1]) (rest := []) ⟨hx, hb, hml, hown, hts⟩ (c_X11_isTongue l dC dI x1 ) (va_cwS 1 hts gX11_rule_X11_isTongue rfl rfl rfl (by decide +kernel) ⟨Nat.le_of_ble_eq_true rfl, Nat.le_of_ble_eq_true rfl⟩) ⟨fb_R, fun U hU hW => ⟨rfl, xR.at (hP.sub (ws' := []) [] rfl) (hK.sub (tys' := []) [] rfl) hU hW⟩⟩ rfl rfl hl.1 rfl (lv_room (Nat.le_of_ble_eq_true rfl)) dX11_rule_1 ⟨Nat.le_of_ble_eq_true rfl, Nat.le_of_ble_eq_true rfl⟩) hS (fun q _ h => h.elim) (fun q h => h.elim) (fun r_1 u t H locs ht hvm hw hB hz1 hk1 hS => ?_)
  have hw_2 := hw
  have hP := xR.keep hP hk1
  rcases hw_2 with ⟨ht1, rfl⟩ | ⟨ht1, rfl⟩
  · have _ := ht1
    refine lv_if_eq (tgt := 28) hx hb dX11_rule_4 (by decide) (fun c_4 => ?_) (fun c_4 => absurd c_4 (by decide))
    refine lv_iconst (v := 0) hx hb dX11_rule_28 (by decide) ?_
    exact W.zret (v := 0) hx hb hr rfl (fun t ht hW => ⟨⟨0, (), rfl, Or.inl ⟨Or.inl ht1, rfl⟩, trivial⟩, hS.F ht⟩) hS.2.2 dX11_rule_29
  · have _ := ht1
    refine lv_if_eq (tgt := 28) hx hb dX11_rule_4 (by decide) (fun c_4 => absurd c_4 (by decide)) (fun c_4 => ?_)
    refine lv_iload_n hx hb dX11_rule_7 rfl (lv_at hl 2 rfl) ?_
    refine va_calli (va_runS (As := [.int x2]) (rest := []) ⟨hx, hb, hml, hown, hts⟩ (c_X11_isTongue l dC dI x2 ) (va_cwS 1 hts gX11_rule_X11_isTongue rfl rfl rfl (by decide +kernel) ⟨Nat.le_of_ble_eq_true rfl, Nat.le_of_ble_eq_true rfl⟩) ⟨fb_R, fun U hU hW => ⟨rfl, xR.at (hP.sub (ws' := []) [] rfl) (hK.sub (tys' := []) [] rfl) hU hW⟩⟩ rfl rfl hl.1 rfl (lv_room (Nat.le_of_ble_eq_true rfl)) dX11_rule_8 ⟨Nat.le_of_ble_eq_true rfl, Nat.le_of_ble_eq_true rfl⟩) hS (fun q _ h => h.elim) (fun q h => h.elim) (fun r_3 u t H locs ht hvm hw hB hz1 hk1 hS => ?_)
    have hw_4 := hw
    have hP := xR.keep hP hk1
    rcases hw_4 with ⟨ht2, rfl⟩ | ⟨ht2, rfl⟩
    · have _ := ht2
      refine lv_if_eq (tgt := 28) hx hb dX11_rule_11 (by decide) (fun c_11 => ?_) (fun c_11 => absurd c_11 (by decide))
      refine lv_iconst (v := 0) hx hb dX11_rule_28 (by decide) ?_
      exact W.zret (v := 0) hx hb hr rfl (fun t ht hW => ⟨⟨0, (), rfl, Or.inl ⟨Or.inr (Or.inl ht2), rfl⟩, trivial⟩, hS.F ht⟩) hS.2.2 dX11_rule_29
    · have _ := ht2
      refine lv_if_eq (tgt := 28) hx hb dX11_rule_11 (by decide) (fun c_11 => absurd c_11 (by decide)) (fun c_11 => ?_)
      refine lv_iload_n hx hb dX11_rule_14 rfl (lv_at hl 1 rfl) ?_
      refine lv_iload_n hx hb dX11_rule_15 rfl (lv_at hl 2 rfl) ?_
      refine lv_icmp_eq (tgt := 28) hx hb dX11_rule_16 (by decide) (fun c_16 => ?_) (fun c_16 => ?_)
      · refine lv_iconst (v := 0) hx hb dX11_rule_28 (by decide) ?_
        exact W.zret (v := 0) hx hb hr rfl (fun t ht hW => ⟨⟨0, (), rfl, Or.inl ⟨Or.inr (Or.inr (Or.inl c_16)), rfl⟩, trivial⟩, hS.F ht⟩) hS.2.2 dX11_rule_29
      · refine lv_iload_n hx hb dX11_rule_19 rfl (lv_at hl 3 rfl) ?_
        refine lv_if_lt (tgt := 28) hx hb dX11_rule_20 (by decide) (fun c_20 => ?_) (fun c_20 => ?_)
        · refine lv_iconst (v := 0) hx hb dX11_rule_28 (by decide) ?_
          exact W.zret (v := 0) hx hb hr rfl (fun t ht hW => ⟨⟨0, (), rfl, Or.inl ⟨Or.inr (Or.inr (Or.inr (Or.inl c_20))), rfl⟩, trivial⟩, hS.F ht⟩) hS.2.2 dX11_rule_29
        · refine lv_iload_n hx hb dX11_rule_23 rfl (lv_at hl 3 rfl) ?_
          refine lv_iconst (v := 2) hx hb dX11_rule_24 (by decide) ?_
          refine lv_icmp_le (tgt := 30) hx hb dX11_rule_25 (by decide) (fun c_25 => ?_) (fun c_25 => ?_)
          · refine lv_aload_n hx hb dX11_rule_30 rfl (lv_at hl 0 rfl) ?_
            refine va_get (D := (dC, dI)) (ci := 10) (v := .ref v_borders) (C := RX11) (T := TX11) (N := 9) hx hb hts in_X11_rule_RX11 hown hK hP 0 rfl rfl 4 (by decide) (hts (.fieldLink RX11 30 "FourTongues" "borders" "LFourTongues$Borders;") (by decide +kernel)) (fun _ h9 => h9) rfl dX11_rule_31 ?_
            refine lv_iload_n hx hb dX11_rule_34 rfl (lv_at hl 1 rfl) ?_
            refine lv_iload_n hx hb dX11_rule_35 rfl (lv_at hl 2 rfl) ?_
            refine lv_iload_n hx hb dX11_rule_36 rfl (lv_at hl 3 rfl) ?_
            have hPc := hP.sub (ws' := [(v_borders, .inr (0, [.ref b_rules, .ref b_defaults, .ref b_entryBorders, .ref b_entryWhats, .ref b_entryAs, .int 0])), (b_rules, .inl (c_b_rules, 16, .inl f_rules))]) [1, 2] rfl
            have hDc := hD.sub (ws' := [(v_borders, .inr (0, [.ref b_rules, .ref b_defaults, .ref b_entryBorders, .ref b_entryWhats, .ref b_entryAs, .int 0])), (b_rules, .inl (c_b_rules, 16, .inl f_rules))]) [1, 2] (by decide) rfl
            have hKc := hK.sub (tys' := [(c_b_rules, .int)]) [0] rfl
            have hFc := va_free (wc := [(v_borders, .inr (0, [.ref b_rules, .ref b_defaults, .ref b_entryBorders, .ref b_entryWhats, .ref b_entryAs, .int 0])), (b_rules, .inl (c_b_rules, 16, .inl f_rules))]) hD hS hA [1, 2] rfl
            refine va_callv (va_runV (As := [.int x1, .int x2, .int x3]) (rest := []) ⟨hx, hb, hml, hown, hts⟩ (c_X0_setRule l dC dI H.size v_borders b_rules b_defaults b_entryBorders b_entryWhats b_entryAs c_b_rules f_rules x1 x2 x3 ht1 ht2) (cwV 3 hts gX11_rule_X0_setRule rfl rfl rfl (by decide +kernel) ⟨Nat.le_of_ble_eq_true rfl, Nat.le_of_ble_eq_true rfl⟩) ⟨fb_M, va_recv hK hP (ci := 0) (q0 := 1) rfl rfl, fun U hU hW => ⟨rfl, xM.at hPc hKc hDc hU hW⟩⟩ rfl rfl hl.1 rfl (lv_room (Nat.le_of_ble_eq_true rfl)) dX11_rule_37 ⟨Nat.le_of_ble_eq_true rfl, Nat.le_of_ble_eq_true rfl⟩) hS (fun q _ h => hFc q h) hFc (fun u t H locs ht hvm hw hB hz1 hk1 hS => ?_)
            obtain ⟨hP, hD, hK⟩ := xB.join (wr := [(h0, .inr (10, [.ref v_tape, .int 0, .int 0, .ref v_names, .ref v_borders, .ref v_programs, .ref v_draft, .ref v_parser, .ref v_machine]))]) (w1 := []) hP hD hK [1, 2] [0] rfl rfl (by decide) (by decide) hk1 hFc (xB.nil hvm hK) ht hvm
            have hP : va_P (dC, dI) vwCl [(h0, .inr (10, [.ref v_tape, .int 0, .int 0, .ref v_names, .ref v_borders, .ref v_programs, .ref v_draft, .ref v_parser, .ref v_machine]))] _ := hP
            have hD : va_D A [(h0, .inr (10, [.ref v_tape, .int 0, .int 0, .ref v_names, .ref v_borders, .ref v_programs, .ref v_draft, .ref v_parser, .ref v_machine]))] := hD
            have hK : va_K (dC, dI) vwCl [(c_b_rules, .int)] s := hK
            refine lv_iconst (v := 1) hx hb dX11_rule_40 (by decide) ?_
            exact W.zret (v := 1) hx hb hr rfl (fun t ht hW => ⟨⟨1, (), rfl, Or.inr ⟨fun q => q.elim ht1 (fun q => q.elim ht2 (fun q => q.elim c_16 (fun q => q.elim c_20 (fun q => q c_25)))), rfl⟩, trivial⟩, hS.F ht⟩) hS.2.2 dX11_rule_41
          · refine lv_iconst (v := 0) hx hb dX11_rule_28 (by decide) ?_
            exact W.zret (v := 0) hx hb hr rfl (fun t ht hW => ⟨⟨0, (), rfl, Or.inl ⟨Or.inr (Or.inr (Or.inr (Or.inr c_25))), rfl⟩, trivial⟩, hS.F ht⟩) hS.2.2 dX11_rule_29

set_option maxHeartbeats 4000000 in
set_option maxRecDepth 100000 in
theorem c_X11_canFail (l : Launch) (dC : Nat → ClassId) (dI : Nat → Nat → Nat) (h0 : Nat) (v_tape : Nat) (v_names : Nat) (v_borders : Nat) (v_programs : Nat) (v_draft : Nat) (v_parser : Nat) (v_machine : Nat) (n_packed : Nat) (n_above : Nat) (n_keptAbove : Nat) (x1 : Int32) (x2 : Int32) : Met l yX11_canFail wsX11_canFail ({ frames := 1, cells := 0, slots := 0, locals := 20 }) (va_Pc [.ref h0, .int x1, .int x2] (fun U => xR (dC, dI) [(h0, .inr (10, [.ref v_tape, .int 0, .int 0, .ref v_names, .ref v_borders, .ref v_programs, .ref v_draft, .ref v_parser, .ref v_machine])), (v_names, .inr (5, [.ref n_packed, .ref n_above, .ref n_keptAbove, .int 11, .int 0]))] [] U)) (va_Qi (fun (r : Int32) (_ : Unit) => (¬ cf x1 x2 ∧ r = 0) ∨ (cf x1 x2 ∧ r = 1)) (fun (_ : Unit) _ => True) (fun _ => False)) 0 0 (fun _ => False) := by
  refine Met.ofW (cc := cX11_canFail) (maxL := 3) (ret := (some .boolean)) (by decide) rfl ?_
  intro p e s m args below meth c s₁ B hml hv
  obtain ⟨rfl, hP, hK⟩ := hv
  have hx := B.exec
  have hb := B.bytes
  have hr := B.returns
  have hts := atoms_spec (ws := wsX11_canFail) B.pre
  have hown : s.vm.findClass RX11 = some m.cls := findClass_of_methodNamed B.named
  have hlocks := B.notSynchronized
  have hS : va_S (fun _ => False) s.heap s.heap [] := va_S.rf
  have hl := lv_entry ([.ref h0, .int x1, .int x2]) (n := 3) (Nat.le_of_ble_eq_true rfl)
  rw [lg_entry_eq]
  generalize (lg_sl ([.ref h0, .int x1, .int x2]) ++ List.replicate (3 - (lg_sl ([.ref h0, .int x1, .int x2])).length) Slot.unset).toArray = ls at hl ⊢
  have hl : lv_has ls 3 [(0, .ref h0), (1, .int x1), (2, .int x2)] := hl
  refine lv_iload_n hx hb dX11_canFail_0 rfl (lv_at hl 1 rfl) ?_
  refine lv_iconst (v := 1) hx hb dX11_canFail_1 (by decide) ?_
  refine lv_icmp_ne (tgt := 15) hx hb dX11_canFail_2 (by decide) (fun c_2 => ?_) (fun c_2 => ?_)
  · refine lv_iload_n hx hb dX11_canFail_15 rfl (lv_at hl 2 rfl) ?_
    refine lv_iconst (v := 1) hx hb dX11_canFail_16 (by decide) ?_
    refine lv_icmp_lt (tgt := 35) hx hb dX11_canFail_17 (by decide) (fun c_17 => ?_) (fun c_17 => ?_)
    · refine lv_iconst (v := 0) hx hb dX11_canFail_35 (by decide) ?_
      exact W.zret (v := 0) hx hb hr rfl (fun t ht hW => ⟨⟨0, (), rfl, Or.inl ⟨fun q => q.elim (fun z => c_2 z.1) (fun z => z.2.1 c_17), rfl⟩, trivial⟩, hS.F ht⟩) hS.2.2 dX11_canFail_36
    · refine lv_iload_n hx hb dX11_canFail_20 rfl (lv_at hl 2 rfl) ?_
      refine lv_aload_n hx hb dX11_canFail_21 rfl (lv_at hl 0 rfl) ?_
      refine va_get (D := (dC, dI)) (ci := 10) (v := .ref v_names) (C := RX11) (T := TX11) (N := 9) hx hb hts in_X11_canFail_RX11 hown hK hP 0 rfl rfl 3 (by decide) (hts (.fieldLink RX11 23 "FourTongues" "names" "LFourTongues$Names;") (by decide +kernel)) (fun _ h9 => h9) rfl dX11_canFail_22 ?_
      refine va_calli (va_runV (As := []) (rest := [.int x2]) ⟨hx, hb, hml, hown, hts⟩ (c_X5_inAll l dC dI v_names n_packed n_above n_keptAbove ) (cwV 0 hts gX11_canFail_X5_inAll rfl rfl rfl (by decide +kernel) ⟨Nat.le_of_ble_eq_true rfl, Nat.le_of_ble_eq_true rfl⟩) ⟨fb_R, va_recv hK hP (ci := 5) (q0 := 1) rfl rfl, fun U hU hW => ⟨rfl, xR.at (hP.sub (ws' := [(v_names, .inr (5, [.ref n_packed, .ref n_above, .ref n_keptAbove, .int 11, .int 0]))]) [1] rfl) (hK.sub (tys' := []) [] rfl) hU hW⟩⟩ rfl rfl hl.1 rfl (lv_room (Nat.le_of_ble_eq_true rfl)) dX11_canFail_25 ⟨Nat.le_of_ble_eq_true rfl, Nat.le_of_ble_eq_true rfl⟩) hS (fun q _ h => h.elim) (fun q h => h.elim) (fun r_1 u t H locs ht hvm hw hB hz1 hk1 hS => ?_)
      have hw_2 := hw
      have hP := xR.keep hP hk1
      subst hw_2
      refine lv_icmp_gt (tgt := 35) hx hb dX11_canFail_28 (by decide) (fun c_28 => ?_) (fun c_28 => ?_)
      · refine lv_iconst (v := 0) hx hb dX11_canFail_35 (by decide) ?_
        exact W.zret (v := 0) hx hb hr rfl (fun t ht hW => ⟨⟨0, (), rfl, Or.inl ⟨fun q => q.elim (fun z => c_2 z.1) (fun z => z.2.2 c_28), rfl⟩, trivial⟩, hS.F ht⟩) hS.2.2 dX11_canFail_36
      · refine lv_iconst (v := 1) hx hb dX11_canFail_31 (by decide) ?_
        refine lv_goto (tgt := 36) hx hb dX11_canFail_32 (by decide) ?_
        exact W.zret (v := 1) hx hb hr rfl (fun t ht hW => ⟨⟨1, (), rfl, Or.inr ⟨Or.inr ⟨c_2, c_17, c_28⟩, rfl⟩, trivial⟩, hS.F ht⟩) hS.2.2 dX11_canFail_36
  · refine lv_iload_n hx hb dX11_canFail_5 rfl (lv_at hl 2 rfl) ?_
    refine lv_if_eq (tgt := 13) hx hb dX11_canFail_6 (by decide) (fun c_6 => ?_) (fun c_6 => ?_)
    · refine lv_iconst (v := 0) hx hb dX11_canFail_13 (by decide) ?_
      exact W.zret (v := 0) hx hb hr rfl (fun t ht hW => ⟨⟨0, (), rfl, Or.inl ⟨fun q => q.elim (fun z => z.2 c_6) (fun z => z.1 c_2), rfl⟩, trivial⟩, hS.F ht⟩) hS.2.2 dX11_canFail_14
    · refine lv_iconst (v := 1) hx hb dX11_canFail_9 (by decide) ?_
      refine lv_goto (tgt := 14) hx hb dX11_canFail_10 (by decide) ?_
      exact W.zret (v := 1) hx hb hr rfl (fun t ht hW => ⟨⟨1, (), rfl, Or.inr ⟨Or.inl ⟨c_2, c_6⟩, rfl⟩, trivial⟩, hS.F ht⟩) hS.2.2 dX11_canFail_14

set_option maxHeartbeats 4000000 in
set_option maxRecDepth 100000 in
theorem c_X0_find (l : Launch) (dC : Nat → ClassId) (dI : Nat → Nat → Nat) (h0 : Nat) (b_rules : Nat) (b_defaults : Nat) (b_entryBorders : Nat) (b_entryWhats : Nat) (b_entryAs : Nat) (x1 : Int32) (x2 : Int32) (x3 : Int32) : Met l yX0_find wsX0_find ({ frames := 1, cells := 0, slots := 0, locals := 21 }) (va_Pc [.ref h0, .int x1, .int x2, .int x3] (fun U => xR (dC, dI) [(h0, .inr (0, [.ref b_rules, .ref b_defaults, .ref b_entryBorders, .ref b_entryWhats, .ref b_entryAs, .int 0]))] [] U)) (va_Qi (fun (r : Int32) (_ : Unit) => r = -1) (fun (_ : Unit) _ => True) (fun _ => False)) 0 0 (fun _ => False) := by
  refine Met.ofW (cc := cX0_find) (maxL := 6) (ret := (some .int)) (by decide) rfl ?_
  intro p e s m args below meth c s₁ B hml hv
  obtain ⟨rfl, hP, hK⟩ := hv
  have hx := B.exec
  have hb := B.bytes
  have hr := B.returns
  have hts := atoms_spec (ws := wsX0_find) B.pre
  have hown : s.vm.findClass RX0 = some m.cls := findClass_of_methodNamed B.named
  have hlocks := B.notSynchronized
  have hS : va_S (fun _ => False) s.heap s.heap [] := va_S.rf
  have hl := lv_entry ([.ref h0, .int x1, .int x2, .int x3]) (n := 6) (Nat.le_of_ble_eq_true rfl)
  rw [lg_entry_eq]
  generalize (lg_sl ([.ref h0, .int x1, .int x2, .int x3]) ++ List.replicate (6 - (lg_sl ([.ref h0, .int x1, .int x2, .int x3])).length) Slot.unset).toArray = ls at hl ⊢
  have hl : lv_has ls 6 [(0, .ref h0), (1, .int x1), (2, .int x2), (3, .int x3)] := hl
  refine lv_iload_n hx hb dX0_find_0 rfl (lv_at hl 1 rfl) ?_
  refine lv_iload_n hx hb dX0_find_1 rfl (lv_at hl 2 rfl) ?_
  refine va_calli (va_runS (As := [.int x1, .int x2]) (rest := []) ⟨hx, hb, hml, hown, hts⟩ (c_X0_border l dC dI x1 x2 ) (va_cwS 2 hts gX0_find_X0_border rfl rfl rfl (by decide +kernel) ⟨Nat.le_of_ble_eq_true rfl, Nat.le_of_ble_eq_true rfl⟩) ⟨fb_R, fun U hU hW => ⟨rfl, xR.at (hP.sub (ws' := []) [] rfl) (hK.sub (tys' := []) [] rfl) hU hW⟩⟩ rfl rfl hl.1 rfl (lv_room (Nat.le_of_ble_eq_true rfl)) dX0_find_2 ⟨Nat.le_of_ble_eq_true rfl, Nat.le_of_ble_eq_true rfl⟩) hS (fun q _ h => h.elim) (fun q h => h.elim) (fun r_1 u t H locs ht hvm hw hB hz1 hk1 hS => ?_)
  have hw_2 := hw
  have hP := xR.keep hP hk1
  refine lv_istore (lv' := [(4, .int r_1), (0, .ref h0), (1, .int x1), (2, .int x2), (3, .int x3)]) hx hb dX0_find_5 hl (by decide) rfl (fun ls hl => ?_)
  refine lv_iconst (v := 0) hx hb dX0_find_7 (by decide) ?_
  refine lv_istore (lv' := [(5, .int 0), (4, .int r_1), (0, .ref h0), (1, .int x1), (2, .int x2), (3, .int x3)]) hx hb dX0_find_8 hl (by decide) rfl (fun ls hl => ?_)
  refine lv_iload hx hb dX0_find_10 (lv_at hl 0 rfl) ?_
  refine lv_aload_n hx hb dX0_find_12 rfl (lv_at hl 2 rfl) ?_
  refine va_get (D := (dC, dI)) (ci := 0) (v := .int 0) (C := RX0) (T := TX0) (N := 6) hx hb hts in_X0_find_RX0 hown hK hP 0 rfl rfl 5 (by decide) (hts (.fieldLink RX0 27 "FourTongues$Borders" "entries" "I") (by decide +kernel)) (fun _ h9 => h9) rfl dX0_find_13 ?_
  refine lv_icmp_ge (tgt := 51) hx hb dX0_find_16 (by decide) (fun c_16 => ?_) (fun c_16 => absurd c_16 (by decide))
  refine lv_iconst (v := (-1)) hx hb dX0_find_51 (by decide) ?_
  exact W.iret (v := (-1)) hx hb hr (fun t ht hW => ⟨⟨(-1), (), rfl, rfl, trivial⟩, hS.F ht⟩) hS.2.2 dX0_find_52

set_option maxHeartbeats 4000000 in
set_option maxRecDepth 100000 in
theorem c_X0_setEntry (l : Launch) (dC : Nat → ClassId) (dI : Nat → Nat → Nat) (sz : Nat) (h0 : Nat) (b_rules : Nat) (b_defaults : Nat) (b_entryBorders : Nat) (b_entryWhats : Nat) (b_entryAs : Nat) (c_b_entryBorders : ClassId) (f_entryBorders : Nat → Int32) (c_b_entryWhats : ClassId) (f_entryWhats : Nat → Int32) (c_b_entryAs : ClassId) (f_entryAs : Nat → Int32) (x1 : Int32) (x2 : Int32) (x3 : Int32) (x4 : Int32) : Met l yX0_setEntry wsX0_setEntry ({ frames := 2, cells := 0, slots := 0, locals := 46 }) (va_Pc [.ref h0, .int x1, .int x2, .int x3, .int x4] (fun U => xM (dC, dI) sz [(h0, .inr (0, [.ref b_rules, .ref b_defaults, .ref b_entryBorders, .ref b_entryWhats, .ref b_entryAs, .int 0])), (b_entryBorders, .inl (c_b_entryBorders, 100, .inl f_entryBorders)), (b_entryWhats, .inl (c_b_entryWhats, 100, .inl f_entryWhats)), (b_entryAs, .inl (c_b_entryAs, 100, .inl f_entryAs))] [(c_b_entryBorders, .int), (c_b_entryWhats, .int), (c_b_entryAs, .int)] U)) (va_Qi (fun (r : Int32) (_ : Unit) => r = 1) (fun (_ : Unit) _ => True) (va_A [(h0, .inr (0, [.ref b_rules, .ref b_defaults, .ref b_entryBorders, .ref b_entryWhats, .ref b_entryAs, .int 0])), (b_entryBorders, .inl (c_b_entryBorders, 100, .inl f_entryBorders)), (b_entryWhats, .inl (c_b_entryWhats, 100, .inl f_entryWhats)), (b_entryAs, .inl (c_b_entryAs, 100, .inl f_entryAs))] sz)) 0 0 (va_A [(h0, .inr (0, [.ref b_rules, .ref b_defaults, .ref b_entryBorders, .ref b_entryWhats, .ref b_entryAs, .int 0])), (b_entryBorders, .inl (c_b_entryBorders, 100, .inl f_entryBorders)), (b_entryWhats, .inl (c_b_entryWhats, 100, .inl f_entryWhats)), (b_entryAs, .inl (c_b_entryAs, 100, .inl f_entryAs))] sz) := by
  refine Met.ofW (cc := cX0_setEntry) (maxL := 6) (ret := (some .boolean)) (by decide) rfl ?_
  intro p e s m args below meth c s₁ B hml hv
  obtain ⟨rfl, hsz, hP, hK, hD0⟩ := hv
  have hx := B.exec
  have hb := B.bytes
  have hr := B.returns
  have hts := atoms_spec (ws := wsX0_setEntry) B.pre
  have hown : s.vm.findClass RX0 = some m.cls := findClass_of_methodNamed B.named
  have hlocks := B.notSynchronized
  subst hsz
  have hD := hD0.self (sz := s.heap.size)
  generalize hAe : va_A [(h0, .inr (0, [.ref b_rules, .ref b_defaults, .ref b_entryBorders, .ref b_entryWhats, .ref b_entryAs, .int 0])), (b_entryBorders, .inl (c_b_entryBorders, 100, .inl f_entryBorders)), (b_entryWhats, .inl (c_b_entryWhats, 100, .inl f_entryWhats)), (b_entryAs, .inl (c_b_entryAs, 100, .inl f_entryAs))] s.heap.size = A at hD ⊢
  have hA : ∀ q : Nat, s.heap.size ≤ q → A q := fun q h => by rw [← hAe]; exact Or.inr h
  have hS : va_S A s.heap s.heap [] := va_S.rf
  have hl := lv_entry ([.ref h0, .int x1, .int x2, .int x3, .int x4]) (n := 6) (Nat.le_of_ble_eq_true rfl)
  rw [lg_entry_eq]
  generalize (lg_sl ([.ref h0, .int x1, .int x2, .int x3, .int x4]) ++ List.replicate (6 - (lg_sl ([.ref h0, .int x1, .int x2, .int x3, .int x4])).length) Slot.unset).toArray = ls at hl ⊢
  have hl : lv_has ls 6 [(0, .ref h0), (1, .int x1), (2, .int x2), (3, .int x3), (4, .int x4)] := hl
  refine lv_aload_n hx hb dX0_setEntry_0 rfl (lv_at hl 0 rfl) ?_
  refine lv_iload_n hx hb dX0_setEntry_1 rfl (lv_at hl 1 rfl) ?_
  refine lv_iload_n hx hb dX0_setEntry_2 rfl (lv_at hl 2 rfl) ?_
  refine lv_iload_n hx hb dX0_setEntry_3 rfl (lv_at hl 3 rfl) ?_
  refine va_calli (va_runV (As := [.int x1, .int x2, .int x3]) (rest := []) ⟨hx, hb, hml, hown, hts⟩ (c_X0_find l dC dI h0 b_rules b_defaults b_entryBorders b_entryWhats b_entryAs x1 x2 x3 ) (cwV 3 hts gX0_setEntry_X0_find rfl rfl rfl (by decide +kernel) ⟨Nat.le_of_ble_eq_true rfl, Nat.le_of_ble_eq_true rfl⟩) ⟨fb_R, va_recv hK hP (ci := 0) (q0 := 0) rfl rfl, fun U hU hW => ⟨rfl, xR.at (hP.sub (ws' := [(h0, .inr (0, [.ref b_rules, .ref b_defaults, .ref b_entryBorders, .ref b_entryWhats, .ref b_entryAs, .int 0]))]) [0] rfl) (hK.sub (tys' := []) [] rfl) hU hW⟩⟩ rfl rfl hl.1 rfl (lv_room (Nat.le_of_ble_eq_true rfl)) dX0_setEntry_4 ⟨Nat.le_of_ble_eq_true rfl, Nat.le_of_ble_eq_true rfl⟩) hS (fun q _ h => h.elim) (fun q h => h.elim) (fun r_1 u t H locs ht hvm hw hB hz1 hk1 hS => ?_)
  have hw_2 := hw
  have hP := xR.keep hP hk1
  subst hw_2
  refine lv_istore (lv' := [(5, .int (-1)), (0, .ref h0), (1, .int x1), (2, .int x2), (3, .int x3), (4, .int x4)]) hx hb dX0_setEntry_7 hl (by decide) rfl (fun ls hl => ?_)
  refine lv_iload hx hb dX0_setEntry_9 (lv_at hl 0 rfl) ?_
  refine lv_if_ge (tgt := 41) hx hb dX0_setEntry_11 (by decide) (fun c_11 => absurd c_11 (by decide)) (fun c_11 => ?_)
  refine lv_aload_n hx hb dX0_setEntry_14 rfl (lv_at hl 1 rfl) ?_
  refine va_get (D := (dC, dI)) (ci := 0) (v := .int 0) (C := RX0) (T := TX0) (N := 6) hx hb hts in_X0_setEntry_RX0 hown hK hP 0 rfl rfl 5 (by decide) (hts (.fieldLink RX0 27 "FourTongues$Borders" "entries" "I") (by decide +kernel)) (fun _ h9 => h9) rfl dX0_setEntry_15 ?_
  refine lv_bipush (v := 100) hx hb dX0_setEntry_18 (by decide) ?_
  refine lv_icmp_lt (tgt := 25) hx hb dX0_setEntry_20 (by decide) (fun c_20 => ?_) (fun c_20 => absurd c_20 (by decide))
  refine lv_aload_n hx hb dX0_setEntry_25 rfl (lv_at hl 1 rfl) ?_
  refine va_get (D := (dC, dI)) (ci := 0) (v := .int 0) (C := RX0) (T := TX0) (N := 6) hx hb hts in_X0_setEntry_RX0 hown hK hP 0 rfl rfl 5 (by decide) (hts (.fieldLink RX0 27 "FourTongues$Borders" "entries" "I") (by decide +kernel)) (fun _ h9 => h9) rfl dX0_setEntry_26 ?_
  refine lv_istore (lv' := [(5, .int 0), (0, .ref h0), (1, .int x1), (2, .int x2), (3, .int x3), (4, .int x4)]) hx hb dX0_setEntry_29 hl (by decide) rfl (fun ls hl => ?_)
  refine lv_aload_n hx hb dX0_setEntry_31 rfl (lv_at hl 1 rfl) ?_
  refine lv_dup hx hb dX0_setEntry_32 rfl ?_
  refine va_get (D := (dC, dI)) (ci := 0) (v := .int 0) (C := RX0) (T := TX0) (N := 6) hx hb hts in_X0_setEntry_RX0 hown hK hP 0 rfl rfl 5 (by decide) (hts (.fieldLink RX0 27 "FourTongues$Borders" "entries" "I") (by decide +kernel)) (fun _ h9 => h9) rfl dX0_setEntry_33 ?_
  refine lv_iconst (v := 1) hx hb dX0_setEntry_36 (by decide) ?_
  refine lv_iadd hx hb dX0_setEntry_37 ?_
  refine my_ti (v := 1) (by decide) ?_
  refine va_put (D := (dC, dI)) (ci := 0) (v := .int 1) (ty := .int) (C := RX0) (T := TX0) (N := 6) hx hb hts in_X0_setEntry_RX0 tyX0 tyX0_ok nmX0 hown hK hP hD hS 0 rfl rfl 5 (by decide) (hts (.fieldLink RX0 27 "FourTongues$Borders" "entries" "I") (by decide +kernel)) (fun _ h9 => h9) rfl (by decide +kernel) rfl rfl (Nat.le_of_ble_eq_true rfl) dX0_setEntry_38 (fun H locs hP hD hS => ?_)
  have hP : va_P (dC, dI) vwCl [(h0, .inr (0, [.ref b_rules, .ref b_defaults, .ref b_entryBorders, .ref b_entryWhats, .ref b_entryAs, .int 1])), (b_entryBorders, .inl (c_b_entryBorders, 100, .inl f_entryBorders)), (b_entryWhats, .inl (c_b_entryWhats, 100, .inl f_entryWhats)), (b_entryAs, .inl (c_b_entryAs, 100, .inl f_entryAs))] _ := hP
  have hD : va_D A [(h0, .inr (0, [.ref b_rules, .ref b_defaults, .ref b_entryBorders, .ref b_entryWhats, .ref b_entryAs, .int 1])), (b_entryBorders, .inl (c_b_entryBorders, 100, .inl f_entryBorders)), (b_entryWhats, .inl (c_b_entryWhats, 100, .inl f_entryWhats)), (b_entryAs, .inl (c_b_entryAs, 100, .inl f_entryAs))] := hD
  refine lv_aload_n hx hb dX0_setEntry_41 rfl (lv_at hl 1 rfl) ?_
  refine va_get (D := (dC, dI)) (ci := 0) (v := .ref b_entryBorders) (C := RX0) (T := TX0) (N := 6) hx hb hts in_X0_setEntry_RX0 hown hK hP 0 rfl rfl 2 (by decide) (hts (.fieldLink RX0 18 "FourTongues$Borders" "entryBorders" "[I") (by decide +kernel)) (fun _ h9 => h9) rfl dX0_setEntry_42 ?_
  refine lv_iload hx hb dX0_setEntry_45 (lv_at hl 0 rfl) ?_
  refine lv_iload_n hx hb dX0_setEntry_47 rfl (lv_at hl 2 rfl) ?_
  refine lv_iload_n hx hb dX0_setEntry_48 rfl (lv_at hl 3 rfl) ?_
  refine va_calli (va_runS (As := [.int x1, .int x2]) (rest := [.int 0, .ref b_entryBorders]) ⟨hx, hb, hml, hown, hts⟩ (c_X0_border l dC dI x1 x2 ) (va_cwS 2 hts gX0_setEntry_X0_border rfl rfl rfl (by decide +kernel) ⟨Nat.le_of_ble_eq_true rfl, Nat.le_of_ble_eq_true rfl⟩) ⟨fb_R, fun U hU hW => ⟨rfl, xR.at (hP.sub (ws' := []) [] rfl) (hK.sub (tys' := []) [] rfl) hU hW⟩⟩ rfl rfl hl.1 rfl (lv_room (Nat.le_of_ble_eq_true rfl)) dX0_setEntry_49 ⟨Nat.le_of_ble_eq_true rfl, Nat.le_of_ble_eq_true rfl⟩) hS (fun q _ h => h.elim) (fun q h => h.elim) (fun r_3 u t H locs ht hvm hw hB hz1 hk1 hS => ?_)
  have hw_4 := hw
  have hP := xR.keep hP hk1
  refine va_iast hx hb hK hP hD hS 1 0 rfl rfl (by unfold vp_in; decide) dX0_setEntry_52 (fun H locs hP hD hS => ?_)
  obtain ⟨f_5, ef_5⟩ : ∃ y : Nat → Int32, y = upd f_entryBorders ((0 : Int32).toNatClampNeg) r_3 := ⟨_, rfl⟩
  rw [← ef_5] at hP hD
  have hP : va_P (dC, dI) vwCl [(h0, .inr (0, [.ref b_rules, .ref b_defaults, .ref b_entryBorders, .ref b_entryWhats, .ref b_entryAs, .int 1])), (b_entryBorders, .inl (c_b_entryBorders, 100, .inl f_5)), (b_entryWhats, .inl (c_b_entryWhats, 100, .inl f_entryWhats)), (b_entryAs, .inl (c_b_entryAs, 100, .inl f_entryAs))] _ := hP
  have hD : va_D A [(h0, .inr (0, [.ref b_rules, .ref b_defaults, .ref b_entryBorders, .ref b_entryWhats, .ref b_entryAs, .int 1])), (b_entryBorders, .inl (c_b_entryBorders, 100, .inl f_5)), (b_entryWhats, .inl (c_b_entryWhats, 100, .inl f_entryWhats)), (b_entryAs, .inl (c_b_entryAs, 100, .inl f_entryAs))] := hD
  refine lv_aload_n hx hb dX0_setEntry_53 rfl (lv_at hl 1 rfl) ?_
  refine va_get (D := (dC, dI)) (ci := 0) (v := .ref b_entryWhats) (C := RX0) (T := TX0) (N := 6) hx hb hts in_X0_setEntry_RX0 hown hK hP 0 rfl rfl 3 (by decide) (hts (.fieldLink RX0 21 "FourTongues$Borders" "entryWhats" "[I") (by decide +kernel)) (fun _ h9 => h9) rfl dX0_setEntry_54 ?_
  refine lv_iload hx hb dX0_setEntry_57 (lv_at hl 0 rfl) ?_
  refine lv_iload_n hx hb dX0_setEntry_59 rfl (lv_at hl 4 rfl) ?_
  refine va_iast hx hb hK hP hD hS 2 1 rfl rfl (by unfold vp_in; decide) dX0_setEntry_60 (fun H locs hP hD hS => ?_)
  obtain ⟨f_6, ef_6⟩ : ∃ y : Nat → Int32, y = upd f_entryWhats ((0 : Int32).toNatClampNeg) x3 := ⟨_, rfl⟩
  rw [← ef_6] at hP hD
  have hP : va_P (dC, dI) vwCl [(h0, .inr (0, [.ref b_rules, .ref b_defaults, .ref b_entryBorders, .ref b_entryWhats, .ref b_entryAs, .int 1])), (b_entryBorders, .inl (c_b_entryBorders, 100, .inl f_5)), (b_entryWhats, .inl (c_b_entryWhats, 100, .inl f_6)), (b_entryAs, .inl (c_b_entryAs, 100, .inl f_entryAs))] _ := hP
  have hD : va_D A [(h0, .inr (0, [.ref b_rules, .ref b_defaults, .ref b_entryBorders, .ref b_entryWhats, .ref b_entryAs, .int 1])), (b_entryBorders, .inl (c_b_entryBorders, 100, .inl f_5)), (b_entryWhats, .inl (c_b_entryWhats, 100, .inl f_6)), (b_entryAs, .inl (c_b_entryAs, 100, .inl f_entryAs))] := hD
  refine lv_aload_n hx hb dX0_setEntry_61 rfl (lv_at hl 1 rfl) ?_
  refine va_get (D := (dC, dI)) (ci := 0) (v := .ref b_entryAs) (C := RX0) (T := TX0) (N := 6) hx hb hts in_X0_setEntry_RX0 hown hK hP 0 rfl rfl 4 (by decide) (hts (.fieldLink RX0 24 "FourTongues$Borders" "entryAs" "[I") (by decide +kernel)) (fun _ h9 => h9) rfl dX0_setEntry_62 ?_
  refine lv_iload hx hb dX0_setEntry_65 (lv_at hl 0 rfl) ?_
  refine lv_iload hx hb dX0_setEntry_67 (lv_at hl 5 rfl) ?_
  refine va_iast hx hb hK hP hD hS 3 2 rfl rfl (by unfold vp_in; decide) dX0_setEntry_69 (fun H locs hP hD hS => ?_)
  obtain ⟨f_7, ef_7⟩ : ∃ y : Nat → Int32, y = upd f_entryAs ((0 : Int32).toNatClampNeg) x4 := ⟨_, rfl⟩
  rw [← ef_7] at hP hD
  have hP : va_P (dC, dI) vwCl [(h0, .inr (0, [.ref b_rules, .ref b_defaults, .ref b_entryBorders, .ref b_entryWhats, .ref b_entryAs, .int 1])), (b_entryBorders, .inl (c_b_entryBorders, 100, .inl f_5)), (b_entryWhats, .inl (c_b_entryWhats, 100, .inl f_6)), (b_entryAs, .inl (c_b_entryAs, 100, .inl f_7))] _ := hP
  have hD : va_D A [(h0, .inr (0, [.ref b_rules, .ref b_defaults, .ref b_entryBorders, .ref b_entryWhats, .ref b_entryAs, .int 1])), (b_entryBorders, .inl (c_b_entryBorders, 100, .inl f_5)), (b_entryWhats, .inl (c_b_entryWhats, 100, .inl f_6)), (b_entryAs, .inl (c_b_entryAs, 100, .inl f_7))] := hD
  refine lv_iconst (v := 1) hx hb dX0_setEntry_70 (by decide) ?_
  exact W.zret (v := 1) hx hb hr rfl (fun t ht hW => ⟨⟨1, (), rfl, rfl, trivial⟩, hS.F ht⟩) hS.2.2 dX0_setEntry_71

set_option maxHeartbeats 4000000 in
set_option maxRecDepth 100000 in
theorem c_X11_entry (l : Launch) (dC : Nat → ClassId) (dI : Nat → Nat → Nat) (sz : Nat) (h0 : Nat) (v_tape : Nat) (v_names : Nat) (v_borders : Nat) (v_programs : Nat) (v_draft : Nat) (v_parser : Nat) (v_machine : Nat) (n_packed : Nat) (n_above : Nat) (n_keptAbove : Nat) (b_rules : Nat) (b_defaults : Nat) (b_entryBorders : Nat) (b_entryWhats : Nat) (b_entryAs : Nat) (c_b_defaults : ClassId) (f_defaults : Nat → Int32) (c_b_entryBorders : ClassId) (f_entryBorders : Nat → Int32) (c_b_entryWhats : ClassId) (f_entryWhats : Nat → Int32) (c_b_entryAs : ClassId) (f_entryAs : Nat → Int32) (x1 : Int32) (x2 : Int32) (x3 : Int32) (x4 : Int32) : Met l yX11_entry wsX11_entry ({ frames := 3, cells := 0, slots := 0, locals := 71 }) (va_Pc [.ref h0, .int x1, .int x2, .int x3, .int x4] (fun U => xM (dC, dI) sz [(h0, .inr (10, [.ref v_tape, .int 0, .int 0, .ref v_names, .ref v_borders, .ref v_programs, .ref v_draft, .ref v_parser, .ref v_machine])), (v_names, .inr (5, [.ref n_packed, .ref n_above, .ref n_keptAbove, .int 11, .int 0])), (v_borders, .inr (0, [.ref b_rules, .ref b_defaults, .ref b_entryBorders, .ref b_entryWhats, .ref b_entryAs, .int 0])), (b_defaults, .inl (c_b_defaults, 16, .inl f_defaults)), (b_entryBorders, .inl (c_b_entryBorders, 100, .inl f_entryBorders)), (b_entryWhats, .inl (c_b_entryWhats, 100, .inl f_entryWhats)), (b_entryAs, .inl (c_b_entryAs, 100, .inl f_entryAs))] [(c_b_defaults, .int), (c_b_entryBorders, .int), (c_b_entryWhats, .int), (c_b_entryAs, .int)] U)) (va_Qi (fun (r : Int32) (_ : Unit) => (enC x1 x2 x3 x4 ∧ r = 0) ∨ (¬ enC x1 x2 x3 x4 ∧ r = 1)) (fun (_ : Unit) _ => True) (va_A [(h0, .inr (10, [.ref v_tape, .int 0, .int 0, .ref v_names, .ref v_borders, .ref v_programs, .ref v_draft, .ref v_parser, .ref v_machine])), (v_names, .inr (5, [.ref n_packed, .ref n_above, .ref n_keptAbove, .int 11, .int 0])), (v_borders, .inr (0, [.ref b_rules, .ref b_defaults, .ref b_entryBorders, .ref b_entryWhats, .ref b_entryAs, .int 0])), (b_defaults, .inl (c_b_defaults, 16, .inl f_defaults)), (b_entryBorders, .inl (c_b_entryBorders, 100, .inl f_entryBorders)), (b_entryWhats, .inl (c_b_entryWhats, 100, .inl f_entryWhats)), (b_entryAs, .inl (c_b_entryAs, 100, .inl f_entryAs))] sz)) 0 0 (va_A [(h0, .inr (10, [.ref v_tape, .int 0, .int 0, .ref v_names, .ref v_borders, .ref v_programs, .ref v_draft, .ref v_parser, .ref v_machine])), (v_names, .inr (5, [.ref n_packed, .ref n_above, .ref n_keptAbove, .int 11, .int 0])), (v_borders, .inr (0, [.ref b_rules, .ref b_defaults, .ref b_entryBorders, .ref b_entryWhats, .ref b_entryAs, .int 0])), (b_defaults, .inl (c_b_defaults, 16, .inl f_defaults)), (b_entryBorders, .inl (c_b_entryBorders, 100, .inl f_entryBorders)), (b_entryWhats, .inl (c_b_entryWhats, 100, .inl f_entryWhats)), (b_entryAs, .inl (c_b_entryAs, 100, .inl f_entryAs))] sz) := by
  refine Met.ofW (cc := cX11_entry) (maxL := 5) (ret := (some .boolean)) (by decide) rfl ?_
  intro p e s m args below meth c s₁ B hml hv
  obtain ⟨rfl, hsz, hP, hK, hD0⟩ := hv
  have hx := B.exec
  have hb := B.bytes
  have hr := B.returns
  have hts := atoms_spec (ws := wsX11_entry) B.pre
  have hown : s.vm.findClass RX11 = some m.cls := findClass_of_methodNamed B.named
  have hlocks := B.notSynchronized
  subst hsz
  have hD := hD0.self (sz := s.heap.size)
  generalize hAe : va_A [(h0, .inr (10, [.ref v_tape, .int 0, .int 0, .ref v_names, .ref v_borders, .ref v_programs, .ref v_draft, .ref v_parser, .ref v_machine])), (v_names, .inr (5, [.ref n_packed, .ref n_above, .ref n_keptAbove, .int 11, .int 0])), (v_borders, .inr (0, [.ref b_rules, .ref b_defaults, .ref b_entryBorders, .ref b_entryWhats, .ref b_entryAs, .int 0])), (b_defaults, .inl (c_b_defaults, 16, .inl f_defaults)), (b_entryBorders, .inl (c_b_entryBorders, 100, .inl f_entryBorders)), (b_entryWhats, .inl (c_b_entryWhats, 100, .inl f_entryWhats)), (b_entryAs, .inl (c_b_entryAs, 100, .inl f_entryAs))] s.heap.size = A at hD ⊢
  have hA : ∀ q : Nat, s.heap.size ≤ q → A q := fun q h => by rw [← hAe]; exact Or.inr h
  have hS : va_S A s.heap s.heap [] := va_S.rf
  have hl := lv_entry ([.ref h0, .int x1, .int x2, .int x3, .int x4]) (n := 5) (Nat.le_of_ble_eq_true rfl)
  rw [lg_entry_eq]
  generalize (lg_sl ([.ref h0, .int x1, .int x2, .int x3, .int x4]) ++ List.replicate (5 - (lg_sl ([.ref h0, .int x1, .int x2, .int x3, .int x4])).length) Slot.unset).toArray = ls at hl ⊢
  have hl : lv_has ls 5 [(0, .ref h0), (1, .int x1), (2, .int x2), (3, .int x3), (4, .int x4)] := hl
  refine lv_iload_n hx hb dX11_entry_0 rfl (lv_at hl 1 rfl) ?_
  refine va_calli (va_runS (As := [.int x1]) (rest := []) ⟨hx, hb, hml, hown, hts⟩ (c_X11_isTongue l dC dI x1 ) (va_cwS 1 hts gX11_entry_X11_isTongue rfl rfl rfl (by decide +kernel) ⟨Nat.le_of_ble_eq_true rfl, Nat.le_of_ble_eq_true rfl⟩) ⟨fb_R, fun U hU hW => ⟨rfl, xR.at (hP.sub (ws' := []) [] rfl) (hK.sub (tys' := []) [] rfl) hU hW⟩⟩ rfl rfl hl.1 rfl (lv_room (Nat.le_of_ble_eq_true rfl)) dX11_entry_1 ⟨Nat.le_of_ble_eq_true rfl, Nat.le_of_ble_eq_true rfl⟩) hS (fun q _ h => h.elim) (fun q h => h.elim) (fun r_1 u t H locs ht hvm hw hB hz1 hk1 hS => ?_)
  have hw_2 := hw
  have hP := xR.keep hP hk1
  rcases hw_2 with ⟨ht1, rfl⟩ | ⟨ht1, rfl⟩
  · have _ := ht1
    refine lv_if_eq (tgt := 19) hx hb dX11_entry_4 (by decide) (fun c_4 => ?_) (fun c_4 => absurd c_4 (by decide))
    refine lv_iconst (v := 0) hx hb dX11_entry_19 (by decide) ?_
    exact W.zret (v := 0) hx hb hr rfl (fun t ht hW => ⟨⟨0, (), rfl, Or.inl ⟨Or.inl ht1, rfl⟩, trivial⟩, hS.F ht⟩) hS.2.2 dX11_entry_20
  · have _ := ht1
    refine lv_if_eq (tgt := 19) hx hb dX11_entry_4 (by decide) (fun c_4 => absurd c_4 (by decide)) (fun c_4 => ?_)
    refine lv_iload_n hx hb dX11_entry_7 rfl (lv_at hl 2 rfl) ?_
    refine va_calli (va_runS (As := [.int x2]) (rest := []) ⟨hx, hb, hml, hown, hts⟩ (c_X11_isTongue l dC dI x2 ) (va_cwS 1 hts gX11_entry_X11_isTongue rfl rfl rfl (by decide +kernel) ⟨Nat.le_of_ble_eq_true rfl, Nat.le_of_ble_eq_true rfl⟩) ⟨fb_R, fun U hU hW => ⟨rfl, xR.at (hP.sub (ws' := []) [] rfl) (hK.sub (tys' := []) [] rfl) hU hW⟩⟩ rfl rfl hl.1 rfl (lv_room (Nat.le_of_ble_eq_true rfl)) dX11_entry_8 ⟨Nat.le_of_ble_eq_true rfl, Nat.le_of_ble_eq_true rfl⟩) hS (fun q _ h => h.elim) (fun q h => h.elim) (fun r_3 u t H locs ht hvm hw hB hz1 hk1 hS => ?_)
    have hw_4 := hw
    have hP := xR.keep hP hk1
    rcases hw_4 with ⟨ht2, rfl⟩ | ⟨ht2, rfl⟩
    · have _ := ht2
      refine lv_if_eq (tgt := 19) hx hb dX11_entry_11 (by decide) (fun c_11 => ?_) (fun c_11 => absurd c_11 (by decide))
      refine lv_iconst (v := 0) hx hb dX11_entry_19 (by decide) ?_
      exact W.zret (v := 0) hx hb hr rfl (fun t ht hW => ⟨⟨0, (), rfl, Or.inl ⟨Or.inr (Or.inl ht2), rfl⟩, trivial⟩, hS.F ht⟩) hS.2.2 dX11_entry_20
    · have _ := ht2
      refine lv_if_eq (tgt := 19) hx hb dX11_entry_11 (by decide) (fun c_11 => absurd c_11 (by decide)) (fun c_11 => ?_)
      refine lv_iload_n hx hb dX11_entry_14 rfl (lv_at hl 1 rfl) ?_
      refine lv_iload_n hx hb dX11_entry_15 rfl (lv_at hl 2 rfl) ?_
      refine lv_icmp_ne (tgt := 21) hx hb dX11_entry_16 (by decide) (fun c_16 => ?_) (fun c_16 => ?_)
      · refine lv_aload_n hx hb dX11_entry_21 rfl (lv_at hl 0 rfl) ?_
        refine lv_iload_n hx hb dX11_entry_22 rfl (lv_at hl 2 rfl) ?_
        refine lv_iload hx hb dX11_entry_23 (lv_at hl 4 rfl) ?_
        refine va_calli (va_runV (As := [.int x2, .int x4]) (rest := []) ⟨hx, hb, hml, hown, hts⟩ (c_X11_canFail l dC dI h0 v_tape v_names v_borders v_programs v_draft v_parser v_machine n_packed n_above n_keptAbove x2 x4 ) (cwV 2 hts gX11_entry_X11_canFail rfl rfl rfl (by decide +kernel) ⟨Nat.le_of_ble_eq_true rfl, Nat.le_of_ble_eq_true rfl⟩) ⟨fb_R, va_recv hK hP (ci := 10) (q0 := 0) rfl rfl, fun U hU hW => ⟨rfl, xR.at (hP.sub (ws' := [(h0, .inr (10, [.ref v_tape, .int 0, .int 0, .ref v_names, .ref v_borders, .ref v_programs, .ref v_draft, .ref v_parser, .ref v_machine])), (v_names, .inr (5, [.ref n_packed, .ref n_above, .ref n_keptAbove, .int 11, .int 0]))]) [0, 1] rfl) (hK.sub (tys' := []) [] rfl) hU hW⟩⟩ rfl rfl hl.1 rfl (lv_room (Nat.le_of_ble_eq_true rfl)) dX11_entry_25 ⟨Nat.le_of_ble_eq_true rfl, Nat.le_of_ble_eq_true rfl⟩) hS (fun q _ h => h.elim) (fun q h => h.elim) (fun r_5 u t H locs ht hvm hw hB hz1 hk1 hS => ?_)
        have hw_6 := hw
        have hP := xR.keep hP hk1
        rcases hw_6 with ⟨hc1, rfl⟩ | ⟨hc1, rfl⟩
        · have _ := hc1
          refine lv_if_ne (tgt := 33) hx hb dX11_entry_28 (by decide) (fun c_28 => absurd c_28 (by decide)) (fun c_28 => ?_)
          refine lv_iconst (v := 0) hx hb dX11_entry_31 (by decide) ?_
          exact W.zret (v := 0) hx hb hr rfl (fun t ht hW => ⟨⟨0, (), rfl, Or.inl ⟨Or.inr (Or.inr (Or.inr (Or.inl hc1))), rfl⟩, trivial⟩, hS.F ht⟩) hS.2.2 dX11_entry_32
        · have _ := hc1
          refine lv_if_ne (tgt := 33) hx hb dX11_entry_28 (by decide) (fun c_28 => ?_) (fun c_28 => absurd c_28 (by decide))
          refine lv_iload_n hx hb dX11_entry_33 rfl (lv_at hl 3 rfl) ?_
          refine lv_if_ne (tgt := 50) hx hb dX11_entry_34 (by decide) (fun c_34 => ?_) (fun c_34 => ?_)
          · refine lv_aload_n hx hb dX11_entry_50 rfl (lv_at hl 0 rfl) ?_
            refine lv_iload_n hx hb dX11_entry_51 rfl (lv_at hl 1 rfl) ?_
            refine lv_iload_n hx hb dX11_entry_52 rfl (lv_at hl 3 rfl) ?_
            refine va_calli (va_runV (As := [.int x1, .int x3]) (rest := []) ⟨hx, hb, hml, hown, hts⟩ (c_X11_canFail l dC dI h0 v_tape v_names v_borders v_programs v_draft v_parser v_machine n_packed n_above n_keptAbove x1 x3 ) (cwV 2 hts gX11_entry_X11_canFail rfl rfl rfl (by decide +kernel) ⟨Nat.le_of_ble_eq_true rfl, Nat.le_of_ble_eq_true rfl⟩) ⟨fb_R, va_recv hK hP (ci := 10) (q0 := 0) rfl rfl, fun U hU hW => ⟨rfl, xR.at (hP.sub (ws' := [(h0, .inr (10, [.ref v_tape, .int 0, .int 0, .ref v_names, .ref v_borders, .ref v_programs, .ref v_draft, .ref v_parser, .ref v_machine])), (v_names, .inr (5, [.ref n_packed, .ref n_above, .ref n_keptAbove, .int 11, .int 0]))]) [0, 1] rfl) (hK.sub (tys' := []) [] rfl) hU hW⟩⟩ rfl rfl hl.1 rfl (lv_room (Nat.le_of_ble_eq_true rfl)) dX11_entry_53 ⟨Nat.le_of_ble_eq_true rfl, Nat.le_of_ble_eq_true rfl⟩) hS (fun q _ h => h.elim) (fun q h => h.elim) (fun r_7 u t H locs ht hvm hw hB hz1 hk1 hS => ?_)
            have hw_8 := hw
            have hP := xR.keep hP hk1
            rcases hw_8 with ⟨hc2, rfl⟩ | ⟨hc2, rfl⟩
            · have _ := hc2
              refine lv_if_eq (tgt := 78) hx hb dX11_entry_56 (by decide) (fun c_56 => ?_) (fun c_56 => absurd c_56 (by decide))
              refine lv_iconst (v := 0) hx hb dX11_entry_78 (by decide) ?_
              exact W.zret (v := 0) hx hb hr rfl (fun t ht hW => ⟨⟨0, (), rfl, Or.inl ⟨Or.inr (Or.inr (Or.inr (Or.inr ⟨c_34, hc2⟩))), rfl⟩, trivial⟩, hS.F ht⟩) hS.2.2 dX11_entry_79
            · have _ := hc2
              refine lv_if_eq (tgt := 78) hx hb dX11_entry_56 (by decide) (fun c_56 => absurd c_56 (by decide)) (fun c_56 => ?_)
              refine lv_aload_n hx hb dX11_entry_59 rfl (lv_at hl 0 rfl) ?_
              refine va_get (D := (dC, dI)) (ci := 10) (v := .ref v_borders) (C := RX11) (T := TX11) (N := 9) hx hb hts in_X11_entry_RX11 hown hK hP 0 rfl rfl 4 (by decide) (hts (.fieldLink RX11 30 "FourTongues" "borders" "LFourTongues$Borders;") (by decide +kernel)) (fun _ h9 => h9) rfl dX11_entry_60 ?_
              refine lv_iload_n hx hb dX11_entry_63 rfl (lv_at hl 1 rfl) ?_
              refine lv_iload_n hx hb dX11_entry_64 rfl (lv_at hl 2 rfl) ?_
              refine lv_iload_n hx hb dX11_entry_65 rfl (lv_at hl 3 rfl) ?_
              refine lv_iload hx hb dX11_entry_66 (lv_at hl 4 rfl) ?_
              have hPc := hP.sub (ws' := [(v_borders, .inr (0, [.ref b_rules, .ref b_defaults, .ref b_entryBorders, .ref b_entryWhats, .ref b_entryAs, .int 0])), (b_entryBorders, .inl (c_b_entryBorders, 100, .inl f_entryBorders)), (b_entryWhats, .inl (c_b_entryWhats, 100, .inl f_entryWhats)), (b_entryAs, .inl (c_b_entryAs, 100, .inl f_entryAs))]) [2, 4, 5, 6] rfl
              have hDc := hD.sub (ws' := [(v_borders, .inr (0, [.ref b_rules, .ref b_defaults, .ref b_entryBorders, .ref b_entryWhats, .ref b_entryAs, .int 0])), (b_entryBorders, .inl (c_b_entryBorders, 100, .inl f_entryBorders)), (b_entryWhats, .inl (c_b_entryWhats, 100, .inl f_entryWhats)), (b_entryAs, .inl (c_b_entryAs, 100, .inl f_entryAs))]) [2, 4, 5, 6] (by decide) rfl
              have hKc := hK.sub (tys' := [(c_b_entryBorders, .int), (c_b_entryWhats, .int), (c_b_entryAs, .int)]) [1, 2, 3] rfl
              have hFc := va_free (wc := [(v_borders, .inr (0, [.ref b_rules, .ref b_defaults, .ref b_entryBorders, .ref b_entryWhats, .ref b_entryAs, .int 0])), (b_entryBorders, .inl (c_b_entryBorders, 100, .inl f_entryBorders)), (b_entryWhats, .inl (c_b_entryWhats, 100, .inl f_entryWhats)), (b_entryAs, .inl (c_b_entryAs, 100, .inl f_entryAs))]) hD hS hA [2, 4, 5, 6] rfl
              refine va_calli (va_runV (As := [.int x1, .int x2, .int x3, .int x4]) (rest := []) ⟨hx, hb, hml, hown, hts⟩ (c_X0_setEntry l dC dI H.size v_borders b_rules b_defaults b_entryBorders b_entryWhats b_entryAs c_b_entryBorders f_entryBorders c_b_entryWhats f_entryWhats c_b_entryAs f_entryAs x1 x2 x3 x4 ) (cwV 4 hts gX11_entry_X0_setEntry rfl rfl rfl (by decide +kernel) ⟨Nat.le_of_ble_eq_true rfl, Nat.le_of_ble_eq_true rfl⟩) ⟨fb_M, va_recv hK hP (ci := 0) (q0 := 2) rfl rfl, fun U hU hW => ⟨rfl, xM.at hPc hKc hDc hU hW⟩⟩ rfl rfl hl.1 rfl (lv_room (Nat.le_of_ble_eq_true rfl)) dX11_entry_68 ⟨Nat.le_of_ble_eq_true rfl, Nat.le_of_ble_eq_true rfl⟩) hS (fun q _ h => hFc q h) hFc (fun r_9 u t H locs ht hvm hw hB hz1 hk1 hS => ?_)
              have hw_10 := hw
              obtain ⟨hP, hD, hK⟩ := xB.join (wr := [(h0, .inr (10, [.ref v_tape, .int 0, .int 0, .ref v_names, .ref v_borders, .ref v_programs, .ref v_draft, .ref v_parser, .ref v_machine])), (v_names, .inr (5, [.ref n_packed, .ref n_above, .ref n_keptAbove, .int 11, .int 0])), (b_defaults, .inl (c_b_defaults, 16, .inl f_defaults))]) (w1 := []) hP hD hK [2, 4, 5, 6] [0, 1, 3] rfl rfl (by decide) (by decide) hk1 hFc (xB.nil hvm hK) ht hvm
              have hP : va_P (dC, dI) vwCl [(h0, .inr (10, [.ref v_tape, .int 0, .int 0, .ref v_names, .ref v_borders, .ref v_programs, .ref v_draft, .ref v_parser, .ref v_machine])), (v_names, .inr (5, [.ref n_packed, .ref n_above, .ref n_keptAbove, .int 11, .int 0])), (b_defaults, .inl (c_b_defaults, 16, .inl f_defaults))] _ := hP
              have hD : va_D A [(h0, .inr (10, [.ref v_tape, .int 0, .int 0, .ref v_names, .ref v_borders, .ref v_programs, .ref v_draft, .ref v_parser, .ref v_machine])), (v_names, .inr (5, [.ref n_packed, .ref n_above, .ref n_keptAbove, .int 11, .int 0])), (b_defaults, .inl (c_b_defaults, 16, .inl f_defaults))] := hD
              have hK : va_K (dC, dI) vwCl [(c_b_defaults, .int), (c_b_entryBorders, .int), (c_b_entryWhats, .int), (c_b_entryAs, .int)] s := hK
              subst hw_10
              refine lv_if_eq (tgt := 78) hx hb dX11_entry_71 (by decide) (fun c_71 => absurd c_71 (by decide)) (fun c_71 => ?_)
              refine lv_iconst (v := 1) hx hb dX11_entry_74 (by decide) ?_
              refine lv_goto (tgt := 79) hx hb dX11_entry_75 (by decide) ?_
              exact W.zret (v := 1) hx hb hr rfl (fun t ht hW => ⟨⟨1, (), rfl, Or.inr ⟨fun q => q.elim ht1 (fun q => q.elim ht2 (fun q => q.elim c_16 (fun q => q.elim (fun z => z hc1) (fun z => z.2 hc2)))), rfl⟩, trivial⟩, hS.F ht⟩) hS.2.2 dX11_entry_79
          · refine lv_aload_n hx hb dX11_entry_37 rfl (lv_at hl 0 rfl) ?_
            refine va_get (D := (dC, dI)) (ci := 10) (v := .ref v_borders) (C := RX11) (T := TX11) (N := 9) hx hb hts in_X11_entry_RX11 hown hK hP 0 rfl rfl 4 (by decide) (hts (.fieldLink RX11 30 "FourTongues" "borders" "LFourTongues$Borders;") (by decide +kernel)) (fun _ h9 => h9) rfl dX11_entry_38 ?_
            refine lv_iload_n hx hb dX11_entry_41 rfl (lv_at hl 1 rfl) ?_
            refine lv_iload_n hx hb dX11_entry_42 rfl (lv_at hl 2 rfl) ?_
            refine lv_iload hx hb dX11_entry_43 (lv_at hl 4 rfl) ?_
            have hPc := hP.sub (ws' := [(v_borders, .inr (0, [.ref b_rules, .ref b_defaults, .ref b_entryBorders, .ref b_entryWhats, .ref b_entryAs, .int 0])), (b_defaults, .inl (c_b_defaults, 16, .inl f_defaults))]) [2, 3] rfl
            have hDc := hD.sub (ws' := [(v_borders, .inr (0, [.ref b_rules, .ref b_defaults, .ref b_entryBorders, .ref b_entryWhats, .ref b_entryAs, .int 0])), (b_defaults, .inl (c_b_defaults, 16, .inl f_defaults))]) [2, 3] (by decide) rfl
            have hKc := hK.sub (tys' := [(c_b_defaults, .int)]) [0] rfl
            have hFc := va_free (wc := [(v_borders, .inr (0, [.ref b_rules, .ref b_defaults, .ref b_entryBorders, .ref b_entryWhats, .ref b_entryAs, .int 0])), (b_defaults, .inl (c_b_defaults, 16, .inl f_defaults))]) hD hS hA [2, 3] rfl
            refine va_callv (va_runV (As := [.int x1, .int x2, .int x4]) (rest := []) ⟨hx, hb, hml, hown, hts⟩ (c_X0_setDefault l dC dI H.size v_borders b_rules b_defaults b_entryBorders b_entryWhats b_entryAs c_b_defaults f_defaults x1 x2 x4 ht1 ht2) (cwV 3 hts gX11_entry_X0_setDefault rfl rfl rfl (by decide +kernel) ⟨Nat.le_of_ble_eq_true rfl, Nat.le_of_ble_eq_true rfl⟩) ⟨fb_M, va_recv hK hP (ci := 0) (q0 := 2) rfl rfl, fun U hU hW => ⟨rfl, xM.at hPc hKc hDc hU hW⟩⟩ rfl rfl hl.1 rfl (lv_room (Nat.le_of_ble_eq_true rfl)) dX11_entry_45 ⟨Nat.le_of_ble_eq_true rfl, Nat.le_of_ble_eq_true rfl⟩) hS (fun q _ h => hFc q h) hFc (fun u t H locs ht hvm hw hB hz1 hk1 hS => ?_)
            obtain ⟨hP, hD, hK⟩ := xB.join (wr := [(h0, .inr (10, [.ref v_tape, .int 0, .int 0, .ref v_names, .ref v_borders, .ref v_programs, .ref v_draft, .ref v_parser, .ref v_machine])), (v_names, .inr (5, [.ref n_packed, .ref n_above, .ref n_keptAbove, .int 11, .int 0])), (b_entryBorders, .inl (c_b_entryBorders, 100, .inl f_entryBorders)), (b_entryWhats, .inl (c_b_entryWhats, 100, .inl f_entryWhats)), (b_entryAs, .inl (c_b_entryAs, 100, .inl f_entryAs))]) (w1 := []) hP hD hK [2, 3] [0, 1, 4, 5, 6] rfl rfl (by decide) (by decide) hk1 hFc (xB.nil hvm hK) ht hvm
            have hP : va_P (dC, dI) vwCl [(h0, .inr (10, [.ref v_tape, .int 0, .int 0, .ref v_names, .ref v_borders, .ref v_programs, .ref v_draft, .ref v_parser, .ref v_machine])), (v_names, .inr (5, [.ref n_packed, .ref n_above, .ref n_keptAbove, .int 11, .int 0])), (b_entryBorders, .inl (c_b_entryBorders, 100, .inl f_entryBorders)), (b_entryWhats, .inl (c_b_entryWhats, 100, .inl f_entryWhats)), (b_entryAs, .inl (c_b_entryAs, 100, .inl f_entryAs))] _ := hP
            have hD : va_D A [(h0, .inr (10, [.ref v_tape, .int 0, .int 0, .ref v_names, .ref v_borders, .ref v_programs, .ref v_draft, .ref v_parser, .ref v_machine])), (v_names, .inr (5, [.ref n_packed, .ref n_above, .ref n_keptAbove, .int 11, .int 0])), (b_entryBorders, .inl (c_b_entryBorders, 100, .inl f_entryBorders)), (b_entryWhats, .inl (c_b_entryWhats, 100, .inl f_entryWhats)), (b_entryAs, .inl (c_b_entryAs, 100, .inl f_entryAs))] := hD
            have hK : va_K (dC, dI) vwCl [(c_b_defaults, .int), (c_b_entryBorders, .int), (c_b_entryWhats, .int), (c_b_entryAs, .int)] s := hK
            refine lv_iconst (v := 1) hx hb dX11_entry_48 (by decide) ?_
            exact W.zret (v := 1) hx hb hr rfl (fun t ht hW => ⟨⟨1, (), rfl, Or.inr ⟨fun q => q.elim ht1 (fun q => q.elim ht2 (fun q => q.elim c_16 (fun q => q.elim (fun z => z hc1) (fun z => z.1 c_34)))), rfl⟩, trivial⟩, hS.F ht⟩) hS.2.2 dX11_entry_49
      · refine lv_iconst (v := 0) hx hb dX11_entry_19 (by decide) ?_
        exact W.zret (v := 0) hx hb hr rfl (fun t ht hW => ⟨⟨0, (), rfl, Or.inl ⟨Or.inr (Or.inr (Or.inl c_16)), rfl⟩, trivial⟩, hS.F ht⟩) hS.2.2 dX11_entry_20

set_option maxHeartbeats 4000000 in
set_option maxRecDepth 100000 in
theorem c_X8_functions (l : Launch) (dC : Nat → ClassId) (dI : Nat → Nat → Nat) (h0 : Nat) (g_code : Nat) (g_constants : Nat) (g_names : Nat) (g_starts : Nat) (g_parameters : Nat) (g_variables : Nat) : Met l yX8_functions wsX8_functions ({ frames := 0, cells := 0, slots := 0, locals := 0 }) (va_Pc [.ref h0] (fun U => xR (dC, dI) [(h0, .inr (7, [.ref g_code, .int 0, .ref g_constants, .ref g_names, .ref g_starts, .ref g_parameters, .ref g_variables, .int 0]))] [] U)) (va_Qi (fun (r : Int32) (_ : Unit) => r = 0) (fun (_ : Unit) _ => True) (fun _ => False)) 0 0 (fun _ => False) := by
  refine Met.ofW (cc := cX8_functions) (maxL := 1) (ret := (some .int)) (by decide) rfl ?_
  intro p e s m args below meth c s₁ B hml hv
  obtain ⟨rfl, hP, hK⟩ := hv
  have hx := B.exec
  have hb := B.bytes
  have hr := B.returns
  have hts := atoms_spec (ws := wsX8_functions) B.pre
  have hown : s.vm.findClass RX8 = some m.cls := findClass_of_methodNamed B.named
  have hlocks := B.notSynchronized
  have hS : va_S (fun _ => False) s.heap s.heap [] := va_S.rf
  have hl := lv_entry ([.ref h0]) (n := 1) (Nat.le_of_ble_eq_true rfl)
  rw [lg_entry_eq]
  generalize (lg_sl ([.ref h0]) ++ List.replicate (1 - (lg_sl ([.ref h0])).length) Slot.unset).toArray = ls at hl ⊢
  have hl : lv_has ls 1 [(0, .ref h0)] := hl
  refine lv_aload_n hx hb dX8_functions_0 rfl (lv_at hl 0 rfl) ?_
  refine va_get (D := (dC, dI)) (ci := 7) (v := .int 0) (C := RX8) (T := TX8) (N := 8) hx hb hts in_X8_functions_RX8 hown hK hP 0 rfl rfl 7 (by decide) (hts (.fieldLink RX8 39 "FourTongues$Program" "functions" "I") (by decide +kernel)) (fun _ h9 => h9) rfl dX8_functions_1 ?_
  exact W.iret (v := 0) hx hb hr (fun t ht hW => ⟨⟨0, (), rfl, rfl, trivial⟩, hS.F ht⟩) hS.2.2 dX8_functions_4

set_option maxHeartbeats 4000000 in
set_option maxRecDepth 100000 in
theorem c_X11_call (l : Launch) (dC : Nat → ClassId) (dI : Nat → Nat → Nat) (h0 : Nat) (v_tape : Nat) (v_names : Nat) (v_borders : Nat) (v_programs : Nat) (v_draft : Nat) (v_parser : Nat) (v_machine : Nat) (c_v_programs : ClassId) (f_prog : Nat → Option Nat) (p0 : Nat) (p0_code : Nat) (p0_constants : Nat) (p0_names : Nat) (p0_starts : Nat) (p0_parameters : Nat) (p0_variables : Nat) (p1 : Nat) (p1_code : Nat) (p1_constants : Nat) (p1_names : Nat) (p1_starts : Nat) (p1_parameters : Nat) (p1_variables : Nat) (p2 : Nat) (p2_code : Nat) (p2_constants : Nat) (p2_names : Nat) (p2_starts : Nat) (p2_parameters : Nat) (p2_variables : Nat) (p3 : Nat) (p3_code : Nat) (p3_constants : Nat) (p3_names : Nat) (p3_starts : Nat) (p3_parameters : Nat) (p3_variables : Nat) (x1 : Int32) (x2 : Int32) (x3 : Int64) (hp0 : f_prog 0 = some p0) (hp1 : f_prog 1 = some p1) (hp2 : f_prog 2 = some p2) (hp3 : f_prog 3 = some p3) : Met l yX11_call wsX11_call ({ frames := 1, cells := 0, slots := 0, locals := 20 }) (va_Pc [.ref h0, .int x1, .int x2, .long x3] (fun U => xR (dC, dI) [(h0, .inr (10, [.ref v_tape, .int 0, .int 0, .ref v_names, .ref v_borders, .ref v_programs, .ref v_draft, .ref v_parser, .ref v_machine])), (v_programs, .inl (c_v_programs, 4, .inr (.inr (.inr (.inr f_prog))))), (p0, .inr (7, [.ref p0_code, .int 0, .ref p0_constants, .ref p0_names, .ref p0_starts, .ref p0_parameters, .ref p0_variables, .int 0])), (p1, .inr (7, [.ref p1_code, .int 0, .ref p1_constants, .ref p1_names, .ref p1_starts, .ref p1_parameters, .ref p1_variables, .int 0])), (p2, .inr (7, [.ref p2_code, .int 0, .ref p2_constants, .ref p2_names, .ref p2_starts, .ref p2_parameters, .ref p2_variables, .int 0])), (p3, .inr (7, [.ref p3_code, .int 0, .ref p3_constants, .ref p3_names, .ref p3_starts, .ref p3_parameters, .ref p3_variables, .int 0]))] [(c_v_programs, .object RX8)] U)) (va_Qi (fun (r : Int32) (_ : Unit) => r = 3) (fun (_ : Unit) _ => True) (fun _ => False)) 0 0 (fun _ => False) := by
  refine Met.ofW (cc := cX11_call) (maxL := 5) (ret := (some .int)) (by decide) rfl ?_
  intro p e s m args below meth c s₁ B hml hv
  obtain ⟨rfl, hP, hK⟩ := hv
  have hx := B.exec
  have hb := B.bytes
  have hr := B.returns
  have hts := atoms_spec (ws := wsX11_call) B.pre
  have hown : s.vm.findClass RX11 = some m.cls := findClass_of_methodNamed B.named
  have hlocks := B.notSynchronized
  have hS : va_S (fun _ => False) s.heap s.heap [] := va_S.rf
  have hl := lv_entry ([.ref h0, .int x1, .int x2, .long x3]) (n := 5) (Nat.le_of_ble_eq_true rfl)
  rw [lg_entry_eq]
  generalize (lg_sl ([.ref h0, .int x1, .int x2, .long x3]) ++ List.replicate (5 - (lg_sl ([.ref h0, .int x1, .int x2, .long x3])).length) Slot.unset).toArray = ls at hl ⊢
  have hl : lv_has ls 5 [(0, .ref h0), (1, .int x1), (2, .int x2), (3, .long x3)] := hl
  refine lv_iload_n hx hb dX11_call_0 rfl (lv_at hl 1 rfl) ?_
  refine va_calli (va_runS (As := [.int x1]) (rest := []) ⟨hx, hb, hml, hown, hts⟩ (c_X11_isTongue l dC dI x1 ) (va_cwS 1 hts gX11_call_X11_isTongue rfl rfl rfl (by decide +kernel) ⟨Nat.le_of_ble_eq_true rfl, Nat.le_of_ble_eq_true rfl⟩) ⟨fb_R, fun U hU hW => ⟨rfl, xR.at (hP.sub (ws' := []) [] rfl) (hK.sub (tys' := []) [] rfl) hU hW⟩⟩ rfl rfl hl.1 rfl (lv_room (Nat.le_of_ble_eq_true rfl)) dX11_call_1 ⟨Nat.le_of_ble_eq_true rfl, Nat.le_of_ble_eq_true rfl⟩) hS (fun q _ h => h.elim) (fun q h => h.elim) (fun r_1 u t H locs ht hvm hw hB hz1 hk1 hS => ?_)
  have hw_2 := hw
  have hP := xR.keep hP hk1
  rcases hw_2 with ⟨ht1, rfl⟩ | ⟨ht1, rfl⟩
  · have _ := ht1
    refine lv_if_eq (tgt := 24) hx hb dX11_call_4 (by decide) (fun c_4 => ?_) (fun c_4 => absurd c_4 (by decide))
    refine lv_iconst (v := 3) hx hb dX11_call_24 (by decide) ?_
    exact W.iret (v := 3) hx hb hr (fun t ht hW => ⟨⟨3, (), rfl, rfl, trivial⟩, hS.F ht⟩) hS.2.2 dX11_call_25
  · have _ := ht1
    refine lv_if_eq (tgt := 24) hx hb dX11_call_4 (by decide) (fun c_4 => absurd c_4 (by decide)) (fun c_4 => ?_)
    refine lv_iload_n hx hb dX11_call_7 rfl (lv_at hl 2 rfl) ?_
    refine lv_if_lt (tgt := 24) hx hb dX11_call_8 (by decide) (fun c_8 => ?_) (fun c_8 => ?_)
    · refine lv_iconst (v := 3) hx hb dX11_call_24 (by decide) ?_
      exact W.iret (v := 3) hx hb hr (fun t ht hW => ⟨⟨3, (), rfl, rfl, trivial⟩, hS.F ht⟩) hS.2.2 dX11_call_25
    · refine lv_iload_n hx hb dX11_call_11 rfl (lv_at hl 2 rfl) ?_
      refine lv_aload_n hx hb dX11_call_12 rfl (lv_at hl 0 rfl) ?_
      refine va_get (D := (dC, dI)) (ci := 10) (v := .ref v_programs) (C := RX11) (T := TX11) (N := 9) hx hb hts in_X11_call_RX11 hown hK hP 0 rfl rfl 5 (by decide) (hts (.fieldLink RX11 36 "FourTongues" "programs" "[LFourTongues$Program;") (by decide +kernel)) (fun _ h9 => h9) rfl dX11_call_13 ?_
      refine lv_iload_n hx hb dX11_call_16 rfl (lv_at hl 1 rfl) ?_
      rcases ng_cases ht1 with rfl | rfl | rfl | rfl
      · have _ := hp0
        refine va_aldq hx hb hK hP 1 0 rfl rfl (by unfold vp_in; decide) dX11_call_17 ?_
        refine my_tv (v := .ref p0) (congrArg va_rf hp0) ?_
        refine va_calli (va_runV (As := []) (rest := [.int x2]) ⟨hx, hb, hml, hown, hts⟩ (c_X8_functions l dC dI p0 p0_code p0_constants p0_names p0_starts p0_parameters p0_variables ) (cwV 0 hts gX11_call_X8_functions rfl rfl rfl (by decide +kernel) ⟨Nat.le_of_ble_eq_true rfl, Nat.le_of_ble_eq_true rfl⟩) ⟨fb_R, va_recv hK hP (ci := 7) (q0 := 2) rfl rfl, fun U hU hW => ⟨rfl, xR.at (hP.sub (ws' := [(p0, .inr (7, [.ref p0_code, .int 0, .ref p0_constants, .ref p0_names, .ref p0_starts, .ref p0_parameters, .ref p0_variables, .int 0]))]) [2] rfl) (hK.sub (tys' := []) [] rfl) hU hW⟩⟩ rfl rfl hl.1 rfl (lv_room (Nat.le_of_ble_eq_true rfl)) dX11_call_18 ⟨Nat.le_of_ble_eq_true rfl, Nat.le_of_ble_eq_true rfl⟩) hS (fun q _ h => h.elim) (fun q h => h.elim) (fun r_3 u t H locs ht hvm hw hB hz1 hk1 hS => ?_)
        have hw_4 := hw
        have hP := xR.keep hP hk1
        subst hw_4
        refine lv_icmp_lt (tgt := 26) hx hb dX11_call_21 (by decide) (fun c_21 => absurd c_21 (c_8)) (fun c_21 => ?_)
        refine lv_iconst (v := 3) hx hb dX11_call_24 (by decide) ?_
        exact W.iret (v := 3) hx hb hr (fun t ht hW => ⟨⟨3, (), rfl, rfl, trivial⟩, hS.F ht⟩) hS.2.2 dX11_call_25
      · have _ := hp1
        refine va_aldq hx hb hK hP 1 0 rfl rfl (by unfold vp_in; decide) dX11_call_17 ?_
        refine my_tv (v := .ref p1) (congrArg va_rf hp1) ?_
        refine va_calli (va_runV (As := []) (rest := [.int x2]) ⟨hx, hb, hml, hown, hts⟩ (c_X8_functions l dC dI p1 p1_code p1_constants p1_names p1_starts p1_parameters p1_variables ) (cwV 0 hts gX11_call_X8_functions rfl rfl rfl (by decide +kernel) ⟨Nat.le_of_ble_eq_true rfl, Nat.le_of_ble_eq_true rfl⟩) ⟨fb_R, va_recv hK hP (ci := 7) (q0 := 3) rfl rfl, fun U hU hW => ⟨rfl, xR.at (hP.sub (ws' := [(p1, .inr (7, [.ref p1_code, .int 0, .ref p1_constants, .ref p1_names, .ref p1_starts, .ref p1_parameters, .ref p1_variables, .int 0]))]) [3] rfl) (hK.sub (tys' := []) [] rfl) hU hW⟩⟩ rfl rfl hl.1 rfl (lv_room (Nat.le_of_ble_eq_true rfl)) dX11_call_18 ⟨Nat.le_of_ble_eq_true rfl, Nat.le_of_ble_eq_true rfl⟩) hS (fun q _ h => h.elim) (fun q h => h.elim) (fun r_5 u t H locs ht hvm hw hB hz1 hk1 hS => ?_)
        have hw_6 := hw
        have hP := xR.keep hP hk1
        subst hw_6
        refine lv_icmp_lt (tgt := 26) hx hb dX11_call_21 (by decide) (fun c_21 => absurd c_21 (c_8)) (fun c_21 => ?_)
        refine lv_iconst (v := 3) hx hb dX11_call_24 (by decide) ?_
        exact W.iret (v := 3) hx hb hr (fun t ht hW => ⟨⟨3, (), rfl, rfl, trivial⟩, hS.F ht⟩) hS.2.2 dX11_call_25
      · have _ := hp2
        refine va_aldq hx hb hK hP 1 0 rfl rfl (by unfold vp_in; decide) dX11_call_17 ?_
        refine my_tv (v := .ref p2) (congrArg va_rf hp2) ?_
        refine va_calli (va_runV (As := []) (rest := [.int x2]) ⟨hx, hb, hml, hown, hts⟩ (c_X8_functions l dC dI p2 p2_code p2_constants p2_names p2_starts p2_parameters p2_variables ) (cwV 0 hts gX11_call_X8_functions rfl rfl rfl (by decide +kernel) ⟨Nat.le_of_ble_eq_true rfl, Nat.le_of_ble_eq_true rfl⟩) ⟨fb_R, va_recv hK hP (ci := 7) (q0 := 4) rfl rfl, fun U hU hW => ⟨rfl, xR.at (hP.sub (ws' := [(p2, .inr (7, [.ref p2_code, .int 0, .ref p2_constants, .ref p2_names, .ref p2_starts, .ref p2_parameters, .ref p2_variables, .int 0]))]) [4] rfl) (hK.sub (tys' := []) [] rfl) hU hW⟩⟩ rfl rfl hl.1 rfl (lv_room (Nat.le_of_ble_eq_true rfl)) dX11_call_18 ⟨Nat.le_of_ble_eq_true rfl, Nat.le_of_ble_eq_true rfl⟩) hS (fun q _ h => h.elim) (fun q h => h.elim) (fun r_7 u t H locs ht hvm hw hB hz1 hk1 hS => ?_)
        have hw_8 := hw
        have hP := xR.keep hP hk1
        subst hw_8
        refine lv_icmp_lt (tgt := 26) hx hb dX11_call_21 (by decide) (fun c_21 => absurd c_21 (c_8)) (fun c_21 => ?_)
        refine lv_iconst (v := 3) hx hb dX11_call_24 (by decide) ?_
        exact W.iret (v := 3) hx hb hr (fun t ht hW => ⟨⟨3, (), rfl, rfl, trivial⟩, hS.F ht⟩) hS.2.2 dX11_call_25
      · have _ := hp3
        refine va_aldq hx hb hK hP 1 0 rfl rfl (by unfold vp_in; decide) dX11_call_17 ?_
        refine my_tv (v := .ref p3) (congrArg va_rf hp3) ?_
        refine va_calli (va_runV (As := []) (rest := [.int x2]) ⟨hx, hb, hml, hown, hts⟩ (c_X8_functions l dC dI p3 p3_code p3_constants p3_names p3_starts p3_parameters p3_variables ) (cwV 0 hts gX11_call_X8_functions rfl rfl rfl (by decide +kernel) ⟨Nat.le_of_ble_eq_true rfl, Nat.le_of_ble_eq_true rfl⟩) ⟨fb_R, va_recv hK hP (ci := 7) (q0 := 5) rfl rfl, fun U hU hW => ⟨rfl, xR.at (hP.sub (ws' := [(p3, .inr (7, [.ref p3_code, .int 0, .ref p3_constants, .ref p3_names, .ref p3_starts, .ref p3_parameters, .ref p3_variables, .int 0]))]) [5] rfl) (hK.sub (tys' := []) [] rfl) hU hW⟩⟩ rfl rfl hl.1 rfl (lv_room (Nat.le_of_ble_eq_true rfl)) dX11_call_18 ⟨Nat.le_of_ble_eq_true rfl, Nat.le_of_ble_eq_true rfl⟩) hS (fun q _ h => h.elim) (fun q h => h.elim) (fun r_9 u t H locs ht hvm hw hB hz1 hk1 hS => ?_)
        have hw_10 := hw
        have hP := xR.keep hP hk1
        subst hw_10
        refine lv_icmp_lt (tgt := 26) hx hb dX11_call_21 (by decide) (fun c_21 => absurd c_21 (c_8)) (fun c_21 => ?_)
        refine lv_iconst (v := 3) hx hb dX11_call_24 (by decide) ?_
        exact W.iret (v := 3) hx hb hr (fun t ht hW => ⟨⟨3, (), rfl, rfl, trivial⟩, hS.F ht⟩) hS.2.2 dX11_call_25

set_option maxHeartbeats 4000000 in
set_option maxRecDepth 100000 in
theorem c_X5_letterOf (l : Launch) (dC : Nat → ClassId) (dI : Nat → Nat → Nat) (h0 : Nat) (n_packed : Nat) (n_above : Nat) (n_keptAbove : Nat) (c_n_packed : ClassId) (f_pack : Nat → Int64) (x1 : Int32) (x2 : Int32) (hf : f_pack = (nmS 63).2.2) : Met l yX5_letterOf wsX5_letterOf ({ frames := 0, cells := 0, slots := 0, locals := 0 }) (va_Pc [.ref h0, .int x1, .int x2] (fun U => xR (dC, dI) [(h0, .inr (5, [.ref n_packed, .ref n_above, .ref n_keptAbove, .int 11, .int 0])), (n_packed, .inl (c_n_packed, 52, .inr (.inl f_pack)))] [(c_n_packed, .long)] U)) (va_Qi (fun (r : Int32) (_ : Unit) => r = ltF x1 x2) (fun (_ : Unit) _ => True) (fun _ => False)) 0 0 (fun _ => False) := by
  refine Met.ofW (cc := cX5_letterOf) (maxL := 6) (ret := (some .int)) (by decide) rfl ?_
  intro p e s m args below meth c s₁ B hml hv
  obtain ⟨rfl, hP, hK⟩ := hv
  have hx := B.exec
  have hb := B.bytes
  have hr := B.returns
  have hts := atoms_spec (ws := wsX5_letterOf) B.pre
  have hown : s.vm.findClass RX5 = some m.cls := findClass_of_methodNamed B.named
  have hlocks := B.notSynchronized
  have hS : va_S (fun _ => False) s.heap s.heap [] := va_S.rf
  have hl := lv_entry ([.ref h0, .int x1, .int x2]) (n := 6) (Nat.le_of_ble_eq_true rfl)
  rw [lg_entry_eq]
  generalize (lg_sl ([.ref h0, .int x1, .int x2]) ++ List.replicate (6 - (lg_sl ([.ref h0, .int x1, .int x2])).length) Slot.unset).toArray = ls at hl ⊢
  have hl : lv_has ls 6 [(0, .ref h0), (1, .int x1), (2, .int x2)] := hl
  refine lv_iload_n hx hb dX5_letterOf_0 rfl (lv_at hl 1 rfl) ?_
  refine lv_iconst (v := 1) hx hb dX5_letterOf_1 (by decide) ?_
  refine lv_icmp_lt (tgt := 23) hx hb dX5_letterOf_2 (by decide) (fun c_2 => ?_) (fun c_2 => ?_)
  · refine lv_iconst (v := (-1)) hx hb dX5_letterOf_23 (by decide) ?_
    exact W.iret (v := (-1)) hx hb hr (fun t ht hW => ⟨⟨(-1), (), rfl, ltF_out (Or.inl c_2), trivial⟩, hS.F ht⟩) hS.2.2 dX5_letterOf_24
  · refine lv_iload_n hx hb dX5_letterOf_5 rfl (lv_at hl 1 rfl) ?_
    refine lv_aload_n hx hb dX5_letterOf_6 rfl (lv_at hl 0 rfl) ?_
    refine va_get (D := (dC, dI)) (ci := 5) (v := .int 11) (C := RX5) (T := TX5) (N := 5) hx hb hts in_X5_letterOf_RX5 hown hK hP 0 rfl rfl 3 (by decide) (hts (.fieldLink RX5 22 "FourTongues$Names" "count" "I") (by decide +kernel)) (fun _ h9 => h9) rfl dX5_letterOf_7 ?_
    refine lv_icmp_gt (tgt := 23) hx hb dX5_letterOf_10 (by decide) (fun c_10 => ?_) (fun c_10 => ?_)
    · refine lv_iconst (v := (-1)) hx hb dX5_letterOf_23 (by decide) ?_
      exact W.iret (v := (-1)) hx hb hr (fun t ht hW => ⟨⟨(-1), (), rfl, ltF_out (Or.inr (Or.inl c_10)), trivial⟩, hS.F ht⟩) hS.2.2 dX5_letterOf_24
    · refine lv_iload_n hx hb dX5_letterOf_13 rfl (lv_at hl 2 rfl) ?_
      refine lv_if_lt (tgt := 23) hx hb dX5_letterOf_14 (by decide) (fun c_14 => ?_) (fun c_14 => ?_)
      · refine lv_iconst (v := (-1)) hx hb dX5_letterOf_23 (by decide) ?_
        exact W.iret (v := (-1)) hx hb hr (fun t ht hW => ⟨⟨(-1), (), rfl, ltF_out (Or.inr (Or.inr (Or.inl c_14))), trivial⟩, hS.F ht⟩) hS.2.2 dX5_letterOf_24
      · refine lv_iload_n hx hb dX5_letterOf_17 rfl (lv_at hl 2 rfl) ?_
        refine lv_bipush (v := 7) hx hb dX5_letterOf_18 (by decide) ?_
        refine lv_icmp_le (tgt := 25) hx hb dX5_letterOf_20 (by decide) (fun c_20 => ?_) (fun c_20 => ?_)
        · rcases cs11 c_2 c_10 with rfl | rfl | rfl | rfl | rfl | rfl | rfl | rfl | rfl | rfl | rfl
          · have _ := hf
            refine lv_iconst (v := 0) hx hb dX5_letterOf_25 (by decide) ?_
            refine lv_istore_n (lv' := [(3, .int 0), (0, .ref h0), (1, .int 1), (2, .int x2)]) hx hb dX5_letterOf_26 rfl hl (by decide) rfl (fun ls hl => ?_)
            refine lv_aload_n hx hb dX5_letterOf_27 rfl (lv_at hl 1 rfl) ?_
            refine va_get (D := (dC, dI)) (ci := 5) (v := .ref n_packed) (C := RX5) (T := TX5) (N := 5) hx hb hts in_X5_letterOf_RX5 hown hK hP 0 rfl rfl 0 (by decide) (hts (.fieldLink RX5 11 "FourTongues$Names" "packed" "[J") (by decide +kernel)) (fun _ h9 => h9) rfl dX5_letterOf_28 ?_
            refine lv_iload_n hx hb dX5_letterOf_31 rfl (lv_at hl 2 rfl) ?_
            refine va_lald hx hb hK hP 1 0 rfl rfl (by unfold vp_in; decide) dX5_letterOf_32 ?_
            refine my_tl (v := 2053468783) (by rw [hf]; decide +kernel) ?_
            refine lv_lstore (lv' := [(4, .long 2053468783), (3, .int 0), (0, .ref h0), (1, .int 1), (2, .int x2)]) hx hb dX5_letterOf_33 hl (by decide) rfl (fun ls hl => ?_)
            refine lv_lload hx hb dX5_letterOf_35 (lv_at hl 0 rfl) ?_
            refine lv_lconst (v := 0) hx hb dX5_letterOf_37 (by decide) ?_
            refine W.lcmp hx hb dX5_letterOf_38 ?_
            refine my_ti (v := 1) (by decide) ?_
            refine lv_if_eq (tgt := 61) hx hb dX5_letterOf_39 (by decide) (fun c_39 => absurd c_39 (by decide)) (fun c_39 => ?_)
            refine lv_iload_n hx hb dX5_letterOf_42 rfl (lv_at hl 1 rfl) ?_
            refine lv_bipush (v := 8) hx hb dX5_letterOf_43 (by decide) ?_
            refine lv_icmp_ge (tgt := 61) hx hb dX5_letterOf_45 (by decide) (fun c_45 => absurd c_45 (by decide)) (fun c_45 => ?_)
            refine lv_iinc (v := 1) (lv' := [(3, .int 1), (4, .long 2053468783), (0, .ref h0), (1, .int 1), (2, .int x2)]) hx hb dX5_letterOf_48 hl (k := 1) rfl (by decide) (by decide) rfl (fun ls hl => ?_)
            refine lv_lload hx hb dX5_letterOf_51 (lv_at hl 1 rfl) ?_
            refine lv_bipush (v := 8) hx hb dX5_letterOf_53 (by decide) ?_
            refine lv_lushr (v := 8021362) hx hb dX5_letterOf_55 (by decide) ?_
            refine lv_lstore (lv' := [(4, .long 8021362), (3, .int 1), (0, .ref h0), (1, .int 1), (2, .int x2)]) hx hb dX5_letterOf_56 hl (by decide) rfl (fun ls hl => ?_)
            refine lv_goto (tgt := 35) hx hb dX5_letterOf_58 (by decide) ?_
            refine lv_lload hx hb dX5_letterOf_35 (lv_at hl 0 rfl) ?_
            refine lv_lconst (v := 0) hx hb dX5_letterOf_37 (by decide) ?_
            refine W.lcmp hx hb dX5_letterOf_38 ?_
            refine my_ti (v := 1) (by decide) ?_
            refine lv_if_eq (tgt := 61) hx hb dX5_letterOf_39 (by decide) (fun c_39 => absurd c_39 (by decide)) (fun c_39 => ?_)
            refine lv_iload_n hx hb dX5_letterOf_42 rfl (lv_at hl 1 rfl) ?_
            refine lv_bipush (v := 8) hx hb dX5_letterOf_43 (by decide) ?_
            refine lv_icmp_ge (tgt := 61) hx hb dX5_letterOf_45 (by decide) (fun c_45 => absurd c_45 (by decide)) (fun c_45 => ?_)
            refine lv_iinc (v := 2) (lv' := [(3, .int 2), (4, .long 8021362), (0, .ref h0), (1, .int 1), (2, .int x2)]) hx hb dX5_letterOf_48 hl (k := 1) rfl (by decide) (by decide) rfl (fun ls hl => ?_)
            refine lv_lload hx hb dX5_letterOf_51 (lv_at hl 1 rfl) ?_
            refine lv_bipush (v := 8) hx hb dX5_letterOf_53 (by decide) ?_
            refine lv_lushr (v := 31333) hx hb dX5_letterOf_55 (by decide) ?_
            refine lv_lstore (lv' := [(4, .long 31333), (3, .int 2), (0, .ref h0), (1, .int 1), (2, .int x2)]) hx hb dX5_letterOf_56 hl (by decide) rfl (fun ls hl => ?_)
            refine lv_goto (tgt := 35) hx hb dX5_letterOf_58 (by decide) ?_
            refine lv_lload hx hb dX5_letterOf_35 (lv_at hl 0 rfl) ?_
            refine lv_lconst (v := 0) hx hb dX5_letterOf_37 (by decide) ?_
            refine W.lcmp hx hb dX5_letterOf_38 ?_
            refine my_ti (v := 1) (by decide) ?_
            refine lv_if_eq (tgt := 61) hx hb dX5_letterOf_39 (by decide) (fun c_39 => absurd c_39 (by decide)) (fun c_39 => ?_)
            refine lv_iload_n hx hb dX5_letterOf_42 rfl (lv_at hl 1 rfl) ?_
            refine lv_bipush (v := 8) hx hb dX5_letterOf_43 (by decide) ?_
            refine lv_icmp_ge (tgt := 61) hx hb dX5_letterOf_45 (by decide) (fun c_45 => absurd c_45 (by decide)) (fun c_45 => ?_)
            refine lv_iinc (v := 3) (lv' := [(3, .int 3), (4, .long 31333), (0, .ref h0), (1, .int 1), (2, .int x2)]) hx hb dX5_letterOf_48 hl (k := 1) rfl (by decide) (by decide) rfl (fun ls hl => ?_)
            refine lv_lload hx hb dX5_letterOf_51 (lv_at hl 1 rfl) ?_
            refine lv_bipush (v := 8) hx hb dX5_letterOf_53 (by decide) ?_
            refine lv_lushr (v := 122) hx hb dX5_letterOf_55 (by decide) ?_
            refine lv_lstore (lv' := [(4, .long 122), (3, .int 3), (0, .ref h0), (1, .int 1), (2, .int x2)]) hx hb dX5_letterOf_56 hl (by decide) rfl (fun ls hl => ?_)
            refine lv_goto (tgt := 35) hx hb dX5_letterOf_58 (by decide) ?_
            refine lv_lload hx hb dX5_letterOf_35 (lv_at hl 0 rfl) ?_
            refine lv_lconst (v := 0) hx hb dX5_letterOf_37 (by decide) ?_
            refine W.lcmp hx hb dX5_letterOf_38 ?_
            refine my_ti (v := 1) (by decide) ?_
            refine lv_if_eq (tgt := 61) hx hb dX5_letterOf_39 (by decide) (fun c_39 => absurd c_39 (by decide)) (fun c_39 => ?_)
            refine lv_iload_n hx hb dX5_letterOf_42 rfl (lv_at hl 1 rfl) ?_
            refine lv_bipush (v := 8) hx hb dX5_letterOf_43 (by decide) ?_
            refine lv_icmp_ge (tgt := 61) hx hb dX5_letterOf_45 (by decide) (fun c_45 => absurd c_45 (by decide)) (fun c_45 => ?_)
            refine lv_iinc (v := 4) (lv' := [(3, .int 4), (4, .long 122), (0, .ref h0), (1, .int 1), (2, .int x2)]) hx hb dX5_letterOf_48 hl (k := 1) rfl (by decide) (by decide) rfl (fun ls hl => ?_)
            refine lv_lload hx hb dX5_letterOf_51 (lv_at hl 1 rfl) ?_
            refine lv_bipush (v := 8) hx hb dX5_letterOf_53 (by decide) ?_
            refine lv_lushr (v := 0) hx hb dX5_letterOf_55 (by decide) ?_
            refine lv_lstore (lv' := [(4, .long 0), (3, .int 4), (0, .ref h0), (1, .int 1), (2, .int x2)]) hx hb dX5_letterOf_56 hl (by decide) rfl (fun ls hl => ?_)
            refine lv_goto (tgt := 35) hx hb dX5_letterOf_58 (by decide) ?_
            refine lv_lload hx hb dX5_letterOf_35 (lv_at hl 0 rfl) ?_
            refine lv_lconst (v := 0) hx hb dX5_letterOf_37 (by decide) ?_
            refine W.lcmp hx hb dX5_letterOf_38 ?_
            refine my_ti (v := 0) (by decide) ?_
            refine lv_if_eq (tgt := 61) hx hb dX5_letterOf_39 (by decide) (fun c_39 => ?_) (fun c_39 => absurd c_39 (by decide))
            refine lv_iload_n hx hb dX5_letterOf_61 rfl (lv_at hl 4 rfl) ?_
            refine lv_iload_n hx hb dX5_letterOf_62 rfl (lv_at hl 1 rfl) ?_
            refine lv_icmp_ge (tgt := 89) hx hb dX5_letterOf_63 (by decide) (fun c_63 => ?_) (fun c_63 => ?_)
            · refine lv_iconst (v := (-1)) hx hb dX5_letterOf_89 (by decide) ?_
              exact W.iret (v := (-1)) hx hb hr (fun t ht hW => ⟨⟨(-1), (), rfl, by rcases cs8 c_14 c_20 with rfl | rfl | rfl | rfl | rfl | rfl | rfl | rfl <;> first | (exact absurd c_63 (by decide)) | decide +kernel, trivial⟩, hS.F ht⟩) hS.2.2 dX5_letterOf_90
            · refine lv_aload_n hx hb dX5_letterOf_66 rfl (lv_at hl 2 rfl) ?_
              refine va_get (D := (dC, dI)) (ci := 5) (v := .ref n_packed) (C := RX5) (T := TX5) (N := 5) hx hb hts in_X5_letterOf_RX5 hown hK hP 0 rfl rfl 0 (by decide) (hts (.fieldLink RX5 11 "FourTongues$Names" "packed" "[J") (by decide +kernel)) (fun _ h9 => h9) rfl dX5_letterOf_67 ?_
              refine lv_iload_n hx hb dX5_letterOf_70 rfl (lv_at hl 3 rfl) ?_
              refine va_lald hx hb hK hP 1 0 rfl rfl (by unfold vp_in; decide) dX5_letterOf_71 ?_
              refine my_tl (v := 2053468783) (by rw [hf]; decide +kernel) ?_
              refine lv_bipush (v := 8) hx hb dX5_letterOf_72 (by decide) ?_
              refine lv_iload_n hx hb dX5_letterOf_74 rfl (lv_at hl 1 rfl) ?_
              refine lv_iconst (v := 1) hx hb dX5_letterOf_75 (by decide) ?_
              refine lv_isub hx hb dX5_letterOf_76 ?_
              refine my_ti (v := 3) (by decide) ?_
              refine lv_iload_n hx hb dX5_letterOf_77 rfl (lv_at hl 4 rfl) ?_
              refine lv_isub hx hb dX5_letterOf_78 ?_
              refine lv_imul hx hb dX5_letterOf_79 ?_
              refine lv_lushr (v := ((2053468783 : Int64).toUInt64 >>> ((8 * (3 - x2) : Int32).toInt64.toUInt64 &&& Int64.toUInt64 63)).toInt64) hx hb dX5_letterOf_80 rfl ?_
              refine lv_ldc2 hx hb hown (hts (.constantLong RX5 47 (255)) (by decide +kernel)) dX5_letterOf_81 ?_
              refine lv_land hx hb dX5_letterOf_84 ?_
              refine lv_l2i (v := ((((2053468783 : Int64).toUInt64 >>> ((8 * (3 - x2) : Int32).toInt64.toUInt64 &&& Int64.toUInt64 63)).toInt64) &&& 255).toInt32) hx hb dX5_letterOf_85 rfl ?_
              refine lv_goto (tgt := 90) hx hb dX5_letterOf_86 (by decide) ?_
              exact W.iret (v := ((((2053468783 : Int64).toUInt64 >>> ((8 * (3 - x2) : Int32).toInt64.toUInt64 &&& Int64.toUInt64 63)).toInt64) &&& 255).toInt32) hx hb hr (fun t ht hW => ⟨⟨((((2053468783 : Int64).toUInt64 >>> ((8 * (3 - x2) : Int32).toInt64.toUInt64 &&& Int64.toUInt64 63)).toInt64) &&& 255).toInt32, (), rfl, by rcases cs8 c_14 c_20 with rfl | rfl | rfl | rfl | rfl | rfl | rfl | rfl <;> first | (exact absurd c_63 (by decide)) | decide +kernel, trivial⟩, hS.F ht⟩) hS.2.2 dX5_letterOf_90
          · have _ := hf
            refine lv_iconst (v := 0) hx hb dX5_letterOf_25 (by decide) ?_
            refine lv_istore_n (lv' := [(3, .int 0), (0, .ref h0), (1, .int 2), (2, .int x2)]) hx hb dX5_letterOf_26 rfl hl (by decide) rfl (fun ls hl => ?_)
            refine lv_aload_n hx hb dX5_letterOf_27 rfl (lv_at hl 1 rfl) ?_
            refine va_get (D := (dC, dI)) (ci := 5) (v := .ref n_packed) (C := RX5) (T := TX5) (N := 5) hx hb hts in_X5_letterOf_RX5 hown hK hP 0 rfl rfl 0 (by decide) (hts (.fieldLink RX5 11 "FourTongues$Names" "packed" "[J") (by decide +kernel)) (fun _ h9 => h9) rfl dX5_letterOf_28 ?_
            refine lv_iload_n hx hb dX5_letterOf_31 rfl (lv_at hl 2 rfl) ?_
            refine va_lald hx hb hK hP 1 0 rfl rfl (by unfold vp_in; decide) dX5_letterOf_32 ?_
            refine my_tl (v := 452823639416) (by rw [hf]; decide +kernel) ?_
            refine lv_lstore (lv' := [(4, .long 452823639416), (3, .int 0), (0, .ref h0), (1, .int 2), (2, .int x2)]) hx hb dX5_letterOf_33 hl (by decide) rfl (fun ls hl => ?_)
            refine lv_lload hx hb dX5_letterOf_35 (lv_at hl 0 rfl) ?_
            refine lv_lconst (v := 0) hx hb dX5_letterOf_37 (by decide) ?_
            refine W.lcmp hx hb dX5_letterOf_38 ?_
            refine my_ti (v := 1) (by decide) ?_
            refine lv_if_eq (tgt := 61) hx hb dX5_letterOf_39 (by decide) (fun c_39 => absurd c_39 (by decide)) (fun c_39 => ?_)
            refine lv_iload_n hx hb dX5_letterOf_42 rfl (lv_at hl 1 rfl) ?_
            refine lv_bipush (v := 8) hx hb dX5_letterOf_43 (by decide) ?_
            refine lv_icmp_ge (tgt := 61) hx hb dX5_letterOf_45 (by decide) (fun c_45 => absurd c_45 (by decide)) (fun c_45 => ?_)
            refine lv_iinc (v := 1) (lv' := [(3, .int 1), (4, .long 452823639416), (0, .ref h0), (1, .int 2), (2, .int x2)]) hx hb dX5_letterOf_48 hl (k := 1) rfl (by decide) (by decide) rfl (fun ls hl => ?_)
            refine lv_lload hx hb dX5_letterOf_51 (lv_at hl 1 rfl) ?_
            refine lv_bipush (v := 8) hx hb dX5_letterOf_53 (by decide) ?_
            refine lv_lushr (v := 1768842341) hx hb dX5_letterOf_55 (by decide) ?_
            refine lv_lstore (lv' := [(4, .long 1768842341), (3, .int 1), (0, .ref h0), (1, .int 2), (2, .int x2)]) hx hb dX5_letterOf_56 hl (by decide) rfl (fun ls hl => ?_)
            refine lv_goto (tgt := 35) hx hb dX5_letterOf_58 (by decide) ?_
            refine lv_lload hx hb dX5_letterOf_35 (lv_at hl 0 rfl) ?_
            refine lv_lconst (v := 0) hx hb dX5_letterOf_37 (by decide) ?_
            refine W.lcmp hx hb dX5_letterOf_38 ?_
            refine my_ti (v := 1) (by decide) ?_
            refine lv_if_eq (tgt := 61) hx hb dX5_letterOf_39 (by decide) (fun c_39 => absurd c_39 (by decide)) (fun c_39 => ?_)
            refine lv_iload_n hx hb dX5_letterOf_42 rfl (lv_at hl 1 rfl) ?_
            refine lv_bipush (v := 8) hx hb dX5_letterOf_43 (by decide) ?_
            refine lv_icmp_ge (tgt := 61) hx hb dX5_letterOf_45 (by decide) (fun c_45 => absurd c_45 (by decide)) (fun c_45 => ?_)
            refine lv_iinc (v := 2) (lv' := [(3, .int 2), (4, .long 1768842341), (0, .ref h0), (1, .int 2), (2, .int x2)]) hx hb dX5_letterOf_48 hl (k := 1) rfl (by decide) (by decide) rfl (fun ls hl => ?_)
            refine lv_lload hx hb dX5_letterOf_51 (lv_at hl 1 rfl) ?_
            refine lv_bipush (v := 8) hx hb dX5_letterOf_53 (by decide) ?_
            refine lv_lushr (v := 6909540) hx hb dX5_letterOf_55 (by decide) ?_
            refine lv_lstore (lv' := [(4, .long 6909540), (3, .int 2), (0, .ref h0), (1, .int 2), (2, .int x2)]) hx hb dX5_letterOf_56 hl (by decide) rfl (fun ls hl => ?_)
            refine lv_goto (tgt := 35) hx hb dX5_letterOf_58 (by decide) ?_
            refine lv_lload hx hb dX5_letterOf_35 (lv_at hl 0 rfl) ?_
            refine lv_lconst (v := 0) hx hb dX5_letterOf_37 (by decide) ?_
            refine W.lcmp hx hb dX5_letterOf_38 ?_
            refine my_ti (v := 1) (by decide) ?_
            refine lv_if_eq (tgt := 61) hx hb dX5_letterOf_39 (by decide) (fun c_39 => absurd c_39 (by decide)) (fun c_39 => ?_)
            refine lv_iload_n hx hb dX5_letterOf_42 rfl (lv_at hl 1 rfl) ?_
            refine lv_bipush (v := 8) hx hb dX5_letterOf_43 (by decide) ?_
            refine lv_icmp_ge (tgt := 61) hx hb dX5_letterOf_45 (by decide) (fun c_45 => absurd c_45 (by decide)) (fun c_45 => ?_)
            refine lv_iinc (v := 3) (lv' := [(3, .int 3), (4, .long 6909540), (0, .ref h0), (1, .int 2), (2, .int x2)]) hx hb dX5_letterOf_48 hl (k := 1) rfl (by decide) (by decide) rfl (fun ls hl => ?_)
            refine lv_lload hx hb dX5_letterOf_51 (lv_at hl 1 rfl) ?_
            refine lv_bipush (v := 8) hx hb dX5_letterOf_53 (by decide) ?_
            refine lv_lushr (v := 26990) hx hb dX5_letterOf_55 (by decide) ?_
            refine lv_lstore (lv' := [(4, .long 26990), (3, .int 3), (0, .ref h0), (1, .int 2), (2, .int x2)]) hx hb dX5_letterOf_56 hl (by decide) rfl (fun ls hl => ?_)
            refine lv_goto (tgt := 35) hx hb dX5_letterOf_58 (by decide) ?_
            refine lv_lload hx hb dX5_letterOf_35 (lv_at hl 0 rfl) ?_
            refine lv_lconst (v := 0) hx hb dX5_letterOf_37 (by decide) ?_
            refine W.lcmp hx hb dX5_letterOf_38 ?_
            refine my_ti (v := 1) (by decide) ?_
            refine lv_if_eq (tgt := 61) hx hb dX5_letterOf_39 (by decide) (fun c_39 => absurd c_39 (by decide)) (fun c_39 => ?_)
            refine lv_iload_n hx hb dX5_letterOf_42 rfl (lv_at hl 1 rfl) ?_
            refine lv_bipush (v := 8) hx hb dX5_letterOf_43 (by decide) ?_
            refine lv_icmp_ge (tgt := 61) hx hb dX5_letterOf_45 (by decide) (fun c_45 => absurd c_45 (by decide)) (fun c_45 => ?_)
            refine lv_iinc (v := 4) (lv' := [(3, .int 4), (4, .long 26990), (0, .ref h0), (1, .int 2), (2, .int x2)]) hx hb dX5_letterOf_48 hl (k := 1) rfl (by decide) (by decide) rfl (fun ls hl => ?_)
            refine lv_lload hx hb dX5_letterOf_51 (lv_at hl 1 rfl) ?_
            refine lv_bipush (v := 8) hx hb dX5_letterOf_53 (by decide) ?_
            refine lv_lushr (v := 105) hx hb dX5_letterOf_55 (by decide) ?_
            refine lv_lstore (lv' := [(4, .long 105), (3, .int 4), (0, .ref h0), (1, .int 2), (2, .int x2)]) hx hb dX5_letterOf_56 hl (by decide) rfl (fun ls hl => ?_)
            refine lv_goto (tgt := 35) hx hb dX5_letterOf_58 (by decide) ?_
            refine lv_lload hx hb dX5_letterOf_35 (lv_at hl 0 rfl) ?_
            refine lv_lconst (v := 0) hx hb dX5_letterOf_37 (by decide) ?_
            refine W.lcmp hx hb dX5_letterOf_38 ?_
            refine my_ti (v := 1) (by decide) ?_
            refine lv_if_eq (tgt := 61) hx hb dX5_letterOf_39 (by decide) (fun c_39 => absurd c_39 (by decide)) (fun c_39 => ?_)
            refine lv_iload_n hx hb dX5_letterOf_42 rfl (lv_at hl 1 rfl) ?_
            refine lv_bipush (v := 8) hx hb dX5_letterOf_43 (by decide) ?_
            refine lv_icmp_ge (tgt := 61) hx hb dX5_letterOf_45 (by decide) (fun c_45 => absurd c_45 (by decide)) (fun c_45 => ?_)
            refine lv_iinc (v := 5) (lv' := [(3, .int 5), (4, .long 105), (0, .ref h0), (1, .int 2), (2, .int x2)]) hx hb dX5_letterOf_48 hl (k := 1) rfl (by decide) (by decide) rfl (fun ls hl => ?_)
            refine lv_lload hx hb dX5_letterOf_51 (lv_at hl 1 rfl) ?_
            refine lv_bipush (v := 8) hx hb dX5_letterOf_53 (by decide) ?_
            refine lv_lushr (v := 0) hx hb dX5_letterOf_55 (by decide) ?_
            refine lv_lstore (lv' := [(4, .long 0), (3, .int 5), (0, .ref h0), (1, .int 2), (2, .int x2)]) hx hb dX5_letterOf_56 hl (by decide) rfl (fun ls hl => ?_)
            refine lv_goto (tgt := 35) hx hb dX5_letterOf_58 (by decide) ?_
            refine lv_lload hx hb dX5_letterOf_35 (lv_at hl 0 rfl) ?_
            refine lv_lconst (v := 0) hx hb dX5_letterOf_37 (by decide) ?_
            refine W.lcmp hx hb dX5_letterOf_38 ?_
            refine my_ti (v := 0) (by decide) ?_
            refine lv_if_eq (tgt := 61) hx hb dX5_letterOf_39 (by decide) (fun c_39 => ?_) (fun c_39 => absurd c_39 (by decide))
            refine lv_iload_n hx hb dX5_letterOf_61 rfl (lv_at hl 4 rfl) ?_
            refine lv_iload_n hx hb dX5_letterOf_62 rfl (lv_at hl 1 rfl) ?_
            refine lv_icmp_ge (tgt := 89) hx hb dX5_letterOf_63 (by decide) (fun c_63 => ?_) (fun c_63 => ?_)
            · refine lv_iconst (v := (-1)) hx hb dX5_letterOf_89 (by decide) ?_
              exact W.iret (v := (-1)) hx hb hr (fun t ht hW => ⟨⟨(-1), (), rfl, by rcases cs8 c_14 c_20 with rfl | rfl | rfl | rfl | rfl | rfl | rfl | rfl <;> first | (exact absurd c_63 (by decide)) | decide +kernel, trivial⟩, hS.F ht⟩) hS.2.2 dX5_letterOf_90
            · refine lv_aload_n hx hb dX5_letterOf_66 rfl (lv_at hl 2 rfl) ?_
              refine va_get (D := (dC, dI)) (ci := 5) (v := .ref n_packed) (C := RX5) (T := TX5) (N := 5) hx hb hts in_X5_letterOf_RX5 hown hK hP 0 rfl rfl 0 (by decide) (hts (.fieldLink RX5 11 "FourTongues$Names" "packed" "[J") (by decide +kernel)) (fun _ h9 => h9) rfl dX5_letterOf_67 ?_
              refine lv_iload_n hx hb dX5_letterOf_70 rfl (lv_at hl 3 rfl) ?_
              refine va_lald hx hb hK hP 1 0 rfl rfl (by unfold vp_in; decide) dX5_letterOf_71 ?_
              refine my_tl (v := 452823639416) (by rw [hf]; decide +kernel) ?_
              refine lv_bipush (v := 8) hx hb dX5_letterOf_72 (by decide) ?_
              refine lv_iload_n hx hb dX5_letterOf_74 rfl (lv_at hl 1 rfl) ?_
              refine lv_iconst (v := 1) hx hb dX5_letterOf_75 (by decide) ?_
              refine lv_isub hx hb dX5_letterOf_76 ?_
              refine my_ti (v := 4) (by decide) ?_
              refine lv_iload_n hx hb dX5_letterOf_77 rfl (lv_at hl 4 rfl) ?_
              refine lv_isub hx hb dX5_letterOf_78 ?_
              refine lv_imul hx hb dX5_letterOf_79 ?_
              refine lv_lushr (v := ((452823639416 : Int64).toUInt64 >>> ((8 * (4 - x2) : Int32).toInt64.toUInt64 &&& Int64.toUInt64 63)).toInt64) hx hb dX5_letterOf_80 rfl ?_
              refine lv_ldc2 hx hb hown (hts (.constantLong RX5 47 (255)) (by decide +kernel)) dX5_letterOf_81 ?_
              refine lv_land hx hb dX5_letterOf_84 ?_
              refine lv_l2i (v := ((((452823639416 : Int64).toUInt64 >>> ((8 * (4 - x2) : Int32).toInt64.toUInt64 &&& Int64.toUInt64 63)).toInt64) &&& 255).toInt32) hx hb dX5_letterOf_85 rfl ?_
              refine lv_goto (tgt := 90) hx hb dX5_letterOf_86 (by decide) ?_
              exact W.iret (v := ((((452823639416 : Int64).toUInt64 >>> ((8 * (4 - x2) : Int32).toInt64.toUInt64 &&& Int64.toUInt64 63)).toInt64) &&& 255).toInt32) hx hb hr (fun t ht hW => ⟨⟨((((452823639416 : Int64).toUInt64 >>> ((8 * (4 - x2) : Int32).toInt64.toUInt64 &&& Int64.toUInt64 63)).toInt64) &&& 255).toInt32, (), rfl, by rcases cs8 c_14 c_20 with rfl | rfl | rfl | rfl | rfl | rfl | rfl | rfl <;> first | (exact absurd c_63 (by decide)) | decide +kernel, trivial⟩, hS.F ht⟩) hS.2.2 dX5_letterOf_90
          · have _ := hf
            refine lv_iconst (v := 0) hx hb dX5_letterOf_25 (by decide) ?_
            refine lv_istore_n (lv' := [(3, .int 0), (0, .ref h0), (1, .int 3), (2, .int x2)]) hx hb dX5_letterOf_26 rfl hl (by decide) rfl (fun ls hl => ?_)
            refine lv_aload_n hx hb dX5_letterOf_27 rfl (lv_at hl 1 rfl) ?_
            refine va_get (D := (dC, dI)) (ci := 5) (v := .ref n_packed) (C := RX5) (T := TX5) (N := 5) hx hb hts in_X5_letterOf_RX5 hown hK hP 0 rfl rfl 0 (by decide) (hts (.fieldLink RX5 11 "FourTongues$Names" "packed" "[J") (by decide +kernel)) (fun _ h9 => h9) rfl dX5_letterOf_28 ?_
            refine lv_iload_n hx hb dX5_letterOf_31 rfl (lv_at hl 2 rfl) ?_
            refine va_lald hx hb hK hP 1 0 rfl rfl (by unfold vp_in; decide) dX5_letterOf_32 ?_
            refine my_tl (v := 31084793196801639) (by rw [hf]; decide +kernel) ?_
            refine lv_lstore (lv' := [(4, .long 31084793196801639), (3, .int 0), (0, .ref h0), (1, .int 3), (2, .int x2)]) hx hb dX5_letterOf_33 hl (by decide) rfl (fun ls hl => ?_)
            refine lv_lload hx hb dX5_letterOf_35 (lv_at hl 0 rfl) ?_
            refine lv_lconst (v := 0) hx hb dX5_letterOf_37 (by decide) ?_
            refine W.lcmp hx hb dX5_letterOf_38 ?_
            refine my_ti (v := 1) (by decide) ?_
            refine lv_if_eq (tgt := 61) hx hb dX5_letterOf_39 (by decide) (fun c_39 => absurd c_39 (by decide)) (fun c_39 => ?_)
            refine lv_iload_n hx hb dX5_letterOf_42 rfl (lv_at hl 1 rfl) ?_
            refine lv_bipush (v := 8) hx hb dX5_letterOf_43 (by decide) ?_
            refine lv_icmp_ge (tgt := 61) hx hb dX5_letterOf_45 (by decide) (fun c_45 => absurd c_45 (by decide)) (fun c_45 => ?_)
            refine lv_iinc (v := 1) (lv' := [(3, .int 1), (4, .long 31084793196801639), (0, .ref h0), (1, .int 3), (2, .int x2)]) hx hb dX5_letterOf_48 hl (k := 1) rfl (by decide) (by decide) rfl (fun ls hl => ?_)
            refine lv_lload hx hb dX5_letterOf_51 (lv_at hl 1 rfl) ?_
            refine lv_bipush (v := 8) hx hb dX5_letterOf_53 (by decide) ?_
            refine lv_lushr (v := 121424973425006) hx hb dX5_letterOf_55 (by decide) ?_
            refine lv_lstore (lv' := [(4, .long 121424973425006), (3, .int 1), (0, .ref h0), (1, .int 3), (2, .int x2)]) hx hb dX5_letterOf_56 hl (by decide) rfl (fun ls hl => ?_)
            refine lv_goto (tgt := 35) hx hb dX5_letterOf_58 (by decide) ?_
            refine lv_lload hx hb dX5_letterOf_35 (lv_at hl 0 rfl) ?_
            refine lv_lconst (v := 0) hx hb dX5_letterOf_37 (by decide) ?_
            refine W.lcmp hx hb dX5_letterOf_38 ?_
            refine my_ti (v := 1) (by decide) ?_
            refine lv_if_eq (tgt := 61) hx hb dX5_letterOf_39 (by decide) (fun c_39 => absurd c_39 (by decide)) (fun c_39 => ?_)
            refine lv_iload_n hx hb dX5_letterOf_42 rfl (lv_at hl 1 rfl) ?_
            refine lv_bipush (v := 8) hx hb dX5_letterOf_43 (by decide) ?_
            refine lv_icmp_ge (tgt := 61) hx hb dX5_letterOf_45 (by decide) (fun c_45 => absurd c_45 (by decide)) (fun c_45 => ?_)
            refine lv_iinc (v := 2) (lv' := [(3, .int 2), (4, .long 121424973425006), (0, .ref h0), (1, .int 3), (2, .int x2)]) hx hb dX5_letterOf_48 hl (k := 1) rfl (by decide) (by decide) rfl (fun ls hl => ?_)
            refine lv_lload hx hb dX5_letterOf_51 (lv_at hl 1 rfl) ?_
            refine lv_bipush (v := 8) hx hb dX5_letterOf_53 (by decide) ?_
            refine lv_lushr (v := 474316302441) hx hb dX5_letterOf_55 (by decide) ?_
            refine lv_lstore (lv' := [(4, .long 474316302441), (3, .int 2), (0, .ref h0), (1, .int 3), (2, .int x2)]) hx hb dX5_letterOf_56 hl (by decide) rfl (fun ls hl => ?_)
            refine lv_goto (tgt := 35) hx hb dX5_letterOf_58 (by decide) ?_
            refine lv_lload hx hb dX5_letterOf_35 (lv_at hl 0 rfl) ?_
            refine lv_lconst (v := 0) hx hb dX5_letterOf_37 (by decide) ?_
            refine W.lcmp hx hb dX5_letterOf_38 ?_
            refine my_ti (v := 1) (by decide) ?_
            refine lv_if_eq (tgt := 61) hx hb dX5_letterOf_39 (by decide) (fun c_39 => absurd c_39 (by decide)) (fun c_39 => ?_)
            refine lv_iload_n hx hb dX5_letterOf_42 rfl (lv_at hl 1 rfl) ?_
            refine lv_bipush (v := 8) hx hb dX5_letterOf_43 (by decide) ?_
            refine lv_icmp_ge (tgt := 61) hx hb dX5_letterOf_45 (by decide) (fun c_45 => absurd c_45 (by decide)) (fun c_45 => ?_)
            refine lv_iinc (v := 3) (lv' := [(3, .int 3), (4, .long 474316302441), (0, .ref h0), (1, .int 3), (2, .int x2)]) hx hb dX5_letterOf_48 hl (k := 1) rfl (by decide) (by decide) rfl (fun ls hl => ?_)
            refine lv_lload hx hb dX5_letterOf_51 (lv_at hl 1 rfl) ?_
            refine lv_bipush (v := 8) hx hb dX5_letterOf_53 (by decide) ?_
            refine lv_lushr (v := 1852798056) hx hb dX5_letterOf_55 (by decide) ?_
            refine lv_lstore (lv' := [(4, .long 1852798056), (3, .int 3), (0, .ref h0), (1, .int 3), (2, .int x2)]) hx hb dX5_letterOf_56 hl (by decide) rfl (fun ls hl => ?_)
            refine lv_goto (tgt := 35) hx hb dX5_letterOf_58 (by decide) ?_
            refine lv_lload hx hb dX5_letterOf_35 (lv_at hl 0 rfl) ?_
            refine lv_lconst (v := 0) hx hb dX5_letterOf_37 (by decide) ?_
            refine W.lcmp hx hb dX5_letterOf_38 ?_
            refine my_ti (v := 1) (by decide) ?_
            refine lv_if_eq (tgt := 61) hx hb dX5_letterOf_39 (by decide) (fun c_39 => absurd c_39 (by decide)) (fun c_39 => ?_)
            refine lv_iload_n hx hb dX5_letterOf_42 rfl (lv_at hl 1 rfl) ?_
            refine lv_bipush (v := 8) hx hb dX5_letterOf_43 (by decide) ?_
            refine lv_icmp_ge (tgt := 61) hx hb dX5_letterOf_45 (by decide) (fun c_45 => absurd c_45 (by decide)) (fun c_45 => ?_)
            refine lv_iinc (v := 4) (lv' := [(3, .int 4), (4, .long 1852798056), (0, .ref h0), (1, .int 3), (2, .int x2)]) hx hb dX5_letterOf_48 hl (k := 1) rfl (by decide) (by decide) rfl (fun ls hl => ?_)
            refine lv_lload hx hb dX5_letterOf_51 (lv_at hl 1 rfl) ?_
            refine lv_bipush (v := 8) hx hb dX5_letterOf_53 (by decide) ?_
            refine lv_lushr (v := 7237492) hx hb dX5_letterOf_55 (by decide) ?_
            refine lv_lstore (lv' := [(4, .long 7237492), (3, .int 4), (0, .ref h0), (1, .int 3), (2, .int x2)]) hx hb dX5_letterOf_56 hl (by decide) rfl (fun ls hl => ?_)
            refine lv_goto (tgt := 35) hx hb dX5_letterOf_58 (by decide) ?_
            refine lv_lload hx hb dX5_letterOf_35 (lv_at hl 0 rfl) ?_
            refine lv_lconst (v := 0) hx hb dX5_letterOf_37 (by decide) ?_
            refine W.lcmp hx hb dX5_letterOf_38 ?_
            refine my_ti (v := 1) (by decide) ?_
            refine lv_if_eq (tgt := 61) hx hb dX5_letterOf_39 (by decide) (fun c_39 => absurd c_39 (by decide)) (fun c_39 => ?_)
            refine lv_iload_n hx hb dX5_letterOf_42 rfl (lv_at hl 1 rfl) ?_
            refine lv_bipush (v := 8) hx hb dX5_letterOf_43 (by decide) ?_
            refine lv_icmp_ge (tgt := 61) hx hb dX5_letterOf_45 (by decide) (fun c_45 => absurd c_45 (by decide)) (fun c_45 => ?_)
            refine lv_iinc (v := 5) (lv' := [(3, .int 5), (4, .long 7237492), (0, .ref h0), (1, .int 3), (2, .int x2)]) hx hb dX5_letterOf_48 hl (k := 1) rfl (by decide) (by decide) rfl (fun ls hl => ?_)
            refine lv_lload hx hb dX5_letterOf_51 (lv_at hl 1 rfl) ?_
            refine lv_bipush (v := 8) hx hb dX5_letterOf_53 (by decide) ?_
            refine lv_lushr (v := 28271) hx hb dX5_letterOf_55 (by decide) ?_
            refine lv_lstore (lv' := [(4, .long 28271), (3, .int 5), (0, .ref h0), (1, .int 3), (2, .int x2)]) hx hb dX5_letterOf_56 hl (by decide) rfl (fun ls hl => ?_)
            refine lv_goto (tgt := 35) hx hb dX5_letterOf_58 (by decide) ?_
            refine lv_lload hx hb dX5_letterOf_35 (lv_at hl 0 rfl) ?_
            refine lv_lconst (v := 0) hx hb dX5_letterOf_37 (by decide) ?_
            refine W.lcmp hx hb dX5_letterOf_38 ?_
            refine my_ti (v := 1) (by decide) ?_
            refine lv_if_eq (tgt := 61) hx hb dX5_letterOf_39 (by decide) (fun c_39 => absurd c_39 (by decide)) (fun c_39 => ?_)
            refine lv_iload_n hx hb dX5_letterOf_42 rfl (lv_at hl 1 rfl) ?_
            refine lv_bipush (v := 8) hx hb dX5_letterOf_43 (by decide) ?_
            refine lv_icmp_ge (tgt := 61) hx hb dX5_letterOf_45 (by decide) (fun c_45 => absurd c_45 (by decide)) (fun c_45 => ?_)
            refine lv_iinc (v := 6) (lv' := [(3, .int 6), (4, .long 28271), (0, .ref h0), (1, .int 3), (2, .int x2)]) hx hb dX5_letterOf_48 hl (k := 1) rfl (by decide) (by decide) rfl (fun ls hl => ?_)
            refine lv_lload hx hb dX5_letterOf_51 (lv_at hl 1 rfl) ?_
            refine lv_bipush (v := 8) hx hb dX5_letterOf_53 (by decide) ?_
            refine lv_lushr (v := 110) hx hb dX5_letterOf_55 (by decide) ?_
            refine lv_lstore (lv' := [(4, .long 110), (3, .int 6), (0, .ref h0), (1, .int 3), (2, .int x2)]) hx hb dX5_letterOf_56 hl (by decide) rfl (fun ls hl => ?_)
            refine lv_goto (tgt := 35) hx hb dX5_letterOf_58 (by decide) ?_
            refine lv_lload hx hb dX5_letterOf_35 (lv_at hl 0 rfl) ?_
            refine lv_lconst (v := 0) hx hb dX5_letterOf_37 (by decide) ?_
            refine W.lcmp hx hb dX5_letterOf_38 ?_
            refine my_ti (v := 1) (by decide) ?_
            refine lv_if_eq (tgt := 61) hx hb dX5_letterOf_39 (by decide) (fun c_39 => absurd c_39 (by decide)) (fun c_39 => ?_)
            refine lv_iload_n hx hb dX5_letterOf_42 rfl (lv_at hl 1 rfl) ?_
            refine lv_bipush (v := 8) hx hb dX5_letterOf_43 (by decide) ?_
            refine lv_icmp_ge (tgt := 61) hx hb dX5_letterOf_45 (by decide) (fun c_45 => absurd c_45 (by decide)) (fun c_45 => ?_)
            refine lv_iinc (v := 7) (lv' := [(3, .int 7), (4, .long 110), (0, .ref h0), (1, .int 3), (2, .int x2)]) hx hb dX5_letterOf_48 hl (k := 1) rfl (by decide) (by decide) rfl (fun ls hl => ?_)
            refine lv_lload hx hb dX5_letterOf_51 (lv_at hl 1 rfl) ?_
            refine lv_bipush (v := 8) hx hb dX5_letterOf_53 (by decide) ?_
            refine lv_lushr (v := 0) hx hb dX5_letterOf_55 (by decide) ?_
            refine lv_lstore (lv' := [(4, .long 0), (3, .int 7), (0, .ref h0), (1, .int 3), (2, .int x2)]) hx hb dX5_letterOf_56 hl (by decide) rfl (fun ls hl => ?_)
            refine lv_goto (tgt := 35) hx hb dX5_letterOf_58 (by decide) ?_
            refine lv_lload hx hb dX5_letterOf_35 (lv_at hl 0 rfl) ?_
            refine lv_lconst (v := 0) hx hb dX5_letterOf_37 (by decide) ?_
            refine W.lcmp hx hb dX5_letterOf_38 ?_
            refine my_ti (v := 0) (by decide) ?_
            refine lv_if_eq (tgt := 61) hx hb dX5_letterOf_39 (by decide) (fun c_39 => ?_) (fun c_39 => absurd c_39 (by decide))
            refine lv_iload_n hx hb dX5_letterOf_61 rfl (lv_at hl 4 rfl) ?_
            refine lv_iload_n hx hb dX5_letterOf_62 rfl (lv_at hl 1 rfl) ?_
            refine lv_icmp_ge (tgt := 89) hx hb dX5_letterOf_63 (by decide) (fun c_63 => ?_) (fun c_63 => ?_)
            · refine lv_iconst (v := (-1)) hx hb dX5_letterOf_89 (by decide) ?_
              exact W.iret (v := (-1)) hx hb hr (fun t ht hW => ⟨⟨(-1), (), rfl, by rcases cs8 c_14 c_20 with rfl | rfl | rfl | rfl | rfl | rfl | rfl | rfl <;> first | (exact absurd c_63 (by decide)) | decide +kernel, trivial⟩, hS.F ht⟩) hS.2.2 dX5_letterOf_90
            · refine lv_aload_n hx hb dX5_letterOf_66 rfl (lv_at hl 2 rfl) ?_
              refine va_get (D := (dC, dI)) (ci := 5) (v := .ref n_packed) (C := RX5) (T := TX5) (N := 5) hx hb hts in_X5_letterOf_RX5 hown hK hP 0 rfl rfl 0 (by decide) (hts (.fieldLink RX5 11 "FourTongues$Names" "packed" "[J") (by decide +kernel)) (fun _ h9 => h9) rfl dX5_letterOf_67 ?_
              refine lv_iload_n hx hb dX5_letterOf_70 rfl (lv_at hl 3 rfl) ?_
              refine va_lald hx hb hK hP 1 0 rfl rfl (by unfold vp_in; decide) dX5_letterOf_71 ?_
              refine my_tl (v := 31084793196801639) (by rw [hf]; decide +kernel) ?_
              refine lv_bipush (v := 8) hx hb dX5_letterOf_72 (by decide) ?_
              refine lv_iload_n hx hb dX5_letterOf_74 rfl (lv_at hl 1 rfl) ?_
              refine lv_iconst (v := 1) hx hb dX5_letterOf_75 (by decide) ?_
              refine lv_isub hx hb dX5_letterOf_76 ?_
              refine my_ti (v := 6) (by decide) ?_
              refine lv_iload_n hx hb dX5_letterOf_77 rfl (lv_at hl 4 rfl) ?_
              refine lv_isub hx hb dX5_letterOf_78 ?_
              refine lv_imul hx hb dX5_letterOf_79 ?_
              refine lv_lushr (v := ((31084793196801639 : Int64).toUInt64 >>> ((8 * (6 - x2) : Int32).toInt64.toUInt64 &&& Int64.toUInt64 63)).toInt64) hx hb dX5_letterOf_80 rfl ?_
              refine lv_ldc2 hx hb hown (hts (.constantLong RX5 47 (255)) (by decide +kernel)) dX5_letterOf_81 ?_
              refine lv_land hx hb dX5_letterOf_84 ?_
              refine lv_l2i (v := ((((31084793196801639 : Int64).toUInt64 >>> ((8 * (6 - x2) : Int32).toInt64.toUInt64 &&& Int64.toUInt64 63)).toInt64) &&& 255).toInt32) hx hb dX5_letterOf_85 rfl ?_
              refine lv_goto (tgt := 90) hx hb dX5_letterOf_86 (by decide) ?_
              exact W.iret (v := ((((31084793196801639 : Int64).toUInt64 >>> ((8 * (6 - x2) : Int32).toInt64.toUInt64 &&& Int64.toUInt64 63)).toInt64) &&& 255).toInt32) hx hb hr (fun t ht hW => ⟨⟨((((31084793196801639 : Int64).toUInt64 >>> ((8 * (6 - x2) : Int32).toInt64.toUInt64 &&& Int64.toUInt64 63)).toInt64) &&& 255).toInt32, (), rfl, by rcases cs8 c_14 c_20 with rfl | rfl | rfl | rfl | rfl | rfl | rfl | rfl <;> first | (exact absurd c_63 (by decide)) | decide +kernel, trivial⟩, hS.F ht⟩) hS.2.2 dX5_letterOf_90
          · have _ := hf
            refine lv_iconst (v := 0) hx hb dX5_letterOf_25 (by decide) ?_
            refine lv_istore_n (lv' := [(3, .int 0), (0, .ref h0), (1, .int 4), (2, .int x2)]) hx hb dX5_letterOf_26 rfl hl (by decide) rfl (fun ls hl => ?_)
            refine lv_aload_n hx hb dX5_letterOf_27 rfl (lv_at hl 1 rfl) ?_
            refine va_get (D := (dC, dI)) (ci := 5) (v := .ref n_packed) (C := RX5) (T := TX5) (N := 5) hx hb hts in_X5_letterOf_RX5 hown hK hP 0 rfl rfl 0 (by decide) (hts (.fieldLink RX5 11 "FourTongues$Names" "packed" "[J") (by decide +kernel)) (fun _ h9 => h9) rfl dX5_letterOf_28 ?_
            refine lv_iload_n hx hb dX5_letterOf_31 rfl (lv_at hl 2 rfl) ?_
            refine va_lald hx hb hK hP 1 0 rfl rfl (by unfold vp_in; decide) dX5_letterOf_32 ?_
            refine my_tl (v := 1936683636) (by rw [hf]; decide +kernel) ?_
            refine lv_lstore (lv' := [(4, .long 1936683636), (3, .int 0), (0, .ref h0), (1, .int 4), (2, .int x2)]) hx hb dX5_letterOf_33 hl (by decide) rfl (fun ls hl => ?_)
            refine lv_lload hx hb dX5_letterOf_35 (lv_at hl 0 rfl) ?_
            refine lv_lconst (v := 0) hx hb dX5_letterOf_37 (by decide) ?_
            refine W.lcmp hx hb dX5_letterOf_38 ?_
            refine my_ti (v := 1) (by decide) ?_
            refine lv_if_eq (tgt := 61) hx hb dX5_letterOf_39 (by decide) (fun c_39 => absurd c_39 (by decide)) (fun c_39 => ?_)
            refine lv_iload_n hx hb dX5_letterOf_42 rfl (lv_at hl 1 rfl) ?_
            refine lv_bipush (v := 8) hx hb dX5_letterOf_43 (by decide) ?_
            refine lv_icmp_ge (tgt := 61) hx hb dX5_letterOf_45 (by decide) (fun c_45 => absurd c_45 (by decide)) (fun c_45 => ?_)
            refine lv_iinc (v := 1) (lv' := [(3, .int 1), (4, .long 1936683636), (0, .ref h0), (1, .int 4), (2, .int x2)]) hx hb dX5_letterOf_48 hl (k := 1) rfl (by decide) (by decide) rfl (fun ls hl => ?_)
            refine lv_lload hx hb dX5_letterOf_51 (lv_at hl 1 rfl) ?_
            refine lv_bipush (v := 8) hx hb dX5_letterOf_53 (by decide) ?_
            refine lv_lushr (v := 7565170) hx hb dX5_letterOf_55 (by decide) ?_
            refine lv_lstore (lv' := [(4, .long 7565170), (3, .int 1), (0, .ref h0), (1, .int 4), (2, .int x2)]) hx hb dX5_letterOf_56 hl (by decide) rfl (fun ls hl => ?_)
            refine lv_goto (tgt := 35) hx hb dX5_letterOf_58 (by decide) ?_
            refine lv_lload hx hb dX5_letterOf_35 (lv_at hl 0 rfl) ?_
            refine lv_lconst (v := 0) hx hb dX5_letterOf_37 (by decide) ?_
            refine W.lcmp hx hb dX5_letterOf_38 ?_
            refine my_ti (v := 1) (by decide) ?_
            refine lv_if_eq (tgt := 61) hx hb dX5_letterOf_39 (by decide) (fun c_39 => absurd c_39 (by decide)) (fun c_39 => ?_)
            refine lv_iload_n hx hb dX5_letterOf_42 rfl (lv_at hl 1 rfl) ?_
            refine lv_bipush (v := 8) hx hb dX5_letterOf_43 (by decide) ?_
            refine lv_icmp_ge (tgt := 61) hx hb dX5_letterOf_45 (by decide) (fun c_45 => absurd c_45 (by decide)) (fun c_45 => ?_)
            refine lv_iinc (v := 2) (lv' := [(3, .int 2), (4, .long 7565170), (0, .ref h0), (1, .int 4), (2, .int x2)]) hx hb dX5_letterOf_48 hl (k := 1) rfl (by decide) (by decide) rfl (fun ls hl => ?_)
            refine lv_lload hx hb dX5_letterOf_51 (lv_at hl 1 rfl) ?_
            refine lv_bipush (v := 8) hx hb dX5_letterOf_53 (by decide) ?_
            refine lv_lushr (v := 29551) hx hb dX5_letterOf_55 (by decide) ?_
            refine lv_lstore (lv' := [(4, .long 29551), (3, .int 2), (0, .ref h0), (1, .int 4), (2, .int x2)]) hx hb dX5_letterOf_56 hl (by decide) rfl (fun ls hl => ?_)
            refine lv_goto (tgt := 35) hx hb dX5_letterOf_58 (by decide) ?_
            refine lv_lload hx hb dX5_letterOf_35 (lv_at hl 0 rfl) ?_
            refine lv_lconst (v := 0) hx hb dX5_letterOf_37 (by decide) ?_
            refine W.lcmp hx hb dX5_letterOf_38 ?_
            refine my_ti (v := 1) (by decide) ?_
            refine lv_if_eq (tgt := 61) hx hb dX5_letterOf_39 (by decide) (fun c_39 => absurd c_39 (by decide)) (fun c_39 => ?_)
            refine lv_iload_n hx hb dX5_letterOf_42 rfl (lv_at hl 1 rfl) ?_
            refine lv_bipush (v := 8) hx hb dX5_letterOf_43 (by decide) ?_
            refine lv_icmp_ge (tgt := 61) hx hb dX5_letterOf_45 (by decide) (fun c_45 => absurd c_45 (by decide)) (fun c_45 => ?_)
            refine lv_iinc (v := 3) (lv' := [(3, .int 3), (4, .long 29551), (0, .ref h0), (1, .int 4), (2, .int x2)]) hx hb dX5_letterOf_48 hl (k := 1) rfl (by decide) (by decide) rfl (fun ls hl => ?_)
            refine lv_lload hx hb dX5_letterOf_51 (lv_at hl 1 rfl) ?_
            refine lv_bipush (v := 8) hx hb dX5_letterOf_53 (by decide) ?_
            refine lv_lushr (v := 115) hx hb dX5_letterOf_55 (by decide) ?_
            refine lv_lstore (lv' := [(4, .long 115), (3, .int 3), (0, .ref h0), (1, .int 4), (2, .int x2)]) hx hb dX5_letterOf_56 hl (by decide) rfl (fun ls hl => ?_)
            refine lv_goto (tgt := 35) hx hb dX5_letterOf_58 (by decide) ?_
            refine lv_lload hx hb dX5_letterOf_35 (lv_at hl 0 rfl) ?_
            refine lv_lconst (v := 0) hx hb dX5_letterOf_37 (by decide) ?_
            refine W.lcmp hx hb dX5_letterOf_38 ?_
            refine my_ti (v := 1) (by decide) ?_
            refine lv_if_eq (tgt := 61) hx hb dX5_letterOf_39 (by decide) (fun c_39 => absurd c_39 (by decide)) (fun c_39 => ?_)
            refine lv_iload_n hx hb dX5_letterOf_42 rfl (lv_at hl 1 rfl) ?_
            refine lv_bipush (v := 8) hx hb dX5_letterOf_43 (by decide) ?_
            refine lv_icmp_ge (tgt := 61) hx hb dX5_letterOf_45 (by decide) (fun c_45 => absurd c_45 (by decide)) (fun c_45 => ?_)
            refine lv_iinc (v := 4) (lv' := [(3, .int 4), (4, .long 115), (0, .ref h0), (1, .int 4), (2, .int x2)]) hx hb dX5_letterOf_48 hl (k := 1) rfl (by decide) (by decide) rfl (fun ls hl => ?_)
            refine lv_lload hx hb dX5_letterOf_51 (lv_at hl 1 rfl) ?_
            refine lv_bipush (v := 8) hx hb dX5_letterOf_53 (by decide) ?_
            refine lv_lushr (v := 0) hx hb dX5_letterOf_55 (by decide) ?_
            refine lv_lstore (lv' := [(4, .long 0), (3, .int 4), (0, .ref h0), (1, .int 4), (2, .int x2)]) hx hb dX5_letterOf_56 hl (by decide) rfl (fun ls hl => ?_)
            refine lv_goto (tgt := 35) hx hb dX5_letterOf_58 (by decide) ?_
            refine lv_lload hx hb dX5_letterOf_35 (lv_at hl 0 rfl) ?_
            refine lv_lconst (v := 0) hx hb dX5_letterOf_37 (by decide) ?_
            refine W.lcmp hx hb dX5_letterOf_38 ?_
            refine my_ti (v := 0) (by decide) ?_
            refine lv_if_eq (tgt := 61) hx hb dX5_letterOf_39 (by decide) (fun c_39 => ?_) (fun c_39 => absurd c_39 (by decide))
            refine lv_iload_n hx hb dX5_letterOf_61 rfl (lv_at hl 4 rfl) ?_
            refine lv_iload_n hx hb dX5_letterOf_62 rfl (lv_at hl 1 rfl) ?_
            refine lv_icmp_ge (tgt := 89) hx hb dX5_letterOf_63 (by decide) (fun c_63 => ?_) (fun c_63 => ?_)
            · refine lv_iconst (v := (-1)) hx hb dX5_letterOf_89 (by decide) ?_
              exact W.iret (v := (-1)) hx hb hr (fun t ht hW => ⟨⟨(-1), (), rfl, by rcases cs8 c_14 c_20 with rfl | rfl | rfl | rfl | rfl | rfl | rfl | rfl <;> first | (exact absurd c_63 (by decide)) | decide +kernel, trivial⟩, hS.F ht⟩) hS.2.2 dX5_letterOf_90
            · refine lv_aload_n hx hb dX5_letterOf_66 rfl (lv_at hl 2 rfl) ?_
              refine va_get (D := (dC, dI)) (ci := 5) (v := .ref n_packed) (C := RX5) (T := TX5) (N := 5) hx hb hts in_X5_letterOf_RX5 hown hK hP 0 rfl rfl 0 (by decide) (hts (.fieldLink RX5 11 "FourTongues$Names" "packed" "[J") (by decide +kernel)) (fun _ h9 => h9) rfl dX5_letterOf_67 ?_
              refine lv_iload_n hx hb dX5_letterOf_70 rfl (lv_at hl 3 rfl) ?_
              refine va_lald hx hb hK hP 1 0 rfl rfl (by unfold vp_in; decide) dX5_letterOf_71 ?_
              refine my_tl (v := 1936683636) (by rw [hf]; decide +kernel) ?_
              refine lv_bipush (v := 8) hx hb dX5_letterOf_72 (by decide) ?_
              refine lv_iload_n hx hb dX5_letterOf_74 rfl (lv_at hl 1 rfl) ?_
              refine lv_iconst (v := 1) hx hb dX5_letterOf_75 (by decide) ?_
              refine lv_isub hx hb dX5_letterOf_76 ?_
              refine my_ti (v := 3) (by decide) ?_
              refine lv_iload_n hx hb dX5_letterOf_77 rfl (lv_at hl 4 rfl) ?_
              refine lv_isub hx hb dX5_letterOf_78 ?_
              refine lv_imul hx hb dX5_letterOf_79 ?_
              refine lv_lushr (v := ((1936683636 : Int64).toUInt64 >>> ((8 * (3 - x2) : Int32).toInt64.toUInt64 &&& Int64.toUInt64 63)).toInt64) hx hb dX5_letterOf_80 rfl ?_
              refine lv_ldc2 hx hb hown (hts (.constantLong RX5 47 (255)) (by decide +kernel)) dX5_letterOf_81 ?_
              refine lv_land hx hb dX5_letterOf_84 ?_
              refine lv_l2i (v := ((((1936683636 : Int64).toUInt64 >>> ((8 * (3 - x2) : Int32).toInt64.toUInt64 &&& Int64.toUInt64 63)).toInt64) &&& 255).toInt32) hx hb dX5_letterOf_85 rfl ?_
              refine lv_goto (tgt := 90) hx hb dX5_letterOf_86 (by decide) ?_
              exact W.iret (v := ((((1936683636 : Int64).toUInt64 >>> ((8 * (3 - x2) : Int32).toInt64.toUInt64 &&& Int64.toUInt64 63)).toInt64) &&& 255).toInt32) hx hb hr (fun t ht hW => ⟨⟨((((1936683636 : Int64).toUInt64 >>> ((8 * (3 - x2) : Int32).toInt64.toUInt64 &&& Int64.toUInt64 63)).toInt64) &&& 255).toInt32, (), rfl, by rcases cs8 c_14 c_20 with rfl | rfl | rfl | rfl | rfl | rfl | rfl | rfl <;> first | (exact absurd c_63 (by decide)) | decide +kernel, trivial⟩, hS.F ht⟩) hS.2.2 dX5_letterOf_90
          · have _ := hf
            refine lv_iconst (v := 0) hx hb dX5_letterOf_25 (by decide) ?_
            refine lv_istore_n (lv' := [(3, .int 0), (0, .ref h0), (1, .int 5), (2, .int x2)]) hx hb dX5_letterOf_26 rfl hl (by decide) rfl (fun ls hl => ?_)
            refine lv_aload_n hx hb dX5_letterOf_27 rfl (lv_at hl 1 rfl) ?_
            refine va_get (D := (dC, dI)) (ci := 5) (v := .ref n_packed) (C := RX5) (T := TX5) (N := 5) hx hb hts in_X5_letterOf_RX5 hown hK hP 0 rfl rfl 0 (by decide) (hts (.fieldLink RX5 11 "FourTongues$Names" "packed" "[J") (by decide +kernel)) (fun _ h9 => h9) rfl dX5_letterOf_28 ?_
            refine lv_iload_n hx hb dX5_letterOf_31 rfl (lv_at hl 2 rfl) ?_
            refine va_lald hx hb hK hP 1 0 rfl rfl (by unfold vp_in; decide) dX5_letterOf_32 ?_
            refine my_tl (v := 1936292453) (by rw [hf]; decide +kernel) ?_
            refine lv_lstore (lv' := [(4, .long 1936292453), (3, .int 0), (0, .ref h0), (1, .int 5), (2, .int x2)]) hx hb dX5_letterOf_33 hl (by decide) rfl (fun ls hl => ?_)
            refine lv_lload hx hb dX5_letterOf_35 (lv_at hl 0 rfl) ?_
            refine lv_lconst (v := 0) hx hb dX5_letterOf_37 (by decide) ?_
            refine W.lcmp hx hb dX5_letterOf_38 ?_
            refine my_ti (v := 1) (by decide) ?_
            refine lv_if_eq (tgt := 61) hx hb dX5_letterOf_39 (by decide) (fun c_39 => absurd c_39 (by decide)) (fun c_39 => ?_)
            refine lv_iload_n hx hb dX5_letterOf_42 rfl (lv_at hl 1 rfl) ?_
            refine lv_bipush (v := 8) hx hb dX5_letterOf_43 (by decide) ?_
            refine lv_icmp_ge (tgt := 61) hx hb dX5_letterOf_45 (by decide) (fun c_45 => absurd c_45 (by decide)) (fun c_45 => ?_)
            refine lv_iinc (v := 1) (lv' := [(3, .int 1), (4, .long 1936292453), (0, .ref h0), (1, .int 5), (2, .int x2)]) hx hb dX5_letterOf_48 hl (k := 1) rfl (by decide) (by decide) rfl (fun ls hl => ?_)
            refine lv_lload hx hb dX5_letterOf_51 (lv_at hl 1 rfl) ?_
            refine lv_bipush (v := 8) hx hb dX5_letterOf_53 (by decide) ?_
            refine lv_lushr (v := 7563642) hx hb dX5_letterOf_55 (by decide) ?_
            refine lv_lstore (lv' := [(4, .long 7563642), (3, .int 1), (0, .ref h0), (1, .int 5), (2, .int x2)]) hx hb dX5_letterOf_56 hl (by decide) rfl (fun ls hl => ?_)
            refine lv_goto (tgt := 35) hx hb dX5_letterOf_58 (by decide) ?_
            refine lv_lload hx hb dX5_letterOf_35 (lv_at hl 0 rfl) ?_
            refine lv_lconst (v := 0) hx hb dX5_letterOf_37 (by decide) ?_
            refine W.lcmp hx hb dX5_letterOf_38 ?_
            refine my_ti (v := 1) (by decide) ?_
            refine lv_if_eq (tgt := 61) hx hb dX5_letterOf_39 (by decide) (fun c_39 => absurd c_39 (by decide)) (fun c_39 => ?_)
            refine lv_iload_n hx hb dX5_letterOf_42 rfl (lv_at hl 1 rfl) ?_
            refine lv_bipush (v := 8) hx hb dX5_letterOf_43 (by decide) ?_
            refine lv_icmp_ge (tgt := 61) hx hb dX5_letterOf_45 (by decide) (fun c_45 => absurd c_45 (by decide)) (fun c_45 => ?_)
            refine lv_iinc (v := 2) (lv' := [(3, .int 2), (4, .long 7563642), (0, .ref h0), (1, .int 5), (2, .int x2)]) hx hb dX5_letterOf_48 hl (k := 1) rfl (by decide) (by decide) rfl (fun ls hl => ?_)
            refine lv_lload hx hb dX5_letterOf_51 (lv_at hl 1 rfl) ?_
            refine lv_bipush (v := 8) hx hb dX5_letterOf_53 (by decide) ?_
            refine lv_lushr (v := 29545) hx hb dX5_letterOf_55 (by decide) ?_
            refine lv_lstore (lv' := [(4, .long 29545), (3, .int 2), (0, .ref h0), (1, .int 5), (2, .int x2)]) hx hb dX5_letterOf_56 hl (by decide) rfl (fun ls hl => ?_)
            refine lv_goto (tgt := 35) hx hb dX5_letterOf_58 (by decide) ?_
            refine lv_lload hx hb dX5_letterOf_35 (lv_at hl 0 rfl) ?_
            refine lv_lconst (v := 0) hx hb dX5_letterOf_37 (by decide) ?_
            refine W.lcmp hx hb dX5_letterOf_38 ?_
            refine my_ti (v := 1) (by decide) ?_
            refine lv_if_eq (tgt := 61) hx hb dX5_letterOf_39 (by decide) (fun c_39 => absurd c_39 (by decide)) (fun c_39 => ?_)
            refine lv_iload_n hx hb dX5_letterOf_42 rfl (lv_at hl 1 rfl) ?_
            refine lv_bipush (v := 8) hx hb dX5_letterOf_43 (by decide) ?_
            refine lv_icmp_ge (tgt := 61) hx hb dX5_letterOf_45 (by decide) (fun c_45 => absurd c_45 (by decide)) (fun c_45 => ?_)
            refine lv_iinc (v := 3) (lv' := [(3, .int 3), (4, .long 29545), (0, .ref h0), (1, .int 5), (2, .int x2)]) hx hb dX5_letterOf_48 hl (k := 1) rfl (by decide) (by decide) rfl (fun ls hl => ?_)
            refine lv_lload hx hb dX5_letterOf_51 (lv_at hl 1 rfl) ?_
            refine lv_bipush (v := 8) hx hb dX5_letterOf_53 (by decide) ?_
            refine lv_lushr (v := 115) hx hb dX5_letterOf_55 (by decide) ?_
            refine lv_lstore (lv' := [(4, .long 115), (3, .int 3), (0, .ref h0), (1, .int 5), (2, .int x2)]) hx hb dX5_letterOf_56 hl (by decide) rfl (fun ls hl => ?_)
            refine lv_goto (tgt := 35) hx hb dX5_letterOf_58 (by decide) ?_
            refine lv_lload hx hb dX5_letterOf_35 (lv_at hl 0 rfl) ?_
            refine lv_lconst (v := 0) hx hb dX5_letterOf_37 (by decide) ?_
            refine W.lcmp hx hb dX5_letterOf_38 ?_
            refine my_ti (v := 1) (by decide) ?_
            refine lv_if_eq (tgt := 61) hx hb dX5_letterOf_39 (by decide) (fun c_39 => absurd c_39 (by decide)) (fun c_39 => ?_)
            refine lv_iload_n hx hb dX5_letterOf_42 rfl (lv_at hl 1 rfl) ?_
            refine lv_bipush (v := 8) hx hb dX5_letterOf_43 (by decide) ?_
            refine lv_icmp_ge (tgt := 61) hx hb dX5_letterOf_45 (by decide) (fun c_45 => absurd c_45 (by decide)) (fun c_45 => ?_)
            refine lv_iinc (v := 4) (lv' := [(3, .int 4), (4, .long 115), (0, .ref h0), (1, .int 5), (2, .int x2)]) hx hb dX5_letterOf_48 hl (k := 1) rfl (by decide) (by decide) rfl (fun ls hl => ?_)
            refine lv_lload hx hb dX5_letterOf_51 (lv_at hl 1 rfl) ?_
            refine lv_bipush (v := 8) hx hb dX5_letterOf_53 (by decide) ?_
            refine lv_lushr (v := 0) hx hb dX5_letterOf_55 (by decide) ?_
            refine lv_lstore (lv' := [(4, .long 0), (3, .int 4), (0, .ref h0), (1, .int 5), (2, .int x2)]) hx hb dX5_letterOf_56 hl (by decide) rfl (fun ls hl => ?_)
            refine lv_goto (tgt := 35) hx hb dX5_letterOf_58 (by decide) ?_
            refine lv_lload hx hb dX5_letterOf_35 (lv_at hl 0 rfl) ?_
            refine lv_lconst (v := 0) hx hb dX5_letterOf_37 (by decide) ?_
            refine W.lcmp hx hb dX5_letterOf_38 ?_
            refine my_ti (v := 0) (by decide) ?_
            refine lv_if_eq (tgt := 61) hx hb dX5_letterOf_39 (by decide) (fun c_39 => ?_) (fun c_39 => absurd c_39 (by decide))
            refine lv_iload_n hx hb dX5_letterOf_61 rfl (lv_at hl 4 rfl) ?_
            refine lv_iload_n hx hb dX5_letterOf_62 rfl (lv_at hl 1 rfl) ?_
            refine lv_icmp_ge (tgt := 89) hx hb dX5_letterOf_63 (by decide) (fun c_63 => ?_) (fun c_63 => ?_)
            · refine lv_iconst (v := (-1)) hx hb dX5_letterOf_89 (by decide) ?_
              exact W.iret (v := (-1)) hx hb hr (fun t ht hW => ⟨⟨(-1), (), rfl, by rcases cs8 c_14 c_20 with rfl | rfl | rfl | rfl | rfl | rfl | rfl | rfl <;> first | (exact absurd c_63 (by decide)) | decide +kernel, trivial⟩, hS.F ht⟩) hS.2.2 dX5_letterOf_90
            · refine lv_aload_n hx hb dX5_letterOf_66 rfl (lv_at hl 2 rfl) ?_
              refine va_get (D := (dC, dI)) (ci := 5) (v := .ref n_packed) (C := RX5) (T := TX5) (N := 5) hx hb hts in_X5_letterOf_RX5 hown hK hP 0 rfl rfl 0 (by decide) (hts (.fieldLink RX5 11 "FourTongues$Names" "packed" "[J") (by decide +kernel)) (fun _ h9 => h9) rfl dX5_letterOf_67 ?_
              refine lv_iload_n hx hb dX5_letterOf_70 rfl (lv_at hl 3 rfl) ?_
              refine va_lald hx hb hK hP 1 0 rfl rfl (by unfold vp_in; decide) dX5_letterOf_71 ?_
              refine my_tl (v := 1936292453) (by rw [hf]; decide +kernel) ?_
              refine lv_bipush (v := 8) hx hb dX5_letterOf_72 (by decide) ?_
              refine lv_iload_n hx hb dX5_letterOf_74 rfl (lv_at hl 1 rfl) ?_
              refine lv_iconst (v := 1) hx hb dX5_letterOf_75 (by decide) ?_
              refine lv_isub hx hb dX5_letterOf_76 ?_
              refine my_ti (v := 3) (by decide) ?_
              refine lv_iload_n hx hb dX5_letterOf_77 rfl (lv_at hl 4 rfl) ?_
              refine lv_isub hx hb dX5_letterOf_78 ?_
              refine lv_imul hx hb dX5_letterOf_79 ?_
              refine lv_lushr (v := ((1936292453 : Int64).toUInt64 >>> ((8 * (3 - x2) : Int32).toInt64.toUInt64 &&& Int64.toUInt64 63)).toInt64) hx hb dX5_letterOf_80 rfl ?_
              refine lv_ldc2 hx hb hown (hts (.constantLong RX5 47 (255)) (by decide +kernel)) dX5_letterOf_81 ?_
              refine lv_land hx hb dX5_letterOf_84 ?_
              refine lv_l2i (v := ((((1936292453 : Int64).toUInt64 >>> ((8 * (3 - x2) : Int32).toInt64.toUInt64 &&& Int64.toUInt64 63)).toInt64) &&& 255).toInt32) hx hb dX5_letterOf_85 rfl ?_
              refine lv_goto (tgt := 90) hx hb dX5_letterOf_86 (by decide) ?_
              exact W.iret (v := ((((1936292453 : Int64).toUInt64 >>> ((8 * (3 - x2) : Int32).toInt64.toUInt64 &&& Int64.toUInt64 63)).toInt64) &&& 255).toInt32) hx hb hr (fun t ht hW => ⟨⟨((((1936292453 : Int64).toUInt64 >>> ((8 * (3 - x2) : Int32).toInt64.toUInt64 &&& Int64.toUInt64 63)).toInt64) &&& 255).toInt32, (), rfl, by rcases cs8 c_14 c_20 with rfl | rfl | rfl | rfl | rfl | rfl | rfl | rfl <;> first | (exact absurd c_63 (by decide)) | decide +kernel, trivial⟩, hS.F ht⟩) hS.2.2 dX5_letterOf_90
          · have _ := hf
            refine lv_iconst (v := 0) hx hb dX5_letterOf_25 (by decide) ?_
            refine lv_istore_n (lv' := [(3, .int 0), (0, .ref h0), (1, .int 6), (2, .int x2)]) hx hb dX5_letterOf_26 rfl hl (by decide) rfl (fun ls hl => ?_)
            refine lv_aload_n hx hb dX5_letterOf_27 rfl (lv_at hl 1 rfl) ?_
            refine va_get (D := (dC, dI)) (ci := 5) (v := .ref n_packed) (C := RX5) (T := TX5) (N := 5) hx hb hts in_X5_letterOf_RX5 hown hK hP 0 rfl rfl 0 (by decide) (hts (.fieldLink RX5 11 "FourTongues$Names" "packed" "[J") (by decide +kernel)) (fun _ h9 => h9) rfl dX5_letterOf_28 ?_
            refine lv_iload_n hx hb dX5_letterOf_31 rfl (lv_at hl 2 rfl) ?_
            refine va_lald hx hb hK hP 1 0 rfl rfl (by unfold vp_in; decide) dX5_letterOf_32 ?_
            refine my_tl (v := 1684366704) (by rw [hf]; decide +kernel) ?_
            refine lv_lstore (lv' := [(4, .long 1684366704), (3, .int 0), (0, .ref h0), (1, .int 6), (2, .int x2)]) hx hb dX5_letterOf_33 hl (by decide) rfl (fun ls hl => ?_)
            refine lv_lload hx hb dX5_letterOf_35 (lv_at hl 0 rfl) ?_
            refine lv_lconst (v := 0) hx hb dX5_letterOf_37 (by decide) ?_
            refine W.lcmp hx hb dX5_letterOf_38 ?_
            refine my_ti (v := 1) (by decide) ?_
            refine lv_if_eq (tgt := 61) hx hb dX5_letterOf_39 (by decide) (fun c_39 => absurd c_39 (by decide)) (fun c_39 => ?_)
            refine lv_iload_n hx hb dX5_letterOf_42 rfl (lv_at hl 1 rfl) ?_
            refine lv_bipush (v := 8) hx hb dX5_letterOf_43 (by decide) ?_
            refine lv_icmp_ge (tgt := 61) hx hb dX5_letterOf_45 (by decide) (fun c_45 => absurd c_45 (by decide)) (fun c_45 => ?_)
            refine lv_iinc (v := 1) (lv' := [(3, .int 1), (4, .long 1684366704), (0, .ref h0), (1, .int 6), (2, .int x2)]) hx hb dX5_letterOf_48 hl (k := 1) rfl (by decide) (by decide) rfl (fun ls hl => ?_)
            refine lv_lload hx hb dX5_letterOf_51 (lv_at hl 1 rfl) ?_
            refine lv_bipush (v := 8) hx hb dX5_letterOf_53 (by decide) ?_
            refine lv_lushr (v := 6579557) hx hb dX5_letterOf_55 (by decide) ?_
            refine lv_lstore (lv' := [(4, .long 6579557), (3, .int 1), (0, .ref h0), (1, .int 6), (2, .int x2)]) hx hb dX5_letterOf_56 hl (by decide) rfl (fun ls hl => ?_)
            refine lv_goto (tgt := 35) hx hb dX5_letterOf_58 (by decide) ?_
            refine lv_lload hx hb dX5_letterOf_35 (lv_at hl 0 rfl) ?_
            refine lv_lconst (v := 0) hx hb dX5_letterOf_37 (by decide) ?_
            refine W.lcmp hx hb dX5_letterOf_38 ?_
            refine my_ti (v := 1) (by decide) ?_
            refine lv_if_eq (tgt := 61) hx hb dX5_letterOf_39 (by decide) (fun c_39 => absurd c_39 (by decide)) (fun c_39 => ?_)
            refine lv_iload_n hx hb dX5_letterOf_42 rfl (lv_at hl 1 rfl) ?_
            refine lv_bipush (v := 8) hx hb dX5_letterOf_43 (by decide) ?_
            refine lv_icmp_ge (tgt := 61) hx hb dX5_letterOf_45 (by decide) (fun c_45 => absurd c_45 (by decide)) (fun c_45 => ?_)
            refine lv_iinc (v := 2) (lv' := [(3, .int 2), (4, .long 6579557), (0, .ref h0), (1, .int 6), (2, .int x2)]) hx hb dX5_letterOf_48 hl (k := 1) rfl (by decide) (by decide) rfl (fun ls hl => ?_)
            refine lv_lload hx hb dX5_letterOf_51 (lv_at hl 1 rfl) ?_
            refine lv_bipush (v := 8) hx hb dX5_letterOf_53 (by decide) ?_
            refine lv_lushr (v := 25701) hx hb dX5_letterOf_55 (by decide) ?_
            refine lv_lstore (lv' := [(4, .long 25701), (3, .int 2), (0, .ref h0), (1, .int 6), (2, .int x2)]) hx hb dX5_letterOf_56 hl (by decide) rfl (fun ls hl => ?_)
            refine lv_goto (tgt := 35) hx hb dX5_letterOf_58 (by decide) ?_
            refine lv_lload hx hb dX5_letterOf_35 (lv_at hl 0 rfl) ?_
            refine lv_lconst (v := 0) hx hb dX5_letterOf_37 (by decide) ?_
            refine W.lcmp hx hb dX5_letterOf_38 ?_
            refine my_ti (v := 1) (by decide) ?_
            refine lv_if_eq (tgt := 61) hx hb dX5_letterOf_39 (by decide) (fun c_39 => absurd c_39 (by decide)) (fun c_39 => ?_)
            refine lv_iload_n hx hb dX5_letterOf_42 rfl (lv_at hl 1 rfl) ?_
            refine lv_bipush (v := 8) hx hb dX5_letterOf_43 (by decide) ?_
            refine lv_icmp_ge (tgt := 61) hx hb dX5_letterOf_45 (by decide) (fun c_45 => absurd c_45 (by decide)) (fun c_45 => ?_)
            refine lv_iinc (v := 3) (lv' := [(3, .int 3), (4, .long 25701), (0, .ref h0), (1, .int 6), (2, .int x2)]) hx hb dX5_letterOf_48 hl (k := 1) rfl (by decide) (by decide) rfl (fun ls hl => ?_)
            refine lv_lload hx hb dX5_letterOf_51 (lv_at hl 1 rfl) ?_
            refine lv_bipush (v := 8) hx hb dX5_letterOf_53 (by decide) ?_
            refine lv_lushr (v := 100) hx hb dX5_letterOf_55 (by decide) ?_
            refine lv_lstore (lv' := [(4, .long 100), (3, .int 3), (0, .ref h0), (1, .int 6), (2, .int x2)]) hx hb dX5_letterOf_56 hl (by decide) rfl (fun ls hl => ?_)
            refine lv_goto (tgt := 35) hx hb dX5_letterOf_58 (by decide) ?_
            refine lv_lload hx hb dX5_letterOf_35 (lv_at hl 0 rfl) ?_
            refine lv_lconst (v := 0) hx hb dX5_letterOf_37 (by decide) ?_
            refine W.lcmp hx hb dX5_letterOf_38 ?_
            refine my_ti (v := 1) (by decide) ?_
            refine lv_if_eq (tgt := 61) hx hb dX5_letterOf_39 (by decide) (fun c_39 => absurd c_39 (by decide)) (fun c_39 => ?_)
            refine lv_iload_n hx hb dX5_letterOf_42 rfl (lv_at hl 1 rfl) ?_
            refine lv_bipush (v := 8) hx hb dX5_letterOf_43 (by decide) ?_
            refine lv_icmp_ge (tgt := 61) hx hb dX5_letterOf_45 (by decide) (fun c_45 => absurd c_45 (by decide)) (fun c_45 => ?_)
            refine lv_iinc (v := 4) (lv' := [(3, .int 4), (4, .long 100), (0, .ref h0), (1, .int 6), (2, .int x2)]) hx hb dX5_letterOf_48 hl (k := 1) rfl (by decide) (by decide) rfl (fun ls hl => ?_)
            refine lv_lload hx hb dX5_letterOf_51 (lv_at hl 1 rfl) ?_
            refine lv_bipush (v := 8) hx hb dX5_letterOf_53 (by decide) ?_
            refine lv_lushr (v := 0) hx hb dX5_letterOf_55 (by decide) ?_
            refine lv_lstore (lv' := [(4, .long 0), (3, .int 4), (0, .ref h0), (1, .int 6), (2, .int x2)]) hx hb dX5_letterOf_56 hl (by decide) rfl (fun ls hl => ?_)
            refine lv_goto (tgt := 35) hx hb dX5_letterOf_58 (by decide) ?_
            refine lv_lload hx hb dX5_letterOf_35 (lv_at hl 0 rfl) ?_
            refine lv_lconst (v := 0) hx hb dX5_letterOf_37 (by decide) ?_
            refine W.lcmp hx hb dX5_letterOf_38 ?_
            refine my_ti (v := 0) (by decide) ?_
            refine lv_if_eq (tgt := 61) hx hb dX5_letterOf_39 (by decide) (fun c_39 => ?_) (fun c_39 => absurd c_39 (by decide))
            refine lv_iload_n hx hb dX5_letterOf_61 rfl (lv_at hl 4 rfl) ?_
            refine lv_iload_n hx hb dX5_letterOf_62 rfl (lv_at hl 1 rfl) ?_
            refine lv_icmp_ge (tgt := 89) hx hb dX5_letterOf_63 (by decide) (fun c_63 => ?_) (fun c_63 => ?_)
            · refine lv_iconst (v := (-1)) hx hb dX5_letterOf_89 (by decide) ?_
              exact W.iret (v := (-1)) hx hb hr (fun t ht hW => ⟨⟨(-1), (), rfl, by rcases cs8 c_14 c_20 with rfl | rfl | rfl | rfl | rfl | rfl | rfl | rfl <;> first | (exact absurd c_63 (by decide)) | decide +kernel, trivial⟩, hS.F ht⟩) hS.2.2 dX5_letterOf_90
            · refine lv_aload_n hx hb dX5_letterOf_66 rfl (lv_at hl 2 rfl) ?_
              refine va_get (D := (dC, dI)) (ci := 5) (v := .ref n_packed) (C := RX5) (T := TX5) (N := 5) hx hb hts in_X5_letterOf_RX5 hown hK hP 0 rfl rfl 0 (by decide) (hts (.fieldLink RX5 11 "FourTongues$Names" "packed" "[J") (by decide +kernel)) (fun _ h9 => h9) rfl dX5_letterOf_67 ?_
              refine lv_iload_n hx hb dX5_letterOf_70 rfl (lv_at hl 3 rfl) ?_
              refine va_lald hx hb hK hP 1 0 rfl rfl (by unfold vp_in; decide) dX5_letterOf_71 ?_
              refine my_tl (v := 1684366704) (by rw [hf]; decide +kernel) ?_
              refine lv_bipush (v := 8) hx hb dX5_letterOf_72 (by decide) ?_
              refine lv_iload_n hx hb dX5_letterOf_74 rfl (lv_at hl 1 rfl) ?_
              refine lv_iconst (v := 1) hx hb dX5_letterOf_75 (by decide) ?_
              refine lv_isub hx hb dX5_letterOf_76 ?_
              refine my_ti (v := 3) (by decide) ?_
              refine lv_iload_n hx hb dX5_letterOf_77 rfl (lv_at hl 4 rfl) ?_
              refine lv_isub hx hb dX5_letterOf_78 ?_
              refine lv_imul hx hb dX5_letterOf_79 ?_
              refine lv_lushr (v := ((1684366704 : Int64).toUInt64 >>> ((8 * (3 - x2) : Int32).toInt64.toUInt64 &&& Int64.toUInt64 63)).toInt64) hx hb dX5_letterOf_80 rfl ?_
              refine lv_ldc2 hx hb hown (hts (.constantLong RX5 47 (255)) (by decide +kernel)) dX5_letterOf_81 ?_
              refine lv_land hx hb dX5_letterOf_84 ?_
              refine lv_l2i (v := ((((1684366704 : Int64).toUInt64 >>> ((8 * (3 - x2) : Int32).toInt64.toUInt64 &&& Int64.toUInt64 63)).toInt64) &&& 255).toInt32) hx hb dX5_letterOf_85 rfl ?_
              refine lv_goto (tgt := 90) hx hb dX5_letterOf_86 (by decide) ?_
              exact W.iret (v := ((((1684366704 : Int64).toUInt64 >>> ((8 * (3 - x2) : Int32).toInt64.toUInt64 &&& Int64.toUInt64 63)).toInt64) &&& 255).toInt32) hx hb hr (fun t ht hW => ⟨⟨((((1684366704 : Int64).toUInt64 >>> ((8 * (3 - x2) : Int32).toInt64.toUInt64 &&& Int64.toUInt64 63)).toInt64) &&& 255).toInt32, (), rfl, by rcases cs8 c_14 c_20 with rfl | rfl | rfl | rfl | rfl | rfl | rfl | rfl <;> first | (exact absurd c_63 (by decide)) | decide +kernel, trivial⟩, hS.F ht⟩) hS.2.2 dX5_letterOf_90
          · have _ := hf
            refine lv_iconst (v := 0) hx hb dX5_letterOf_25 (by decide) ?_
            refine lv_istore_n (lv' := [(3, .int 0), (0, .ref h0), (1, .int 7), (2, .int x2)]) hx hb dX5_letterOf_26 rfl hl (by decide) rfl (fun ls hl => ?_)
            refine lv_aload_n hx hb dX5_letterOf_27 rfl (lv_at hl 1 rfl) ?_
            refine va_get (D := (dC, dI)) (ci := 5) (v := .ref n_packed) (C := RX5) (T := TX5) (N := 5) hx hb hts in_X5_letterOf_RX5 hown hK hP 0 rfl rfl 0 (by decide) (hts (.fieldLink RX5 11 "FourTongues$Names" "packed" "[J") (by decide +kernel)) (fun _ h9 => h9) rfl dX5_letterOf_28 ?_
            refine lv_iload_n hx hb dX5_letterOf_31 rfl (lv_at hl 2 rfl) ?_
            refine va_lald hx hb hK hP 1 0 rfl rfl (by unfold vp_in; decide) dX5_letterOf_32 ?_
            refine my_tl (v := 1953653104) (by rw [hf]; decide +kernel) ?_
            refine lv_lstore (lv' := [(4, .long 1953653104), (3, .int 0), (0, .ref h0), (1, .int 7), (2, .int x2)]) hx hb dX5_letterOf_33 hl (by decide) rfl (fun ls hl => ?_)
            refine lv_lload hx hb dX5_letterOf_35 (lv_at hl 0 rfl) ?_
            refine lv_lconst (v := 0) hx hb dX5_letterOf_37 (by decide) ?_
            refine W.lcmp hx hb dX5_letterOf_38 ?_
            refine my_ti (v := 1) (by decide) ?_
            refine lv_if_eq (tgt := 61) hx hb dX5_letterOf_39 (by decide) (fun c_39 => absurd c_39 (by decide)) (fun c_39 => ?_)
            refine lv_iload_n hx hb dX5_letterOf_42 rfl (lv_at hl 1 rfl) ?_
            refine lv_bipush (v := 8) hx hb dX5_letterOf_43 (by decide) ?_
            refine lv_icmp_ge (tgt := 61) hx hb dX5_letterOf_45 (by decide) (fun c_45 => absurd c_45 (by decide)) (fun c_45 => ?_)
            refine lv_iinc (v := 1) (lv' := [(3, .int 1), (4, .long 1953653104), (0, .ref h0), (1, .int 7), (2, .int x2)]) hx hb dX5_letterOf_48 hl (k := 1) rfl (by decide) (by decide) rfl (fun ls hl => ?_)
            refine lv_lload hx hb dX5_letterOf_51 (lv_at hl 1 rfl) ?_
            refine lv_bipush (v := 8) hx hb dX5_letterOf_53 (by decide) ?_
            refine lv_lushr (v := 7631457) hx hb dX5_letterOf_55 (by decide) ?_
            refine lv_lstore (lv' := [(4, .long 7631457), (3, .int 1), (0, .ref h0), (1, .int 7), (2, .int x2)]) hx hb dX5_letterOf_56 hl (by decide) rfl (fun ls hl => ?_)
            refine lv_goto (tgt := 35) hx hb dX5_letterOf_58 (by decide) ?_
            refine lv_lload hx hb dX5_letterOf_35 (lv_at hl 0 rfl) ?_
            refine lv_lconst (v := 0) hx hb dX5_letterOf_37 (by decide) ?_
            refine W.lcmp hx hb dX5_letterOf_38 ?_
            refine my_ti (v := 1) (by decide) ?_
            refine lv_if_eq (tgt := 61) hx hb dX5_letterOf_39 (by decide) (fun c_39 => absurd c_39 (by decide)) (fun c_39 => ?_)
            refine lv_iload_n hx hb dX5_letterOf_42 rfl (lv_at hl 1 rfl) ?_
            refine lv_bipush (v := 8) hx hb dX5_letterOf_43 (by decide) ?_
            refine lv_icmp_ge (tgt := 61) hx hb dX5_letterOf_45 (by decide) (fun c_45 => absurd c_45 (by decide)) (fun c_45 => ?_)
            refine lv_iinc (v := 2) (lv' := [(3, .int 2), (4, .long 7631457), (0, .ref h0), (1, .int 7), (2, .int x2)]) hx hb dX5_letterOf_48 hl (k := 1) rfl (by decide) (by decide) rfl (fun ls hl => ?_)
            refine lv_lload hx hb dX5_letterOf_51 (lv_at hl 1 rfl) ?_
            refine lv_bipush (v := 8) hx hb dX5_letterOf_53 (by decide) ?_
            refine lv_lushr (v := 29810) hx hb dX5_letterOf_55 (by decide) ?_
            refine lv_lstore (lv' := [(4, .long 29810), (3, .int 2), (0, .ref h0), (1, .int 7), (2, .int x2)]) hx hb dX5_letterOf_56 hl (by decide) rfl (fun ls hl => ?_)
            refine lv_goto (tgt := 35) hx hb dX5_letterOf_58 (by decide) ?_
            refine lv_lload hx hb dX5_letterOf_35 (lv_at hl 0 rfl) ?_
            refine lv_lconst (v := 0) hx hb dX5_letterOf_37 (by decide) ?_
            refine W.lcmp hx hb dX5_letterOf_38 ?_
            refine my_ti (v := 1) (by decide) ?_
            refine lv_if_eq (tgt := 61) hx hb dX5_letterOf_39 (by decide) (fun c_39 => absurd c_39 (by decide)) (fun c_39 => ?_)
            refine lv_iload_n hx hb dX5_letterOf_42 rfl (lv_at hl 1 rfl) ?_
            refine lv_bipush (v := 8) hx hb dX5_letterOf_43 (by decide) ?_
            refine lv_icmp_ge (tgt := 61) hx hb dX5_letterOf_45 (by decide) (fun c_45 => absurd c_45 (by decide)) (fun c_45 => ?_)
            refine lv_iinc (v := 3) (lv' := [(3, .int 3), (4, .long 29810), (0, .ref h0), (1, .int 7), (2, .int x2)]) hx hb dX5_letterOf_48 hl (k := 1) rfl (by decide) (by decide) rfl (fun ls hl => ?_)
            refine lv_lload hx hb dX5_letterOf_51 (lv_at hl 1 rfl) ?_
            refine lv_bipush (v := 8) hx hb dX5_letterOf_53 (by decide) ?_
            refine lv_lushr (v := 116) hx hb dX5_letterOf_55 (by decide) ?_
            refine lv_lstore (lv' := [(4, .long 116), (3, .int 3), (0, .ref h0), (1, .int 7), (2, .int x2)]) hx hb dX5_letterOf_56 hl (by decide) rfl (fun ls hl => ?_)
            refine lv_goto (tgt := 35) hx hb dX5_letterOf_58 (by decide) ?_
            refine lv_lload hx hb dX5_letterOf_35 (lv_at hl 0 rfl) ?_
            refine lv_lconst (v := 0) hx hb dX5_letterOf_37 (by decide) ?_
            refine W.lcmp hx hb dX5_letterOf_38 ?_
            refine my_ti (v := 1) (by decide) ?_
            refine lv_if_eq (tgt := 61) hx hb dX5_letterOf_39 (by decide) (fun c_39 => absurd c_39 (by decide)) (fun c_39 => ?_)
            refine lv_iload_n hx hb dX5_letterOf_42 rfl (lv_at hl 1 rfl) ?_
            refine lv_bipush (v := 8) hx hb dX5_letterOf_43 (by decide) ?_
            refine lv_icmp_ge (tgt := 61) hx hb dX5_letterOf_45 (by decide) (fun c_45 => absurd c_45 (by decide)) (fun c_45 => ?_)
            refine lv_iinc (v := 4) (lv' := [(3, .int 4), (4, .long 116), (0, .ref h0), (1, .int 7), (2, .int x2)]) hx hb dX5_letterOf_48 hl (k := 1) rfl (by decide) (by decide) rfl (fun ls hl => ?_)
            refine lv_lload hx hb dX5_letterOf_51 (lv_at hl 1 rfl) ?_
            refine lv_bipush (v := 8) hx hb dX5_letterOf_53 (by decide) ?_
            refine lv_lushr (v := 0) hx hb dX5_letterOf_55 (by decide) ?_
            refine lv_lstore (lv' := [(4, .long 0), (3, .int 4), (0, .ref h0), (1, .int 7), (2, .int x2)]) hx hb dX5_letterOf_56 hl (by decide) rfl (fun ls hl => ?_)
            refine lv_goto (tgt := 35) hx hb dX5_letterOf_58 (by decide) ?_
            refine lv_lload hx hb dX5_letterOf_35 (lv_at hl 0 rfl) ?_
            refine lv_lconst (v := 0) hx hb dX5_letterOf_37 (by decide) ?_
            refine W.lcmp hx hb dX5_letterOf_38 ?_
            refine my_ti (v := 0) (by decide) ?_
            refine lv_if_eq (tgt := 61) hx hb dX5_letterOf_39 (by decide) (fun c_39 => ?_) (fun c_39 => absurd c_39 (by decide))
            refine lv_iload_n hx hb dX5_letterOf_61 rfl (lv_at hl 4 rfl) ?_
            refine lv_iload_n hx hb dX5_letterOf_62 rfl (lv_at hl 1 rfl) ?_
            refine lv_icmp_ge (tgt := 89) hx hb dX5_letterOf_63 (by decide) (fun c_63 => ?_) (fun c_63 => ?_)
            · refine lv_iconst (v := (-1)) hx hb dX5_letterOf_89 (by decide) ?_
              exact W.iret (v := (-1)) hx hb hr (fun t ht hW => ⟨⟨(-1), (), rfl, by rcases cs8 c_14 c_20 with rfl | rfl | rfl | rfl | rfl | rfl | rfl | rfl <;> first | (exact absurd c_63 (by decide)) | decide +kernel, trivial⟩, hS.F ht⟩) hS.2.2 dX5_letterOf_90
            · refine lv_aload_n hx hb dX5_letterOf_66 rfl (lv_at hl 2 rfl) ?_
              refine va_get (D := (dC, dI)) (ci := 5) (v := .ref n_packed) (C := RX5) (T := TX5) (N := 5) hx hb hts in_X5_letterOf_RX5 hown hK hP 0 rfl rfl 0 (by decide) (hts (.fieldLink RX5 11 "FourTongues$Names" "packed" "[J") (by decide +kernel)) (fun _ h9 => h9) rfl dX5_letterOf_67 ?_
              refine lv_iload_n hx hb dX5_letterOf_70 rfl (lv_at hl 3 rfl) ?_
              refine va_lald hx hb hK hP 1 0 rfl rfl (by unfold vp_in; decide) dX5_letterOf_71 ?_
              refine my_tl (v := 1953653104) (by rw [hf]; decide +kernel) ?_
              refine lv_bipush (v := 8) hx hb dX5_letterOf_72 (by decide) ?_
              refine lv_iload_n hx hb dX5_letterOf_74 rfl (lv_at hl 1 rfl) ?_
              refine lv_iconst (v := 1) hx hb dX5_letterOf_75 (by decide) ?_
              refine lv_isub hx hb dX5_letterOf_76 ?_
              refine my_ti (v := 3) (by decide) ?_
              refine lv_iload_n hx hb dX5_letterOf_77 rfl (lv_at hl 4 rfl) ?_
              refine lv_isub hx hb dX5_letterOf_78 ?_
              refine lv_imul hx hb dX5_letterOf_79 ?_
              refine lv_lushr (v := ((1953653104 : Int64).toUInt64 >>> ((8 * (3 - x2) : Int32).toInt64.toUInt64 &&& Int64.toUInt64 63)).toInt64) hx hb dX5_letterOf_80 rfl ?_
              refine lv_ldc2 hx hb hown (hts (.constantLong RX5 47 (255)) (by decide +kernel)) dX5_letterOf_81 ?_
              refine lv_land hx hb dX5_letterOf_84 ?_
              refine lv_l2i (v := ((((1953653104 : Int64).toUInt64 >>> ((8 * (3 - x2) : Int32).toInt64.toUInt64 &&& Int64.toUInt64 63)).toInt64) &&& 255).toInt32) hx hb dX5_letterOf_85 rfl ?_
              refine lv_goto (tgt := 90) hx hb dX5_letterOf_86 (by decide) ?_
              exact W.iret (v := ((((1953653104 : Int64).toUInt64 >>> ((8 * (3 - x2) : Int32).toInt64.toUInt64 &&& Int64.toUInt64 63)).toInt64) &&& 255).toInt32) hx hb hr (fun t ht hW => ⟨⟨((((1953653104 : Int64).toUInt64 >>> ((8 * (3 - x2) : Int32).toInt64.toUInt64 &&& Int64.toUInt64 63)).toInt64) &&& 255).toInt32, (), rfl, by rcases cs8 c_14 c_20 with rfl | rfl | rfl | rfl | rfl | rfl | rfl | rfl <;> first | (exact absurd c_63 (by decide)) | decide +kernel, trivial⟩, hS.F ht⟩) hS.2.2 dX5_letterOf_90
          · have _ := hf
            refine lv_iconst (v := 0) hx hb dX5_letterOf_25 (by decide) ?_
            refine lv_istore_n (lv' := [(3, .int 0), (0, .ref h0), (1, .int 8), (2, .int x2)]) hx hb dX5_letterOf_26 rfl hl (by decide) rfl (fun ls hl => ?_)
            refine lv_aload_n hx hb dX5_letterOf_27 rfl (lv_at hl 1 rfl) ?_
            refine va_get (D := (dC, dI)) (ci := 5) (v := .ref n_packed) (C := RX5) (T := TX5) (N := 5) hx hb hts in_X5_letterOf_RX5 hown hK hP 0 rfl rfl 0 (by decide) (hts (.fieldLink RX5 11 "FourTongues$Names" "packed" "[J") (by decide +kernel)) (fun _ h9 => h9) rfl dX5_letterOf_28 ?_
            refine lv_iload_n hx hb dX5_letterOf_31 rfl (lv_at hl 2 rfl) ?_
            refine va_lald hx hb hK hP 1 0 rfl rfl (by unfold vp_in; decide) dX5_letterOf_32 ?_
            refine my_tl (v := 1819243380) (by rw [hf]; decide +kernel) ?_
            refine lv_lstore (lv' := [(4, .long 1819243380), (3, .int 0), (0, .ref h0), (1, .int 8), (2, .int x2)]) hx hb dX5_letterOf_33 hl (by decide) rfl (fun ls hl => ?_)
            refine lv_lload hx hb dX5_letterOf_35 (lv_at hl 0 rfl) ?_
            refine lv_lconst (v := 0) hx hb dX5_letterOf_37 (by decide) ?_
            refine W.lcmp hx hb dX5_letterOf_38 ?_
            refine my_ti (v := 1) (by decide) ?_
            refine lv_if_eq (tgt := 61) hx hb dX5_letterOf_39 (by decide) (fun c_39 => absurd c_39 (by decide)) (fun c_39 => ?_)
            refine lv_iload_n hx hb dX5_letterOf_42 rfl (lv_at hl 1 rfl) ?_
            refine lv_bipush (v := 8) hx hb dX5_letterOf_43 (by decide) ?_
            refine lv_icmp_ge (tgt := 61) hx hb dX5_letterOf_45 (by decide) (fun c_45 => absurd c_45 (by decide)) (fun c_45 => ?_)
            refine lv_iinc (v := 1) (lv' := [(3, .int 1), (4, .long 1819243380), (0, .ref h0), (1, .int 8), (2, .int x2)]) hx hb dX5_letterOf_48 hl (k := 1) rfl (by decide) (by decide) rfl (fun ls hl => ?_)
            refine lv_lload hx hb dX5_letterOf_51 (lv_at hl 1 rfl) ?_
            refine lv_bipush (v := 8) hx hb dX5_letterOf_53 (by decide) ?_
            refine lv_lushr (v := 7106419) hx hb dX5_letterOf_55 (by decide) ?_
            refine lv_lstore (lv' := [(4, .long 7106419), (3, .int 1), (0, .ref h0), (1, .int 8), (2, .int x2)]) hx hb dX5_letterOf_56 hl (by decide) rfl (fun ls hl => ?_)
            refine lv_goto (tgt := 35) hx hb dX5_letterOf_58 (by decide) ?_
            refine lv_lload hx hb dX5_letterOf_35 (lv_at hl 0 rfl) ?_
            refine lv_lconst (v := 0) hx hb dX5_letterOf_37 (by decide) ?_
            refine W.lcmp hx hb dX5_letterOf_38 ?_
            refine my_ti (v := 1) (by decide) ?_
            refine lv_if_eq (tgt := 61) hx hb dX5_letterOf_39 (by decide) (fun c_39 => absurd c_39 (by decide)) (fun c_39 => ?_)
            refine lv_iload_n hx hb dX5_letterOf_42 rfl (lv_at hl 1 rfl) ?_
            refine lv_bipush (v := 8) hx hb dX5_letterOf_43 (by decide) ?_
            refine lv_icmp_ge (tgt := 61) hx hb dX5_letterOf_45 (by decide) (fun c_45 => absurd c_45 (by decide)) (fun c_45 => ?_)
            refine lv_iinc (v := 2) (lv' := [(3, .int 2), (4, .long 7106419), (0, .ref h0), (1, .int 8), (2, .int x2)]) hx hb dX5_letterOf_48 hl (k := 1) rfl (by decide) (by decide) rfl (fun ls hl => ?_)
            refine lv_lload hx hb dX5_letterOf_51 (lv_at hl 1 rfl) ?_
            refine lv_bipush (v := 8) hx hb dX5_letterOf_53 (by decide) ?_
            refine lv_lushr (v := 27759) hx hb dX5_letterOf_55 (by decide) ?_
            refine lv_lstore (lv' := [(4, .long 27759), (3, .int 2), (0, .ref h0), (1, .int 8), (2, .int x2)]) hx hb dX5_letterOf_56 hl (by decide) rfl (fun ls hl => ?_)
            refine lv_goto (tgt := 35) hx hb dX5_letterOf_58 (by decide) ?_
            refine lv_lload hx hb dX5_letterOf_35 (lv_at hl 0 rfl) ?_
            refine lv_lconst (v := 0) hx hb dX5_letterOf_37 (by decide) ?_
            refine W.lcmp hx hb dX5_letterOf_38 ?_
            refine my_ti (v := 1) (by decide) ?_
            refine lv_if_eq (tgt := 61) hx hb dX5_letterOf_39 (by decide) (fun c_39 => absurd c_39 (by decide)) (fun c_39 => ?_)
            refine lv_iload_n hx hb dX5_letterOf_42 rfl (lv_at hl 1 rfl) ?_
            refine lv_bipush (v := 8) hx hb dX5_letterOf_43 (by decide) ?_
            refine lv_icmp_ge (tgt := 61) hx hb dX5_letterOf_45 (by decide) (fun c_45 => absurd c_45 (by decide)) (fun c_45 => ?_)
            refine lv_iinc (v := 3) (lv' := [(3, .int 3), (4, .long 27759), (0, .ref h0), (1, .int 8), (2, .int x2)]) hx hb dX5_letterOf_48 hl (k := 1) rfl (by decide) (by decide) rfl (fun ls hl => ?_)
            refine lv_lload hx hb dX5_letterOf_51 (lv_at hl 1 rfl) ?_
            refine lv_bipush (v := 8) hx hb dX5_letterOf_53 (by decide) ?_
            refine lv_lushr (v := 108) hx hb dX5_letterOf_55 (by decide) ?_
            refine lv_lstore (lv' := [(4, .long 108), (3, .int 3), (0, .ref h0), (1, .int 8), (2, .int x2)]) hx hb dX5_letterOf_56 hl (by decide) rfl (fun ls hl => ?_)
            refine lv_goto (tgt := 35) hx hb dX5_letterOf_58 (by decide) ?_
            refine lv_lload hx hb dX5_letterOf_35 (lv_at hl 0 rfl) ?_
            refine lv_lconst (v := 0) hx hb dX5_letterOf_37 (by decide) ?_
            refine W.lcmp hx hb dX5_letterOf_38 ?_
            refine my_ti (v := 1) (by decide) ?_
            refine lv_if_eq (tgt := 61) hx hb dX5_letterOf_39 (by decide) (fun c_39 => absurd c_39 (by decide)) (fun c_39 => ?_)
            refine lv_iload_n hx hb dX5_letterOf_42 rfl (lv_at hl 1 rfl) ?_
            refine lv_bipush (v := 8) hx hb dX5_letterOf_43 (by decide) ?_
            refine lv_icmp_ge (tgt := 61) hx hb dX5_letterOf_45 (by decide) (fun c_45 => absurd c_45 (by decide)) (fun c_45 => ?_)
            refine lv_iinc (v := 4) (lv' := [(3, .int 4), (4, .long 108), (0, .ref h0), (1, .int 8), (2, .int x2)]) hx hb dX5_letterOf_48 hl (k := 1) rfl (by decide) (by decide) rfl (fun ls hl => ?_)
            refine lv_lload hx hb dX5_letterOf_51 (lv_at hl 1 rfl) ?_
            refine lv_bipush (v := 8) hx hb dX5_letterOf_53 (by decide) ?_
            refine lv_lushr (v := 0) hx hb dX5_letterOf_55 (by decide) ?_
            refine lv_lstore (lv' := [(4, .long 0), (3, .int 4), (0, .ref h0), (1, .int 8), (2, .int x2)]) hx hb dX5_letterOf_56 hl (by decide) rfl (fun ls hl => ?_)
            refine lv_goto (tgt := 35) hx hb dX5_letterOf_58 (by decide) ?_
            refine lv_lload hx hb dX5_letterOf_35 (lv_at hl 0 rfl) ?_
            refine lv_lconst (v := 0) hx hb dX5_letterOf_37 (by decide) ?_
            refine W.lcmp hx hb dX5_letterOf_38 ?_
            refine my_ti (v := 0) (by decide) ?_
            refine lv_if_eq (tgt := 61) hx hb dX5_letterOf_39 (by decide) (fun c_39 => ?_) (fun c_39 => absurd c_39 (by decide))
            refine lv_iload_n hx hb dX5_letterOf_61 rfl (lv_at hl 4 rfl) ?_
            refine lv_iload_n hx hb dX5_letterOf_62 rfl (lv_at hl 1 rfl) ?_
            refine lv_icmp_ge (tgt := 89) hx hb dX5_letterOf_63 (by decide) (fun c_63 => ?_) (fun c_63 => ?_)
            · refine lv_iconst (v := (-1)) hx hb dX5_letterOf_89 (by decide) ?_
              exact W.iret (v := (-1)) hx hb hr (fun t ht hW => ⟨⟨(-1), (), rfl, by rcases cs8 c_14 c_20 with rfl | rfl | rfl | rfl | rfl | rfl | rfl | rfl <;> first | (exact absurd c_63 (by decide)) | decide +kernel, trivial⟩, hS.F ht⟩) hS.2.2 dX5_letterOf_90
            · refine lv_aload_n hx hb dX5_letterOf_66 rfl (lv_at hl 2 rfl) ?_
              refine va_get (D := (dC, dI)) (ci := 5) (v := .ref n_packed) (C := RX5) (T := TX5) (N := 5) hx hb hts in_X5_letterOf_RX5 hown hK hP 0 rfl rfl 0 (by decide) (hts (.fieldLink RX5 11 "FourTongues$Names" "packed" "[J") (by decide +kernel)) (fun _ h9 => h9) rfl dX5_letterOf_67 ?_
              refine lv_iload_n hx hb dX5_letterOf_70 rfl (lv_at hl 3 rfl) ?_
              refine va_lald hx hb hK hP 1 0 rfl rfl (by unfold vp_in; decide) dX5_letterOf_71 ?_
              refine my_tl (v := 1819243380) (by rw [hf]; decide +kernel) ?_
              refine lv_bipush (v := 8) hx hb dX5_letterOf_72 (by decide) ?_
              refine lv_iload_n hx hb dX5_letterOf_74 rfl (lv_at hl 1 rfl) ?_
              refine lv_iconst (v := 1) hx hb dX5_letterOf_75 (by decide) ?_
              refine lv_isub hx hb dX5_letterOf_76 ?_
              refine my_ti (v := 3) (by decide) ?_
              refine lv_iload_n hx hb dX5_letterOf_77 rfl (lv_at hl 4 rfl) ?_
              refine lv_isub hx hb dX5_letterOf_78 ?_
              refine lv_imul hx hb dX5_letterOf_79 ?_
              refine lv_lushr (v := ((1819243380 : Int64).toUInt64 >>> ((8 * (3 - x2) : Int32).toInt64.toUInt64 &&& Int64.toUInt64 63)).toInt64) hx hb dX5_letterOf_80 rfl ?_
              refine lv_ldc2 hx hb hown (hts (.constantLong RX5 47 (255)) (by decide +kernel)) dX5_letterOf_81 ?_
              refine lv_land hx hb dX5_letterOf_84 ?_
              refine lv_l2i (v := ((((1819243380 : Int64).toUInt64 >>> ((8 * (3 - x2) : Int32).toInt64.toUInt64 &&& Int64.toUInt64 63)).toInt64) &&& 255).toInt32) hx hb dX5_letterOf_85 rfl ?_
              refine lv_goto (tgt := 90) hx hb dX5_letterOf_86 (by decide) ?_
              exact W.iret (v := ((((1819243380 : Int64).toUInt64 >>> ((8 * (3 - x2) : Int32).toInt64.toUInt64 &&& Int64.toUInt64 63)).toInt64) &&& 255).toInt32) hx hb hr (fun t ht hW => ⟨⟨((((1819243380 : Int64).toUInt64 >>> ((8 * (3 - x2) : Int32).toInt64.toUInt64 &&& Int64.toUInt64 63)).toInt64) &&& 255).toInt32, (), rfl, by rcases cs8 c_14 c_20 with rfl | rfl | rfl | rfl | rfl | rfl | rfl | rfl <;> first | (exact absurd c_63 (by decide)) | decide +kernel, trivial⟩, hS.F ht⟩) hS.2.2 dX5_letterOf_90
          · have _ := hf
            refine lv_iconst (v := 0) hx hb dX5_letterOf_25 (by decide) ?_
            refine lv_istore_n (lv' := [(3, .int 0), (0, .ref h0), (1, .int 9), (2, .int x2)]) hx hb dX5_letterOf_26 rfl hl (by decide) rfl (fun ls hl => ?_)
            refine lv_aload_n hx hb dX5_letterOf_27 rfl (lv_at hl 1 rfl) ?_
            refine va_get (D := (dC, dI)) (ci := 5) (v := .ref n_packed) (C := RX5) (T := TX5) (N := 5) hx hb hts in_X5_letterOf_RX5 hown hK hP 0 rfl rfl 0 (by decide) (hts (.fieldLink RX5 11 "FourTongues$Names" "packed" "[J") (by decide +kernel)) (fun _ h9 => h9) rfl dX5_letterOf_28 ?_
            refine lv_iload_n hx hb dX5_letterOf_31 rfl (lv_at hl 2 rfl) ?_
            refine va_lald hx hb hK hP 1 0 rfl rfl (by unfold vp_in; decide) dX5_letterOf_32 ?_
            refine my_tl (v := 108230800074098) (by rw [hf]; decide +kernel) ?_
            refine lv_lstore (lv' := [(4, .long 108230800074098), (3, .int 0), (0, .ref h0), (1, .int 9), (2, .int x2)]) hx hb dX5_letterOf_33 hl (by decide) rfl (fun ls hl => ?_)
            refine lv_lload hx hb dX5_letterOf_35 (lv_at hl 0 rfl) ?_
            refine lv_lconst (v := 0) hx hb dX5_letterOf_37 (by decide) ?_
            refine W.lcmp hx hb dX5_letterOf_38 ?_
            refine my_ti (v := 1) (by decide) ?_
            refine lv_if_eq (tgt := 61) hx hb dX5_letterOf_39 (by decide) (fun c_39 => absurd c_39 (by decide)) (fun c_39 => ?_)
            refine lv_iload_n hx hb dX5_letterOf_42 rfl (lv_at hl 1 rfl) ?_
            refine lv_bipush (v := 8) hx hb dX5_letterOf_43 (by decide) ?_
            refine lv_icmp_ge (tgt := 61) hx hb dX5_letterOf_45 (by decide) (fun c_45 => absurd c_45 (by decide)) (fun c_45 => ?_)
            refine lv_iinc (v := 1) (lv' := [(3, .int 1), (4, .long 108230800074098), (0, .ref h0), (1, .int 9), (2, .int x2)]) hx hb dX5_letterOf_48 hl (k := 1) rfl (by decide) (by decide) rfl (fun ls hl => ?_)
            refine lv_lload hx hb dX5_letterOf_51 (lv_at hl 1 rfl) ?_
            refine lv_bipush (v := 8) hx hb dX5_letterOf_53 (by decide) ?_
            refine lv_lushr (v := 422776562789) hx hb dX5_letterOf_55 (by decide) ?_
            refine lv_lstore (lv' := [(4, .long 422776562789), (3, .int 1), (0, .ref h0), (1, .int 9), (2, .int x2)]) hx hb dX5_letterOf_56 hl (by decide) rfl (fun ls hl => ?_)
            refine lv_goto (tgt := 35) hx hb dX5_letterOf_58 (by decide) ?_
            refine lv_lload hx hb dX5_letterOf_35 (lv_at hl 0 rfl) ?_
            refine lv_lconst (v := 0) hx hb dX5_letterOf_37 (by decide) ?_
            refine W.lcmp hx hb dX5_letterOf_38 ?_
            refine my_ti (v := 1) (by decide) ?_
            refine lv_if_eq (tgt := 61) hx hb dX5_letterOf_39 (by decide) (fun c_39 => absurd c_39 (by decide)) (fun c_39 => ?_)
            refine lv_iload_n hx hb dX5_letterOf_42 rfl (lv_at hl 1 rfl) ?_
            refine lv_bipush (v := 8) hx hb dX5_letterOf_43 (by decide) ?_
            refine lv_icmp_ge (tgt := 61) hx hb dX5_letterOf_45 (by decide) (fun c_45 => absurd c_45 (by decide)) (fun c_45 => ?_)
            refine lv_iinc (v := 2) (lv' := [(3, .int 2), (4, .long 422776562789), (0, .ref h0), (1, .int 9), (2, .int x2)]) hx hb dX5_letterOf_48 hl (k := 1) rfl (by decide) (by decide) rfl (fun ls hl => ?_)
            refine lv_lload hx hb dX5_letterOf_51 (lv_at hl 1 rfl) ?_
            refine lv_bipush (v := 8) hx hb dX5_letterOf_53 (by decide) ?_
            refine lv_lushr (v := 1651470948) hx hb dX5_letterOf_55 (by decide) ?_
            refine lv_lstore (lv' := [(4, .long 1651470948), (3, .int 2), (0, .ref h0), (1, .int 9), (2, .int x2)]) hx hb dX5_letterOf_56 hl (by decide) rfl (fun ls hl => ?_)
            refine lv_goto (tgt := 35) hx hb dX5_letterOf_58 (by decide) ?_
            refine lv_lload hx hb dX5_letterOf_35 (lv_at hl 0 rfl) ?_
            refine lv_lconst (v := 0) hx hb dX5_letterOf_37 (by decide) ?_
            refine W.lcmp hx hb dX5_letterOf_38 ?_
            refine my_ti (v := 1) (by decide) ?_
            refine lv_if_eq (tgt := 61) hx hb dX5_letterOf_39 (by decide) (fun c_39 => absurd c_39 (by decide)) (fun c_39 => ?_)
            refine lv_iload_n hx hb dX5_letterOf_42 rfl (lv_at hl 1 rfl) ?_
            refine lv_bipush (v := 8) hx hb dX5_letterOf_43 (by decide) ?_
            refine lv_icmp_ge (tgt := 61) hx hb dX5_letterOf_45 (by decide) (fun c_45 => absurd c_45 (by decide)) (fun c_45 => ?_)
            refine lv_iinc (v := 3) (lv' := [(3, .int 3), (4, .long 1651470948), (0, .ref h0), (1, .int 9), (2, .int x2)]) hx hb dX5_letterOf_48 hl (k := 1) rfl (by decide) (by decide) rfl (fun ls hl => ?_)
            refine lv_lload hx hb dX5_letterOf_51 (lv_at hl 1 rfl) ?_
            refine lv_bipush (v := 8) hx hb dX5_letterOf_53 (by decide) ?_
            refine lv_lushr (v := 6451058) hx hb dX5_letterOf_55 (by decide) ?_
            refine lv_lstore (lv' := [(4, .long 6451058), (3, .int 3), (0, .ref h0), (1, .int 9), (2, .int x2)]) hx hb dX5_letterOf_56 hl (by decide) rfl (fun ls hl => ?_)
            refine lv_goto (tgt := 35) hx hb dX5_letterOf_58 (by decide) ?_
            refine lv_lload hx hb dX5_letterOf_35 (lv_at hl 0 rfl) ?_
            refine lv_lconst (v := 0) hx hb dX5_letterOf_37 (by decide) ?_
            refine W.lcmp hx hb dX5_letterOf_38 ?_
            refine my_ti (v := 1) (by decide) ?_
            refine lv_if_eq (tgt := 61) hx hb dX5_letterOf_39 (by decide) (fun c_39 => absurd c_39 (by decide)) (fun c_39 => ?_)
            refine lv_iload_n hx hb dX5_letterOf_42 rfl (lv_at hl 1 rfl) ?_
            refine lv_bipush (v := 8) hx hb dX5_letterOf_43 (by decide) ?_
            refine lv_icmp_ge (tgt := 61) hx hb dX5_letterOf_45 (by decide) (fun c_45 => absurd c_45 (by decide)) (fun c_45 => ?_)
            refine lv_iinc (v := 4) (lv' := [(3, .int 4), (4, .long 6451058), (0, .ref h0), (1, .int 9), (2, .int x2)]) hx hb dX5_letterOf_48 hl (k := 1) rfl (by decide) (by decide) rfl (fun ls hl => ?_)
            refine lv_lload hx hb dX5_letterOf_51 (lv_at hl 1 rfl) ?_
            refine lv_bipush (v := 8) hx hb dX5_letterOf_53 (by decide) ?_
            refine lv_lushr (v := 25199) hx hb dX5_letterOf_55 (by decide) ?_
            refine lv_lstore (lv' := [(4, .long 25199), (3, .int 4), (0, .ref h0), (1, .int 9), (2, .int x2)]) hx hb dX5_letterOf_56 hl (by decide) rfl (fun ls hl => ?_)
            refine lv_goto (tgt := 35) hx hb dX5_letterOf_58 (by decide) ?_
            refine lv_lload hx hb dX5_letterOf_35 (lv_at hl 0 rfl) ?_
            refine lv_lconst (v := 0) hx hb dX5_letterOf_37 (by decide) ?_
            refine W.lcmp hx hb dX5_letterOf_38 ?_
            refine my_ti (v := 1) (by decide) ?_
            refine lv_if_eq (tgt := 61) hx hb dX5_letterOf_39 (by decide) (fun c_39 => absurd c_39 (by decide)) (fun c_39 => ?_)
            refine lv_iload_n hx hb dX5_letterOf_42 rfl (lv_at hl 1 rfl) ?_
            refine lv_bipush (v := 8) hx hb dX5_letterOf_43 (by decide) ?_
            refine lv_icmp_ge (tgt := 61) hx hb dX5_letterOf_45 (by decide) (fun c_45 => absurd c_45 (by decide)) (fun c_45 => ?_)
            refine lv_iinc (v := 5) (lv' := [(3, .int 5), (4, .long 25199), (0, .ref h0), (1, .int 9), (2, .int x2)]) hx hb dX5_letterOf_48 hl (k := 1) rfl (by decide) (by decide) rfl (fun ls hl => ?_)
            refine lv_lload hx hb dX5_letterOf_51 (lv_at hl 1 rfl) ?_
            refine lv_bipush (v := 8) hx hb dX5_letterOf_53 (by decide) ?_
            refine lv_lushr (v := 98) hx hb dX5_letterOf_55 (by decide) ?_
            refine lv_lstore (lv' := [(4, .long 98), (3, .int 5), (0, .ref h0), (1, .int 9), (2, .int x2)]) hx hb dX5_letterOf_56 hl (by decide) rfl (fun ls hl => ?_)
            refine lv_goto (tgt := 35) hx hb dX5_letterOf_58 (by decide) ?_
            refine lv_lload hx hb dX5_letterOf_35 (lv_at hl 0 rfl) ?_
            refine lv_lconst (v := 0) hx hb dX5_letterOf_37 (by decide) ?_
            refine W.lcmp hx hb dX5_letterOf_38 ?_
            refine my_ti (v := 1) (by decide) ?_
            refine lv_if_eq (tgt := 61) hx hb dX5_letterOf_39 (by decide) (fun c_39 => absurd c_39 (by decide)) (fun c_39 => ?_)
            refine lv_iload_n hx hb dX5_letterOf_42 rfl (lv_at hl 1 rfl) ?_
            refine lv_bipush (v := 8) hx hb dX5_letterOf_43 (by decide) ?_
            refine lv_icmp_ge (tgt := 61) hx hb dX5_letterOf_45 (by decide) (fun c_45 => absurd c_45 (by decide)) (fun c_45 => ?_)
            refine lv_iinc (v := 6) (lv' := [(3, .int 6), (4, .long 98), (0, .ref h0), (1, .int 9), (2, .int x2)]) hx hb dX5_letterOf_48 hl (k := 1) rfl (by decide) (by decide) rfl (fun ls hl => ?_)
            refine lv_lload hx hb dX5_letterOf_51 (lv_at hl 1 rfl) ?_
            refine lv_bipush (v := 8) hx hb dX5_letterOf_53 (by decide) ?_
            refine lv_lushr (v := 0) hx hb dX5_letterOf_55 (by decide) ?_
            refine lv_lstore (lv' := [(4, .long 0), (3, .int 6), (0, .ref h0), (1, .int 9), (2, .int x2)]) hx hb dX5_letterOf_56 hl (by decide) rfl (fun ls hl => ?_)
            refine lv_goto (tgt := 35) hx hb dX5_letterOf_58 (by decide) ?_
            refine lv_lload hx hb dX5_letterOf_35 (lv_at hl 0 rfl) ?_
            refine lv_lconst (v := 0) hx hb dX5_letterOf_37 (by decide) ?_
            refine W.lcmp hx hb dX5_letterOf_38 ?_
            refine my_ti (v := 0) (by decide) ?_
            refine lv_if_eq (tgt := 61) hx hb dX5_letterOf_39 (by decide) (fun c_39 => ?_) (fun c_39 => absurd c_39 (by decide))
            refine lv_iload_n hx hb dX5_letterOf_61 rfl (lv_at hl 4 rfl) ?_
            refine lv_iload_n hx hb dX5_letterOf_62 rfl (lv_at hl 1 rfl) ?_
            refine lv_icmp_ge (tgt := 89) hx hb dX5_letterOf_63 (by decide) (fun c_63 => ?_) (fun c_63 => ?_)
            · refine lv_iconst (v := (-1)) hx hb dX5_letterOf_89 (by decide) ?_
              exact W.iret (v := (-1)) hx hb hr (fun t ht hW => ⟨⟨(-1), (), rfl, by rcases cs8 c_14 c_20 with rfl | rfl | rfl | rfl | rfl | rfl | rfl | rfl <;> first | (exact absurd c_63 (by decide)) | decide +kernel, trivial⟩, hS.F ht⟩) hS.2.2 dX5_letterOf_90
            · refine lv_aload_n hx hb dX5_letterOf_66 rfl (lv_at hl 2 rfl) ?_
              refine va_get (D := (dC, dI)) (ci := 5) (v := .ref n_packed) (C := RX5) (T := TX5) (N := 5) hx hb hts in_X5_letterOf_RX5 hown hK hP 0 rfl rfl 0 (by decide) (hts (.fieldLink RX5 11 "FourTongues$Names" "packed" "[J") (by decide +kernel)) (fun _ h9 => h9) rfl dX5_letterOf_67 ?_
              refine lv_iload_n hx hb dX5_letterOf_70 rfl (lv_at hl 3 rfl) ?_
              refine va_lald hx hb hK hP 1 0 rfl rfl (by unfold vp_in; decide) dX5_letterOf_71 ?_
              refine my_tl (v := 108230800074098) (by rw [hf]; decide +kernel) ?_
              refine lv_bipush (v := 8) hx hb dX5_letterOf_72 (by decide) ?_
              refine lv_iload_n hx hb dX5_letterOf_74 rfl (lv_at hl 1 rfl) ?_
              refine lv_iconst (v := 1) hx hb dX5_letterOf_75 (by decide) ?_
              refine lv_isub hx hb dX5_letterOf_76 ?_
              refine my_ti (v := 5) (by decide) ?_
              refine lv_iload_n hx hb dX5_letterOf_77 rfl (lv_at hl 4 rfl) ?_
              refine lv_isub hx hb dX5_letterOf_78 ?_
              refine lv_imul hx hb dX5_letterOf_79 ?_
              refine lv_lushr (v := ((108230800074098 : Int64).toUInt64 >>> ((8 * (5 - x2) : Int32).toInt64.toUInt64 &&& Int64.toUInt64 63)).toInt64) hx hb dX5_letterOf_80 rfl ?_
              refine lv_ldc2 hx hb hown (hts (.constantLong RX5 47 (255)) (by decide +kernel)) dX5_letterOf_81 ?_
              refine lv_land hx hb dX5_letterOf_84 ?_
              refine lv_l2i (v := ((((108230800074098 : Int64).toUInt64 >>> ((8 * (5 - x2) : Int32).toInt64.toUInt64 &&& Int64.toUInt64 63)).toInt64) &&& 255).toInt32) hx hb dX5_letterOf_85 rfl ?_
              refine lv_goto (tgt := 90) hx hb dX5_letterOf_86 (by decide) ?_
              exact W.iret (v := ((((108230800074098 : Int64).toUInt64 >>> ((8 * (5 - x2) : Int32).toInt64.toUInt64 &&& Int64.toUInt64 63)).toInt64) &&& 255).toInt32) hx hb hr (fun t ht hW => ⟨⟨((((108230800074098 : Int64).toUInt64 >>> ((8 * (5 - x2) : Int32).toInt64.toUInt64 &&& Int64.toUInt64 63)).toInt64) &&& 255).toInt32, (), rfl, by rcases cs8 c_14 c_20 with rfl | rfl | rfl | rfl | rfl | rfl | rfl | rfl <;> first | (exact absurd c_63 (by decide)) | decide +kernel, trivial⟩, hS.F ht⟩) hS.2.2 dX5_letterOf_90
          · have _ := hf
            refine lv_iconst (v := 0) hx hb dX5_letterOf_25 (by decide) ?_
            refine lv_istore_n (lv' := [(3, .int 0), (0, .ref h0), (1, .int 10), (2, .int x2)]) hx hb dX5_letterOf_26 rfl hl (by decide) rfl (fun ls hl => ?_)
            refine lv_aload_n hx hb dX5_letterOf_27 rfl (lv_at hl 1 rfl) ?_
            refine va_get (D := (dC, dI)) (ci := 5) (v := .ref n_packed) (C := RX5) (T := TX5) (N := 5) hx hb hts in_X5_letterOf_RX5 hown hK hP 0 rfl rfl 0 (by decide) (hts (.fieldLink RX5 11 "FourTongues$Names" "packed" "[J") (by decide +kernel)) (fun _ h9 => h9) rfl dX5_letterOf_28 ?_
            refine lv_iload_n hx hb dX5_letterOf_31 rfl (lv_at hl 2 rfl) ?_
            refine va_lald hx hb hK hP 1 0 rfl rfl (by unfold vp_in; decide) dX5_letterOf_32 ?_
            refine my_tl (v := 6385273) (by rw [hf]; decide +kernel) ?_
            refine lv_lstore (lv' := [(4, .long 6385273), (3, .int 0), (0, .ref h0), (1, .int 10), (2, .int x2)]) hx hb dX5_letterOf_33 hl (by decide) rfl (fun ls hl => ?_)
            refine lv_lload hx hb dX5_letterOf_35 (lv_at hl 0 rfl) ?_
            refine lv_lconst (v := 0) hx hb dX5_letterOf_37 (by decide) ?_
            refine W.lcmp hx hb dX5_letterOf_38 ?_
            refine my_ti (v := 1) (by decide) ?_
            refine lv_if_eq (tgt := 61) hx hb dX5_letterOf_39 (by decide) (fun c_39 => absurd c_39 (by decide)) (fun c_39 => ?_)
            refine lv_iload_n hx hb dX5_letterOf_42 rfl (lv_at hl 1 rfl) ?_
            refine lv_bipush (v := 8) hx hb dX5_letterOf_43 (by decide) ?_
            refine lv_icmp_ge (tgt := 61) hx hb dX5_letterOf_45 (by decide) (fun c_45 => absurd c_45 (by decide)) (fun c_45 => ?_)
            refine lv_iinc (v := 1) (lv' := [(3, .int 1), (4, .long 6385273), (0, .ref h0), (1, .int 10), (2, .int x2)]) hx hb dX5_letterOf_48 hl (k := 1) rfl (by decide) (by decide) rfl (fun ls hl => ?_)
            refine lv_lload hx hb dX5_letterOf_51 (lv_at hl 1 rfl) ?_
            refine lv_bipush (v := 8) hx hb dX5_letterOf_53 (by decide) ?_
            refine lv_lushr (v := 24942) hx hb dX5_letterOf_55 (by decide) ?_
            refine lv_lstore (lv' := [(4, .long 24942), (3, .int 1), (0, .ref h0), (1, .int 10), (2, .int x2)]) hx hb dX5_letterOf_56 hl (by decide) rfl (fun ls hl => ?_)
            refine lv_goto (tgt := 35) hx hb dX5_letterOf_58 (by decide) ?_
            refine lv_lload hx hb dX5_letterOf_35 (lv_at hl 0 rfl) ?_
            refine lv_lconst (v := 0) hx hb dX5_letterOf_37 (by decide) ?_
            refine W.lcmp hx hb dX5_letterOf_38 ?_
            refine my_ti (v := 1) (by decide) ?_
            refine lv_if_eq (tgt := 61) hx hb dX5_letterOf_39 (by decide) (fun c_39 => absurd c_39 (by decide)) (fun c_39 => ?_)
            refine lv_iload_n hx hb dX5_letterOf_42 rfl (lv_at hl 1 rfl) ?_
            refine lv_bipush (v := 8) hx hb dX5_letterOf_43 (by decide) ?_
            refine lv_icmp_ge (tgt := 61) hx hb dX5_letterOf_45 (by decide) (fun c_45 => absurd c_45 (by decide)) (fun c_45 => ?_)
            refine lv_iinc (v := 2) (lv' := [(3, .int 2), (4, .long 24942), (0, .ref h0), (1, .int 10), (2, .int x2)]) hx hb dX5_letterOf_48 hl (k := 1) rfl (by decide) (by decide) rfl (fun ls hl => ?_)
            refine lv_lload hx hb dX5_letterOf_51 (lv_at hl 1 rfl) ?_
            refine lv_bipush (v := 8) hx hb dX5_letterOf_53 (by decide) ?_
            refine lv_lushr (v := 97) hx hb dX5_letterOf_55 (by decide) ?_
            refine lv_lstore (lv' := [(4, .long 97), (3, .int 2), (0, .ref h0), (1, .int 10), (2, .int x2)]) hx hb dX5_letterOf_56 hl (by decide) rfl (fun ls hl => ?_)
            refine lv_goto (tgt := 35) hx hb dX5_letterOf_58 (by decide) ?_
            refine lv_lload hx hb dX5_letterOf_35 (lv_at hl 0 rfl) ?_
            refine lv_lconst (v := 0) hx hb dX5_letterOf_37 (by decide) ?_
            refine W.lcmp hx hb dX5_letterOf_38 ?_
            refine my_ti (v := 1) (by decide) ?_
            refine lv_if_eq (tgt := 61) hx hb dX5_letterOf_39 (by decide) (fun c_39 => absurd c_39 (by decide)) (fun c_39 => ?_)
            refine lv_iload_n hx hb dX5_letterOf_42 rfl (lv_at hl 1 rfl) ?_
            refine lv_bipush (v := 8) hx hb dX5_letterOf_43 (by decide) ?_
            refine lv_icmp_ge (tgt := 61) hx hb dX5_letterOf_45 (by decide) (fun c_45 => absurd c_45 (by decide)) (fun c_45 => ?_)
            refine lv_iinc (v := 3) (lv' := [(3, .int 3), (4, .long 97), (0, .ref h0), (1, .int 10), (2, .int x2)]) hx hb dX5_letterOf_48 hl (k := 1) rfl (by decide) (by decide) rfl (fun ls hl => ?_)
            refine lv_lload hx hb dX5_letterOf_51 (lv_at hl 1 rfl) ?_
            refine lv_bipush (v := 8) hx hb dX5_letterOf_53 (by decide) ?_
            refine lv_lushr (v := 0) hx hb dX5_letterOf_55 (by decide) ?_
            refine lv_lstore (lv' := [(4, .long 0), (3, .int 3), (0, .ref h0), (1, .int 10), (2, .int x2)]) hx hb dX5_letterOf_56 hl (by decide) rfl (fun ls hl => ?_)
            refine lv_goto (tgt := 35) hx hb dX5_letterOf_58 (by decide) ?_
            refine lv_lload hx hb dX5_letterOf_35 (lv_at hl 0 rfl) ?_
            refine lv_lconst (v := 0) hx hb dX5_letterOf_37 (by decide) ?_
            refine W.lcmp hx hb dX5_letterOf_38 ?_
            refine my_ti (v := 0) (by decide) ?_
            refine lv_if_eq (tgt := 61) hx hb dX5_letterOf_39 (by decide) (fun c_39 => ?_) (fun c_39 => absurd c_39 (by decide))
            refine lv_iload_n hx hb dX5_letterOf_61 rfl (lv_at hl 4 rfl) ?_
            refine lv_iload_n hx hb dX5_letterOf_62 rfl (lv_at hl 1 rfl) ?_
            refine lv_icmp_ge (tgt := 89) hx hb dX5_letterOf_63 (by decide) (fun c_63 => ?_) (fun c_63 => ?_)
            · refine lv_iconst (v := (-1)) hx hb dX5_letterOf_89 (by decide) ?_
              exact W.iret (v := (-1)) hx hb hr (fun t ht hW => ⟨⟨(-1), (), rfl, by rcases cs8 c_14 c_20 with rfl | rfl | rfl | rfl | rfl | rfl | rfl | rfl <;> first | (exact absurd c_63 (by decide)) | decide +kernel, trivial⟩, hS.F ht⟩) hS.2.2 dX5_letterOf_90
            · refine lv_aload_n hx hb dX5_letterOf_66 rfl (lv_at hl 2 rfl) ?_
              refine va_get (D := (dC, dI)) (ci := 5) (v := .ref n_packed) (C := RX5) (T := TX5) (N := 5) hx hb hts in_X5_letterOf_RX5 hown hK hP 0 rfl rfl 0 (by decide) (hts (.fieldLink RX5 11 "FourTongues$Names" "packed" "[J") (by decide +kernel)) (fun _ h9 => h9) rfl dX5_letterOf_67 ?_
              refine lv_iload_n hx hb dX5_letterOf_70 rfl (lv_at hl 3 rfl) ?_
              refine va_lald hx hb hK hP 1 0 rfl rfl (by unfold vp_in; decide) dX5_letterOf_71 ?_
              refine my_tl (v := 6385273) (by rw [hf]; decide +kernel) ?_
              refine lv_bipush (v := 8) hx hb dX5_letterOf_72 (by decide) ?_
              refine lv_iload_n hx hb dX5_letterOf_74 rfl (lv_at hl 1 rfl) ?_
              refine lv_iconst (v := 1) hx hb dX5_letterOf_75 (by decide) ?_
              refine lv_isub hx hb dX5_letterOf_76 ?_
              refine my_ti (v := 2) (by decide) ?_
              refine lv_iload_n hx hb dX5_letterOf_77 rfl (lv_at hl 4 rfl) ?_
              refine lv_isub hx hb dX5_letterOf_78 ?_
              refine lv_imul hx hb dX5_letterOf_79 ?_
              refine lv_lushr (v := ((6385273 : Int64).toUInt64 >>> ((8 * (2 - x2) : Int32).toInt64.toUInt64 &&& Int64.toUInt64 63)).toInt64) hx hb dX5_letterOf_80 rfl ?_
              refine lv_ldc2 hx hb hown (hts (.constantLong RX5 47 (255)) (by decide +kernel)) dX5_letterOf_81 ?_
              refine lv_land hx hb dX5_letterOf_84 ?_
              refine lv_l2i (v := ((((6385273 : Int64).toUInt64 >>> ((8 * (2 - x2) : Int32).toInt64.toUInt64 &&& Int64.toUInt64 63)).toInt64) &&& 255).toInt32) hx hb dX5_letterOf_85 rfl ?_
              refine lv_goto (tgt := 90) hx hb dX5_letterOf_86 (by decide) ?_
              exact W.iret (v := ((((6385273 : Int64).toUInt64 >>> ((8 * (2 - x2) : Int32).toInt64.toUInt64 &&& Int64.toUInt64 63)).toInt64) &&& 255).toInt32) hx hb hr (fun t ht hW => ⟨⟨((((6385273 : Int64).toUInt64 >>> ((8 * (2 - x2) : Int32).toInt64.toUInt64 &&& Int64.toUInt64 63)).toInt64) &&& 255).toInt32, (), rfl, by rcases cs8 c_14 c_20 with rfl | rfl | rfl | rfl | rfl | rfl | rfl | rfl <;> first | (exact absurd c_63 (by decide)) | decide +kernel, trivial⟩, hS.F ht⟩) hS.2.2 dX5_letterOf_90
          · have _ := hf
            refine lv_iconst (v := 0) hx hb dX5_letterOf_25 (by decide) ?_
            refine lv_istore_n (lv' := [(3, .int 0), (0, .ref h0), (1, .int 11), (2, .int x2)]) hx hb dX5_letterOf_26 rfl hl (by decide) rfl (fun ls hl => ?_)
            refine lv_aload_n hx hb dX5_letterOf_27 rfl (lv_at hl 1 rfl) ?_
            refine va_get (D := (dC, dI)) (ci := 5) (v := .ref n_packed) (C := RX5) (T := TX5) (N := 5) hx hb hts in_X5_letterOf_RX5 hown hK hP 0 rfl rfl 0 (by decide) (hts (.fieldLink RX5 11 "FourTongues$Names" "packed" "[J") (by decide +kernel)) (fun _ h9 => h9) rfl dX5_letterOf_28 ?_
            refine lv_iload_n hx hb dX5_letterOf_31 rfl (lv_at hl 2 rfl) ?_
            refine va_lald hx hb hK hP 1 0 rfl rfl (by unfold vp_in; decide) dX5_letterOf_32 ?_
            refine my_tl (v := 30787852042858085) (by rw [hf]; decide +kernel) ?_
            refine lv_lstore (lv' := [(4, .long 30787852042858085), (3, .int 0), (0, .ref h0), (1, .int 11), (2, .int x2)]) hx hb dX5_letterOf_33 hl (by decide) rfl (fun ls hl => ?_)
            refine lv_lload hx hb dX5_letterOf_35 (lv_at hl 0 rfl) ?_
            refine lv_lconst (v := 0) hx hb dX5_letterOf_37 (by decide) ?_
            refine W.lcmp hx hb dX5_letterOf_38 ?_
            refine my_ti (v := 1) (by decide) ?_
            refine lv_if_eq (tgt := 61) hx hb dX5_letterOf_39 (by decide) (fun c_39 => absurd c_39 (by decide)) (fun c_39 => ?_)
            refine lv_iload_n hx hb dX5_letterOf_42 rfl (lv_at hl 1 rfl) ?_
            refine lv_bipush (v := 8) hx hb dX5_letterOf_43 (by decide) ?_
            refine lv_icmp_ge (tgt := 61) hx hb dX5_letterOf_45 (by decide) (fun c_45 => absurd c_45 (by decide)) (fun c_45 => ?_)
            refine lv_iinc (v := 1) (lv' := [(3, .int 1), (4, .long 30787852042858085), (0, .ref h0), (1, .int 11), (2, .int x2)]) hx hb dX5_letterOf_48 hl (k := 1) rfl (by decide) (by decide) rfl (fun ls hl => ?_)
            refine lv_lload hx hb dX5_letterOf_51 (lv_at hl 1 rfl) ?_
            refine lv_bipush (v := 8) hx hb dX5_letterOf_53 (by decide) ?_
            refine lv_lushr (v := 120265047042414) hx hb dX5_letterOf_55 (by decide) ?_
            refine lv_lstore (lv' := [(4, .long 120265047042414), (3, .int 1), (0, .ref h0), (1, .int 11), (2, .int x2)]) hx hb dX5_letterOf_56 hl (by decide) rfl (fun ls hl => ?_)
            refine lv_goto (tgt := 35) hx hb dX5_letterOf_58 (by decide) ?_
            refine lv_lload hx hb dX5_letterOf_35 (lv_at hl 0 rfl) ?_
            refine lv_lconst (v := 0) hx hb dX5_letterOf_37 (by decide) ?_
            refine W.lcmp hx hb dX5_letterOf_38 ?_
            refine my_ti (v := 1) (by decide) ?_
            refine lv_if_eq (tgt := 61) hx hb dX5_letterOf_39 (by decide) (fun c_39 => absurd c_39 (by decide)) (fun c_39 => ?_)
            refine lv_iload_n hx hb dX5_letterOf_42 rfl (lv_at hl 1 rfl) ?_
            refine lv_bipush (v := 8) hx hb dX5_letterOf_43 (by decide) ?_
            refine lv_icmp_ge (tgt := 61) hx hb dX5_letterOf_45 (by decide) (fun c_45 => absurd c_45 (by decide)) (fun c_45 => ?_)
            refine lv_iinc (v := 2) (lv' := [(3, .int 2), (4, .long 120265047042414), (0, .ref h0), (1, .int 11), (2, .int x2)]) hx hb dX5_letterOf_48 hl (k := 1) rfl (by decide) (by decide) rfl (fun ls hl => ?_)
            refine lv_lload hx hb dX5_letterOf_51 (lv_at hl 1 rfl) ?_
            refine lv_bipush (v := 8) hx hb dX5_letterOf_53 (by decide) ?_
            refine lv_lushr (v := 469785340009) hx hb dX5_letterOf_55 (by decide) ?_
            refine lv_lstore (lv' := [(4, .long 469785340009), (3, .int 2), (0, .ref h0), (1, .int 11), (2, .int x2)]) hx hb dX5_letterOf_56 hl (by decide) rfl (fun ls hl => ?_)
            refine lv_goto (tgt := 35) hx hb dX5_letterOf_58 (by decide) ?_
            refine lv_lload hx hb dX5_letterOf_35 (lv_at hl 0 rfl) ?_
            refine lv_lconst (v := 0) hx hb dX5_letterOf_37 (by decide) ?_
            refine W.lcmp hx hb dX5_letterOf_38 ?_
            refine my_ti (v := 1) (by decide) ?_
            refine lv_if_eq (tgt := 61) hx hb dX5_letterOf_39 (by decide) (fun c_39 => absurd c_39 (by decide)) (fun c_39 => ?_)
            refine lv_iload_n hx hb dX5_letterOf_42 rfl (lv_at hl 1 rfl) ?_
            refine lv_bipush (v := 8) hx hb dX5_letterOf_43 (by decide) ?_
            refine lv_icmp_ge (tgt := 61) hx hb dX5_letterOf_45 (by decide) (fun c_45 => absurd c_45 (by decide)) (fun c_45 => ?_)
            refine lv_iinc (v := 3) (lv' := [(3, .int 3), (4, .long 469785340009), (0, .ref h0), (1, .int 11), (2, .int x2)]) hx hb dX5_letterOf_48 hl (k := 1) rfl (by decide) (by decide) rfl (fun ls hl => ?_)
            refine lv_lload hx hb dX5_letterOf_51 (lv_at hl 1 rfl) ?_
            refine lv_bipush (v := 8) hx hb dX5_letterOf_53 (by decide) ?_
            refine lv_lushr (v := 1835098984) hx hb dX5_letterOf_55 (by decide) ?_
            refine lv_lstore (lv' := [(4, .long 1835098984), (3, .int 3), (0, .ref h0), (1, .int 11), (2, .int x2)]) hx hb dX5_letterOf_56 hl (by decide) rfl (fun ls hl => ?_)
            refine lv_goto (tgt := 35) hx hb dX5_letterOf_58 (by decide) ?_
            refine lv_lload hx hb dX5_letterOf_35 (lv_at hl 0 rfl) ?_
            refine lv_lconst (v := 0) hx hb dX5_letterOf_37 (by decide) ?_
            refine W.lcmp hx hb dX5_letterOf_38 ?_
            refine my_ti (v := 1) (by decide) ?_
            refine lv_if_eq (tgt := 61) hx hb dX5_letterOf_39 (by decide) (fun c_39 => absurd c_39 (by decide)) (fun c_39 => ?_)
            refine lv_iload_n hx hb dX5_letterOf_42 rfl (lv_at hl 1 rfl) ?_
            refine lv_bipush (v := 8) hx hb dX5_letterOf_43 (by decide) ?_
            refine lv_icmp_ge (tgt := 61) hx hb dX5_letterOf_45 (by decide) (fun c_45 => absurd c_45 (by decide)) (fun c_45 => ?_)
            refine lv_iinc (v := 4) (lv' := [(3, .int 4), (4, .long 1835098984), (0, .ref h0), (1, .int 11), (2, .int x2)]) hx hb dX5_letterOf_48 hl (k := 1) rfl (by decide) (by decide) rfl (fun ls hl => ?_)
            refine lv_lload hx hb dX5_letterOf_51 (lv_at hl 1 rfl) ?_
            refine lv_bipush (v := 8) hx hb dX5_letterOf_53 (by decide) ?_
            refine lv_lushr (v := 7168355) hx hb dX5_letterOf_55 (by decide) ?_
            refine lv_lstore (lv' := [(4, .long 7168355), (3, .int 4), (0, .ref h0), (1, .int 11), (2, .int x2)]) hx hb dX5_letterOf_56 hl (by decide) rfl (fun ls hl => ?_)
            refine lv_goto (tgt := 35) hx hb dX5_letterOf_58 (by decide) ?_
            refine lv_lload hx hb dX5_letterOf_35 (lv_at hl 0 rfl) ?_
            refine lv_lconst (v := 0) hx hb dX5_letterOf_37 (by decide) ?_
            refine W.lcmp hx hb dX5_letterOf_38 ?_
            refine my_ti (v := 1) (by decide) ?_
            refine lv_if_eq (tgt := 61) hx hb dX5_letterOf_39 (by decide) (fun c_39 => absurd c_39 (by decide)) (fun c_39 => ?_)
            refine lv_iload_n hx hb dX5_letterOf_42 rfl (lv_at hl 1 rfl) ?_
            refine lv_bipush (v := 8) hx hb dX5_letterOf_43 (by decide) ?_
            refine lv_icmp_ge (tgt := 61) hx hb dX5_letterOf_45 (by decide) (fun c_45 => absurd c_45 (by decide)) (fun c_45 => ?_)
            refine lv_iinc (v := 5) (lv' := [(3, .int 5), (4, .long 7168355), (0, .ref h0), (1, .int 11), (2, .int x2)]) hx hb dX5_letterOf_48 hl (k := 1) rfl (by decide) (by decide) rfl (fun ls hl => ?_)
            refine lv_lload hx hb dX5_letterOf_51 (lv_at hl 1 rfl) ?_
            refine lv_bipush (v := 8) hx hb dX5_letterOf_53 (by decide) ?_
            refine lv_lushr (v := 28001) hx hb dX5_letterOf_55 (by decide) ?_
            refine lv_lstore (lv' := [(4, .long 28001), (3, .int 5), (0, .ref h0), (1, .int 11), (2, .int x2)]) hx hb dX5_letterOf_56 hl (by decide) rfl (fun ls hl => ?_)
            refine lv_goto (tgt := 35) hx hb dX5_letterOf_58 (by decide) ?_
            refine lv_lload hx hb dX5_letterOf_35 (lv_at hl 0 rfl) ?_
            refine lv_lconst (v := 0) hx hb dX5_letterOf_37 (by decide) ?_
            refine W.lcmp hx hb dX5_letterOf_38 ?_
            refine my_ti (v := 1) (by decide) ?_
            refine lv_if_eq (tgt := 61) hx hb dX5_letterOf_39 (by decide) (fun c_39 => absurd c_39 (by decide)) (fun c_39 => ?_)
            refine lv_iload_n hx hb dX5_letterOf_42 rfl (lv_at hl 1 rfl) ?_
            refine lv_bipush (v := 8) hx hb dX5_letterOf_43 (by decide) ?_
            refine lv_icmp_ge (tgt := 61) hx hb dX5_letterOf_45 (by decide) (fun c_45 => absurd c_45 (by decide)) (fun c_45 => ?_)
            refine lv_iinc (v := 6) (lv' := [(3, .int 6), (4, .long 28001), (0, .ref h0), (1, .int 11), (2, .int x2)]) hx hb dX5_letterOf_48 hl (k := 1) rfl (by decide) (by decide) rfl (fun ls hl => ?_)
            refine lv_lload hx hb dX5_letterOf_51 (lv_at hl 1 rfl) ?_
            refine lv_bipush (v := 8) hx hb dX5_letterOf_53 (by decide) ?_
            refine lv_lushr (v := 109) hx hb dX5_letterOf_55 (by decide) ?_
            refine lv_lstore (lv' := [(4, .long 109), (3, .int 6), (0, .ref h0), (1, .int 11), (2, .int x2)]) hx hb dX5_letterOf_56 hl (by decide) rfl (fun ls hl => ?_)
            refine lv_goto (tgt := 35) hx hb dX5_letterOf_58 (by decide) ?_
            refine lv_lload hx hb dX5_letterOf_35 (lv_at hl 0 rfl) ?_
            refine lv_lconst (v := 0) hx hb dX5_letterOf_37 (by decide) ?_
            refine W.lcmp hx hb dX5_letterOf_38 ?_
            refine my_ti (v := 1) (by decide) ?_
            refine lv_if_eq (tgt := 61) hx hb dX5_letterOf_39 (by decide) (fun c_39 => absurd c_39 (by decide)) (fun c_39 => ?_)
            refine lv_iload_n hx hb dX5_letterOf_42 rfl (lv_at hl 1 rfl) ?_
            refine lv_bipush (v := 8) hx hb dX5_letterOf_43 (by decide) ?_
            refine lv_icmp_ge (tgt := 61) hx hb dX5_letterOf_45 (by decide) (fun c_45 => absurd c_45 (by decide)) (fun c_45 => ?_)
            refine lv_iinc (v := 7) (lv' := [(3, .int 7), (4, .long 109), (0, .ref h0), (1, .int 11), (2, .int x2)]) hx hb dX5_letterOf_48 hl (k := 1) rfl (by decide) (by decide) rfl (fun ls hl => ?_)
            refine lv_lload hx hb dX5_letterOf_51 (lv_at hl 1 rfl) ?_
            refine lv_bipush (v := 8) hx hb dX5_letterOf_53 (by decide) ?_
            refine lv_lushr (v := 0) hx hb dX5_letterOf_55 (by decide) ?_
            refine lv_lstore (lv' := [(4, .long 0), (3, .int 7), (0, .ref h0), (1, .int 11), (2, .int x2)]) hx hb dX5_letterOf_56 hl (by decide) rfl (fun ls hl => ?_)
            refine lv_goto (tgt := 35) hx hb dX5_letterOf_58 (by decide) ?_
            refine lv_lload hx hb dX5_letterOf_35 (lv_at hl 0 rfl) ?_
            refine lv_lconst (v := 0) hx hb dX5_letterOf_37 (by decide) ?_
            refine W.lcmp hx hb dX5_letterOf_38 ?_
            refine my_ti (v := 0) (by decide) ?_
            refine lv_if_eq (tgt := 61) hx hb dX5_letterOf_39 (by decide) (fun c_39 => ?_) (fun c_39 => absurd c_39 (by decide))
            refine lv_iload_n hx hb dX5_letterOf_61 rfl (lv_at hl 4 rfl) ?_
            refine lv_iload_n hx hb dX5_letterOf_62 rfl (lv_at hl 1 rfl) ?_
            refine lv_icmp_ge (tgt := 89) hx hb dX5_letterOf_63 (by decide) (fun c_63 => ?_) (fun c_63 => ?_)
            · refine lv_iconst (v := (-1)) hx hb dX5_letterOf_89 (by decide) ?_
              exact W.iret (v := (-1)) hx hb hr (fun t ht hW => ⟨⟨(-1), (), rfl, by rcases cs8 c_14 c_20 with rfl | rfl | rfl | rfl | rfl | rfl | rfl | rfl <;> first | (exact absurd c_63 (by decide)) | decide +kernel, trivial⟩, hS.F ht⟩) hS.2.2 dX5_letterOf_90
            · refine lv_aload_n hx hb dX5_letterOf_66 rfl (lv_at hl 2 rfl) ?_
              refine va_get (D := (dC, dI)) (ci := 5) (v := .ref n_packed) (C := RX5) (T := TX5) (N := 5) hx hb hts in_X5_letterOf_RX5 hown hK hP 0 rfl rfl 0 (by decide) (hts (.fieldLink RX5 11 "FourTongues$Names" "packed" "[J") (by decide +kernel)) (fun _ h9 => h9) rfl dX5_letterOf_67 ?_
              refine lv_iload_n hx hb dX5_letterOf_70 rfl (lv_at hl 3 rfl) ?_
              refine va_lald hx hb hK hP 1 0 rfl rfl (by unfold vp_in; decide) dX5_letterOf_71 ?_
              refine my_tl (v := 30787852042858085) (by rw [hf]; decide +kernel) ?_
              refine lv_bipush (v := 8) hx hb dX5_letterOf_72 (by decide) ?_
              refine lv_iload_n hx hb dX5_letterOf_74 rfl (lv_at hl 1 rfl) ?_
              refine lv_iconst (v := 1) hx hb dX5_letterOf_75 (by decide) ?_
              refine lv_isub hx hb dX5_letterOf_76 ?_
              refine my_ti (v := 6) (by decide) ?_
              refine lv_iload_n hx hb dX5_letterOf_77 rfl (lv_at hl 4 rfl) ?_
              refine lv_isub hx hb dX5_letterOf_78 ?_
              refine lv_imul hx hb dX5_letterOf_79 ?_
              refine lv_lushr (v := ((30787852042858085 : Int64).toUInt64 >>> ((8 * (6 - x2) : Int32).toInt64.toUInt64 &&& Int64.toUInt64 63)).toInt64) hx hb dX5_letterOf_80 rfl ?_
              refine lv_ldc2 hx hb hown (hts (.constantLong RX5 47 (255)) (by decide +kernel)) dX5_letterOf_81 ?_
              refine lv_land hx hb dX5_letterOf_84 ?_
              refine lv_l2i (v := ((((30787852042858085 : Int64).toUInt64 >>> ((8 * (6 - x2) : Int32).toInt64.toUInt64 &&& Int64.toUInt64 63)).toInt64) &&& 255).toInt32) hx hb dX5_letterOf_85 rfl ?_
              refine lv_goto (tgt := 90) hx hb dX5_letterOf_86 (by decide) ?_
              exact W.iret (v := ((((30787852042858085 : Int64).toUInt64 >>> ((8 * (6 - x2) : Int32).toInt64.toUInt64 &&& Int64.toUInt64 63)).toInt64) &&& 255).toInt32) hx hb hr (fun t ht hW => ⟨⟨((((30787852042858085 : Int64).toUInt64 >>> ((8 * (6 - x2) : Int32).toInt64.toUInt64 &&& Int64.toUInt64 63)).toInt64) &&& 255).toInt32, (), rfl, by rcases cs8 c_14 c_20 with rfl | rfl | rfl | rfl | rfl | rfl | rfl | rfl <;> first | (exact absurd c_63 (by decide)) | decide +kernel, trivial⟩, hS.F ht⟩) hS.2.2 dX5_letterOf_90
        · refine lv_iconst (v := (-1)) hx hb dX5_letterOf_23 (by decide) ?_
          exact W.iret (v := (-1)) hx hb hr (fun t ht hW => ⟨⟨(-1), (), rfl, ltF_out (Or.inr (Or.inr (Or.inr c_20))), trivial⟩, hS.F ht⟩) hS.2.2 dX5_letterOf_24

set_option maxHeartbeats 4000000 in
set_option maxRecDepth 100000 in
theorem c_X11_letter (l : Launch) (dC : Nat → ClassId) (dI : Nat → Nat → Nat) (h0 : Nat) (v_tape : Nat) (v_names : Nat) (v_borders : Nat) (v_programs : Nat) (v_draft : Nat) (v_parser : Nat) (v_machine : Nat) (n_packed : Nat) (n_above : Nat) (n_keptAbove : Nat) (c_n_packed : ClassId) (f_pack : Nat → Int64) (x1 : Int32) (x2 : Int32) (hf : f_pack = (nmS 63).2.2) : Met l yX11_letter wsX11_letter ({ frames := 1, cells := 0, slots := 0, locals := 25 }) (va_Pc [.ref h0, .int x1, .int x2] (fun U => xR (dC, dI) [(h0, .inr (10, [.ref v_tape, .int 0, .int 0, .ref v_names, .ref v_borders, .ref v_programs, .ref v_draft, .ref v_parser, .ref v_machine])), (v_names, .inr (5, [.ref n_packed, .ref n_above, .ref n_keptAbove, .int 11, .int 0])), (n_packed, .inl (c_n_packed, 52, .inr (.inl f_pack)))] [(c_n_packed, .long)] U)) (va_Qi (fun (r : Int32) (_ : Unit) => r = ltF x1 x2) (fun (_ : Unit) _ => True) (fun _ => False)) 0 0 (fun _ => False) := by
  refine Met.ofW (cc := cX11_letter) (maxL := 3) (ret := (some .int)) (by decide) rfl ?_
  intro p e s m args below meth c s₁ B hml hv
  obtain ⟨rfl, hP, hK⟩ := hv
  have hx := B.exec
  have hb := B.bytes
  have hr := B.returns
  have hts := atoms_spec (ws := wsX11_letter) B.pre
  have hown : s.vm.findClass RX11 = some m.cls := findClass_of_methodNamed B.named
  have hlocks := B.notSynchronized
  have hS : va_S (fun _ => False) s.heap s.heap [] := va_S.rf
  have hl := lv_entry ([.ref h0, .int x1, .int x2]) (n := 3) (Nat.le_of_ble_eq_true rfl)
  rw [lg_entry_eq]
  generalize (lg_sl ([.ref h0, .int x1, .int x2]) ++ List.replicate (3 - (lg_sl ([.ref h0, .int x1, .int x2])).length) Slot.unset).toArray = ls at hl ⊢
  have hl : lv_has ls 3 [(0, .ref h0), (1, .int x1), (2, .int x2)] := hl
  refine lv_aload_n hx hb dX11_letter_0 rfl (lv_at hl 0 rfl) ?_
  refine va_get (D := (dC, dI)) (ci := 10) (v := .ref v_names) (C := RX11) (T := TX11) (N := 9) hx hb hts in_X11_letter_RX11 hown hK hP 0 rfl rfl 3 (by decide) (hts (.fieldLink RX11 23 "FourTongues" "names" "LFourTongues$Names;") (by decide +kernel)) (fun _ h9 => h9) rfl dX11_letter_1 ?_
  refine lv_iload_n hx hb dX11_letter_4 rfl (lv_at hl 1 rfl) ?_
  refine lv_iload_n hx hb dX11_letter_5 rfl (lv_at hl 2 rfl) ?_
  refine va_calli (va_runV (As := [.int x1, .int x2]) (rest := []) ⟨hx, hb, hml, hown, hts⟩ (c_X5_letterOf l dC dI v_names n_packed n_above n_keptAbove c_n_packed f_pack x1 x2 hf) (cwV 2 hts gX11_letter_X5_letterOf rfl rfl rfl (by decide +kernel) ⟨Nat.le_of_ble_eq_true rfl, Nat.le_of_ble_eq_true rfl⟩) ⟨fb_R, va_recv hK hP (ci := 5) (q0 := 1) rfl rfl, fun U hU hW => ⟨rfl, xR.at (hP.sub (ws' := [(v_names, .inr (5, [.ref n_packed, .ref n_above, .ref n_keptAbove, .int 11, .int 0])), (n_packed, .inl (c_n_packed, 52, .inr (.inl f_pack)))]) [1, 2] rfl) (hK.sub (tys' := [(c_n_packed, .long)]) [0] rfl) hU hW⟩⟩ rfl rfl hl.1 rfl (lv_room (Nat.le_of_ble_eq_true rfl)) dX11_letter_6 ⟨Nat.le_of_ble_eq_true rfl, Nat.le_of_ble_eq_true rfl⟩) hS (fun q _ h => h.elim) (fun q h => h.elim) (fun r_1 u t H locs ht hvm hw hB hz1 hk1 hS => ?_)
  have hw_2 := hw
  have hP := xR.keep hP hk1
  exact W.iret (v := r_1) hx hb hr (fun t ht hW => ⟨⟨r_1, (), rfl, hw_2, trivial⟩, hS.F ht⟩) hS.2.2 dX11_letter_9
