abbrev wsX00 : List Cond := u_ws RX0 TX0 6
abbrev cX0_init : ByteArray := prog_2_method_1_code
def yX0_init : MethodName := ⟨RX0, "<init>", "()V"⟩
abbrev wsX10 : List Cond := u_ws RX1 TX1 5
abbrev cX1_init : ByteArray := prog_3_method_1_code
def yX1_init : MethodName := ⟨RX1, "<init>", "()V"⟩
abbrev wsX20 : List Cond := u_ws RX2 TX2 8
abbrev cX2_init : ByteArray := prog_4_method_1_code
def yX2_init : MethodName := ⟨RX2, "<init>", "()V"⟩
abbrev wsX30 : List Cond := u_ws RX3 TX3 7
abbrev cX3_init : ByteArray := prog_5_method_1_code
def yX3_init : MethodName := ⟨RX3, "<init>", "()V"⟩
abbrev wsX80 : List Cond := u_ws RX8 TX8 8
abbrev cX8_init : ByteArray := prog_10_method_1_code
def yX8_init : MethodName := ⟨RX8, "<init>", "()V"⟩
abbrev wsX90 : List Cond := u_ws RX9 TX9 4
abbrev cX9_init : ByteArray := prog_11_method_1_code
def yX9_init : MethodName := ⟨RX9, "<init>", "(I)V"⟩
def wsJ7_fill_53178 : List Cond := .code yJ7_fill_53178 cJ7_fill_53178 4 none :: ([])
def wsX0_init : List Cond := .code yX0_init cX0_init 1 none :: ([.methodLink RX0 3 objectInit, .instanceMethod objectInit, .code objectInit ⟨#[0xb1]⟩ 1 none, .arrayClass .int, .fieldLink RX0 9 "FourTongues$Borders" "rules" "[I", .fieldLink RX0 15 "FourTongues$Borders" "defaults" "[I", .fieldLink RX0 18 "FourTongues$Borders" "entryBorders" "[I", .fieldLink RX0 21 "FourTongues$Borders" "entryWhats" "[I", .fieldLink RX0 24 "FourTongues$Borders" "entryAs" "[I", .fieldLink RX0 27 "FourTongues$Borders" "entries" "I", .methodLink RX0 31 yJ7_fill_53178, .static yJ7_fill_53178, .initialized RJ7, .code yJ7_fill_53178 cJ7_fill_53178 4 none] ++ wsX00)
def wsX9_init : List Cond := .code yX9_init cX9_init 3 none :: ([.methodLink RX9 1 objectInit, .instanceMethod objectInit, .code objectInit ⟨#[0xb1]⟩ 1 none, .fieldLink RX9 7 "FourTongues$Row" "count" "I", .methodLink RX9 13 Lib.Math.max.name, .static Lib.Math.max.name, .initialized "java/lang/Math", .code Lib.Math.max.name Lib.Math.max.code 2 (some .int), .arrayClass .int, .fieldLink RX9 19 "FourTongues$Row" "kinds" "[I", .arrayClass .long, .fieldLink RX9 23 "FourTongues$Row" "wholes" "[J", .arrayClass .double, .fieldLink RX9 27 "FourTongues$Row" "reals" "[D"] ++ wsX90)
def wsX1_init_r1 : List Cond := [Cond.methodLink RX1 3 objectInit, Cond.instanceMethod objectInit, Cond.code objectInit ⟨#[0xb1]⟩ 1 none, Cond.arrayClass .int, Cond.fieldLink RX1 11 "FourTongues$Failures" "facts" "[I", Cond.fieldLink RX1 15 "FourTongues$Failures" "count" "I", Cond.classLink RX1 19 RX9, Cond.instantiable RX9 4, Cond.initialized RX9, Cond.fieldLink RX1 24 "FourTongues$Failures" "values" "LFourTongues$Row;", Cond.fieldLink RX1 28 "FourTongues$Failures" "lying" "[I", Cond.fieldLink RX1 31 "FourTongues$Failures" "lyingCount" "I", Cond.methodLink RX1 21 yX9_init, Cond.instanceMethod yX9_init, Cond.code yX9_init cX9_init 3 none, Cond.methodLink RX9 1 objectInit, Cond.fieldLink RX9 7 "FourTongues$Row" "count" "I", Cond.methodLink RX9 13 Lib.Math.max.name, Cond.static Lib.Math.max.name, Cond.initialized "java/lang/Math", Cond.code Lib.Math.max.name Lib.Math.max.code 2 (some .int), Cond.fieldLink RX9 19 "FourTongues$Row" "kinds" "[I", Cond.arrayClass .long, Cond.fieldLink RX9 23 "FourTongues$Row" "wholes" "[J"]
def wsX1_init_r2 : List Cond := [Cond.arrayClass .double, Cond.fieldLink RX9 27 "FourTongues$Row" "reals" "[D"]
def wsX1_init : List Cond := .code yX1_init cX1_init 1 none :: ((wsX1_init_r1 ++ wsX1_init_r2) ++ wsX10 ++ wsX90)
def wsX2_init : List Cond := .code yX2_init cX2_init 1 none :: ([.methodLink RX2 1 objectInit, .instanceMethod objectInit, .code objectInit ⟨#[0xb1]⟩ 1 none, .arrayClass .int, .fieldLink RX2 9 "FourTongues$Frames" "tongues" "[I", .fieldLink RX2 13 "FourTongues$Frames" "functions" "[I", .fieldLink RX2 16 "FourTongues$Frames" "bases" "[I", .fieldLink RX2 19 "FourTongues$Frames" "floors" "[I", .fieldLink RX2 22 "FourTongues$Frames" "tops" "[I", .fieldLink RX2 25 "FourTongues$Frames" "calledAt" "[I", .fieldLink RX2 28 "FourTongues$Frames" "guardBases" "[I", .fieldLink RX2 31 "FourTongues$Frames" "count" "I"] ++ wsX20)
def wsX3_init_r1 : List Cond := [Cond.methodLink RX3 1 objectInit, Cond.instanceMethod objectInit, Cond.code objectInit ⟨#[0xb1]⟩ 1 none, Cond.arrayClass .int, Cond.fieldLink RX3 9 "FourTongues$Guards" "kinds" "[I", Cond.fieldLink RX3 13 "FourTongues$Guards" "targets" "[I", Cond.fieldLink RX3 16 "FourTongues$Guards" "names" "[I", Cond.fieldLink RX3 19 "FourTongues$Guards" "underWay" "[I", Cond.fieldLink RX3 22 "FourTongues$Guards" "failures" "[I", Cond.classLink RX3 25 RX9, Cond.instantiable RX9 4, Cond.initialized RX9, Cond.fieldLink RX3 30 "FourTongues$Guards" "answers" "LFourTongues$Row;", Cond.fieldLink RX3 34 "FourTongues$Guards" "count" "I", Cond.methodLink RX3 27 yX9_init, Cond.instanceMethod yX9_init, Cond.code yX9_init cX9_init 3 none, Cond.methodLink RX9 1 objectInit, Cond.fieldLink RX9 7 "FourTongues$Row" "count" "I", Cond.methodLink RX9 13 Lib.Math.max.name, Cond.static Lib.Math.max.name, Cond.initialized "java/lang/Math", Cond.code Lib.Math.max.name Lib.Math.max.code 2 (some .int), Cond.fieldLink RX9 19 "FourTongues$Row" "kinds" "[I"]
def wsX3_init_r2 : List Cond := [Cond.arrayClass .long, Cond.fieldLink RX9 23 "FourTongues$Row" "wholes" "[J", Cond.arrayClass .double, Cond.fieldLink RX9 27 "FourTongues$Row" "reals" "[D"]
def wsX3_init : List Cond := .code yX3_init cX3_init 1 none :: ((wsX3_init_r1 ++ wsX3_init_r2) ++ wsX30 ++ wsX90)
def wsX8_init_r1 : List Cond := [Cond.methodLink RX8 1 objectInit, Cond.instanceMethod objectInit, Cond.code objectInit ⟨#[0xb1]⟩ 1 none, Cond.arrayClass .int, Cond.fieldLink RX8 7 "FourTongues$Program" "code" "[I", Cond.fieldLink RX8 13 "FourTongues$Program" "length" "I", Cond.classLink RX8 17 RX9, Cond.instantiable RX9 4, Cond.initialized RX9, Cond.fieldLink RX8 22 "FourTongues$Program" "constants" "LFourTongues$Row;", Cond.arrayClass .long, Cond.fieldLink RX8 26 "FourTongues$Program" "names" "[J", Cond.fieldLink RX8 30 "FourTongues$Program" "starts" "[I", Cond.fieldLink RX8 33 "FourTongues$Program" "parameters" "[I", Cond.fieldLink RX8 36 "FourTongues$Program" "variables" "[I", Cond.fieldLink RX8 39 "FourTongues$Program" "functions" "I", Cond.methodLink RX8 19 yX9_init, Cond.instanceMethod yX9_init, Cond.code yX9_init cX9_init 3 none, Cond.methodLink RX9 1 objectInit, Cond.fieldLink RX9 7 "FourTongues$Row" "count" "I", Cond.methodLink RX9 13 Lib.Math.max.name, Cond.static Lib.Math.max.name, Cond.initialized "java/lang/Math"]
def wsX8_init_r2 : List Cond := [Cond.code Lib.Math.max.name Lib.Math.max.code 2 (some .int), Cond.fieldLink RX9 19 "FourTongues$Row" "kinds" "[I", Cond.fieldLink RX9 23 "FourTongues$Row" "wholes" "[J", Cond.arrayClass .double, Cond.fieldLink RX9 27 "FourTongues$Row" "reals" "[D"]
def wsX8_init : List Cond := .code yX8_init cX8_init 1 none :: ((wsX8_init_r1 ++ wsX8_init_r2) ++ wsX80 ++ wsX90)
set_option maxRecDepth 20000 in
theorem ggX0_init_J7_fill_53178 : GoodIn wsX0_init wsJ7_fill_53178 := goodIn_r _ [14] (by decide +kernel) (by decide +kernel)
set_option maxRecDepth 20000 in
theorem gX0_init_J7_fill_53178 : GoodIn wsX0_init (va_wsS RX0 31 yJ7_fill_53178 wsJ7_fill_53178) := goodIn_app (goodIn_of _ (by decide +kernel)) ggX0_init_J7_fill_53178
theorem dX0_init_0 : decode cX0_init 0 = .ok (.aload_n 0, 1) := by decide +kernel
theorem dX0_init_1 : decode cX0_init 1 = .ok (.invokespecial 3, 3) := by decide +kernel
theorem dX0_init_4 : decode cX0_init 4 = .ok (.aload_n 0, 1) := by decide +kernel
theorem dX0_init_5 : decode cX0_init 5 = .ok (.bipush 16, 2) := by decide +kernel
theorem dX0_init_7 : decode cX0_init 7 = .ok (.newarray .int, 2) := by decide +kernel
theorem dX0_init_9 : decode cX0_init 9 = .ok (.putfield 9, 3) := by decide +kernel
theorem dX0_init_12 : decode cX0_init 12 = .ok (.aload_n 0, 1) := by decide +kernel
theorem dX0_init_13 : decode cX0_init 13 = .ok (.bipush 16, 2) := by decide +kernel
theorem dX0_init_15 : decode cX0_init 15 = .ok (.newarray .int, 2) := by decide +kernel
theorem dX0_init_17 : decode cX0_init 17 = .ok (.putfield 15, 3) := by decide +kernel
theorem dX0_init_20 : decode cX0_init 20 = .ok (.aload_n 0, 1) := by decide +kernel
theorem dX0_init_21 : decode cX0_init 21 = .ok (.bipush 100, 2) := by decide +kernel
theorem dX0_init_23 : decode cX0_init 23 = .ok (.newarray .int, 2) := by decide +kernel
theorem dX0_init_25 : decode cX0_init 25 = .ok (.putfield 18, 3) := by decide +kernel
theorem dX0_init_28 : decode cX0_init 28 = .ok (.aload_n 0, 1) := by decide +kernel
theorem dX0_init_29 : decode cX0_init 29 = .ok (.bipush 100, 2) := by decide +kernel
theorem dX0_init_31 : decode cX0_init 31 = .ok (.newarray .int, 2) := by decide +kernel
theorem dX0_init_33 : decode cX0_init 33 = .ok (.putfield 21, 3) := by decide +kernel
theorem dX0_init_36 : decode cX0_init 36 = .ok (.aload_n 0, 1) := by decide +kernel
theorem dX0_init_37 : decode cX0_init 37 = .ok (.bipush 100, 2) := by decide +kernel
theorem dX0_init_39 : decode cX0_init 39 = .ok (.newarray .int, 2) := by decide +kernel
theorem dX0_init_41 : decode cX0_init 41 = .ok (.putfield 24, 3) := by decide +kernel
theorem dX0_init_44 : decode cX0_init 44 = .ok (.aload_n 0, 1) := by decide +kernel
theorem dX0_init_45 : decode cX0_init 45 = .ok (.iconst 0, 1) := by decide +kernel
theorem dX0_init_46 : decode cX0_init 46 = .ok (.putfield 27, 3) := by decide +kernel
theorem dX0_init_49 : decode cX0_init 49 = .ok (.aload_n 0, 1) := by decide +kernel
theorem dX0_init_50 : decode cX0_init 50 = .ok (.getfield 15, 3) := by decide +kernel
theorem dX0_init_53 : decode cX0_init 53 = .ok (.bipush 9, 2) := by decide +kernel
theorem dX0_init_55 : decode cX0_init 55 = .ok (.invokestatic 31, 3) := by decide +kernel
theorem dX0_init_58 : decode cX0_init 58 = .ok (.return_, 1) := by decide +kernel
set_option maxRecDepth 20000 in
theorem ggX1_init_X9_init : GoodIn wsX1_init wsX9_init := goodIn_r _ [15, 16, 2, 3, 17, 18, 19, 20, 21, 4, 22, 23, 24, 25, 26, 32, 33, 34, 35] (by decide +kernel) (by decide +kernel)
set_option maxRecDepth 20000 in
theorem gX1_init_X9_init : GoodIn wsX1_init (wsX9_init) := ggX1_init_X9_init
theorem dX1_init_0 : decode cX1_init 0 = .ok (.aload_n 0, 1) := by decide +kernel
theorem dX1_init_1 : decode cX1_init 1 = .ok (.invokespecial 3, 3) := by decide +kernel
theorem dX1_init_4 : decode cX1_init 4 = .ok (.aload_n 0, 1) := by decide +kernel
theorem dX1_init_5 : decode cX1_init 5 = .ok (.sipush 288, 3) := by decide +kernel
theorem dX1_init_8 : decode cX1_init 8 = .ok (.newarray .int, 2) := by decide +kernel
theorem dX1_init_10 : decode cX1_init 10 = .ok (.putfield 11, 3) := by decide +kernel
theorem dX1_init_13 : decode cX1_init 13 = .ok (.aload_n 0, 1) := by decide +kernel
theorem dX1_init_14 : decode cX1_init 14 = .ok (.iconst 0, 1) := by decide +kernel
theorem dX1_init_15 : decode cX1_init 15 = .ok (.putfield 15, 3) := by decide +kernel
theorem dX1_init_18 : decode cX1_init 18 = .ok (.aload_n 0, 1) := by decide +kernel
theorem dX1_init_19 : decode cX1_init 19 = .ok (.new 19, 3) := by decide +kernel
theorem dX1_init_22 : decode cX1_init 22 = .ok (.dup, 1) := by decide +kernel
theorem dX1_init_23 : decode cX1_init 23 = .ok (.bipush 32, 2) := by decide +kernel
theorem dX1_init_25 : decode cX1_init 25 = .ok (.invokespecial 21, 3) := by decide +kernel
theorem dX1_init_28 : decode cX1_init 28 = .ok (.putfield 24, 3) := by decide +kernel
theorem dX1_init_31 : decode cX1_init 31 = .ok (.aload_n 0, 1) := by decide +kernel
theorem dX1_init_32 : decode cX1_init 32 = .ok (.bipush 64, 2) := by decide +kernel
theorem dX1_init_34 : decode cX1_init 34 = .ok (.newarray .int, 2) := by decide +kernel
theorem dX1_init_36 : decode cX1_init 36 = .ok (.putfield 28, 3) := by decide +kernel
theorem dX1_init_39 : decode cX1_init 39 = .ok (.aload_n 0, 1) := by decide +kernel
theorem dX1_init_40 : decode cX1_init 40 = .ok (.iconst 0, 1) := by decide +kernel
theorem dX1_init_41 : decode cX1_init 41 = .ok (.putfield 31, 3) := by decide +kernel
theorem dX1_init_44 : decode cX1_init 44 = .ok (.return_, 1) := by decide +kernel
theorem dX2_init_0 : decode cX2_init 0 = .ok (.aload_n 0, 1) := by decide +kernel
theorem dX2_init_1 : decode cX2_init 1 = .ok (.invokespecial 1, 3) := by decide +kernel
theorem dX2_init_4 : decode cX2_init 4 = .ok (.aload_n 0, 1) := by decide +kernel
theorem dX2_init_5 : decode cX2_init 5 = .ok (.bipush 24, 2) := by decide +kernel
theorem dX2_init_7 : decode cX2_init 7 = .ok (.newarray .int, 2) := by decide +kernel
theorem dX2_init_9 : decode cX2_init 9 = .ok (.putfield 9, 3) := by decide +kernel
theorem dX2_init_12 : decode cX2_init 12 = .ok (.aload_n 0, 1) := by decide +kernel
theorem dX2_init_13 : decode cX2_init 13 = .ok (.bipush 24, 2) := by decide +kernel
theorem dX2_init_15 : decode cX2_init 15 = .ok (.newarray .int, 2) := by decide +kernel
theorem dX2_init_17 : decode cX2_init 17 = .ok (.putfield 13, 3) := by decide +kernel
theorem dX2_init_20 : decode cX2_init 20 = .ok (.aload_n 0, 1) := by decide +kernel
theorem dX2_init_21 : decode cX2_init 21 = .ok (.bipush 24, 2) := by decide +kernel
theorem dX2_init_23 : decode cX2_init 23 = .ok (.newarray .int, 2) := by decide +kernel
theorem dX2_init_25 : decode cX2_init 25 = .ok (.putfield 16, 3) := by decide +kernel
theorem dX2_init_28 : decode cX2_init 28 = .ok (.aload_n 0, 1) := by decide +kernel
theorem dX2_init_29 : decode cX2_init 29 = .ok (.bipush 24, 2) := by decide +kernel
theorem dX2_init_31 : decode cX2_init 31 = .ok (.newarray .int, 2) := by decide +kernel
theorem dX2_init_33 : decode cX2_init 33 = .ok (.putfield 19, 3) := by decide +kernel
theorem dX2_init_36 : decode cX2_init 36 = .ok (.aload_n 0, 1) := by decide +kernel
theorem dX2_init_37 : decode cX2_init 37 = .ok (.bipush 24, 2) := by decide +kernel
theorem dX2_init_39 : decode cX2_init 39 = .ok (.newarray .int, 2) := by decide +kernel
theorem dX2_init_41 : decode cX2_init 41 = .ok (.putfield 22, 3) := by decide +kernel
theorem dX2_init_44 : decode cX2_init 44 = .ok (.aload_n 0, 1) := by decide +kernel
theorem dX2_init_45 : decode cX2_init 45 = .ok (.bipush 24, 2) := by decide +kernel
theorem dX2_init_47 : decode cX2_init 47 = .ok (.newarray .int, 2) := by decide +kernel
theorem dX2_init_49 : decode cX2_init 49 = .ok (.putfield 25, 3) := by decide +kernel
theorem dX2_init_52 : decode cX2_init 52 = .ok (.aload_n 0, 1) := by decide +kernel
theorem dX2_init_53 : decode cX2_init 53 = .ok (.bipush 24, 2) := by decide +kernel
theorem dX2_init_55 : decode cX2_init 55 = .ok (.newarray .int, 2) := by decide +kernel
theorem dX2_init_57 : decode cX2_init 57 = .ok (.putfield 28, 3) := by decide +kernel
theorem dX2_init_60 : decode cX2_init 60 = .ok (.aload_n 0, 1) := by decide +kernel
theorem dX2_init_61 : decode cX2_init 61 = .ok (.iconst 0, 1) := by decide +kernel
theorem dX2_init_62 : decode cX2_init 62 = .ok (.putfield 31, 3) := by decide +kernel
theorem dX2_init_65 : decode cX2_init 65 = .ok (.return_, 1) := by decide +kernel
set_option maxRecDepth 20000 in
theorem ggX3_init_X9_init : GoodIn wsX3_init wsX9_init := goodIn_r _ [17, 18, 2, 3, 19, 20, 21, 22, 23, 4, 24, 25, 26, 27, 28, 36, 37, 38, 39] (by decide +kernel) (by decide +kernel)
set_option maxRecDepth 20000 in
theorem gX3_init_X9_init : GoodIn wsX3_init (wsX9_init) := ggX3_init_X9_init
theorem dX3_init_0 : decode cX3_init 0 = .ok (.aload_n 0, 1) := by decide +kernel
theorem dX3_init_1 : decode cX3_init 1 = .ok (.invokespecial 1, 3) := by decide +kernel
theorem dX3_init_4 : decode cX3_init 4 = .ok (.aload_n 0, 1) := by decide +kernel
theorem dX3_init_5 : decode cX3_init 5 = .ok (.sipush 400, 3) := by decide +kernel
theorem dX3_init_8 : decode cX3_init 8 = .ok (.newarray .int, 2) := by decide +kernel
theorem dX3_init_10 : decode cX3_init 10 = .ok (.putfield 9, 3) := by decide +kernel
theorem dX3_init_13 : decode cX3_init 13 = .ok (.aload_n 0, 1) := by decide +kernel
theorem dX3_init_14 : decode cX3_init 14 = .ok (.sipush 400, 3) := by decide +kernel
theorem dX3_init_17 : decode cX3_init 17 = .ok (.newarray .int, 2) := by decide +kernel
theorem dX3_init_19 : decode cX3_init 19 = .ok (.putfield 13, 3) := by decide +kernel
theorem dX3_init_22 : decode cX3_init 22 = .ok (.aload_n 0, 1) := by decide +kernel
theorem dX3_init_23 : decode cX3_init 23 = .ok (.sipush 400, 3) := by decide +kernel
theorem dX3_init_26 : decode cX3_init 26 = .ok (.newarray .int, 2) := by decide +kernel
theorem dX3_init_28 : decode cX3_init 28 = .ok (.putfield 16, 3) := by decide +kernel
theorem dX3_init_31 : decode cX3_init 31 = .ok (.aload_n 0, 1) := by decide +kernel
theorem dX3_init_32 : decode cX3_init 32 = .ok (.sipush 400, 3) := by decide +kernel
theorem dX3_init_35 : decode cX3_init 35 = .ok (.newarray .int, 2) := by decide +kernel
theorem dX3_init_37 : decode cX3_init 37 = .ok (.putfield 19, 3) := by decide +kernel
theorem dX3_init_40 : decode cX3_init 40 = .ok (.aload_n 0, 1) := by decide +kernel
theorem dX3_init_41 : decode cX3_init 41 = .ok (.sipush 400, 3) := by decide +kernel
theorem dX3_init_44 : decode cX3_init 44 = .ok (.newarray .int, 2) := by decide +kernel
theorem dX3_init_46 : decode cX3_init 46 = .ok (.putfield 22, 3) := by decide +kernel
theorem dX3_init_49 : decode cX3_init 49 = .ok (.aload_n 0, 1) := by decide +kernel
theorem dX3_init_50 : decode cX3_init 50 = .ok (.new 25, 3) := by decide +kernel
theorem dX3_init_53 : decode cX3_init 53 = .ok (.dup, 1) := by decide +kernel
theorem dX3_init_54 : decode cX3_init 54 = .ok (.bipush 16, 2) := by decide +kernel
theorem dX3_init_56 : decode cX3_init 56 = .ok (.invokespecial 27, 3) := by decide +kernel
theorem dX3_init_59 : decode cX3_init 59 = .ok (.putfield 30, 3) := by decide +kernel
theorem dX3_init_62 : decode cX3_init 62 = .ok (.aload_n 0, 1) := by decide +kernel
theorem dX3_init_63 : decode cX3_init 63 = .ok (.iconst 0, 1) := by decide +kernel
theorem dX3_init_64 : decode cX3_init 64 = .ok (.putfield 34, 3) := by decide +kernel
theorem dX3_init_67 : decode cX3_init 67 = .ok (.return_, 1) := by decide +kernel
set_option maxRecDepth 20000 in
theorem ggX8_init_X9_init : GoodIn wsX8_init wsX9_init := goodIn_r _ [19, 20, 2, 3, 21, 22, 23, 24, 25, 4, 26, 11, 27, 28, 29, 38, 39, 40, 41] (by decide +kernel) (by decide +kernel)
set_option maxRecDepth 20000 in
theorem gX8_init_X9_init : GoodIn wsX8_init (wsX9_init) := ggX8_init_X9_init
theorem dX8_init_0 : decode cX8_init 0 = .ok (.aload_n 0, 1) := by decide +kernel
theorem dX8_init_1 : decode cX8_init 1 = .ok (.invokespecial 1, 3) := by decide +kernel
theorem dX8_init_4 : decode cX8_init 4 = .ok (.aload_n 0, 1) := by decide +kernel
theorem dX8_init_5 : decode cX8_init 5 = .ok (.sipush 1024, 3) := by decide +kernel
theorem dX8_init_8 : decode cX8_init 8 = .ok (.newarray .int, 2) := by decide +kernel
theorem dX8_init_10 : decode cX8_init 10 = .ok (.putfield 7, 3) := by decide +kernel
theorem dX8_init_13 : decode cX8_init 13 = .ok (.aload_n 0, 1) := by decide +kernel
theorem dX8_init_14 : decode cX8_init 14 = .ok (.iconst 0, 1) := by decide +kernel
theorem dX8_init_15 : decode cX8_init 15 = .ok (.putfield 13, 3) := by decide +kernel
theorem dX8_init_18 : decode cX8_init 18 = .ok (.aload_n 0, 1) := by decide +kernel
theorem dX8_init_19 : decode cX8_init 19 = .ok (.new 17, 3) := by decide +kernel
theorem dX8_init_22 : decode cX8_init 22 = .ok (.dup, 1) := by decide +kernel
theorem dX8_init_23 : decode cX8_init 23 = .ok (.bipush 32, 2) := by decide +kernel
theorem dX8_init_25 : decode cX8_init 25 = .ok (.invokespecial 19, 3) := by decide +kernel
theorem dX8_init_28 : decode cX8_init 28 = .ok (.putfield 22, 3) := by decide +kernel
theorem dX8_init_31 : decode cX8_init 31 = .ok (.aload_n 0, 1) := by decide +kernel
theorem dX8_init_32 : decode cX8_init 32 = .ok (.bipush 40, 2) := by decide +kernel
theorem dX8_init_34 : decode cX8_init 34 = .ok (.newarray .long, 2) := by decide +kernel
theorem dX8_init_36 : decode cX8_init 36 = .ok (.putfield 26, 3) := by decide +kernel
theorem dX8_init_39 : decode cX8_init 39 = .ok (.aload_n 0, 1) := by decide +kernel
theorem dX8_init_40 : decode cX8_init 40 = .ok (.bipush 40, 2) := by decide +kernel
theorem dX8_init_42 : decode cX8_init 42 = .ok (.newarray .int, 2) := by decide +kernel
theorem dX8_init_44 : decode cX8_init 44 = .ok (.putfield 30, 3) := by decide +kernel
theorem dX8_init_47 : decode cX8_init 47 = .ok (.aload_n 0, 1) := by decide +kernel
theorem dX8_init_48 : decode cX8_init 48 = .ok (.bipush 40, 2) := by decide +kernel
theorem dX8_init_50 : decode cX8_init 50 = .ok (.newarray .int, 2) := by decide +kernel
theorem dX8_init_52 : decode cX8_init 52 = .ok (.putfield 33, 3) := by decide +kernel
theorem dX8_init_55 : decode cX8_init 55 = .ok (.aload_n 0, 1) := by decide +kernel
theorem dX8_init_56 : decode cX8_init 56 = .ok (.bipush 40, 2) := by decide +kernel
theorem dX8_init_58 : decode cX8_init 58 = .ok (.newarray .int, 2) := by decide +kernel
theorem dX8_init_60 : decode cX8_init 60 = .ok (.putfield 36, 3) := by decide +kernel
theorem dX8_init_63 : decode cX8_init 63 = .ok (.aload_n 0, 1) := by decide +kernel
theorem dX8_init_64 : decode cX8_init 64 = .ok (.iconst 0, 1) := by decide +kernel
theorem dX8_init_65 : decode cX8_init 65 = .ok (.putfield 39, 3) := by decide +kernel
theorem dX8_init_68 : decode cX8_init 68 = .ok (.return_, 1) := by decide +kernel
theorem dX9_init_0 : decode cX9_init 0 = .ok (.aload_n 0, 1) := by decide +kernel
theorem dX9_init_1 : decode cX9_init 1 = .ok (.invokespecial 1, 3) := by decide +kernel
theorem dX9_init_4 : decode cX9_init 4 = .ok (.aload_n 0, 1) := by decide +kernel
theorem dX9_init_5 : decode cX9_init 5 = .ok (.iconst 0, 1) := by decide +kernel
theorem dX9_init_6 : decode cX9_init 6 = .ok (.putfield 7, 3) := by decide +kernel
theorem dX9_init_9 : decode cX9_init 9 = .ok (.iload_n 1, 1) := by decide +kernel
theorem dX9_init_10 : decode cX9_init 10 = .ok (.iconst 1, 1) := by decide +kernel
theorem dX9_init_11 : decode cX9_init 11 = .ok (.invokestatic 13, 3) := by decide +kernel
theorem dX9_init_14 : decode cX9_init 14 = .ok (.istore_n 2, 1) := by decide +kernel
theorem dX9_init_15 : decode cX9_init 15 = .ok (.aload_n 0, 1) := by decide +kernel
theorem dX9_init_16 : decode cX9_init 16 = .ok (.iload_n 2, 1) := by decide +kernel
theorem dX9_init_17 : decode cX9_init 17 = .ok (.newarray .int, 2) := by decide +kernel
theorem dX9_init_19 : decode cX9_init 19 = .ok (.putfield 19, 3) := by decide +kernel
theorem dX9_init_22 : decode cX9_init 22 = .ok (.aload_n 0, 1) := by decide +kernel
theorem dX9_init_23 : decode cX9_init 23 = .ok (.iload_n 2, 1) := by decide +kernel
theorem dX9_init_24 : decode cX9_init 24 = .ok (.newarray .long, 2) := by decide +kernel
theorem dX9_init_26 : decode cX9_init 26 = .ok (.putfield 23, 3) := by decide +kernel
theorem dX9_init_29 : decode cX9_init 29 = .ok (.aload_n 0, 1) := by decide +kernel
theorem dX9_init_30 : decode cX9_init 30 = .ok (.iload_n 2, 1) := by decide +kernel
theorem dX9_init_31 : decode cX9_init 31 = .ok (.newarray .double, 2) := by decide +kernel
theorem dX9_init_33 : decode cX9_init 33 = .ok (.putfield 27, 3) := by decide +kernel
theorem dX9_init_36 : decode cX9_init 36 = .ok (.return_, 1) := by decide +kernel
theorem df_X9 : ∀ j, j < 4 → defaultValue (tyX9 j) = vp_V [.null, .null, .null, .int 0] j := by
  intro j hj
  match j, hj with
  | 0, _ => rfl
  | 1, _ => rfl
  | 2, _ => rfl
  | 3, _ => rfl
  | (k + 4), h => exact absurd h (by omega)
set_option maxRecDepth 100000 in
theorem in_X9_init_RX9 : ∀ w ∈ u_ws RX9 TX9 4, w ∈ wsX9_init := by decide +kernel
set_option maxRecDepth 100000 in
theorem in_X0_init_RX0 : ∀ w ∈ u_ws RX0 TX0 6, w ∈ wsX0_init := by decide +kernel
set_option maxRecDepth 100000 in
theorem in_X8_init_RX8 : ∀ w ∈ u_ws RX8 TX8 8, w ∈ wsX8_init := by decide +kernel
set_option maxRecDepth 100000 in
theorem in_X8_init_RX9 : ∀ w ∈ u_ws RX9 TX9 4, w ∈ wsX8_init := by decide +kernel
set_option maxRecDepth 100000 in
theorem in_X1_init_RX1 : ∀ w ∈ u_ws RX1 TX1 5, w ∈ wsX1_init := by decide +kernel
set_option maxRecDepth 100000 in
theorem in_X1_init_RX9 : ∀ w ∈ u_ws RX9 TX9 4, w ∈ wsX1_init := by decide +kernel
set_option maxRecDepth 100000 in
theorem in_X2_init_RX2 : ∀ w ∈ u_ws RX2 TX2 8, w ∈ wsX2_init := by decide +kernel
set_option maxRecDepth 100000 in
theorem in_X3_init_RX3 : ∀ w ∈ u_ws RX3 TX3 7, w ∈ wsX3_init := by decide +kernel
set_option maxRecDepth 100000 in
theorem in_X3_init_RX9 : ∀ w ∈ u_ws RX9 TX9 4, w ∈ wsX3_init := by decide +kernel
def nmB : List Int32 := [122, 101, 114, 111, 32, 105, 110, 100, 101, 120, 32, 110, 111, 116, 104, 105, 110, 103, 32, 115, 111, 114, 116, 32, 115, 105, 122, 101, 32, 100, 101, 101, 112, 32, 116, 114, 97, 112, 32, 108, 111, 115, 116, 32, 98, 111, 114, 100, 101, 114, 32, 97, 110, 121, 32, 109, 97, 99, 104, 105, 110, 101, 32]
def wdB : List Int32 := [107, 105, 110, 100, 32, 117, 110, 100, 101, 114, 32, 102, 110, 32, 108, 101, 116, 32, 105, 102, 32, 101, 108, 115, 101, 32, 119, 104, 105, 108, 101, 32, 114, 101, 116, 117, 114, 110, 32, 109, 97, 114, 107, 32, 116, 104, 114, 111, 119, 32, 116, 114, 121, 32, 99, 97, 116, 99, 104, 32, 102, 105, 110, 97, 108, 108, 121, 32, 102, 97, 105, 108, 32, 111, 110, 32, 103, 111, 32, 119, 105, 116, 104, 32, 101, 110, 100, 32, 101, 120, 105, 116, 32, 111, 112, 101, 110, 32, 116, 104, 101, 110, 32, 99, 108, 101, 97, 110, 32, 100, 111, 32, 110, 111, 110, 101, 32, 110, 101, 119, 32, 115, 105, 122, 101, 32, 99, 101, 108, 108, 32, 116, 97, 103, 32, 98, 97, 100, 32, 116, 104, 114, 111, 119, 115, 32, 99, 111, 100, 101, 115, 32, 118, 97, 108, 117, 101, 115, 32, 101, 120, 105, 116, 115, 32]
def nmS : Nat → Int64 × Int32 × (Nat → Int64)
  | 0 => (0, 0, fun _ => 0)
  | i + 1 => if chr (nmB.getD i 0) = 32 then (0, (nmS i).2.1 + 1, vp_updL (nmS i).2.2 ((nmS i).2.1 + 1).toNatClampNeg (nmS i).1) else ((nmS i).1 <<< ((8 : Int32).toInt64 &&& 63) ||| (chr (nmB.getD i 0)).toInt64, (nmS i).2.1, (nmS i).2.2)
theorem nmS_sp {i : Nat} (h : chr (nmB.getD i 0) = 32) : nmS (i + 1) = (0, (nmS i).2.1 + 1, vp_updL (nmS i).2.2 ((nmS i).2.1 + 1).toNatClampNeg (nmS i).1) := by rw [nmS, if_pos h]
theorem nmS_ch {i : Nat} (h : ¬ chr (nmB.getD i 0) = 32) : nmS (i + 1) = ((nmS i).1 <<< ((8 : Int32).toInt64 &&& 63) ||| (chr (nmB.getD i 0)).toInt64, (nmS i).2.1, (nmS i).2.2) := by rw [nmS, if_neg h]
set_option maxRecDepth 100000 in
theorem nmS_in : ∀ i, i < 63 → ¬ (51 : Int32) ≤ (nmS i).2.1 ∧ ¬ ((nmS i).2.1 + 1 < 0 ∨ 52 ≤ ((nmS i).2.1 + 1).toNatClampNeg) := by decide +kernel
theorem ofn_nI (n : Nat) : Int32.ofNat n = nI n := rfl
set_option maxHeartbeats 4000000 in
set_option maxRecDepth 100000 in
theorem c_X9_init_16 (l : Launch) (dC : Nat → ClassId) (dI : Nat → Nat → Nat) (sz : Nat) (h0 : Nat) : Met l yX9_init wsX9_init ({ frames := 1, cells := 3, slots := 48, locals := 24 }) (va_Pc [.ref h0, .int 16] (fun U => xM (dC, dI) sz [(h0, .inr (8, [.null, .null, .null, .int 0]))] [] U)) (va_Qv (fun _ : Unit => True) (fun (_ : Unit) t => ∃ (q_1 : Nat), ∃ (cA_2 : ClassId), ∃ (q_3 : Nat), ∃ (cA_4 : ClassId), ∃ (q_5 : Nat), ∃ (cA_6 : ClassId), xB (dC, dI) [(h0, .inr (8, [.ref q_1, .ref q_3, .ref q_5, .int 0])), (q_1, .inl (cA_2, 16, .inl (fun _ => 0))), (q_3, .inl (cA_4, 16, .inr (.inl (fun _ => 0)))), (q_5, .inl (cA_6, 16, .inr (.inr (.inr (.inl (fun _ => 0))))))] [(cA_2, .int), (cA_4, .long), (cA_6, .double)] (va_A [(h0, .inr (8, [.null, .null, .null, .int 0]))] sz) t) (va_A [(h0, .inr (8, [.null, .null, .null, .int 0]))] sz)) 3 48 (va_A [(h0, .inr (8, [.null, .null, .null, .int 0]))] sz) := by
  refine Met.ofW (cc := cX9_init) (maxL := 3) (ret := none) (by decide) rfl ?_
  intro p e s m args below meth c s₁ B hml hv
  obtain ⟨rfl, hsz, hP, hK, hD0⟩ := hv
  have hx := B.exec
  have hb := B.bytes
  have hr := B.returns
  have hts := atoms_spec (ws := wsX9_init) B.pre
  have hown : s.vm.findClass RX9 = some m.cls := findClass_of_methodNamed B.named
  have hlocks := B.notSynchronized
  have hin : meth.name = "<init>" := (name_of_methodNamed B.named B.method).1
  subst hsz
  have hD := hD0.self (sz := s.heap.size)
  generalize hAe : va_A [(h0, .inr (8, [.null, .null, .null, .int 0]))] s.heap.size = A at hD ⊢
  have hA : ∀ q : Nat, s.heap.size ≤ q → A q := fun q h => by rw [← hAe]; exact Or.inr h
  have hS : va_S A s.heap s.heap [] := va_S.rf
  have hl := lv_entry ([.ref h0, .int 16]) (n := 3) (Nat.le_of_ble_eq_true rfl)
  rw [lg_entry_eq]
  generalize (lg_sl ([.ref h0, .int 16]) ++ List.replicate (3 - (lg_sl ([.ref h0, .int 16])).length) Slot.unset).toArray = ls at hl ⊢
  have hl : lv_has ls 3 [(0, .ref h0), (1, .int 16)] := hl
  refine lv_aload_n hx hb dX9_init_0 rfl (lv_at hl 0 rfl) ?_
  refine W.objInit hx hb hown (hts (.methodLink RX9 1 objectInit) (by decide +kernel)) (hts (.instanceMethod objectInit) (by decide +kernel)) (hts (.code objectInit ⟨#[0xb1]⟩ 1 none) (by decide +kernel)) rfl (by rw [hml]; exact hl.1) rfl dX9_init_1 (Nat.le_of_ble_eq_true rfl) (Nat.le_of_ble_eq_true rfl) ?_
  refine W.eq (g2 := F0 m 4 ls []) rfl ?_
  refine lv_aload_n hx hb dX9_init_4 rfl (lv_at hl 0 rfl) ?_
  refine lv_iconst (v := 0) hx hb dX9_init_5 (by decide) ?_
  refine va_put (D := (dC, dI)) (ci := 8) (v := .int 0) (ty := .int) (C := RX9) (T := TX9) (N := 4) hx hb hts in_X9_init_RX9 tyX9 tyX9_ok nmX9 hown hK hP hD hS 0 rfl rfl 3 (by decide) (hts (.fieldLink RX9 7 "FourTongues$Row" "count" "I") (by decide +kernel)) (fun _ h9 => h9) rfl (by decide +kernel) rfl rfl (Nat.le_of_ble_eq_true rfl) dX9_init_6 (fun H locs hP hD hS => ?_)
  have hP : va_P (dC, dI) vwCl [(h0, .inr (8, [.null, .null, .null, .int 0]))] _ := hP
  have hD : va_D A [(h0, .inr (8, [.null, .null, .null, .int 0]))] := hD
  refine lv_iload_n hx hb dX9_init_9 rfl (lv_at hl 1 rfl) ?_
  refine lv_iconst (v := 1) hx hb dX9_init_10 (by decide) ?_
  refine va_mmax hx hb (by rw [hml]; exact hl.1.symm) hown (hts (.methodLink RX9 13 Lib.Math.max.name) (by decide +kernel)) (hts (.static Lib.Math.max.name) (by decide +kernel)) (hts (.initialized "java/lang/Math") (by decide +kernel)) (hts (.code Lib.Math.max.name Lib.Math.max.code 2 (some .int)) (by decide +kernel)) (Nat.le_of_ble_eq_true rfl) (Nat.le_of_ble_eq_true rfl) (Nat.le_of_ble_eq_true rfl) (Nat.le_of_ble_eq_true rfl) dX9_init_11 ?_
  refine my_ti (v := 16) (by decide) ?_
  refine lv_istore_n (lv' := [(2, .int 16), (0, .ref h0), (1, .int 16)]) hx hb dX9_init_14 rfl hl (by decide) rfl (fun ls hl => ?_)
  refine lv_aload_n hx hb dX9_init_15 rfl (lv_at hl 1 rfl) ?_
  refine lv_iload_n hx hb dX9_init_16 rfl (lv_at hl 0 rfl) ?_
  refine va_newa (atype := .int) (ty := .int) (a0 := (16, .inl (fun _ => 0))) (N' := 16) hx hb (hts (.arrayClass .int) (by decide +kernel)) rfl hK hP hD hS hA (cz_int 16) (by decide +kernel) (by decide +kernel) (by decide +kernel) (Nat.le_of_ble_eq_true rfl) (Nat.le_of_ble_eq_true rfl) dX9_init_17 (fun q_1 cA_2 H hK hP hD hS => ?_)
  have hP : va_P (dC, dI) vwCl [(h0, .inr (8, [.null, .null, .null, .int 0])), (q_1, .inl (cA_2, 16, .inl (fun _ => 0)))] _ := hP
  have hD : va_D A [(h0, .inr (8, [.null, .null, .null, .int 0])), (q_1, .inl (cA_2, 16, .inl (fun _ => 0)))] := hD
  have hK : va_K (dC, dI) vwCl [(cA_2, .int)] s := hK
  refine W.widen (k := 1) (n := 16) (Nat.le_of_ble_eq_true rfl) (Nat.le_of_ble_eq_true rfl) ?_
  refine va_put (D := (dC, dI)) (ci := 8) (v := .ref q_1) (ty := .array .int) (C := RX9) (T := TX9) (N := 4) hx hb hts in_X9_init_RX9 tyX9 tyX9_ok nmX9 hown hK hP hD hS 0 rfl rfl 0 (by decide) (hts (.fieldLink RX9 19 "FourTongues$Row" "kinds" "[I") (by decide +kernel)) (fun _ h9 => h9) rfl (by decide +kernel) rfl rfl (Nat.le_of_ble_eq_true rfl) dX9_init_19 (fun H locs hP hD hS => ?_)
  have hP : va_P (dC, dI) vwCl [(h0, .inr (8, [.ref q_1, .null, .null, .int 0])), (q_1, .inl (cA_2, 16, .inl (fun _ => 0)))] _ := hP
  have hD : va_D A [(h0, .inr (8, [.ref q_1, .null, .null, .int 0])), (q_1, .inl (cA_2, 16, .inl (fun _ => 0)))] := hD
  refine lv_aload_n hx hb dX9_init_22 rfl (lv_at hl 1 rfl) ?_
  refine lv_iload_n hx hb dX9_init_23 rfl (lv_at hl 0 rfl) ?_
  refine va_newa (atype := .long) (ty := .long) (a0 := (16, .inr (.inl (fun _ => 0)))) (N' := 16) hx hb (hts (.arrayClass .long) (by decide +kernel)) rfl hK hP hD hS hA (cz_long 16) (by decide +kernel) (by decide +kernel) (by decide +kernel) (Nat.le_of_ble_eq_true rfl) (Nat.le_of_ble_eq_true rfl) dX9_init_24 (fun q_3 cA_4 H hK hP hD hS => ?_)
  have hP : va_P (dC, dI) vwCl [(h0, .inr (8, [.ref q_1, .null, .null, .int 0])), (q_1, .inl (cA_2, 16, .inl (fun _ => 0))), (q_3, .inl (cA_4, 16, .inr (.inl (fun _ => 0))))] _ := hP
  have hD : va_D A [(h0, .inr (8, [.ref q_1, .null, .null, .int 0])), (q_1, .inl (cA_2, 16, .inl (fun _ => 0))), (q_3, .inl (cA_4, 16, .inr (.inl (fun _ => 0))))] := hD
  have hK : va_K (dC, dI) vwCl [(cA_2, .int), (cA_4, .long)] s := hK
  refine W.widen (k := 2) (n := 32) (Nat.le_of_ble_eq_true rfl) (Nat.le_of_ble_eq_true rfl) ?_
  refine va_put (D := (dC, dI)) (ci := 8) (v := .ref q_3) (ty := .array .long) (C := RX9) (T := TX9) (N := 4) hx hb hts in_X9_init_RX9 tyX9 tyX9_ok nmX9 hown hK hP hD hS 0 rfl rfl 1 (by decide) (hts (.fieldLink RX9 23 "FourTongues$Row" "wholes" "[J") (by decide +kernel)) (fun _ h9 => h9) rfl (by decide +kernel) rfl rfl (Nat.le_of_ble_eq_true rfl) dX9_init_26 (fun H locs hP hD hS => ?_)
  have hP : va_P (dC, dI) vwCl [(h0, .inr (8, [.ref q_1, .ref q_3, .null, .int 0])), (q_1, .inl (cA_2, 16, .inl (fun _ => 0))), (q_3, .inl (cA_4, 16, .inr (.inl (fun _ => 0))))] _ := hP
  have hD : va_D A [(h0, .inr (8, [.ref q_1, .ref q_3, .null, .int 0])), (q_1, .inl (cA_2, 16, .inl (fun _ => 0))), (q_3, .inl (cA_4, 16, .inr (.inl (fun _ => 0))))] := hD
  refine lv_aload_n hx hb dX9_init_29 rfl (lv_at hl 1 rfl) ?_
  refine lv_iload_n hx hb dX9_init_30 rfl (lv_at hl 0 rfl) ?_
  refine va_newa (atype := .double) (ty := .double) (a0 := (16, .inr (.inr (.inr (.inl (fun _ => 0)))))) (N' := 16) hx hb (hts (.arrayClass .double) (by decide +kernel)) rfl hK hP hD hS hA (cz_double 16) (by decide +kernel) (by decide +kernel) (by decide +kernel) (Nat.le_of_ble_eq_true rfl) (Nat.le_of_ble_eq_true rfl) dX9_init_31 (fun q_5 cA_6 H hK hP hD hS => ?_)
  have hP : va_P (dC, dI) vwCl [(h0, .inr (8, [.ref q_1, .ref q_3, .null, .int 0])), (q_1, .inl (cA_2, 16, .inl (fun _ => 0))), (q_3, .inl (cA_4, 16, .inr (.inl (fun _ => 0)))), (q_5, .inl (cA_6, 16, .inr (.inr (.inr (.inl (fun _ => 0))))))] _ := hP
  have hD : va_D A [(h0, .inr (8, [.ref q_1, .ref q_3, .null, .int 0])), (q_1, .inl (cA_2, 16, .inl (fun _ => 0))), (q_3, .inl (cA_4, 16, .inr (.inl (fun _ => 0)))), (q_5, .inl (cA_6, 16, .inr (.inr (.inr (.inl (fun _ => 0))))))] := hD
  have hK : va_K (dC, dI) vwCl [(cA_2, .int), (cA_4, .long), (cA_6, .double)] s := hK
  refine W.widen (k := 3) (n := 48) (Nat.le_of_ble_eq_true rfl) (Nat.le_of_ble_eq_true rfl) ?_
  refine va_put (D := (dC, dI)) (ci := 8) (v := .ref q_5) (ty := .array .double) (C := RX9) (T := TX9) (N := 4) hx hb hts in_X9_init_RX9 tyX9 tyX9_ok nmX9 hown hK hP hD hS 0 rfl rfl 2 (by decide) (hts (.fieldLink RX9 27 "FourTongues$Row" "reals" "[D") (by decide +kernel)) (fun _ h9 => h9) rfl (by decide +kernel) rfl rfl (Nat.le_of_ble_eq_true rfl) dX9_init_33 (fun H locs hP hD hS => ?_)
  have hP : va_P (dC, dI) vwCl [(h0, .inr (8, [.ref q_1, .ref q_3, .ref q_5, .int 0])), (q_1, .inl (cA_2, 16, .inl (fun _ => 0))), (q_3, .inl (cA_4, 16, .inr (.inl (fun _ => 0)))), (q_5, .inl (cA_6, 16, .inr (.inr (.inr (.inl (fun _ => 0))))))] _ := hP
  have hD : va_D A [(h0, .inr (8, [.ref q_1, .ref q_3, .ref q_5, .int 0])), (q_1, .inl (cA_2, 16, .inl (fun _ => 0))), (q_3, .inl (cA_4, 16, .inr (.inl (fun _ => 0)))), (q_5, .inl (cA_6, 16, .inr (.inr (.inr (.inl (fun _ => 0))))))] := hD
  have hP9 := hP.sub (ws' := [(h0, .inr (8, [.ref q_1, .ref q_3, .ref q_5, .int 0])), (q_1, .inl (cA_2, 16, .inl (fun _ => 0))), (q_3, .inl (cA_4, 16, .inr (.inl (fun _ => 0)))), (q_5, .inl (cA_6, 16, .inr (.inr (.inr (.inl (fun _ => 0))))))]) [0, 1, 2, 3] rfl
  have hD9 := hD.sub (ws' := [(h0, .inr (8, [.ref q_1, .ref q_3, .ref q_5, .int 0])), (q_1, .inl (cA_2, 16, .inl (fun _ => 0))), (q_3, .inl (cA_4, 16, .inr (.inl (fun _ => 0)))), (q_5, .inl (cA_6, 16, .inr (.inr (.inr (.inl (fun _ => 0))))))]) [0, 1, 2, 3] (by decide) rfl
  have hK9 := hK.sub (tys' := [(cA_2, .int), (cA_4, .long), (cA_6, .double)]) [0, 1, 2] rfl
  exact W.vret hx hb hr (fun t ht hW => ⟨⟨(), rfl, trivial, ⟨q_1, cA_2, q_3, cA_4, q_5, cA_6, by rw [ht]; exact hP9, va_K.moved hW.alike hK9, hD9⟩⟩, hS.F ht⟩) hS.2.2 dX9_init_36

set_option maxHeartbeats 4000000 in
set_option maxRecDepth 100000 in
theorem c_X9_init_32 (l : Launch) (dC : Nat → ClassId) (dI : Nat → Nat → Nat) (sz : Nat) (h0 : Nat) : Met l yX9_init wsX9_init ({ frames := 1, cells := 3, slots := 96, locals := 24 }) (va_Pc [.ref h0, .int 32] (fun U => xM (dC, dI) sz [(h0, .inr (8, [.null, .null, .null, .int 0]))] [] U)) (va_Qv (fun _ : Unit => True) (fun (_ : Unit) t => ∃ (q_1 : Nat), ∃ (cA_2 : ClassId), ∃ (q_3 : Nat), ∃ (cA_4 : ClassId), ∃ (q_5 : Nat), ∃ (cA_6 : ClassId), xB (dC, dI) [(h0, .inr (8, [.ref q_1, .ref q_3, .ref q_5, .int 0])), (q_1, .inl (cA_2, 32, .inl (fun _ => 0))), (q_3, .inl (cA_4, 32, .inr (.inl (fun _ => 0)))), (q_5, .inl (cA_6, 32, .inr (.inr (.inr (.inl (fun _ => 0))))))] [(cA_2, .int), (cA_4, .long), (cA_6, .double)] (va_A [(h0, .inr (8, [.null, .null, .null, .int 0]))] sz) t) (va_A [(h0, .inr (8, [.null, .null, .null, .int 0]))] sz)) 3 96 (va_A [(h0, .inr (8, [.null, .null, .null, .int 0]))] sz) := by
  refine Met.ofW (cc := cX9_init) (maxL := 3) (ret := none) (by decide) rfl ?_
  intro p e s m args below meth c s₁ B hml hv
  obtain ⟨rfl, hsz, hP, hK, hD0⟩ := hv
  have hx := B.exec
  have hb := B.bytes
  have hr := B.returns
  have hts := atoms_spec (ws := wsX9_init) B.pre
  have hown : s.vm.findClass RX9 = some m.cls := findClass_of_methodNamed B.named
  have hlocks := B.notSynchronized
  have hin : meth.name = "<init>" := (name_of_methodNamed B.named B.method).1
  subst hsz
  have hD := hD0.self (sz := s.heap.size)
  generalize hAe : va_A [(h0, .inr (8, [.null, .null, .null, .int 0]))] s.heap.size = A at hD ⊢
  have hA : ∀ q : Nat, s.heap.size ≤ q → A q := fun q h => by rw [← hAe]; exact Or.inr h
  have hS : va_S A s.heap s.heap [] := va_S.rf
  have hl := lv_entry ([.ref h0, .int 32]) (n := 3) (Nat.le_of_ble_eq_true rfl)
  rw [lg_entry_eq]
  generalize (lg_sl ([.ref h0, .int 32]) ++ List.replicate (3 - (lg_sl ([.ref h0, .int 32])).length) Slot.unset).toArray = ls at hl ⊢
  have hl : lv_has ls 3 [(0, .ref h0), (1, .int 32)] := hl
  refine lv_aload_n hx hb dX9_init_0 rfl (lv_at hl 0 rfl) ?_
  refine W.objInit hx hb hown (hts (.methodLink RX9 1 objectInit) (by decide +kernel)) (hts (.instanceMethod objectInit) (by decide +kernel)) (hts (.code objectInit ⟨#[0xb1]⟩ 1 none) (by decide +kernel)) rfl (by rw [hml]; exact hl.1) rfl dX9_init_1 (Nat.le_of_ble_eq_true rfl) (Nat.le_of_ble_eq_true rfl) ?_
  refine W.eq (g2 := F0 m 4 ls []) rfl ?_
  refine lv_aload_n hx hb dX9_init_4 rfl (lv_at hl 0 rfl) ?_
  refine lv_iconst (v := 0) hx hb dX9_init_5 (by decide) ?_
  refine va_put (D := (dC, dI)) (ci := 8) (v := .int 0) (ty := .int) (C := RX9) (T := TX9) (N := 4) hx hb hts in_X9_init_RX9 tyX9 tyX9_ok nmX9 hown hK hP hD hS 0 rfl rfl 3 (by decide) (hts (.fieldLink RX9 7 "FourTongues$Row" "count" "I") (by decide +kernel)) (fun _ h9 => h9) rfl (by decide +kernel) rfl rfl (Nat.le_of_ble_eq_true rfl) dX9_init_6 (fun H locs hP hD hS => ?_)
  have hP : va_P (dC, dI) vwCl [(h0, .inr (8, [.null, .null, .null, .int 0]))] _ := hP
  have hD : va_D A [(h0, .inr (8, [.null, .null, .null, .int 0]))] := hD
  refine lv_iload_n hx hb dX9_init_9 rfl (lv_at hl 1 rfl) ?_
  refine lv_iconst (v := 1) hx hb dX9_init_10 (by decide) ?_
  refine va_mmax hx hb (by rw [hml]; exact hl.1.symm) hown (hts (.methodLink RX9 13 Lib.Math.max.name) (by decide +kernel)) (hts (.static Lib.Math.max.name) (by decide +kernel)) (hts (.initialized "java/lang/Math") (by decide +kernel)) (hts (.code Lib.Math.max.name Lib.Math.max.code 2 (some .int)) (by decide +kernel)) (Nat.le_of_ble_eq_true rfl) (Nat.le_of_ble_eq_true rfl) (Nat.le_of_ble_eq_true rfl) (Nat.le_of_ble_eq_true rfl) dX9_init_11 ?_
  refine my_ti (v := 32) (by decide) ?_
  refine lv_istore_n (lv' := [(2, .int 32), (0, .ref h0), (1, .int 32)]) hx hb dX9_init_14 rfl hl (by decide) rfl (fun ls hl => ?_)
  refine lv_aload_n hx hb dX9_init_15 rfl (lv_at hl 1 rfl) ?_
  refine lv_iload_n hx hb dX9_init_16 rfl (lv_at hl 0 rfl) ?_
  refine va_newa (atype := .int) (ty := .int) (a0 := (32, .inl (fun _ => 0))) (N' := 32) hx hb (hts (.arrayClass .int) (by decide +kernel)) rfl hK hP hD hS hA (cz_int 32) (by decide +kernel) (by decide +kernel) (by decide +kernel) (Nat.le_of_ble_eq_true rfl) (Nat.le_of_ble_eq_true rfl) dX9_init_17 (fun q_1 cA_2 H hK hP hD hS => ?_)
  have hP : va_P (dC, dI) vwCl [(h0, .inr (8, [.null, .null, .null, .int 0])), (q_1, .inl (cA_2, 32, .inl (fun _ => 0)))] _ := hP
  have hD : va_D A [(h0, .inr (8, [.null, .null, .null, .int 0])), (q_1, .inl (cA_2, 32, .inl (fun _ => 0)))] := hD
  have hK : va_K (dC, dI) vwCl [(cA_2, .int)] s := hK
  refine W.widen (k := 1) (n := 32) (Nat.le_of_ble_eq_true rfl) (Nat.le_of_ble_eq_true rfl) ?_
  refine va_put (D := (dC, dI)) (ci := 8) (v := .ref q_1) (ty := .array .int) (C := RX9) (T := TX9) (N := 4) hx hb hts in_X9_init_RX9 tyX9 tyX9_ok nmX9 hown hK hP hD hS 0 rfl rfl 0 (by decide) (hts (.fieldLink RX9 19 "FourTongues$Row" "kinds" "[I") (by decide +kernel)) (fun _ h9 => h9) rfl (by decide +kernel) rfl rfl (Nat.le_of_ble_eq_true rfl) dX9_init_19 (fun H locs hP hD hS => ?_)
  have hP : va_P (dC, dI) vwCl [(h0, .inr (8, [.ref q_1, .null, .null, .int 0])), (q_1, .inl (cA_2, 32, .inl (fun _ => 0)))] _ := hP
  have hD : va_D A [(h0, .inr (8, [.ref q_1, .null, .null, .int 0])), (q_1, .inl (cA_2, 32, .inl (fun _ => 0)))] := hD
  refine lv_aload_n hx hb dX9_init_22 rfl (lv_at hl 1 rfl) ?_
  refine lv_iload_n hx hb dX9_init_23 rfl (lv_at hl 0 rfl) ?_
  refine va_newa (atype := .long) (ty := .long) (a0 := (32, .inr (.inl (fun _ => 0)))) (N' := 32) hx hb (hts (.arrayClass .long) (by decide +kernel)) rfl hK hP hD hS hA (cz_long 32) (by decide +kernel) (by decide +kernel) (by decide +kernel) (Nat.le_of_ble_eq_true rfl) (Nat.le_of_ble_eq_true rfl) dX9_init_24 (fun q_3 cA_4 H hK hP hD hS => ?_)
  have hP : va_P (dC, dI) vwCl [(h0, .inr (8, [.ref q_1, .null, .null, .int 0])), (q_1, .inl (cA_2, 32, .inl (fun _ => 0))), (q_3, .inl (cA_4, 32, .inr (.inl (fun _ => 0))))] _ := hP
  have hD : va_D A [(h0, .inr (8, [.ref q_1, .null, .null, .int 0])), (q_1, .inl (cA_2, 32, .inl (fun _ => 0))), (q_3, .inl (cA_4, 32, .inr (.inl (fun _ => 0))))] := hD
  have hK : va_K (dC, dI) vwCl [(cA_2, .int), (cA_4, .long)] s := hK
  refine W.widen (k := 2) (n := 64) (Nat.le_of_ble_eq_true rfl) (Nat.le_of_ble_eq_true rfl) ?_
  refine va_put (D := (dC, dI)) (ci := 8) (v := .ref q_3) (ty := .array .long) (C := RX9) (T := TX9) (N := 4) hx hb hts in_X9_init_RX9 tyX9 tyX9_ok nmX9 hown hK hP hD hS 0 rfl rfl 1 (by decide) (hts (.fieldLink RX9 23 "FourTongues$Row" "wholes" "[J") (by decide +kernel)) (fun _ h9 => h9) rfl (by decide +kernel) rfl rfl (Nat.le_of_ble_eq_true rfl) dX9_init_26 (fun H locs hP hD hS => ?_)
  have hP : va_P (dC, dI) vwCl [(h0, .inr (8, [.ref q_1, .ref q_3, .null, .int 0])), (q_1, .inl (cA_2, 32, .inl (fun _ => 0))), (q_3, .inl (cA_4, 32, .inr (.inl (fun _ => 0))))] _ := hP
  have hD : va_D A [(h0, .inr (8, [.ref q_1, .ref q_3, .null, .int 0])), (q_1, .inl (cA_2, 32, .inl (fun _ => 0))), (q_3, .inl (cA_4, 32, .inr (.inl (fun _ => 0))))] := hD
  refine lv_aload_n hx hb dX9_init_29 rfl (lv_at hl 1 rfl) ?_
  refine lv_iload_n hx hb dX9_init_30 rfl (lv_at hl 0 rfl) ?_
  refine va_newa (atype := .double) (ty := .double) (a0 := (32, .inr (.inr (.inr (.inl (fun _ => 0)))))) (N' := 32) hx hb (hts (.arrayClass .double) (by decide +kernel)) rfl hK hP hD hS hA (cz_double 32) (by decide +kernel) (by decide +kernel) (by decide +kernel) (Nat.le_of_ble_eq_true rfl) (Nat.le_of_ble_eq_true rfl) dX9_init_31 (fun q_5 cA_6 H hK hP hD hS => ?_)
  have hP : va_P (dC, dI) vwCl [(h0, .inr (8, [.ref q_1, .ref q_3, .null, .int 0])), (q_1, .inl (cA_2, 32, .inl (fun _ => 0))), (q_3, .inl (cA_4, 32, .inr (.inl (fun _ => 0)))), (q_5, .inl (cA_6, 32, .inr (.inr (.inr (.inl (fun _ => 0))))))] _ := hP
  have hD : va_D A [(h0, .inr (8, [.ref q_1, .ref q_3, .null, .int 0])), (q_1, .inl (cA_2, 32, .inl (fun _ => 0))), (q_3, .inl (cA_4, 32, .inr (.inl (fun _ => 0)))), (q_5, .inl (cA_6, 32, .inr (.inr (.inr (.inl (fun _ => 0))))))] := hD
  have hK : va_K (dC, dI) vwCl [(cA_2, .int), (cA_4, .long), (cA_6, .double)] s := hK
  refine W.widen (k := 3) (n := 96) (Nat.le_of_ble_eq_true rfl) (Nat.le_of_ble_eq_true rfl) ?_
  refine va_put (D := (dC, dI)) (ci := 8) (v := .ref q_5) (ty := .array .double) (C := RX9) (T := TX9) (N := 4) hx hb hts in_X9_init_RX9 tyX9 tyX9_ok nmX9 hown hK hP hD hS 0 rfl rfl 2 (by decide) (hts (.fieldLink RX9 27 "FourTongues$Row" "reals" "[D") (by decide +kernel)) (fun _ h9 => h9) rfl (by decide +kernel) rfl rfl (Nat.le_of_ble_eq_true rfl) dX9_init_33 (fun H locs hP hD hS => ?_)
  have hP : va_P (dC, dI) vwCl [(h0, .inr (8, [.ref q_1, .ref q_3, .ref q_5, .int 0])), (q_1, .inl (cA_2, 32, .inl (fun _ => 0))), (q_3, .inl (cA_4, 32, .inr (.inl (fun _ => 0)))), (q_5, .inl (cA_6, 32, .inr (.inr (.inr (.inl (fun _ => 0))))))] _ := hP
  have hD : va_D A [(h0, .inr (8, [.ref q_1, .ref q_3, .ref q_5, .int 0])), (q_1, .inl (cA_2, 32, .inl (fun _ => 0))), (q_3, .inl (cA_4, 32, .inr (.inl (fun _ => 0)))), (q_5, .inl (cA_6, 32, .inr (.inr (.inr (.inl (fun _ => 0))))))] := hD
  have hP9 := hP.sub (ws' := [(h0, .inr (8, [.ref q_1, .ref q_3, .ref q_5, .int 0])), (q_1, .inl (cA_2, 32, .inl (fun _ => 0))), (q_3, .inl (cA_4, 32, .inr (.inl (fun _ => 0)))), (q_5, .inl (cA_6, 32, .inr (.inr (.inr (.inl (fun _ => 0))))))]) [0, 1, 2, 3] rfl
  have hD9 := hD.sub (ws' := [(h0, .inr (8, [.ref q_1, .ref q_3, .ref q_5, .int 0])), (q_1, .inl (cA_2, 32, .inl (fun _ => 0))), (q_3, .inl (cA_4, 32, .inr (.inl (fun _ => 0)))), (q_5, .inl (cA_6, 32, .inr (.inr (.inr (.inl (fun _ => 0))))))]) [0, 1, 2, 3] (by decide) rfl
  have hK9 := hK.sub (tys' := [(cA_2, .int), (cA_4, .long), (cA_6, .double)]) [0, 1, 2] rfl
  exact W.vret hx hb hr (fun t ht hW => ⟨⟨(), rfl, trivial, ⟨q_1, cA_2, q_3, cA_4, q_5, cA_6, by rw [ht]; exact hP9, va_K.moved hW.alike hK9, hD9⟩⟩, hS.F ht⟩) hS.2.2 dX9_init_36

set_option maxHeartbeats 4000000 in
set_option maxRecDepth 100000 in
theorem c_X9_init_64 (l : Launch) (dC : Nat → ClassId) (dI : Nat → Nat → Nat) (sz : Nat) (h0 : Nat) : Met l yX9_init wsX9_init ({ frames := 1, cells := 3, slots := 192, locals := 24 }) (va_Pc [.ref h0, .int 64] (fun U => xM (dC, dI) sz [(h0, .inr (8, [.null, .null, .null, .int 0]))] [] U)) (va_Qv (fun _ : Unit => True) (fun (_ : Unit) t => ∃ (q_1 : Nat), ∃ (cA_2 : ClassId), ∃ (q_3 : Nat), ∃ (cA_4 : ClassId), ∃ (q_5 : Nat), ∃ (cA_6 : ClassId), xB (dC, dI) [(h0, .inr (8, [.ref q_1, .ref q_3, .ref q_5, .int 0])), (q_1, .inl (cA_2, 64, .inl (fun _ => 0))), (q_3, .inl (cA_4, 64, .inr (.inl (fun _ => 0)))), (q_5, .inl (cA_6, 64, .inr (.inr (.inr (.inl (fun _ => 0))))))] [(cA_2, .int), (cA_4, .long), (cA_6, .double)] (va_A [(h0, .inr (8, [.null, .null, .null, .int 0]))] sz) t) (va_A [(h0, .inr (8, [.null, .null, .null, .int 0]))] sz)) 3 192 (va_A [(h0, .inr (8, [.null, .null, .null, .int 0]))] sz) := by
  refine Met.ofW (cc := cX9_init) (maxL := 3) (ret := none) (by decide) rfl ?_
  intro p e s m args below meth c s₁ B hml hv
  obtain ⟨rfl, hsz, hP, hK, hD0⟩ := hv
  have hx := B.exec
  have hb := B.bytes
  have hr := B.returns
  have hts := atoms_spec (ws := wsX9_init) B.pre
  have hown : s.vm.findClass RX9 = some m.cls := findClass_of_methodNamed B.named
  have hlocks := B.notSynchronized
  have hin : meth.name = "<init>" := (name_of_methodNamed B.named B.method).1
  subst hsz
  have hD := hD0.self (sz := s.heap.size)
  generalize hAe : va_A [(h0, .inr (8, [.null, .null, .null, .int 0]))] s.heap.size = A at hD ⊢
  have hA : ∀ q : Nat, s.heap.size ≤ q → A q := fun q h => by rw [← hAe]; exact Or.inr h
  have hS : va_S A s.heap s.heap [] := va_S.rf
  have hl := lv_entry ([.ref h0, .int 64]) (n := 3) (Nat.le_of_ble_eq_true rfl)
  rw [lg_entry_eq]
  generalize (lg_sl ([.ref h0, .int 64]) ++ List.replicate (3 - (lg_sl ([.ref h0, .int 64])).length) Slot.unset).toArray = ls at hl ⊢
  have hl : lv_has ls 3 [(0, .ref h0), (1, .int 64)] := hl
  refine lv_aload_n hx hb dX9_init_0 rfl (lv_at hl 0 rfl) ?_
  refine W.objInit hx hb hown (hts (.methodLink RX9 1 objectInit) (by decide +kernel)) (hts (.instanceMethod objectInit) (by decide +kernel)) (hts (.code objectInit ⟨#[0xb1]⟩ 1 none) (by decide +kernel)) rfl (by rw [hml]; exact hl.1) rfl dX9_init_1 (Nat.le_of_ble_eq_true rfl) (Nat.le_of_ble_eq_true rfl) ?_
  refine W.eq (g2 := F0 m 4 ls []) rfl ?_
  refine lv_aload_n hx hb dX9_init_4 rfl (lv_at hl 0 rfl) ?_
  refine lv_iconst (v := 0) hx hb dX9_init_5 (by decide) ?_
  refine va_put (D := (dC, dI)) (ci := 8) (v := .int 0) (ty := .int) (C := RX9) (T := TX9) (N := 4) hx hb hts in_X9_init_RX9 tyX9 tyX9_ok nmX9 hown hK hP hD hS 0 rfl rfl 3 (by decide) (hts (.fieldLink RX9 7 "FourTongues$Row" "count" "I") (by decide +kernel)) (fun _ h9 => h9) rfl (by decide +kernel) rfl rfl (Nat.le_of_ble_eq_true rfl) dX9_init_6 (fun H locs hP hD hS => ?_)
  have hP : va_P (dC, dI) vwCl [(h0, .inr (8, [.null, .null, .null, .int 0]))] _ := hP
  have hD : va_D A [(h0, .inr (8, [.null, .null, .null, .int 0]))] := hD
  refine lv_iload_n hx hb dX9_init_9 rfl (lv_at hl 1 rfl) ?_
  refine lv_iconst (v := 1) hx hb dX9_init_10 (by decide) ?_
  refine va_mmax hx hb (by rw [hml]; exact hl.1.symm) hown (hts (.methodLink RX9 13 Lib.Math.max.name) (by decide +kernel)) (hts (.static Lib.Math.max.name) (by decide +kernel)) (hts (.initialized "java/lang/Math") (by decide +kernel)) (hts (.code Lib.Math.max.name Lib.Math.max.code 2 (some .int)) (by decide +kernel)) (Nat.le_of_ble_eq_true rfl) (Nat.le_of_ble_eq_true rfl) (Nat.le_of_ble_eq_true rfl) (Nat.le_of_ble_eq_true rfl) dX9_init_11 ?_
  refine my_ti (v := 64) (by decide) ?_
  refine lv_istore_n (lv' := [(2, .int 64), (0, .ref h0), (1, .int 64)]) hx hb dX9_init_14 rfl hl (by decide) rfl (fun ls hl => ?_)
  refine lv_aload_n hx hb dX9_init_15 rfl (lv_at hl 1 rfl) ?_
  refine lv_iload_n hx hb dX9_init_16 rfl (lv_at hl 0 rfl) ?_
  refine va_newa (atype := .int) (ty := .int) (a0 := (64, .inl (fun _ => 0))) (N' := 64) hx hb (hts (.arrayClass .int) (by decide +kernel)) rfl hK hP hD hS hA (cz_int 64) (by decide +kernel) (by decide +kernel) (by decide +kernel) (Nat.le_of_ble_eq_true rfl) (Nat.le_of_ble_eq_true rfl) dX9_init_17 (fun q_1 cA_2 H hK hP hD hS => ?_)
  have hP : va_P (dC, dI) vwCl [(h0, .inr (8, [.null, .null, .null, .int 0])), (q_1, .inl (cA_2, 64, .inl (fun _ => 0)))] _ := hP
  have hD : va_D A [(h0, .inr (8, [.null, .null, .null, .int 0])), (q_1, .inl (cA_2, 64, .inl (fun _ => 0)))] := hD
  have hK : va_K (dC, dI) vwCl [(cA_2, .int)] s := hK
  refine W.widen (k := 1) (n := 64) (Nat.le_of_ble_eq_true rfl) (Nat.le_of_ble_eq_true rfl) ?_
  refine va_put (D := (dC, dI)) (ci := 8) (v := .ref q_1) (ty := .array .int) (C := RX9) (T := TX9) (N := 4) hx hb hts in_X9_init_RX9 tyX9 tyX9_ok nmX9 hown hK hP hD hS 0 rfl rfl 0 (by decide) (hts (.fieldLink RX9 19 "FourTongues$Row" "kinds" "[I") (by decide +kernel)) (fun _ h9 => h9) rfl (by decide +kernel) rfl rfl (Nat.le_of_ble_eq_true rfl) dX9_init_19 (fun H locs hP hD hS => ?_)
  have hP : va_P (dC, dI) vwCl [(h0, .inr (8, [.ref q_1, .null, .null, .int 0])), (q_1, .inl (cA_2, 64, .inl (fun _ => 0)))] _ := hP
  have hD : va_D A [(h0, .inr (8, [.ref q_1, .null, .null, .int 0])), (q_1, .inl (cA_2, 64, .inl (fun _ => 0)))] := hD
  refine lv_aload_n hx hb dX9_init_22 rfl (lv_at hl 1 rfl) ?_
  refine lv_iload_n hx hb dX9_init_23 rfl (lv_at hl 0 rfl) ?_
  refine va_newa (atype := .long) (ty := .long) (a0 := (64, .inr (.inl (fun _ => 0)))) (N' := 64) hx hb (hts (.arrayClass .long) (by decide +kernel)) rfl hK hP hD hS hA (cz_long 64) (by decide +kernel) (by decide +kernel) (by decide +kernel) (Nat.le_of_ble_eq_true rfl) (Nat.le_of_ble_eq_true rfl) dX9_init_24 (fun q_3 cA_4 H hK hP hD hS => ?_)
  have hP : va_P (dC, dI) vwCl [(h0, .inr (8, [.ref q_1, .null, .null, .int 0])), (q_1, .inl (cA_2, 64, .inl (fun _ => 0))), (q_3, .inl (cA_4, 64, .inr (.inl (fun _ => 0))))] _ := hP
  have hD : va_D A [(h0, .inr (8, [.ref q_1, .null, .null, .int 0])), (q_1, .inl (cA_2, 64, .inl (fun _ => 0))), (q_3, .inl (cA_4, 64, .inr (.inl (fun _ => 0))))] := hD
  have hK : va_K (dC, dI) vwCl [(cA_2, .int), (cA_4, .long)] s := hK
  refine W.widen (k := 2) (n := 128) (Nat.le_of_ble_eq_true rfl) (Nat.le_of_ble_eq_true rfl) ?_
  refine va_put (D := (dC, dI)) (ci := 8) (v := .ref q_3) (ty := .array .long) (C := RX9) (T := TX9) (N := 4) hx hb hts in_X9_init_RX9 tyX9 tyX9_ok nmX9 hown hK hP hD hS 0 rfl rfl 1 (by decide) (hts (.fieldLink RX9 23 "FourTongues$Row" "wholes" "[J") (by decide +kernel)) (fun _ h9 => h9) rfl (by decide +kernel) rfl rfl (Nat.le_of_ble_eq_true rfl) dX9_init_26 (fun H locs hP hD hS => ?_)
  have hP : va_P (dC, dI) vwCl [(h0, .inr (8, [.ref q_1, .ref q_3, .null, .int 0])), (q_1, .inl (cA_2, 64, .inl (fun _ => 0))), (q_3, .inl (cA_4, 64, .inr (.inl (fun _ => 0))))] _ := hP
  have hD : va_D A [(h0, .inr (8, [.ref q_1, .ref q_3, .null, .int 0])), (q_1, .inl (cA_2, 64, .inl (fun _ => 0))), (q_3, .inl (cA_4, 64, .inr (.inl (fun _ => 0))))] := hD
  refine lv_aload_n hx hb dX9_init_29 rfl (lv_at hl 1 rfl) ?_
  refine lv_iload_n hx hb dX9_init_30 rfl (lv_at hl 0 rfl) ?_
  refine va_newa (atype := .double) (ty := .double) (a0 := (64, .inr (.inr (.inr (.inl (fun _ => 0)))))) (N' := 64) hx hb (hts (.arrayClass .double) (by decide +kernel)) rfl hK hP hD hS hA (cz_double 64) (by decide +kernel) (by decide +kernel) (by decide +kernel) (Nat.le_of_ble_eq_true rfl) (Nat.le_of_ble_eq_true rfl) dX9_init_31 (fun q_5 cA_6 H hK hP hD hS => ?_)
  have hP : va_P (dC, dI) vwCl [(h0, .inr (8, [.ref q_1, .ref q_3, .null, .int 0])), (q_1, .inl (cA_2, 64, .inl (fun _ => 0))), (q_3, .inl (cA_4, 64, .inr (.inl (fun _ => 0)))), (q_5, .inl (cA_6, 64, .inr (.inr (.inr (.inl (fun _ => 0))))))] _ := hP
  have hD : va_D A [(h0, .inr (8, [.ref q_1, .ref q_3, .null, .int 0])), (q_1, .inl (cA_2, 64, .inl (fun _ => 0))), (q_3, .inl (cA_4, 64, .inr (.inl (fun _ => 0)))), (q_5, .inl (cA_6, 64, .inr (.inr (.inr (.inl (fun _ => 0))))))] := hD
  have hK : va_K (dC, dI) vwCl [(cA_2, .int), (cA_4, .long), (cA_6, .double)] s := hK
  refine W.widen (k := 3) (n := 192) (Nat.le_of_ble_eq_true rfl) (Nat.le_of_ble_eq_true rfl) ?_
  refine va_put (D := (dC, dI)) (ci := 8) (v := .ref q_5) (ty := .array .double) (C := RX9) (T := TX9) (N := 4) hx hb hts in_X9_init_RX9 tyX9 tyX9_ok nmX9 hown hK hP hD hS 0 rfl rfl 2 (by decide) (hts (.fieldLink RX9 27 "FourTongues$Row" "reals" "[D") (by decide +kernel)) (fun _ h9 => h9) rfl (by decide +kernel) rfl rfl (Nat.le_of_ble_eq_true rfl) dX9_init_33 (fun H locs hP hD hS => ?_)
  have hP : va_P (dC, dI) vwCl [(h0, .inr (8, [.ref q_1, .ref q_3, .ref q_5, .int 0])), (q_1, .inl (cA_2, 64, .inl (fun _ => 0))), (q_3, .inl (cA_4, 64, .inr (.inl (fun _ => 0)))), (q_5, .inl (cA_6, 64, .inr (.inr (.inr (.inl (fun _ => 0))))))] _ := hP
  have hD : va_D A [(h0, .inr (8, [.ref q_1, .ref q_3, .ref q_5, .int 0])), (q_1, .inl (cA_2, 64, .inl (fun _ => 0))), (q_3, .inl (cA_4, 64, .inr (.inl (fun _ => 0)))), (q_5, .inl (cA_6, 64, .inr (.inr (.inr (.inl (fun _ => 0))))))] := hD
  have hP9 := hP.sub (ws' := [(h0, .inr (8, [.ref q_1, .ref q_3, .ref q_5, .int 0])), (q_1, .inl (cA_2, 64, .inl (fun _ => 0))), (q_3, .inl (cA_4, 64, .inr (.inl (fun _ => 0)))), (q_5, .inl (cA_6, 64, .inr (.inr (.inr (.inl (fun _ => 0))))))]) [0, 1, 2, 3] rfl
  have hD9 := hD.sub (ws' := [(h0, .inr (8, [.ref q_1, .ref q_3, .ref q_5, .int 0])), (q_1, .inl (cA_2, 64, .inl (fun _ => 0))), (q_3, .inl (cA_4, 64, .inr (.inl (fun _ => 0)))), (q_5, .inl (cA_6, 64, .inr (.inr (.inr (.inl (fun _ => 0))))))]) [0, 1, 2, 3] (by decide) rfl
  have hK9 := hK.sub (tys' := [(cA_2, .int), (cA_4, .long), (cA_6, .double)]) [0, 1, 2] rfl
  exact W.vret hx hb hr (fun t ht hW => ⟨⟨(), rfl, trivial, ⟨q_1, cA_2, q_3, cA_4, q_5, cA_6, by rw [ht]; exact hP9, va_K.moved hW.alike hK9, hD9⟩⟩, hS.F ht⟩) hS.2.2 dX9_init_36

set_option maxHeartbeats 4000000 in
set_option maxRecDepth 100000 in
theorem k_J7_fill_53178 (l : Launch) (dC : Nat → ClassId) (dI : Nat → Nat → Nat) (sz : Nat) (h0 : Nat) (cA : ClassId) (kn : Nat) (f : Nat → Int32) (x1 : Int32) (hk : kn < 2 ^ 31) : Met l yJ7_fill_53178 wsJ7_fill_53178 ({ frames := 0, cells := 0, slots := 0, locals := 0 }) (va_Pc [.ref h0, .int x1] (fun U => xM (dC, dI) sz [(h0, .inl (cA, kn, .inl f))] [(cA, .int)] U)) (va_Qv (fun _ : Unit => True) (fun (_ : Unit) t => ∃ (f2 : Nat → Int32), (∀ j, j < kn → f2 j = x1) ∧ xB (dC, dI) [(h0, .inl (cA, kn, .inl f2))] [(cA, .int)] (va_A [(h0, .inl (cA, kn, .inl f))] sz) t) (va_A [(h0, .inl (cA, kn, .inl f))] sz)) 0 0 (va_A [(h0, .inl (cA, kn, .inl f))] sz) := by
  refine Met.ofW (cc := cJ7_fill_53178) (maxL := 4) (ret := none) (by decide) rfl ?_
  intro p e s m args below meth c s₁ B hml hv
  obtain ⟨rfl, hsz, hP, hK, hD0⟩ := hv
  have hx := B.exec
  have hb := B.bytes
  have hr := B.returns
  have hts := atoms_spec (ws := wsJ7_fill_53178) B.pre
  have hown : s.vm.findClass RJ7 = some m.cls := findClass_of_methodNamed B.named
  have hlocks := B.notSynchronized
  subst hsz
  have hD := hD0.self (sz := s.heap.size)
  generalize hAe : va_A [(h0, .inl (cA, kn, .inl f))] s.heap.size = A at hD ⊢
  have hA : ∀ q : Nat, s.heap.size ≤ q → A q := fun q h => by rw [← hAe]; exact Or.inr h
  have hS : va_S A s.heap s.heap [] := va_S.rf
  have hl := lv_entry ([.ref h0, .int x1]) (n := 4) (Nat.le_of_ble_eq_true rfl)
  rw [lg_entry_eq]
  generalize (lg_sl ([.ref h0, .int x1]) ++ List.replicate (4 - (lg_sl ([.ref h0, .int x1])).length) Slot.unset).toArray = ls at hl ⊢
  have hl : lv_has ls 4 [(0, .ref h0), (1, .int x1)] := hl
  refine lv_iconst (v := 0) hx hb dJ7_fill_53178_0 (by decide) ?_
  refine lv_istore_n (lv' := [(2, .int 0), (0, .ref h0), (1, .int x1)]) hx hb dJ7_fill_53178_1 rfl hl (by decide) rfl (fun ls hl => ?_)
  refine lv_aload_n hx hb dJ7_fill_53178_2 rfl (lv_at hl 1 rfl) ?_
  refine va_alen (v := Int32.ofNat kn) hx hb hK hP 0 0 rfl rfl rfl dJ7_fill_53178_3 ?_
  refine lv_istore_n (lv' := [(3, .int (Int32.ofNat kn)), (2, .int 0), (0, .ref h0), (1, .int x1)]) hx hb dJ7_fill_53178_4 rfl hl (by decide) rfl (fun ls hl => ?_)
  have hl : lv_has ls 4 [(3, .int (nI kn)), (2, .int (nI 0)), (0, .ref h0), (1, .int x1)] := hl
  refine my_for (I := fun i H locs ls => ∃ (g : Nat → Int32), (∀ j, j < i → g j = x1) ∧ va_P (dC, dI) vwCl [(h0, .inl (cA, kn, .inl g))] H ∧ va_D A [(h0, .inl (cA, kn, .inl g))] ∧ va_S A s.heap H locs ∧ lv_has ls 4 [(0, .ref h0), (1, .int x1), (2, .int (nI i)), (3, .int (nI kn))]) kn (fun i H locs ls hi hI ih => ?_) 0 _ _ ls (by omega) ⟨f, fun j hj => absurd hj (Nat.not_lt_zero j), hP.sub [0] rfl, hD.sub [0] (by decide) rfl, hS, lv_sub hl [2, 3, 1, 0] rfl⟩
  obtain ⟨g, hi_0, hP, hD, hS, hl⟩ := hI
  refine lv_iload_n hx hb dJ7_fill_53178_5 rfl (lv_at hl 2 rfl) ?_
  refine lv_iload_n hx hb dJ7_fill_53178_6 rfl (lv_at hl 3 rfl) ?_
  refine lv_icmp_ge (tgt := 20) hx hb dJ7_fill_53178_7 (by decide) (fun c_7 => ?_) (fun c_7 => ?_)
  · have hge : kn ≤ i := Nat.le_of_not_lt (fun q => (nI_ge q (by omega)) c_7)
    have hP9 := hP.sub (ws' := [(h0, .inl (cA, kn, .inl g))]) [0] rfl
    have hD9 := hD.sub (ws' := [(h0, .inl (cA, kn, .inl g))]) [0] (by decide) rfl
    have hK9 := hK.sub (tys' := [(cA, .int)]) [0] rfl
    exact W.vret hx hb hr (fun t ht hW => ⟨⟨(), rfl, trivial, ⟨g, fun j hj => hi_0 j (by omega), by rw [ht]; exact hP9, va_K.moved hW.alike hK9, hD9⟩⟩, hS.F ht⟩) hS.2.2 dJ7_fill_53178_20
  · have hlt : i < kn := Nat.lt_of_not_le (fun q => c_7 (nI_le q (by omega)))
    refine lv_aload_n hx hb dJ7_fill_53178_10 rfl (lv_at hl 0 rfl) ?_
    refine lv_iload_n hx hb dJ7_fill_53178_11 rfl (lv_at hl 2 rfl) ?_
    refine lv_iload_n hx hb dJ7_fill_53178_12 rfl (lv_at hl 1 rfl) ?_
    refine va_iast hx hb hK hP hD hS 0 0 rfl rfl (vp_in_nI hlt hk) dJ7_fill_53178_13 (fun H locs hP hD hS => ?_)
    obtain ⟨f_1, ef_1⟩ : ∃ y : Nat → Int32, y = upd g ((nI i : Int32).toNatClampNeg) x1 := ⟨_, rfl⟩
    rw [← ef_1] at hP hD
    have hP : va_P (dC, dI) vwCl [(h0, .inl (cA, kn, .inl f_1))] _ := hP
    have hD : va_D A [(h0, .inl (cA, kn, .inl f_1))] := hD
    refine lv_iinc (v := nI (i + 1)) (lv' := [(2, .int (nI (i + 1))), (0, .ref h0), (1, .int x1), (3, .int (nI kn))]) hx hb dJ7_fill_53178_14 hl (k := 2) rfl (by exact nI_1 i) (by decide) rfl (fun ls hl => ?_)
    refine lv_goto (tgt := 5) hx hb dJ7_fill_53178_17 (by decide) ?_
    have hn : ∀ j, j < i + 1 → f_1 j = x1 := by
      intro j hj
      rw [ef_1, upd]
      by_cases hq : j = (nI i).toNatClampNeg
      · rw [if_pos hq]
      · rw [if_neg hq]; rw [nI_clamp (by omega)] at hq; exact hi_0 j (by omega)
    exact ih hlt _ _ _ ⟨f_1, hn, hP.sub [0] rfl, hD.sub [0] (by decide) rfl, hS, lv_sub hl [1, 2, 0, 3] rfl⟩

set_option maxHeartbeats 4000000 in
set_option maxRecDepth 100000 in
theorem c_X0_init (l : Launch) (dC : Nat → ClassId) (dI : Nat → Nat → Nat) (sz : Nat) (h0 : Nat) : Met l yX0_init wsX0_init ({ frames := 1, cells := 5, slots := 332, locals := 24 }) (va_Pc [.ref h0] (fun U => xM (dC, dI) sz [(h0, .inr (0, [.null, .null, .null, .null, .null, .int 0]))] [] U)) (va_Qv (fun _ : Unit => True) (fun (_ : Unit) t => ∃ (q_1 : Nat), ∃ (cA_2 : ClassId), ∃ (q_3 : Nat), ∃ (cA_4 : ClassId), ∃ (q_5 : Nat), ∃ (cA_6 : ClassId), ∃ (q_7 : Nat), ∃ (cA_8 : ClassId), ∃ (q_9 : Nat), ∃ (cA_10 : ClassId), ∃ (f_11 : Nat → Int32), xB (dC, dI) [(h0, .inr (0, [.ref q_1, .ref q_3, .ref q_5, .ref q_7, .ref q_9, .int 0])), (q_1, .inl (cA_2, 16, .inl (fun _ => 0))), (q_5, .inl (cA_6, 100, .inl (fun _ => 0))), (q_7, .inl (cA_8, 100, .inl (fun _ => 0))), (q_9, .inl (cA_10, 100, .inl (fun _ => 0))), (q_3, .inl (cA_4, 16, .inl f_11))] [(cA_2, .int), (cA_4, .int), (cA_6, .int), (cA_8, .int), (cA_10, .int), (cA_4, .int)] (va_A [(h0, .inr (0, [.null, .null, .null, .null, .null, .int 0]))] sz) t) (va_A [(h0, .inr (0, [.null, .null, .null, .null, .null, .int 0]))] sz)) 5 332 (va_A [(h0, .inr (0, [.null, .null, .null, .null, .null, .int 0]))] sz) := by
  refine Met.ofW (cc := cX0_init) (maxL := 1) (ret := none) (by decide) rfl ?_
  intro p e s m args below meth c s₁ B hml hv
  obtain ⟨rfl, hsz, hP, hK, hD0⟩ := hv
  have hx := B.exec
  have hb := B.bytes
  have hr := B.returns
  have hts := atoms_spec (ws := wsX0_init) B.pre
  have hown : s.vm.findClass RX0 = some m.cls := findClass_of_methodNamed B.named
  have hlocks := B.notSynchronized
  have hin : meth.name = "<init>" := (name_of_methodNamed B.named B.method).1
  subst hsz
  have hD := hD0.self (sz := s.heap.size)
  generalize hAe : va_A [(h0, .inr (0, [.null, .null, .null, .null, .null, .int 0]))] s.heap.size = A at hD ⊢
  have hA : ∀ q : Nat, s.heap.size ≤ q → A q := fun q h => by rw [← hAe]; exact Or.inr h
  have hS : va_S A s.heap s.heap [] := va_S.rf
  have hl := lv_entry ([.ref h0]) (n := 1) (Nat.le_of_ble_eq_true rfl)
  rw [lg_entry_eq]
  generalize (lg_sl ([.ref h0]) ++ List.replicate (1 - (lg_sl ([.ref h0])).length) Slot.unset).toArray = ls at hl ⊢
  have hl : lv_has ls 1 [(0, .ref h0)] := hl
  refine lv_aload_n hx hb dX0_init_0 rfl (lv_at hl 0 rfl) ?_
  refine W.objInit hx hb hown (hts (.methodLink RX0 3 objectInit) (by decide +kernel)) (hts (.instanceMethod objectInit) (by decide +kernel)) (hts (.code objectInit ⟨#[0xb1]⟩ 1 none) (by decide +kernel)) rfl (by rw [hml]; exact hl.1) rfl dX0_init_1 (Nat.le_of_ble_eq_true rfl) (Nat.le_of_ble_eq_true rfl) ?_
  refine W.eq (g2 := F0 m 4 ls []) rfl ?_
  refine lv_aload_n hx hb dX0_init_4 rfl (lv_at hl 0 rfl) ?_
  refine lv_bipush (v := 16) hx hb dX0_init_5 (by decide) ?_
  refine va_newa (atype := .int) (ty := .int) (a0 := (16, .inl (fun _ => 0))) (N' := 16) hx hb (hts (.arrayClass .int) (by decide +kernel)) rfl hK hP hD hS hA (cz_int 16) (by decide +kernel) (by decide +kernel) (by decide +kernel) (Nat.le_of_ble_eq_true rfl) (Nat.le_of_ble_eq_true rfl) dX0_init_7 (fun q_1 cA_2 H hK hP hD hS => ?_)
  have hP : va_P (dC, dI) vwCl [(h0, .inr (0, [.null, .null, .null, .null, .null, .int 0])), (q_1, .inl (cA_2, 16, .inl (fun _ => 0)))] _ := hP
  have hD : va_D A [(h0, .inr (0, [.null, .null, .null, .null, .null, .int 0])), (q_1, .inl (cA_2, 16, .inl (fun _ => 0)))] := hD
  have hK : va_K (dC, dI) vwCl [(cA_2, .int)] s := hK
  refine W.widen (k := 1) (n := 16) (Nat.le_of_ble_eq_true rfl) (Nat.le_of_ble_eq_true rfl) ?_
  refine va_putF (D := (dC, dI)) (ci := 0) (v := .ref q_1) (ty := .array .int) (C := RX0) (T := TX0) (N := 6) hx hb hts in_X0_init_RX0 tyX0 tyX0_ok nmX0 hown hK hP hD hS 0 rfl rfl 0 (by decide) (hts (.fieldLink RX0 9 "FourTongues$Borders" "rules" "[I") (by decide +kernel)) (fun _ h9 => h9) rfl hin rfl (by decide +kernel) rfl rfl (Nat.le_of_ble_eq_true rfl) dX0_init_9 (fun H locs hP hD hS => ?_)
  have hP : va_P (dC, dI) vwCl [(h0, .inr (0, [.ref q_1, .null, .null, .null, .null, .int 0])), (q_1, .inl (cA_2, 16, .inl (fun _ => 0)))] _ := hP
  have hD : va_D A [(h0, .inr (0, [.ref q_1, .null, .null, .null, .null, .int 0])), (q_1, .inl (cA_2, 16, .inl (fun _ => 0)))] := hD
  refine lv_aload_n hx hb dX0_init_12 rfl (lv_at hl 0 rfl) ?_
  refine lv_bipush (v := 16) hx hb dX0_init_13 (by decide) ?_
  refine va_newa (atype := .int) (ty := .int) (a0 := (16, .inl (fun _ => 0))) (N' := 16) hx hb (hts (.arrayClass .int) (by decide +kernel)) rfl hK hP hD hS hA (cz_int 16) (by decide +kernel) (by decide +kernel) (by decide +kernel) (Nat.le_of_ble_eq_true rfl) (Nat.le_of_ble_eq_true rfl) dX0_init_15 (fun q_3 cA_4 H hK hP hD hS => ?_)
  have hP : va_P (dC, dI) vwCl [(h0, .inr (0, [.ref q_1, .null, .null, .null, .null, .int 0])), (q_1, .inl (cA_2, 16, .inl (fun _ => 0))), (q_3, .inl (cA_4, 16, .inl (fun _ => 0)))] _ := hP
  have hD : va_D A [(h0, .inr (0, [.ref q_1, .null, .null, .null, .null, .int 0])), (q_1, .inl (cA_2, 16, .inl (fun _ => 0))), (q_3, .inl (cA_4, 16, .inl (fun _ => 0)))] := hD
  have hK : va_K (dC, dI) vwCl [(cA_2, .int), (cA_4, .int)] s := hK
  refine W.widen (k := 2) (n := 32) (Nat.le_of_ble_eq_true rfl) (Nat.le_of_ble_eq_true rfl) ?_
  refine va_putF (D := (dC, dI)) (ci := 0) (v := .ref q_3) (ty := .array .int) (C := RX0) (T := TX0) (N := 6) hx hb hts in_X0_init_RX0 tyX0 tyX0_ok nmX0 hown hK hP hD hS 0 rfl rfl 1 (by decide) (hts (.fieldLink RX0 15 "FourTongues$Borders" "defaults" "[I") (by decide +kernel)) (fun _ h9 => h9) rfl hin rfl (by decide +kernel) rfl rfl (Nat.le_of_ble_eq_true rfl) dX0_init_17 (fun H locs hP hD hS => ?_)
  have hP : va_P (dC, dI) vwCl [(h0, .inr (0, [.ref q_1, .ref q_3, .null, .null, .null, .int 0])), (q_1, .inl (cA_2, 16, .inl (fun _ => 0))), (q_3, .inl (cA_4, 16, .inl (fun _ => 0)))] _ := hP
  have hD : va_D A [(h0, .inr (0, [.ref q_1, .ref q_3, .null, .null, .null, .int 0])), (q_1, .inl (cA_2, 16, .inl (fun _ => 0))), (q_3, .inl (cA_4, 16, .inl (fun _ => 0)))] := hD
  refine lv_aload_n hx hb dX0_init_20 rfl (lv_at hl 0 rfl) ?_
  refine lv_bipush (v := 100) hx hb dX0_init_21 (by decide) ?_
  refine va_newa (atype := .int) (ty := .int) (a0 := (100, .inl (fun _ => 0))) (N' := 100) hx hb (hts (.arrayClass .int) (by decide +kernel)) rfl hK hP hD hS hA (cz_int 100) (by decide +kernel) (by decide +kernel) (by decide +kernel) (Nat.le_of_ble_eq_true rfl) (Nat.le_of_ble_eq_true rfl) dX0_init_23 (fun q_5 cA_6 H hK hP hD hS => ?_)
  have hP : va_P (dC, dI) vwCl [(h0, .inr (0, [.ref q_1, .ref q_3, .null, .null, .null, .int 0])), (q_1, .inl (cA_2, 16, .inl (fun _ => 0))), (q_3, .inl (cA_4, 16, .inl (fun _ => 0))), (q_5, .inl (cA_6, 100, .inl (fun _ => 0)))] _ := hP
  have hD : va_D A [(h0, .inr (0, [.ref q_1, .ref q_3, .null, .null, .null, .int 0])), (q_1, .inl (cA_2, 16, .inl (fun _ => 0))), (q_3, .inl (cA_4, 16, .inl (fun _ => 0))), (q_5, .inl (cA_6, 100, .inl (fun _ => 0)))] := hD
  have hK : va_K (dC, dI) vwCl [(cA_2, .int), (cA_4, .int), (cA_6, .int)] s := hK
  refine W.widen (k := 3) (n := 132) (Nat.le_of_ble_eq_true rfl) (Nat.le_of_ble_eq_true rfl) ?_
  refine va_putF (D := (dC, dI)) (ci := 0) (v := .ref q_5) (ty := .array .int) (C := RX0) (T := TX0) (N := 6) hx hb hts in_X0_init_RX0 tyX0 tyX0_ok nmX0 hown hK hP hD hS 0 rfl rfl 2 (by decide) (hts (.fieldLink RX0 18 "FourTongues$Borders" "entryBorders" "[I") (by decide +kernel)) (fun _ h9 => h9) rfl hin rfl (by decide +kernel) rfl rfl (Nat.le_of_ble_eq_true rfl) dX0_init_25 (fun H locs hP hD hS => ?_)
  have hP : va_P (dC, dI) vwCl [(h0, .inr (0, [.ref q_1, .ref q_3, .ref q_5, .null, .null, .int 0])), (q_1, .inl (cA_2, 16, .inl (fun _ => 0))), (q_3, .inl (cA_4, 16, .inl (fun _ => 0))), (q_5, .inl (cA_6, 100, .inl (fun _ => 0)))] _ := hP
  have hD : va_D A [(h0, .inr (0, [.ref q_1, .ref q_3, .ref q_5, .null, .null, .int 0])), (q_1, .inl (cA_2, 16, .inl (fun _ => 0))), (q_3, .inl (cA_4, 16, .inl (fun _ => 0))), (q_5, .inl (cA_6, 100, .inl (fun _ => 0)))] := hD
  refine lv_aload_n hx hb dX0_init_28 rfl (lv_at hl 0 rfl) ?_
  refine lv_bipush (v := 100) hx hb dX0_init_29 (by decide) ?_
  refine va_newa (atype := .int) (ty := .int) (a0 := (100, .inl (fun _ => 0))) (N' := 100) hx hb (hts (.arrayClass .int) (by decide +kernel)) rfl hK hP hD hS hA (cz_int 100) (by decide +kernel) (by decide +kernel) (by decide +kernel) (Nat.le_of_ble_eq_true rfl) (Nat.le_of_ble_eq_true rfl) dX0_init_31 (fun q_7 cA_8 H hK hP hD hS => ?_)
  have hP : va_P (dC, dI) vwCl [(h0, .inr (0, [.ref q_1, .ref q_3, .ref q_5, .null, .null, .int 0])), (q_1, .inl (cA_2, 16, .inl (fun _ => 0))), (q_3, .inl (cA_4, 16, .inl (fun _ => 0))), (q_5, .inl (cA_6, 100, .inl (fun _ => 0))), (q_7, .inl (cA_8, 100, .inl (fun _ => 0)))] _ := hP
  have hD : va_D A [(h0, .inr (0, [.ref q_1, .ref q_3, .ref q_5, .null, .null, .int 0])), (q_1, .inl (cA_2, 16, .inl (fun _ => 0))), (q_3, .inl (cA_4, 16, .inl (fun _ => 0))), (q_5, .inl (cA_6, 100, .inl (fun _ => 0))), (q_7, .inl (cA_8, 100, .inl (fun _ => 0)))] := hD
  have hK : va_K (dC, dI) vwCl [(cA_2, .int), (cA_4, .int), (cA_6, .int), (cA_8, .int)] s := hK
  refine W.widen (k := 4) (n := 232) (Nat.le_of_ble_eq_true rfl) (Nat.le_of_ble_eq_true rfl) ?_
  refine va_putF (D := (dC, dI)) (ci := 0) (v := .ref q_7) (ty := .array .int) (C := RX0) (T := TX0) (N := 6) hx hb hts in_X0_init_RX0 tyX0 tyX0_ok nmX0 hown hK hP hD hS 0 rfl rfl 3 (by decide) (hts (.fieldLink RX0 21 "FourTongues$Borders" "entryWhats" "[I") (by decide +kernel)) (fun _ h9 => h9) rfl hin rfl (by decide +kernel) rfl rfl (Nat.le_of_ble_eq_true rfl) dX0_init_33 (fun H locs hP hD hS => ?_)
  have hP : va_P (dC, dI) vwCl [(h0, .inr (0, [.ref q_1, .ref q_3, .ref q_5, .ref q_7, .null, .int 0])), (q_1, .inl (cA_2, 16, .inl (fun _ => 0))), (q_3, .inl (cA_4, 16, .inl (fun _ => 0))), (q_5, .inl (cA_6, 100, .inl (fun _ => 0))), (q_7, .inl (cA_8, 100, .inl (fun _ => 0)))] _ := hP
  have hD : va_D A [(h0, .inr (0, [.ref q_1, .ref q_3, .ref q_5, .ref q_7, .null, .int 0])), (q_1, .inl (cA_2, 16, .inl (fun _ => 0))), (q_3, .inl (cA_4, 16, .inl (fun _ => 0))), (q_5, .inl (cA_6, 100, .inl (fun _ => 0))), (q_7, .inl (cA_8, 100, .inl (fun _ => 0)))] := hD
  refine lv_aload_n hx hb dX0_init_36 rfl (lv_at hl 0 rfl) ?_
  refine lv_bipush (v := 100) hx hb dX0_init_37 (by decide) ?_
  refine va_newa (atype := .int) (ty := .int) (a0 := (100, .inl (fun _ => 0))) (N' := 100) hx hb (hts (.arrayClass .int) (by decide +kernel)) rfl hK hP hD hS hA (cz_int 100) (by decide +kernel) (by decide +kernel) (by decide +kernel) (Nat.le_of_ble_eq_true rfl) (Nat.le_of_ble_eq_true rfl) dX0_init_39 (fun q_9 cA_10 H hK hP hD hS => ?_)
  have hP : va_P (dC, dI) vwCl [(h0, .inr (0, [.ref q_1, .ref q_3, .ref q_5, .ref q_7, .null, .int 0])), (q_1, .inl (cA_2, 16, .inl (fun _ => 0))), (q_3, .inl (cA_4, 16, .inl (fun _ => 0))), (q_5, .inl (cA_6, 100, .inl (fun _ => 0))), (q_7, .inl (cA_8, 100, .inl (fun _ => 0))), (q_9, .inl (cA_10, 100, .inl (fun _ => 0)))] _ := hP
  have hD : va_D A [(h0, .inr (0, [.ref q_1, .ref q_3, .ref q_5, .ref q_7, .null, .int 0])), (q_1, .inl (cA_2, 16, .inl (fun _ => 0))), (q_3, .inl (cA_4, 16, .inl (fun _ => 0))), (q_5, .inl (cA_6, 100, .inl (fun _ => 0))), (q_7, .inl (cA_8, 100, .inl (fun _ => 0))), (q_9, .inl (cA_10, 100, .inl (fun _ => 0)))] := hD
  have hK : va_K (dC, dI) vwCl [(cA_2, .int), (cA_4, .int), (cA_6, .int), (cA_8, .int), (cA_10, .int)] s := hK
  refine W.widen (k := 5) (n := 332) (Nat.le_of_ble_eq_true rfl) (Nat.le_of_ble_eq_true rfl) ?_
  refine va_putF (D := (dC, dI)) (ci := 0) (v := .ref q_9) (ty := .array .int) (C := RX0) (T := TX0) (N := 6) hx hb hts in_X0_init_RX0 tyX0 tyX0_ok nmX0 hown hK hP hD hS 0 rfl rfl 4 (by decide) (hts (.fieldLink RX0 24 "FourTongues$Borders" "entryAs" "[I") (by decide +kernel)) (fun _ h9 => h9) rfl hin rfl (by decide +kernel) rfl rfl (Nat.le_of_ble_eq_true rfl) dX0_init_41 (fun H locs hP hD hS => ?_)
  have hP : va_P (dC, dI) vwCl [(h0, .inr (0, [.ref q_1, .ref q_3, .ref q_5, .ref q_7, .ref q_9, .int 0])), (q_1, .inl (cA_2, 16, .inl (fun _ => 0))), (q_3, .inl (cA_4, 16, .inl (fun _ => 0))), (q_5, .inl (cA_6, 100, .inl (fun _ => 0))), (q_7, .inl (cA_8, 100, .inl (fun _ => 0))), (q_9, .inl (cA_10, 100, .inl (fun _ => 0)))] _ := hP
  have hD : va_D A [(h0, .inr (0, [.ref q_1, .ref q_3, .ref q_5, .ref q_7, .ref q_9, .int 0])), (q_1, .inl (cA_2, 16, .inl (fun _ => 0))), (q_3, .inl (cA_4, 16, .inl (fun _ => 0))), (q_5, .inl (cA_6, 100, .inl (fun _ => 0))), (q_7, .inl (cA_8, 100, .inl (fun _ => 0))), (q_9, .inl (cA_10, 100, .inl (fun _ => 0)))] := hD
  refine lv_aload_n hx hb dX0_init_44 rfl (lv_at hl 0 rfl) ?_
  refine lv_iconst (v := 0) hx hb dX0_init_45 (by decide) ?_
  refine va_put (D := (dC, dI)) (ci := 0) (v := .int 0) (ty := .int) (C := RX0) (T := TX0) (N := 6) hx hb hts in_X0_init_RX0 tyX0 tyX0_ok nmX0 hown hK hP hD hS 0 rfl rfl 5 (by decide) (hts (.fieldLink RX0 27 "FourTongues$Borders" "entries" "I") (by decide +kernel)) (fun _ h9 => h9) rfl (by decide +kernel) rfl rfl (Nat.le_of_ble_eq_true rfl) dX0_init_46 (fun H locs hP hD hS => ?_)
  have hP : va_P (dC, dI) vwCl [(h0, .inr (0, [.ref q_1, .ref q_3, .ref q_5, .ref q_7, .ref q_9, .int 0])), (q_1, .inl (cA_2, 16, .inl (fun _ => 0))), (q_3, .inl (cA_4, 16, .inl (fun _ => 0))), (q_5, .inl (cA_6, 100, .inl (fun _ => 0))), (q_7, .inl (cA_8, 100, .inl (fun _ => 0))), (q_9, .inl (cA_10, 100, .inl (fun _ => 0)))] _ := hP
  have hD : va_D A [(h0, .inr (0, [.ref q_1, .ref q_3, .ref q_5, .ref q_7, .ref q_9, .int 0])), (q_1, .inl (cA_2, 16, .inl (fun _ => 0))), (q_3, .inl (cA_4, 16, .inl (fun _ => 0))), (q_5, .inl (cA_6, 100, .inl (fun _ => 0))), (q_7, .inl (cA_8, 100, .inl (fun _ => 0))), (q_9, .inl (cA_10, 100, .inl (fun _ => 0)))] := hD
  refine lv_aload_n hx hb dX0_init_49 rfl (lv_at hl 0 rfl) ?_
  refine va_get (D := (dC, dI)) (ci := 0) (v := .ref q_3) (C := RX0) (T := TX0) (N := 6) hx hb hts in_X0_init_RX0 hown hK hP 0 rfl rfl 1 (by decide) (hts (.fieldLink RX0 15 "FourTongues$Borders" "defaults" "[I") (by decide +kernel)) (fun _ h9 => h9) rfl dX0_init_50 ?_
  refine lv_bipush (v := 9) hx hb dX0_init_53 (by decide) ?_
  have hPc := hP.sub (ws' := [(q_3, .inl (cA_4, 16, .inl (fun _ => 0)))]) [2] rfl
  have hDc := hD.sub (ws' := [(q_3, .inl (cA_4, 16, .inl (fun _ => 0)))]) [2] (by decide) rfl
  have hKc := hK.sub (tys' := [(cA_4, .int)]) [1] rfl
  have hFc := va_free (wc := [(q_3, .inl (cA_4, 16, .inl (fun _ => 0)))]) hD hS hA [2] rfl
  refine va_callv (va_runS (As := [.ref q_3, .int 9]) (rest := []) ⟨hx, hb, hml, hown, hts⟩ (k_J7_fill_53178 l dC dI H.size q_3 cA_4 16 (fun _ => 0) 9 (by decide)) (va_cwS 2 hts gX0_init_J7_fill_53178 rfl rfl rfl (by decide +kernel) ⟨Nat.le_of_ble_eq_true rfl, Nat.le_of_ble_eq_true rfl⟩) ⟨fb_M, fun U hU hW => ⟨rfl, xM.at hPc hKc hDc hU hW⟩⟩ rfl rfl hl.1 rfl (lv_room (Nat.le_of_ble_eq_true rfl)) dX0_init_55 ⟨Nat.le_of_ble_eq_true rfl, Nat.le_of_ble_eq_true rfl⟩) hS (fun q _ h => hFc q h) hFc (fun u t H locs ht hvm hw hB hz1 hk1 hS => ?_)
  obtain ⟨f_11, hf_12, hB⟩ := hB
  obtain ⟨hP, hD, hK⟩ := xB.join (wr := [(h0, .inr (0, [.ref q_1, .ref q_3, .ref q_5, .ref q_7, .ref q_9, .int 0])), (q_1, .inl (cA_2, 16, .inl (fun _ => 0))), (q_5, .inl (cA_6, 100, .inl (fun _ => 0))), (q_7, .inl (cA_8, 100, .inl (fun _ => 0))), (q_9, .inl (cA_10, 100, .inl (fun _ => 0)))]) (w1 := [(q_3, .inl (cA_4, 16, .inl f_11))]) hP hD hK [2] [0, 1, 3, 4, 5] rfl rfl (by decide) (by decide) hk1 hFc hB ht hvm
  have hP : va_P (dC, dI) vwCl [(h0, .inr (0, [.ref q_1, .ref q_3, .ref q_5, .ref q_7, .ref q_9, .int 0])), (q_1, .inl (cA_2, 16, .inl (fun _ => 0))), (q_5, .inl (cA_6, 100, .inl (fun _ => 0))), (q_7, .inl (cA_8, 100, .inl (fun _ => 0))), (q_9, .inl (cA_10, 100, .inl (fun _ => 0))), (q_3, .inl (cA_4, 16, .inl f_11))] _ := hP
  have hD : va_D A [(h0, .inr (0, [.ref q_1, .ref q_3, .ref q_5, .ref q_7, .ref q_9, .int 0])), (q_1, .inl (cA_2, 16, .inl (fun _ => 0))), (q_5, .inl (cA_6, 100, .inl (fun _ => 0))), (q_7, .inl (cA_8, 100, .inl (fun _ => 0))), (q_9, .inl (cA_10, 100, .inl (fun _ => 0))), (q_3, .inl (cA_4, 16, .inl f_11))] := hD
  have hK : va_K (dC, dI) vwCl [(cA_2, .int), (cA_4, .int), (cA_6, .int), (cA_8, .int), (cA_10, .int), (cA_4, .int)] s := hK
  have hP9 := hP.sub (ws' := [(h0, .inr (0, [.ref q_1, .ref q_3, .ref q_5, .ref q_7, .ref q_9, .int 0])), (q_1, .inl (cA_2, 16, .inl (fun _ => 0))), (q_5, .inl (cA_6, 100, .inl (fun _ => 0))), (q_7, .inl (cA_8, 100, .inl (fun _ => 0))), (q_9, .inl (cA_10, 100, .inl (fun _ => 0))), (q_3, .inl (cA_4, 16, .inl f_11))]) [0, 1, 2, 3, 4, 5] rfl
  have hD9 := hD.sub (ws' := [(h0, .inr (0, [.ref q_1, .ref q_3, .ref q_5, .ref q_7, .ref q_9, .int 0])), (q_1, .inl (cA_2, 16, .inl (fun _ => 0))), (q_5, .inl (cA_6, 100, .inl (fun _ => 0))), (q_7, .inl (cA_8, 100, .inl (fun _ => 0))), (q_9, .inl (cA_10, 100, .inl (fun _ => 0))), (q_3, .inl (cA_4, 16, .inl f_11))]) [0, 1, 2, 3, 4, 5] (by decide) rfl
  have hK9 := hK.sub (tys' := [(cA_2, .int), (cA_4, .int), (cA_6, .int), (cA_8, .int), (cA_10, .int), (cA_4, .int)]) [0, 1, 2, 3, 4, 1] rfl
  exact W.vret hx hb hr (fun t ht hW => ⟨⟨(), rfl, trivial, ⟨q_1, cA_2, q_3, cA_4, q_5, cA_6, q_7, cA_8, q_9, cA_10, f_11, by rw [ht]; exact hP9, va_K.moved hW.alike hK9, hD9⟩⟩, hS.F ht⟩) hS.2.2 dX0_init_58

set_option maxHeartbeats 4000000 in
set_option maxRecDepth 100000 in
theorem c_X8_init (l : Launch) (dC : Nat → ClassId) (dI : Nat → Nat → Nat) (sz : Nat) (h0 : Nat) : Met l yX8_init wsX8_init ({ frames := 2, cells := 9, slots := 1284, locals := 46 }) (va_Pc [.ref h0] (fun U => xM (dC, dI) sz [(h0, .inr (7, [.null, .int 0, .null, .null, .null, .null, .null, .int 0]))] [] U)) (va_Qv (fun _ : Unit => True) (fun (_ : Unit) t => ∃ (q_1 : Nat), ∃ (cA_2 : ClassId), ∃ (q_3 : Nat), ∃ (q_4 : Nat), ∃ (cA_5 : ClassId), ∃ (q_6 : Nat), ∃ (cA_7 : ClassId), ∃ (q_8 : Nat), ∃ (cA_9 : ClassId), ∃ (q_10 : Nat), ∃ (cA_11 : ClassId), ∃ (q_12 : Nat), ∃ (cA_13 : ClassId), ∃ (q_14 : Nat), ∃ (cA_15 : ClassId), ∃ (q_16 : Nat), ∃ (cA_17 : ClassId), xB (dC, dI) [(h0, .inr (7, [.ref q_1, .int 0, .ref q_3, .ref q_10, .ref q_12, .ref q_14, .ref q_16, .int 0])), (q_1, .inl (cA_2, 1024, .inl (fun _ => 0))), (q_3, .inr (8, [.ref q_4, .ref q_6, .ref q_8, .int 0])), (q_4, .inl (cA_5, 32, .inl (fun _ => 0))), (q_6, .inl (cA_7, 32, .inr (.inl (fun _ => 0)))), (q_8, .inl (cA_9, 32, .inr (.inr (.inr (.inl (fun _ => 0)))))), (q_10, .inl (cA_11, 40, .inr (.inl (fun _ => 0)))), (q_12, .inl (cA_13, 40, .inl (fun _ => 0))), (q_14, .inl (cA_15, 40, .inl (fun _ => 0))), (q_16, .inl (cA_17, 40, .inl (fun _ => 0)))] [(cA_2, .int), (cA_5, .int), (cA_7, .long), (cA_9, .double), (cA_11, .long), (cA_13, .int), (cA_15, .int), (cA_17, .int)] (va_A [(h0, .inr (7, [.null, .int 0, .null, .null, .null, .null, .null, .int 0]))] sz) t) (va_A [(h0, .inr (7, [.null, .int 0, .null, .null, .null, .null, .null, .int 0]))] sz)) 9 1284 (va_A [(h0, .inr (7, [.null, .int 0, .null, .null, .null, .null, .null, .int 0]))] sz) := by
  refine Met.ofW (cc := cX8_init) (maxL := 1) (ret := none) (by decide) rfl ?_
  intro p e s m args below meth c s₁ B hml hv
  obtain ⟨rfl, hsz, hP, hK, hD0⟩ := hv
  have hx := B.exec
  have hb := B.bytes
  have hr := B.returns
  have hts := atoms_spec (ws := wsX8_init) B.pre
  have hown : s.vm.findClass RX8 = some m.cls := findClass_of_methodNamed B.named
  have hlocks := B.notSynchronized
  have hin : meth.name = "<init>" := (name_of_methodNamed B.named B.method).1
  subst hsz
  have hD := hD0.self (sz := s.heap.size)
  generalize hAe : va_A [(h0, .inr (7, [.null, .int 0, .null, .null, .null, .null, .null, .int 0]))] s.heap.size = A at hD ⊢
  have hA : ∀ q : Nat, s.heap.size ≤ q → A q := fun q h => by rw [← hAe]; exact Or.inr h
  have hS : va_S A s.heap s.heap [] := va_S.rf
  have hl := lv_entry ([.ref h0]) (n := 1) (Nat.le_of_ble_eq_true rfl)
  rw [lg_entry_eq]
  generalize (lg_sl ([.ref h0]) ++ List.replicate (1 - (lg_sl ([.ref h0])).length) Slot.unset).toArray = ls at hl ⊢
  have hl : lv_has ls 1 [(0, .ref h0)] := hl
  refine lv_aload_n hx hb dX8_init_0 rfl (lv_at hl 0 rfl) ?_
  refine W.objInit hx hb hown (hts (.methodLink RX8 1 objectInit) (by decide +kernel)) (hts (.instanceMethod objectInit) (by decide +kernel)) (hts (.code objectInit ⟨#[0xb1]⟩ 1 none) (by decide +kernel)) rfl (by rw [hml]; exact hl.1) rfl dX8_init_1 (Nat.le_of_ble_eq_true rfl) (Nat.le_of_ble_eq_true rfl) ?_
  refine W.eq (g2 := F0 m 4 ls []) rfl ?_
  refine lv_aload_n hx hb dX8_init_4 rfl (lv_at hl 0 rfl) ?_
  refine lv_sipush (v := 1024) hx hb dX8_init_5 (by decide) ?_
  refine va_newa (atype := .int) (ty := .int) (a0 := (1024, .inl (fun _ => 0))) (N' := 1024) hx hb (hts (.arrayClass .int) (by decide +kernel)) rfl hK hP hD hS hA (cz_int 1024) (by decide +kernel) (by decide +kernel) (by decide +kernel) (Nat.le_of_ble_eq_true rfl) (Nat.le_of_ble_eq_true rfl) dX8_init_8 (fun q_1 cA_2 H hK hP hD hS => ?_)
  have hP : va_P (dC, dI) vwCl [(h0, .inr (7, [.null, .int 0, .null, .null, .null, .null, .null, .int 0])), (q_1, .inl (cA_2, 1024, .inl (fun _ => 0)))] _ := hP
  have hD : va_D A [(h0, .inr (7, [.null, .int 0, .null, .null, .null, .null, .null, .int 0])), (q_1, .inl (cA_2, 1024, .inl (fun _ => 0)))] := hD
  have hK : va_K (dC, dI) vwCl [(cA_2, .int)] s := hK
  refine W.widen (k := 1) (n := 1024) (Nat.le_of_ble_eq_true rfl) (Nat.le_of_ble_eq_true rfl) ?_
  refine va_put (D := (dC, dI)) (ci := 7) (v := .ref q_1) (ty := .array .int) (C := RX8) (T := TX8) (N := 8) hx hb hts in_X8_init_RX8 tyX8 tyX8_ok nmX8 hown hK hP hD hS 0 rfl rfl 0 (by decide) (hts (.fieldLink RX8 7 "FourTongues$Program" "code" "[I") (by decide +kernel)) (fun _ h9 => h9) rfl (by decide +kernel) rfl rfl (Nat.le_of_ble_eq_true rfl) dX8_init_10 (fun H locs hP hD hS => ?_)
  have hP : va_P (dC, dI) vwCl [(h0, .inr (7, [.ref q_1, .int 0, .null, .null, .null, .null, .null, .int 0])), (q_1, .inl (cA_2, 1024, .inl (fun _ => 0)))] _ := hP
  have hD : va_D A [(h0, .inr (7, [.ref q_1, .int 0, .null, .null, .null, .null, .null, .int 0])), (q_1, .inl (cA_2, 1024, .inl (fun _ => 0)))] := hD
  refine lv_aload_n hx hb dX8_init_13 rfl (lv_at hl 0 rfl) ?_
  refine lv_iconst (v := 0) hx hb dX8_init_14 (by decide) ?_
  refine va_put (D := (dC, dI)) (ci := 7) (v := .int 0) (ty := .int) (C := RX8) (T := TX8) (N := 8) hx hb hts in_X8_init_RX8 tyX8 tyX8_ok nmX8 hown hK hP hD hS 0 rfl rfl 1 (by decide) (hts (.fieldLink RX8 13 "FourTongues$Program" "length" "I") (by decide +kernel)) (fun _ h9 => h9) rfl (by decide +kernel) rfl rfl (Nat.le_of_ble_eq_true rfl) dX8_init_15 (fun H locs hP hD hS => ?_)
  have hP : va_P (dC, dI) vwCl [(h0, .inr (7, [.ref q_1, .int 0, .null, .null, .null, .null, .null, .int 0])), (q_1, .inl (cA_2, 1024, .inl (fun _ => 0)))] _ := hP
  have hD : va_D A [(h0, .inr (7, [.ref q_1, .int 0, .null, .null, .null, .null, .null, .int 0])), (q_1, .inl (cA_2, 1024, .inl (fun _ => 0)))] := hD
  refine lv_aload_n hx hb dX8_init_18 rfl (lv_at hl 0 rfl) ?_
  refine va_new (ci := 8) (fs := [.null, .null, .null, .int 0]) (C := RX9) (T := TX9) (N := 4) hx hb hts in_X8_init_RX9 tyX9 tyX9_ok hown (hts (.classLink RX8 17 RX9) (by decide +kernel)) (hts (.instantiable RX9 4) (by decide +kernel)) (hts (.initialized RX9) (by decide +kernel)) hK hP hD hS hA rfl df_X9 (Nat.le_of_ble_eq_true rfl) (Nat.le_of_ble_eq_true rfl) dX8_init_19 (fun q_3 H hP hD hS => ?_)
  have hP : va_P (dC, dI) vwCl [(h0, .inr (7, [.ref q_1, .int 0, .null, .null, .null, .null, .null, .int 0])), (q_1, .inl (cA_2, 1024, .inl (fun _ => 0))), (q_3, .inr (8, [.null, .null, .null, .int 0]))] _ := hP
  have hD : va_D A [(h0, .inr (7, [.ref q_1, .int 0, .null, .null, .null, .null, .null, .int 0])), (q_1, .inl (cA_2, 1024, .inl (fun _ => 0))), (q_3, .inr (8, [.null, .null, .null, .int 0]))] := hD
  refine W.widen (k := 2) (n := 1028) (Nat.le_of_ble_eq_true rfl) (Nat.le_of_ble_eq_true rfl) ?_
  refine lv_dup hx hb dX8_init_22 rfl ?_
  refine lv_bipush (v := 32) hx hb dX8_init_23 (by decide) ?_
  have hPc := hP.sub (ws' := [(q_3, .inr (8, [.null, .null, .null, .int 0]))]) [2] rfl
  have hDc := hD.sub (ws' := [(q_3, .inr (8, [.null, .null, .null, .int 0]))]) [2] (by decide) rfl
  have hKc := hK.sub (tys' := []) [] rfl
  have hFc := va_free (wc := [(q_3, .inr (8, [.null, .null, .null, .int 0]))]) hD hS hA [2] rfl
  refine va_callv (va_runI (As := [.int 32]) (rest := [.ref q_3, .ref h0]) ⟨hx, hb, hml, hown, hts⟩ (c_X9_init_32 l dC dI H.size q_3 ) (cwI 1 hts gX8_init_X9_init rfl rfl rfl (hts (.initialized RX9) (by decide +kernel)) (hts (.methodLink RX8 19 yX9_init) (by decide +kernel)) (hts (.instanceMethod yX9_init) (by decide +kernel)) rfl (by decide +kernel) ⟨Nat.le_of_ble_eq_true rfl, Nat.le_of_ble_eq_true rfl⟩) ⟨fb_M, fun U hU hW => ⟨rfl, xM.at hPc hKc hDc hU hW⟩⟩ rfl rfl hl.1 rfl (lv_room (Nat.le_of_ble_eq_true rfl)) dX8_init_25 ⟨Nat.le_of_ble_eq_true rfl, Nat.le_of_ble_eq_true rfl⟩) hS (fun q _ h => hFc q h) hFc (fun u t H locs ht hvm hw hB hz1 hk1 hS => ?_)
  obtain ⟨q_4, cA_5, q_6, cA_7, q_8, cA_9, hB⟩ := hB
  obtain ⟨hP, hD, hK⟩ := xB.join (wr := [(h0, .inr (7, [.ref q_1, .int 0, .null, .null, .null, .null, .null, .int 0])), (q_1, .inl (cA_2, 1024, .inl (fun _ => 0)))]) (w1 := [(q_3, .inr (8, [.ref q_4, .ref q_6, .ref q_8, .int 0])), (q_4, .inl (cA_5, 32, .inl (fun _ => 0))), (q_6, .inl (cA_7, 32, .inr (.inl (fun _ => 0)))), (q_8, .inl (cA_9, 32, .inr (.inr (.inr (.inl (fun _ => 0))))))]) hP hD hK [2] [0, 1] rfl rfl (by decide) (by decide) hk1 hFc hB ht hvm
  have hP : va_P (dC, dI) vwCl [(h0, .inr (7, [.ref q_1, .int 0, .null, .null, .null, .null, .null, .int 0])), (q_1, .inl (cA_2, 1024, .inl (fun _ => 0))), (q_3, .inr (8, [.ref q_4, .ref q_6, .ref q_8, .int 0])), (q_4, .inl (cA_5, 32, .inl (fun _ => 0))), (q_6, .inl (cA_7, 32, .inr (.inl (fun _ => 0)))), (q_8, .inl (cA_9, 32, .inr (.inr (.inr (.inl (fun _ => 0))))))] _ := hP
  have hD : va_D A [(h0, .inr (7, [.ref q_1, .int 0, .null, .null, .null, .null, .null, .int 0])), (q_1, .inl (cA_2, 1024, .inl (fun _ => 0))), (q_3, .inr (8, [.ref q_4, .ref q_6, .ref q_8, .int 0])), (q_4, .inl (cA_5, 32, .inl (fun _ => 0))), (q_6, .inl (cA_7, 32, .inr (.inl (fun _ => 0)))), (q_8, .inl (cA_9, 32, .inr (.inr (.inr (.inl (fun _ => 0))))))] := hD
  have hK : va_K (dC, dI) vwCl [(cA_2, .int), (cA_5, .int), (cA_7, .long), (cA_9, .double)] s := hK
  refine W.widen (k := 5) (n := 1124) (Nat.le_of_ble_eq_true rfl) (Nat.le_of_ble_eq_true rfl) ?_
  refine va_putF (D := (dC, dI)) (ci := 7) (v := .ref q_3) (ty := .object "FourTongues$Row") (C := RX8) (T := TX8) (N := 8) hx hb hts in_X8_init_RX8 tyX8 tyX8_ok nmX8 hown hK hP hD hS 0 rfl rfl 2 (by decide) (hts (.fieldLink RX8 22 "FourTongues$Program" "constants" "LFourTongues$Row;") (by decide +kernel)) (fun _ h9 => h9) rfl hin rfl (by decide +kernel) rfl rfl (Nat.le_of_ble_eq_true rfl) dX8_init_28 (fun H locs hP hD hS => ?_)
  have hP : va_P (dC, dI) vwCl [(h0, .inr (7, [.ref q_1, .int 0, .ref q_3, .null, .null, .null, .null, .int 0])), (q_1, .inl (cA_2, 1024, .inl (fun _ => 0))), (q_3, .inr (8, [.ref q_4, .ref q_6, .ref q_8, .int 0])), (q_4, .inl (cA_5, 32, .inl (fun _ => 0))), (q_6, .inl (cA_7, 32, .inr (.inl (fun _ => 0)))), (q_8, .inl (cA_9, 32, .inr (.inr (.inr (.inl (fun _ => 0))))))] _ := hP
  have hD : va_D A [(h0, .inr (7, [.ref q_1, .int 0, .ref q_3, .null, .null, .null, .null, .int 0])), (q_1, .inl (cA_2, 1024, .inl (fun _ => 0))), (q_3, .inr (8, [.ref q_4, .ref q_6, .ref q_8, .int 0])), (q_4, .inl (cA_5, 32, .inl (fun _ => 0))), (q_6, .inl (cA_7, 32, .inr (.inl (fun _ => 0)))), (q_8, .inl (cA_9, 32, .inr (.inr (.inr (.inl (fun _ => 0))))))] := hD
  refine lv_aload_n hx hb dX8_init_31 rfl (lv_at hl 0 rfl) ?_
  refine lv_bipush (v := 40) hx hb dX8_init_32 (by decide) ?_
  refine va_newa (atype := .long) (ty := .long) (a0 := (40, .inr (.inl (fun _ => 0)))) (N' := 40) hx hb (hts (.arrayClass .long) (by decide +kernel)) rfl hK hP hD hS hA (cz_long 40) (by decide +kernel) (by decide +kernel) (by decide +kernel) (Nat.le_of_ble_eq_true rfl) (Nat.le_of_ble_eq_true rfl) dX8_init_34 (fun q_10 cA_11 H hK hP hD hS => ?_)
  have hP : va_P (dC, dI) vwCl [(h0, .inr (7, [.ref q_1, .int 0, .ref q_3, .null, .null, .null, .null, .int 0])), (q_1, .inl (cA_2, 1024, .inl (fun _ => 0))), (q_3, .inr (8, [.ref q_4, .ref q_6, .ref q_8, .int 0])), (q_4, .inl (cA_5, 32, .inl (fun _ => 0))), (q_6, .inl (cA_7, 32, .inr (.inl (fun _ => 0)))), (q_8, .inl (cA_9, 32, .inr (.inr (.inr (.inl (fun _ => 0)))))), (q_10, .inl (cA_11, 40, .inr (.inl (fun _ => 0))))] _ := hP
  have hD : va_D A [(h0, .inr (7, [.ref q_1, .int 0, .ref q_3, .null, .null, .null, .null, .int 0])), (q_1, .inl (cA_2, 1024, .inl (fun _ => 0))), (q_3, .inr (8, [.ref q_4, .ref q_6, .ref q_8, .int 0])), (q_4, .inl (cA_5, 32, .inl (fun _ => 0))), (q_6, .inl (cA_7, 32, .inr (.inl (fun _ => 0)))), (q_8, .inl (cA_9, 32, .inr (.inr (.inr (.inl (fun _ => 0)))))), (q_10, .inl (cA_11, 40, .inr (.inl (fun _ => 0))))] := hD
  have hK : va_K (dC, dI) vwCl [(cA_2, .int), (cA_5, .int), (cA_7, .long), (cA_9, .double), (cA_11, .long)] s := hK
  refine W.widen (k := 6) (n := 1164) (Nat.le_of_ble_eq_true rfl) (Nat.le_of_ble_eq_true rfl) ?_
  refine va_putF (D := (dC, dI)) (ci := 7) (v := .ref q_10) (ty := .array .long) (C := RX8) (T := TX8) (N := 8) hx hb hts in_X8_init_RX8 tyX8 tyX8_ok nmX8 hown hK hP hD hS 0 rfl rfl 3 (by decide) (hts (.fieldLink RX8 26 "FourTongues$Program" "names" "[J") (by decide +kernel)) (fun _ h9 => h9) rfl hin rfl (by decide +kernel) rfl rfl (Nat.le_of_ble_eq_true rfl) dX8_init_36 (fun H locs hP hD hS => ?_)
  have hP : va_P (dC, dI) vwCl [(h0, .inr (7, [.ref q_1, .int 0, .ref q_3, .ref q_10, .null, .null, .null, .int 0])), (q_1, .inl (cA_2, 1024, .inl (fun _ => 0))), (q_3, .inr (8, [.ref q_4, .ref q_6, .ref q_8, .int 0])), (q_4, .inl (cA_5, 32, .inl (fun _ => 0))), (q_6, .inl (cA_7, 32, .inr (.inl (fun _ => 0)))), (q_8, .inl (cA_9, 32, .inr (.inr (.inr (.inl (fun _ => 0)))))), (q_10, .inl (cA_11, 40, .inr (.inl (fun _ => 0))))] _ := hP
  have hD : va_D A [(h0, .inr (7, [.ref q_1, .int 0, .ref q_3, .ref q_10, .null, .null, .null, .int 0])), (q_1, .inl (cA_2, 1024, .inl (fun _ => 0))), (q_3, .inr (8, [.ref q_4, .ref q_6, .ref q_8, .int 0])), (q_4, .inl (cA_5, 32, .inl (fun _ => 0))), (q_6, .inl (cA_7, 32, .inr (.inl (fun _ => 0)))), (q_8, .inl (cA_9, 32, .inr (.inr (.inr (.inl (fun _ => 0)))))), (q_10, .inl (cA_11, 40, .inr (.inl (fun _ => 0))))] := hD
  refine lv_aload_n hx hb dX8_init_39 rfl (lv_at hl 0 rfl) ?_
  refine lv_bipush (v := 40) hx hb dX8_init_40 (by decide) ?_
  refine va_newa (atype := .int) (ty := .int) (a0 := (40, .inl (fun _ => 0))) (N' := 40) hx hb (hts (.arrayClass .int) (by decide +kernel)) rfl hK hP hD hS hA (cz_int 40) (by decide +kernel) (by decide +kernel) (by decide +kernel) (Nat.le_of_ble_eq_true rfl) (Nat.le_of_ble_eq_true rfl) dX8_init_42 (fun q_12 cA_13 H hK hP hD hS => ?_)
  have hP : va_P (dC, dI) vwCl [(h0, .inr (7, [.ref q_1, .int 0, .ref q_3, .ref q_10, .null, .null, .null, .int 0])), (q_1, .inl (cA_2, 1024, .inl (fun _ => 0))), (q_3, .inr (8, [.ref q_4, .ref q_6, .ref q_8, .int 0])), (q_4, .inl (cA_5, 32, .inl (fun _ => 0))), (q_6, .inl (cA_7, 32, .inr (.inl (fun _ => 0)))), (q_8, .inl (cA_9, 32, .inr (.inr (.inr (.inl (fun _ => 0)))))), (q_10, .inl (cA_11, 40, .inr (.inl (fun _ => 0)))), (q_12, .inl (cA_13, 40, .inl (fun _ => 0)))] _ := hP
  have hD : va_D A [(h0, .inr (7, [.ref q_1, .int 0, .ref q_3, .ref q_10, .null, .null, .null, .int 0])), (q_1, .inl (cA_2, 1024, .inl (fun _ => 0))), (q_3, .inr (8, [.ref q_4, .ref q_6, .ref q_8, .int 0])), (q_4, .inl (cA_5, 32, .inl (fun _ => 0))), (q_6, .inl (cA_7, 32, .inr (.inl (fun _ => 0)))), (q_8, .inl (cA_9, 32, .inr (.inr (.inr (.inl (fun _ => 0)))))), (q_10, .inl (cA_11, 40, .inr (.inl (fun _ => 0)))), (q_12, .inl (cA_13, 40, .inl (fun _ => 0)))] := hD
  have hK : va_K (dC, dI) vwCl [(cA_2, .int), (cA_5, .int), (cA_7, .long), (cA_9, .double), (cA_11, .long), (cA_13, .int)] s := hK
  refine W.widen (k := 7) (n := 1204) (Nat.le_of_ble_eq_true rfl) (Nat.le_of_ble_eq_true rfl) ?_
  refine va_putF (D := (dC, dI)) (ci := 7) (v := .ref q_12) (ty := .array .int) (C := RX8) (T := TX8) (N := 8) hx hb hts in_X8_init_RX8 tyX8 tyX8_ok nmX8 hown hK hP hD hS 0 rfl rfl 4 (by decide) (hts (.fieldLink RX8 30 "FourTongues$Program" "starts" "[I") (by decide +kernel)) (fun _ h9 => h9) rfl hin rfl (by decide +kernel) rfl rfl (Nat.le_of_ble_eq_true rfl) dX8_init_44 (fun H locs hP hD hS => ?_)
  have hP : va_P (dC, dI) vwCl [(h0, .inr (7, [.ref q_1, .int 0, .ref q_3, .ref q_10, .ref q_12, .null, .null, .int 0])), (q_1, .inl (cA_2, 1024, .inl (fun _ => 0))), (q_3, .inr (8, [.ref q_4, .ref q_6, .ref q_8, .int 0])), (q_4, .inl (cA_5, 32, .inl (fun _ => 0))), (q_6, .inl (cA_7, 32, .inr (.inl (fun _ => 0)))), (q_8, .inl (cA_9, 32, .inr (.inr (.inr (.inl (fun _ => 0)))))), (q_10, .inl (cA_11, 40, .inr (.inl (fun _ => 0)))), (q_12, .inl (cA_13, 40, .inl (fun _ => 0)))] _ := hP
  have hD : va_D A [(h0, .inr (7, [.ref q_1, .int 0, .ref q_3, .ref q_10, .ref q_12, .null, .null, .int 0])), (q_1, .inl (cA_2, 1024, .inl (fun _ => 0))), (q_3, .inr (8, [.ref q_4, .ref q_6, .ref q_8, .int 0])), (q_4, .inl (cA_5, 32, .inl (fun _ => 0))), (q_6, .inl (cA_7, 32, .inr (.inl (fun _ => 0)))), (q_8, .inl (cA_9, 32, .inr (.inr (.inr (.inl (fun _ => 0)))))), (q_10, .inl (cA_11, 40, .inr (.inl (fun _ => 0)))), (q_12, .inl (cA_13, 40, .inl (fun _ => 0)))] := hD
  refine lv_aload_n hx hb dX8_init_47 rfl (lv_at hl 0 rfl) ?_
  refine lv_bipush (v := 40) hx hb dX8_init_48 (by decide) ?_
  refine va_newa (atype := .int) (ty := .int) (a0 := (40, .inl (fun _ => 0))) (N' := 40) hx hb (hts (.arrayClass .int) (by decide +kernel)) rfl hK hP hD hS hA (cz_int 40) (by decide +kernel) (by decide +kernel) (by decide +kernel) (Nat.le_of_ble_eq_true rfl) (Nat.le_of_ble_eq_true rfl) dX8_init_50 (fun q_14 cA_15 H hK hP hD hS => ?_)
  have hP : va_P (dC, dI) vwCl [(h0, .inr (7, [.ref q_1, .int 0, .ref q_3, .ref q_10, .ref q_12, .null, .null, .int 0])), (q_1, .inl (cA_2, 1024, .inl (fun _ => 0))), (q_3, .inr (8, [.ref q_4, .ref q_6, .ref q_8, .int 0])), (q_4, .inl (cA_5, 32, .inl (fun _ => 0))), (q_6, .inl (cA_7, 32, .inr (.inl (fun _ => 0)))), (q_8, .inl (cA_9, 32, .inr (.inr (.inr (.inl (fun _ => 0)))))), (q_10, .inl (cA_11, 40, .inr (.inl (fun _ => 0)))), (q_12, .inl (cA_13, 40, .inl (fun _ => 0))), (q_14, .inl (cA_15, 40, .inl (fun _ => 0)))] _ := hP
  have hD : va_D A [(h0, .inr (7, [.ref q_1, .int 0, .ref q_3, .ref q_10, .ref q_12, .null, .null, .int 0])), (q_1, .inl (cA_2, 1024, .inl (fun _ => 0))), (q_3, .inr (8, [.ref q_4, .ref q_6, .ref q_8, .int 0])), (q_4, .inl (cA_5, 32, .inl (fun _ => 0))), (q_6, .inl (cA_7, 32, .inr (.inl (fun _ => 0)))), (q_8, .inl (cA_9, 32, .inr (.inr (.inr (.inl (fun _ => 0)))))), (q_10, .inl (cA_11, 40, .inr (.inl (fun _ => 0)))), (q_12, .inl (cA_13, 40, .inl (fun _ => 0))), (q_14, .inl (cA_15, 40, .inl (fun _ => 0)))] := hD
  have hK : va_K (dC, dI) vwCl [(cA_2, .int), (cA_5, .int), (cA_7, .long), (cA_9, .double), (cA_11, .long), (cA_13, .int), (cA_15, .int)] s := hK
  refine W.widen (k := 8) (n := 1244) (Nat.le_of_ble_eq_true rfl) (Nat.le_of_ble_eq_true rfl) ?_
  refine va_putF (D := (dC, dI)) (ci := 7) (v := .ref q_14) (ty := .array .int) (C := RX8) (T := TX8) (N := 8) hx hb hts in_X8_init_RX8 tyX8 tyX8_ok nmX8 hown hK hP hD hS 0 rfl rfl 5 (by decide) (hts (.fieldLink RX8 33 "FourTongues$Program" "parameters" "[I") (by decide +kernel)) (fun _ h9 => h9) rfl hin rfl (by decide +kernel) rfl rfl (Nat.le_of_ble_eq_true rfl) dX8_init_52 (fun H locs hP hD hS => ?_)
  have hP : va_P (dC, dI) vwCl [(h0, .inr (7, [.ref q_1, .int 0, .ref q_3, .ref q_10, .ref q_12, .ref q_14, .null, .int 0])), (q_1, .inl (cA_2, 1024, .inl (fun _ => 0))), (q_3, .inr (8, [.ref q_4, .ref q_6, .ref q_8, .int 0])), (q_4, .inl (cA_5, 32, .inl (fun _ => 0))), (q_6, .inl (cA_7, 32, .inr (.inl (fun _ => 0)))), (q_8, .inl (cA_9, 32, .inr (.inr (.inr (.inl (fun _ => 0)))))), (q_10, .inl (cA_11, 40, .inr (.inl (fun _ => 0)))), (q_12, .inl (cA_13, 40, .inl (fun _ => 0))), (q_14, .inl (cA_15, 40, .inl (fun _ => 0)))] _ := hP
  have hD : va_D A [(h0, .inr (7, [.ref q_1, .int 0, .ref q_3, .ref q_10, .ref q_12, .ref q_14, .null, .int 0])), (q_1, .inl (cA_2, 1024, .inl (fun _ => 0))), (q_3, .inr (8, [.ref q_4, .ref q_6, .ref q_8, .int 0])), (q_4, .inl (cA_5, 32, .inl (fun _ => 0))), (q_6, .inl (cA_7, 32, .inr (.inl (fun _ => 0)))), (q_8, .inl (cA_9, 32, .inr (.inr (.inr (.inl (fun _ => 0)))))), (q_10, .inl (cA_11, 40, .inr (.inl (fun _ => 0)))), (q_12, .inl (cA_13, 40, .inl (fun _ => 0))), (q_14, .inl (cA_15, 40, .inl (fun _ => 0)))] := hD
  refine lv_aload_n hx hb dX8_init_55 rfl (lv_at hl 0 rfl) ?_
  refine lv_bipush (v := 40) hx hb dX8_init_56 (by decide) ?_
  refine va_newa (atype := .int) (ty := .int) (a0 := (40, .inl (fun _ => 0))) (N' := 40) hx hb (hts (.arrayClass .int) (by decide +kernel)) rfl hK hP hD hS hA (cz_int 40) (by decide +kernel) (by decide +kernel) (by decide +kernel) (Nat.le_of_ble_eq_true rfl) (Nat.le_of_ble_eq_true rfl) dX8_init_58 (fun q_16 cA_17 H hK hP hD hS => ?_)
  have hP : va_P (dC, dI) vwCl [(h0, .inr (7, [.ref q_1, .int 0, .ref q_3, .ref q_10, .ref q_12, .ref q_14, .null, .int 0])), (q_1, .inl (cA_2, 1024, .inl (fun _ => 0))), (q_3, .inr (8, [.ref q_4, .ref q_6, .ref q_8, .int 0])), (q_4, .inl (cA_5, 32, .inl (fun _ => 0))), (q_6, .inl (cA_7, 32, .inr (.inl (fun _ => 0)))), (q_8, .inl (cA_9, 32, .inr (.inr (.inr (.inl (fun _ => 0)))))), (q_10, .inl (cA_11, 40, .inr (.inl (fun _ => 0)))), (q_12, .inl (cA_13, 40, .inl (fun _ => 0))), (q_14, .inl (cA_15, 40, .inl (fun _ => 0))), (q_16, .inl (cA_17, 40, .inl (fun _ => 0)))] _ := hP
  have hD : va_D A [(h0, .inr (7, [.ref q_1, .int 0, .ref q_3, .ref q_10, .ref q_12, .ref q_14, .null, .int 0])), (q_1, .inl (cA_2, 1024, .inl (fun _ => 0))), (q_3, .inr (8, [.ref q_4, .ref q_6, .ref q_8, .int 0])), (q_4, .inl (cA_5, 32, .inl (fun _ => 0))), (q_6, .inl (cA_7, 32, .inr (.inl (fun _ => 0)))), (q_8, .inl (cA_9, 32, .inr (.inr (.inr (.inl (fun _ => 0)))))), (q_10, .inl (cA_11, 40, .inr (.inl (fun _ => 0)))), (q_12, .inl (cA_13, 40, .inl (fun _ => 0))), (q_14, .inl (cA_15, 40, .inl (fun _ => 0))), (q_16, .inl (cA_17, 40, .inl (fun _ => 0)))] := hD
  have hK : va_K (dC, dI) vwCl [(cA_2, .int), (cA_5, .int), (cA_7, .long), (cA_9, .double), (cA_11, .long), (cA_13, .int), (cA_15, .int), (cA_17, .int)] s := hK
  refine W.widen (k := 9) (n := 1284) (Nat.le_of_ble_eq_true rfl) (Nat.le_of_ble_eq_true rfl) ?_
  refine va_putF (D := (dC, dI)) (ci := 7) (v := .ref q_16) (ty := .array .int) (C := RX8) (T := TX8) (N := 8) hx hb hts in_X8_init_RX8 tyX8 tyX8_ok nmX8 hown hK hP hD hS 0 rfl rfl 6 (by decide) (hts (.fieldLink RX8 36 "FourTongues$Program" "variables" "[I") (by decide +kernel)) (fun _ h9 => h9) rfl hin rfl (by decide +kernel) rfl rfl (Nat.le_of_ble_eq_true rfl) dX8_init_60 (fun H locs hP hD hS => ?_)
  have hP : va_P (dC, dI) vwCl [(h0, .inr (7, [.ref q_1, .int 0, .ref q_3, .ref q_10, .ref q_12, .ref q_14, .ref q_16, .int 0])), (q_1, .inl (cA_2, 1024, .inl (fun _ => 0))), (q_3, .inr (8, [.ref q_4, .ref q_6, .ref q_8, .int 0])), (q_4, .inl (cA_5, 32, .inl (fun _ => 0))), (q_6, .inl (cA_7, 32, .inr (.inl (fun _ => 0)))), (q_8, .inl (cA_9, 32, .inr (.inr (.inr (.inl (fun _ => 0)))))), (q_10, .inl (cA_11, 40, .inr (.inl (fun _ => 0)))), (q_12, .inl (cA_13, 40, .inl (fun _ => 0))), (q_14, .inl (cA_15, 40, .inl (fun _ => 0))), (q_16, .inl (cA_17, 40, .inl (fun _ => 0)))] _ := hP
  have hD : va_D A [(h0, .inr (7, [.ref q_1, .int 0, .ref q_3, .ref q_10, .ref q_12, .ref q_14, .ref q_16, .int 0])), (q_1, .inl (cA_2, 1024, .inl (fun _ => 0))), (q_3, .inr (8, [.ref q_4, .ref q_6, .ref q_8, .int 0])), (q_4, .inl (cA_5, 32, .inl (fun _ => 0))), (q_6, .inl (cA_7, 32, .inr (.inl (fun _ => 0)))), (q_8, .inl (cA_9, 32, .inr (.inr (.inr (.inl (fun _ => 0)))))), (q_10, .inl (cA_11, 40, .inr (.inl (fun _ => 0)))), (q_12, .inl (cA_13, 40, .inl (fun _ => 0))), (q_14, .inl (cA_15, 40, .inl (fun _ => 0))), (q_16, .inl (cA_17, 40, .inl (fun _ => 0)))] := hD
  refine lv_aload_n hx hb dX8_init_63 rfl (lv_at hl 0 rfl) ?_
  refine lv_iconst (v := 0) hx hb dX8_init_64 (by decide) ?_
  refine va_put (D := (dC, dI)) (ci := 7) (v := .int 0) (ty := .int) (C := RX8) (T := TX8) (N := 8) hx hb hts in_X8_init_RX8 tyX8 tyX8_ok nmX8 hown hK hP hD hS 0 rfl rfl 7 (by decide) (hts (.fieldLink RX8 39 "FourTongues$Program" "functions" "I") (by decide +kernel)) (fun _ h9 => h9) rfl (by decide +kernel) rfl rfl (Nat.le_of_ble_eq_true rfl) dX8_init_65 (fun H locs hP hD hS => ?_)
  have hP : va_P (dC, dI) vwCl [(h0, .inr (7, [.ref q_1, .int 0, .ref q_3, .ref q_10, .ref q_12, .ref q_14, .ref q_16, .int 0])), (q_1, .inl (cA_2, 1024, .inl (fun _ => 0))), (q_3, .inr (8, [.ref q_4, .ref q_6, .ref q_8, .int 0])), (q_4, .inl (cA_5, 32, .inl (fun _ => 0))), (q_6, .inl (cA_7, 32, .inr (.inl (fun _ => 0)))), (q_8, .inl (cA_9, 32, .inr (.inr (.inr (.inl (fun _ => 0)))))), (q_10, .inl (cA_11, 40, .inr (.inl (fun _ => 0)))), (q_12, .inl (cA_13, 40, .inl (fun _ => 0))), (q_14, .inl (cA_15, 40, .inl (fun _ => 0))), (q_16, .inl (cA_17, 40, .inl (fun _ => 0)))] _ := hP
  have hD : va_D A [(h0, .inr (7, [.ref q_1, .int 0, .ref q_3, .ref q_10, .ref q_12, .ref q_14, .ref q_16, .int 0])), (q_1, .inl (cA_2, 1024, .inl (fun _ => 0))), (q_3, .inr (8, [.ref q_4, .ref q_6, .ref q_8, .int 0])), (q_4, .inl (cA_5, 32, .inl (fun _ => 0))), (q_6, .inl (cA_7, 32, .inr (.inl (fun _ => 0)))), (q_8, .inl (cA_9, 32, .inr (.inr (.inr (.inl (fun _ => 0)))))), (q_10, .inl (cA_11, 40, .inr (.inl (fun _ => 0)))), (q_12, .inl (cA_13, 40, .inl (fun _ => 0))), (q_14, .inl (cA_15, 40, .inl (fun _ => 0))), (q_16, .inl (cA_17, 40, .inl (fun _ => 0)))] := hD
  have hP9 := hP.sub (ws' := [(h0, .inr (7, [.ref q_1, .int 0, .ref q_3, .ref q_10, .ref q_12, .ref q_14, .ref q_16, .int 0])), (q_1, .inl (cA_2, 1024, .inl (fun _ => 0))), (q_3, .inr (8, [.ref q_4, .ref q_6, .ref q_8, .int 0])), (q_4, .inl (cA_5, 32, .inl (fun _ => 0))), (q_6, .inl (cA_7, 32, .inr (.inl (fun _ => 0)))), (q_8, .inl (cA_9, 32, .inr (.inr (.inr (.inl (fun _ => 0)))))), (q_10, .inl (cA_11, 40, .inr (.inl (fun _ => 0)))), (q_12, .inl (cA_13, 40, .inl (fun _ => 0))), (q_14, .inl (cA_15, 40, .inl (fun _ => 0))), (q_16, .inl (cA_17, 40, .inl (fun _ => 0)))]) [0, 1, 2, 3, 4, 5, 6, 7, 8, 9] rfl
  have hD9 := hD.sub (ws' := [(h0, .inr (7, [.ref q_1, .int 0, .ref q_3, .ref q_10, .ref q_12, .ref q_14, .ref q_16, .int 0])), (q_1, .inl (cA_2, 1024, .inl (fun _ => 0))), (q_3, .inr (8, [.ref q_4, .ref q_6, .ref q_8, .int 0])), (q_4, .inl (cA_5, 32, .inl (fun _ => 0))), (q_6, .inl (cA_7, 32, .inr (.inl (fun _ => 0)))), (q_8, .inl (cA_9, 32, .inr (.inr (.inr (.inl (fun _ => 0)))))), (q_10, .inl (cA_11, 40, .inr (.inl (fun _ => 0)))), (q_12, .inl (cA_13, 40, .inl (fun _ => 0))), (q_14, .inl (cA_15, 40, .inl (fun _ => 0))), (q_16, .inl (cA_17, 40, .inl (fun _ => 0)))]) [0, 1, 2, 3, 4, 5, 6, 7, 8, 9] (by decide) rfl
  have hK9 := hK.sub (tys' := [(cA_2, .int), (cA_5, .int), (cA_7, .long), (cA_9, .double), (cA_11, .long), (cA_13, .int), (cA_15, .int), (cA_17, .int)]) [0, 1, 2, 3, 4, 5, 6, 7] rfl
  exact W.vret hx hb hr (fun t ht hW => ⟨⟨(), rfl, trivial, ⟨q_1, cA_2, q_3, q_4, cA_5, q_6, cA_7, q_8, cA_9, q_10, cA_11, q_12, cA_13, q_14, cA_15, q_16, cA_17, by rw [ht]; exact hP9, va_K.moved hW.alike hK9, hD9⟩⟩, hS.F ht⟩) hS.2.2 dX8_init_68

set_option maxHeartbeats 4000000 in
set_option maxRecDepth 100000 in
theorem c_X1_init (l : Launch) (dC : Nat → ClassId) (dI : Nat → Nat → Nat) (sz : Nat) (h0 : Nat) : Met l yX1_init wsX1_init ({ frames := 2, cells := 6, slots := 452, locals := 46 }) (va_Pc [.ref h0] (fun U => xM (dC, dI) sz [(h0, .inr (1, [.null, .int 0, .null, .null, .int 0]))] [] U)) (va_Qv (fun _ : Unit => True) (fun (_ : Unit) t => ∃ (q_1 : Nat), ∃ (cA_2 : ClassId), ∃ (q_3 : Nat), ∃ (q_4 : Nat), ∃ (cA_5 : ClassId), ∃ (q_6 : Nat), ∃ (cA_7 : ClassId), ∃ (q_8 : Nat), ∃ (cA_9 : ClassId), ∃ (q_10 : Nat), ∃ (cA_11 : ClassId), xB (dC, dI) [(h0, .inr (1, [.ref q_1, .int 0, .ref q_3, .ref q_10, .int 0])), (q_1, .inl (cA_2, 288, .inl (fun _ => 0))), (q_3, .inr (8, [.ref q_4, .ref q_6, .ref q_8, .int 0])), (q_4, .inl (cA_5, 32, .inl (fun _ => 0))), (q_6, .inl (cA_7, 32, .inr (.inl (fun _ => 0)))), (q_8, .inl (cA_9, 32, .inr (.inr (.inr (.inl (fun _ => 0)))))), (q_10, .inl (cA_11, 64, .inl (fun _ => 0)))] [(cA_2, .int), (cA_5, .int), (cA_7, .long), (cA_9, .double), (cA_11, .int)] (va_A [(h0, .inr (1, [.null, .int 0, .null, .null, .int 0]))] sz) t) (va_A [(h0, .inr (1, [.null, .int 0, .null, .null, .int 0]))] sz)) 6 452 (va_A [(h0, .inr (1, [.null, .int 0, .null, .null, .int 0]))] sz) := by
  refine Met.ofW (cc := cX1_init) (maxL := 1) (ret := none) (by decide) rfl ?_
  intro p e s m args below meth c s₁ B hml hv
  obtain ⟨rfl, hsz, hP, hK, hD0⟩ := hv
  have hx := B.exec
  have hb := B.bytes
  have hr := B.returns
  have hts := atoms_spec (ws := wsX1_init) B.pre
  have hown : s.vm.findClass RX1 = some m.cls := findClass_of_methodNamed B.named
  have hlocks := B.notSynchronized
  have hin : meth.name = "<init>" := (name_of_methodNamed B.named B.method).1
  subst hsz
  have hD := hD0.self (sz := s.heap.size)
  generalize hAe : va_A [(h0, .inr (1, [.null, .int 0, .null, .null, .int 0]))] s.heap.size = A at hD ⊢
  have hA : ∀ q : Nat, s.heap.size ≤ q → A q := fun q h => by rw [← hAe]; exact Or.inr h
  have hS : va_S A s.heap s.heap [] := va_S.rf
  have hl := lv_entry ([.ref h0]) (n := 1) (Nat.le_of_ble_eq_true rfl)
  rw [lg_entry_eq]
  generalize (lg_sl ([.ref h0]) ++ List.replicate (1 - (lg_sl ([.ref h0])).length) Slot.unset).toArray = ls at hl ⊢
  have hl : lv_has ls 1 [(0, .ref h0)] := hl
  refine lv_aload_n hx hb dX1_init_0 rfl (lv_at hl 0 rfl) ?_
  refine W.objInit hx hb hown (hts (.methodLink RX1 3 objectInit) (by decide +kernel)) (hts (.instanceMethod objectInit) (by decide +kernel)) (hts (.code objectInit ⟨#[0xb1]⟩ 1 none) (by decide +kernel)) rfl (by rw [hml]; exact hl.1) rfl dX1_init_1 (Nat.le_of_ble_eq_true rfl) (Nat.le_of_ble_eq_true rfl) ?_
  refine W.eq (g2 := F0 m 4 ls []) rfl ?_
  refine lv_aload_n hx hb dX1_init_4 rfl (lv_at hl 0 rfl) ?_
  refine lv_sipush (v := 288) hx hb dX1_init_5 (by decide) ?_
  refine va_newa (atype := .int) (ty := .int) (a0 := (288, .inl (fun _ => 0))) (N' := 288) hx hb (hts (.arrayClass .int) (by decide +kernel)) rfl hK hP hD hS hA (cz_int 288) (by decide +kernel) (by decide +kernel) (by decide +kernel) (Nat.le_of_ble_eq_true rfl) (Nat.le_of_ble_eq_true rfl) dX1_init_8 (fun q_1 cA_2 H hK hP hD hS => ?_)
  have hP : va_P (dC, dI) vwCl [(h0, .inr (1, [.null, .int 0, .null, .null, .int 0])), (q_1, .inl (cA_2, 288, .inl (fun _ => 0)))] _ := hP
  have hD : va_D A [(h0, .inr (1, [.null, .int 0, .null, .null, .int 0])), (q_1, .inl (cA_2, 288, .inl (fun _ => 0)))] := hD
  have hK : va_K (dC, dI) vwCl [(cA_2, .int)] s := hK
  refine W.widen (k := 1) (n := 288) (Nat.le_of_ble_eq_true rfl) (Nat.le_of_ble_eq_true rfl) ?_
  refine va_put (D := (dC, dI)) (ci := 1) (v := .ref q_1) (ty := .array .int) (C := RX1) (T := TX1) (N := 5) hx hb hts in_X1_init_RX1 tyX1 tyX1_ok nmX1 hown hK hP hD hS 0 rfl rfl 0 (by decide) (hts (.fieldLink RX1 11 "FourTongues$Failures" "facts" "[I") (by decide +kernel)) (fun _ h9 => h9) rfl (by decide +kernel) rfl rfl (Nat.le_of_ble_eq_true rfl) dX1_init_10 (fun H locs hP hD hS => ?_)
  have hP : va_P (dC, dI) vwCl [(h0, .inr (1, [.ref q_1, .int 0, .null, .null, .int 0])), (q_1, .inl (cA_2, 288, .inl (fun _ => 0)))] _ := hP
  have hD : va_D A [(h0, .inr (1, [.ref q_1, .int 0, .null, .null, .int 0])), (q_1, .inl (cA_2, 288, .inl (fun _ => 0)))] := hD
  refine lv_aload_n hx hb dX1_init_13 rfl (lv_at hl 0 rfl) ?_
  refine lv_iconst (v := 0) hx hb dX1_init_14 (by decide) ?_
  refine va_put (D := (dC, dI)) (ci := 1) (v := .int 0) (ty := .int) (C := RX1) (T := TX1) (N := 5) hx hb hts in_X1_init_RX1 tyX1 tyX1_ok nmX1 hown hK hP hD hS 0 rfl rfl 1 (by decide) (hts (.fieldLink RX1 15 "FourTongues$Failures" "count" "I") (by decide +kernel)) (fun _ h9 => h9) rfl (by decide +kernel) rfl rfl (Nat.le_of_ble_eq_true rfl) dX1_init_15 (fun H locs hP hD hS => ?_)
  have hP : va_P (dC, dI) vwCl [(h0, .inr (1, [.ref q_1, .int 0, .null, .null, .int 0])), (q_1, .inl (cA_2, 288, .inl (fun _ => 0)))] _ := hP
  have hD : va_D A [(h0, .inr (1, [.ref q_1, .int 0, .null, .null, .int 0])), (q_1, .inl (cA_2, 288, .inl (fun _ => 0)))] := hD
  refine lv_aload_n hx hb dX1_init_18 rfl (lv_at hl 0 rfl) ?_
  refine va_new (ci := 8) (fs := [.null, .null, .null, .int 0]) (C := RX9) (T := TX9) (N := 4) hx hb hts in_X1_init_RX9 tyX9 tyX9_ok hown (hts (.classLink RX1 19 RX9) (by decide +kernel)) (hts (.instantiable RX9 4) (by decide +kernel)) (hts (.initialized RX9) (by decide +kernel)) hK hP hD hS hA rfl df_X9 (Nat.le_of_ble_eq_true rfl) (Nat.le_of_ble_eq_true rfl) dX1_init_19 (fun q_3 H hP hD hS => ?_)
  have hP : va_P (dC, dI) vwCl [(h0, .inr (1, [.ref q_1, .int 0, .null, .null, .int 0])), (q_1, .inl (cA_2, 288, .inl (fun _ => 0))), (q_3, .inr (8, [.null, .null, .null, .int 0]))] _ := hP
  have hD : va_D A [(h0, .inr (1, [.ref q_1, .int 0, .null, .null, .int 0])), (q_1, .inl (cA_2, 288, .inl (fun _ => 0))), (q_3, .inr (8, [.null, .null, .null, .int 0]))] := hD
  refine W.widen (k := 2) (n := 292) (Nat.le_of_ble_eq_true rfl) (Nat.le_of_ble_eq_true rfl) ?_
  refine lv_dup hx hb dX1_init_22 rfl ?_
  refine lv_bipush (v := 32) hx hb dX1_init_23 (by decide) ?_
  have hPc := hP.sub (ws' := [(q_3, .inr (8, [.null, .null, .null, .int 0]))]) [2] rfl
  have hDc := hD.sub (ws' := [(q_3, .inr (8, [.null, .null, .null, .int 0]))]) [2] (by decide) rfl
  have hKc := hK.sub (tys' := []) [] rfl
  have hFc := va_free (wc := [(q_3, .inr (8, [.null, .null, .null, .int 0]))]) hD hS hA [2] rfl
  refine va_callv (va_runI (As := [.int 32]) (rest := [.ref q_3, .ref h0]) ⟨hx, hb, hml, hown, hts⟩ (c_X9_init_32 l dC dI H.size q_3 ) (cwI 1 hts gX1_init_X9_init rfl rfl rfl (hts (.initialized RX9) (by decide +kernel)) (hts (.methodLink RX1 21 yX9_init) (by decide +kernel)) (hts (.instanceMethod yX9_init) (by decide +kernel)) rfl (by decide +kernel) ⟨Nat.le_of_ble_eq_true rfl, Nat.le_of_ble_eq_true rfl⟩) ⟨fb_M, fun U hU hW => ⟨rfl, xM.at hPc hKc hDc hU hW⟩⟩ rfl rfl hl.1 rfl (lv_room (Nat.le_of_ble_eq_true rfl)) dX1_init_25 ⟨Nat.le_of_ble_eq_true rfl, Nat.le_of_ble_eq_true rfl⟩) hS (fun q _ h => hFc q h) hFc (fun u t H locs ht hvm hw hB hz1 hk1 hS => ?_)
  obtain ⟨q_4, cA_5, q_6, cA_7, q_8, cA_9, hB⟩ := hB
  obtain ⟨hP, hD, hK⟩ := xB.join (wr := [(h0, .inr (1, [.ref q_1, .int 0, .null, .null, .int 0])), (q_1, .inl (cA_2, 288, .inl (fun _ => 0)))]) (w1 := [(q_3, .inr (8, [.ref q_4, .ref q_6, .ref q_8, .int 0])), (q_4, .inl (cA_5, 32, .inl (fun _ => 0))), (q_6, .inl (cA_7, 32, .inr (.inl (fun _ => 0)))), (q_8, .inl (cA_9, 32, .inr (.inr (.inr (.inl (fun _ => 0))))))]) hP hD hK [2] [0, 1] rfl rfl (by decide) (by decide) hk1 hFc hB ht hvm
  have hP : va_P (dC, dI) vwCl [(h0, .inr (1, [.ref q_1, .int 0, .null, .null, .int 0])), (q_1, .inl (cA_2, 288, .inl (fun _ => 0))), (q_3, .inr (8, [.ref q_4, .ref q_6, .ref q_8, .int 0])), (q_4, .inl (cA_5, 32, .inl (fun _ => 0))), (q_6, .inl (cA_7, 32, .inr (.inl (fun _ => 0)))), (q_8, .inl (cA_9, 32, .inr (.inr (.inr (.inl (fun _ => 0))))))] _ := hP
  have hD : va_D A [(h0, .inr (1, [.ref q_1, .int 0, .null, .null, .int 0])), (q_1, .inl (cA_2, 288, .inl (fun _ => 0))), (q_3, .inr (8, [.ref q_4, .ref q_6, .ref q_8, .int 0])), (q_4, .inl (cA_5, 32, .inl (fun _ => 0))), (q_6, .inl (cA_7, 32, .inr (.inl (fun _ => 0)))), (q_8, .inl (cA_9, 32, .inr (.inr (.inr (.inl (fun _ => 0))))))] := hD
  have hK : va_K (dC, dI) vwCl [(cA_2, .int), (cA_5, .int), (cA_7, .long), (cA_9, .double)] s := hK
  refine W.widen (k := 5) (n := 388) (Nat.le_of_ble_eq_true rfl) (Nat.le_of_ble_eq_true rfl) ?_
  refine va_putF (D := (dC, dI)) (ci := 1) (v := .ref q_3) (ty := .object "FourTongues$Row") (C := RX1) (T := TX1) (N := 5) hx hb hts in_X1_init_RX1 tyX1 tyX1_ok nmX1 hown hK hP hD hS 0 rfl rfl 2 (by decide) (hts (.fieldLink RX1 24 "FourTongues$Failures" "values" "LFourTongues$Row;") (by decide +kernel)) (fun _ h9 => h9) rfl hin rfl (by decide +kernel) rfl rfl (Nat.le_of_ble_eq_true rfl) dX1_init_28 (fun H locs hP hD hS => ?_)
  have hP : va_P (dC, dI) vwCl [(h0, .inr (1, [.ref q_1, .int 0, .ref q_3, .null, .int 0])), (q_1, .inl (cA_2, 288, .inl (fun _ => 0))), (q_3, .inr (8, [.ref q_4, .ref q_6, .ref q_8, .int 0])), (q_4, .inl (cA_5, 32, .inl (fun _ => 0))), (q_6, .inl (cA_7, 32, .inr (.inl (fun _ => 0)))), (q_8, .inl (cA_9, 32, .inr (.inr (.inr (.inl (fun _ => 0))))))] _ := hP
  have hD : va_D A [(h0, .inr (1, [.ref q_1, .int 0, .ref q_3, .null, .int 0])), (q_1, .inl (cA_2, 288, .inl (fun _ => 0))), (q_3, .inr (8, [.ref q_4, .ref q_6, .ref q_8, .int 0])), (q_4, .inl (cA_5, 32, .inl (fun _ => 0))), (q_6, .inl (cA_7, 32, .inr (.inl (fun _ => 0)))), (q_8, .inl (cA_9, 32, .inr (.inr (.inr (.inl (fun _ => 0))))))] := hD
  refine lv_aload_n hx hb dX1_init_31 rfl (lv_at hl 0 rfl) ?_
  refine lv_bipush (v := 64) hx hb dX1_init_32 (by decide) ?_
  refine va_newa (atype := .int) (ty := .int) (a0 := (64, .inl (fun _ => 0))) (N' := 64) hx hb (hts (.arrayClass .int) (by decide +kernel)) rfl hK hP hD hS hA (cz_int 64) (by decide +kernel) (by decide +kernel) (by decide +kernel) (Nat.le_of_ble_eq_true rfl) (Nat.le_of_ble_eq_true rfl) dX1_init_34 (fun q_10 cA_11 H hK hP hD hS => ?_)
  have hP : va_P (dC, dI) vwCl [(h0, .inr (1, [.ref q_1, .int 0, .ref q_3, .null, .int 0])), (q_1, .inl (cA_2, 288, .inl (fun _ => 0))), (q_3, .inr (8, [.ref q_4, .ref q_6, .ref q_8, .int 0])), (q_4, .inl (cA_5, 32, .inl (fun _ => 0))), (q_6, .inl (cA_7, 32, .inr (.inl (fun _ => 0)))), (q_8, .inl (cA_9, 32, .inr (.inr (.inr (.inl (fun _ => 0)))))), (q_10, .inl (cA_11, 64, .inl (fun _ => 0)))] _ := hP
  have hD : va_D A [(h0, .inr (1, [.ref q_1, .int 0, .ref q_3, .null, .int 0])), (q_1, .inl (cA_2, 288, .inl (fun _ => 0))), (q_3, .inr (8, [.ref q_4, .ref q_6, .ref q_8, .int 0])), (q_4, .inl (cA_5, 32, .inl (fun _ => 0))), (q_6, .inl (cA_7, 32, .inr (.inl (fun _ => 0)))), (q_8, .inl (cA_9, 32, .inr (.inr (.inr (.inl (fun _ => 0)))))), (q_10, .inl (cA_11, 64, .inl (fun _ => 0)))] := hD
  have hK : va_K (dC, dI) vwCl [(cA_2, .int), (cA_5, .int), (cA_7, .long), (cA_9, .double), (cA_11, .int)] s := hK
  refine W.widen (k := 6) (n := 452) (Nat.le_of_ble_eq_true rfl) (Nat.le_of_ble_eq_true rfl) ?_
  refine va_put (D := (dC, dI)) (ci := 1) (v := .ref q_10) (ty := .array .int) (C := RX1) (T := TX1) (N := 5) hx hb hts in_X1_init_RX1 tyX1 tyX1_ok nmX1 hown hK hP hD hS 0 rfl rfl 3 (by decide) (hts (.fieldLink RX1 28 "FourTongues$Failures" "lying" "[I") (by decide +kernel)) (fun _ h9 => h9) rfl (by decide +kernel) rfl rfl (Nat.le_of_ble_eq_true rfl) dX1_init_36 (fun H locs hP hD hS => ?_)
  have hP : va_P (dC, dI) vwCl [(h0, .inr (1, [.ref q_1, .int 0, .ref q_3, .ref q_10, .int 0])), (q_1, .inl (cA_2, 288, .inl (fun _ => 0))), (q_3, .inr (8, [.ref q_4, .ref q_6, .ref q_8, .int 0])), (q_4, .inl (cA_5, 32, .inl (fun _ => 0))), (q_6, .inl (cA_7, 32, .inr (.inl (fun _ => 0)))), (q_8, .inl (cA_9, 32, .inr (.inr (.inr (.inl (fun _ => 0)))))), (q_10, .inl (cA_11, 64, .inl (fun _ => 0)))] _ := hP
  have hD : va_D A [(h0, .inr (1, [.ref q_1, .int 0, .ref q_3, .ref q_10, .int 0])), (q_1, .inl (cA_2, 288, .inl (fun _ => 0))), (q_3, .inr (8, [.ref q_4, .ref q_6, .ref q_8, .int 0])), (q_4, .inl (cA_5, 32, .inl (fun _ => 0))), (q_6, .inl (cA_7, 32, .inr (.inl (fun _ => 0)))), (q_8, .inl (cA_9, 32, .inr (.inr (.inr (.inl (fun _ => 0)))))), (q_10, .inl (cA_11, 64, .inl (fun _ => 0)))] := hD
  refine lv_aload_n hx hb dX1_init_39 rfl (lv_at hl 0 rfl) ?_
  refine lv_iconst (v := 0) hx hb dX1_init_40 (by decide) ?_
  refine va_put (D := (dC, dI)) (ci := 1) (v := .int 0) (ty := .int) (C := RX1) (T := TX1) (N := 5) hx hb hts in_X1_init_RX1 tyX1 tyX1_ok nmX1 hown hK hP hD hS 0 rfl rfl 4 (by decide) (hts (.fieldLink RX1 31 "FourTongues$Failures" "lyingCount" "I") (by decide +kernel)) (fun _ h9 => h9) rfl (by decide +kernel) rfl rfl (Nat.le_of_ble_eq_true rfl) dX1_init_41 (fun H locs hP hD hS => ?_)
  have hP : va_P (dC, dI) vwCl [(h0, .inr (1, [.ref q_1, .int 0, .ref q_3, .ref q_10, .int 0])), (q_1, .inl (cA_2, 288, .inl (fun _ => 0))), (q_3, .inr (8, [.ref q_4, .ref q_6, .ref q_8, .int 0])), (q_4, .inl (cA_5, 32, .inl (fun _ => 0))), (q_6, .inl (cA_7, 32, .inr (.inl (fun _ => 0)))), (q_8, .inl (cA_9, 32, .inr (.inr (.inr (.inl (fun _ => 0)))))), (q_10, .inl (cA_11, 64, .inl (fun _ => 0)))] _ := hP
  have hD : va_D A [(h0, .inr (1, [.ref q_1, .int 0, .ref q_3, .ref q_10, .int 0])), (q_1, .inl (cA_2, 288, .inl (fun _ => 0))), (q_3, .inr (8, [.ref q_4, .ref q_6, .ref q_8, .int 0])), (q_4, .inl (cA_5, 32, .inl (fun _ => 0))), (q_6, .inl (cA_7, 32, .inr (.inl (fun _ => 0)))), (q_8, .inl (cA_9, 32, .inr (.inr (.inr (.inl (fun _ => 0)))))), (q_10, .inl (cA_11, 64, .inl (fun _ => 0)))] := hD
  have hP9 := hP.sub (ws' := [(h0, .inr (1, [.ref q_1, .int 0, .ref q_3, .ref q_10, .int 0])), (q_1, .inl (cA_2, 288, .inl (fun _ => 0))), (q_3, .inr (8, [.ref q_4, .ref q_6, .ref q_8, .int 0])), (q_4, .inl (cA_5, 32, .inl (fun _ => 0))), (q_6, .inl (cA_7, 32, .inr (.inl (fun _ => 0)))), (q_8, .inl (cA_9, 32, .inr (.inr (.inr (.inl (fun _ => 0)))))), (q_10, .inl (cA_11, 64, .inl (fun _ => 0)))]) [0, 1, 2, 3, 4, 5, 6] rfl
  have hD9 := hD.sub (ws' := [(h0, .inr (1, [.ref q_1, .int 0, .ref q_3, .ref q_10, .int 0])), (q_1, .inl (cA_2, 288, .inl (fun _ => 0))), (q_3, .inr (8, [.ref q_4, .ref q_6, .ref q_8, .int 0])), (q_4, .inl (cA_5, 32, .inl (fun _ => 0))), (q_6, .inl (cA_7, 32, .inr (.inl (fun _ => 0)))), (q_8, .inl (cA_9, 32, .inr (.inr (.inr (.inl (fun _ => 0)))))), (q_10, .inl (cA_11, 64, .inl (fun _ => 0)))]) [0, 1, 2, 3, 4, 5, 6] (by decide) rfl
  have hK9 := hK.sub (tys' := [(cA_2, .int), (cA_5, .int), (cA_7, .long), (cA_9, .double), (cA_11, .int)]) [0, 1, 2, 3, 4] rfl
  exact W.vret hx hb hr (fun t ht hW => ⟨⟨(), rfl, trivial, ⟨q_1, cA_2, q_3, q_4, cA_5, q_6, cA_7, q_8, cA_9, q_10, cA_11, by rw [ht]; exact hP9, va_K.moved hW.alike hK9, hD9⟩⟩, hS.F ht⟩) hS.2.2 dX1_init_44

set_option maxHeartbeats 4000000 in
set_option maxRecDepth 100000 in
theorem c_X2_init (l : Launch) (dC : Nat → ClassId) (dI : Nat → Nat → Nat) (sz : Nat) (h0 : Nat) : Met l yX2_init wsX2_init ({ frames := 1, cells := 7, slots := 168, locals := 24 }) (va_Pc [.ref h0] (fun U => xM (dC, dI) sz [(h0, .inr (2, [.null, .null, .null, .null, .null, .null, .null, .int 0]))] [] U)) (va_Qv (fun _ : Unit => True) (fun (_ : Unit) t => ∃ (q_1 : Nat), ∃ (cA_2 : ClassId), ∃ (q_3 : Nat), ∃ (cA_4 : ClassId), ∃ (q_5 : Nat), ∃ (cA_6 : ClassId), ∃ (q_7 : Nat), ∃ (cA_8 : ClassId), ∃ (q_9 : Nat), ∃ (cA_10 : ClassId), ∃ (q_11 : Nat), ∃ (cA_12 : ClassId), ∃ (q_13 : Nat), ∃ (cA_14 : ClassId), xB (dC, dI) [(h0, .inr (2, [.ref q_1, .ref q_3, .ref q_5, .ref q_7, .ref q_9, .ref q_11, .ref q_13, .int 0])), (q_1, .inl (cA_2, 24, .inl (fun _ => 0))), (q_3, .inl (cA_4, 24, .inl (fun _ => 0))), (q_5, .inl (cA_6, 24, .inl (fun _ => 0))), (q_7, .inl (cA_8, 24, .inl (fun _ => 0))), (q_9, .inl (cA_10, 24, .inl (fun _ => 0))), (q_11, .inl (cA_12, 24, .inl (fun _ => 0))), (q_13, .inl (cA_14, 24, .inl (fun _ => 0)))] [(cA_2, .int), (cA_4, .int), (cA_6, .int), (cA_8, .int), (cA_10, .int), (cA_12, .int), (cA_14, .int)] (va_A [(h0, .inr (2, [.null, .null, .null, .null, .null, .null, .null, .int 0]))] sz) t) (va_A [(h0, .inr (2, [.null, .null, .null, .null, .null, .null, .null, .int 0]))] sz)) 7 168 (va_A [(h0, .inr (2, [.null, .null, .null, .null, .null, .null, .null, .int 0]))] sz) := by
  refine Met.ofW (cc := cX2_init) (maxL := 1) (ret := none) (by decide) rfl ?_
  intro p e s m args below meth c s₁ B hml hv
  obtain ⟨rfl, hsz, hP, hK, hD0⟩ := hv
  have hx := B.exec
  have hb := B.bytes
  have hr := B.returns
  have hts := atoms_spec (ws := wsX2_init) B.pre
  have hown : s.vm.findClass RX2 = some m.cls := findClass_of_methodNamed B.named
  have hlocks := B.notSynchronized
  have hin : meth.name = "<init>" := (name_of_methodNamed B.named B.method).1
  subst hsz
  have hD := hD0.self (sz := s.heap.size)
  generalize hAe : va_A [(h0, .inr (2, [.null, .null, .null, .null, .null, .null, .null, .int 0]))] s.heap.size = A at hD ⊢
  have hA : ∀ q : Nat, s.heap.size ≤ q → A q := fun q h => by rw [← hAe]; exact Or.inr h
  have hS : va_S A s.heap s.heap [] := va_S.rf
  have hl := lv_entry ([.ref h0]) (n := 1) (Nat.le_of_ble_eq_true rfl)
  rw [lg_entry_eq]
  generalize (lg_sl ([.ref h0]) ++ List.replicate (1 - (lg_sl ([.ref h0])).length) Slot.unset).toArray = ls at hl ⊢
  have hl : lv_has ls 1 [(0, .ref h0)] := hl
  refine lv_aload_n hx hb dX2_init_0 rfl (lv_at hl 0 rfl) ?_
  refine W.objInit hx hb hown (hts (.methodLink RX2 1 objectInit) (by decide +kernel)) (hts (.instanceMethod objectInit) (by decide +kernel)) (hts (.code objectInit ⟨#[0xb1]⟩ 1 none) (by decide +kernel)) rfl (by rw [hml]; exact hl.1) rfl dX2_init_1 (Nat.le_of_ble_eq_true rfl) (Nat.le_of_ble_eq_true rfl) ?_
  refine W.eq (g2 := F0 m 4 ls []) rfl ?_
  refine lv_aload_n hx hb dX2_init_4 rfl (lv_at hl 0 rfl) ?_
  refine lv_bipush (v := 24) hx hb dX2_init_5 (by decide) ?_
  refine va_newa (atype := .int) (ty := .int) (a0 := (24, .inl (fun _ => 0))) (N' := 24) hx hb (hts (.arrayClass .int) (by decide +kernel)) rfl hK hP hD hS hA (cz_int 24) (by decide +kernel) (by decide +kernel) (by decide +kernel) (Nat.le_of_ble_eq_true rfl) (Nat.le_of_ble_eq_true rfl) dX2_init_7 (fun q_1 cA_2 H hK hP hD hS => ?_)
  have hP : va_P (dC, dI) vwCl [(h0, .inr (2, [.null, .null, .null, .null, .null, .null, .null, .int 0])), (q_1, .inl (cA_2, 24, .inl (fun _ => 0)))] _ := hP
  have hD : va_D A [(h0, .inr (2, [.null, .null, .null, .null, .null, .null, .null, .int 0])), (q_1, .inl (cA_2, 24, .inl (fun _ => 0)))] := hD
  have hK : va_K (dC, dI) vwCl [(cA_2, .int)] s := hK
  refine W.widen (k := 1) (n := 24) (Nat.le_of_ble_eq_true rfl) (Nat.le_of_ble_eq_true rfl) ?_
  refine va_putF (D := (dC, dI)) (ci := 2) (v := .ref q_1) (ty := .array .int) (C := RX2) (T := TX2) (N := 8) hx hb hts in_X2_init_RX2 tyX2 tyX2_ok nmX2 hown hK hP hD hS 0 rfl rfl 0 (by decide) (hts (.fieldLink RX2 9 "FourTongues$Frames" "tongues" "[I") (by decide +kernel)) (fun _ h9 => h9) rfl hin rfl (by decide +kernel) rfl rfl (Nat.le_of_ble_eq_true rfl) dX2_init_9 (fun H locs hP hD hS => ?_)
  have hP : va_P (dC, dI) vwCl [(h0, .inr (2, [.ref q_1, .null, .null, .null, .null, .null, .null, .int 0])), (q_1, .inl (cA_2, 24, .inl (fun _ => 0)))] _ := hP
  have hD : va_D A [(h0, .inr (2, [.ref q_1, .null, .null, .null, .null, .null, .null, .int 0])), (q_1, .inl (cA_2, 24, .inl (fun _ => 0)))] := hD
  refine lv_aload_n hx hb dX2_init_12 rfl (lv_at hl 0 rfl) ?_
  refine lv_bipush (v := 24) hx hb dX2_init_13 (by decide) ?_
  refine va_newa (atype := .int) (ty := .int) (a0 := (24, .inl (fun _ => 0))) (N' := 24) hx hb (hts (.arrayClass .int) (by decide +kernel)) rfl hK hP hD hS hA (cz_int 24) (by decide +kernel) (by decide +kernel) (by decide +kernel) (Nat.le_of_ble_eq_true rfl) (Nat.le_of_ble_eq_true rfl) dX2_init_15 (fun q_3 cA_4 H hK hP hD hS => ?_)
  have hP : va_P (dC, dI) vwCl [(h0, .inr (2, [.ref q_1, .null, .null, .null, .null, .null, .null, .int 0])), (q_1, .inl (cA_2, 24, .inl (fun _ => 0))), (q_3, .inl (cA_4, 24, .inl (fun _ => 0)))] _ := hP
  have hD : va_D A [(h0, .inr (2, [.ref q_1, .null, .null, .null, .null, .null, .null, .int 0])), (q_1, .inl (cA_2, 24, .inl (fun _ => 0))), (q_3, .inl (cA_4, 24, .inl (fun _ => 0)))] := hD
  have hK : va_K (dC, dI) vwCl [(cA_2, .int), (cA_4, .int)] s := hK
  refine W.widen (k := 2) (n := 48) (Nat.le_of_ble_eq_true rfl) (Nat.le_of_ble_eq_true rfl) ?_
  refine va_putF (D := (dC, dI)) (ci := 2) (v := .ref q_3) (ty := .array .int) (C := RX2) (T := TX2) (N := 8) hx hb hts in_X2_init_RX2 tyX2 tyX2_ok nmX2 hown hK hP hD hS 0 rfl rfl 1 (by decide) (hts (.fieldLink RX2 13 "FourTongues$Frames" "functions" "[I") (by decide +kernel)) (fun _ h9 => h9) rfl hin rfl (by decide +kernel) rfl rfl (Nat.le_of_ble_eq_true rfl) dX2_init_17 (fun H locs hP hD hS => ?_)
  have hP : va_P (dC, dI) vwCl [(h0, .inr (2, [.ref q_1, .ref q_3, .null, .null, .null, .null, .null, .int 0])), (q_1, .inl (cA_2, 24, .inl (fun _ => 0))), (q_3, .inl (cA_4, 24, .inl (fun _ => 0)))] _ := hP
  have hD : va_D A [(h0, .inr (2, [.ref q_1, .ref q_3, .null, .null, .null, .null, .null, .int 0])), (q_1, .inl (cA_2, 24, .inl (fun _ => 0))), (q_3, .inl (cA_4, 24, .inl (fun _ => 0)))] := hD
  refine lv_aload_n hx hb dX2_init_20 rfl (lv_at hl 0 rfl) ?_
  refine lv_bipush (v := 24) hx hb dX2_init_21 (by decide) ?_
  refine va_newa (atype := .int) (ty := .int) (a0 := (24, .inl (fun _ => 0))) (N' := 24) hx hb (hts (.arrayClass .int) (by decide +kernel)) rfl hK hP hD hS hA (cz_int 24) (by decide +kernel) (by decide +kernel) (by decide +kernel) (Nat.le_of_ble_eq_true rfl) (Nat.le_of_ble_eq_true rfl) dX2_init_23 (fun q_5 cA_6 H hK hP hD hS => ?_)
  have hP : va_P (dC, dI) vwCl [(h0, .inr (2, [.ref q_1, .ref q_3, .null, .null, .null, .null, .null, .int 0])), (q_1, .inl (cA_2, 24, .inl (fun _ => 0))), (q_3, .inl (cA_4, 24, .inl (fun _ => 0))), (q_5, .inl (cA_6, 24, .inl (fun _ => 0)))] _ := hP
  have hD : va_D A [(h0, .inr (2, [.ref q_1, .ref q_3, .null, .null, .null, .null, .null, .int 0])), (q_1, .inl (cA_2, 24, .inl (fun _ => 0))), (q_3, .inl (cA_4, 24, .inl (fun _ => 0))), (q_5, .inl (cA_6, 24, .inl (fun _ => 0)))] := hD
  have hK : va_K (dC, dI) vwCl [(cA_2, .int), (cA_4, .int), (cA_6, .int)] s := hK
  refine W.widen (k := 3) (n := 72) (Nat.le_of_ble_eq_true rfl) (Nat.le_of_ble_eq_true rfl) ?_
  refine va_putF (D := (dC, dI)) (ci := 2) (v := .ref q_5) (ty := .array .int) (C := RX2) (T := TX2) (N := 8) hx hb hts in_X2_init_RX2 tyX2 tyX2_ok nmX2 hown hK hP hD hS 0 rfl rfl 2 (by decide) (hts (.fieldLink RX2 16 "FourTongues$Frames" "bases" "[I") (by decide +kernel)) (fun _ h9 => h9) rfl hin rfl (by decide +kernel) rfl rfl (Nat.le_of_ble_eq_true rfl) dX2_init_25 (fun H locs hP hD hS => ?_)
  have hP : va_P (dC, dI) vwCl [(h0, .inr (2, [.ref q_1, .ref q_3, .ref q_5, .null, .null, .null, .null, .int 0])), (q_1, .inl (cA_2, 24, .inl (fun _ => 0))), (q_3, .inl (cA_4, 24, .inl (fun _ => 0))), (q_5, .inl (cA_6, 24, .inl (fun _ => 0)))] _ := hP
  have hD : va_D A [(h0, .inr (2, [.ref q_1, .ref q_3, .ref q_5, .null, .null, .null, .null, .int 0])), (q_1, .inl (cA_2, 24, .inl (fun _ => 0))), (q_3, .inl (cA_4, 24, .inl (fun _ => 0))), (q_5, .inl (cA_6, 24, .inl (fun _ => 0)))] := hD
  refine lv_aload_n hx hb dX2_init_28 rfl (lv_at hl 0 rfl) ?_
  refine lv_bipush (v := 24) hx hb dX2_init_29 (by decide) ?_
  refine va_newa (atype := .int) (ty := .int) (a0 := (24, .inl (fun _ => 0))) (N' := 24) hx hb (hts (.arrayClass .int) (by decide +kernel)) rfl hK hP hD hS hA (cz_int 24) (by decide +kernel) (by decide +kernel) (by decide +kernel) (Nat.le_of_ble_eq_true rfl) (Nat.le_of_ble_eq_true rfl) dX2_init_31 (fun q_7 cA_8 H hK hP hD hS => ?_)
  have hP : va_P (dC, dI) vwCl [(h0, .inr (2, [.ref q_1, .ref q_3, .ref q_5, .null, .null, .null, .null, .int 0])), (q_1, .inl (cA_2, 24, .inl (fun _ => 0))), (q_3, .inl (cA_4, 24, .inl (fun _ => 0))), (q_5, .inl (cA_6, 24, .inl (fun _ => 0))), (q_7, .inl (cA_8, 24, .inl (fun _ => 0)))] _ := hP
  have hD : va_D A [(h0, .inr (2, [.ref q_1, .ref q_3, .ref q_5, .null, .null, .null, .null, .int 0])), (q_1, .inl (cA_2, 24, .inl (fun _ => 0))), (q_3, .inl (cA_4, 24, .inl (fun _ => 0))), (q_5, .inl (cA_6, 24, .inl (fun _ => 0))), (q_7, .inl (cA_8, 24, .inl (fun _ => 0)))] := hD
  have hK : va_K (dC, dI) vwCl [(cA_2, .int), (cA_4, .int), (cA_6, .int), (cA_8, .int)] s := hK
  refine W.widen (k := 4) (n := 96) (Nat.le_of_ble_eq_true rfl) (Nat.le_of_ble_eq_true rfl) ?_
  refine va_putF (D := (dC, dI)) (ci := 2) (v := .ref q_7) (ty := .array .int) (C := RX2) (T := TX2) (N := 8) hx hb hts in_X2_init_RX2 tyX2 tyX2_ok nmX2 hown hK hP hD hS 0 rfl rfl 3 (by decide) (hts (.fieldLink RX2 19 "FourTongues$Frames" "floors" "[I") (by decide +kernel)) (fun _ h9 => h9) rfl hin rfl (by decide +kernel) rfl rfl (Nat.le_of_ble_eq_true rfl) dX2_init_33 (fun H locs hP hD hS => ?_)
  have hP : va_P (dC, dI) vwCl [(h0, .inr (2, [.ref q_1, .ref q_3, .ref q_5, .ref q_7, .null, .null, .null, .int 0])), (q_1, .inl (cA_2, 24, .inl (fun _ => 0))), (q_3, .inl (cA_4, 24, .inl (fun _ => 0))), (q_5, .inl (cA_6, 24, .inl (fun _ => 0))), (q_7, .inl (cA_8, 24, .inl (fun _ => 0)))] _ := hP
  have hD : va_D A [(h0, .inr (2, [.ref q_1, .ref q_3, .ref q_5, .ref q_7, .null, .null, .null, .int 0])), (q_1, .inl (cA_2, 24, .inl (fun _ => 0))), (q_3, .inl (cA_4, 24, .inl (fun _ => 0))), (q_5, .inl (cA_6, 24, .inl (fun _ => 0))), (q_7, .inl (cA_8, 24, .inl (fun _ => 0)))] := hD
  refine lv_aload_n hx hb dX2_init_36 rfl (lv_at hl 0 rfl) ?_
  refine lv_bipush (v := 24) hx hb dX2_init_37 (by decide) ?_
  refine va_newa (atype := .int) (ty := .int) (a0 := (24, .inl (fun _ => 0))) (N' := 24) hx hb (hts (.arrayClass .int) (by decide +kernel)) rfl hK hP hD hS hA (cz_int 24) (by decide +kernel) (by decide +kernel) (by decide +kernel) (Nat.le_of_ble_eq_true rfl) (Nat.le_of_ble_eq_true rfl) dX2_init_39 (fun q_9 cA_10 H hK hP hD hS => ?_)
  have hP : va_P (dC, dI) vwCl [(h0, .inr (2, [.ref q_1, .ref q_3, .ref q_5, .ref q_7, .null, .null, .null, .int 0])), (q_1, .inl (cA_2, 24, .inl (fun _ => 0))), (q_3, .inl (cA_4, 24, .inl (fun _ => 0))), (q_5, .inl (cA_6, 24, .inl (fun _ => 0))), (q_7, .inl (cA_8, 24, .inl (fun _ => 0))), (q_9, .inl (cA_10, 24, .inl (fun _ => 0)))] _ := hP
  have hD : va_D A [(h0, .inr (2, [.ref q_1, .ref q_3, .ref q_5, .ref q_7, .null, .null, .null, .int 0])), (q_1, .inl (cA_2, 24, .inl (fun _ => 0))), (q_3, .inl (cA_4, 24, .inl (fun _ => 0))), (q_5, .inl (cA_6, 24, .inl (fun _ => 0))), (q_7, .inl (cA_8, 24, .inl (fun _ => 0))), (q_9, .inl (cA_10, 24, .inl (fun _ => 0)))] := hD
  have hK : va_K (dC, dI) vwCl [(cA_2, .int), (cA_4, .int), (cA_6, .int), (cA_8, .int), (cA_10, .int)] s := hK
  refine W.widen (k := 5) (n := 120) (Nat.le_of_ble_eq_true rfl) (Nat.le_of_ble_eq_true rfl) ?_
  refine va_putF (D := (dC, dI)) (ci := 2) (v := .ref q_9) (ty := .array .int) (C := RX2) (T := TX2) (N := 8) hx hb hts in_X2_init_RX2 tyX2 tyX2_ok nmX2 hown hK hP hD hS 0 rfl rfl 4 (by decide) (hts (.fieldLink RX2 22 "FourTongues$Frames" "tops" "[I") (by decide +kernel)) (fun _ h9 => h9) rfl hin rfl (by decide +kernel) rfl rfl (Nat.le_of_ble_eq_true rfl) dX2_init_41 (fun H locs hP hD hS => ?_)
  have hP : va_P (dC, dI) vwCl [(h0, .inr (2, [.ref q_1, .ref q_3, .ref q_5, .ref q_7, .ref q_9, .null, .null, .int 0])), (q_1, .inl (cA_2, 24, .inl (fun _ => 0))), (q_3, .inl (cA_4, 24, .inl (fun _ => 0))), (q_5, .inl (cA_6, 24, .inl (fun _ => 0))), (q_7, .inl (cA_8, 24, .inl (fun _ => 0))), (q_9, .inl (cA_10, 24, .inl (fun _ => 0)))] _ := hP
  have hD : va_D A [(h0, .inr (2, [.ref q_1, .ref q_3, .ref q_5, .ref q_7, .ref q_9, .null, .null, .int 0])), (q_1, .inl (cA_2, 24, .inl (fun _ => 0))), (q_3, .inl (cA_4, 24, .inl (fun _ => 0))), (q_5, .inl (cA_6, 24, .inl (fun _ => 0))), (q_7, .inl (cA_8, 24, .inl (fun _ => 0))), (q_9, .inl (cA_10, 24, .inl (fun _ => 0)))] := hD
  refine lv_aload_n hx hb dX2_init_44 rfl (lv_at hl 0 rfl) ?_
  refine lv_bipush (v := 24) hx hb dX2_init_45 (by decide) ?_
  refine va_newa (atype := .int) (ty := .int) (a0 := (24, .inl (fun _ => 0))) (N' := 24) hx hb (hts (.arrayClass .int) (by decide +kernel)) rfl hK hP hD hS hA (cz_int 24) (by decide +kernel) (by decide +kernel) (by decide +kernel) (Nat.le_of_ble_eq_true rfl) (Nat.le_of_ble_eq_true rfl) dX2_init_47 (fun q_11 cA_12 H hK hP hD hS => ?_)
  have hP : va_P (dC, dI) vwCl [(h0, .inr (2, [.ref q_1, .ref q_3, .ref q_5, .ref q_7, .ref q_9, .null, .null, .int 0])), (q_1, .inl (cA_2, 24, .inl (fun _ => 0))), (q_3, .inl (cA_4, 24, .inl (fun _ => 0))), (q_5, .inl (cA_6, 24, .inl (fun _ => 0))), (q_7, .inl (cA_8, 24, .inl (fun _ => 0))), (q_9, .inl (cA_10, 24, .inl (fun _ => 0))), (q_11, .inl (cA_12, 24, .inl (fun _ => 0)))] _ := hP
  have hD : va_D A [(h0, .inr (2, [.ref q_1, .ref q_3, .ref q_5, .ref q_7, .ref q_9, .null, .null, .int 0])), (q_1, .inl (cA_2, 24, .inl (fun _ => 0))), (q_3, .inl (cA_4, 24, .inl (fun _ => 0))), (q_5, .inl (cA_6, 24, .inl (fun _ => 0))), (q_7, .inl (cA_8, 24, .inl (fun _ => 0))), (q_9, .inl (cA_10, 24, .inl (fun _ => 0))), (q_11, .inl (cA_12, 24, .inl (fun _ => 0)))] := hD
  have hK : va_K (dC, dI) vwCl [(cA_2, .int), (cA_4, .int), (cA_6, .int), (cA_8, .int), (cA_10, .int), (cA_12, .int)] s := hK
  refine W.widen (k := 6) (n := 144) (Nat.le_of_ble_eq_true rfl) (Nat.le_of_ble_eq_true rfl) ?_
  refine va_putF (D := (dC, dI)) (ci := 2) (v := .ref q_11) (ty := .array .int) (C := RX2) (T := TX2) (N := 8) hx hb hts in_X2_init_RX2 tyX2 tyX2_ok nmX2 hown hK hP hD hS 0 rfl rfl 5 (by decide) (hts (.fieldLink RX2 25 "FourTongues$Frames" "calledAt" "[I") (by decide +kernel)) (fun _ h9 => h9) rfl hin rfl (by decide +kernel) rfl rfl (Nat.le_of_ble_eq_true rfl) dX2_init_49 (fun H locs hP hD hS => ?_)
  have hP : va_P (dC, dI) vwCl [(h0, .inr (2, [.ref q_1, .ref q_3, .ref q_5, .ref q_7, .ref q_9, .ref q_11, .null, .int 0])), (q_1, .inl (cA_2, 24, .inl (fun _ => 0))), (q_3, .inl (cA_4, 24, .inl (fun _ => 0))), (q_5, .inl (cA_6, 24, .inl (fun _ => 0))), (q_7, .inl (cA_8, 24, .inl (fun _ => 0))), (q_9, .inl (cA_10, 24, .inl (fun _ => 0))), (q_11, .inl (cA_12, 24, .inl (fun _ => 0)))] _ := hP
  have hD : va_D A [(h0, .inr (2, [.ref q_1, .ref q_3, .ref q_5, .ref q_7, .ref q_9, .ref q_11, .null, .int 0])), (q_1, .inl (cA_2, 24, .inl (fun _ => 0))), (q_3, .inl (cA_4, 24, .inl (fun _ => 0))), (q_5, .inl (cA_6, 24, .inl (fun _ => 0))), (q_7, .inl (cA_8, 24, .inl (fun _ => 0))), (q_9, .inl (cA_10, 24, .inl (fun _ => 0))), (q_11, .inl (cA_12, 24, .inl (fun _ => 0)))] := hD
  refine lv_aload_n hx hb dX2_init_52 rfl (lv_at hl 0 rfl) ?_
  refine lv_bipush (v := 24) hx hb dX2_init_53 (by decide) ?_
  refine va_newa (atype := .int) (ty := .int) (a0 := (24, .inl (fun _ => 0))) (N' := 24) hx hb (hts (.arrayClass .int) (by decide +kernel)) rfl hK hP hD hS hA (cz_int 24) (by decide +kernel) (by decide +kernel) (by decide +kernel) (Nat.le_of_ble_eq_true rfl) (Nat.le_of_ble_eq_true rfl) dX2_init_55 (fun q_13 cA_14 H hK hP hD hS => ?_)
  have hP : va_P (dC, dI) vwCl [(h0, .inr (2, [.ref q_1, .ref q_3, .ref q_5, .ref q_7, .ref q_9, .ref q_11, .null, .int 0])), (q_1, .inl (cA_2, 24, .inl (fun _ => 0))), (q_3, .inl (cA_4, 24, .inl (fun _ => 0))), (q_5, .inl (cA_6, 24, .inl (fun _ => 0))), (q_7, .inl (cA_8, 24, .inl (fun _ => 0))), (q_9, .inl (cA_10, 24, .inl (fun _ => 0))), (q_11, .inl (cA_12, 24, .inl (fun _ => 0))), (q_13, .inl (cA_14, 24, .inl (fun _ => 0)))] _ := hP
  have hD : va_D A [(h0, .inr (2, [.ref q_1, .ref q_3, .ref q_5, .ref q_7, .ref q_9, .ref q_11, .null, .int 0])), (q_1, .inl (cA_2, 24, .inl (fun _ => 0))), (q_3, .inl (cA_4, 24, .inl (fun _ => 0))), (q_5, .inl (cA_6, 24, .inl (fun _ => 0))), (q_7, .inl (cA_8, 24, .inl (fun _ => 0))), (q_9, .inl (cA_10, 24, .inl (fun _ => 0))), (q_11, .inl (cA_12, 24, .inl (fun _ => 0))), (q_13, .inl (cA_14, 24, .inl (fun _ => 0)))] := hD
  have hK : va_K (dC, dI) vwCl [(cA_2, .int), (cA_4, .int), (cA_6, .int), (cA_8, .int), (cA_10, .int), (cA_12, .int), (cA_14, .int)] s := hK
  refine W.widen (k := 7) (n := 168) (Nat.le_of_ble_eq_true rfl) (Nat.le_of_ble_eq_true rfl) ?_
  refine va_putF (D := (dC, dI)) (ci := 2) (v := .ref q_13) (ty := .array .int) (C := RX2) (T := TX2) (N := 8) hx hb hts in_X2_init_RX2 tyX2 tyX2_ok nmX2 hown hK hP hD hS 0 rfl rfl 6 (by decide) (hts (.fieldLink RX2 28 "FourTongues$Frames" "guardBases" "[I") (by decide +kernel)) (fun _ h9 => h9) rfl hin rfl (by decide +kernel) rfl rfl (Nat.le_of_ble_eq_true rfl) dX2_init_57 (fun H locs hP hD hS => ?_)
  have hP : va_P (dC, dI) vwCl [(h0, .inr (2, [.ref q_1, .ref q_3, .ref q_5, .ref q_7, .ref q_9, .ref q_11, .ref q_13, .int 0])), (q_1, .inl (cA_2, 24, .inl (fun _ => 0))), (q_3, .inl (cA_4, 24, .inl (fun _ => 0))), (q_5, .inl (cA_6, 24, .inl (fun _ => 0))), (q_7, .inl (cA_8, 24, .inl (fun _ => 0))), (q_9, .inl (cA_10, 24, .inl (fun _ => 0))), (q_11, .inl (cA_12, 24, .inl (fun _ => 0))), (q_13, .inl (cA_14, 24, .inl (fun _ => 0)))] _ := hP
  have hD : va_D A [(h0, .inr (2, [.ref q_1, .ref q_3, .ref q_5, .ref q_7, .ref q_9, .ref q_11, .ref q_13, .int 0])), (q_1, .inl (cA_2, 24, .inl (fun _ => 0))), (q_3, .inl (cA_4, 24, .inl (fun _ => 0))), (q_5, .inl (cA_6, 24, .inl (fun _ => 0))), (q_7, .inl (cA_8, 24, .inl (fun _ => 0))), (q_9, .inl (cA_10, 24, .inl (fun _ => 0))), (q_11, .inl (cA_12, 24, .inl (fun _ => 0))), (q_13, .inl (cA_14, 24, .inl (fun _ => 0)))] := hD
  refine lv_aload_n hx hb dX2_init_60 rfl (lv_at hl 0 rfl) ?_
  refine lv_iconst (v := 0) hx hb dX2_init_61 (by decide) ?_
  refine va_put (D := (dC, dI)) (ci := 2) (v := .int 0) (ty := .int) (C := RX2) (T := TX2) (N := 8) hx hb hts in_X2_init_RX2 tyX2 tyX2_ok nmX2 hown hK hP hD hS 0 rfl rfl 7 (by decide) (hts (.fieldLink RX2 31 "FourTongues$Frames" "count" "I") (by decide +kernel)) (fun _ h9 => h9) rfl (by decide +kernel) rfl rfl (Nat.le_of_ble_eq_true rfl) dX2_init_62 (fun H locs hP hD hS => ?_)
  have hP : va_P (dC, dI) vwCl [(h0, .inr (2, [.ref q_1, .ref q_3, .ref q_5, .ref q_7, .ref q_9, .ref q_11, .ref q_13, .int 0])), (q_1, .inl (cA_2, 24, .inl (fun _ => 0))), (q_3, .inl (cA_4, 24, .inl (fun _ => 0))), (q_5, .inl (cA_6, 24, .inl (fun _ => 0))), (q_7, .inl (cA_8, 24, .inl (fun _ => 0))), (q_9, .inl (cA_10, 24, .inl (fun _ => 0))), (q_11, .inl (cA_12, 24, .inl (fun _ => 0))), (q_13, .inl (cA_14, 24, .inl (fun _ => 0)))] _ := hP
  have hD : va_D A [(h0, .inr (2, [.ref q_1, .ref q_3, .ref q_5, .ref q_7, .ref q_9, .ref q_11, .ref q_13, .int 0])), (q_1, .inl (cA_2, 24, .inl (fun _ => 0))), (q_3, .inl (cA_4, 24, .inl (fun _ => 0))), (q_5, .inl (cA_6, 24, .inl (fun _ => 0))), (q_7, .inl (cA_8, 24, .inl (fun _ => 0))), (q_9, .inl (cA_10, 24, .inl (fun _ => 0))), (q_11, .inl (cA_12, 24, .inl (fun _ => 0))), (q_13, .inl (cA_14, 24, .inl (fun _ => 0)))] := hD
  have hP9 := hP.sub (ws' := [(h0, .inr (2, [.ref q_1, .ref q_3, .ref q_5, .ref q_7, .ref q_9, .ref q_11, .ref q_13, .int 0])), (q_1, .inl (cA_2, 24, .inl (fun _ => 0))), (q_3, .inl (cA_4, 24, .inl (fun _ => 0))), (q_5, .inl (cA_6, 24, .inl (fun _ => 0))), (q_7, .inl (cA_8, 24, .inl (fun _ => 0))), (q_9, .inl (cA_10, 24, .inl (fun _ => 0))), (q_11, .inl (cA_12, 24, .inl (fun _ => 0))), (q_13, .inl (cA_14, 24, .inl (fun _ => 0)))]) [0, 1, 2, 3, 4, 5, 6, 7] rfl
  have hD9 := hD.sub (ws' := [(h0, .inr (2, [.ref q_1, .ref q_3, .ref q_5, .ref q_7, .ref q_9, .ref q_11, .ref q_13, .int 0])), (q_1, .inl (cA_2, 24, .inl (fun _ => 0))), (q_3, .inl (cA_4, 24, .inl (fun _ => 0))), (q_5, .inl (cA_6, 24, .inl (fun _ => 0))), (q_7, .inl (cA_8, 24, .inl (fun _ => 0))), (q_9, .inl (cA_10, 24, .inl (fun _ => 0))), (q_11, .inl (cA_12, 24, .inl (fun _ => 0))), (q_13, .inl (cA_14, 24, .inl (fun _ => 0)))]) [0, 1, 2, 3, 4, 5, 6, 7] (by decide) rfl
  have hK9 := hK.sub (tys' := [(cA_2, .int), (cA_4, .int), (cA_6, .int), (cA_8, .int), (cA_10, .int), (cA_12, .int), (cA_14, .int)]) [0, 1, 2, 3, 4, 5, 6] rfl
  exact W.vret hx hb hr (fun t ht hW => ⟨⟨(), rfl, trivial, ⟨q_1, cA_2, q_3, cA_4, q_5, cA_6, q_7, cA_8, q_9, cA_10, q_11, cA_12, q_13, cA_14, by rw [ht]; exact hP9, va_K.moved hW.alike hK9, hD9⟩⟩, hS.F ht⟩) hS.2.2 dX2_init_65

set_option maxHeartbeats 4000000 in
set_option maxRecDepth 100000 in
theorem c_X3_init (l : Launch) (dC : Nat → ClassId) (dI : Nat → Nat → Nat) (sz : Nat) (h0 : Nat) : Met l yX3_init wsX3_init ({ frames := 2, cells := 9, slots := 2052, locals := 46 }) (va_Pc [.ref h0] (fun U => xM (dC, dI) sz [(h0, .inr (3, [.null, .null, .null, .null, .null, .null, .int 0]))] [] U)) (va_Qv (fun _ : Unit => True) (fun (_ : Unit) t => ∃ (q_1 : Nat), ∃ (cA_2 : ClassId), ∃ (q_3 : Nat), ∃ (cA_4 : ClassId), ∃ (q_5 : Nat), ∃ (cA_6 : ClassId), ∃ (q_7 : Nat), ∃ (cA_8 : ClassId), ∃ (q_9 : Nat), ∃ (cA_10 : ClassId), ∃ (q_11 : Nat), ∃ (q_12 : Nat), ∃ (cA_13 : ClassId), ∃ (q_14 : Nat), ∃ (cA_15 : ClassId), ∃ (q_16 : Nat), ∃ (cA_17 : ClassId), xB (dC, dI) [(h0, .inr (3, [.ref q_1, .ref q_3, .ref q_5, .ref q_7, .ref q_9, .ref q_11, .int 0])), (q_1, .inl (cA_2, 400, .inl (fun _ => 0))), (q_3, .inl (cA_4, 400, .inl (fun _ => 0))), (q_5, .inl (cA_6, 400, .inl (fun _ => 0))), (q_7, .inl (cA_8, 400, .inl (fun _ => 0))), (q_9, .inl (cA_10, 400, .inl (fun _ => 0))), (q_11, .inr (8, [.ref q_12, .ref q_14, .ref q_16, .int 0])), (q_12, .inl (cA_13, 16, .inl (fun _ => 0))), (q_14, .inl (cA_15, 16, .inr (.inl (fun _ => 0)))), (q_16, .inl (cA_17, 16, .inr (.inr (.inr (.inl (fun _ => 0))))))] [(cA_2, .int), (cA_4, .int), (cA_6, .int), (cA_8, .int), (cA_10, .int), (cA_13, .int), (cA_15, .long), (cA_17, .double)] (va_A [(h0, .inr (3, [.null, .null, .null, .null, .null, .null, .int 0]))] sz) t) (va_A [(h0, .inr (3, [.null, .null, .null, .null, .null, .null, .int 0]))] sz)) 9 2052 (va_A [(h0, .inr (3, [.null, .null, .null, .null, .null, .null, .int 0]))] sz) := by
  refine Met.ofW (cc := cX3_init) (maxL := 1) (ret := none) (by decide) rfl ?_
  intro p e s m args below meth c s₁ B hml hv
  obtain ⟨rfl, hsz, hP, hK, hD0⟩ := hv
  have hx := B.exec
  have hb := B.bytes
  have hr := B.returns
  have hts := atoms_spec (ws := wsX3_init) B.pre
  have hown : s.vm.findClass RX3 = some m.cls := findClass_of_methodNamed B.named
  have hlocks := B.notSynchronized
  have hin : meth.name = "<init>" := (name_of_methodNamed B.named B.method).1
  subst hsz
  have hD := hD0.self (sz := s.heap.size)
  generalize hAe : va_A [(h0, .inr (3, [.null, .null, .null, .null, .null, .null, .int 0]))] s.heap.size = A at hD ⊢
  have hA : ∀ q : Nat, s.heap.size ≤ q → A q := fun q h => by rw [← hAe]; exact Or.inr h
  have hS : va_S A s.heap s.heap [] := va_S.rf
  have hl := lv_entry ([.ref h0]) (n := 1) (Nat.le_of_ble_eq_true rfl)
  rw [lg_entry_eq]
  generalize (lg_sl ([.ref h0]) ++ List.replicate (1 - (lg_sl ([.ref h0])).length) Slot.unset).toArray = ls at hl ⊢
  have hl : lv_has ls 1 [(0, .ref h0)] := hl
  refine lv_aload_n hx hb dX3_init_0 rfl (lv_at hl 0 rfl) ?_
  refine W.objInit hx hb hown (hts (.methodLink RX3 1 objectInit) (by decide +kernel)) (hts (.instanceMethod objectInit) (by decide +kernel)) (hts (.code objectInit ⟨#[0xb1]⟩ 1 none) (by decide +kernel)) rfl (by rw [hml]; exact hl.1) rfl dX3_init_1 (Nat.le_of_ble_eq_true rfl) (Nat.le_of_ble_eq_true rfl) ?_
  refine W.eq (g2 := F0 m 4 ls []) rfl ?_
  refine lv_aload_n hx hb dX3_init_4 rfl (lv_at hl 0 rfl) ?_
  refine lv_sipush (v := 400) hx hb dX3_init_5 (by decide) ?_
  refine va_newa (atype := .int) (ty := .int) (a0 := (400, .inl (fun _ => 0))) (N' := 400) hx hb (hts (.arrayClass .int) (by decide +kernel)) rfl hK hP hD hS hA (cz_int 400) (by decide +kernel) (by decide +kernel) (by decide +kernel) (Nat.le_of_ble_eq_true rfl) (Nat.le_of_ble_eq_true rfl) dX3_init_8 (fun q_1 cA_2 H hK hP hD hS => ?_)
  have hP : va_P (dC, dI) vwCl [(h0, .inr (3, [.null, .null, .null, .null, .null, .null, .int 0])), (q_1, .inl (cA_2, 400, .inl (fun _ => 0)))] _ := hP
  have hD : va_D A [(h0, .inr (3, [.null, .null, .null, .null, .null, .null, .int 0])), (q_1, .inl (cA_2, 400, .inl (fun _ => 0)))] := hD
  have hK : va_K (dC, dI) vwCl [(cA_2, .int)] s := hK
  refine W.widen (k := 1) (n := 400) (Nat.le_of_ble_eq_true rfl) (Nat.le_of_ble_eq_true rfl) ?_
  refine va_putF (D := (dC, dI)) (ci := 3) (v := .ref q_1) (ty := .array .int) (C := RX3) (T := TX3) (N := 7) hx hb hts in_X3_init_RX3 tyX3 tyX3_ok nmX3 hown hK hP hD hS 0 rfl rfl 0 (by decide) (hts (.fieldLink RX3 9 "FourTongues$Guards" "kinds" "[I") (by decide +kernel)) (fun _ h9 => h9) rfl hin rfl (by decide +kernel) rfl rfl (Nat.le_of_ble_eq_true rfl) dX3_init_10 (fun H locs hP hD hS => ?_)
  have hP : va_P (dC, dI) vwCl [(h0, .inr (3, [.ref q_1, .null, .null, .null, .null, .null, .int 0])), (q_1, .inl (cA_2, 400, .inl (fun _ => 0)))] _ := hP
  have hD : va_D A [(h0, .inr (3, [.ref q_1, .null, .null, .null, .null, .null, .int 0])), (q_1, .inl (cA_2, 400, .inl (fun _ => 0)))] := hD
  refine lv_aload_n hx hb dX3_init_13 rfl (lv_at hl 0 rfl) ?_
  refine lv_sipush (v := 400) hx hb dX3_init_14 (by decide) ?_
  refine va_newa (atype := .int) (ty := .int) (a0 := (400, .inl (fun _ => 0))) (N' := 400) hx hb (hts (.arrayClass .int) (by decide +kernel)) rfl hK hP hD hS hA (cz_int 400) (by decide +kernel) (by decide +kernel) (by decide +kernel) (Nat.le_of_ble_eq_true rfl) (Nat.le_of_ble_eq_true rfl) dX3_init_17 (fun q_3 cA_4 H hK hP hD hS => ?_)
  have hP : va_P (dC, dI) vwCl [(h0, .inr (3, [.ref q_1, .null, .null, .null, .null, .null, .int 0])), (q_1, .inl (cA_2, 400, .inl (fun _ => 0))), (q_3, .inl (cA_4, 400, .inl (fun _ => 0)))] _ := hP
  have hD : va_D A [(h0, .inr (3, [.ref q_1, .null, .null, .null, .null, .null, .int 0])), (q_1, .inl (cA_2, 400, .inl (fun _ => 0))), (q_3, .inl (cA_4, 400, .inl (fun _ => 0)))] := hD
  have hK : va_K (dC, dI) vwCl [(cA_2, .int), (cA_4, .int)] s := hK
  refine W.widen (k := 2) (n := 800) (Nat.le_of_ble_eq_true rfl) (Nat.le_of_ble_eq_true rfl) ?_
  refine va_putF (D := (dC, dI)) (ci := 3) (v := .ref q_3) (ty := .array .int) (C := RX3) (T := TX3) (N := 7) hx hb hts in_X3_init_RX3 tyX3 tyX3_ok nmX3 hown hK hP hD hS 0 rfl rfl 1 (by decide) (hts (.fieldLink RX3 13 "FourTongues$Guards" "targets" "[I") (by decide +kernel)) (fun _ h9 => h9) rfl hin rfl (by decide +kernel) rfl rfl (Nat.le_of_ble_eq_true rfl) dX3_init_19 (fun H locs hP hD hS => ?_)
  have hP : va_P (dC, dI) vwCl [(h0, .inr (3, [.ref q_1, .ref q_3, .null, .null, .null, .null, .int 0])), (q_1, .inl (cA_2, 400, .inl (fun _ => 0))), (q_3, .inl (cA_4, 400, .inl (fun _ => 0)))] _ := hP
  have hD : va_D A [(h0, .inr (3, [.ref q_1, .ref q_3, .null, .null, .null, .null, .int 0])), (q_1, .inl (cA_2, 400, .inl (fun _ => 0))), (q_3, .inl (cA_4, 400, .inl (fun _ => 0)))] := hD
  refine lv_aload_n hx hb dX3_init_22 rfl (lv_at hl 0 rfl) ?_
  refine lv_sipush (v := 400) hx hb dX3_init_23 (by decide) ?_
  refine va_newa (atype := .int) (ty := .int) (a0 := (400, .inl (fun _ => 0))) (N' := 400) hx hb (hts (.arrayClass .int) (by decide +kernel)) rfl hK hP hD hS hA (cz_int 400) (by decide +kernel) (by decide +kernel) (by decide +kernel) (Nat.le_of_ble_eq_true rfl) (Nat.le_of_ble_eq_true rfl) dX3_init_26 (fun q_5 cA_6 H hK hP hD hS => ?_)
  have hP : va_P (dC, dI) vwCl [(h0, .inr (3, [.ref q_1, .ref q_3, .null, .null, .null, .null, .int 0])), (q_1, .inl (cA_2, 400, .inl (fun _ => 0))), (q_3, .inl (cA_4, 400, .inl (fun _ => 0))), (q_5, .inl (cA_6, 400, .inl (fun _ => 0)))] _ := hP
  have hD : va_D A [(h0, .inr (3, [.ref q_1, .ref q_3, .null, .null, .null, .null, .int 0])), (q_1, .inl (cA_2, 400, .inl (fun _ => 0))), (q_3, .inl (cA_4, 400, .inl (fun _ => 0))), (q_5, .inl (cA_6, 400, .inl (fun _ => 0)))] := hD
  have hK : va_K (dC, dI) vwCl [(cA_2, .int), (cA_4, .int), (cA_6, .int)] s := hK
  refine W.widen (k := 3) (n := 1200) (Nat.le_of_ble_eq_true rfl) (Nat.le_of_ble_eq_true rfl) ?_
  refine va_putF (D := (dC, dI)) (ci := 3) (v := .ref q_5) (ty := .array .int) (C := RX3) (T := TX3) (N := 7) hx hb hts in_X3_init_RX3 tyX3 tyX3_ok nmX3 hown hK hP hD hS 0 rfl rfl 2 (by decide) (hts (.fieldLink RX3 16 "FourTongues$Guards" "names" "[I") (by decide +kernel)) (fun _ h9 => h9) rfl hin rfl (by decide +kernel) rfl rfl (Nat.le_of_ble_eq_true rfl) dX3_init_28 (fun H locs hP hD hS => ?_)
  have hP : va_P (dC, dI) vwCl [(h0, .inr (3, [.ref q_1, .ref q_3, .ref q_5, .null, .null, .null, .int 0])), (q_1, .inl (cA_2, 400, .inl (fun _ => 0))), (q_3, .inl (cA_4, 400, .inl (fun _ => 0))), (q_5, .inl (cA_6, 400, .inl (fun _ => 0)))] _ := hP
  have hD : va_D A [(h0, .inr (3, [.ref q_1, .ref q_3, .ref q_5, .null, .null, .null, .int 0])), (q_1, .inl (cA_2, 400, .inl (fun _ => 0))), (q_3, .inl (cA_4, 400, .inl (fun _ => 0))), (q_5, .inl (cA_6, 400, .inl (fun _ => 0)))] := hD
  refine lv_aload_n hx hb dX3_init_31 rfl (lv_at hl 0 rfl) ?_
  refine lv_sipush (v := 400) hx hb dX3_init_32 (by decide) ?_
  refine va_newa (atype := .int) (ty := .int) (a0 := (400, .inl (fun _ => 0))) (N' := 400) hx hb (hts (.arrayClass .int) (by decide +kernel)) rfl hK hP hD hS hA (cz_int 400) (by decide +kernel) (by decide +kernel) (by decide +kernel) (Nat.le_of_ble_eq_true rfl) (Nat.le_of_ble_eq_true rfl) dX3_init_35 (fun q_7 cA_8 H hK hP hD hS => ?_)
  have hP : va_P (dC, dI) vwCl [(h0, .inr (3, [.ref q_1, .ref q_3, .ref q_5, .null, .null, .null, .int 0])), (q_1, .inl (cA_2, 400, .inl (fun _ => 0))), (q_3, .inl (cA_4, 400, .inl (fun _ => 0))), (q_5, .inl (cA_6, 400, .inl (fun _ => 0))), (q_7, .inl (cA_8, 400, .inl (fun _ => 0)))] _ := hP
  have hD : va_D A [(h0, .inr (3, [.ref q_1, .ref q_3, .ref q_5, .null, .null, .null, .int 0])), (q_1, .inl (cA_2, 400, .inl (fun _ => 0))), (q_3, .inl (cA_4, 400, .inl (fun _ => 0))), (q_5, .inl (cA_6, 400, .inl (fun _ => 0))), (q_7, .inl (cA_8, 400, .inl (fun _ => 0)))] := hD
  have hK : va_K (dC, dI) vwCl [(cA_2, .int), (cA_4, .int), (cA_6, .int), (cA_8, .int)] s := hK
  refine W.widen (k := 4) (n := 1600) (Nat.le_of_ble_eq_true rfl) (Nat.le_of_ble_eq_true rfl) ?_
  refine va_putF (D := (dC, dI)) (ci := 3) (v := .ref q_7) (ty := .array .int) (C := RX3) (T := TX3) (N := 7) hx hb hts in_X3_init_RX3 tyX3 tyX3_ok nmX3 hown hK hP hD hS 0 rfl rfl 3 (by decide) (hts (.fieldLink RX3 19 "FourTongues$Guards" "underWay" "[I") (by decide +kernel)) (fun _ h9 => h9) rfl hin rfl (by decide +kernel) rfl rfl (Nat.le_of_ble_eq_true rfl) dX3_init_37 (fun H locs hP hD hS => ?_)
  have hP : va_P (dC, dI) vwCl [(h0, .inr (3, [.ref q_1, .ref q_3, .ref q_5, .ref q_7, .null, .null, .int 0])), (q_1, .inl (cA_2, 400, .inl (fun _ => 0))), (q_3, .inl (cA_4, 400, .inl (fun _ => 0))), (q_5, .inl (cA_6, 400, .inl (fun _ => 0))), (q_7, .inl (cA_8, 400, .inl (fun _ => 0)))] _ := hP
  have hD : va_D A [(h0, .inr (3, [.ref q_1, .ref q_3, .ref q_5, .ref q_7, .null, .null, .int 0])), (q_1, .inl (cA_2, 400, .inl (fun _ => 0))), (q_3, .inl (cA_4, 400, .inl (fun _ => 0))), (q_5, .inl (cA_6, 400, .inl (fun _ => 0))), (q_7, .inl (cA_8, 400, .inl (fun _ => 0)))] := hD
  refine lv_aload_n hx hb dX3_init_40 rfl (lv_at hl 0 rfl) ?_
  refine lv_sipush (v := 400) hx hb dX3_init_41 (by decide) ?_
  refine va_newa (atype := .int) (ty := .int) (a0 := (400, .inl (fun _ => 0))) (N' := 400) hx hb (hts (.arrayClass .int) (by decide +kernel)) rfl hK hP hD hS hA (cz_int 400) (by decide +kernel) (by decide +kernel) (by decide +kernel) (Nat.le_of_ble_eq_true rfl) (Nat.le_of_ble_eq_true rfl) dX3_init_44 (fun q_9 cA_10 H hK hP hD hS => ?_)
  have hP : va_P (dC, dI) vwCl [(h0, .inr (3, [.ref q_1, .ref q_3, .ref q_5, .ref q_7, .null, .null, .int 0])), (q_1, .inl (cA_2, 400, .inl (fun _ => 0))), (q_3, .inl (cA_4, 400, .inl (fun _ => 0))), (q_5, .inl (cA_6, 400, .inl (fun _ => 0))), (q_7, .inl (cA_8, 400, .inl (fun _ => 0))), (q_9, .inl (cA_10, 400, .inl (fun _ => 0)))] _ := hP
  have hD : va_D A [(h0, .inr (3, [.ref q_1, .ref q_3, .ref q_5, .ref q_7, .null, .null, .int 0])), (q_1, .inl (cA_2, 400, .inl (fun _ => 0))), (q_3, .inl (cA_4, 400, .inl (fun _ => 0))), (q_5, .inl (cA_6, 400, .inl (fun _ => 0))), (q_7, .inl (cA_8, 400, .inl (fun _ => 0))), (q_9, .inl (cA_10, 400, .inl (fun _ => 0)))] := hD
  have hK : va_K (dC, dI) vwCl [(cA_2, .int), (cA_4, .int), (cA_6, .int), (cA_8, .int), (cA_10, .int)] s := hK
  refine W.widen (k := 5) (n := 2000) (Nat.le_of_ble_eq_true rfl) (Nat.le_of_ble_eq_true rfl) ?_
  refine va_putF (D := (dC, dI)) (ci := 3) (v := .ref q_9) (ty := .array .int) (C := RX3) (T := TX3) (N := 7) hx hb hts in_X3_init_RX3 tyX3 tyX3_ok nmX3 hown hK hP hD hS 0 rfl rfl 4 (by decide) (hts (.fieldLink RX3 22 "FourTongues$Guards" "failures" "[I") (by decide +kernel)) (fun _ h9 => h9) rfl hin rfl (by decide +kernel) rfl rfl (Nat.le_of_ble_eq_true rfl) dX3_init_46 (fun H locs hP hD hS => ?_)
  have hP : va_P (dC, dI) vwCl [(h0, .inr (3, [.ref q_1, .ref q_3, .ref q_5, .ref q_7, .ref q_9, .null, .int 0])), (q_1, .inl (cA_2, 400, .inl (fun _ => 0))), (q_3, .inl (cA_4, 400, .inl (fun _ => 0))), (q_5, .inl (cA_6, 400, .inl (fun _ => 0))), (q_7, .inl (cA_8, 400, .inl (fun _ => 0))), (q_9, .inl (cA_10, 400, .inl (fun _ => 0)))] _ := hP
  have hD : va_D A [(h0, .inr (3, [.ref q_1, .ref q_3, .ref q_5, .ref q_7, .ref q_9, .null, .int 0])), (q_1, .inl (cA_2, 400, .inl (fun _ => 0))), (q_3, .inl (cA_4, 400, .inl (fun _ => 0))), (q_5, .inl (cA_6, 400, .inl (fun _ => 0))), (q_7, .inl (cA_8, 400, .inl (fun _ => 0))), (q_9, .inl (cA_10, 400, .inl (fun _ => 0)))] := hD
  refine lv_aload_n hx hb dX3_init_49 rfl (lv_at hl 0 rfl) ?_
  refine va_new (ci := 8) (fs := [.null, .null, .null, .int 0]) (C := RX9) (T := TX9) (N := 4) hx hb hts in_X3_init_RX9 tyX9 tyX9_ok hown (hts (.classLink RX3 25 RX9) (by decide +kernel)) (hts (.instantiable RX9 4) (by decide +kernel)) (hts (.initialized RX9) (by decide +kernel)) hK hP hD hS hA rfl df_X9 (Nat.le_of_ble_eq_true rfl) (Nat.le_of_ble_eq_true rfl) dX3_init_50 (fun q_11 H hP hD hS => ?_)
  have hP : va_P (dC, dI) vwCl [(h0, .inr (3, [.ref q_1, .ref q_3, .ref q_5, .ref q_7, .ref q_9, .null, .int 0])), (q_1, .inl (cA_2, 400, .inl (fun _ => 0))), (q_3, .inl (cA_4, 400, .inl (fun _ => 0))), (q_5, .inl (cA_6, 400, .inl (fun _ => 0))), (q_7, .inl (cA_8, 400, .inl (fun _ => 0))), (q_9, .inl (cA_10, 400, .inl (fun _ => 0))), (q_11, .inr (8, [.null, .null, .null, .int 0]))] _ := hP
  have hD : va_D A [(h0, .inr (3, [.ref q_1, .ref q_3, .ref q_5, .ref q_7, .ref q_9, .null, .int 0])), (q_1, .inl (cA_2, 400, .inl (fun _ => 0))), (q_3, .inl (cA_4, 400, .inl (fun _ => 0))), (q_5, .inl (cA_6, 400, .inl (fun _ => 0))), (q_7, .inl (cA_8, 400, .inl (fun _ => 0))), (q_9, .inl (cA_10, 400, .inl (fun _ => 0))), (q_11, .inr (8, [.null, .null, .null, .int 0]))] := hD
  refine W.widen (k := 6) (n := 2004) (Nat.le_of_ble_eq_true rfl) (Nat.le_of_ble_eq_true rfl) ?_
  refine lv_dup hx hb dX3_init_53 rfl ?_
  refine lv_bipush (v := 16) hx hb dX3_init_54 (by decide) ?_
  have hPc := hP.sub (ws' := [(q_11, .inr (8, [.null, .null, .null, .int 0]))]) [6] rfl
  have hDc := hD.sub (ws' := [(q_11, .inr (8, [.null, .null, .null, .int 0]))]) [6] (by decide) rfl
  have hKc := hK.sub (tys' := []) [] rfl
  have hFc := va_free (wc := [(q_11, .inr (8, [.null, .null, .null, .int 0]))]) hD hS hA [6] rfl
  refine va_callv (va_runI (As := [.int 16]) (rest := [.ref q_11, .ref h0]) ⟨hx, hb, hml, hown, hts⟩ (c_X9_init_16 l dC dI H.size q_11 ) (cwI 1 hts gX3_init_X9_init rfl rfl rfl (hts (.initialized RX9) (by decide +kernel)) (hts (.methodLink RX3 27 yX9_init) (by decide +kernel)) (hts (.instanceMethod yX9_init) (by decide +kernel)) rfl (by decide +kernel) ⟨Nat.le_of_ble_eq_true rfl, Nat.le_of_ble_eq_true rfl⟩) ⟨fb_M, fun U hU hW => ⟨rfl, xM.at hPc hKc hDc hU hW⟩⟩ rfl rfl hl.1 rfl (lv_room (Nat.le_of_ble_eq_true rfl)) dX3_init_56 ⟨Nat.le_of_ble_eq_true rfl, Nat.le_of_ble_eq_true rfl⟩) hS (fun q _ h => hFc q h) hFc (fun u t H locs ht hvm hw hB hz1 hk1 hS => ?_)
  obtain ⟨q_12, cA_13, q_14, cA_15, q_16, cA_17, hB⟩ := hB
  obtain ⟨hP, hD, hK⟩ := xB.join (wr := [(h0, .inr (3, [.ref q_1, .ref q_3, .ref q_5, .ref q_7, .ref q_9, .null, .int 0])), (q_1, .inl (cA_2, 400, .inl (fun _ => 0))), (q_3, .inl (cA_4, 400, .inl (fun _ => 0))), (q_5, .inl (cA_6, 400, .inl (fun _ => 0))), (q_7, .inl (cA_8, 400, .inl (fun _ => 0))), (q_9, .inl (cA_10, 400, .inl (fun _ => 0)))]) (w1 := [(q_11, .inr (8, [.ref q_12, .ref q_14, .ref q_16, .int 0])), (q_12, .inl (cA_13, 16, .inl (fun _ => 0))), (q_14, .inl (cA_15, 16, .inr (.inl (fun _ => 0)))), (q_16, .inl (cA_17, 16, .inr (.inr (.inr (.inl (fun _ => 0))))))]) hP hD hK [6] [0, 1, 2, 3, 4, 5] rfl rfl (by decide) (by decide) hk1 hFc hB ht hvm
  have hP : va_P (dC, dI) vwCl [(h0, .inr (3, [.ref q_1, .ref q_3, .ref q_5, .ref q_7, .ref q_9, .null, .int 0])), (q_1, .inl (cA_2, 400, .inl (fun _ => 0))), (q_3, .inl (cA_4, 400, .inl (fun _ => 0))), (q_5, .inl (cA_6, 400, .inl (fun _ => 0))), (q_7, .inl (cA_8, 400, .inl (fun _ => 0))), (q_9, .inl (cA_10, 400, .inl (fun _ => 0))), (q_11, .inr (8, [.ref q_12, .ref q_14, .ref q_16, .int 0])), (q_12, .inl (cA_13, 16, .inl (fun _ => 0))), (q_14, .inl (cA_15, 16, .inr (.inl (fun _ => 0)))), (q_16, .inl (cA_17, 16, .inr (.inr (.inr (.inl (fun _ => 0))))))] _ := hP
  have hD : va_D A [(h0, .inr (3, [.ref q_1, .ref q_3, .ref q_5, .ref q_7, .ref q_9, .null, .int 0])), (q_1, .inl (cA_2, 400, .inl (fun _ => 0))), (q_3, .inl (cA_4, 400, .inl (fun _ => 0))), (q_5, .inl (cA_6, 400, .inl (fun _ => 0))), (q_7, .inl (cA_8, 400, .inl (fun _ => 0))), (q_9, .inl (cA_10, 400, .inl (fun _ => 0))), (q_11, .inr (8, [.ref q_12, .ref q_14, .ref q_16, .int 0])), (q_12, .inl (cA_13, 16, .inl (fun _ => 0))), (q_14, .inl (cA_15, 16, .inr (.inl (fun _ => 0)))), (q_16, .inl (cA_17, 16, .inr (.inr (.inr (.inl (fun _ => 0))))))] := hD
  have hK : va_K (dC, dI) vwCl [(cA_2, .int), (cA_4, .int), (cA_6, .int), (cA_8, .int), (cA_10, .int), (cA_13, .int), (cA_15, .long), (cA_17, .double)] s := hK
  refine W.widen (k := 9) (n := 2052) (Nat.le_of_ble_eq_true rfl) (Nat.le_of_ble_eq_true rfl) ?_
  refine va_putF (D := (dC, dI)) (ci := 3) (v := .ref q_11) (ty := .object "FourTongues$Row") (C := RX3) (T := TX3) (N := 7) hx hb hts in_X3_init_RX3 tyX3 tyX3_ok nmX3 hown hK hP hD hS 0 rfl rfl 5 (by decide) (hts (.fieldLink RX3 30 "FourTongues$Guards" "answers" "LFourTongues$Row;") (by decide +kernel)) (fun _ h9 => h9) rfl hin rfl (by decide +kernel) rfl rfl (Nat.le_of_ble_eq_true rfl) dX3_init_59 (fun H locs hP hD hS => ?_)
  have hP : va_P (dC, dI) vwCl [(h0, .inr (3, [.ref q_1, .ref q_3, .ref q_5, .ref q_7, .ref q_9, .ref q_11, .int 0])), (q_1, .inl (cA_2, 400, .inl (fun _ => 0))), (q_3, .inl (cA_4, 400, .inl (fun _ => 0))), (q_5, .inl (cA_6, 400, .inl (fun _ => 0))), (q_7, .inl (cA_8, 400, .inl (fun _ => 0))), (q_9, .inl (cA_10, 400, .inl (fun _ => 0))), (q_11, .inr (8, [.ref q_12, .ref q_14, .ref q_16, .int 0])), (q_12, .inl (cA_13, 16, .inl (fun _ => 0))), (q_14, .inl (cA_15, 16, .inr (.inl (fun _ => 0)))), (q_16, .inl (cA_17, 16, .inr (.inr (.inr (.inl (fun _ => 0))))))] _ := hP
  have hD : va_D A [(h0, .inr (3, [.ref q_1, .ref q_3, .ref q_5, .ref q_7, .ref q_9, .ref q_11, .int 0])), (q_1, .inl (cA_2, 400, .inl (fun _ => 0))), (q_3, .inl (cA_4, 400, .inl (fun _ => 0))), (q_5, .inl (cA_6, 400, .inl (fun _ => 0))), (q_7, .inl (cA_8, 400, .inl (fun _ => 0))), (q_9, .inl (cA_10, 400, .inl (fun _ => 0))), (q_11, .inr (8, [.ref q_12, .ref q_14, .ref q_16, .int 0])), (q_12, .inl (cA_13, 16, .inl (fun _ => 0))), (q_14, .inl (cA_15, 16, .inr (.inl (fun _ => 0)))), (q_16, .inl (cA_17, 16, .inr (.inr (.inr (.inl (fun _ => 0))))))] := hD
  refine lv_aload_n hx hb dX3_init_62 rfl (lv_at hl 0 rfl) ?_
  refine lv_iconst (v := 0) hx hb dX3_init_63 (by decide) ?_
  refine va_put (D := (dC, dI)) (ci := 3) (v := .int 0) (ty := .int) (C := RX3) (T := TX3) (N := 7) hx hb hts in_X3_init_RX3 tyX3 tyX3_ok nmX3 hown hK hP hD hS 0 rfl rfl 6 (by decide) (hts (.fieldLink RX3 34 "FourTongues$Guards" "count" "I") (by decide +kernel)) (fun _ h9 => h9) rfl (by decide +kernel) rfl rfl (Nat.le_of_ble_eq_true rfl) dX3_init_64 (fun H locs hP hD hS => ?_)
  have hP : va_P (dC, dI) vwCl [(h0, .inr (3, [.ref q_1, .ref q_3, .ref q_5, .ref q_7, .ref q_9, .ref q_11, .int 0])), (q_1, .inl (cA_2, 400, .inl (fun _ => 0))), (q_3, .inl (cA_4, 400, .inl (fun _ => 0))), (q_5, .inl (cA_6, 400, .inl (fun _ => 0))), (q_7, .inl (cA_8, 400, .inl (fun _ => 0))), (q_9, .inl (cA_10, 400, .inl (fun _ => 0))), (q_11, .inr (8, [.ref q_12, .ref q_14, .ref q_16, .int 0])), (q_12, .inl (cA_13, 16, .inl (fun _ => 0))), (q_14, .inl (cA_15, 16, .inr (.inl (fun _ => 0)))), (q_16, .inl (cA_17, 16, .inr (.inr (.inr (.inl (fun _ => 0))))))] _ := hP
  have hD : va_D A [(h0, .inr (3, [.ref q_1, .ref q_3, .ref q_5, .ref q_7, .ref q_9, .ref q_11, .int 0])), (q_1, .inl (cA_2, 400, .inl (fun _ => 0))), (q_3, .inl (cA_4, 400, .inl (fun _ => 0))), (q_5, .inl (cA_6, 400, .inl (fun _ => 0))), (q_7, .inl (cA_8, 400, .inl (fun _ => 0))), (q_9, .inl (cA_10, 400, .inl (fun _ => 0))), (q_11, .inr (8, [.ref q_12, .ref q_14, .ref q_16, .int 0])), (q_12, .inl (cA_13, 16, .inl (fun _ => 0))), (q_14, .inl (cA_15, 16, .inr (.inl (fun _ => 0)))), (q_16, .inl (cA_17, 16, .inr (.inr (.inr (.inl (fun _ => 0))))))] := hD
  have hP9 := hP.sub (ws' := [(h0, .inr (3, [.ref q_1, .ref q_3, .ref q_5, .ref q_7, .ref q_9, .ref q_11, .int 0])), (q_1, .inl (cA_2, 400, .inl (fun _ => 0))), (q_3, .inl (cA_4, 400, .inl (fun _ => 0))), (q_5, .inl (cA_6, 400, .inl (fun _ => 0))), (q_7, .inl (cA_8, 400, .inl (fun _ => 0))), (q_9, .inl (cA_10, 400, .inl (fun _ => 0))), (q_11, .inr (8, [.ref q_12, .ref q_14, .ref q_16, .int 0])), (q_12, .inl (cA_13, 16, .inl (fun _ => 0))), (q_14, .inl (cA_15, 16, .inr (.inl (fun _ => 0)))), (q_16, .inl (cA_17, 16, .inr (.inr (.inr (.inl (fun _ => 0))))))]) [0, 1, 2, 3, 4, 5, 6, 7, 8, 9] rfl
  have hD9 := hD.sub (ws' := [(h0, .inr (3, [.ref q_1, .ref q_3, .ref q_5, .ref q_7, .ref q_9, .ref q_11, .int 0])), (q_1, .inl (cA_2, 400, .inl (fun _ => 0))), (q_3, .inl (cA_4, 400, .inl (fun _ => 0))), (q_5, .inl (cA_6, 400, .inl (fun _ => 0))), (q_7, .inl (cA_8, 400, .inl (fun _ => 0))), (q_9, .inl (cA_10, 400, .inl (fun _ => 0))), (q_11, .inr (8, [.ref q_12, .ref q_14, .ref q_16, .int 0])), (q_12, .inl (cA_13, 16, .inl (fun _ => 0))), (q_14, .inl (cA_15, 16, .inr (.inl (fun _ => 0)))), (q_16, .inl (cA_17, 16, .inr (.inr (.inr (.inl (fun _ => 0))))))]) [0, 1, 2, 3, 4, 5, 6, 7, 8, 9] (by decide) rfl
  have hK9 := hK.sub (tys' := [(cA_2, .int), (cA_4, .int), (cA_6, .int), (cA_8, .int), (cA_10, .int), (cA_13, .int), (cA_15, .long), (cA_17, .double)]) [0, 1, 2, 3, 4, 5, 6, 7] rfl
  exact W.vret hx hb hr (fun t ht hW => ⟨⟨(), rfl, trivial, ⟨q_1, cA_2, q_3, cA_4, q_5, cA_6, q_7, cA_8, q_9, cA_10, q_11, q_12, cA_13, q_14, cA_15, q_16, cA_17, by rw [ht]; exact hP9, va_K.moved hW.alike hK9, hD9⟩⟩, hS.F ht⟩) hS.2.2 dX3_init_67
