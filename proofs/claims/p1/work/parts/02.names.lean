theorem goodIn_r {big : List Cond} (ws : List Cond) (ps : List Nat) (hp : ws = ps.filterMap (fun i => big[i]?)) (h : ws.all goodWord = true) : GoodIn big ws := by
  intro w hw
  have h1 := List.all_eq_true.mp h w hw
  rw [hp] at hw
  obtain ⟨i, -, hi⟩ := List.mem_filterMap.mp hw
  have hm : w ∈ big := by first | exact List.mem_of_getElem? hi | exact List.getElem?_mem hi
  exact ⟨hm, good_of_word h1⟩
theorem goodIn_app {big a b : List Cond} (ha : GoodIn big a) (hb : GoodIn big b) : GoodIn big (a ++ b) := fun w h => (List.mem_append.mp h).elim (ha w) (hb w)
def RX0 : String := "FourTongues$Borders"
def TX0 : u_T := fun k => match k with
  | 0 => ("FourTongues$Borders", "rules", "[I", true)
  | 1 => ("FourTongues$Borders", "defaults", "[I", true)
  | 2 => ("FourTongues$Borders", "entryBorders", "[I", true)
  | 3 => ("FourTongues$Borders", "entryWhats", "[I", true)
  | 4 => ("FourTongues$Borders", "entryAs", "[I", true)
  | _ => ("FourTongues$Borders", "entries", "I", false)
def tyX0 : Nat → FieldType := fun k => match k with
  | 0 => .array .int
  | 1 => .array .int
  | 2 => .array .int
  | 3 => .array .int
  | 4 => .array .int
  | _ => .int
abbrev wsX00 : List Cond := u_ws RX0 TX0 6
theorem nmX0 : ∀ a, a < 6 → ∀ b, b < 6 → a ≠ b → (TX0 a).2.1 ≠ (TX0 b).2.1 := by decide +kernel
theorem tyX0_ok : ∀ k, k < 6 → parseFieldDescriptor (TX0 k).2.2.1 = some (tyX0 k) := by decide +kernel
abbrev cX0_init : ByteArray := prog_2_method_1_code
def yX0_init : MethodName := ⟨RX0, "<init>", "()V"⟩
def RX1 : String := "FourTongues$Failures"
def TX1 : u_T := fun k => match k with
  | 0 => ("FourTongues$Failures", "facts", "[I", false)
  | 1 => ("FourTongues$Failures", "count", "I", false)
  | 2 => ("FourTongues$Failures", "values", "LFourTongues$Row;", true)
  | 3 => ("FourTongues$Failures", "lying", "[I", false)
  | _ => ("FourTongues$Failures", "lyingCount", "I", false)
def tyX1 : Nat → FieldType := fun k => match k with
  | 0 => .array .int
  | 1 => .int
  | 2 => .object "FourTongues$Row"
  | 3 => .array .int
  | _ => .int
abbrev wsX10 : List Cond := u_ws RX1 TX1 5
theorem nmX1 : ∀ a, a < 5 → ∀ b, b < 5 → a ≠ b → (TX1 a).2.1 ≠ (TX1 b).2.1 := by decide +kernel
theorem tyX1_ok : ∀ k, k < 5 → parseFieldDescriptor (TX1 k).2.2.1 = some (tyX1 k) := by decide +kernel
abbrev cX1_init : ByteArray := prog_3_method_1_code
def yX1_init : MethodName := ⟨RX1, "<init>", "()V"⟩
abbrev cX1_fact : ByteArray := prog_3_method_4_code
def yX1_fact : MethodName := ⟨RX1, "fact", "(II)I"⟩
abbrev cX1_source : ByteArray := prog_3_method_7_code
def yX1_source : MethodName := ⟨RX1, "source", "(II)I"⟩
abbrev cX1_lower : ByteArray := prog_3_method_8_code
def yX1_lower : MethodName := ⟨RX1, "lower", "(II)I"⟩
def RX2 : String := "FourTongues$Frames"
def TX2 : u_T := fun k => match k with
  | 0 => ("FourTongues$Frames", "tongues", "[I", true)
  | 1 => ("FourTongues$Frames", "functions", "[I", true)
  | 2 => ("FourTongues$Frames", "bases", "[I", true)
  | 3 => ("FourTongues$Frames", "floors", "[I", true)
  | 4 => ("FourTongues$Frames", "tops", "[I", true)
  | 5 => ("FourTongues$Frames", "calledAt", "[I", true)
  | 6 => ("FourTongues$Frames", "guardBases", "[I", true)
  | _ => ("FourTongues$Frames", "count", "I", false)
def tyX2 : Nat → FieldType := fun k => match k with
  | 0 => .array .int
  | 1 => .array .int
  | 2 => .array .int
  | 3 => .array .int
  | 4 => .array .int
  | 5 => .array .int
  | 6 => .array .int
  | _ => .int
abbrev wsX20 : List Cond := u_ws RX2 TX2 8
theorem nmX2 : ∀ a, a < 8 → ∀ b, b < 8 → a ≠ b → (TX2 a).2.1 ≠ (TX2 b).2.1 := by decide +kernel
theorem tyX2_ok : ∀ k, k < 8 → parseFieldDescriptor (TX2 k).2.2.1 = some (tyX2 k) := by decide +kernel
abbrev cX2_init : ByteArray := prog_4_method_1_code
def yX2_init : MethodName := ⟨RX2, "<init>", "()V"⟩
def RX3 : String := "FourTongues$Guards"
def TX3 : u_T := fun k => match k with
  | 0 => ("FourTongues$Guards", "kinds", "[I", true)
  | 1 => ("FourTongues$Guards", "targets", "[I", true)
  | 2 => ("FourTongues$Guards", "names", "[I", true)
  | 3 => ("FourTongues$Guards", "underWay", "[I", true)
  | 4 => ("FourTongues$Guards", "failures", "[I", true)
  | 5 => ("FourTongues$Guards", "answers", "LFourTongues$Row;", true)
  | _ => ("FourTongues$Guards", "count", "I", false)
def tyX3 : Nat → FieldType := fun k => match k with
  | 0 => .array .int
  | 1 => .array .int
  | 2 => .array .int
  | 3 => .array .int
  | 4 => .array .int
  | 5 => .object "FourTongues$Row"
  | _ => .int
abbrev wsX30 : List Cond := u_ws RX3 TX3 7
theorem nmX3 : ∀ a, a < 7 → ∀ b, b < 7 → a ≠ b → (TX3 a).2.1 ≠ (TX3 b).2.1 := by decide +kernel
theorem tyX3_ok : ∀ k, k < 7 → parseFieldDescriptor (TX3 k).2.2.1 = some (tyX3 k) := by decide +kernel
abbrev cX3_init : ByteArray := prog_5_method_1_code
def yX3_init : MethodName := ⟨RX3, "<init>", "()V"⟩
def RX4 : String := "FourTongues$Machine"
def TX4 : u_T := fun k => match k with
  | 0 => ("FourTongues$Machine", "programs", "[LFourTongues$Program;", true)
  | 1 => ("FourTongues$Machine", "names", "LFourTongues$Names;", true)
  | 2 => ("FourTongues$Machine", "borders", "LFourTongues$Borders;", true)
  | 3 => ("FourTongues$Machine", "stack", "LFourTongues$Row;", true)
  | 4 => ("FourTongues$Machine", "heap", "LFourTongues$Row;", true)
  | 5 => ("FourTongues$Machine", "marks", "LFourTongues$Row;", true)
  | 6 => ("FourTongues$Machine", "failures", "LFourTongues$Failures;", true)
  | 7 => ("FourTongues$Machine", "frames", "LFourTongues$Frames;", true)
  | 8 => ("FourTongues$Machine", "guards", "LFourTongues$Guards;", true)
  | 9 => ("FourTongues$Machine", "tally", "[I", true)
  | 10 => ("FourTongues$Machine", "program", "LFourTongues$Program;", false)
  | 11 => ("FourTongues$Machine", "at", "I", false)
  | 12 => ("FourTongues$Machine", "pc", "I", false)
  | 13 => ("FourTongues$Machine", "state", "I", false)
  | 14 => ("FourTongues$Machine", "carried", "I", false)
  | 15 => ("FourTongues$Machine", "cameOut", "I", false)
  | _ => ("FourTongues$Machine", "answer", "J", false)
def tyX4 : Nat → FieldType := fun k => match k with
  | 0 => .array (.object "FourTongues$Program")
  | 1 => .object "FourTongues$Names"
  | 2 => .object "FourTongues$Borders"
  | 3 => .object "FourTongues$Row"
  | 4 => .object "FourTongues$Row"
  | 5 => .object "FourTongues$Row"
  | 6 => .object "FourTongues$Failures"
  | 7 => .object "FourTongues$Frames"
  | 8 => .object "FourTongues$Guards"
  | 9 => .array .int
  | 10 => .object "FourTongues$Program"
  | 11 => .int
  | 12 => .int
  | 13 => .int
  | 14 => .int
  | 15 => .int
  | _ => .long
abbrev wsX40 : List Cond := u_ws RX4 TX4 17
theorem nmX4 : ∀ a, a < 17 → ∀ b, b < 17 → a ≠ b → (TX4 a).2.1 ≠ (TX4 b).2.1 := by decide +kernel
theorem tyX4_ok : ∀ k, k < 17 → parseFieldDescriptor (TX4 k).2.2.1 = some (tyX4 k) := by decide +kernel
abbrev cX4_init : ByteArray := prog_6_method_1_code
def yX4_init : MethodName := ⟨RX4, "<init>", "([LFourTongues$Program;LFourTongues$Names;LFourTongues$Borders;LFourTongues$Program;)V"⟩
abbrev cX4_told : ByteArray := prog_6_method_2_code
def yX4_told : MethodName := ⟨RX4, "told", "(I)I"⟩
abbrev cX4_answered : ByteArray := prog_6_method_3_code
def yX4_answered : MethodName := ⟨RX4, "answered", "()J"⟩
abbrev cX4_markOf : ByteArray := prog_6_method_4_code
def yX4_markOf : MethodName := ⟨RX4, "markOf", "(I)J"⟩
abbrev cX4_tongueOfMark : ByteArray := prog_6_method_5_code
def yX4_tongueOfMark : MethodName := ⟨RX4, "tongueOfMark", "(I)I"⟩
abbrev cX4_factOf : ByteArray := prog_6_method_6_code
def yX4_factOf : MethodName := ⟨RX4, "factOf", "(II)I"⟩
abbrev cX4_factUnder : ByteArray := prog_6_method_7_code
def yX4_factUnder : MethodName := ⟨RX4, "factUnder", "(III)I"⟩
def RX5 : String := "FourTongues$Names"
def TX5 : u_T := fun k => match k with
  | 0 => ("FourTongues$Names", "packed", "[J", true)
  | 1 => ("FourTongues$Names", "above", "[I", true)
  | 2 => ("FourTongues$Names", "keptAbove", "[I", true)
  | 3 => ("FourTongues$Names", "count", "I", false)
  | _ => ("FourTongues$Names", "keptCount", "I", false)
def tyX5 : Nat → FieldType := fun k => match k with
  | 0 => .array .long
  | 1 => .array .int
  | 2 => .array .int
  | 3 => .int
  | _ => .int
abbrev wsX50 : List Cond := u_ws RX5 TX5 5
theorem nmX5 : ∀ a, a < 5 → ∀ b, b < 5 → a ≠ b → (TX5 a).2.1 ≠ (TX5 b).2.1 := by decide +kernel
theorem tyX5_ok : ∀ k, k < 5 → parseFieldDescriptor (TX5 k).2.2.1 = some (tyX5 k) := by decide +kernel
abbrev cX5_init : ByteArray := prog_7_method_1_code
def yX5_init : MethodName := ⟨RX5, "<init>", "()V"⟩
abbrev cX5_inAll : ByteArray := prog_7_method_2_code
def yX5_inAll : MethodName := ⟨RX5, "inAll", "()I"⟩
def RX6 : String := "FourTongues$Numbers"
abbrev cX6_bits : ByteArray := prog_8_method_15_code
def yX6_bits : MethodName := ⟨RX6, "bits", "(D)J"⟩
def RX7 : String := "FourTongues$Parser"
def TX7 : u_T := fun k => match k with
  | 0 => ("FourTongues$Parser", "tokens", "LFourTongues$Tokens;", true)
  | 1 => ("FourTongues$Parser", "names", "LFourTongues$Names;", true)
  | 2 => ("FourTongues$Parser", "program", "LFourTongues$Program;", false)
  | 3 => ("FourTongues$Parser", "faults", "[I", true)
  | 4 => ("FourTongues$Parser", "variables", "[J", true)
  | 5 => ("FourTongues$Parser", "variableCount", "I", false)
  | 6 => ("FourTongues$Parser", "counted", "I", false)
  | 7 => ("FourTongues$Parser", "told", "I", false)
  | 8 => ("FourTongues$Parser", "tongue", "I", false)
  | 9 => ("FourTongues$Parser", "depth", "I", false)
  | _ => ("FourTongues$Parser", "place", "I", false)
def tyX7 : Nat → FieldType := fun k => match k with
  | 0 => .object "FourTongues$Tokens"
  | 1 => .object "FourTongues$Names"
  | 2 => .object "FourTongues$Program"
  | 3 => .array .int
  | 4 => .array .long
  | 5 => .int
  | 6 => .int
  | 7 => .int
  | 8 => .int
  | 9 => .int
  | _ => .int
abbrev wsX70 : List Cond := u_ws RX7 TX7 11
theorem nmX7 : ∀ a, a < 11 → ∀ b, b < 11 → a ≠ b → (TX7 a).2.1 ≠ (TX7 b).2.1 := by decide +kernel
theorem tyX7_ok : ∀ k, k < 11 → parseFieldDescriptor (TX7 k).2.2.1 = some (tyX7 k) := by decide +kernel
abbrev cX7_init : ByteArray := prog_9_method_1_code
def yX7_init : MethodName := ⟨RX7, "<init>", "([BLFourTongues$Names;LFourTongues$Program;)V"⟩
def RX8 : String := "FourTongues$Program"
def TX8 : u_T := fun k => match k with
  | 0 => ("FourTongues$Program", "code", "[I", false)
  | 1 => ("FourTongues$Program", "length", "I", false)
  | 2 => ("FourTongues$Program", "constants", "LFourTongues$Row;", true)
  | 3 => ("FourTongues$Program", "names", "[J", true)
  | 4 => ("FourTongues$Program", "starts", "[I", true)
  | 5 => ("FourTongues$Program", "parameters", "[I", true)
  | 6 => ("FourTongues$Program", "variables", "[I", true)
  | _ => ("FourTongues$Program", "functions", "I", false)
def tyX8 : Nat → FieldType := fun k => match k with
  | 0 => .array .int
  | 1 => .int
  | 2 => .object "FourTongues$Row"
  | 3 => .array .long
  | 4 => .array .int
  | 5 => .array .int
  | 6 => .array .int
  | _ => .int
abbrev wsX80 : List Cond := u_ws RX8 TX8 8
theorem nmX8 : ∀ a, a < 8 → ∀ b, b < 8 → a ≠ b → (TX8 a).2.1 ≠ (TX8 b).2.1 := by decide +kernel
theorem tyX8_ok : ∀ k, k < 8 → parseFieldDescriptor (TX8 k).2.2.1 = some (tyX8 k) := by decide +kernel
abbrev cX8_init : ByteArray := prog_10_method_1_code
def yX8_init : MethodName := ⟨RX8, "<init>", "()V"⟩
def RX9 : String := "FourTongues$Row"
def TX9 : u_T := fun k => match k with
  | 0 => ("FourTongues$Row", "kinds", "[I", false)
  | 1 => ("FourTongues$Row", "wholes", "[J", false)
  | 2 => ("FourTongues$Row", "reals", "[D", false)
  | _ => ("FourTongues$Row", "count", "I", false)
def tyX9 : Nat → FieldType := fun k => match k with
  | 0 => .array .int
  | 1 => .array .long
  | 2 => .array .double
  | _ => .int
abbrev wsX90 : List Cond := u_ws RX9 TX9 4
theorem nmX9 : ∀ a, a < 4 → ∀ b, b < 4 → a ≠ b → (TX9 a).2.1 ≠ (TX9 b).2.1 := by decide +kernel
theorem tyX9_ok : ∀ k, k < 4 → parseFieldDescriptor (TX9 k).2.2.1 = some (tyX9 k) := by decide +kernel
abbrev cX9_init : ByteArray := prog_11_method_1_code
def yX9_init : MethodName := ⟨RX9, "<init>", "(I)V"⟩
abbrev cX9_count : ByteArray := prog_11_method_2_code
def yX9_count : MethodName := ⟨RX9, "count", "()I"⟩
abbrev cX9_kind : ByteArray := prog_11_method_3_code
def yX9_kind : MethodName := ⟨RX9, "kind", "(I)I"⟩
abbrev cX9_whole : ByteArray := prog_11_method_4_code
def yX9_whole : MethodName := ⟨RX9, "whole", "(I)J"⟩
abbrev cX9_real : ByteArray := prog_11_method_5_code
def yX9_real : MethodName := ⟨RX9, "real", "(I)D"⟩
def RX10 : String := "FourTongues$Tokens"
def TX10 : u_T := fun k => match k with
  | 0 => ("FourTongues$Tokens", "text", "[B", true)
  | 1 => ("FourTongues$Tokens", "words", "[J", true)
  | 2 => ("FourTongues$Tokens", "kinds", "[I", true)
  | 3 => ("FourTongues$Tokens", "places", "[I", true)
  | 4 => ("FourTongues$Tokens", "wholes", "[J", true)
  | 5 => ("FourTongues$Tokens", "reals", "[D", true)
  | 6 => ("FourTongues$Tokens", "count", "I", false)
  | 7 => ("FourTongues$Tokens", "length", "I", false)
  | 8 => ("FourTongues$Tokens", "tongue", "I", false)
  | 9 => ("FourTongues$Tokens", "at", "I", false)
  | 10 => ("FourTongues$Tokens", "now", "I", false)
  | 11 => ("FourTongues$Tokens", "stopped", "Z", false)
  | 12 => ("FourTongues$Tokens", "kind", "I", false)
  | 13 => ("FourTongues$Tokens", "place", "I", false)
  | 14 => ("FourTongues$Tokens", "whole", "J", false)
  | _ => ("FourTongues$Tokens", "real", "D", false)
def tyX10 : Nat → FieldType := fun k => match k with
  | 0 => .array .byte
  | 1 => .array .long
  | 2 => .array .int
  | 3 => .array .int
  | 4 => .array .long
  | 5 => .array .double
  | 6 => .int
  | 7 => .int
  | 8 => .int
  | 9 => .int
  | 10 => .int
  | 11 => .boolean
  | 12 => .int
  | 13 => .int
  | 14 => .long
  | _ => .double
abbrev wsX100 : List Cond := u_ws RX10 TX10 16
theorem nmX10 : ∀ a, a < 16 → ∀ b, b < 16 → a ≠ b → (TX10 a).2.1 ≠ (TX10 b).2.1 := by decide +kernel
theorem tyX10_ok : ∀ k, k < 16 → parseFieldDescriptor (TX10 k).2.2.1 = some (tyX10 k) := by decide +kernel
abbrev cX10_init : ByteArray := prog_12_method_1_code
def yX10_init : MethodName := ⟨RX10, "<init>", "([B)V"⟩
def RX11 : String := "FourTongues"
def TX11 : u_T := fun k => match k with
  | 0 => ("FourTongues", "tape", "[B", true)
  | 1 => ("FourTongues", "taped", "I", false)
  | 2 => ("FourTongues", "faultKind", "I", false)
  | 3 => ("FourTongues", "names", "LFourTongues$Names;", true)
  | 4 => ("FourTongues", "borders", "LFourTongues$Borders;", true)
  | 5 => ("FourTongues", "programs", "[LFourTongues$Program;", true)
  | 6 => ("FourTongues", "draft", "LFourTongues$Program;", false)
  | 7 => ("FourTongues", "parser", "LFourTongues$Parser;", true)
  | _ => ("FourTongues", "machine", "LFourTongues$Machine;", true)
def tyX11 : Nat → FieldType := fun k => match k with
  | 0 => .array .byte
  | 1 => .int
  | 2 => .int
  | 3 => .object "FourTongues$Names"
  | 4 => .object "FourTongues$Borders"
  | 5 => .array (.object "FourTongues$Program")
  | 6 => .object "FourTongues$Program"
  | 7 => .object "FourTongues$Parser"
  | _ => .object "FourTongues$Machine"
abbrev wsX110 : List Cond := u_ws RX11 TX11 9
theorem nmX11 : ∀ a, a < 9 → ∀ b, b < 9 → a ≠ b → (TX11 a).2.1 ≠ (TX11 b).2.1 := by decide +kernel
theorem tyX11_ok : ∀ k, k < 9 → parseFieldDescriptor (TX11 k).2.2.1 = some (tyX11 k) := by decide +kernel
abbrev cX11_init : ByteArray := prog_1_method_1_code
def yX11_init : MethodName := ⟨RX11, "<init>", "()V"⟩
abbrev cX11_feed : ByteArray := prog_1_method_2_code
def yX11_feed : MethodName := ⟨RX11, "feed", "(IIIII)I"⟩
abbrev cX11_fault : ByteArray := prog_1_method_4_code
def yX11_fault : MethodName := ⟨RX11, "fault", "()I"⟩
abbrev cX11_look : ByteArray := prog_1_method_9_code
def yX11_look : MethodName := ⟨RX11, "look", "(I)I"⟩
abbrev cX11_answer : ByteArray := prog_1_method_10_code
def yX11_answer : MethodName := ⟨RX11, "answer", "()J"⟩
abbrev cX11_mark : ByteArray := prog_1_method_11_code
def yX11_mark : MethodName := ⟨RX11, "mark", "(I)J"⟩
abbrev cX11_markTongue : ByteArray := prog_1_method_12_code
def yX11_markTongue : MethodName := ⟨RX11, "markTongue", "(I)I"⟩
abbrev cX11_failure : ByteArray := prog_1_method_13_code
def yX11_failure : MethodName := ⟨RX11, "failure", "(II)I"⟩
abbrev cX11_under : ByteArray := prog_1_method_14_code
def yX11_under : MethodName := ⟨RX11, "under", "(III)I"⟩
abbrev cX11_addBytes : ByteArray := prog_1_method_15_code
def yX11_addBytes : MethodName := ⟨RX11, "addBytes", "(I)V"⟩
abbrev cX11_isTongue : ByteArray := prog_1_method_17_code
def yX11_isTongue : MethodName := ⟨RX11, "isTongue", "(I)Z"⟩
def RX12 : String := "FourTonguesModel"
def TX12 : u_T := fun k => match k with
  | 0 => ("FourTonguesModel", "thrown", "I", false)
  | 1 => ("FourTonguesModel", "tape", "[I", true)
  | 2 => ("FourTonguesModel", "taped", "I", false)
  | 3 => ("FourTonguesModel", "names", "[J", true)
  | 4 => ("FourTonguesModel", "namesMany", "I", false)
  | 5 => ("FourTonguesModel", "parents", "[I", true)
  | 6 => ("FourTonguesModel", "at", "I", false)
  | 7 => ("FourTonguesModel", "size", "I", false)
  | 8 => ("FourTonguesModel", "sort", "I", false)
  | 9 => ("FourTonguesModel", "place", "I", false)
  | 10 => ("FourTonguesModel", "word", "J", false)
  | 11 => ("FourTonguesModel", "which", "I", false)
  | 12 => ("FourTonguesModel", "number", "J", false)
  | 13 => ("FourTonguesModel", "sign", "I", false)
  | 14 => ("FourTonguesModel", "tongue", "I", false)
  | 15 => ("FourTonguesModel", "fault1", "I", false)
  | 16 => ("FourTonguesModel", "fault2", "I", false)
  | 17 => ("FourTonguesModel", "fault3", "I", false)
  | 18 => ("FourTonguesModel", "nested", "I", false)
  | 19 => ("FourTonguesModel", "ops", "[I", true)
  | 20 => ("FourTonguesModel", "args", "[J", true)
  | 21 => ("FourTonguesModel", "seconds", "[I", true)
  | 22 => ("FourTonguesModel", "code", "I", false)
  | 23 => ("FourTonguesModel", "functionNames", "[J", true)
  | 24 => ("FourTonguesModel", "functionAt", "[I", true)
  | 25 => ("FourTonguesModel", "functionParams", "[I", true)
  | 26 => ("FourTonguesModel", "functionSlots", "[I", true)
  | 27 => ("FourTonguesModel", "functions", "[I", true)
  | 28 => ("FourTonguesModel", "newParents", "[I", true)
  | 29 => ("FourTonguesModel", "newNames", "I", false)
  | 30 => ("FourTonguesModel", "slots", "[J", true)
  | 31 => ("FourTonguesModel", "slotsMany", "I", false)
  | 32 => ("FourTonguesModel", "variables", "I", false)
  | 33 => ("FourTonguesModel", "overs", "[I", true)
  | 34 => ("FourTonguesModel", "keptAt", "I", false)
  | 35 => ("FourTonguesModel", "keptPlace", "I", false)
  | 36 => ("FourTonguesModel", "keptWord", "J", false)
  | 37 => ("FourTonguesModel", "keptCode", "I", false)
  | 38 => ("FourTonguesModel", "waiting", "[I", true)
  | 39 => ("FourTonguesModel", "waitingMany", "I", false)
  | 40 => ("FourTonguesModel", "latestFault", "I", false)
  | 41 => ("FourTonguesModel", "fTongue", "[I", true)
  | 42 => ("FourTonguesModel", "fFunction", "[I", true)
  | 43 => ("FourTonguesModel", "fPc", "[I", true)
  | 44 => ("FourTonguesModel", "fPlace", "[I", true)
  | 45 => ("FourTonguesModel", "fStack", "[I", true)
  | 46 => ("FourTonguesModel", "fBlocks", "[I", true)
  | 47 => ("FourTonguesModel", "frames", "I", false)
  | 48 => ("FourTonguesModel", "framesMost", "I", false)
  | 49 => ("FourTonguesModel", "varKinds", "[B", true)
  | 50 => ("FourTonguesModel", "varBits", "[J", true)
  | 51 => ("FourTonguesModel", "kinds", "[B", true)
  | 52 => ("FourTonguesModel", "bits", "[J", true)
  | 53 => ("FourTonguesModel", "many", "I", false)
  | 54 => ("FourTonguesModel", "bKind", "[I", true)
  | 55 => ("FourTonguesModel", "bTo", "[I", true)
  | 56 => ("FourTonguesModel", "bWhat", "[I", true)
  | 57 => ("FourTonguesModel", "bMany", "[I", true)
  | 58 => ("FourTonguesModel", "bPending", "[I", true)
  | 59 => ("FourTonguesModel", "bPendingKind", "[I", true)
  | 60 => ("FourTonguesModel", "bPendingBits", "[J", true)
  | 61 => ("FourTonguesModel", "blocks", "I", false)
  | 62 => ("FourTonguesModel", "arrayFrom", "[I", true)
  | 63 => ("FourTonguesModel", "arraySize", "[I", true)
  | 64 => ("FourTonguesModel", "arrayTongue", "[I", true)
  | 65 => ("FourTonguesModel", "arrays", "I", false)
  | 66 => ("FourTonguesModel", "cellKinds", "[B", true)
  | 67 => ("FourTonguesModel", "cellBits", "[J", true)
  | 68 => ("FourTonguesModel", "cells", "I", false)
  | 69 => ("FourTonguesModel", "cellsCounted", "I", false)
  | 70 => ("FourTonguesModel", "gTongue", "[I", true)
  | 71 => ("FourTonguesModel", "gWhat", "[I", true)
  | 72 => ("FourTonguesModel", "gKind", "[B", true)
  | 73 => ("FourTonguesModel", "gBits", "[J", true)
  | 74 => ("FourTonguesModel", "gPlace", "[I", true)
  | 75 => ("FourTonguesModel", "gFunction", "[I", true)
  | 76 => ("FourTonguesModel", "gHow", "[I", true)
  | 77 => ("FourTonguesModel", "gFrom", "[I", true)
  | 78 => ("FourTonguesModel", "gUnder", "[I", true)
  | 79 => ("FourTonguesModel", "lyingOnes", "[I", true)
  | 80 => ("FourTonguesModel", "lyingNext", "[I", true)
  | 81 => ("FourTonguesModel", "lyingMany", "I", false)
  | 82 => ("FourTonguesModel", "failures", "I", false)
  | 83 => ("FourTonguesModel", "steps", "I", false)
  | 84 => ("FourTonguesModel", "stepsEver", "I", false)
  | 85 => ("FourTonguesModel", "marks", "I", false)
  | 86 => ("FourTonguesModel", "markBits", "[J", true)
  | 87 => ("FourTonguesModel", "markTongues", "[I", true)
  | 88 => ("FourTonguesModel", "dropped", "I", false)
  | 89 => ("FourTonguesModel", "borders", "I", false)
  | 90 => ("FourTonguesModel", "turnedFailures", "I", false)
  | 91 => ("FourTonguesModel", "theCell", "I", false)
  | 92 => ("FourTonguesModel", "hasRun", "Z", false)
  | 93 => ("FourTonguesModel", "outcome", "I", false)
  | 94 => ("FourTonguesModel", "isOver", "Z", false)
  | 95 => ("FourTonguesModel", "answerKind", "I", false)
  | 96 => ("FourTonguesModel", "answerBits", "J", false)
  | 97 => ("FourTonguesModel", "failed", "I", false)
  | 98 => ("FourTonguesModel", "isTurned", "Z", false)
  | 99 => ("FourTonguesModel", "turned", "J", false)
  | 100 => ("FourTonguesModel", "rules", "[I", true)
  | 101 => ("FourTonguesModel", "entryBorder", "[I", true)
  | 102 => ("FourTonguesModel", "entryWhat", "[I", true)
  | 103 => ("FourTonguesModel", "entryAs", "[I", true)
  | 104 => ("FourTonguesModel", "entries", "I", false)
  | _ => ("FourTonguesModel", "defaults", "[I", true)
def RJ0 : String := "java/lang/String"
abbrev cJ0_length_8abf5 : ByteArray := prog_20_method_54_code
def yJ0_length_8abf5 : MethodName := ⟨RJ0, "length", "()I"⟩
abbrev cJ0_charAt_5068e : ByteArray := prog_20_method_56_code
def yJ0_charAt_5068e : MethodName := ⟨RJ0, "charAt", "(I)C"⟩
abbrev cJ0_coder_7d493 : ByteArray := prog_20_method_152_code
def yJ0_coder_7d493 : MethodName := ⟨RJ0, "coder", "()B"⟩
abbrev cJ0_isLatin1_aae02 : ByteArray := prog_20_method_154_code
def yJ0_isLatin1_aae02 : MethodName := ⟨RJ0, "isLatin1", "()Z"⟩
abbrev cJ0_checkIndex_df160 : ByteArray := prog_20_method_155_code
def yJ0_checkIndex_df160 : MethodName := ⟨RJ0, "checkIndex", "(II)V"⟩
def RJ1 : String := "java/lang/StringLatin1"
abbrev cJ1_charAt_3b067 : ByteArray := prog_21_method_2_code
def yJ1_charAt_3b067 : MethodName := ⟨RJ1, "charAt", "([BI)C"⟩
def RJ2 : String := "java/lang/StringUTF16"
abbrev cJ2_getChar_3b067 : ByteArray := prog_22_method_5_code
def yJ2_getChar_3b067 : MethodName := ⟨RJ2, "getChar", "([BI)C"⟩
abbrev cJ2_length_9d52b : ByteArray := prog_22_method_6_code
def yJ2_length_9d52b : MethodName := ⟨RJ2, "length", "([B)I"⟩
abbrev cJ2_charAt_3b067 : ByteArray := prog_22_method_83_code
def yJ2_charAt_3b067 : MethodName := ⟨RJ2, "charAt", "([BI)C"⟩
abbrev cJ2_checkIndex_2214a : ByteArray := prog_22_method_91_code
def yJ2_checkIndex_2214a : MethodName := ⟨RJ2, "checkIndex", "(I[B)V"⟩
def RJ7 : String := "java/util/Arrays"
abbrev cJ7_fill_53178 : ByteArray := prog_24_method_103_code
def yJ7_fill_53178 : MethodName := ⟨RJ7, "fill", "([II)V"⟩
def RJ3 : String := "jdk/internal/util/Preconditions"
abbrev cJ3_checkIndex_8e157 : ByteArray := prog_25_method_11_code
def yJ3_checkIndex_8e157 : MethodName := ⟨RJ3, "checkIndex", "(IILjava/util/function/BiFunction;)I"⟩
def wsJ7_fill_53178 : List Cond := .code yJ7_fill_53178 cJ7_fill_53178 4 none :: ([])
def wsX0_init : List Cond := .code yX0_init cX0_init 1 none :: ([.methodLink RX0 3 objectInit, .instanceMethod objectInit, .code objectInit ⟨#[0xb1]⟩ 1 none, .arrayClass .int, .fieldLink RX0 9 "FourTongues$Borders" "rules" "[I", .fieldLink RX0 15 "FourTongues$Borders" "defaults" "[I", .fieldLink RX0 18 "FourTongues$Borders" "entryBorders" "[I", .fieldLink RX0 21 "FourTongues$Borders" "entryWhats" "[I", .fieldLink RX0 24 "FourTongues$Borders" "entryAs" "[I", .fieldLink RX0 27 "FourTongues$Borders" "entries" "I", .methodLink RX0 31 yJ7_fill_53178, .static yJ7_fill_53178, .initialized RJ7, .code yJ7_fill_53178 cJ7_fill_53178 4 none] ++ wsX00)
def wsX9_kind : List Cond := .code yX9_kind cX9_kind 2 (some .int) :: ([.fieldLink RX9 7 "FourTongues$Row" "count" "I", .fieldLink RX9 19 "FourTongues$Row" "kinds" "[I"] ++ wsX90)
def wsX9_whole : List Cond := .code yX9_whole cX9_whole 2 (some .long) :: ([.fieldLink RX9 7 "FourTongues$Row" "count" "I", .fieldLink RX9 23 "FourTongues$Row" "wholes" "[J"] ++ wsX90)
def wsX9_init : List Cond := .code yX9_init cX9_init 3 none :: ([.methodLink RX9 1 objectInit, .instanceMethod objectInit, .code objectInit ⟨#[0xb1]⟩ 1 none, .fieldLink RX9 7 "FourTongues$Row" "count" "I", .methodLink RX9 13 Lib.Math.max.name, .static Lib.Math.max.name, .initialized "java/lang/Math", .code Lib.Math.max.name Lib.Math.max.code 2 (some .int), .arrayClass .int, .fieldLink RX9 19 "FourTongues$Row" "kinds" "[I", .arrayClass .long, .fieldLink RX9 23 "FourTongues$Row" "wholes" "[J", .arrayClass .double, .fieldLink RX9 27 "FourTongues$Row" "reals" "[D"] ++ wsX90)
def wsX1_init_r1 : List Cond := [Cond.methodLink RX1 3 objectInit, Cond.instanceMethod objectInit, Cond.code objectInit ⟨#[0xb1]⟩ 1 none, Cond.arrayClass .int, Cond.fieldLink RX1 11 "FourTongues$Failures" "facts" "[I", Cond.fieldLink RX1 15 "FourTongues$Failures" "count" "I", Cond.classLink RX1 19 RX9, Cond.instantiable RX9 4, Cond.initialized RX9, Cond.fieldLink RX1 24 "FourTongues$Failures" "values" "LFourTongues$Row;", Cond.fieldLink RX1 28 "FourTongues$Failures" "lying" "[I", Cond.fieldLink RX1 31 "FourTongues$Failures" "lyingCount" "I", Cond.methodLink RX1 21 yX9_init, Cond.instanceMethod yX9_init, Cond.code yX9_init cX9_init 3 none, Cond.methodLink RX9 1 objectInit, Cond.fieldLink RX9 7 "FourTongues$Row" "count" "I", Cond.methodLink RX9 13 Lib.Math.max.name, Cond.static Lib.Math.max.name, Cond.initialized "java/lang/Math", Cond.code Lib.Math.max.name Lib.Math.max.code 2 (some .int), Cond.fieldLink RX9 19 "FourTongues$Row" "kinds" "[I", Cond.arrayClass .long, Cond.fieldLink RX9 23 "FourTongues$Row" "wholes" "[J"]
def wsX1_init_r2 : List Cond := [Cond.arrayClass .double, Cond.fieldLink RX9 27 "FourTongues$Row" "reals" "[D"]
def wsX1_init : List Cond := .code yX1_init cX1_init 1 none :: ((wsX1_init_r1 ++ wsX1_init_r2) ++ wsX10 ++ wsX90)
def wsX1_fact : List Cond := .code yX1_fact cX1_fact 3 (some .int) :: ([.fieldLink RX1 15 "FourTongues$Failures" "count" "I", .fieldLink RX1 24 "FourTongues$Failures" "values" "LFourTongues$Row;", .fieldLink RX1 11 "FourTongues$Failures" "facts" "[I", .methodLink RX1 43 yX9_kind, .instanceMethod yX9_kind, .selects RX9 yX9_kind yX9_kind, .initialized RX9, .code yX9_kind cX9_kind 2 (some .int), .fieldLink RX9 7 "FourTongues$Row" "count" "I", .fieldLink RX9 19 "FourTongues$Row" "kinds" "[I"] ++ wsX10 ++ wsX90)
def wsX1_source : List Cond := .code yX1_source cX1_source 5 (some .int) :: ([.methodLink RX1 47 yX1_fact, .instanceMethod yX1_fact, .selects RX1 yX1_fact yX1_fact, .initialized RX1, .code yX1_fact cX1_fact 3 (some .int), .fieldLink RX1 15 "FourTongues$Failures" "count" "I", .fieldLink RX1 24 "FourTongues$Failures" "values" "LFourTongues$Row;", .fieldLink RX1 11 "FourTongues$Failures" "facts" "[I", .methodLink RX1 43 yX9_kind, .instanceMethod yX9_kind, .selects RX9 yX9_kind yX9_kind, .initialized RX9, .code yX9_kind cX9_kind 2 (some .int), .fieldLink RX9 7 "FourTongues$Row" "count" "I", .fieldLink RX9 19 "FourTongues$Row" "kinds" "[I"] ++ wsX10 ++ wsX90)
def wsX1_lower : List Cond := .code yX1_lower cX1_lower 5 (some .int) :: ([.fieldLink RX1 31 "FourTongues$Failures" "lyingCount" "I", .fieldLink RX1 28 "FourTongues$Failures" "lying" "[I", .methodLink RX1 47 yX1_fact, .instanceMethod yX1_fact, .selects RX1 yX1_fact yX1_fact, .initialized RX1, .code yX1_fact cX1_fact 3 (some .int), .fieldLink RX1 15 "FourTongues$Failures" "count" "I", .fieldLink RX1 24 "FourTongues$Failures" "values" "LFourTongues$Row;", .fieldLink RX1 11 "FourTongues$Failures" "facts" "[I", .methodLink RX1 43 yX9_kind, .instanceMethod yX9_kind, .selects RX9 yX9_kind yX9_kind, .initialized RX9, .code yX9_kind cX9_kind 2 (some .int), .fieldLink RX9 7 "FourTongues$Row" "count" "I", .fieldLink RX9 19 "FourTongues$Row" "kinds" "[I"] ++ wsX10 ++ wsX90)
def wsX2_init : List Cond := .code yX2_init cX2_init 1 none :: ([.methodLink RX2 1 objectInit, .instanceMethod objectInit, .code objectInit ⟨#[0xb1]⟩ 1 none, .arrayClass .int, .fieldLink RX2 9 "FourTongues$Frames" "tongues" "[I", .fieldLink RX2 13 "FourTongues$Frames" "functions" "[I", .fieldLink RX2 16 "FourTongues$Frames" "bases" "[I", .fieldLink RX2 19 "FourTongues$Frames" "floors" "[I", .fieldLink RX2 22 "FourTongues$Frames" "tops" "[I", .fieldLink RX2 25 "FourTongues$Frames" "calledAt" "[I", .fieldLink RX2 28 "FourTongues$Frames" "guardBases" "[I", .fieldLink RX2 31 "FourTongues$Frames" "count" "I"] ++ wsX20)
def wsX3_init_r1 : List Cond := [Cond.methodLink RX3 1 objectInit, Cond.instanceMethod objectInit, Cond.code objectInit ⟨#[0xb1]⟩ 1 none, Cond.arrayClass .int, Cond.fieldLink RX3 9 "FourTongues$Guards" "kinds" "[I", Cond.fieldLink RX3 13 "FourTongues$Guards" "targets" "[I", Cond.fieldLink RX3 16 "FourTongues$Guards" "names" "[I", Cond.fieldLink RX3 19 "FourTongues$Guards" "underWay" "[I", Cond.fieldLink RX3 22 "FourTongues$Guards" "failures" "[I", Cond.classLink RX3 25 RX9, Cond.instantiable RX9 4, Cond.initialized RX9, Cond.fieldLink RX3 30 "FourTongues$Guards" "answers" "LFourTongues$Row;", Cond.fieldLink RX3 34 "FourTongues$Guards" "count" "I", Cond.methodLink RX3 27 yX9_init, Cond.instanceMethod yX9_init, Cond.code yX9_init cX9_init 3 none, Cond.methodLink RX9 1 objectInit, Cond.fieldLink RX9 7 "FourTongues$Row" "count" "I", Cond.methodLink RX9 13 Lib.Math.max.name, Cond.static Lib.Math.max.name, Cond.initialized "java/lang/Math", Cond.code Lib.Math.max.name Lib.Math.max.code 2 (some .int), Cond.fieldLink RX9 19 "FourTongues$Row" "kinds" "[I"]
def wsX3_init_r2 : List Cond := [Cond.arrayClass .long, Cond.fieldLink RX9 23 "FourTongues$Row" "wholes" "[J", Cond.arrayClass .double, Cond.fieldLink RX9 27 "FourTongues$Row" "reals" "[D"]
def wsX3_init : List Cond := .code yX3_init cX3_init 1 none :: ((wsX3_init_r1 ++ wsX3_init_r2) ++ wsX30 ++ wsX90)
def wsX4_init_r1 : List Cond := [Cond.methodLink RX4 3 objectInit, Cond.instanceMethod objectInit, Cond.code objectInit ⟨#[0xb1]⟩ 1 none, Cond.classLink RX4 9 RX9, Cond.instantiable RX9 4, Cond.initialized RX9, Cond.fieldLink RX4 14 "FourTongues$Machine" "stack" "LFourTongues$Row;", Cond.fieldLink RX4 20 "FourTongues$Machine" "heap" "LFourTongues$Row;", Cond.fieldLink RX4 23 "FourTongues$Machine" "marks" "LFourTongues$Row;", Cond.classLink RX4 26 RX1, Cond.instantiable RX1 5, Cond.initialized RX1, Cond.fieldLink RX4 29 "FourTongues$Machine" "failures" "LFourTongues$Failures;", Cond.classLink RX4 33 RX2, Cond.instantiable RX2 8, Cond.initialized RX2, Cond.fieldLink RX4 36 "FourTongues$Machine" "frames" "LFourTongues$Frames;", Cond.classLink RX4 40 RX3, Cond.instantiable RX3 7, Cond.initialized RX3, Cond.fieldLink RX4 43 "FourTongues$Machine" "guards" "LFourTongues$Guards;", Cond.arrayClass .int, Cond.fieldLink RX4 47 "FourTongues$Machine" "tally" "[I", Cond.fieldLink RX4 51 "FourTongues$Machine" "at" "I"]
def wsX4_init_r2 : List Cond := [Cond.fieldLink RX4 55 "FourTongues$Machine" "pc" "I", Cond.fieldLink RX4 58 "FourTongues$Machine" "state" "I", Cond.fieldLink RX4 61 "FourTongues$Machine" "carried" "I", Cond.fieldLink RX4 64 "FourTongues$Machine" "cameOut" "I", Cond.fieldLink RX4 67 "FourTongues$Machine" "answer" "J", Cond.fieldLink RX4 71 "FourTongues$Machine" "programs" "[LFourTongues$Program;", Cond.fieldLink RX4 75 "FourTongues$Machine" "names" "LFourTongues$Names;", Cond.fieldLink RX4 79 "FourTongues$Machine" "borders" "LFourTongues$Borders;", Cond.fieldLink RX4 83 "FourTongues$Machine" "program" "LFourTongues$Program;", Cond.methodLink RX4 11 yX9_init, Cond.instanceMethod yX9_init, Cond.code yX9_init cX9_init 3 none, Cond.methodLink RX9 1 objectInit, Cond.fieldLink RX9 7 "FourTongues$Row" "count" "I", Cond.methodLink RX9 13 Lib.Math.max.name, Cond.static Lib.Math.max.name, Cond.initialized "java/lang/Math", Cond.code Lib.Math.max.name Lib.Math.max.code 2 (some .int), Cond.fieldLink RX9 19 "FourTongues$Row" "kinds" "[I", Cond.arrayClass .long, Cond.fieldLink RX9 23 "FourTongues$Row" "wholes" "[J", Cond.arrayClass .double, Cond.fieldLink RX9 27 "FourTongues$Row" "reals" "[D", Cond.instanceMethod yX1_init]
def wsX4_init_r3 : List Cond := [Cond.code yX1_init cX1_init 1 none, Cond.methodLink RX1 3 objectInit, Cond.fieldLink RX1 11 "FourTongues$Failures" "facts" "[I", Cond.fieldLink RX1 15 "FourTongues$Failures" "count" "I", Cond.classLink RX1 19 RX9, Cond.fieldLink RX1 24 "FourTongues$Failures" "values" "LFourTongues$Row;", Cond.fieldLink RX1 28 "FourTongues$Failures" "lying" "[I", Cond.fieldLink RX1 31 "FourTongues$Failures" "lyingCount" "I", Cond.methodLink RX1 21 yX9_init, Cond.instanceMethod yX2_init, Cond.code yX2_init cX2_init 1 none, Cond.methodLink RX2 1 objectInit, Cond.fieldLink RX2 9 "FourTongues$Frames" "tongues" "[I", Cond.fieldLink RX2 13 "FourTongues$Frames" "functions" "[I", Cond.fieldLink RX2 16 "FourTongues$Frames" "bases" "[I", Cond.fieldLink RX2 19 "FourTongues$Frames" "floors" "[I", Cond.fieldLink RX2 22 "FourTongues$Frames" "tops" "[I", Cond.fieldLink RX2 25 "FourTongues$Frames" "calledAt" "[I", Cond.fieldLink RX2 28 "FourTongues$Frames" "guardBases" "[I", Cond.fieldLink RX2 31 "FourTongues$Frames" "count" "I", Cond.instanceMethod yX3_init, Cond.code yX3_init cX3_init 1 none, Cond.methodLink RX3 1 objectInit, Cond.fieldLink RX3 9 "FourTongues$Guards" "kinds" "[I"]
def wsX4_init_r4 : List Cond := [Cond.fieldLink RX3 13 "FourTongues$Guards" "targets" "[I", Cond.fieldLink RX3 16 "FourTongues$Guards" "names" "[I", Cond.fieldLink RX3 19 "FourTongues$Guards" "underWay" "[I", Cond.fieldLink RX3 22 "FourTongues$Guards" "failures" "[I", Cond.classLink RX3 25 RX9, Cond.fieldLink RX3 30 "FourTongues$Guards" "answers" "LFourTongues$Row;", Cond.fieldLink RX3 34 "FourTongues$Guards" "count" "I", Cond.methodLink RX3 27 yX9_init]
def wsX4_init : List Cond := .code yX4_init cX4_init 5 none :: ((wsX4_init_r1 ++ (wsX4_init_r2 ++ (wsX4_init_r3 ++ wsX4_init_r4))) ++ wsX90 ++ wsX40 ++ wsX10 ++ wsX20 ++ wsX30)
def wsX4_told : List Cond := .code yX4_told cX4_told 2 (some .int) :: ([.fieldLink RX4 47 "FourTongues$Machine" "tally" "[I"] ++ wsX40)
def wsX4_answered : List Cond := .code yX4_answered cX4_answered 1 (some .long) :: ([.fieldLink RX4 67 "FourTongues$Machine" "answer" "J"] ++ wsX40)
def wsX4_markOf_r1 : List Cond := [Cond.fieldLink RX4 23 "FourTongues$Machine" "marks" "LFourTongues$Row;", Cond.methodLink RX4 87 yX9_kind, Cond.instanceMethod yX9_kind, Cond.selects RX9 yX9_kind yX9_kind, Cond.initialized RX9, Cond.code yX9_kind cX9_kind 2 (some .int), Cond.fieldLink RX9 7 "FourTongues$Row" "count" "I", Cond.fieldLink RX9 19 "FourTongues$Row" "kinds" "[I", Cond.methodLink RX4 91 yX9_real, Cond.instanceMethod yX9_real, Cond.selects RX9 yX9_real yX9_real, Cond.code yX9_real cX9_real 2 (some .double), Cond.fieldLink RX9 27 "FourTongues$Row" "reals" "[D", Cond.methodLink RX4 95 yX6_bits, Cond.static yX6_bits, Cond.initialized RX6, Cond.code yX6_bits cX6_bits 9 (some .long), Cond.constantLong RX6 15 (-9223372036854775808), Cond.constantDouble RX6 55 (4611686018427387904), Cond.constantDouble RX6 57 (4602678819172646912), Cond.constantDouble RX6 59 (4841369599423283200), Cond.constantLong RX6 61 (4503599627370496), Cond.methodLink RX4 101 yX9_whole, Cond.instanceMethod yX9_whole]
def wsX4_markOf_r2 : List Cond := [Cond.selects RX9 yX9_whole yX9_whole, Cond.code yX9_whole cX9_whole 2 (some .long), Cond.fieldLink RX9 23 "FourTongues$Row" "wholes" "[J"]
def wsX4_markOf : List Cond := .code yX4_markOf cX4_markOf 2 (some .long) :: ((wsX4_markOf_r1 ++ wsX4_markOf_r2) ++ wsX40 ++ wsX90)
def wsX9_count : List Cond := .code yX9_count cX9_count 1 (some .int) :: ([.fieldLink RX9 7 "FourTongues$Row" "count" "I"] ++ wsX90)
def wsX4_tongueOfMark : List Cond := .code yX4_tongueOfMark cX4_tongueOfMark 2 (some .int) :: ([.fieldLink RX4 23 "FourTongues$Machine" "marks" "LFourTongues$Row;", .methodLink RX4 105 yX9_count, .instanceMethod yX9_count, .selects RX9 yX9_count yX9_count, .initialized RX9, .code yX9_count cX9_count 1 (some .int), .fieldLink RX9 7 "FourTongues$Row" "count" "I", .methodLink RX4 87 yX9_kind, .instanceMethod yX9_kind, .selects RX9 yX9_kind yX9_kind, .code yX9_kind cX9_kind 2 (some .int), .fieldLink RX9 19 "FourTongues$Row" "kinds" "[I"] ++ wsX40 ++ wsX90)
def wsX4_factOf : List Cond := .code yX4_factOf cX4_factOf 3 (some .int) :: ([.fieldLink RX4 29 "FourTongues$Machine" "failures" "LFourTongues$Failures;", .fieldLink RX4 64 "FourTongues$Machine" "cameOut" "I", .methodLink RX4 109 yX1_source, .instanceMethod yX1_source, .selects RX1 yX1_source yX1_source, .initialized RX1, .code yX1_source cX1_source 5 (some .int), .methodLink RX1 47 yX1_fact, .instanceMethod yX1_fact, .selects RX1 yX1_fact yX1_fact, .code yX1_fact cX1_fact 3 (some .int), .fieldLink RX1 15 "FourTongues$Failures" "count" "I", .fieldLink RX1 24 "FourTongues$Failures" "values" "LFourTongues$Row;", .fieldLink RX1 11 "FourTongues$Failures" "facts" "[I", .methodLink RX1 43 yX9_kind, .instanceMethod yX9_kind, .selects RX9 yX9_kind yX9_kind, .initialized RX9, .code yX9_kind cX9_kind 2 (some .int), .fieldLink RX9 7 "FourTongues$Row" "count" "I", .fieldLink RX9 19 "FourTongues$Row" "kinds" "[I", .methodLink RX4 113 yX1_fact] ++ wsX40 ++ wsX10 ++ wsX90)
def wsX4_factUnder_r1 : List Cond := [Cond.fieldLink RX4 29 "FourTongues$Machine" "failures" "LFourTongues$Failures;", Cond.fieldLink RX4 64 "FourTongues$Machine" "cameOut" "I", Cond.methodLink RX4 109 yX1_source, Cond.instanceMethod yX1_source, Cond.selects RX1 yX1_source yX1_source, Cond.initialized RX1, Cond.code yX1_source cX1_source 5 (some .int), Cond.methodLink RX1 47 yX1_fact, Cond.instanceMethod yX1_fact, Cond.selects RX1 yX1_fact yX1_fact, Cond.code yX1_fact cX1_fact 3 (some .int), Cond.fieldLink RX1 15 "FourTongues$Failures" "count" "I", Cond.fieldLink RX1 24 "FourTongues$Failures" "values" "LFourTongues$Row;", Cond.fieldLink RX1 11 "FourTongues$Failures" "facts" "[I", Cond.methodLink RX1 43 yX9_kind, Cond.instanceMethod yX9_kind, Cond.selects RX9 yX9_kind yX9_kind, Cond.initialized RX9, Cond.code yX9_kind cX9_kind 2 (some .int), Cond.fieldLink RX9 7 "FourTongues$Row" "count" "I", Cond.fieldLink RX9 19 "FourTongues$Row" "kinds" "[I", Cond.methodLink RX4 116 yX1_lower, Cond.instanceMethod yX1_lower, Cond.selects RX1 yX1_lower yX1_lower]
def wsX4_factUnder_r2 : List Cond := [Cond.code yX1_lower cX1_lower 5 (some .int), Cond.fieldLink RX1 31 "FourTongues$Failures" "lyingCount" "I", Cond.fieldLink RX1 28 "FourTongues$Failures" "lying" "[I", Cond.methodLink RX4 113 yX1_fact]
def wsX4_factUnder : List Cond := .code yX4_factUnder cX4_factUnder 5 (some .int) :: ((wsX4_factUnder_r1 ++ wsX4_factUnder_r2) ++ wsX40 ++ wsX10 ++ wsX90)
def wsJ0_coder_7d493 : List Cond := .code yJ0_coder_7d493 cJ0_coder_7d493 1 (some .byte) :: ([.fieldLink RJ0 38 "java/lang/String" "COMPACT_STRINGS" "Z", .fieldLink RJ0 15 "java/lang/String" "coder" "B"])
def wsJ0_length_8abf5 : List Cond := .code yJ0_length_8abf5 cJ0_length_8abf5 1 (some .int) :: ([.fieldLink RJ0 9 "java/lang/String" "value" "[B", .methodLink RJ0 335 yJ0_coder_7d493, .instanceMethod yJ0_coder_7d493, .selects RJ0 yJ0_coder_7d493 yJ0_coder_7d493, .initialized RJ0, .code yJ0_coder_7d493 cJ0_coder_7d493 1 (some .byte), .fieldLink RJ0 38 "java/lang/String" "COMPACT_STRINGS" "Z", .fieldLink RJ0 15 "java/lang/String" "coder" "B"])
def wsJ0_isLatin1_aae02 : List Cond := .code yJ0_isLatin1_aae02 cJ0_isLatin1_aae02 1 (some .boolean) :: ([.fieldLink RJ0 38 "java/lang/String" "COMPACT_STRINGS" "Z", .fieldLink RJ0 15 "java/lang/String" "coder" "B"])
def wsJ3_checkIndex_8e157 : List Cond := .code yJ3_checkIndex_8e157 cJ3_checkIndex_8e157 3 (some .int) :: ([])
def wsJ0_checkIndex_df160 : List Cond := .code yJ0_checkIndex_df160 cJ0_checkIndex_df160 2 none :: ([.fieldLink RJ0 1053 "jdk/internal/util/Preconditions" "SIOOBE_FORMATTER" "Ljava/util/function/BiFunction;", .methodLink RJ0 1059 yJ3_checkIndex_8e157, .static yJ3_checkIndex_8e157, .initialized RJ3, .code yJ3_checkIndex_8e157 cJ3_checkIndex_8e157 3 (some .int)])
def wsJ1_charAt_3b067 : List Cond := .code yJ1_charAt_3b067 cJ1_charAt_3b067 2 (some .char) :: ([.methodLink RJ1 9 yJ0_checkIndex_df160, .static yJ0_checkIndex_df160, .initialized RJ0, .code yJ0_checkIndex_df160 cJ0_checkIndex_df160 2 none, .fieldLink RJ0 1053 "jdk/internal/util/Preconditions" "SIOOBE_FORMATTER" "Ljava/util/function/BiFunction;", .methodLink RJ0 1059 yJ3_checkIndex_8e157, .static yJ3_checkIndex_8e157, .initialized RJ3, .code yJ3_checkIndex_8e157 cJ3_checkIndex_8e157 3 (some .int)])
def wsJ0_charAt_5068e_r1 : List Cond := [Cond.fieldLink RJ0 9 "java/lang/String" "value" "[B", Cond.methodLink RJ0 492 yJ0_isLatin1_aae02, Cond.instanceMethod yJ0_isLatin1_aae02, Cond.selects RJ0 yJ0_isLatin1_aae02 yJ0_isLatin1_aae02, Cond.initialized RJ0, Cond.code yJ0_isLatin1_aae02 cJ0_isLatin1_aae02 1 (some .boolean), Cond.fieldLink RJ0 38 "java/lang/String" "COMPACT_STRINGS" "Z", Cond.fieldLink RJ0 15 "java/lang/String" "coder" "B", Cond.methodLink RJ0 495 yJ1_charAt_3b067, Cond.static yJ1_charAt_3b067, Cond.initialized RJ1, Cond.code yJ1_charAt_3b067 cJ1_charAt_3b067 2 (some .char), Cond.methodLink RJ1 9 yJ0_checkIndex_df160, Cond.static yJ0_checkIndex_df160, Cond.code yJ0_checkIndex_df160 cJ0_checkIndex_df160 2 none, Cond.fieldLink RJ0 1053 "jdk/internal/util/Preconditions" "SIOOBE_FORMATTER" "Ljava/util/function/BiFunction;", Cond.methodLink RJ0 1059 yJ3_checkIndex_8e157, Cond.static yJ3_checkIndex_8e157, Cond.initialized RJ3, Cond.code yJ3_checkIndex_8e157 cJ3_checkIndex_8e157 3 (some .int), Cond.methodLink RJ0 498 yJ2_charAt_3b067, Cond.static yJ2_charAt_3b067, Cond.initialized RJ2, Cond.code yJ2_charAt_3b067 cJ2_charAt_3b067 2 (some .char)]
def wsJ0_charAt_5068e_r2 : List Cond := [Cond.methodLink RJ2 67 yJ2_checkIndex_2214a, Cond.static yJ2_checkIndex_2214a, Cond.code yJ2_checkIndex_2214a cJ2_checkIndex_2214a 2 none, Cond.methodLink RJ2 48 yJ2_length_9d52b, Cond.static yJ2_length_9d52b, Cond.code yJ2_length_9d52b cJ2_length_9d52b 1 (some .int), Cond.methodLink RJ2 414 yJ0_checkIndex_df160, Cond.methodLink RJ2 71 yJ2_getChar_3b067, Cond.static yJ2_getChar_3b067, Cond.code yJ2_getChar_3b067 cJ2_getChar_3b067 2 (some .char), Cond.fieldLink RJ2 44 "java/lang/StringUTF16" "$assertionsDisabled" "Z", Cond.fieldLink RJ2 59 "java/lang/StringUTF16" "HI_BYTE_SHIFT" "I", Cond.fieldLink RJ2 63 "java/lang/StringUTF16" "LO_BYTE_SHIFT" "I"]
def wsJ0_charAt_5068e : List Cond := .code yJ0_charAt_5068e cJ0_charAt_5068e 2 (some .char) :: ((wsJ0_charAt_5068e_r1 ++ wsJ0_charAt_5068e_r2))
def wsX5_init_r1 : List Cond := [Cond.methodLink RX5 3 objectInit, Cond.instanceMethod objectInit, Cond.code objectInit ⟨#[0xb1]⟩ 1 none, Cond.arrayClass .long, Cond.fieldLink RX5 11 "FourTongues$Names" "packed" "[J", Cond.arrayClass .int, Cond.fieldLink RX5 15 "FourTongues$Names" "above" "[I", Cond.fieldLink RX5 19 "FourTongues$Names" "keptAbove" "[I", Cond.fieldLink RX5 22 "FourTongues$Names" "count" "I", Cond.fieldLink RX5 26 "FourTongues$Names" "keptCount" "I", Cond.methodLink RX5 31 yJ0_length_8abf5, Cond.instanceMethod yJ0_length_8abf5, Cond.selects RJ0 yJ0_length_8abf5 yJ0_length_8abf5, Cond.initialized RJ0, Cond.code yJ0_length_8abf5 cJ0_length_8abf5 1 (some .int), Cond.fieldLink RJ0 9 "java/lang/String" "value" "[B", Cond.methodLink RJ0 335 yJ0_coder_7d493, Cond.instanceMethod yJ0_coder_7d493, Cond.selects RJ0 yJ0_coder_7d493 yJ0_coder_7d493, Cond.code yJ0_coder_7d493 cJ0_coder_7d493 1 (some .byte), Cond.fieldLink RJ0 38 "java/lang/String" "COMPACT_STRINGS" "Z", Cond.fieldLink RJ0 15 "java/lang/String" "coder" "B", Cond.methodLink RX5 37 yJ0_charAt_5068e, Cond.instanceMethod yJ0_charAt_5068e]
def wsX5_init_r2 : List Cond := [Cond.selects RJ0 yJ0_charAt_5068e yJ0_charAt_5068e, Cond.code yJ0_charAt_5068e cJ0_charAt_5068e 2 (some .char), Cond.methodLink RJ0 492 yJ0_isLatin1_aae02, Cond.instanceMethod yJ0_isLatin1_aae02, Cond.selects RJ0 yJ0_isLatin1_aae02 yJ0_isLatin1_aae02, Cond.code yJ0_isLatin1_aae02 cJ0_isLatin1_aae02 1 (some .boolean), Cond.methodLink RJ0 495 yJ1_charAt_3b067, Cond.static yJ1_charAt_3b067, Cond.initialized RJ1, Cond.code yJ1_charAt_3b067 cJ1_charAt_3b067 2 (some .char), Cond.methodLink RJ1 9 yJ0_checkIndex_df160, Cond.static yJ0_checkIndex_df160, Cond.code yJ0_checkIndex_df160 cJ0_checkIndex_df160 2 none, Cond.fieldLink RJ0 1053 "jdk/internal/util/Preconditions" "SIOOBE_FORMATTER" "Ljava/util/function/BiFunction;", Cond.methodLink RJ0 1059 yJ3_checkIndex_8e157, Cond.static yJ3_checkIndex_8e157, Cond.initialized RJ3, Cond.code yJ3_checkIndex_8e157 cJ3_checkIndex_8e157 3 (some .int), Cond.methodLink RJ0 498 yJ2_charAt_3b067, Cond.static yJ2_charAt_3b067, Cond.initialized RJ2, Cond.code yJ2_charAt_3b067 cJ2_charAt_3b067 2 (some .char), Cond.methodLink RJ2 67 yJ2_checkIndex_2214a, Cond.static yJ2_checkIndex_2214a]
def wsX5_init_r3 : List Cond := [Cond.code yJ2_checkIndex_2214a cJ2_checkIndex_2214a 2 none, Cond.methodLink RJ2 48 yJ2_length_9d52b, Cond.static yJ2_length_9d52b, Cond.code yJ2_length_9d52b cJ2_length_9d52b 1 (some .int), Cond.methodLink RJ2 414 yJ0_checkIndex_df160, Cond.methodLink RJ2 71 yJ2_getChar_3b067, Cond.static yJ2_getChar_3b067, Cond.code yJ2_getChar_3b067 cJ2_getChar_3b067 2 (some .char), Cond.fieldLink RJ2 44 "java/lang/StringUTF16" "$assertionsDisabled" "Z", Cond.fieldLink RJ2 59 "java/lang/StringUTF16" "HI_BYTE_SHIFT" "I", Cond.fieldLink RJ2 63 "java/lang/StringUTF16" "LO_BYTE_SHIFT" "I"]
def wsX5_init : List Cond := .code yX5_init cX5_init 5 none :: ((wsX5_init_r1 ++ (wsX5_init_r2 ++ wsX5_init_r3)) ++ wsX50)
def wsX5_inAll : List Cond := .code yX5_inAll cX5_inAll 1 (some .int) :: ([.fieldLink RX5 22 "FourTongues$Names" "count" "I"] ++ wsX50)
def wsX10_init_r1 : List Cond := [Cond.methodLink RX10 3 objectInit, Cond.instanceMethod objectInit, Cond.code objectInit ⟨#[0xb1]⟩ 1 none, Cond.arrayClass .long, Cond.fieldLink RX10 11 "FourTongues$Tokens" "words" "[J", Cond.arrayClass .int, Cond.fieldLink RX10 15 "FourTongues$Tokens" "kinds" "[I", Cond.fieldLink RX10 19 "FourTongues$Tokens" "places" "[I", Cond.fieldLink RX10 22 "FourTongues$Tokens" "wholes" "[J", Cond.arrayClass .double, Cond.fieldLink RX10 25 "FourTongues$Tokens" "reals" "[D", Cond.fieldLink RX10 29 "FourTongues$Tokens" "count" "I", Cond.fieldLink RX10 33 "FourTongues$Tokens" "length" "I", Cond.fieldLink RX10 36 "FourTongues$Tokens" "tongue" "I", Cond.fieldLink RX10 39 "FourTongues$Tokens" "at" "I", Cond.fieldLink RX10 42 "FourTongues$Tokens" "now" "I", Cond.fieldLink RX10 45 "FourTongues$Tokens" "stopped" "Z", Cond.fieldLink RX10 49 "FourTongues$Tokens" "kind" "I", Cond.fieldLink RX10 52 "FourTongues$Tokens" "place" "I", Cond.fieldLink RX10 55 "FourTongues$Tokens" "whole" "J", Cond.fieldLink RX10 59 "FourTongues$Tokens" "real" "D", Cond.fieldLink RX10 63 "FourTongues$Tokens" "text" "[B", Cond.methodLink RX10 69 yJ0_length_8abf5, Cond.instanceMethod yJ0_length_8abf5]
def wsX10_init_r2 : List Cond := [Cond.selects RJ0 yJ0_length_8abf5 yJ0_length_8abf5, Cond.initialized RJ0, Cond.code yJ0_length_8abf5 cJ0_length_8abf5 1 (some .int), Cond.fieldLink RJ0 9 "java/lang/String" "value" "[B", Cond.methodLink RJ0 335 yJ0_coder_7d493, Cond.instanceMethod yJ0_coder_7d493, Cond.selects RJ0 yJ0_coder_7d493 yJ0_coder_7d493, Cond.code yJ0_coder_7d493 cJ0_coder_7d493 1 (some .byte), Cond.fieldLink RJ0 38 "java/lang/String" "COMPACT_STRINGS" "Z", Cond.fieldLink RJ0 15 "java/lang/String" "coder" "B", Cond.methodLink RX10 74 yJ0_charAt_5068e, Cond.instanceMethod yJ0_charAt_5068e, Cond.selects RJ0 yJ0_charAt_5068e yJ0_charAt_5068e, Cond.code yJ0_charAt_5068e cJ0_charAt_5068e 2 (some .char), Cond.methodLink RJ0 492 yJ0_isLatin1_aae02, Cond.instanceMethod yJ0_isLatin1_aae02, Cond.selects RJ0 yJ0_isLatin1_aae02 yJ0_isLatin1_aae02, Cond.code yJ0_isLatin1_aae02 cJ0_isLatin1_aae02 1 (some .boolean), Cond.methodLink RJ0 495 yJ1_charAt_3b067, Cond.static yJ1_charAt_3b067, Cond.initialized RJ1, Cond.code yJ1_charAt_3b067 cJ1_charAt_3b067 2 (some .char), Cond.methodLink RJ1 9 yJ0_checkIndex_df160, Cond.static yJ0_checkIndex_df160]
def wsX10_init_r3 : List Cond := [Cond.code yJ0_checkIndex_df160 cJ0_checkIndex_df160 2 none, Cond.fieldLink RJ0 1053 "jdk/internal/util/Preconditions" "SIOOBE_FORMATTER" "Ljava/util/function/BiFunction;", Cond.methodLink RJ0 1059 yJ3_checkIndex_8e157, Cond.static yJ3_checkIndex_8e157, Cond.initialized RJ3, Cond.code yJ3_checkIndex_8e157 cJ3_checkIndex_8e157 3 (some .int), Cond.methodLink RJ0 498 yJ2_charAt_3b067, Cond.static yJ2_charAt_3b067, Cond.initialized RJ2, Cond.code yJ2_charAt_3b067 cJ2_charAt_3b067 2 (some .char), Cond.methodLink RJ2 67 yJ2_checkIndex_2214a, Cond.static yJ2_checkIndex_2214a, Cond.code yJ2_checkIndex_2214a cJ2_checkIndex_2214a 2 none, Cond.methodLink RJ2 48 yJ2_length_9d52b, Cond.static yJ2_length_9d52b, Cond.code yJ2_length_9d52b cJ2_length_9d52b 1 (some .int), Cond.methodLink RJ2 414 yJ0_checkIndex_df160, Cond.methodLink RJ2 71 yJ2_getChar_3b067, Cond.static yJ2_getChar_3b067, Cond.code yJ2_getChar_3b067 cJ2_getChar_3b067 2 (some .char), Cond.fieldLink RJ2 44 "java/lang/StringUTF16" "$assertionsDisabled" "Z", Cond.fieldLink RJ2 59 "java/lang/StringUTF16" "HI_BYTE_SHIFT" "I", Cond.fieldLink RJ2 63 "java/lang/StringUTF16" "LO_BYTE_SHIFT" "I"]
def wsX10_init : List Cond := .code yX10_init cX10_init 7 none :: ((wsX10_init_r1 ++ (wsX10_init_r2 ++ wsX10_init_r3)) ++ wsX100)
def wsX7_init_r1 : List Cond := [Cond.methodLink RX7 3 objectInit, Cond.instanceMethod objectInit, Cond.code objectInit ⟨#[0xb1]⟩ 1 none, Cond.arrayClass .int, Cond.fieldLink RX7 9 "FourTongues$Parser" "faults" "[I", Cond.arrayClass .long, Cond.fieldLink RX7 15 "FourTongues$Parser" "variables" "[J", Cond.fieldLink RX7 19 "FourTongues$Parser" "variableCount" "I", Cond.fieldLink RX7 23 "FourTongues$Parser" "counted" "I", Cond.fieldLink RX7 26 "FourTongues$Parser" "told" "I", Cond.fieldLink RX7 29 "FourTongues$Parser" "tongue" "I", Cond.fieldLink RX7 32 "FourTongues$Parser" "depth" "I", Cond.fieldLink RX7 35 "FourTongues$Parser" "place" "I", Cond.classLink RX7 38 RX10, Cond.instantiable RX10 16, Cond.initialized RX10, Cond.fieldLink RX7 43 "FourTongues$Parser" "tokens" "LFourTongues$Tokens;", Cond.fieldLink RX7 47 "FourTongues$Parser" "names" "LFourTongues$Names;", Cond.fieldLink RX7 51 "FourTongues$Parser" "program" "LFourTongues$Program;", Cond.methodLink RX7 40 yX10_init, Cond.instanceMethod yX10_init, Cond.code yX10_init cX10_init 7 none, Cond.methodLink RX10 3 objectInit, Cond.fieldLink RX10 11 "FourTongues$Tokens" "words" "[J"]
def wsX7_init_r2 : List Cond := [Cond.fieldLink RX10 15 "FourTongues$Tokens" "kinds" "[I", Cond.fieldLink RX10 19 "FourTongues$Tokens" "places" "[I", Cond.fieldLink RX10 22 "FourTongues$Tokens" "wholes" "[J", Cond.arrayClass .double, Cond.fieldLink RX10 25 "FourTongues$Tokens" "reals" "[D", Cond.fieldLink RX10 29 "FourTongues$Tokens" "count" "I", Cond.fieldLink RX10 33 "FourTongues$Tokens" "length" "I", Cond.fieldLink RX10 36 "FourTongues$Tokens" "tongue" "I", Cond.fieldLink RX10 39 "FourTongues$Tokens" "at" "I", Cond.fieldLink RX10 42 "FourTongues$Tokens" "now" "I", Cond.fieldLink RX10 45 "FourTongues$Tokens" "stopped" "Z", Cond.fieldLink RX10 49 "FourTongues$Tokens" "kind" "I", Cond.fieldLink RX10 52 "FourTongues$Tokens" "place" "I", Cond.fieldLink RX10 55 "FourTongues$Tokens" "whole" "J", Cond.fieldLink RX10 59 "FourTongues$Tokens" "real" "D", Cond.fieldLink RX10 63 "FourTongues$Tokens" "text" "[B", Cond.methodLink RX10 69 yJ0_length_8abf5, Cond.instanceMethod yJ0_length_8abf5, Cond.selects RJ0 yJ0_length_8abf5 yJ0_length_8abf5, Cond.initialized RJ0, Cond.code yJ0_length_8abf5 cJ0_length_8abf5 1 (some .int), Cond.fieldLink RJ0 9 "java/lang/String" "value" "[B", Cond.methodLink RJ0 335 yJ0_coder_7d493, Cond.instanceMethod yJ0_coder_7d493]
def wsX7_init_r3 : List Cond := [Cond.selects RJ0 yJ0_coder_7d493 yJ0_coder_7d493, Cond.code yJ0_coder_7d493 cJ0_coder_7d493 1 (some .byte), Cond.fieldLink RJ0 38 "java/lang/String" "COMPACT_STRINGS" "Z", Cond.fieldLink RJ0 15 "java/lang/String" "coder" "B", Cond.methodLink RX10 74 yJ0_charAt_5068e, Cond.instanceMethod yJ0_charAt_5068e, Cond.selects RJ0 yJ0_charAt_5068e yJ0_charAt_5068e, Cond.code yJ0_charAt_5068e cJ0_charAt_5068e 2 (some .char), Cond.methodLink RJ0 492 yJ0_isLatin1_aae02, Cond.instanceMethod yJ0_isLatin1_aae02, Cond.selects RJ0 yJ0_isLatin1_aae02 yJ0_isLatin1_aae02, Cond.code yJ0_isLatin1_aae02 cJ0_isLatin1_aae02 1 (some .boolean), Cond.methodLink RJ0 495 yJ1_charAt_3b067, Cond.static yJ1_charAt_3b067, Cond.initialized RJ1, Cond.code yJ1_charAt_3b067 cJ1_charAt_3b067 2 (some .char), Cond.methodLink RJ1 9 yJ0_checkIndex_df160, Cond.static yJ0_checkIndex_df160, Cond.code yJ0_checkIndex_df160 cJ0_checkIndex_df160 2 none, Cond.fieldLink RJ0 1053 "jdk/internal/util/Preconditions" "SIOOBE_FORMATTER" "Ljava/util/function/BiFunction;", Cond.methodLink RJ0 1059 yJ3_checkIndex_8e157, Cond.static yJ3_checkIndex_8e157, Cond.initialized RJ3, Cond.code yJ3_checkIndex_8e157 cJ3_checkIndex_8e157 3 (some .int)]
def wsX7_init_r4 : List Cond := [Cond.methodLink RJ0 498 yJ2_charAt_3b067, Cond.static yJ2_charAt_3b067, Cond.initialized RJ2, Cond.code yJ2_charAt_3b067 cJ2_charAt_3b067 2 (some .char), Cond.methodLink RJ2 67 yJ2_checkIndex_2214a, Cond.static yJ2_checkIndex_2214a, Cond.code yJ2_checkIndex_2214a cJ2_checkIndex_2214a 2 none, Cond.methodLink RJ2 48 yJ2_length_9d52b, Cond.static yJ2_length_9d52b, Cond.code yJ2_length_9d52b cJ2_length_9d52b 1 (some .int), Cond.methodLink RJ2 414 yJ0_checkIndex_df160, Cond.methodLink RJ2 71 yJ2_getChar_3b067, Cond.static yJ2_getChar_3b067, Cond.code yJ2_getChar_3b067 cJ2_getChar_3b067 2 (some .char), Cond.fieldLink RJ2 44 "java/lang/StringUTF16" "$assertionsDisabled" "Z", Cond.fieldLink RJ2 59 "java/lang/StringUTF16" "HI_BYTE_SHIFT" "I", Cond.fieldLink RJ2 63 "java/lang/StringUTF16" "LO_BYTE_SHIFT" "I"]
def wsX7_init : List Cond := .code yX7_init cX7_init 4 none :: ((wsX7_init_r1 ++ (wsX7_init_r2 ++ (wsX7_init_r3 ++ wsX7_init_r4))) ++ wsX70 ++ wsX100)
def wsX8_init_r1 : List Cond := [Cond.methodLink RX8 1 objectInit, Cond.instanceMethod objectInit, Cond.code objectInit ⟨#[0xb1]⟩ 1 none, Cond.arrayClass .int, Cond.fieldLink RX8 7 "FourTongues$Program" "code" "[I", Cond.fieldLink RX8 13 "FourTongues$Program" "length" "I", Cond.classLink RX8 17 RX9, Cond.instantiable RX9 4, Cond.initialized RX9, Cond.fieldLink RX8 22 "FourTongues$Program" "constants" "LFourTongues$Row;", Cond.arrayClass .long, Cond.fieldLink RX8 26 "FourTongues$Program" "names" "[J", Cond.fieldLink RX8 30 "FourTongues$Program" "starts" "[I", Cond.fieldLink RX8 33 "FourTongues$Program" "parameters" "[I", Cond.fieldLink RX8 36 "FourTongues$Program" "variables" "[I", Cond.fieldLink RX8 39 "FourTongues$Program" "functions" "I", Cond.methodLink RX8 19 yX9_init, Cond.instanceMethod yX9_init, Cond.code yX9_init cX9_init 3 none, Cond.methodLink RX9 1 objectInit, Cond.fieldLink RX9 7 "FourTongues$Row" "count" "I", Cond.methodLink RX9 13 Lib.Math.max.name, Cond.static Lib.Math.max.name, Cond.initialized "java/lang/Math"]
def wsX8_init_r2 : List Cond := [Cond.code Lib.Math.max.name Lib.Math.max.code 2 (some .int), Cond.fieldLink RX9 19 "FourTongues$Row" "kinds" "[I", Cond.fieldLink RX9 23 "FourTongues$Row" "wholes" "[J", Cond.arrayClass .double, Cond.fieldLink RX9 27 "FourTongues$Row" "reals" "[D"]
def wsX8_init : List Cond := .code yX8_init cX8_init 1 none :: ((wsX8_init_r1 ++ wsX8_init_r2) ++ wsX80 ++ wsX90)
def wsX11_init_r1 : List Cond := [Cond.methodLink RX11 1 objectInit, Cond.instanceMethod objectInit, Cond.code objectInit ⟨#[0xb1]⟩ 1 none, Cond.arrayClass .byte, Cond.fieldLink RX11 9 "FourTongues" "tape" "[B", Cond.fieldLink RX11 13 "FourTongues" "taped" "I", Cond.fieldLink RX11 17 "FourTongues" "faultKind" "I", Cond.classLink RX11 20 RX5, Cond.instantiable RX5 5, Cond.initialized RX5, Cond.fieldLink RX11 23 "FourTongues" "names" "LFourTongues$Names;", Cond.classLink RX11 27 RX0, Cond.instantiable RX0 6, Cond.initialized RX0, Cond.fieldLink RX11 30 "FourTongues" "borders" "LFourTongues$Borders;", Cond.classLink RX11 34 RX8, Cond.fieldLink RX11 36 "FourTongues" "programs" "[LFourTongues$Program;", Cond.instantiable RX8 8, Cond.initialized RX8, Cond.fieldLink RX11 41 "FourTongues" "draft" "LFourTongues$Program;", Cond.classLink RX11 45 RX7, Cond.instantiable RX7 11, Cond.initialized RX7, Cond.fieldLink RX11 50 "FourTongues" "parser" "LFourTongues$Parser;"]
def wsX11_init_r2 : List Cond := [Cond.classLink RX11 54 RX4, Cond.instantiable RX4 17, Cond.initialized RX4, Cond.fieldLink RX11 59 "FourTongues" "machine" "LFourTongues$Machine;", Cond.methodLink RX11 22 yX5_init, Cond.instanceMethod yX5_init, Cond.code yX5_init cX5_init 5 none, Cond.methodLink RX5 3 objectInit, Cond.arrayClass .long, Cond.fieldLink RX5 11 "FourTongues$Names" "packed" "[J", Cond.arrayClass .int, Cond.fieldLink RX5 15 "FourTongues$Names" "above" "[I", Cond.fieldLink RX5 19 "FourTongues$Names" "keptAbove" "[I", Cond.fieldLink RX5 22 "FourTongues$Names" "count" "I", Cond.fieldLink RX5 26 "FourTongues$Names" "keptCount" "I", Cond.methodLink RX5 31 yJ0_length_8abf5, Cond.instanceMethod yJ0_length_8abf5, Cond.selects RJ0 yJ0_length_8abf5 yJ0_length_8abf5, Cond.initialized RJ0, Cond.code yJ0_length_8abf5 cJ0_length_8abf5 1 (some .int), Cond.fieldLink RJ0 9 "java/lang/String" "value" "[B", Cond.methodLink RJ0 335 yJ0_coder_7d493, Cond.instanceMethod yJ0_coder_7d493, Cond.selects RJ0 yJ0_coder_7d493 yJ0_coder_7d493]
def wsX11_init_r3 : List Cond := [Cond.code yJ0_coder_7d493 cJ0_coder_7d493 1 (some .byte), Cond.fieldLink RJ0 38 "java/lang/String" "COMPACT_STRINGS" "Z", Cond.fieldLink RJ0 15 "java/lang/String" "coder" "B", Cond.methodLink RX5 37 yJ0_charAt_5068e, Cond.instanceMethod yJ0_charAt_5068e, Cond.selects RJ0 yJ0_charAt_5068e yJ0_charAt_5068e, Cond.code yJ0_charAt_5068e cJ0_charAt_5068e 2 (some .char), Cond.methodLink RJ0 492 yJ0_isLatin1_aae02, Cond.instanceMethod yJ0_isLatin1_aae02, Cond.selects RJ0 yJ0_isLatin1_aae02 yJ0_isLatin1_aae02, Cond.code yJ0_isLatin1_aae02 cJ0_isLatin1_aae02 1 (some .boolean), Cond.methodLink RJ0 495 yJ1_charAt_3b067, Cond.static yJ1_charAt_3b067, Cond.initialized RJ1, Cond.code yJ1_charAt_3b067 cJ1_charAt_3b067 2 (some .char), Cond.methodLink RJ1 9 yJ0_checkIndex_df160, Cond.static yJ0_checkIndex_df160, Cond.code yJ0_checkIndex_df160 cJ0_checkIndex_df160 2 none, Cond.fieldLink RJ0 1053 "jdk/internal/util/Preconditions" "SIOOBE_FORMATTER" "Ljava/util/function/BiFunction;", Cond.methodLink RJ0 1059 yJ3_checkIndex_8e157, Cond.static yJ3_checkIndex_8e157, Cond.initialized RJ3, Cond.code yJ3_checkIndex_8e157 cJ3_checkIndex_8e157 3 (some .int), Cond.methodLink RJ0 498 yJ2_charAt_3b067]
def wsX11_init_r4 : List Cond := [Cond.static yJ2_charAt_3b067, Cond.initialized RJ2, Cond.code yJ2_charAt_3b067 cJ2_charAt_3b067 2 (some .char), Cond.methodLink RJ2 67 yJ2_checkIndex_2214a, Cond.static yJ2_checkIndex_2214a, Cond.code yJ2_checkIndex_2214a cJ2_checkIndex_2214a 2 none, Cond.methodLink RJ2 48 yJ2_length_9d52b, Cond.static yJ2_length_9d52b, Cond.code yJ2_length_9d52b cJ2_length_9d52b 1 (some .int), Cond.methodLink RJ2 414 yJ0_checkIndex_df160, Cond.methodLink RJ2 71 yJ2_getChar_3b067, Cond.static yJ2_getChar_3b067, Cond.code yJ2_getChar_3b067 cJ2_getChar_3b067 2 (some .char), Cond.fieldLink RJ2 44 "java/lang/StringUTF16" "$assertionsDisabled" "Z", Cond.fieldLink RJ2 59 "java/lang/StringUTF16" "HI_BYTE_SHIFT" "I", Cond.fieldLink RJ2 63 "java/lang/StringUTF16" "LO_BYTE_SHIFT" "I", Cond.methodLink RX11 29 yX0_init, Cond.instanceMethod yX0_init, Cond.code yX0_init cX0_init 1 none, Cond.methodLink RX0 3 objectInit, Cond.fieldLink RX0 9 "FourTongues$Borders" "rules" "[I", Cond.fieldLink RX0 15 "FourTongues$Borders" "defaults" "[I", Cond.fieldLink RX0 18 "FourTongues$Borders" "entryBorders" "[I", Cond.fieldLink RX0 21 "FourTongues$Borders" "entryWhats" "[I"]
def wsX11_init_r5 : List Cond := [Cond.fieldLink RX0 24 "FourTongues$Borders" "entryAs" "[I", Cond.fieldLink RX0 27 "FourTongues$Borders" "entries" "I", Cond.methodLink RX0 31 yJ7_fill_53178, Cond.static yJ7_fill_53178, Cond.initialized RJ7, Cond.code yJ7_fill_53178 cJ7_fill_53178 4 none, Cond.instanceMethod yX8_init, Cond.code yX8_init cX8_init 1 none, Cond.methodLink RX8 1 objectInit, Cond.fieldLink RX8 7 "FourTongues$Program" "code" "[I", Cond.fieldLink RX8 13 "FourTongues$Program" "length" "I", Cond.classLink RX8 17 RX9, Cond.instantiable RX9 4, Cond.initialized RX9, Cond.fieldLink RX8 22 "FourTongues$Program" "constants" "LFourTongues$Row;", Cond.fieldLink RX8 26 "FourTongues$Program" "names" "[J", Cond.fieldLink RX8 30 "FourTongues$Program" "starts" "[I", Cond.fieldLink RX8 33 "FourTongues$Program" "parameters" "[I", Cond.fieldLink RX8 36 "FourTongues$Program" "variables" "[I", Cond.fieldLink RX8 39 "FourTongues$Program" "functions" "I", Cond.methodLink RX8 19 yX9_init, Cond.instanceMethod yX9_init, Cond.code yX9_init cX9_init 3 none, Cond.methodLink RX9 1 objectInit]
def wsX11_init_r6 : List Cond := [Cond.fieldLink RX9 7 "FourTongues$Row" "count" "I", Cond.methodLink RX9 13 Lib.Math.max.name, Cond.static Lib.Math.max.name, Cond.initialized "java/lang/Math", Cond.code Lib.Math.max.name Lib.Math.max.code 2 (some .int), Cond.fieldLink RX9 19 "FourTongues$Row" "kinds" "[I", Cond.fieldLink RX9 23 "FourTongues$Row" "wholes" "[J", Cond.arrayClass .double, Cond.fieldLink RX9 27 "FourTongues$Row" "reals" "[D", Cond.methodLink RX11 47 yX7_init, Cond.instanceMethod yX7_init, Cond.code yX7_init cX7_init 4 none, Cond.methodLink RX7 3 objectInit, Cond.fieldLink RX7 9 "FourTongues$Parser" "faults" "[I", Cond.fieldLink RX7 15 "FourTongues$Parser" "variables" "[J", Cond.fieldLink RX7 19 "FourTongues$Parser" "variableCount" "I", Cond.fieldLink RX7 23 "FourTongues$Parser" "counted" "I", Cond.fieldLink RX7 26 "FourTongues$Parser" "told" "I", Cond.fieldLink RX7 29 "FourTongues$Parser" "tongue" "I", Cond.fieldLink RX7 32 "FourTongues$Parser" "depth" "I", Cond.fieldLink RX7 35 "FourTongues$Parser" "place" "I", Cond.classLink RX7 38 RX10, Cond.instantiable RX10 16, Cond.initialized RX10]
def wsX11_init_r7 : List Cond := [Cond.fieldLink RX7 43 "FourTongues$Parser" "tokens" "LFourTongues$Tokens;", Cond.fieldLink RX7 47 "FourTongues$Parser" "names" "LFourTongues$Names;", Cond.fieldLink RX7 51 "FourTongues$Parser" "program" "LFourTongues$Program;", Cond.methodLink RX7 40 yX10_init, Cond.instanceMethod yX10_init, Cond.code yX10_init cX10_init 7 none, Cond.methodLink RX10 3 objectInit, Cond.fieldLink RX10 11 "FourTongues$Tokens" "words" "[J", Cond.fieldLink RX10 15 "FourTongues$Tokens" "kinds" "[I", Cond.fieldLink RX10 19 "FourTongues$Tokens" "places" "[I", Cond.fieldLink RX10 22 "FourTongues$Tokens" "wholes" "[J", Cond.fieldLink RX10 25 "FourTongues$Tokens" "reals" "[D", Cond.fieldLink RX10 29 "FourTongues$Tokens" "count" "I", Cond.fieldLink RX10 33 "FourTongues$Tokens" "length" "I", Cond.fieldLink RX10 36 "FourTongues$Tokens" "tongue" "I", Cond.fieldLink RX10 39 "FourTongues$Tokens" "at" "I", Cond.fieldLink RX10 42 "FourTongues$Tokens" "now" "I", Cond.fieldLink RX10 45 "FourTongues$Tokens" "stopped" "Z", Cond.fieldLink RX10 49 "FourTongues$Tokens" "kind" "I", Cond.fieldLink RX10 52 "FourTongues$Tokens" "place" "I", Cond.fieldLink RX10 55 "FourTongues$Tokens" "whole" "J", Cond.fieldLink RX10 59 "FourTongues$Tokens" "real" "D", Cond.fieldLink RX10 63 "FourTongues$Tokens" "text" "[B", Cond.methodLink RX10 69 yJ0_length_8abf5]
def wsX11_init_r8 : List Cond := [Cond.methodLink RX10 74 yJ0_charAt_5068e, Cond.methodLink RX11 56 yX4_init, Cond.instanceMethod yX4_init, Cond.code yX4_init cX4_init 5 none, Cond.methodLink RX4 3 objectInit, Cond.classLink RX4 9 RX9, Cond.fieldLink RX4 14 "FourTongues$Machine" "stack" "LFourTongues$Row;", Cond.fieldLink RX4 20 "FourTongues$Machine" "heap" "LFourTongues$Row;", Cond.fieldLink RX4 23 "FourTongues$Machine" "marks" "LFourTongues$Row;", Cond.classLink RX4 26 RX1, Cond.instantiable RX1 5, Cond.initialized RX1, Cond.fieldLink RX4 29 "FourTongues$Machine" "failures" "LFourTongues$Failures;", Cond.classLink RX4 33 RX2, Cond.instantiable RX2 8, Cond.initialized RX2, Cond.fieldLink RX4 36 "FourTongues$Machine" "frames" "LFourTongues$Frames;", Cond.classLink RX4 40 RX3, Cond.instantiable RX3 7, Cond.initialized RX3, Cond.fieldLink RX4 43 "FourTongues$Machine" "guards" "LFourTongues$Guards;", Cond.fieldLink RX4 47 "FourTongues$Machine" "tally" "[I", Cond.fieldLink RX4 51 "FourTongues$Machine" "at" "I", Cond.fieldLink RX4 55 "FourTongues$Machine" "pc" "I"]
def wsX11_init_r9 : List Cond := [Cond.fieldLink RX4 58 "FourTongues$Machine" "state" "I", Cond.fieldLink RX4 61 "FourTongues$Machine" "carried" "I", Cond.fieldLink RX4 64 "FourTongues$Machine" "cameOut" "I", Cond.fieldLink RX4 67 "FourTongues$Machine" "answer" "J", Cond.fieldLink RX4 71 "FourTongues$Machine" "programs" "[LFourTongues$Program;", Cond.fieldLink RX4 75 "FourTongues$Machine" "names" "LFourTongues$Names;", Cond.fieldLink RX4 79 "FourTongues$Machine" "borders" "LFourTongues$Borders;", Cond.fieldLink RX4 83 "FourTongues$Machine" "program" "LFourTongues$Program;", Cond.methodLink RX4 11 yX9_init, Cond.instanceMethod yX1_init, Cond.code yX1_init cX1_init 1 none, Cond.methodLink RX1 3 objectInit, Cond.fieldLink RX1 11 "FourTongues$Failures" "facts" "[I", Cond.fieldLink RX1 15 "FourTongues$Failures" "count" "I", Cond.classLink RX1 19 RX9, Cond.fieldLink RX1 24 "FourTongues$Failures" "values" "LFourTongues$Row;", Cond.fieldLink RX1 28 "FourTongues$Failures" "lying" "[I", Cond.fieldLink RX1 31 "FourTongues$Failures" "lyingCount" "I", Cond.methodLink RX1 21 yX9_init, Cond.instanceMethod yX2_init, Cond.code yX2_init cX2_init 1 none, Cond.methodLink RX2 1 objectInit, Cond.fieldLink RX2 9 "FourTongues$Frames" "tongues" "[I", Cond.fieldLink RX2 13 "FourTongues$Frames" "functions" "[I"]
def wsX11_init_r10 : List Cond := [Cond.fieldLink RX2 16 "FourTongues$Frames" "bases" "[I", Cond.fieldLink RX2 19 "FourTongues$Frames" "floors" "[I", Cond.fieldLink RX2 22 "FourTongues$Frames" "tops" "[I", Cond.fieldLink RX2 25 "FourTongues$Frames" "calledAt" "[I", Cond.fieldLink RX2 28 "FourTongues$Frames" "guardBases" "[I", Cond.fieldLink RX2 31 "FourTongues$Frames" "count" "I", Cond.instanceMethod yX3_init, Cond.code yX3_init cX3_init 1 none, Cond.methodLink RX3 1 objectInit, Cond.fieldLink RX3 9 "FourTongues$Guards" "kinds" "[I", Cond.fieldLink RX3 13 "FourTongues$Guards" "targets" "[I", Cond.fieldLink RX3 16 "FourTongues$Guards" "names" "[I", Cond.fieldLink RX3 19 "FourTongues$Guards" "underWay" "[I", Cond.fieldLink RX3 22 "FourTongues$Guards" "failures" "[I", Cond.classLink RX3 25 RX9, Cond.fieldLink RX3 30 "FourTongues$Guards" "answers" "LFourTongues$Row;", Cond.fieldLink RX3 34 "FourTongues$Guards" "count" "I", Cond.methodLink RX3 27 yX9_init]
def wsX11_init : List Cond := .code yX11_init cX11_init 2 none :: ((wsX11_init_r1 ++ (wsX11_init_r2 ++ (wsX11_init_r3 ++ (wsX11_init_r4 ++ (wsX11_init_r5 ++ (wsX11_init_r6 ++ (wsX11_init_r7 ++ (wsX11_init_r8 ++ (wsX11_init_r9 ++ wsX11_init_r10))))))))) ++ wsX110 ++ wsX50 ++ wsX00 ++ wsX80 ++ wsX70 ++ wsX40 ++ wsX90 ++ wsX100 ++ wsX10 ++ wsX20 ++ wsX30)
def wsX11_addBytes : List Cond := .code yX11_addBytes cX11_addBytes 3 none :: ([.fieldLink RX11 13 "FourTongues" "taped" "I", .fieldLink RX11 9 "FourTongues" "tape" "[B"] ++ wsX110)
def wsX11_feed : List Cond := .code yX11_feed cX11_feed 6 (some .int) :: ([.fieldLink RX11 13 "FourTongues" "taped" "I", .methodLink RX11 63 yX11_addBytes, .instanceMethod yX11_addBytes, .selects RX11 yX11_addBytes yX11_addBytes, .initialized RX11, .code yX11_addBytes cX11_addBytes 3 none, .fieldLink RX11 9 "FourTongues" "tape" "[B"] ++ wsX110)
def wsX11_isTongue : List Cond := .code yX11_isTongue cX11_isTongue 1 (some .boolean) :: ([])
def wsX11_fault : List Cond := .code yX11_fault cX11_fault 1 (some .int) :: ([.fieldLink RX11 17 "FourTongues" "faultKind" "I"] ++ wsX110)
def wsX11_look : List Cond := .code yX11_look cX11_look 2 (some .int) :: ([.fieldLink RX11 23 "FourTongues" "names" "LFourTongues$Names;", .fieldLink RX11 59 "FourTongues" "machine" "LFourTongues$Machine;", .methodLink RX11 119 yX5_inAll, .instanceMethod yX5_inAll, .selects RX5 yX5_inAll yX5_inAll, .initialized RX5, .code yX5_inAll cX5_inAll 1 (some .int), .fieldLink RX5 22 "FourTongues$Names" "count" "I", .methodLink RX11 122 yX4_told, .instanceMethod yX4_told, .selects RX4 yX4_told yX4_told, .initialized RX4, .code yX4_told cX4_told 2 (some .int), .fieldLink RX4 47 "FourTongues$Machine" "tally" "[I"] ++ wsX110 ++ wsX50 ++ wsX40)
def wsX11_answer : List Cond := .code yX11_answer cX11_answer 1 (some .long) :: ([.fieldLink RX11 59 "FourTongues" "machine" "LFourTongues$Machine;", .methodLink RX11 126 yX4_answered, .instanceMethod yX4_answered, .selects RX4 yX4_answered yX4_answered, .initialized RX4, .code yX4_answered cX4_answered 1 (some .long), .fieldLink RX4 67 "FourTongues$Machine" "answer" "J"] ++ wsX110 ++ wsX40)
def wsX11_mark_r1 : List Cond := [Cond.fieldLink RX11 59 "FourTongues" "machine" "LFourTongues$Machine;", Cond.methodLink RX11 130 yX4_markOf, Cond.instanceMethod yX4_markOf, Cond.selects RX4 yX4_markOf yX4_markOf, Cond.initialized RX4, Cond.code yX4_markOf cX4_markOf 2 (some .long), Cond.fieldLink RX4 23 "FourTongues$Machine" "marks" "LFourTongues$Row;", Cond.methodLink RX4 87 yX9_kind, Cond.instanceMethod yX9_kind, Cond.selects RX9 yX9_kind yX9_kind, Cond.initialized RX9, Cond.code yX9_kind cX9_kind 2 (some .int), Cond.fieldLink RX9 7 "FourTongues$Row" "count" "I", Cond.fieldLink RX9 19 "FourTongues$Row" "kinds" "[I", Cond.methodLink RX4 91 yX9_real, Cond.instanceMethod yX9_real, Cond.selects RX9 yX9_real yX9_real, Cond.code yX9_real cX9_real 2 (some .double), Cond.fieldLink RX9 27 "FourTongues$Row" "reals" "[D", Cond.methodLink RX4 95 yX6_bits, Cond.static yX6_bits, Cond.initialized RX6, Cond.code yX6_bits cX6_bits 9 (some .long), Cond.constantLong RX6 15 (-9223372036854775808)]
def wsX11_mark_r2 : List Cond := [Cond.constantDouble RX6 55 (4611686018427387904), Cond.constantDouble RX6 57 (4602678819172646912), Cond.constantDouble RX6 59 (4841369599423283200), Cond.constantLong RX6 61 (4503599627370496), Cond.methodLink RX4 101 yX9_whole, Cond.instanceMethod yX9_whole, Cond.selects RX9 yX9_whole yX9_whole, Cond.code yX9_whole cX9_whole 2 (some .long), Cond.fieldLink RX9 23 "FourTongues$Row" "wholes" "[J"]
def wsX11_mark : List Cond := .code yX11_mark cX11_mark 2 (some .long) :: ((wsX11_mark_r1 ++ wsX11_mark_r2) ++ wsX110 ++ wsX40 ++ wsX90)
def wsX11_markTongue : List Cond := .code yX11_markTongue cX11_markTongue 2 (some .int) :: ([.fieldLink RX11 59 "FourTongues" "machine" "LFourTongues$Machine;", .methodLink RX11 134 yX4_tongueOfMark, .instanceMethod yX4_tongueOfMark, .selects RX4 yX4_tongueOfMark yX4_tongueOfMark, .initialized RX4, .code yX4_tongueOfMark cX4_tongueOfMark 2 (some .int), .fieldLink RX4 23 "FourTongues$Machine" "marks" "LFourTongues$Row;", .methodLink RX4 105 yX9_count, .instanceMethod yX9_count, .selects RX9 yX9_count yX9_count, .initialized RX9, .code yX9_count cX9_count 1 (some .int), .fieldLink RX9 7 "FourTongues$Row" "count" "I", .methodLink RX4 87 yX9_kind, .instanceMethod yX9_kind, .selects RX9 yX9_kind yX9_kind, .code yX9_kind cX9_kind 2 (some .int), .fieldLink RX9 19 "FourTongues$Row" "kinds" "[I"] ++ wsX110 ++ wsX40 ++ wsX90)
def wsX11_failure_r1 : List Cond := [Cond.fieldLink RX11 59 "FourTongues" "machine" "LFourTongues$Machine;", Cond.methodLink RX11 137 yX4_factOf, Cond.instanceMethod yX4_factOf, Cond.selects RX4 yX4_factOf yX4_factOf, Cond.initialized RX4, Cond.code yX4_factOf cX4_factOf 3 (some .int), Cond.fieldLink RX4 29 "FourTongues$Machine" "failures" "LFourTongues$Failures;", Cond.fieldLink RX4 64 "FourTongues$Machine" "cameOut" "I", Cond.methodLink RX4 109 yX1_source, Cond.instanceMethod yX1_source, Cond.selects RX1 yX1_source yX1_source, Cond.initialized RX1, Cond.code yX1_source cX1_source 5 (some .int), Cond.methodLink RX1 47 yX1_fact, Cond.instanceMethod yX1_fact, Cond.selects RX1 yX1_fact yX1_fact, Cond.code yX1_fact cX1_fact 3 (some .int), Cond.fieldLink RX1 15 "FourTongues$Failures" "count" "I", Cond.fieldLink RX1 24 "FourTongues$Failures" "values" "LFourTongues$Row;", Cond.fieldLink RX1 11 "FourTongues$Failures" "facts" "[I", Cond.methodLink RX1 43 yX9_kind, Cond.instanceMethod yX9_kind, Cond.selects RX9 yX9_kind yX9_kind, Cond.initialized RX9]
def wsX11_failure_r2 : List Cond := [Cond.code yX9_kind cX9_kind 2 (some .int), Cond.fieldLink RX9 7 "FourTongues$Row" "count" "I", Cond.fieldLink RX9 19 "FourTongues$Row" "kinds" "[I", Cond.methodLink RX4 113 yX1_fact]
def wsX11_failure : List Cond := .code yX11_failure cX11_failure 3 (some .int) :: ((wsX11_failure_r1 ++ wsX11_failure_r2) ++ wsX110 ++ wsX40 ++ wsX10 ++ wsX90)
def wsX11_under_r1 : List Cond := [Cond.fieldLink RX11 59 "FourTongues" "machine" "LFourTongues$Machine;", Cond.methodLink RX11 140 yX4_factUnder, Cond.instanceMethod yX4_factUnder, Cond.selects RX4 yX4_factUnder yX4_factUnder, Cond.initialized RX4, Cond.code yX4_factUnder cX4_factUnder 5 (some .int), Cond.fieldLink RX4 29 "FourTongues$Machine" "failures" "LFourTongues$Failures;", Cond.fieldLink RX4 64 "FourTongues$Machine" "cameOut" "I", Cond.methodLink RX4 109 yX1_source, Cond.instanceMethod yX1_source, Cond.selects RX1 yX1_source yX1_source, Cond.initialized RX1, Cond.code yX1_source cX1_source 5 (some .int), Cond.methodLink RX1 47 yX1_fact, Cond.instanceMethod yX1_fact, Cond.selects RX1 yX1_fact yX1_fact, Cond.code yX1_fact cX1_fact 3 (some .int), Cond.fieldLink RX1 15 "FourTongues$Failures" "count" "I", Cond.fieldLink RX1 24 "FourTongues$Failures" "values" "LFourTongues$Row;", Cond.fieldLink RX1 11 "FourTongues$Failures" "facts" "[I", Cond.methodLink RX1 43 yX9_kind, Cond.instanceMethod yX9_kind, Cond.selects RX9 yX9_kind yX9_kind, Cond.initialized RX9]
def wsX11_under_r2 : List Cond := [Cond.code yX9_kind cX9_kind 2 (some .int), Cond.fieldLink RX9 7 "FourTongues$Row" "count" "I", Cond.fieldLink RX9 19 "FourTongues$Row" "kinds" "[I", Cond.methodLink RX4 116 yX1_lower, Cond.instanceMethod yX1_lower, Cond.selects RX1 yX1_lower yX1_lower, Cond.code yX1_lower cX1_lower 5 (some .int), Cond.fieldLink RX1 31 "FourTongues$Failures" "lyingCount" "I", Cond.fieldLink RX1 28 "FourTongues$Failures" "lying" "[I", Cond.methodLink RX4 113 yX1_fact]
def wsX11_under : List Cond := .code yX11_under cX11_under 4 (some .int) :: ((wsX11_under_r1 ++ wsX11_under_r2) ++ wsX110 ++ wsX40 ++ wsX10 ++ wsX90)
set_option maxRecDepth 20000 in
theorem ggX0_init_J7_fill_53178 : GoodIn wsX0_init wsJ7_fill_53178 := goodIn_r _ [14] (by decide +kernel) (by decide +kernel)
set_option maxRecDepth 20000 in
theorem gX0_init_J7_fill_53178 : GoodIn wsX0_init (va_wsS RX0 31 yJ7_fill_53178 wsJ7_fill_53178) := goodIn_app (goodIn_of _ (by decide +kernel)) ggX0_init_J7_fill_53178
theorem dX0_init_0 : decode cX0_init 0 = .ok (.aload_n 0, 1) := by decide +kernel
theorem dX0_init_1 : decode cX0_init 1 = .ok (.invokespecial 3, 3) := by decide +kernel
theorem dX0_init_4 : decode cX0_init 4 = .ok (.aload_n 0, 1) := by decide +kernel
theorem dX0_init_5 : decode cX0_init 5 = .ok (.bipush 16, 2) := by decide +kernel
theorem dX0_init_7 : decode cX0_init 7 = .ok (.newarray .int, 2) := by decide +kernel
theorem dX0_init_9 : decode cX0_init 9 = .ok (.putfield 9, 3) := by decide +kernel
theorem dX0_init_12 : decode cX0_init 12 = .ok (.aload_n 0, 1) := by decide +kernel
theorem dX0_init_13 : decode cX0_init 13 = .ok (.bipush 16, 2) := by decide +kernel
theorem dX0_init_15 : decode cX0_init 15 = .ok (.newarray .int, 2) := by decide +kernel
theorem dX0_init_17 : decode cX0_init 17 = .ok (.putfield 15, 3) := by decide +kernel
theorem dX0_init_20 : decode cX0_init 20 = .ok (.aload_n 0, 1) := by decide +kernel
theorem dX0_init_21 : decode cX0_init 21 = .ok (.bipush 100, 2) := by decide +kernel
theorem dX0_init_23 : decode cX0_init 23 = .ok (.newarray .int, 2) := by decide +kernel
theorem dX0_init_25 : decode cX0_init 25 = .ok (.putfield 18, 3) := by decide +kernel
theorem dX0_init_28 : decode cX0_init 28 = .ok (.aload_n 0, 1) := by decide +kernel
theorem dX0_init_29 : decode cX0_init 29 = .ok (.bipush 100, 2) := by decide +kernel
theorem dX0_init_31 : decode cX0_init 31 = .ok (.newarray .int, 2) := by decide +kernel
theorem dX0_init_33 : decode cX0_init 33 = .ok (.putfield 21, 3) := by decide +kernel
theorem dX0_init_36 : decode cX0_init 36 = .ok (.aload_n 0, 1) := by decide +kernel
theorem dX0_init_37 : decode cX0_init 37 = .ok (.bipush 100, 2) := by decide +kernel
theorem dX0_init_39 : decode cX0_init 39 = .ok (.newarray .int, 2) := by decide +kernel
theorem dX0_init_41 : decode cX0_init 41 = .ok (.putfield 24, 3) := by decide +kernel
theorem dX0_init_44 : decode cX0_init 44 = .ok (.aload_n 0, 1) := by decide +kernel
theorem dX0_init_45 : decode cX0_init 45 = .ok (.iconst 0, 1) := by decide +kernel
theorem dX0_init_46 : decode cX0_init 46 = .ok (.putfield 27, 3) := by decide +kernel
theorem dX0_init_49 : decode cX0_init 49 = .ok (.aload_n 0, 1) := by decide +kernel
theorem dX0_init_50 : decode cX0_init 50 = .ok (.getfield 15, 3) := by decide +kernel
theorem dX0_init_53 : decode cX0_init 53 = .ok (.bipush 9, 2) := by decide +kernel
theorem dX0_init_55 : decode cX0_init 55 = .ok (.invokestatic 31, 3) := by decide +kernel
theorem dX0_init_58 : decode cX0_init 58 = .ok (.return_, 1) := by decide +kernel
set_option maxRecDepth 20000 in
theorem ggX1_init_X9_init : GoodIn wsX1_init wsX9_init := goodIn_r _ [15, 16, 2, 3, 17, 18, 19, 20, 21, 4, 22, 23, 24, 25, 26, 32, 33, 34, 35] (by decide +kernel) (by decide +kernel)
set_option maxRecDepth 20000 in
theorem gX1_init_X9_init : GoodIn wsX1_init (wsX9_init) := ggX1_init_X9_init
theorem dX1_init_0 : decode cX1_init 0 = .ok (.aload_n 0, 1) := by decide +kernel
theorem dX1_init_1 : decode cX1_init 1 = .ok (.invokespecial 3, 3) := by decide +kernel
theorem dX1_init_4 : decode cX1_init 4 = .ok (.aload_n 0, 1) := by decide +kernel
theorem dX1_init_5 : decode cX1_init 5 = .ok (.sipush 288, 3) := by decide +kernel
theorem dX1_init_8 : decode cX1_init 8 = .ok (.newarray .int, 2) := by decide +kernel
theorem dX1_init_10 : decode cX1_init 10 = .ok (.putfield 11, 3) := by decide +kernel
theorem dX1_init_13 : decode cX1_init 13 = .ok (.aload_n 0, 1) := by decide +kernel
theorem dX1_init_14 : decode cX1_init 14 = .ok (.iconst 0, 1) := by decide +kernel
theorem dX1_init_15 : decode cX1_init 15 = .ok (.putfield 15, 3) := by decide +kernel
theorem dX1_init_18 : decode cX1_init 18 = .ok (.aload_n 0, 1) := by decide +kernel
theorem dX1_init_19 : decode cX1_init 19 = .ok (.new 19, 3) := by decide +kernel
theorem dX1_init_22 : decode cX1_init 22 = .ok (.dup, 1) := by decide +kernel
theorem dX1_init_23 : decode cX1_init 23 = .ok (.bipush 32, 2) := by decide +kernel
theorem dX1_init_25 : decode cX1_init 25 = .ok (.invokespecial 21, 3) := by decide +kernel
theorem dX1_init_28 : decode cX1_init 28 = .ok (.putfield 24, 3) := by decide +kernel
theorem dX1_init_31 : decode cX1_init 31 = .ok (.aload_n 0, 1) := by decide +kernel
theorem dX1_init_32 : decode cX1_init 32 = .ok (.bipush 64, 2) := by decide +kernel
theorem dX1_init_34 : decode cX1_init 34 = .ok (.newarray .int, 2) := by decide +kernel
theorem dX1_init_36 : decode cX1_init 36 = .ok (.putfield 28, 3) := by decide +kernel
theorem dX1_init_39 : decode cX1_init 39 = .ok (.aload_n 0, 1) := by decide +kernel
theorem dX1_init_40 : decode cX1_init 40 = .ok (.iconst 0, 1) := by decide +kernel
theorem dX1_init_41 : decode cX1_init 41 = .ok (.putfield 31, 3) := by decide +kernel
theorem dX1_init_44 : decode cX1_init 44 = .ok (.return_, 1) := by decide +kernel
theorem dX1_fact_0 : decode cX1_fact 0 = .ok (.iload_n 1, 1) := by decide +kernel
theorem dX1_fact_1 : decode cX1_fact 1 = .ok (.ifCond .lt 21, 3) := by decide +kernel
theorem dX1_fact_22 : decode cX1_fact 22 = .ok (.iconst (-1), 1) := by decide +kernel
theorem dX1_fact_23 : decode cX1_fact 23 = .ok (.ireturn, 1) := by decide +kernel
theorem dX1_source_0 : decode cX1_source 0 = .ok (.iload_n 2, 1) := by decide +kernel
theorem dX1_source_1 : decode cX1_source 1 = .ok (.ifCond .ge 7, 3) := by decide +kernel
theorem dX1_source_4 : decode cX1_source 4 = .ok (.iconst (-1), 1) := by decide +kernel
theorem dX1_source_5 : decode cX1_source 5 = .ok (.goto 4, 3) := by decide +kernel
theorem dX1_source_8 : decode cX1_source 8 = .ok (.iload_n 1, 1) := by decide +kernel
theorem dX1_source_9 : decode cX1_source 9 = .ok (.istore_n 3, 1) := by decide +kernel
theorem dX1_source_10 : decode cX1_source 10 = .ok (.iconst 0, 1) := by decide +kernel
theorem dX1_source_11 : decode cX1_source 11 = .ok (.istore 4, 2) := by decide +kernel
theorem dX1_source_13 : decode cX1_source 13 = .ok (.iload 4, 2) := by decide +kernel
theorem dX1_source_15 : decode cX1_source 15 = .ok (.iload_n 2, 1) := by decide +kernel
theorem dX1_source_16 : decode cX1_source 16 = .ok (.if_icmp .ge 21, 3) := by decide +kernel
theorem dX1_source_19 : decode cX1_source 19 = .ok (.iload_n 3, 1) := by decide +kernel
theorem dX1_source_20 : decode cX1_source 20 = .ok (.ifCond .lt 17, 3) := by decide +kernel
theorem dX1_source_37 : decode cX1_source 37 = .ok (.iload_n 3, 1) := by decide +kernel
theorem dX1_source_38 : decode cX1_source 38 = .ok (.ireturn, 1) := by decide +kernel
set_option maxRecDepth 20000 in
theorem ggX1_lower_X1_fact : GoodIn wsX1_lower wsX1_fact := goodIn_r _ [7, 8, 9, 10, 11, 12, 13, 14, 15, 16, 17, 18, 19, 20, 21, 22, 23, 24, 25, 26] (by decide +kernel) (by decide +kernel)
set_option maxRecDepth 20000 in
theorem gX1_lower_X1_fact : GoodIn wsX1_lower (wsV RX1 47 RX1 yX1_fact wsX1_fact) := goodIn_app (goodIn_of _ (by decide +kernel)) ggX1_lower_X1_fact
theorem dX1_lower_0 : decode cX1_lower 0 = .ok (.iload_n 2, 1) := by decide +kernel
theorem dX1_lower_1 : decode cX1_lower 1 = .ok (.ifCond .ge 7, 3) := by decide +kernel
theorem dX1_lower_4 : decode cX1_lower 4 = .ok (.iconst (-1), 1) := by decide +kernel
theorem dX1_lower_5 : decode cX1_lower 5 = .ok (.goto 10, 3) := by decide +kernel
theorem dX1_lower_8 : decode cX1_lower 8 = .ok (.aload_n 0, 1) := by decide +kernel
theorem dX1_lower_9 : decode cX1_lower 9 = .ok (.iload_n 1, 1) := by decide +kernel
theorem dX1_lower_10 : decode cX1_lower 10 = .ok (.bipush 8, 2) := by decide +kernel
theorem dX1_lower_12 : decode cX1_lower 12 = .ok (.invokevirtual 47, 3) := by decide +kernel
theorem dX1_lower_15 : decode cX1_lower 15 = .ok (.istore_n 3, 1) := by decide +kernel
theorem dX1_lower_16 : decode cX1_lower 16 = .ok (.iconst 0, 1) := by decide +kernel
theorem dX1_lower_17 : decode cX1_lower 17 = .ok (.istore 4, 2) := by decide +kernel
theorem dX1_lower_19 : decode cX1_lower 19 = .ok (.iload 4, 2) := by decide +kernel
theorem dX1_lower_21 : decode cX1_lower 21 = .ok (.iload_n 2, 1) := by decide +kernel
theorem dX1_lower_22 : decode cX1_lower 22 = .ok (.if_icmp .ge 32, 3) := by decide +kernel
theorem dX1_lower_25 : decode cX1_lower 25 = .ok (.iload_n 3, 1) := by decide +kernel
theorem dX1_lower_26 : decode cX1_lower 26 = .ok (.ifCond .lt 28, 3) := by decide +kernel
theorem dX1_lower_54 : decode cX1_lower 54 = .ok (.iload_n 3, 1) := by decide +kernel
theorem dX1_lower_55 : decode cX1_lower 55 = .ok (.ifCond .lt 22, 3) := by decide +kernel
theorem dX1_lower_77 : decode cX1_lower 77 = .ok (.iconst (-1), 1) := by decide +kernel
theorem dX1_lower_78 : decode cX1_lower 78 = .ok (.ireturn, 1) := by decide +kernel
theorem dX2_init_0 : decode cX2_init 0 = .ok (.aload_n 0, 1) := by decide +kernel
theorem dX2_init_1 : decode cX2_init 1 = .ok (.invokespecial 1, 3) := by decide +kernel
theorem dX2_init_4 : decode cX2_init 4 = .ok (.aload_n 0, 1) := by decide +kernel
theorem dX2_init_5 : decode cX2_init 5 = .ok (.bipush 24, 2) := by decide +kernel
theorem dX2_init_7 : decode cX2_init 7 = .ok (.newarray .int, 2) := by decide +kernel
theorem dX2_init_9 : decode cX2_init 9 = .ok (.putfield 9, 3) := by decide +kernel
theorem dX2_init_12 : decode cX2_init 12 = .ok (.aload_n 0, 1) := by decide +kernel
theorem dX2_init_13 : decode cX2_init 13 = .ok (.bipush 24, 2) := by decide +kernel
theorem dX2_init_15 : decode cX2_init 15 = .ok (.newarray .int, 2) := by decide +kernel
theorem dX2_init_17 : decode cX2_init 17 = .ok (.putfield 13, 3) := by decide +kernel
theorem dX2_init_20 : decode cX2_init 20 = .ok (.aload_n 0, 1) := by decide +kernel
theorem dX2_init_21 : decode cX2_init 21 = .ok (.bipush 24, 2) := by decide +kernel
theorem dX2_init_23 : decode cX2_init 23 = .ok (.newarray .int, 2) := by decide +kernel
theorem dX2_init_25 : decode cX2_init 25 = .ok (.putfield 16, 3) := by decide +kernel
theorem dX2_init_28 : decode cX2_init 28 = .ok (.aload_n 0, 1) := by decide +kernel
theorem dX2_init_29 : decode cX2_init 29 = .ok (.bipush 24, 2) := by decide +kernel
theorem dX2_init_31 : decode cX2_init 31 = .ok (.newarray .int, 2) := by decide +kernel
theorem dX2_init_33 : decode cX2_init 33 = .ok (.putfield 19, 3) := by decide +kernel
theorem dX2_init_36 : decode cX2_init 36 = .ok (.aload_n 0, 1) := by decide +kernel
theorem dX2_init_37 : decode cX2_init 37 = .ok (.bipush 24, 2) := by decide +kernel
theorem dX2_init_39 : decode cX2_init 39 = .ok (.newarray .int, 2) := by decide +kernel
theorem dX2_init_41 : decode cX2_init 41 = .ok (.putfield 22, 3) := by decide +kernel
theorem dX2_init_44 : decode cX2_init 44 = .ok (.aload_n 0, 1) := by decide +kernel
theorem dX2_init_45 : decode cX2_init 45 = .ok (.bipush 24, 2) := by decide +kernel
theorem dX2_init_47 : decode cX2_init 47 = .ok (.newarray .int, 2) := by decide +kernel
theorem dX2_init_49 : decode cX2_init 49 = .ok (.putfield 25, 3) := by decide +kernel
theorem dX2_init_52 : decode cX2_init 52 = .ok (.aload_n 0, 1) := by decide +kernel
theorem dX2_init_53 : decode cX2_init 53 = .ok (.bipush 24, 2) := by decide +kernel
theorem dX2_init_55 : decode cX2_init 55 = .ok (.newarray .int, 2) := by decide +kernel
theorem dX2_init_57 : decode cX2_init 57 = .ok (.putfield 28, 3) := by decide +kernel
theorem dX2_init_60 : decode cX2_init 60 = .ok (.aload_n 0, 1) := by decide +kernel
theorem dX2_init_61 : decode cX2_init 61 = .ok (.iconst 0, 1) := by decide +kernel
theorem dX2_init_62 : decode cX2_init 62 = .ok (.putfield 31, 3) := by decide +kernel
theorem dX2_init_65 : decode cX2_init 65 = .ok (.return_, 1) := by decide +kernel
set_option maxRecDepth 20000 in
theorem ggX3_init_X9_init : GoodIn wsX3_init wsX9_init := goodIn_r _ [17, 18, 2, 3, 19, 20, 21, 22, 23, 4, 24, 25, 26, 27, 28, 36, 37, 38, 39] (by decide +kernel) (by decide +kernel)
set_option maxRecDepth 20000 in
theorem gX3_init_X9_init : GoodIn wsX3_init (wsX9_init) := ggX3_init_X9_init
theorem dX3_init_0 : decode cX3_init 0 = .ok (.aload_n 0, 1) := by decide +kernel
theorem dX3_init_1 : decode cX3_init 1 = .ok (.invokespecial 1, 3) := by decide +kernel
theorem dX3_init_4 : decode cX3_init 4 = .ok (.aload_n 0, 1) := by decide +kernel
theorem dX3_init_5 : decode cX3_init 5 = .ok (.sipush 400, 3) := by decide +kernel
theorem dX3_init_8 : decode cX3_init 8 = .ok (.newarray .int, 2) := by decide +kernel
theorem dX3_init_10 : decode cX3_init 10 = .ok (.putfield 9, 3) := by decide +kernel
theorem dX3_init_13 : decode cX3_init 13 = .ok (.aload_n 0, 1) := by decide +kernel
theorem dX3_init_14 : decode cX3_init 14 = .ok (.sipush 400, 3) := by decide +kernel
theorem dX3_init_17 : decode cX3_init 17 = .ok (.newarray .int, 2) := by decide +kernel
theorem dX3_init_19 : decode cX3_init 19 = .ok (.putfield 13, 3) := by decide +kernel
theorem dX3_init_22 : decode cX3_init 22 = .ok (.aload_n 0, 1) := by decide +kernel
theorem dX3_init_23 : decode cX3_init 23 = .ok (.sipush 400, 3) := by decide +kernel
theorem dX3_init_26 : decode cX3_init 26 = .ok (.newarray .int, 2) := by decide +kernel
theorem dX3_init_28 : decode cX3_init 28 = .ok (.putfield 16, 3) := by decide +kernel
theorem dX3_init_31 : decode cX3_init 31 = .ok (.aload_n 0, 1) := by decide +kernel
theorem dX3_init_32 : decode cX3_init 32 = .ok (.sipush 400, 3) := by decide +kernel
theorem dX3_init_35 : decode cX3_init 35 = .ok (.newarray .int, 2) := by decide +kernel
theorem dX3_init_37 : decode cX3_init 37 = .ok (.putfield 19, 3) := by decide +kernel
theorem dX3_init_40 : decode cX3_init 40 = .ok (.aload_n 0, 1) := by decide +kernel
theorem dX3_init_41 : decode cX3_init 41 = .ok (.sipush 400, 3) := by decide +kernel
theorem dX3_init_44 : decode cX3_init 44 = .ok (.newarray .int, 2) := by decide +kernel
theorem dX3_init_46 : decode cX3_init 46 = .ok (.putfield 22, 3) := by decide +kernel
theorem dX3_init_49 : decode cX3_init 49 = .ok (.aload_n 0, 1) := by decide +kernel
theorem dX3_init_50 : decode cX3_init 50 = .ok (.new 25, 3) := by decide +kernel
theorem dX3_init_53 : decode cX3_init 53 = .ok (.dup, 1) := by decide +kernel
theorem dX3_init_54 : decode cX3_init 54 = .ok (.bipush 16, 2) := by decide +kernel
theorem dX3_init_56 : decode cX3_init 56 = .ok (.invokespecial 27, 3) := by decide +kernel
theorem dX3_init_59 : decode cX3_init 59 = .ok (.putfield 30, 3) := by decide +kernel
theorem dX3_init_62 : decode cX3_init 62 = .ok (.aload_n 0, 1) := by decide +kernel
theorem dX3_init_63 : decode cX3_init 63 = .ok (.iconst 0, 1) := by decide +kernel
theorem dX3_init_64 : decode cX3_init 64 = .ok (.putfield 34, 3) := by decide +kernel
theorem dX3_init_67 : decode cX3_init 67 = .ok (.return_, 1) := by decide +kernel
set_option maxRecDepth 20000 in
theorem ggX4_init_X9_init : GoodIn wsX4_init wsX9_init := goodIn_r _ [36, 37, 2, 3, 38, 39, 40, 41, 42, 22, 43, 44, 45, 46, 47, 81, 82, 83, 84] (by decide +kernel) (by decide +kernel)
set_option maxRecDepth 20000 in
theorem gX4_init_X9_init : GoodIn wsX4_init (wsX9_init) := ggX4_init_X9_init
set_option maxRecDepth 20000 in
theorem ggX4_init_X1_init : GoodIn wsX4_init wsX1_init := goodIn_r _ [49, 50, 2, 3, 22, 51, 52, 53, 5, 6, 54, 55, 56, 57, 35, 36, 37, 38, 39, 40, 41, 42, 43, 44, 45, 46, 47, 102, 103, 104, 105, 106, 81, 82, 83, 84] (by decide +kernel) (by decide +kernel)
set_option maxRecDepth 20000 in
theorem gX4_init_X1_init_n28 : GoodIn wsX4_init (wsX1_init) := ggX4_init_X1_init
set_option maxRecDepth 20000 in
theorem ggX4_init_X2_init : GoodIn wsX4_init wsX2_init := goodIn_r _ [59, 60, 2, 3, 22, 61, 62, 63, 64, 65, 66, 67, 68, 107, 108, 109, 110, 111, 112, 113, 114] (by decide +kernel) (by decide +kernel)
set_option maxRecDepth 20000 in
theorem gX4_init_X2_init_n35 : GoodIn wsX4_init (wsX2_init) := ggX4_init_X2_init
set_option maxRecDepth 20000 in
theorem ggX4_init_X3_init : GoodIn wsX4_init wsX3_init := goodIn_r _ [70, 71, 2, 3, 22, 72, 73, 74, 75, 76, 77, 5, 6, 78, 79, 80, 35, 36, 37, 38, 39, 40, 41, 42, 43, 44, 45, 46, 47, 115, 116, 117, 118, 119, 120, 121, 81, 82, 83, 84] (by decide +kernel) (by decide +kernel)
set_option maxRecDepth 20000 in
theorem gX4_init_X3_init_n42 : GoodIn wsX4_init (wsX3_init) := ggX4_init_X3_init
theorem dX4_init_0 : decode cX4_init 0 = .ok (.aload_n 0, 1) := by decide +kernel
theorem dX4_init_1 : decode cX4_init 1 = .ok (.invokespecial 3, 3) := by decide +kernel
theorem dX4_init_4 : decode cX4_init 4 = .ok (.aload_n 0, 1) := by decide +kernel
theorem dX4_init_5 : decode cX4_init 5 = .ok (.new 9, 3) := by decide +kernel
theorem dX4_init_8 : decode cX4_init 8 = .ok (.dup, 1) := by decide +kernel
theorem dX4_init_9 : decode cX4_init 9 = .ok (.bipush 64, 2) := by decide +kernel
theorem dX4_init_11 : decode cX4_init 11 = .ok (.invokespecial 11, 3) := by decide +kernel
theorem dX4_init_14 : decode cX4_init 14 = .ok (.putfield 14, 3) := by decide +kernel
theorem dX4_init_17 : decode cX4_init 17 = .ok (.aload_n 0, 1) := by decide +kernel
theorem dX4_init_18 : decode cX4_init 18 = .ok (.new 9, 3) := by decide +kernel
theorem dX4_init_21 : decode cX4_init 21 = .ok (.dup, 1) := by decide +kernel
theorem dX4_init_22 : decode cX4_init 22 = .ok (.bipush 64, 2) := by decide +kernel
theorem dX4_init_24 : decode cX4_init 24 = .ok (.invokespecial 11, 3) := by decide +kernel
theorem dX4_init_27 : decode cX4_init 27 = .ok (.putfield 20, 3) := by decide +kernel
theorem dX4_init_30 : decode cX4_init 30 = .ok (.aload_n 0, 1) := by decide +kernel
theorem dX4_init_31 : decode cX4_init 31 = .ok (.new 9, 3) := by decide +kernel
theorem dX4_init_34 : decode cX4_init 34 = .ok (.dup, 1) := by decide +kernel
theorem dX4_init_35 : decode cX4_init 35 = .ok (.bipush 16, 2) := by decide +kernel
theorem dX4_init_37 : decode cX4_init 37 = .ok (.invokespecial 11, 3) := by decide +kernel
theorem dX4_init_40 : decode cX4_init 40 = .ok (.putfield 23, 3) := by decide +kernel
theorem dX4_init_43 : decode cX4_init 43 = .ok (.aload_n 0, 1) := by decide +kernel
theorem dX4_init_44 : decode cX4_init 44 = .ok (.new 26, 3) := by decide +kernel
theorem dX4_init_47 : decode cX4_init 47 = .ok (.dup, 1) := by decide +kernel
theorem dX4_init_48 : decode cX4_init 48 = .ok (.invokespecial 28, 3) := by decide +kernel
theorem dX4_init_51 : decode cX4_init 51 = .ok (.putfield 29, 3) := by decide +kernel
theorem dX4_init_54 : decode cX4_init 54 = .ok (.aload_n 0, 1) := by decide +kernel
theorem dX4_init_55 : decode cX4_init 55 = .ok (.new 33, 3) := by decide +kernel
theorem dX4_init_58 : decode cX4_init 58 = .ok (.dup, 1) := by decide +kernel
theorem dX4_init_59 : decode cX4_init 59 = .ok (.invokespecial 35, 3) := by decide +kernel
theorem dX4_init_62 : decode cX4_init 62 = .ok (.putfield 36, 3) := by decide +kernel
theorem dX4_init_65 : decode cX4_init 65 = .ok (.aload_n 0, 1) := by decide +kernel
theorem dX4_init_66 : decode cX4_init 66 = .ok (.new 40, 3) := by decide +kernel
theorem dX4_init_69 : decode cX4_init 69 = .ok (.dup, 1) := by decide +kernel
theorem dX4_init_70 : decode cX4_init 70 = .ok (.invokespecial 42, 3) := by decide +kernel
theorem dX4_init_73 : decode cX4_init 73 = .ok (.putfield 43, 3) := by decide +kernel
theorem dX4_init_76 : decode cX4_init 76 = .ok (.aload_n 0, 1) := by decide +kernel
theorem dX4_init_77 : decode cX4_init 77 = .ok (.bipush 10, 2) := by decide +kernel
theorem dX4_init_79 : decode cX4_init 79 = .ok (.newarray .int, 2) := by decide +kernel
theorem dX4_init_81 : decode cX4_init 81 = .ok (.putfield 47, 3) := by decide +kernel
theorem dX4_init_84 : decode cX4_init 84 = .ok (.aload_n 0, 1) := by decide +kernel
theorem dX4_init_85 : decode cX4_init 85 = .ok (.iconst 0, 1) := by decide +kernel
theorem dX4_init_86 : decode cX4_init 86 = .ok (.putfield 51, 3) := by decide +kernel
theorem dX4_init_89 : decode cX4_init 89 = .ok (.aload_n 0, 1) := by decide +kernel
theorem dX4_init_90 : decode cX4_init 90 = .ok (.iconst 0, 1) := by decide +kernel
theorem dX4_init_91 : decode cX4_init 91 = .ok (.putfield 55, 3) := by decide +kernel
theorem dX4_init_94 : decode cX4_init 94 = .ok (.aload_n 0, 1) := by decide +kernel
theorem dX4_init_95 : decode cX4_init 95 = .ok (.iconst 4, 1) := by decide +kernel
theorem dX4_init_96 : decode cX4_init 96 = .ok (.putfield 58, 3) := by decide +kernel
theorem dX4_init_99 : decode cX4_init 99 = .ok (.aload_n 0, 1) := by decide +kernel
theorem dX4_init_100 : decode cX4_init 100 = .ok (.iconst (-1), 1) := by decide +kernel
theorem dX4_init_101 : decode cX4_init 101 = .ok (.putfield 61, 3) := by decide +kernel
theorem dX4_init_104 : decode cX4_init 104 = .ok (.aload_n 0, 1) := by decide +kernel
theorem dX4_init_105 : decode cX4_init 105 = .ok (.iconst (-1), 1) := by decide +kernel
theorem dX4_init_106 : decode cX4_init 106 = .ok (.putfield 64, 3) := by decide +kernel
theorem dX4_init_109 : decode cX4_init 109 = .ok (.aload_n 0, 1) := by decide +kernel
theorem dX4_init_110 : decode cX4_init 110 = .ok (.lconst 0, 1) := by decide +kernel
theorem dX4_init_111 : decode cX4_init 111 = .ok (.putfield 67, 3) := by decide +kernel
theorem dX4_init_114 : decode cX4_init 114 = .ok (.aload_n 0, 1) := by decide +kernel
theorem dX4_init_115 : decode cX4_init 115 = .ok (.aload_n 1, 1) := by decide +kernel
theorem dX4_init_116 : decode cX4_init 116 = .ok (.putfield 71, 3) := by decide +kernel
theorem dX4_init_119 : decode cX4_init 119 = .ok (.aload_n 0, 1) := by decide +kernel
theorem dX4_init_120 : decode cX4_init 120 = .ok (.aload_n 2, 1) := by decide +kernel
theorem dX4_init_121 : decode cX4_init 121 = .ok (.putfield 75, 3) := by decide +kernel
theorem dX4_init_124 : decode cX4_init 124 = .ok (.aload_n 0, 1) := by decide +kernel
theorem dX4_init_125 : decode cX4_init 125 = .ok (.aload_n 3, 1) := by decide +kernel
theorem dX4_init_126 : decode cX4_init 126 = .ok (.putfield 79, 3) := by decide +kernel
theorem dX4_init_129 : decode cX4_init 129 = .ok (.aload_n 0, 1) := by decide +kernel
theorem dX4_init_130 : decode cX4_init 130 = .ok (.aload 4, 2) := by decide +kernel
theorem dX4_init_132 : decode cX4_init 132 = .ok (.putfield 83, 3) := by decide +kernel
theorem dX4_init_135 : decode cX4_init 135 = .ok (.return_, 1) := by decide +kernel
theorem dX4_told_0 : decode cX4_told 0 = .ok (.iload_n 1, 1) := by decide +kernel
theorem dX4_told_1 : decode cX4_told 1 = .ok (.ifCond .lt 18, 3) := by decide +kernel
theorem dX4_told_4 : decode cX4_told 4 = .ok (.iload_n 1, 1) := by decide +kernel
theorem dX4_told_5 : decode cX4_told 5 = .ok (.bipush 10, 2) := by decide +kernel
theorem dX4_told_7 : decode cX4_told 7 = .ok (.if_icmp .ge 12, 3) := by decide +kernel
theorem dX4_told_10 : decode cX4_told 10 = .ok (.aload_n 0, 1) := by decide +kernel
theorem dX4_told_11 : decode cX4_told 11 = .ok (.getfield 47, 3) := by decide +kernel
theorem dX4_told_14 : decode cX4_told 14 = .ok (.iload_n 1, 1) := by decide +kernel
theorem dX4_told_15 : decode cX4_told 15 = .ok (.iaload, 1) := by decide +kernel
theorem dX4_told_16 : decode cX4_told 16 = .ok (.goto 4, 3) := by decide +kernel
theorem dX4_told_19 : decode cX4_told 19 = .ok (.iconst (-1), 1) := by decide +kernel
theorem dX4_told_20 : decode cX4_told 20 = .ok (.ireturn, 1) := by decide +kernel
theorem dX4_answered_0 : decode cX4_answered 0 = .ok (.aload_n 0, 1) := by decide +kernel
theorem dX4_answered_1 : decode cX4_answered 1 = .ok (.getfield 67, 3) := by decide +kernel
theorem dX4_answered_4 : decode cX4_answered 4 = .ok (.lreturn, 1) := by decide +kernel
set_option maxRecDepth 20000 in
theorem ggX4_markOf_X9_kind : GoodIn wsX4_markOf wsX9_kind := goodIn_r _ [6, 7, 8, 45, 46, 47, 48] (by decide +kernel) (by decide +kernel)
set_option maxRecDepth 20000 in
theorem gX4_markOf_X9_kind : GoodIn wsX4_markOf (wsV RX4 87 RX9 yX9_kind wsX9_kind) := goodIn_app (goodIn_of _ (by decide +kernel)) ggX4_markOf_X9_kind
set_option maxRecDepth 20000 in
theorem ggX4_markOf_X9_whole : GoodIn wsX4_markOf wsX9_whole := goodIn_r _ [26, 7, 27, 45, 46, 47, 48] (by decide +kernel) (by decide +kernel)
set_option maxRecDepth 20000 in
theorem gX4_markOf_X9_whole : GoodIn wsX4_markOf (wsV RX4 101 RX9 yX9_whole wsX9_whole) := goodIn_app (goodIn_of _ (by decide +kernel)) ggX4_markOf_X9_whole
theorem dX4_markOf_0 : decode cX4_markOf 0 = .ok (.aload_n 0, 1) := by decide +kernel
theorem dX4_markOf_1 : decode cX4_markOf 1 = .ok (.getfield 23, 3) := by decide +kernel
theorem dX4_markOf_4 : decode cX4_markOf 4 = .ok (.iload_n 1, 1) := by decide +kernel
theorem dX4_markOf_5 : decode cX4_markOf 5 = .ok (.invokevirtual 87, 3) := by decide +kernel
theorem dX4_markOf_8 : decode cX4_markOf 8 = .ok (.iconst 3, 1) := by decide +kernel
theorem dX4_markOf_9 : decode cX4_markOf 9 = .ok (.if_icmp .ne 17, 3) := by decide +kernel
theorem dX4_markOf_26 : decode cX4_markOf 26 = .ok (.aload_n 0, 1) := by decide +kernel
theorem dX4_markOf_27 : decode cX4_markOf 27 = .ok (.getfield 23, 3) := by decide +kernel
theorem dX4_markOf_30 : decode cX4_markOf 30 = .ok (.iload_n 1, 1) := by decide +kernel
theorem dX4_markOf_31 : decode cX4_markOf 31 = .ok (.invokevirtual 101, 3) := by decide +kernel
theorem dX4_markOf_34 : decode cX4_markOf 34 = .ok (.lreturn, 1) := by decide +kernel
set_option maxRecDepth 20000 in
theorem ggX4_tongueOfMark_X9_count : GoodIn wsX4_tongueOfMark wsX9_count := goodIn_r _ [6, 7, 30, 31, 32, 33] (by decide +kernel) (by decide +kernel)
set_option maxRecDepth 20000 in
theorem gX4_tongueOfMark_X9_count : GoodIn wsX4_tongueOfMark (wsV RX4 105 RX9 yX9_count wsX9_count) := goodIn_app (goodIn_of _ (by decide +kernel)) ggX4_tongueOfMark_X9_count
theorem dX4_tongueOfMark_0 : decode cX4_tongueOfMark 0 = .ok (.iload_n 1, 1) := by decide +kernel
theorem dX4_tongueOfMark_1 : decode cX4_tongueOfMark 1 = .ok (.ifCond .lt 25, 3) := by decide +kernel
theorem dX4_tongueOfMark_4 : decode cX4_tongueOfMark 4 = .ok (.iload_n 1, 1) := by decide +kernel
theorem dX4_tongueOfMark_5 : decode cX4_tongueOfMark 5 = .ok (.aload_n 0, 1) := by decide +kernel
theorem dX4_tongueOfMark_6 : decode cX4_tongueOfMark 6 = .ok (.getfield 23, 3) := by decide +kernel
theorem dX4_tongueOfMark_9 : decode cX4_tongueOfMark 9 = .ok (.invokevirtual 105, 3) := by decide +kernel
theorem dX4_tongueOfMark_12 : decode cX4_tongueOfMark 12 = .ok (.if_icmp .ge 14, 3) := by decide +kernel
theorem dX4_tongueOfMark_26 : decode cX4_tongueOfMark 26 = .ok (.iconst (-1), 1) := by decide +kernel
theorem dX4_tongueOfMark_27 : decode cX4_tongueOfMark 27 = .ok (.ireturn, 1) := by decide +kernel
set_option maxRecDepth 20000 in
theorem ggX4_factOf_X1_source : GoodIn wsX4_factOf wsX1_source := goodIn_r _ [7, 8, 9, 10, 6, 11, 12, 13, 14, 15, 16, 17, 18, 19, 20, 21, 40, 41, 42, 43, 44, 45, 46, 47, 48] (by decide +kernel) (by decide +kernel)
set_option maxRecDepth 20000 in
theorem gX4_factOf_X1_source : GoodIn wsX4_factOf (wsV RX4 109 RX1 yX1_source wsX1_source) := goodIn_app (goodIn_of _ (by decide +kernel)) ggX4_factOf_X1_source
set_option maxRecDepth 20000 in
theorem ggX4_factOf_X1_fact : GoodIn wsX4_factOf wsX1_fact := goodIn_r _ [11, 12, 13, 14, 15, 16, 17, 18, 19, 20, 21, 40, 41, 42, 43, 44, 45, 46, 47, 48] (by decide +kernel) (by decide +kernel)
set_option maxRecDepth 20000 in
theorem gX4_factOf_X1_fact : GoodIn wsX4_factOf (wsV RX4 113 RX1 yX1_fact wsX1_fact) := goodIn_app (goodIn_of _ (by decide +kernel)) ggX4_factOf_X1_fact
theorem dX4_factOf_0 : decode cX4_factOf 0 = .ok (.iload_n 2, 1) := by decide +kernel
theorem dX4_factOf_1 : decode cX4_factOf 1 = .ok (.bipush 6, 2) := by decide +kernel
theorem dX4_factOf_3 : decode cX4_factOf 3 = .ok (.if_icmp .le 7, 3) := by decide +kernel
theorem dX4_factOf_6 : decode cX4_factOf 6 = .ok (.iconst (-1), 1) := by decide +kernel
theorem dX4_factOf_7 : decode cX4_factOf 7 = .ok (.goto 23, 3) := by decide +kernel
theorem dX4_factOf_10 : decode cX4_factOf 10 = .ok (.aload_n 0, 1) := by decide +kernel
theorem dX4_factOf_11 : decode cX4_factOf 11 = .ok (.getfield 29, 3) := by decide +kernel
theorem dX4_factOf_14 : decode cX4_factOf 14 = .ok (.aload_n 0, 1) := by decide +kernel
theorem dX4_factOf_15 : decode cX4_factOf 15 = .ok (.getfield 29, 3) := by decide +kernel
theorem dX4_factOf_18 : decode cX4_factOf 18 = .ok (.aload_n 0, 1) := by decide +kernel
theorem dX4_factOf_19 : decode cX4_factOf 19 = .ok (.getfield 64, 3) := by decide +kernel
theorem dX4_factOf_22 : decode cX4_factOf 22 = .ok (.iload_n 1, 1) := by decide +kernel
theorem dX4_factOf_23 : decode cX4_factOf 23 = .ok (.invokevirtual 109, 3) := by decide +kernel
theorem dX4_factOf_26 : decode cX4_factOf 26 = .ok (.iload_n 2, 1) := by decide +kernel
theorem dX4_factOf_27 : decode cX4_factOf 27 = .ok (.invokevirtual 113, 3) := by decide +kernel
theorem dX4_factOf_30 : decode cX4_factOf 30 = .ok (.ireturn, 1) := by decide +kernel
set_option maxRecDepth 20000 in
theorem ggX4_factUnder_X1_source : GoodIn wsX4_factUnder wsX1_source := goodIn_r _ [7, 8, 9, 10, 6, 11, 12, 13, 14, 15, 16, 17, 18, 19, 20, 21, 46, 47, 48, 49, 50, 51, 52, 53, 54] (by decide +kernel) (by decide +kernel)
set_option maxRecDepth 20000 in
theorem gX4_factUnder_X1_source : GoodIn wsX4_factUnder (wsV RX4 109 RX1 yX1_source wsX1_source) := goodIn_app (goodIn_of _ (by decide +kernel)) ggX4_factUnder_X1_source
set_option maxRecDepth 20000 in
theorem ggX4_factUnder_X1_lower : GoodIn wsX4_factUnder wsX1_lower := goodIn_r _ [25, 26, 27, 8, 9, 10, 6, 11, 12, 13, 14, 15, 16, 17, 18, 19, 20, 21, 46, 47, 48, 49, 50, 51, 52, 53, 54] (by decide +kernel) (by decide +kernel)
set_option maxRecDepth 20000 in
theorem gX4_factUnder_X1_lower : GoodIn wsX4_factUnder (wsV RX4 116 RX1 yX1_lower wsX1_lower) := goodIn_app (goodIn_of _ (by decide +kernel)) ggX4_factUnder_X1_lower
set_option maxRecDepth 20000 in
theorem ggX4_factUnder_X1_fact : GoodIn wsX4_factUnder wsX1_fact := goodIn_r _ [11, 12, 13, 14, 15, 16, 17, 18, 19, 20, 21, 46, 47, 48, 49, 50, 51, 52, 53, 54] (by decide +kernel) (by decide +kernel)
set_option maxRecDepth 20000 in
theorem gX4_factUnder_X1_fact : GoodIn wsX4_factUnder (wsV RX4 113 RX1 yX1_fact wsX1_fact) := goodIn_app (goodIn_of _ (by decide +kernel)) ggX4_factUnder_X1_fact
theorem dX4_factUnder_0 : decode cX4_factUnder 0 = .ok (.aload_n 0, 1) := by decide +kernel
theorem dX4_factUnder_1 : decode cX4_factUnder 1 = .ok (.getfield 29, 3) := by decide +kernel
theorem dX4_factUnder_4 : decode cX4_factUnder 4 = .ok (.aload_n 0, 1) := by decide +kernel
theorem dX4_factUnder_5 : decode cX4_factUnder 5 = .ok (.getfield 29, 3) := by decide +kernel
theorem dX4_factUnder_8 : decode cX4_factUnder 8 = .ok (.aload_n 0, 1) := by decide +kernel
theorem dX4_factUnder_9 : decode cX4_factUnder 9 = .ok (.getfield 64, 3) := by decide +kernel
theorem dX4_factUnder_12 : decode cX4_factUnder 12 = .ok (.iload_n 1, 1) := by decide +kernel
theorem dX4_factUnder_13 : decode cX4_factUnder 13 = .ok (.invokevirtual 109, 3) := by decide +kernel
theorem dX4_factUnder_16 : decode cX4_factUnder 16 = .ok (.iload_n 2, 1) := by decide +kernel
theorem dX4_factUnder_17 : decode cX4_factUnder 17 = .ok (.invokevirtual 116, 3) := by decide +kernel
theorem dX4_factUnder_20 : decode cX4_factUnder 20 = .ok (.istore 4, 2) := by decide +kernel
theorem dX4_factUnder_22 : decode cX4_factUnder 22 = .ok (.iload_n 3, 1) := by decide +kernel
theorem dX4_factUnder_23 : decode cX4_factUnder 23 = .ok (.bipush 6, 2) := by decide +kernel
theorem dX4_factUnder_25 : decode cX4_factUnder 25 = .ok (.if_icmp .le 7, 3) := by decide +kernel
theorem dX4_factUnder_28 : decode cX4_factUnder 28 = .ok (.iconst (-1), 1) := by decide +kernel
theorem dX4_factUnder_29 : decode cX4_factUnder 29 = .ok (.goto 13, 3) := by decide +kernel
theorem dX4_factUnder_32 : decode cX4_factUnder 32 = .ok (.aload_n 0, 1) := by decide +kernel
theorem dX4_factUnder_33 : decode cX4_factUnder 33 = .ok (.getfield 29, 3) := by decide +kernel
theorem dX4_factUnder_36 : decode cX4_factUnder 36 = .ok (.iload 4, 2) := by decide +kernel
theorem dX4_factUnder_38 : decode cX4_factUnder 38 = .ok (.iload_n 3, 1) := by decide +kernel
theorem dX4_factUnder_39 : decode cX4_factUnder 39 = .ok (.invokevirtual 113, 3) := by decide +kernel
theorem dX4_factUnder_42 : decode cX4_factUnder 42 = .ok (.ireturn, 1) := by decide +kernel
set_option maxRecDepth 20000 in
theorem ggX5_init_J0_length_8abf5 : GoodIn wsX5_init wsJ0_length_8abf5 := goodIn_r _ [15, 16, 17, 18, 19, 14, 20, 21, 22] (by decide +kernel) (by decide +kernel)
set_option maxRecDepth 20000 in
theorem gX5_init_J0_length_8abf5 : GoodIn wsX5_init (wsV RX5 31 RJ0 yJ0_length_8abf5 wsJ0_length_8abf5) := goodIn_app (goodIn_of _ (by decide +kernel)) ggX5_init_J0_length_8abf5
set_option maxRecDepth 20000 in
theorem ggX5_init_J0_charAt_5068e : GoodIn wsX5_init wsJ0_charAt_5068e := goodIn_r _ [26, 16, 27, 28, 29, 14, 30, 21, 22, 31, 32, 33, 34, 35, 36, 37, 38, 39, 40, 41, 42, 43, 44, 45, 46, 47, 48, 49, 50, 51, 52, 53, 54, 55, 56, 57, 58, 59] (by decide +kernel) (by decide +kernel)
set_option maxRecDepth 20000 in
theorem gX5_init_J0_charAt_5068e : GoodIn wsX5_init (wsV RX5 37 RJ0 yJ0_charAt_5068e wsJ0_charAt_5068e) := goodIn_app (goodIn_of _ (by decide +kernel)) ggX5_init_J0_charAt_5068e
theorem dX5_init_0 : decode cX5_init 0 = .ok (.aload_n 0, 1) := by decide +kernel
theorem dX5_init_1 : decode cX5_init 1 = .ok (.invokespecial 3, 3) := by decide +kernel
theorem dX5_init_4 : decode cX5_init 4 = .ok (.aload_n 0, 1) := by decide +kernel
theorem dX5_init_5 : decode cX5_init 5 = .ok (.bipush 52, 2) := by decide +kernel
theorem dX5_init_7 : decode cX5_init 7 = .ok (.newarray .long, 2) := by decide +kernel
theorem dX5_init_9 : decode cX5_init 9 = .ok (.putfield 11, 3) := by decide +kernel
theorem dX5_init_12 : decode cX5_init 12 = .ok (.aload_n 0, 1) := by decide +kernel
theorem dX5_init_13 : decode cX5_init 13 = .ok (.bipush 52, 2) := by decide +kernel
theorem dX5_init_15 : decode cX5_init 15 = .ok (.newarray .int, 2) := by decide +kernel
theorem dX5_init_17 : decode cX5_init 17 = .ok (.putfield 15, 3) := by decide +kernel
theorem dX5_init_20 : decode cX5_init 20 = .ok (.aload_n 0, 1) := by decide +kernel
theorem dX5_init_21 : decode cX5_init 21 = .ok (.bipush 52, 2) := by decide +kernel
theorem dX5_init_23 : decode cX5_init 23 = .ok (.newarray .int, 2) := by decide +kernel
theorem dX5_init_25 : decode cX5_init 25 = .ok (.putfield 19, 3) := by decide +kernel
theorem dX5_init_28 : decode cX5_init 28 = .ok (.aload_n 0, 1) := by decide +kernel
theorem dX5_init_29 : decode cX5_init 29 = .ok (.iconst 0, 1) := by decide +kernel
theorem dX5_init_30 : decode cX5_init 30 = .ok (.putfield 22, 3) := by decide +kernel
theorem dX5_init_33 : decode cX5_init 33 = .ok (.aload_n 0, 1) := by decide +kernel
theorem dX5_init_34 : decode cX5_init 34 = .ok (.iconst 0, 1) := by decide +kernel
theorem dX5_init_35 : decode cX5_init 35 = .ok (.putfield 26, 3) := by decide +kernel
theorem dX5_init_38 : decode cX5_init 38 = .ok (.lconst 0, 1) := by decide +kernel
theorem dX5_init_39 : decode cX5_init 39 = .ok (.lstore_n 1, 1) := by decide +kernel
theorem dX5_init_40 : decode cX5_init 40 = .ok (.iconst 0, 1) := by decide +kernel
theorem dX5_init_41 : decode cX5_init 41 = .ok (.istore_n 3, 1) := by decide +kernel
theorem dX5_init_42 : decode cX5_init 42 = .ok (.iload_n 3, 1) := by decide +kernel
theorem dX5_init_43 : decode cX5_init 43 = .ok (.ldc 29, 2) := by decide +kernel
theorem dX5_init_45 : decode cX5_init 45 = .ok (.invokevirtual 31, 3) := by decide +kernel
theorem dX5_init_48 : decode cX5_init 48 = .ok (.if_icmp .ge 92, 3) := by decide +kernel
theorem dX5_init_51 : decode cX5_init 51 = .ok (.ldc 29, 2) := by decide +kernel
theorem dX5_init_53 : decode cX5_init 53 = .ok (.iload_n 3, 1) := by decide +kernel
theorem dX5_init_54 : decode cX5_init 54 = .ok (.invokevirtual 37, 3) := by decide +kernel
theorem dX5_init_57 : decode cX5_init 57 = .ok (.istore 4, 2) := by decide +kernel
theorem dX5_init_59 : decode cX5_init 59 = .ok (.iload 4, 2) := by decide +kernel
theorem dX5_init_61 : decode cX5_init 61 = .ok (.bipush 32, 2) := by decide +kernel
theorem dX5_init_63 : decode cX5_init 63 = .ok (.if_icmp .ne 62, 3) := by decide +kernel
theorem dX5_init_66 : decode cX5_init 66 = .ok (.aload_n 0, 1) := by decide +kernel
theorem dX5_init_67 : decode cX5_init 67 = .ok (.getfield 22, 3) := by decide +kernel
theorem dX5_init_70 : decode cX5_init 70 = .ok (.bipush 51, 2) := by decide +kernel
theorem dX5_init_72 : decode cX5_init 72 = .ok (.if_icmp .ge 53, 3) := by decide +kernel
theorem dX5_init_75 : decode cX5_init 75 = .ok (.aload_n 0, 1) := by decide +kernel
theorem dX5_init_76 : decode cX5_init 76 = .ok (.dup, 1) := by decide +kernel
theorem dX5_init_77 : decode cX5_init 77 = .ok (.getfield 22, 3) := by decide +kernel
theorem dX5_init_80 : decode cX5_init 80 = .ok (.iconst 1, 1) := by decide +kernel
theorem dX5_init_81 : decode cX5_init 81 = .ok (.iadd, 1) := by decide +kernel
theorem dX5_init_82 : decode cX5_init 82 = .ok (.putfield 22, 3) := by decide +kernel
theorem dX5_init_85 : decode cX5_init 85 = .ok (.aload_n 0, 1) := by decide +kernel
theorem dX5_init_86 : decode cX5_init 86 = .ok (.getfield 11, 3) := by decide +kernel
theorem dX5_init_89 : decode cX5_init 89 = .ok (.aload_n 0, 1) := by decide +kernel
theorem dX5_init_90 : decode cX5_init 90 = .ok (.getfield 22, 3) := by decide +kernel
theorem dX5_init_93 : decode cX5_init 93 = .ok (.lload_n 1, 1) := by decide +kernel
theorem dX5_init_94 : decode cX5_init 94 = .ok (.lastore, 1) := by decide +kernel
theorem dX5_init_95 : decode cX5_init 95 = .ok (.aload_n 0, 1) := by decide +kernel
theorem dX5_init_96 : decode cX5_init 96 = .ok (.getfield 15, 3) := by decide +kernel
theorem dX5_init_99 : decode cX5_init 99 = .ok (.aload_n 0, 1) := by decide +kernel
theorem dX5_init_100 : decode cX5_init 100 = .ok (.getfield 22, 3) := by decide +kernel
theorem dX5_init_103 : decode cX5_init 103 = .ok (.aload_n 0, 1) := by decide +kernel
theorem dX5_init_104 : decode cX5_init 104 = .ok (.getfield 22, 3) := by decide +kernel
theorem dX5_init_107 : decode cX5_init 107 = .ok (.bipush 7, 2) := by decide +kernel
theorem dX5_init_109 : decode cX5_init 109 = .ok (.if_icmp .gt 8, 3) := by decide +kernel
theorem dX5_init_112 : decode cX5_init 112 = .ok (.bipush 11, 2) := by decide +kernel
theorem dX5_init_114 : decode cX5_init 114 = .ok (.goto 5, 3) := by decide +kernel
theorem dX5_init_117 : decode cX5_init 117 = .ok (.bipush 10, 2) := by decide +kernel
theorem dX5_init_119 : decode cX5_init 119 = .ok (.iastore, 1) := by decide +kernel
theorem dX5_init_120 : decode cX5_init 120 = .ok (.lconst 0, 1) := by decide +kernel
theorem dX5_init_121 : decode cX5_init 121 = .ok (.lstore_n 1, 1) := by decide +kernel
theorem dX5_init_122 : decode cX5_init 122 = .ok (.goto 12, 3) := by decide +kernel
theorem dX5_init_125 : decode cX5_init 125 = .ok (.lload_n 1, 1) := by decide +kernel
theorem dX5_init_126 : decode cX5_init 126 = .ok (.bipush 8, 2) := by decide +kernel
theorem dX5_init_128 : decode cX5_init 128 = .ok (.lshl, 1) := by decide +kernel
theorem dX5_init_129 : decode cX5_init 129 = .ok (.iload 4, 2) := by decide +kernel
theorem dX5_init_131 : decode cX5_init 131 = .ok (.i2l, 1) := by decide +kernel
theorem dX5_init_132 : decode cX5_init 132 = .ok (.lor, 1) := by decide +kernel
theorem dX5_init_133 : decode cX5_init 133 = .ok (.lstore_n 1, 1) := by decide +kernel
theorem dX5_init_134 : decode cX5_init 134 = .ok (.iinc 3 1, 3) := by decide +kernel
theorem dX5_init_137 : decode cX5_init 137 = .ok (.goto (-95), 3) := by decide +kernel
theorem dX5_init_140 : decode cX5_init 140 = .ok (.aload_n 0, 1) := by decide +kernel
theorem dX5_init_141 : decode cX5_init 141 = .ok (.getfield 15, 3) := by decide +kernel
theorem dX5_init_144 : decode cX5_init 144 = .ok (.bipush 10, 2) := by decide +kernel
theorem dX5_init_146 : decode cX5_init 146 = .ok (.iconst 0, 1) := by decide +kernel
theorem dX5_init_147 : decode cX5_init 147 = .ok (.iastore, 1) := by decide +kernel
theorem dX5_init_148 : decode cX5_init 148 = .ok (.return_, 1) := by decide +kernel
theorem dX5_inAll_0 : decode cX5_inAll 0 = .ok (.aload_n 0, 1) := by decide +kernel
theorem dX5_inAll_1 : decode cX5_inAll 1 = .ok (.getfield 22, 3) := by decide +kernel
theorem dX5_inAll_4 : decode cX5_inAll 4 = .ok (.ireturn, 1) := by decide +kernel
set_option maxRecDepth 20000 in
theorem ggX7_init_X10_init : GoodIn wsX7_init wsX10_init := goodIn_r _ [22, 23, 2, 3, 6, 24, 4, 25, 26, 27, 28, 29, 30, 31, 32, 33, 34, 35, 36, 37, 38, 39, 40, 41, 42, 43, 44, 45, 46, 47, 48, 49, 50, 51, 52, 53, 54, 55, 56, 57, 58, 59, 60, 61, 62, 63, 64, 65, 66, 67, 68, 69, 70, 71, 72, 73, 74, 75, 76, 77, 78, 79, 80, 81, 82, 83, 84, 85, 86, 87, 88, 89, 101, 102, 103, 104, 105, 106, 107, 108, 109, 110, 111, 112, 113, 114, 115, 116] (by decide +kernel) (by decide +kernel)
set_option maxRecDepth 20000 in
theorem gX7_init_X10_init : GoodIn wsX7_init (wsX10_init) := ggX7_init_X10_init
theorem dX7_init_0 : decode cX7_init 0 = .ok (.aload_n 0, 1) := by decide +kernel
theorem dX7_init_1 : decode cX7_init 1 = .ok (.invokespecial 3, 3) := by decide +kernel
theorem dX7_init_4 : decode cX7_init 4 = .ok (.aload_n 0, 1) := by decide +kernel
theorem dX7_init_5 : decode cX7_init 5 = .ok (.iconst 4, 1) := by decide +kernel
theorem dX7_init_6 : decode cX7_init 6 = .ok (.newarray .int, 2) := by decide +kernel
theorem dX7_init_8 : decode cX7_init 8 = .ok (.putfield 9, 3) := by decide +kernel
theorem dX7_init_11 : decode cX7_init 11 = .ok (.aload_n 0, 1) := by decide +kernel
theorem dX7_init_12 : decode cX7_init 12 = .ok (.sipush 1000, 3) := by decide +kernel
theorem dX7_init_15 : decode cX7_init 15 = .ok (.newarray .long, 2) := by decide +kernel
theorem dX7_init_17 : decode cX7_init 17 = .ok (.putfield 15, 3) := by decide +kernel
theorem dX7_init_20 : decode cX7_init 20 = .ok (.aload_n 0, 1) := by decide +kernel
theorem dX7_init_21 : decode cX7_init 21 = .ok (.iconst 0, 1) := by decide +kernel
theorem dX7_init_22 : decode cX7_init 22 = .ok (.putfield 19, 3) := by decide +kernel
theorem dX7_init_25 : decode cX7_init 25 = .ok (.aload_n 0, 1) := by decide +kernel
theorem dX7_init_26 : decode cX7_init 26 = .ok (.iconst 0, 1) := by decide +kernel
theorem dX7_init_27 : decode cX7_init 27 = .ok (.putfield 23, 3) := by decide +kernel
theorem dX7_init_30 : decode cX7_init 30 = .ok (.aload_n 0, 1) := by decide +kernel
theorem dX7_init_31 : decode cX7_init 31 = .ok (.iconst 0, 1) := by decide +kernel
theorem dX7_init_32 : decode cX7_init 32 = .ok (.putfield 26, 3) := by decide +kernel
theorem dX7_init_35 : decode cX7_init 35 = .ok (.aload_n 0, 1) := by decide +kernel
theorem dX7_init_36 : decode cX7_init 36 = .ok (.iconst 0, 1) := by decide +kernel
theorem dX7_init_37 : decode cX7_init 37 = .ok (.putfield 29, 3) := by decide +kernel
theorem dX7_init_40 : decode cX7_init 40 = .ok (.aload_n 0, 1) := by decide +kernel
theorem dX7_init_41 : decode cX7_init 41 = .ok (.iconst 0, 1) := by decide +kernel
theorem dX7_init_42 : decode cX7_init 42 = .ok (.putfield 32, 3) := by decide +kernel
theorem dX7_init_45 : decode cX7_init 45 = .ok (.aload_n 0, 1) := by decide +kernel
theorem dX7_init_46 : decode cX7_init 46 = .ok (.iconst 0, 1) := by decide +kernel
theorem dX7_init_47 : decode cX7_init 47 = .ok (.putfield 35, 3) := by decide +kernel
theorem dX7_init_50 : decode cX7_init 50 = .ok (.aload_n 0, 1) := by decide +kernel
theorem dX7_init_51 : decode cX7_init 51 = .ok (.new 38, 3) := by decide +kernel
theorem dX7_init_54 : decode cX7_init 54 = .ok (.dup, 1) := by decide +kernel
theorem dX7_init_55 : decode cX7_init 55 = .ok (.aload_n 1, 1) := by decide +kernel
theorem dX7_init_56 : decode cX7_init 56 = .ok (.invokespecial 40, 3) := by decide +kernel
theorem dX7_init_59 : decode cX7_init 59 = .ok (.putfield 43, 3) := by decide +kernel
theorem dX7_init_62 : decode cX7_init 62 = .ok (.aload_n 0, 1) := by decide +kernel
theorem dX7_init_63 : decode cX7_init 63 = .ok (.aload_n 2, 1) := by decide +kernel
theorem dX7_init_64 : decode cX7_init 64 = .ok (.putfield 47, 3) := by decide +kernel
theorem dX7_init_67 : decode cX7_init 67 = .ok (.aload_n 0, 1) := by decide +kernel
theorem dX7_init_68 : decode cX7_init 68 = .ok (.aload_n 3, 1) := by decide +kernel
theorem dX7_init_69 : decode cX7_init 69 = .ok (.putfield 51, 3) := by decide +kernel
theorem dX7_init_72 : decode cX7_init 72 = .ok (.return_, 1) := by decide +kernel
set_option maxRecDepth 20000 in
theorem ggX8_init_X9_init : GoodIn wsX8_init wsX9_init := goodIn_r _ [19, 20, 2, 3, 21, 22, 23, 24, 25, 4, 26, 11, 27, 28, 29, 38, 39, 40, 41] (by decide +kernel) (by decide +kernel)
set_option maxRecDepth 20000 in
theorem gX8_init_X9_init : GoodIn wsX8_init (wsX9_init) := ggX8_init_X9_init
theorem dX8_init_0 : decode cX8_init 0 = .ok (.aload_n 0, 1) := by decide +kernel
theorem dX8_init_1 : decode cX8_init 1 = .ok (.invokespecial 1, 3) := by decide +kernel
theorem dX8_init_4 : decode cX8_init 4 = .ok (.aload_n 0, 1) := by decide +kernel
theorem dX8_init_5 : decode cX8_init 5 = .ok (.sipush 1024, 3) := by decide +kernel
theorem dX8_init_8 : decode cX8_init 8 = .ok (.newarray .int, 2) := by decide +kernel
theorem dX8_init_10 : decode cX8_init 10 = .ok (.putfield 7, 3) := by decide +kernel
theorem dX8_init_13 : decode cX8_init 13 = .ok (.aload_n 0, 1) := by decide +kernel
theorem dX8_init_14 : decode cX8_init 14 = .ok (.iconst 0, 1) := by decide +kernel
theorem dX8_init_15 : decode cX8_init 15 = .ok (.putfield 13, 3) := by decide +kernel
theorem dX8_init_18 : decode cX8_init 18 = .ok (.aload_n 0, 1) := by decide +kernel
theorem dX8_init_19 : decode cX8_init 19 = .ok (.new 17, 3) := by decide +kernel
theorem dX8_init_22 : decode cX8_init 22 = .ok (.dup, 1) := by decide +kernel
theorem dX8_init_23 : decode cX8_init 23 = .ok (.bipush 32, 2) := by decide +kernel
theorem dX8_init_25 : decode cX8_init 25 = .ok (.invokespecial 19, 3) := by decide +kernel
theorem dX8_init_28 : decode cX8_init 28 = .ok (.putfield 22, 3) := by decide +kernel
theorem dX8_init_31 : decode cX8_init 31 = .ok (.aload_n 0, 1) := by decide +kernel
theorem dX8_init_32 : decode cX8_init 32 = .ok (.bipush 40, 2) := by decide +kernel
theorem dX8_init_34 : decode cX8_init 34 = .ok (.newarray .long, 2) := by decide +kernel
theorem dX8_init_36 : decode cX8_init 36 = .ok (.putfield 26, 3) := by decide +kernel
theorem dX8_init_39 : decode cX8_init 39 = .ok (.aload_n 0, 1) := by decide +kernel
theorem dX8_init_40 : decode cX8_init 40 = .ok (.bipush 40, 2) := by decide +kernel
theorem dX8_init_42 : decode cX8_init 42 = .ok (.newarray .int, 2) := by decide +kernel
theorem dX8_init_44 : decode cX8_init 44 = .ok (.putfield 30, 3) := by decide +kernel
theorem dX8_init_47 : decode cX8_init 47 = .ok (.aload_n 0, 1) := by decide +kernel
theorem dX8_init_48 : decode cX8_init 48 = .ok (.bipush 40, 2) := by decide +kernel
theorem dX8_init_50 : decode cX8_init 50 = .ok (.newarray .int, 2) := by decide +kernel
theorem dX8_init_52 : decode cX8_init 52 = .ok (.putfield 33, 3) := by decide +kernel
theorem dX8_init_55 : decode cX8_init 55 = .ok (.aload_n 0, 1) := by decide +kernel
theorem dX8_init_56 : decode cX8_init 56 = .ok (.bipush 40, 2) := by decide +kernel
theorem dX8_init_58 : decode cX8_init 58 = .ok (.newarray .int, 2) := by decide +kernel
theorem dX8_init_60 : decode cX8_init 60 = .ok (.putfield 36, 3) := by decide +kernel
theorem dX8_init_63 : decode cX8_init 63 = .ok (.aload_n 0, 1) := by decide +kernel
theorem dX8_init_64 : decode cX8_init 64 = .ok (.iconst 0, 1) := by decide +kernel
theorem dX8_init_65 : decode cX8_init 65 = .ok (.putfield 39, 3) := by decide +kernel
theorem dX8_init_68 : decode cX8_init 68 = .ok (.return_, 1) := by decide +kernel
theorem dX9_init_0 : decode cX9_init 0 = .ok (.aload_n 0, 1) := by decide +kernel
theorem dX9_init_1 : decode cX9_init 1 = .ok (.invokespecial 1, 3) := by decide +kernel
theorem dX9_init_4 : decode cX9_init 4 = .ok (.aload_n 0, 1) := by decide +kernel
theorem dX9_init_5 : decode cX9_init 5 = .ok (.iconst 0, 1) := by decide +kernel
theorem dX9_init_6 : decode cX9_init 6 = .ok (.putfield 7, 3) := by decide +kernel
theorem dX9_init_9 : decode cX9_init 9 = .ok (.iload_n 1, 1) := by decide +kernel
theorem dX9_init_10 : decode cX9_init 10 = .ok (.iconst 1, 1) := by decide +kernel
theorem dX9_init_11 : decode cX9_init 11 = .ok (.invokestatic 13, 3) := by decide +kernel
theorem dX9_init_14 : decode cX9_init 14 = .ok (.istore_n 2, 1) := by decide +kernel
theorem dX9_init_15 : decode cX9_init 15 = .ok (.aload_n 0, 1) := by decide +kernel
theorem dX9_init_16 : decode cX9_init 16 = .ok (.iload_n 2, 1) := by decide +kernel
theorem dX9_init_17 : decode cX9_init 17 = .ok (.newarray .int, 2) := by decide +kernel
theorem dX9_init_19 : decode cX9_init 19 = .ok (.putfield 19, 3) := by decide +kernel
theorem dX9_init_22 : decode cX9_init 22 = .ok (.aload_n 0, 1) := by decide +kernel
theorem dX9_init_23 : decode cX9_init 23 = .ok (.iload_n 2, 1) := by decide +kernel
theorem dX9_init_24 : decode cX9_init 24 = .ok (.newarray .long, 2) := by decide +kernel
theorem dX9_init_26 : decode cX9_init 26 = .ok (.putfield 23, 3) := by decide +kernel
theorem dX9_init_29 : decode cX9_init 29 = .ok (.aload_n 0, 1) := by decide +kernel
theorem dX9_init_30 : decode cX9_init 30 = .ok (.iload_n 2, 1) := by decide +kernel
theorem dX9_init_31 : decode cX9_init 31 = .ok (.newarray .double, 2) := by decide +kernel
theorem dX9_init_33 : decode cX9_init 33 = .ok (.putfield 27, 3) := by decide +kernel
theorem dX9_init_36 : decode cX9_init 36 = .ok (.return_, 1) := by decide +kernel
theorem dX9_count_0 : decode cX9_count 0 = .ok (.aload_n 0, 1) := by decide +kernel
theorem dX9_count_1 : decode cX9_count 1 = .ok (.getfield 7, 3) := by decide +kernel
theorem dX9_count_4 : decode cX9_count 4 = .ok (.ireturn, 1) := by decide +kernel
theorem dX9_kind_0 : decode cX9_kind 0 = .ok (.iload_n 1, 1) := by decide +kernel
theorem dX9_kind_1 : decode cX9_kind 1 = .ok (.ifCond .lt 20, 3) := by decide +kernel
theorem dX9_kind_4 : decode cX9_kind 4 = .ok (.iload_n 1, 1) := by decide +kernel
theorem dX9_kind_5 : decode cX9_kind 5 = .ok (.aload_n 0, 1) := by decide +kernel
theorem dX9_kind_6 : decode cX9_kind 6 = .ok (.getfield 7, 3) := by decide +kernel
theorem dX9_kind_9 : decode cX9_kind 9 = .ok (.if_icmp .ge 12, 3) := by decide +kernel
theorem dX9_kind_21 : decode cX9_kind 21 = .ok (.iconst 0, 1) := by decide +kernel
theorem dX9_kind_22 : decode cX9_kind 22 = .ok (.ireturn, 1) := by decide +kernel
theorem dX9_whole_0 : decode cX9_whole 0 = .ok (.iload_n 1, 1) := by decide +kernel
theorem dX9_whole_1 : decode cX9_whole 1 = .ok (.ifCond .lt 20, 3) := by decide +kernel
theorem dX9_whole_4 : decode cX9_whole 4 = .ok (.iload_n 1, 1) := by decide +kernel
theorem dX9_whole_5 : decode cX9_whole 5 = .ok (.aload_n 0, 1) := by decide +kernel
theorem dX9_whole_6 : decode cX9_whole 6 = .ok (.getfield 7, 3) := by decide +kernel
theorem dX9_whole_9 : decode cX9_whole 9 = .ok (.if_icmp .ge 12, 3) := by decide +kernel
theorem dX9_whole_21 : decode cX9_whole 21 = .ok (.lconst 0, 1) := by decide +kernel
theorem dX9_whole_22 : decode cX9_whole 22 = .ok (.lreturn, 1) := by decide +kernel
set_option maxRecDepth 20000 in
theorem ggX10_init_J0_length_8abf5 : GoodIn wsX10_init wsJ0_length_8abf5 := goodIn_r _ [27, 28, 29, 30, 31, 26, 32, 33, 34] (by decide +kernel) (by decide +kernel)
set_option maxRecDepth 20000 in
theorem gX10_init_J0_length_8abf5 : GoodIn wsX10_init (wsV RX10 69 RJ0 yJ0_length_8abf5 wsJ0_length_8abf5) := goodIn_app (goodIn_of _ (by decide +kernel)) ggX10_init_J0_length_8abf5
set_option maxRecDepth 20000 in
theorem ggX10_init_J0_charAt_5068e : GoodIn wsX10_init wsJ0_charAt_5068e := goodIn_r _ [38, 28, 39, 40, 41, 26, 42, 33, 34, 43, 44, 45, 46, 47, 48, 49, 50, 51, 52, 53, 54, 55, 56, 57, 58, 59, 60, 61, 62, 63, 64, 65, 66, 67, 68, 69, 70, 71] (by decide +kernel) (by decide +kernel)
set_option maxRecDepth 20000 in
theorem gX10_init_J0_charAt_5068e : GoodIn wsX10_init (wsV RX10 74 RJ0 yJ0_charAt_5068e wsJ0_charAt_5068e) := goodIn_app (goodIn_of _ (by decide +kernel)) ggX10_init_J0_charAt_5068e
theorem dX10_init_0 : decode cX10_init 0 = .ok (.aload_n 0, 1) := by decide +kernel
theorem dX10_init_1 : decode cX10_init 1 = .ok (.invokespecial 3, 3) := by decide +kernel
theorem dX10_init_4 : decode cX10_init 4 = .ok (.aload_n 0, 1) := by decide +kernel
theorem dX10_init_5 : decode cX10_init 5 = .ok (.bipush 33, 2) := by decide +kernel
theorem dX10_init_7 : decode cX10_init 7 = .ok (.newarray .long, 2) := by decide +kernel
theorem dX10_init_9 : decode cX10_init 9 = .ok (.putfield 11, 3) := by decide +kernel
theorem dX10_init_12 : decode cX10_init 12 = .ok (.aload_n 0, 1) := by decide +kernel
theorem dX10_init_13 : decode cX10_init 13 = .ok (.sipush 3001, 3) := by decide +kernel
theorem dX10_init_16 : decode cX10_init 16 = .ok (.newarray .int, 2) := by decide +kernel
theorem dX10_init_18 : decode cX10_init 18 = .ok (.putfield 15, 3) := by decide +kernel
theorem dX10_init_21 : decode cX10_init 21 = .ok (.aload_n 0, 1) := by decide +kernel
theorem dX10_init_22 : decode cX10_init 22 = .ok (.sipush 3001, 3) := by decide +kernel
theorem dX10_init_25 : decode cX10_init 25 = .ok (.newarray .int, 2) := by decide +kernel
theorem dX10_init_27 : decode cX10_init 27 = .ok (.putfield 19, 3) := by decide +kernel
theorem dX10_init_30 : decode cX10_init 30 = .ok (.aload_n 0, 1) := by decide +kernel
theorem dX10_init_31 : decode cX10_init 31 = .ok (.sipush 3001, 3) := by decide +kernel
theorem dX10_init_34 : decode cX10_init 34 = .ok (.newarray .long, 2) := by decide +kernel
theorem dX10_init_36 : decode cX10_init 36 = .ok (.putfield 22, 3) := by decide +kernel
theorem dX10_init_39 : decode cX10_init 39 = .ok (.aload_n 0, 1) := by decide +kernel
theorem dX10_init_40 : decode cX10_init 40 = .ok (.sipush 3001, 3) := by decide +kernel
theorem dX10_init_43 : decode cX10_init 43 = .ok (.newarray .double, 2) := by decide +kernel
theorem dX10_init_45 : decode cX10_init 45 = .ok (.putfield 25, 3) := by decide +kernel
theorem dX10_init_48 : decode cX10_init 48 = .ok (.aload_n 0, 1) := by decide +kernel
theorem dX10_init_49 : decode cX10_init 49 = .ok (.iconst 0, 1) := by decide +kernel
theorem dX10_init_50 : decode cX10_init 50 = .ok (.putfield 29, 3) := by decide +kernel
theorem dX10_init_53 : decode cX10_init 53 = .ok (.aload_n 0, 1) := by decide +kernel
theorem dX10_init_54 : decode cX10_init 54 = .ok (.iconst 0, 1) := by decide +kernel
theorem dX10_init_55 : decode cX10_init 55 = .ok (.putfield 33, 3) := by decide +kernel
theorem dX10_init_58 : decode cX10_init 58 = .ok (.aload_n 0, 1) := by decide +kernel
theorem dX10_init_59 : decode cX10_init 59 = .ok (.iconst 0, 1) := by decide +kernel
theorem dX10_init_60 : decode cX10_init 60 = .ok (.putfield 36, 3) := by decide +kernel
theorem dX10_init_63 : decode cX10_init 63 = .ok (.aload_n 0, 1) := by decide +kernel
theorem dX10_init_64 : decode cX10_init 64 = .ok (.iconst 0, 1) := by decide +kernel
theorem dX10_init_65 : decode cX10_init 65 = .ok (.putfield 39, 3) := by decide +kernel
theorem dX10_init_68 : decode cX10_init 68 = .ok (.aload_n 0, 1) := by decide +kernel
theorem dX10_init_69 : decode cX10_init 69 = .ok (.iconst 0, 1) := by decide +kernel
theorem dX10_init_70 : decode cX10_init 70 = .ok (.putfield 42, 3) := by decide +kernel
theorem dX10_init_73 : decode cX10_init 73 = .ok (.aload_n 0, 1) := by decide +kernel
theorem dX10_init_74 : decode cX10_init 74 = .ok (.iconst 0, 1) := by decide +kernel
theorem dX10_init_75 : decode cX10_init 75 = .ok (.putfield 45, 3) := by decide +kernel
theorem dX10_init_78 : decode cX10_init 78 = .ok (.aload_n 0, 1) := by decide +kernel
theorem dX10_init_79 : decode cX10_init 79 = .ok (.iconst 0, 1) := by decide +kernel
theorem dX10_init_80 : decode cX10_init 80 = .ok (.putfield 49, 3) := by decide +kernel
theorem dX10_init_83 : decode cX10_init 83 = .ok (.aload_n 0, 1) := by decide +kernel
theorem dX10_init_84 : decode cX10_init 84 = .ok (.iconst 0, 1) := by decide +kernel
theorem dX10_init_85 : decode cX10_init 85 = .ok (.putfield 52, 3) := by decide +kernel
theorem dX10_init_88 : decode cX10_init 88 = .ok (.aload_n 0, 1) := by decide +kernel
theorem dX10_init_89 : decode cX10_init 89 = .ok (.lconst 0, 1) := by decide +kernel
theorem dX10_init_90 : decode cX10_init 90 = .ok (.putfield 55, 3) := by decide +kernel
theorem dX10_init_93 : decode cX10_init 93 = .ok (.aload_n 0, 1) := by decide +kernel
theorem dX10_init_94 : decode cX10_init 94 = .ok (.dconst 0, 1) := by decide +kernel
theorem dX10_init_95 : decode cX10_init 95 = .ok (.putfield 59, 3) := by decide +kernel
theorem dX10_init_98 : decode cX10_init 98 = .ok (.aload_n 0, 1) := by decide +kernel
theorem dX10_init_99 : decode cX10_init 99 = .ok (.aload_n 1, 1) := by decide +kernel
theorem dX10_init_100 : decode cX10_init 100 = .ok (.putfield 63, 3) := by decide +kernel
theorem dX10_init_103 : decode cX10_init 103 = .ok (.lconst 0, 1) := by decide +kernel
theorem dX10_init_104 : decode cX10_init 104 = .ok (.lstore_n 2, 1) := by decide +kernel
theorem dX10_init_105 : decode cX10_init 105 = .ok (.iconst 0, 1) := by decide +kernel
theorem dX10_init_106 : decode cX10_init 106 = .ok (.istore 4, 2) := by decide +kernel
theorem dX10_init_108 : decode cX10_init 108 = .ok (.iconst 0, 1) := by decide +kernel
theorem dX10_init_109 : decode cX10_init 109 = .ok (.istore 5, 2) := by decide +kernel
theorem dX10_init_111 : decode cX10_init 111 = .ok (.iload 5, 2) := by decide +kernel
theorem dX10_init_113 : decode cX10_init 113 = .ok (.ldc 67, 2) := by decide +kernel
theorem dX10_init_115 : decode cX10_init 115 = .ok (.invokevirtual 69, 3) := by decide +kernel
theorem dX10_init_118 : decode cX10_init 118 = .ok (.if_icmp .ge 57, 3) := by decide +kernel
theorem dX10_init_121 : decode cX10_init 121 = .ok (.ldc 67, 2) := by decide +kernel
theorem dX10_init_123 : decode cX10_init 123 = .ok (.iload 5, 2) := by decide +kernel
theorem dX10_init_125 : decode cX10_init 125 = .ok (.invokevirtual 74, 3) := by decide +kernel
theorem dX10_init_128 : decode cX10_init 128 = .ok (.istore 6, 2) := by decide +kernel
theorem dX10_init_130 : decode cX10_init 130 = .ok (.iload 6, 2) := by decide +kernel
theorem dX10_init_132 : decode cX10_init 132 = .ok (.bipush 32, 2) := by decide +kernel
theorem dX10_init_134 : decode cX10_init 134 = .ok (.if_icmp .ne 26, 3) := by decide +kernel
theorem dX10_init_137 : decode cX10_init 137 = .ok (.iload 4, 2) := by decide +kernel
theorem dX10_init_139 : decode cX10_init 139 = .ok (.bipush 33, 2) := by decide +kernel
theorem dX10_init_141 : decode cX10_init 141 = .ok (.if_icmp .ge 19, 3) := by decide +kernel
theorem dX10_init_144 : decode cX10_init 144 = .ok (.aload_n 0, 1) := by decide +kernel
theorem dX10_init_145 : decode cX10_init 145 = .ok (.getfield 11, 3) := by decide +kernel
theorem dX10_init_148 : decode cX10_init 148 = .ok (.iload 4, 2) := by decide +kernel
theorem dX10_init_150 : decode cX10_init 150 = .ok (.lload_n 2, 1) := by decide +kernel
theorem dX10_init_151 : decode cX10_init 151 = .ok (.lastore, 1) := by decide +kernel
theorem dX10_init_152 : decode cX10_init 152 = .ok (.iinc 4 1, 3) := by decide +kernel
theorem dX10_init_155 : decode cX10_init 155 = .ok (.lconst 0, 1) := by decide +kernel
theorem dX10_init_156 : decode cX10_init 156 = .ok (.lstore_n 2, 1) := by decide +kernel
theorem dX10_init_157 : decode cX10_init 157 = .ok (.goto 12, 3) := by decide +kernel
theorem dX10_init_160 : decode cX10_init 160 = .ok (.lload_n 2, 1) := by decide +kernel
theorem dX10_init_161 : decode cX10_init 161 = .ok (.bipush 8, 2) := by decide +kernel
theorem dX10_init_163 : decode cX10_init 163 = .ok (.lshl, 1) := by decide +kernel
theorem dX10_init_164 : decode cX10_init 164 = .ok (.iload 6, 2) := by decide +kernel
theorem dX10_init_166 : decode cX10_init 166 = .ok (.i2l, 1) := by decide +kernel
theorem dX10_init_167 : decode cX10_init 167 = .ok (.lor, 1) := by decide +kernel
theorem dX10_init_168 : decode cX10_init 168 = .ok (.lstore_n 2, 1) := by decide +kernel
theorem dX10_init_169 : decode cX10_init 169 = .ok (.iinc 5 1, 3) := by decide +kernel
theorem dX10_init_172 : decode cX10_init 172 = .ok (.goto (-61), 3) := by decide +kernel
theorem dX10_init_175 : decode cX10_init 175 = .ok (.return_, 1) := by decide +kernel
set_option maxRecDepth 20000 in
theorem ggX11_init_X5_init : GoodIn wsX11_init wsX5_init := goodIn_r _ [31, 32, 2, 3, 33, 34, 35, 36, 37, 38, 39, 40, 41, 42, 43, 44, 45, 46, 47, 48, 49, 50, 51, 52, 53, 54, 55, 56, 57, 58, 59, 60, 61, 62, 63, 64, 65, 66, 67, 68, 69, 70, 71, 72, 73, 74, 75, 76, 77, 78, 79, 80, 81, 82, 83, 84, 85, 86, 87, 88, 244, 245, 246, 247, 248] (by decide +kernel) (by decide +kernel)
set_option maxRecDepth 20000 in
theorem gX11_init_X5_init : GoodIn wsX11_init (wsX5_init) := ggX11_init_X5_init
set_option maxRecDepth 20000 in
theorem ggX11_init_X0_init : GoodIn wsX11_init wsX0_init := goodIn_r _ [91, 92, 2, 3, 35, 93, 94, 95, 96, 97, 98, 99, 100, 101, 102, 249, 250, 251, 252, 253, 254] (by decide +kernel) (by decide +kernel)
set_option maxRecDepth 20000 in
theorem gX11_init_X0_init : GoodIn wsX11_init (wsX0_init) := ggX11_init_X0_init
set_option maxRecDepth 20000 in
theorem ggX11_init_X8_init : GoodIn wsX11_init wsX8_init := goodIn_r _ [104, 105, 2, 3, 35, 106, 107, 108, 109, 110, 111, 33, 112, 113, 114, 115, 116, 117, 118, 119, 120, 121, 122, 123, 124, 125, 126, 127, 128, 129, 255, 256, 257, 258, 259, 260, 261, 262, 291, 292, 293, 294] (by decide +kernel) (by decide +kernel)
set_option maxRecDepth 20000 in
theorem gX11_init_X8_init_n40 : GoodIn wsX11_init (wsX8_init) := ggX11_init_X8_init
set_option maxRecDepth 20000 in
theorem ggX11_init_X7_init : GoodIn wsX11_init wsX7_init := goodIn_r _ [132, 133, 2, 3, 35, 134, 33, 135, 136, 137, 138, 139, 140, 141, 142, 143, 144, 145, 146, 147, 148, 149, 150, 151, 152, 153, 154, 155, 128, 156, 157, 158, 159, 160, 161, 162, 163, 164, 165, 166, 167, 168, 41, 42, 43, 44, 45, 46, 47, 48, 49, 50, 51, 169, 53, 54, 55, 56, 57, 58, 59, 60, 61, 62, 63, 64, 65, 66, 67, 68, 69, 70, 71, 72, 73, 74, 75, 76, 77, 78, 79, 80, 81, 82, 83, 84, 85, 86, 87, 88, 263, 264, 265, 266, 267, 268, 269, 270, 271, 272, 273, 295, 296, 297, 298, 299, 300, 301, 302, 303, 304, 305, 306, 307, 308, 309, 310] (by decide +kernel) (by decide +kernel)
set_option maxRecDepth 20000 in
theorem gX11_init_X7_init : GoodIn wsX11_init (wsX7_init) := ggX11_init_X7_init
set_option maxRecDepth 20000 in
theorem ggX11_init_X4_init : GoodIn wsX11_init wsX4_init := goodIn_r _ [172, 173, 2, 3, 174, 109, 110, 175, 176, 177, 178, 179, 180, 181, 182, 183, 184, 185, 186, 187, 188, 189, 35, 190, 191, 192, 193, 194, 195, 196, 197, 198, 199, 200, 201, 118, 119, 120, 121, 122, 123, 124, 125, 126, 33, 127, 128, 129, 202, 203, 204, 205, 206, 207, 208, 209, 210, 211, 212, 213, 214, 215, 216, 217, 218, 219, 220, 221, 222, 223, 224, 225, 226, 227, 228, 229, 230, 231, 232, 233, 234, 291, 292, 293, 294, 274, 275, 276, 277, 278, 279, 280, 281, 282, 283, 284, 285, 286, 287, 288, 289, 290, 311, 312, 313, 314, 315, 316, 317, 318, 319, 320, 321, 322, 323, 324, 325, 326, 327, 328, 329, 330] (by decide +kernel) (by decide +kernel)
set_option maxRecDepth 20000 in
theorem gX11_init_X4_init : GoodIn wsX11_init (wsX4_init) := ggX11_init_X4_init
theorem dX11_init_0 : decode cX11_init 0 = .ok (.aload_n 0, 1) := by decide +kernel
theorem dX11_init_1 : decode cX11_init 1 = .ok (.invokespecial 1, 3) := by decide +kernel
theorem dX11_init_4 : decode cX11_init 4 = .ok (.aload_n 0, 1) := by decide +kernel
theorem dX11_init_5 : decode cX11_init 5 = .ok (.sipush 3000, 3) := by decide +kernel
theorem dX11_init_8 : decode cX11_init 8 = .ok (.newarray .byte, 2) := by decide +kernel
theorem dX11_init_10 : decode cX11_init 10 = .ok (.putfield 9, 3) := by decide +kernel
theorem dX11_init_13 : decode cX11_init 13 = .ok (.aload_n 0, 1) := by decide +kernel
theorem dX11_init_14 : decode cX11_init 14 = .ok (.iconst 0, 1) := by decide +kernel
theorem dX11_init_15 : decode cX11_init 15 = .ok (.putfield 13, 3) := by decide +kernel
theorem dX11_init_18 : decode cX11_init 18 = .ok (.aload_n 0, 1) := by decide +kernel
theorem dX11_init_19 : decode cX11_init 19 = .ok (.iconst 0, 1) := by decide +kernel
theorem dX11_init_20 : decode cX11_init 20 = .ok (.putfield 17, 3) := by decide +kernel
theorem dX11_init_23 : decode cX11_init 23 = .ok (.aload_n 0, 1) := by decide +kernel
theorem dX11_init_24 : decode cX11_init 24 = .ok (.new 20, 3) := by decide +kernel
theorem dX11_init_27 : decode cX11_init 27 = .ok (.dup, 1) := by decide +kernel
theorem dX11_init_28 : decode cX11_init 28 = .ok (.invokespecial 22, 3) := by decide +kernel
theorem dX11_init_31 : decode cX11_init 31 = .ok (.putfield 23, 3) := by decide +kernel
theorem dX11_init_34 : decode cX11_init 34 = .ok (.aload_n 0, 1) := by decide +kernel
theorem dX11_init_35 : decode cX11_init 35 = .ok (.new 27, 3) := by decide +kernel
theorem dX11_init_38 : decode cX11_init 38 = .ok (.dup, 1) := by decide +kernel
theorem dX11_init_39 : decode cX11_init 39 = .ok (.invokespecial 29, 3) := by decide +kernel
theorem dX11_init_42 : decode cX11_init 42 = .ok (.putfield 30, 3) := by decide +kernel
theorem dX11_init_45 : decode cX11_init 45 = .ok (.aload_n 0, 1) := by decide +kernel
theorem dX11_init_46 : decode cX11_init 46 = .ok (.iconst 4, 1) := by decide +kernel
theorem dX11_init_47 : decode cX11_init 47 = .ok (.anewarray 34, 3) := by decide +kernel
theorem dX11_init_50 : decode cX11_init 50 = .ok (.putfield 36, 3) := by decide +kernel
theorem dX11_init_53 : decode cX11_init 53 = .ok (.aload_n 0, 1) := by decide +kernel
theorem dX11_init_54 : decode cX11_init 54 = .ok (.new 34, 3) := by decide +kernel
theorem dX11_init_57 : decode cX11_init 57 = .ok (.dup, 1) := by decide +kernel
theorem dX11_init_58 : decode cX11_init 58 = .ok (.invokespecial 40, 3) := by decide +kernel
theorem dX11_init_61 : decode cX11_init 61 = .ok (.putfield 41, 3) := by decide +kernel
theorem dX11_init_64 : decode cX11_init 64 = .ok (.aload_n 0, 1) := by decide +kernel
theorem dX11_init_65 : decode cX11_init 65 = .ok (.new 45, 3) := by decide +kernel
theorem dX11_init_68 : decode cX11_init 68 = .ok (.dup, 1) := by decide +kernel
theorem dX11_init_69 : decode cX11_init 69 = .ok (.aload_n 0, 1) := by decide +kernel
theorem dX11_init_70 : decode cX11_init 70 = .ok (.getfield 9, 3) := by decide +kernel
theorem dX11_init_73 : decode cX11_init 73 = .ok (.aload_n 0, 1) := by decide +kernel
theorem dX11_init_74 : decode cX11_init 74 = .ok (.getfield 23, 3) := by decide +kernel
theorem dX11_init_77 : decode cX11_init 77 = .ok (.aload_n 0, 1) := by decide +kernel
theorem dX11_init_78 : decode cX11_init 78 = .ok (.getfield 41, 3) := by decide +kernel
theorem dX11_init_81 : decode cX11_init 81 = .ok (.invokespecial 47, 3) := by decide +kernel
theorem dX11_init_84 : decode cX11_init 84 = .ok (.putfield 50, 3) := by decide +kernel
theorem dX11_init_87 : decode cX11_init 87 = .ok (.aload_n 0, 1) := by decide +kernel
theorem dX11_init_88 : decode cX11_init 88 = .ok (.new 54, 3) := by decide +kernel
theorem dX11_init_91 : decode cX11_init 91 = .ok (.dup, 1) := by decide +kernel
theorem dX11_init_92 : decode cX11_init 92 = .ok (.aload_n 0, 1) := by decide +kernel
theorem dX11_init_93 : decode cX11_init 93 = .ok (.getfield 36, 3) := by decide +kernel
theorem dX11_init_96 : decode cX11_init 96 = .ok (.aload_n 0, 1) := by decide +kernel
theorem dX11_init_97 : decode cX11_init 97 = .ok (.getfield 23, 3) := by decide +kernel
theorem dX11_init_100 : decode cX11_init 100 = .ok (.aload_n 0, 1) := by decide +kernel
theorem dX11_init_101 : decode cX11_init 101 = .ok (.getfield 30, 3) := by decide +kernel
theorem dX11_init_104 : decode cX11_init 104 = .ok (.aload_n 0, 1) := by decide +kernel
theorem dX11_init_105 : decode cX11_init 105 = .ok (.getfield 41, 3) := by decide +kernel
theorem dX11_init_108 : decode cX11_init 108 = .ok (.invokespecial 56, 3) := by decide +kernel
theorem dX11_init_111 : decode cX11_init 111 = .ok (.putfield 59, 3) := by decide +kernel
theorem dX11_init_114 : decode cX11_init 114 = .ok (.iconst 0, 1) := by decide +kernel
theorem dX11_init_115 : decode cX11_init 115 = .ok (.istore_n 1, 1) := by decide +kernel
theorem dX11_init_116 : decode cX11_init 116 = .ok (.iload_n 1, 1) := by decide +kernel
theorem dX11_init_117 : decode cX11_init 117 = .ok (.iconst 4, 1) := by decide +kernel
theorem dX11_init_118 : decode cX11_init 118 = .ok (.if_icmp .ge 22, 3) := by decide +kernel
theorem dX11_init_121 : decode cX11_init 121 = .ok (.aload_n 0, 1) := by decide +kernel
theorem dX11_init_122 : decode cX11_init 122 = .ok (.getfield 36, 3) := by decide +kernel
theorem dX11_init_125 : decode cX11_init 125 = .ok (.iload_n 1, 1) := by decide +kernel
theorem dX11_init_126 : decode cX11_init 126 = .ok (.new 34, 3) := by decide +kernel
theorem dX11_init_129 : decode cX11_init 129 = .ok (.dup, 1) := by decide +kernel
theorem dX11_init_130 : decode cX11_init 130 = .ok (.invokespecial 40, 3) := by decide +kernel
theorem dX11_init_133 : decode cX11_init 133 = .ok (.aastore, 1) := by decide +kernel
theorem dX11_init_134 : decode cX11_init 134 = .ok (.iinc 1 1, 3) := by decide +kernel
theorem dX11_init_137 : decode cX11_init 137 = .ok (.goto (-21), 3) := by decide +kernel
theorem dX11_init_140 : decode cX11_init 140 = .ok (.return_, 1) := by decide +kernel
set_option maxRecDepth 20000 in
theorem ggX11_feed_X11_addBytes : GoodIn wsX11_feed wsX11_addBytes := goodIn_r _ [6, 1, 7, 8, 9, 10, 11, 12, 13, 14, 15, 16] (by decide +kernel) (by decide +kernel)
set_option maxRecDepth 20000 in
theorem gX11_feed_X11_addBytes : GoodIn wsX11_feed (wsV RX11 63 RX11 yX11_addBytes wsX11_addBytes) := goodIn_app (goodIn_of _ (by decide +kernel)) ggX11_feed_X11_addBytes
theorem dX11_feed_0 : decode cX11_feed 0 = .ok (.aload_n 0, 1) := by decide +kernel
theorem dX11_feed_1 : decode cX11_feed 1 = .ok (.getfield 13, 3) := by decide +kernel
theorem dX11_feed_4 : decode cX11_feed 4 = .ok (.bipush 20, 2) := by decide +kernel
theorem dX11_feed_6 : decode cX11_feed 6 = .ok (.iadd, 1) := by decide +kernel
theorem dX11_feed_7 : decode cX11_feed 7 = .ok (.sipush 3000, 3) := by decide +kernel
theorem dX11_feed_10 : decode cX11_feed 10 = .ok (.if_icmp .le 5, 3) := by decide +kernel
theorem dX11_feed_15 : decode cX11_feed 15 = .ok (.aload_n 0, 1) := by decide +kernel
theorem dX11_feed_16 : decode cX11_feed 16 = .ok (.iload_n 1, 1) := by decide +kernel
theorem dX11_feed_17 : decode cX11_feed 17 = .ok (.invokevirtual 63, 3) := by decide +kernel
theorem dX11_feed_20 : decode cX11_feed 20 = .ok (.aload_n 0, 1) := by decide +kernel
theorem dX11_feed_21 : decode cX11_feed 21 = .ok (.iload_n 2, 1) := by decide +kernel
theorem dX11_feed_22 : decode cX11_feed 22 = .ok (.invokevirtual 63, 3) := by decide +kernel
theorem dX11_feed_25 : decode cX11_feed 25 = .ok (.aload_n 0, 1) := by decide +kernel
theorem dX11_feed_26 : decode cX11_feed 26 = .ok (.iload_n 3, 1) := by decide +kernel
theorem dX11_feed_27 : decode cX11_feed 27 = .ok (.invokevirtual 63, 3) := by decide +kernel
theorem dX11_feed_30 : decode cX11_feed 30 = .ok (.aload_n 0, 1) := by decide +kernel
theorem dX11_feed_31 : decode cX11_feed 31 = .ok (.iload 4, 2) := by decide +kernel
theorem dX11_feed_33 : decode cX11_feed 33 = .ok (.invokevirtual 63, 3) := by decide +kernel
theorem dX11_feed_36 : decode cX11_feed 36 = .ok (.aload_n 0, 1) := by decide +kernel
theorem dX11_feed_37 : decode cX11_feed 37 = .ok (.iload 5, 2) := by decide +kernel
theorem dX11_feed_39 : decode cX11_feed 39 = .ok (.invokevirtual 63, 3) := by decide +kernel
theorem dX11_feed_42 : decode cX11_feed 42 = .ok (.aload_n 0, 1) := by decide +kernel
theorem dX11_feed_43 : decode cX11_feed 43 = .ok (.getfield 13, 3) := by decide +kernel
theorem dX11_feed_46 : decode cX11_feed 46 = .ok (.ireturn, 1) := by decide +kernel
theorem dX11_fault_0 : decode cX11_fault 0 = .ok (.aload_n 0, 1) := by decide +kernel
theorem dX11_fault_1 : decode cX11_fault 1 = .ok (.getfield 17, 3) := by decide +kernel
theorem dX11_fault_4 : decode cX11_fault 4 = .ok (.ireturn, 1) := by decide +kernel
set_option maxRecDepth 20000 in
theorem ggX11_look_X5_inAll : GoodIn wsX11_look wsX5_inAll := goodIn_r _ [7, 8, 24, 25, 26, 27, 28] (by decide +kernel) (by decide +kernel)
set_option maxRecDepth 20000 in
theorem gX11_look_X5_inAll : GoodIn wsX11_look (wsV RX11 119 RX5 yX5_inAll wsX5_inAll) := goodIn_app (goodIn_of _ (by decide +kernel)) ggX11_look_X5_inAll
set_option maxRecDepth 20000 in
theorem ggX11_look_X4_told : GoodIn wsX11_look wsX4_told := goodIn_r _ [13, 14, 29, 30, 31, 32, 33, 34, 35, 36, 37, 38, 39, 40, 41, 42, 43, 44, 45] (by decide +kernel) (by decide +kernel)
set_option maxRecDepth 20000 in
theorem gX11_look_X4_told : GoodIn wsX11_look (wsV RX11 122 RX4 yX4_told wsX4_told) := goodIn_app (goodIn_of _ (by decide +kernel)) ggX11_look_X4_told
theorem dX11_look_0 : decode cX11_look 0 = .ok (.iload_n 1, 1) := by decide +kernel
theorem dX11_look_1 : decode cX11_look 1 = .ok (.bipush 10, 2) := by decide +kernel
theorem dX11_look_3 : decode cX11_look 3 = .ok (.if_icmp .ne 11, 3) := by decide +kernel
theorem dX11_look_6 : decode cX11_look 6 = .ok (.aload_n 0, 1) := by decide +kernel
theorem dX11_look_7 : decode cX11_look 7 = .ok (.getfield 23, 3) := by decide +kernel
theorem dX11_look_10 : decode cX11_look 10 = .ok (.invokevirtual 119, 3) := by decide +kernel
theorem dX11_look_13 : decode cX11_look 13 = .ok (.ireturn, 1) := by decide +kernel
theorem dX11_look_14 : decode cX11_look 14 = .ok (.aload_n 0, 1) := by decide +kernel
theorem dX11_look_15 : decode cX11_look 15 = .ok (.getfield 59, 3) := by decide +kernel
theorem dX11_look_18 : decode cX11_look 18 = .ok (.iload_n 1, 1) := by decide +kernel
theorem dX11_look_19 : decode cX11_look 19 = .ok (.invokevirtual 122, 3) := by decide +kernel
theorem dX11_look_22 : decode cX11_look 22 = .ok (.ireturn, 1) := by decide +kernel
set_option maxRecDepth 20000 in
theorem ggX11_answer_X4_answered : GoodIn wsX11_answer wsX4_answered := goodIn_r _ [6, 7, 17, 18, 19, 20, 21, 22, 23, 24, 25, 26, 27, 28, 29, 30, 31, 32, 33] (by decide +kernel) (by decide +kernel)
set_option maxRecDepth 20000 in
theorem gX11_answer_X4_answered : GoodIn wsX11_answer (wsV RX11 126 RX4 yX4_answered wsX4_answered) := goodIn_app (goodIn_of _ (by decide +kernel)) ggX11_answer_X4_answered
theorem dX11_answer_0 : decode cX11_answer 0 = .ok (.aload_n 0, 1) := by decide +kernel
theorem dX11_answer_1 : decode cX11_answer 1 = .ok (.getfield 59, 3) := by decide +kernel
theorem dX11_answer_4 : decode cX11_answer 4 = .ok (.invokevirtual 126, 3) := by decide +kernel
theorem dX11_answer_7 : decode cX11_answer 7 = .ok (.lreturn, 1) := by decide +kernel
set_option maxRecDepth 20000 in
theorem ggX11_mark_X4_markOf : GoodIn wsX11_mark wsX4_markOf := goodIn_r _ [6, 7, 8, 9, 10, 11, 12, 13, 14, 15, 16, 17, 18, 19, 20, 21, 22, 23, 24, 25, 26, 27, 28, 29, 30, 31, 32, 33, 43, 44, 45, 46, 47, 48, 49, 50, 51, 52, 53, 54, 55, 56, 57, 58, 59, 60, 61, 62, 63] (by decide +kernel) (by decide +kernel)
set_option maxRecDepth 20000 in
theorem gX11_mark_X4_markOf : GoodIn wsX11_mark (wsV RX11 130 RX4 yX4_markOf wsX4_markOf) := goodIn_app (goodIn_of _ (by decide +kernel)) ggX11_mark_X4_markOf
theorem dX11_mark_0 : decode cX11_mark 0 = .ok (.aload_n 0, 1) := by decide +kernel
theorem dX11_mark_1 : decode cX11_mark 1 = .ok (.getfield 59, 3) := by decide +kernel
theorem dX11_mark_4 : decode cX11_mark 4 = .ok (.iload_n 1, 1) := by decide +kernel
theorem dX11_mark_5 : decode cX11_mark 5 = .ok (.invokevirtual 130, 3) := by decide +kernel
theorem dX11_mark_8 : decode cX11_mark 8 = .ok (.lreturn, 1) := by decide +kernel
set_option maxRecDepth 20000 in
theorem ggX11_markTongue_X4_tongueOfMark : GoodIn wsX11_markTongue wsX4_tongueOfMark := goodIn_r _ [6, 7, 8, 9, 10, 11, 12, 13, 14, 15, 16, 17, 18, 28, 29, 30, 31, 32, 33, 34, 35, 36, 37, 38, 39, 40, 41, 42, 43, 44, 45, 46, 47, 48] (by decide +kernel) (by decide +kernel)
set_option maxRecDepth 20000 in
theorem gX11_markTongue_X4_tongueOfMark : GoodIn wsX11_markTongue (wsV RX11 134 RX4 yX4_tongueOfMark wsX4_tongueOfMark) := goodIn_app (goodIn_of _ (by decide +kernel)) ggX11_markTongue_X4_tongueOfMark
theorem dX11_markTongue_0 : decode cX11_markTongue 0 = .ok (.aload_n 0, 1) := by decide +kernel
theorem dX11_markTongue_1 : decode cX11_markTongue 1 = .ok (.getfield 59, 3) := by decide +kernel
theorem dX11_markTongue_4 : decode cX11_markTongue 4 = .ok (.iload_n 1, 1) := by decide +kernel
theorem dX11_markTongue_5 : decode cX11_markTongue 5 = .ok (.invokevirtual 134, 3) := by decide +kernel
theorem dX11_markTongue_8 : decode cX11_markTongue 8 = .ok (.ireturn, 1) := by decide +kernel
set_option maxRecDepth 20000 in
theorem ggX11_failure_X4_factOf : GoodIn wsX11_failure wsX4_factOf := goodIn_r _ [6, 7, 8, 9, 10, 11, 12, 13, 14, 15, 16, 17, 18, 19, 20, 21, 22, 23, 24, 25, 26, 27, 28, 38, 39, 40, 41, 42, 43, 44, 45, 46, 47, 48, 49, 50, 51, 52, 53, 54, 55, 56, 57, 58, 59, 60, 61, 62, 63] (by decide +kernel) (by decide +kernel)
set_option maxRecDepth 20000 in
theorem gX11_failure_X4_factOf : GoodIn wsX11_failure (wsV RX11 137 RX4 yX4_factOf wsX4_factOf) := goodIn_app (goodIn_of _ (by decide +kernel)) ggX11_failure_X4_factOf
theorem dX11_failure_0 : decode cX11_failure 0 = .ok (.aload_n 0, 1) := by decide +kernel
theorem dX11_failure_1 : decode cX11_failure 1 = .ok (.getfield 59, 3) := by decide +kernel
theorem dX11_failure_4 : decode cX11_failure 4 = .ok (.iload_n 1, 1) := by decide +kernel
theorem dX11_failure_5 : decode cX11_failure 5 = .ok (.iload_n 2, 1) := by decide +kernel
theorem dX11_failure_6 : decode cX11_failure 6 = .ok (.invokevirtual 137, 3) := by decide +kernel
theorem dX11_failure_9 : decode cX11_failure 9 = .ok (.ireturn, 1) := by decide +kernel
set_option maxRecDepth 20000 in
theorem ggX11_under_X4_factUnder : GoodIn wsX11_under wsX4_factUnder := goodIn_r _ [6, 7, 8, 9, 10, 11, 12, 13, 14, 15, 16, 17, 18, 19, 20, 21, 22, 23, 24, 25, 26, 27, 28, 29, 30, 31, 32, 33, 34, 44, 45, 46, 47, 48, 49, 50, 51, 52, 53, 54, 55, 56, 57, 58, 59, 60, 61, 62, 63, 64, 65, 66, 67, 68, 69] (by decide +kernel) (by decide +kernel)
set_option maxRecDepth 20000 in
theorem gX11_under_X4_factUnder : GoodIn wsX11_under (wsV RX11 140 RX4 yX4_factUnder wsX4_factUnder) := goodIn_app (goodIn_of _ (by decide +kernel)) ggX11_under_X4_factUnder
theorem dX11_under_0 : decode cX11_under 0 = .ok (.aload_n 0, 1) := by decide +kernel
theorem dX11_under_1 : decode cX11_under 1 = .ok (.getfield 59, 3) := by decide +kernel
theorem dX11_under_4 : decode cX11_under 4 = .ok (.iload_n 1, 1) := by decide +kernel
theorem dX11_under_5 : decode cX11_under 5 = .ok (.iload_n 2, 1) := by decide +kernel
theorem dX11_under_6 : decode cX11_under 6 = .ok (.iload_n 3, 1) := by decide +kernel
theorem dX11_under_7 : decode cX11_under 7 = .ok (.invokevirtual 140, 3) := by decide +kernel
theorem dX11_under_10 : decode cX11_under 10 = .ok (.ireturn, 1) := by decide +kernel
theorem dX11_addBytes_0 : decode cX11_addBytes 0 = .ok (.bipush 24, 2) := by decide +kernel
theorem dX11_addBytes_2 : decode cX11_addBytes 2 = .ok (.istore_n 2, 1) := by decide +kernel
theorem dX11_addBytes_3 : decode cX11_addBytes 3 = .ok (.iload_n 2, 1) := by decide +kernel
theorem dX11_addBytes_4 : decode cX11_addBytes 4 = .ok (.ifCond .lt 42, 3) := by decide +kernel
theorem dX11_addBytes_7 : decode cX11_addBytes 7 = .ok (.aload_n 0, 1) := by decide +kernel
theorem dX11_addBytes_8 : decode cX11_addBytes 8 = .ok (.getfield 13, 3) := by decide +kernel
theorem dX11_addBytes_11 : decode cX11_addBytes 11 = .ok (.sipush 3000, 3) := by decide +kernel
theorem dX11_addBytes_14 : decode cX11_addBytes 14 = .ok (.if_icmp .ge 32, 3) := by decide +kernel
theorem dX11_addBytes_17 : decode cX11_addBytes 17 = .ok (.aload_n 0, 1) := by decide +kernel
theorem dX11_addBytes_18 : decode cX11_addBytes 18 = .ok (.getfield 9, 3) := by decide +kernel
theorem dX11_addBytes_21 : decode cX11_addBytes 21 = .ok (.aload_n 0, 1) := by decide +kernel
theorem dX11_addBytes_22 : decode cX11_addBytes 22 = .ok (.getfield 13, 3) := by decide +kernel
theorem dX11_addBytes_25 : decode cX11_addBytes 25 = .ok (.iload_n 1, 1) := by decide +kernel
theorem dX11_addBytes_26 : decode cX11_addBytes 26 = .ok (.iload_n 2, 1) := by decide +kernel
theorem dX11_addBytes_27 : decode cX11_addBytes 27 = .ok (.ishr, 1) := by decide +kernel
theorem dX11_addBytes_28 : decode cX11_addBytes 28 = .ok (.i2b, 1) := by decide +kernel
theorem dX11_addBytes_29 : decode cX11_addBytes 29 = .ok (.bastore, 1) := by decide +kernel
theorem dX11_addBytes_30 : decode cX11_addBytes 30 = .ok (.aload_n 0, 1) := by decide +kernel
theorem dX11_addBytes_31 : decode cX11_addBytes 31 = .ok (.dup, 1) := by decide +kernel
theorem dX11_addBytes_32 : decode cX11_addBytes 32 = .ok (.getfield 13, 3) := by decide +kernel
theorem dX11_addBytes_35 : decode cX11_addBytes 35 = .ok (.iconst 1, 1) := by decide +kernel
theorem dX11_addBytes_36 : decode cX11_addBytes 36 = .ok (.iadd, 1) := by decide +kernel
theorem dX11_addBytes_37 : decode cX11_addBytes 37 = .ok (.putfield 13, 3) := by decide +kernel
theorem dX11_addBytes_40 : decode cX11_addBytes 40 = .ok (.iinc 2 (-8), 3) := by decide +kernel
theorem dX11_addBytes_43 : decode cX11_addBytes 43 = .ok (.goto (-40), 3) := by decide +kernel
theorem dX11_addBytes_46 : decode cX11_addBytes 46 = .ok (.return_, 1) := by decide +kernel
theorem dX11_isTongue_0 : decode cX11_isTongue 0 = .ok (.iload_n 0, 1) := by decide +kernel
theorem dX11_isTongue_1 : decode cX11_isTongue 1 = .ok (.ifCond .lt 12, 3) := by decide +kernel
theorem dX11_isTongue_4 : decode cX11_isTongue 4 = .ok (.iload_n 0, 1) := by decide +kernel
theorem dX11_isTongue_5 : decode cX11_isTongue 5 = .ok (.iconst 4, 1) := by decide +kernel
theorem dX11_isTongue_6 : decode cX11_isTongue 6 = .ok (.if_icmp .ge 7, 3) := by decide +kernel
theorem dX11_isTongue_9 : decode cX11_isTongue 9 = .ok (.iconst 1, 1) := by decide +kernel
theorem dX11_isTongue_10 : decode cX11_isTongue 10 = .ok (.goto 4, 3) := by decide +kernel
theorem dX11_isTongue_13 : decode cX11_isTongue 13 = .ok (.iconst 0, 1) := by decide +kernel
theorem dX11_isTongue_14 : decode cX11_isTongue 14 = .ok (.ireturn, 1) := by decide +kernel
set_option maxRecDepth 20000 in
theorem ggJ0_length_8abf5_J0_coder_7d493 : GoodIn wsJ0_length_8abf5 wsJ0_coder_7d493 := goodIn_r _ [6, 7, 8] (by decide +kernel) (by decide +kernel)
set_option maxRecDepth 20000 in
theorem gJ0_length_8abf5_J0_coder_7d493 : GoodIn wsJ0_length_8abf5 (wsV RJ0 335 RJ0 yJ0_coder_7d493 wsJ0_coder_7d493) := goodIn_app (goodIn_of _ (by decide +kernel)) ggJ0_length_8abf5_J0_coder_7d493
theorem dJ0_length_8abf5_0 : decode cJ0_length_8abf5 0 = .ok (.aload_n 0, 1) := by decide +kernel
theorem dJ0_length_8abf5_1 : decode cJ0_length_8abf5 1 = .ok (.getfield 9, 3) := by decide +kernel
theorem dJ0_length_8abf5_4 : decode cJ0_length_8abf5 4 = .ok (.arraylength, 1) := by decide +kernel
theorem dJ0_length_8abf5_5 : decode cJ0_length_8abf5 5 = .ok (.aload_n 0, 1) := by decide +kernel
theorem dJ0_length_8abf5_6 : decode cJ0_length_8abf5 6 = .ok (.invokevirtual 335, 3) := by decide +kernel
theorem dJ0_length_8abf5_9 : decode cJ0_length_8abf5 9 = .ok (.ishr, 1) := by decide +kernel
theorem dJ0_length_8abf5_10 : decode cJ0_length_8abf5 10 = .ok (.ireturn, 1) := by decide +kernel
set_option maxRecDepth 20000 in
theorem ggJ0_charAt_5068e_J0_isLatin1_aae02 : GoodIn wsJ0_charAt_5068e wsJ0_isLatin1_aae02 := goodIn_r _ [6, 7, 8] (by decide +kernel) (by decide +kernel)
set_option maxRecDepth 20000 in
theorem gJ0_charAt_5068e_J0_isLatin1_aae02 : GoodIn wsJ0_charAt_5068e (wsV RJ0 492 RJ0 yJ0_isLatin1_aae02 wsJ0_isLatin1_aae02) := goodIn_app (goodIn_of _ (by decide +kernel)) ggJ0_charAt_5068e_J0_isLatin1_aae02
set_option maxRecDepth 20000 in
theorem ggJ0_charAt_5068e_J1_charAt_3b067 : GoodIn wsJ0_charAt_5068e wsJ1_charAt_3b067 := goodIn_r _ [12, 13, 14, 5, 15, 16, 17, 18, 19, 20] (by decide +kernel) (by decide +kernel)
set_option maxRecDepth 20000 in
theorem gJ0_charAt_5068e_J1_charAt_3b067 : GoodIn wsJ0_charAt_5068e (va_wsS RJ0 495 yJ1_charAt_3b067 wsJ1_charAt_3b067) := goodIn_app (goodIn_of _ (by decide +kernel)) ggJ0_charAt_5068e_J1_charAt_3b067
theorem dJ0_charAt_5068e_0 : decode cJ0_charAt_5068e 0 = .ok (.aload_n 0, 1) := by decide +kernel
theorem dJ0_charAt_5068e_1 : decode cJ0_charAt_5068e 1 = .ok (.invokevirtual 492, 3) := by decide +kernel
theorem dJ0_charAt_5068e_4 : decode cJ0_charAt_5068e 4 = .ok (.ifCond .eq 12, 3) := by decide +kernel
theorem dJ0_charAt_5068e_7 : decode cJ0_charAt_5068e 7 = .ok (.aload_n 0, 1) := by decide +kernel
theorem dJ0_charAt_5068e_8 : decode cJ0_charAt_5068e 8 = .ok (.getfield 9, 3) := by decide +kernel
theorem dJ0_charAt_5068e_11 : decode cJ0_charAt_5068e 11 = .ok (.iload_n 1, 1) := by decide +kernel
theorem dJ0_charAt_5068e_12 : decode cJ0_charAt_5068e 12 = .ok (.invokestatic 495, 3) := by decide +kernel
theorem dJ0_charAt_5068e_15 : decode cJ0_charAt_5068e 15 = .ok (.ireturn, 1) := by decide +kernel
theorem dJ0_coder_7d493_0 : decode cJ0_coder_7d493 0 = .ok (.getstatic 38, 3) := by decide +kernel
theorem dJ0_coder_7d493_3 : decode cJ0_coder_7d493 3 = .ok (.ifCond .eq 10, 3) := by decide +kernel
theorem dJ0_coder_7d493_6 : decode cJ0_coder_7d493 6 = .ok (.aload_n 0, 1) := by decide +kernel
theorem dJ0_coder_7d493_7 : decode cJ0_coder_7d493 7 = .ok (.getfield 15, 3) := by decide +kernel
theorem dJ0_coder_7d493_10 : decode cJ0_coder_7d493 10 = .ok (.goto 4, 3) := by decide +kernel
theorem dJ0_coder_7d493_14 : decode cJ0_coder_7d493 14 = .ok (.ireturn, 1) := by decide +kernel
theorem dJ0_isLatin1_aae02_0 : decode cJ0_isLatin1_aae02 0 = .ok (.getstatic 38, 3) := by decide +kernel
theorem dJ0_isLatin1_aae02_3 : decode cJ0_isLatin1_aae02 3 = .ok (.ifCond .eq 14, 3) := by decide +kernel
theorem dJ0_isLatin1_aae02_6 : decode cJ0_isLatin1_aae02 6 = .ok (.aload_n 0, 1) := by decide +kernel
theorem dJ0_isLatin1_aae02_7 : decode cJ0_isLatin1_aae02 7 = .ok (.getfield 15, 3) := by decide +kernel
theorem dJ0_isLatin1_aae02_10 : decode cJ0_isLatin1_aae02 10 = .ok (.ifCond .ne 7, 3) := by decide +kernel
theorem dJ0_isLatin1_aae02_13 : decode cJ0_isLatin1_aae02 13 = .ok (.iconst 1, 1) := by decide +kernel
theorem dJ0_isLatin1_aae02_14 : decode cJ0_isLatin1_aae02 14 = .ok (.goto 4, 3) := by decide +kernel
theorem dJ0_isLatin1_aae02_18 : decode cJ0_isLatin1_aae02 18 = .ok (.ireturn, 1) := by decide +kernel
set_option maxRecDepth 20000 in
theorem ggJ0_checkIndex_df160_J3_checkIndex_8e157 : GoodIn wsJ0_checkIndex_df160 wsJ3_checkIndex_8e157 := goodIn_r _ [5] (by decide +kernel) (by decide +kernel)
set_option maxRecDepth 20000 in
theorem gJ0_checkIndex_df160_J3_checkIndex_8e157 : GoodIn wsJ0_checkIndex_df160 (va_wsS RJ0 1059 yJ3_checkIndex_8e157 wsJ3_checkIndex_8e157) := goodIn_app (goodIn_of _ (by decide +kernel)) ggJ0_checkIndex_df160_J3_checkIndex_8e157
theorem dJ0_checkIndex_df160_0 : decode cJ0_checkIndex_df160 0 = .ok (.iload_n 0, 1) := by decide +kernel
theorem dJ0_checkIndex_df160_1 : decode cJ0_checkIndex_df160 1 = .ok (.iload_n 1, 1) := by decide +kernel
theorem dJ0_checkIndex_df160_2 : decode cJ0_checkIndex_df160 2 = .ok (.getstatic 1053, 3) := by decide +kernel
theorem dJ0_checkIndex_df160_5 : decode cJ0_checkIndex_df160 5 = .ok (.invokestatic 1059, 3) := by decide +kernel
theorem dJ0_checkIndex_df160_8 : decode cJ0_checkIndex_df160 8 = .ok (.pop, 1) := by decide +kernel
theorem dJ0_checkIndex_df160_9 : decode cJ0_checkIndex_df160 9 = .ok (.return_, 1) := by decide +kernel
set_option maxRecDepth 20000 in
theorem ggJ1_charAt_3b067_J0_checkIndex_df160 : GoodIn wsJ1_charAt_3b067 wsJ0_checkIndex_df160 := goodIn_r _ [4, 5, 6, 7, 8, 9] (by decide +kernel) (by decide +kernel)
set_option maxRecDepth 20000 in
theorem gJ1_charAt_3b067_J0_checkIndex_df160 : GoodIn wsJ1_charAt_3b067 (va_wsS RJ1 9 yJ0_checkIndex_df160 wsJ0_checkIndex_df160) := goodIn_app (goodIn_of _ (by decide +kernel)) ggJ1_charAt_3b067_J0_checkIndex_df160
theorem dJ1_charAt_3b067_0 : decode cJ1_charAt_3b067 0 = .ok (.iload_n 1, 1) := by decide +kernel
theorem dJ1_charAt_3b067_1 : decode cJ1_charAt_3b067 1 = .ok (.aload_n 0, 1) := by decide +kernel
theorem dJ1_charAt_3b067_2 : decode cJ1_charAt_3b067 2 = .ok (.arraylength, 1) := by decide +kernel
theorem dJ1_charAt_3b067_3 : decode cJ1_charAt_3b067 3 = .ok (.invokestatic 9, 3) := by decide +kernel
theorem dJ1_charAt_3b067_6 : decode cJ1_charAt_3b067 6 = .ok (.aload_n 0, 1) := by decide +kernel
theorem dJ1_charAt_3b067_7 : decode cJ1_charAt_3b067 7 = .ok (.iload_n 1, 1) := by decide +kernel
theorem dJ1_charAt_3b067_8 : decode cJ1_charAt_3b067 8 = .ok (.baload, 1) := by decide +kernel
theorem dJ1_charAt_3b067_9 : decode cJ1_charAt_3b067 9 = .ok (.sipush 255, 3) := by decide +kernel
theorem dJ1_charAt_3b067_12 : decode cJ1_charAt_3b067 12 = .ok (.iand, 1) := by decide +kernel
theorem dJ1_charAt_3b067_13 : decode cJ1_charAt_3b067 13 = .ok (.i2c, 1) := by decide +kernel
theorem dJ1_charAt_3b067_14 : decode cJ1_charAt_3b067 14 = .ok (.ireturn, 1) := by decide +kernel
theorem dJ7_fill_53178_0 : decode cJ7_fill_53178 0 = .ok (.iconst 0, 1) := by decide +kernel
theorem dJ7_fill_53178_1 : decode cJ7_fill_53178 1 = .ok (.istore_n 2, 1) := by decide +kernel
theorem dJ7_fill_53178_2 : decode cJ7_fill_53178 2 = .ok (.aload_n 0, 1) := by decide +kernel
theorem dJ7_fill_53178_3 : decode cJ7_fill_53178 3 = .ok (.arraylength, 1) := by decide +kernel
theorem dJ7_fill_53178_4 : decode cJ7_fill_53178 4 = .ok (.istore_n 3, 1) := by decide +kernel
theorem dJ7_fill_53178_5 : decode cJ7_fill_53178 5 = .ok (.iload_n 2, 1) := by decide +kernel
theorem dJ7_fill_53178_6 : decode cJ7_fill_53178 6 = .ok (.iload_n 3, 1) := by decide +kernel
theorem dJ7_fill_53178_7 : decode cJ7_fill_53178 7 = .ok (.if_icmp .ge 13, 3) := by decide +kernel
theorem dJ7_fill_53178_10 : decode cJ7_fill_53178 10 = .ok (.aload_n 0, 1) := by decide +kernel
theorem dJ7_fill_53178_11 : decode cJ7_fill_53178 11 = .ok (.iload_n 2, 1) := by decide +kernel
theorem dJ7_fill_53178_12 : decode cJ7_fill_53178 12 = .ok (.iload_n 1, 1) := by decide +kernel
theorem dJ7_fill_53178_13 : decode cJ7_fill_53178 13 = .ok (.iastore, 1) := by decide +kernel
theorem dJ7_fill_53178_14 : decode cJ7_fill_53178 14 = .ok (.iinc 2 1, 3) := by decide +kernel
theorem dJ7_fill_53178_17 : decode cJ7_fill_53178 17 = .ok (.goto (-12), 3) := by decide +kernel
theorem dJ7_fill_53178_20 : decode cJ7_fill_53178 20 = .ok (.return_, 1) := by decide +kernel
theorem dJ3_checkIndex_8e157_0 : decode cJ3_checkIndex_8e157 0 = .ok (.iload_n 0, 1) := by decide +kernel
theorem dJ3_checkIndex_8e157_1 : decode cJ3_checkIndex_8e157 1 = .ok (.ifCond .lt 8, 3) := by decide +kernel
theorem dJ3_checkIndex_8e157_4 : decode cJ3_checkIndex_8e157 4 = .ok (.iload_n 0, 1) := by decide +kernel
theorem dJ3_checkIndex_8e157_5 : decode cJ3_checkIndex_8e157 5 = .ok (.iload_n 1, 1) := by decide +kernel
theorem dJ3_checkIndex_8e157_6 : decode cJ3_checkIndex_8e157 6 = .ok (.if_icmp .lt 10, 3) := by decide +kernel
theorem dJ3_checkIndex_8e157_16 : decode cJ3_checkIndex_8e157 16 = .ok (.iload_n 0, 1) := by decide +kernel
theorem dJ3_checkIndex_8e157_17 : decode cJ3_checkIndex_8e157 17 = .ok (.ireturn, 1) := by decide +kernel
abbrev vwCl : List vw_C := [(RX0, TX0, 6), (RX1, TX1, 5), (RX2, TX2, 8), (RX3, TX3, 7), (RX4, TX4, 17), (RX5, TX5, 5), (RX7, TX7, 11), (RX8, TX8, 8), (RX9, TX9, 4), (RX10, TX10, 16), (RX11, TX11, 9), (RX12, TX12, 106)]
