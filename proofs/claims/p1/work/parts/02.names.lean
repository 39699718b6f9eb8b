theorem goodIn_r {big : List Cond} (ws : List Cond) (ps : List Nat) (hp : ws = ps.filterMap (fun i => big[i]?)) (h : ws.all goodWord = true) : GoodIn big ws := by
  intro w hw
  have h1 := List.all_eq_true.mp h w hw
  rw [hp] at hw
  obtain ⟨i, -, hi⟩ := List.mem_filterMap.mp hw
  have hm : w ∈ big := by first | exact List.mem_of_getElem? hi | exact List.getElem?_mem hi
  exact ⟨hm, good_of_word h1⟩
theorem goodIn_app {big a b : List Cond} (ha : GoodIn big a) (hb : GoodIn big b) : GoodIn big (a ++ b) := fun w h => (List.mem_append.mp h).elim (ha w) (hb w)
def RX0 : String := "FourTongues$Borders"
def TX0 : u_T := fun k => match k with
  | 0 => ("FourTongues$Borders", "rules", "[I", true)
  | 1 => ("FourTongues$Borders", "defaults", "[I", true)
  | 2 => ("FourTongues$Borders", "entryBorders", "[I", true)
  | 3 => ("FourTongues$Borders", "entryWhats", "[I", true)
  | 4 => ("FourTongues$Borders", "entryAs", "[I", true)
  | _ => ("FourTongues$Borders", "entries", "I", false)
def RX1 : String := "FourTongues$Failures"
def TX1 : u_T := fun k => match k with
  | 0 => ("FourTongues$Failures", "facts", "[I", false)
  | 1 => ("FourTongues$Failures", "count", "I", false)
  | 2 => ("FourTongues$Failures", "values", "LFourTongues$Row;", true)
  | 3 => ("FourTongues$Failures", "lying", "[I", false)
  | _ => ("FourTongues$Failures", "lyingCount", "I", false)
def RX2 : String := "FourTongues$Frames"
def TX2 : u_T := fun k => match k with
  | 0 => ("FourTongues$Frames", "tongues", "[I", true)
  | 1 => ("FourTongues$Frames", "functions", "[I", true)
  | 2 => ("FourTongues$Frames", "bases", "[I", true)
  | 3 => ("FourTongues$Frames", "floors", "[I", true)
  | 4 => ("FourTongues$Frames", "tops", "[I", true)
  | 5 => ("FourTongues$Frames", "calledAt", "[I", true)
  | 6 => ("FourTongues$Frames", "guardBases", "[I", true)
  | _ => ("FourTongues$Frames", "count", "I", false)
def RX3 : String := "FourTongues$Guards"
def TX3 : u_T := fun k => match k with
  | 0 => ("FourTongues$Guards", "kinds", "[I", true)
  | 1 => ("FourTongues$Guards", "targets", "[I", true)
  | 2 => ("FourTongues$Guards", "names", "[I", true)
  | 3 => ("FourTongues$Guards", "underWay", "[I", true)
  | 4 => ("FourTongues$Guards", "failures", "[I", true)
  | 5 => ("FourTongues$Guards", "answers", "LFourTongues$Row;", true)
  | _ => ("FourTongues$Guards", "count", "I", false)
def RX4 : String := "FourTongues$Machine"
def TX4 : u_T := fun k => match k with
  | 0 => ("FourTongues$Machine", "programs", "[LFourTongues$Program;", true)
  | 1 => ("FourTongues$Machine", "names", "LFourTongues$Names;", true)
  | 2 => ("FourTongues$Machine", "borders", "LFourTongues$Borders;", true)
  | 3 => ("FourTongues$Machine", "stack", "LFourTongues$Row;", true)
  | 4 => ("FourTongues$Machine", "heap", "LFourTongues$Row;", true)
  | 5 => ("FourTongues$Machine", "marks", "LFourTongues$Row;", true)
  | 6 => ("FourTongues$Machine", "failures", "LFourTongues$Failures;", true)
  | 7 => ("FourTongues$Machine", "frames", "LFourTongues$Frames;", true)
  | 8 => ("FourTongues$Machine", "guards", "LFourTongues$Guards;", true)
  | 9 => ("FourTongues$Machine", "tally", "[I", true)
  | 10 => ("FourTongues$Machine", "program", "LFourTongues$Program;", false)
  | 11 => ("FourTongues$Machine", "at", "I", false)
  | 12 => ("FourTongues$Machine", "pc", "I", false)
  | 13 => ("FourTongues$Machine", "state", "I", false)
  | 14 => ("FourTongues$Machine", "carried", "I", false)
  | 15 => ("FourTongues$Machine", "cameOut", "I", false)
  | _ => ("FourTongues$Machine", "answer", "J", false)
def RX5 : String := "FourTongues$Names"
def TX5 : u_T := fun k => match k with
  | 0 => ("FourTongues$Names", "packed", "[J", true)
  | 1 => ("FourTongues$Names", "above", "[I", true)
  | 2 => ("FourTongues$Names", "keptAbove", "[I", true)
  | 3 => ("FourTongues$Names", "count", "I", false)
  | _ => ("FourTongues$Names", "keptCount", "I", false)
def RX7 : String := "FourTongues$Parser"
def TX7 : u_T := fun k => match k with
  | 0 => ("FourTongues$Parser", "tokens", "LFourTongues$Tokens;", true)
  | 1 => ("FourTongues$Parser", "names", "LFourTongues$Names;", true)
  | 2 => ("FourTongues$Parser", "program", "LFourTongues$Program;", false)
  | 3 => ("FourTongues$Parser", "faults", "[I", true)
  | 4 => ("FourTongues$Parser", "variables", "[J", true)
  | 5 => ("FourTongues$Parser", "variableCount", "I", false)
  | 6 => ("FourTongues$Parser", "counted", "I", false)
  | 7 => ("FourTongues$Parser", "told", "I", false)
  | 8 => ("FourTongues$Parser", "tongue", "I", false)
  | 9 => ("FourTongues$Parser", "depth", "I", false)
  | _ => ("FourTongues$Parser", "place", "I", false)
def RX8 : String := "FourTongues$Program"
def TX8 : u_T := fun k => match k with
  | 0 => ("FourTongues$Program", "code", "[I", false)
  | 1 => ("FourTongues$Program", "length", "I", false)
  | 2 => ("FourTongues$Program", "constants", "LFourTongues$Row;", true)
  | 3 => ("FourTongues$Program", "names", "[J", true)
  | 4 => ("FourTongues$Program", "starts", "[I", true)
  | 5 => ("FourTongues$Program", "parameters", "[I", true)
  | 6 => ("FourTongues$Program", "variables", "[I", true)
  | _ => ("FourTongues$Program", "functions", "I", false)
def RX9 : String := "FourTongues$Row"
def TX9 : u_T := fun k => match k with
  | 0 => ("FourTongues$Row", "kinds", "[I", false)
  | 1 => ("FourTongues$Row", "wholes", "[J", false)
  | 2 => ("FourTongues$Row", "reals", "[D", false)
  | _ => ("FourTongues$Row", "count", "I", false)
def tyX9 : Nat → FieldType := fun k => match k with
  | 0 => .array .int
  | 1 => .array .long
  | 2 => .array .double
  | _ => .int
abbrev wsX90 : List Cond := u_ws RX9 TX9 4
theorem nmX9 : ∀ a, a < 4 → ∀ b, b < 4 → a ≠ b → (TX9 a).2.1 ≠ (TX9 b).2.1 := by decide +kernel
theorem tyX9_ok : ∀ k, k < 4 → parseFieldDescriptor (TX9 k).2.2.1 = some (tyX9 k) := by decide +kernel
abbrev cX9_init : ByteArray := prog_11_method_1_code
def yX9_init : MethodName := ⟨RX9, "<init>", "(I)V"⟩
def RX10 : String := "FourTongues$Tokens"
def TX10 : u_T := fun k => match k with
  | 0 => ("FourTongues$Tokens", "text", "[B", true)
  | 1 => ("FourTongues$Tokens", "words", "[J", true)
  | 2 => ("FourTongues$Tokens", "kinds", "[I", true)
  | 3 => ("FourTongues$Tokens", "places", "[I", true)
  | 4 => ("FourTongues$Tokens", "wholes", "[J", true)
  | 5 => ("FourTongues$Tokens", "reals", "[D", true)
  | 6 => ("FourTongues$Tokens", "count", "I", false)
  | 7 => ("FourTongues$Tokens", "length", "I", false)
  | 8 => ("FourTongues$Tokens", "tongue", "I", false)
  | 9 => ("FourTongues$Tokens", "at", "I", false)
  | 10 => ("FourTongues$Tokens", "now", "I", false)
  | 11 => ("FourTongues$Tokens", "stopped", "Z", false)
  | 12 => ("FourTongues$Tokens", "kind", "I", false)
  | 13 => ("FourTongues$Tokens", "place", "I", false)
  | 14 => ("FourTongues$Tokens", "whole", "J", false)
  | _ => ("FourTongues$Tokens", "real", "D", false)
def RX11 : String := "FourTongues"
def TX11 : u_T := fun k => match k with
  | 0 => ("FourTongues", "tape", "[B", true)
  | 1 => ("FourTongues", "taped", "I", false)
  | 2 => ("FourTongues", "faultKind", "I", false)
  | 3 => ("FourTongues", "names", "LFourTongues$Names;", true)
  | 4 => ("FourTongues", "borders", "LFourTongues$Borders;", true)
  | 5 => ("FourTongues", "programs", "[LFourTongues$Program;", true)
  | 6 => ("FourTongues", "draft", "LFourTongues$Program;", false)
  | 7 => ("FourTongues", "parser", "LFourTongues$Parser;", true)
  | _ => ("FourTongues", "machine", "LFourTongues$Machine;", true)
abbrev cX11_isTongue : ByteArray := prog_1_method_17_code
def yX11_isTongue : MethodName := ⟨RX11, "isTongue", "(I)Z"⟩
def RX12 : String := "FourTonguesModel"
def TX12 : u_T := fun k => match k with
  | 0 => ("FourTonguesModel", "thrown", "I", false)
  | 1 => ("FourTonguesModel", "tape", "[I", true)
  | 2 => ("FourTonguesModel", "taped", "I", false)
  | 3 => ("FourTonguesModel", "names", "[J", true)
  | 4 => ("FourTonguesModel", "namesMany", "I", false)
  | 5 => ("FourTonguesModel", "parents", "[I", true)
  | 6 => ("FourTonguesModel", "at", "I", false)
  | 7 => ("FourTonguesModel", "size", "I", false)
  | 8 => ("FourTonguesModel", "sort", "I", false)
  | 9 => ("FourTonguesModel", "place", "I", false)
  | 10 => ("FourTonguesModel", "word", "J", false)
  | 11 => ("FourTonguesModel", "which", "I", false)
  | 12 => ("FourTonguesModel", "number", "J", false)
  | 13 => ("FourTonguesModel", "sign", "I", false)
  | 14 => ("FourTonguesModel", "tongue", "I", false)
  | 15 => ("FourTonguesModel", "fault1", "I", false)
  | 16 => ("FourTonguesModel", "fault2", "I", false)
  | 17 => ("FourTonguesModel", "fault3", "I", false)
  | 18 => ("FourTonguesModel", "nested", "I", false)
  | 19 => ("FourTonguesModel", "ops", "[I", true)
  | 20 => ("FourTonguesModel", "args", "[J", true)
  | 21 => ("FourTonguesModel", "seconds", "[I", true)
  | 22 => ("FourTonguesModel", "code", "I", false)
  | 23 => ("FourTonguesModel", "functionNames", "[J", true)
  | 24 => ("FourTonguesModel", "functionAt", "[I", true)
  | 25 => ("FourTonguesModel", "functionParams", "[I", true)
  | 26 => ("FourTonguesModel", "functionSlots", "[I", true)
  | 27 => ("FourTonguesModel", "functions", "[I", true)
  | 28 => ("FourTonguesModel", "newParents", "[I", true)
  | 29 => ("FourTonguesModel", "newNames", "I", false)
  | 30 => ("FourTonguesModel", "slots", "[J", true)
  | 31 => ("FourTonguesModel", "slotsMany", "I", false)
  | 32 => ("FourTonguesModel", "variables", "I", false)
  | 33 => ("FourTonguesModel", "overs", "[I", true)
  | 34 => ("FourTonguesModel", "keptAt", "I", false)
  | 35 => ("FourTonguesModel", "keptPlace", "I", false)
  | 36 => ("FourTonguesModel", "keptWord", "J", false)
  | 37 => ("FourTonguesModel", "keptCode", "I", false)
  | 38 => ("FourTonguesModel", "waiting", "[I", true)
  | 39 => ("FourTonguesModel", "waitingMany", "I", false)
  | 40 => ("FourTonguesModel", "latestFault", "I", false)
  | 41 => ("FourTonguesModel", "fTongue", "[I", true)
  | 42 => ("FourTonguesModel", "fFunction", "[I", true)
  | 43 => ("FourTonguesModel", "fPc", "[I", true)
  | 44 => ("FourTonguesModel", "fPlace", "[I", true)
  | 45 => ("FourTonguesModel", "fStack", "[I", true)
  | 46 => ("FourTonguesModel", "fBlocks", "[I", true)
  | 47 => ("FourTonguesModel", "frames", "I", false)
  | 48 => ("FourTonguesModel", "framesMost", "I", false)
  | 49 => ("FourTonguesModel", "varKinds", "[B", true)
  | 50 => ("FourTonguesModel", "varBits", "[J", true)
  | 51 => ("FourTonguesModel", "kinds", "[B", true)
  | 52 => ("FourTonguesModel", "bits", "[J", true)
  | 53 => ("FourTonguesModel", "many", "I", false)
  | 54 => ("FourTonguesModel", "bKind", "[I", true)
  | 55 => ("FourTonguesModel", "bTo", "[I", true)
  | 56 => ("FourTonguesModel", "bWhat", "[I", true)
  | 57 => ("FourTonguesModel", "bMany", "[I", true)
  | 58 => ("FourTonguesModel", "bPending", "[I", true)
  | 59 => ("FourTonguesModel", "bPendingKind", "[I", true)
  | 60 => ("FourTonguesModel", "bPendingBits", "[J", true)
  | 61 => ("FourTonguesModel", "blocks", "I", false)
  | 62 => ("FourTonguesModel", "arrayFrom", "[I", true)
  | 63 => ("FourTonguesModel", "arraySize", "[I", true)
  | 64 => ("FourTonguesModel", "arrayTongue", "[I", true)
  | 65 => ("FourTonguesModel", "arrays", "I", false)
  | 66 => ("FourTonguesModel", "cellKinds", "[B", true)
  | 67 => ("FourTonguesModel", "cellBits", "[J", true)
  | 68 => ("FourTonguesModel", "cells", "I", false)
  | 69 => ("FourTonguesModel", "cellsCounted", "I", false)
  | 70 => ("FourTonguesModel", "gTongue", "[I", true)
  | 71 => ("FourTonguesModel", "gWhat", "[I", true)
  | 72 => ("FourTonguesModel", "gKind", "[B", true)
  | 73 => ("FourTonguesModel", "gBits", "[J", true)
  | 74 => ("FourTonguesModel", "gPlace", "[I", true)
  | 75 => ("FourTonguesModel", "gFunction", "[I", true)
  | 76 => ("FourTonguesModel", "gHow", "[I", true)
  | 77 => ("FourTonguesModel", "gFrom", "[I", true)
  | 78 => ("FourTonguesModel", "gUnder", "[I", true)
  | 79 => ("FourTonguesModel", "lyingOnes", "[I", true)
  | 80 => ("FourTonguesModel", "lyingNext", "[I", true)
  | 81 => ("FourTonguesModel", "lyingMany", "I", false)
  | 82 => ("FourTonguesModel", "failures", "I", false)
  | 83 => ("FourTonguesModel", "steps", "I", false)
  | 84 => ("FourTonguesModel", "stepsEver", "I", false)
  | 85 => ("FourTonguesModel", "marks", "I", false)
  | 86 => ("FourTonguesModel", "markBits", "[J", true)
  | 87 => ("FourTonguesModel", "markTongues", "[I", true)
  | 88 => ("FourTonguesModel", "dropped", "I", false)
  | 89 => ("FourTonguesModel", "borders", "I", false)
  | 90 => ("FourTonguesModel", "turnedFailures", "I", false)
  | 91 => ("FourTonguesModel", "theCell", "I", false)
  | 92 => ("FourTonguesModel", "hasRun", "Z", false)
  | 93 => ("FourTonguesModel", "outcome", "I", false)
  | 94 => ("FourTonguesModel", "isOver", "Z", false)
  | 95 => ("FourTonguesModel", "answerKind", "I", false)
  | 96 => ("FourTonguesModel", "answerBits", "J", false)
  | 97 => ("FourTonguesModel", "failed", "I", false)
  | 98 => ("FourTonguesModel", "isTurned", "Z", false)
  | 99 => ("FourTonguesModel", "turned", "J", false)
  | 100 => ("FourTonguesModel", "rules", "[I", true)
  | 101 => ("FourTonguesModel", "entryBorder", "[I", true)
  | 102 => ("FourTonguesModel", "entryWhat", "[I", true)
  | 103 => ("FourTonguesModel", "entryAs", "[I", true)
  | 104 => ("FourTonguesModel", "entries", "I", false)
  | _ => ("FourTonguesModel", "defaults", "[I", true)
def wsX9_init : List Cond := .code yX9_init cX9_init 3 none :: ([.methodLink RX9 1 objectInit, .instanceMethod objectInit, .code objectInit ⟨#[0xb1]⟩ 1 none, .fieldLink RX9 7 "FourTongues$Row" "count" "I", .methodLink RX9 13 Lib.Math.max.name, .static Lib.Math.max.name, .initialized "java/lang/Math", .code Lib.Math.max.name Lib.Math.max.code 2 (some .int), .arrayClass .int, .fieldLink RX9 19 "FourTongues$Row" "kinds" "[I", .arrayClass .long, .fieldLink RX9 23 "FourTongues$Row" "wholes" "[J", .arrayClass .double, .fieldLink RX9 27 "FourTongues$Row" "reals" "[D"] ++ wsX90)
def wsX11_isTongue : List Cond := .code yX11_isTongue cX11_isTongue 1 (some .boolean) :: ([])
theorem dX9_init_0 : decode cX9_init 0 = .ok (.aload_n 0, 1) := by decide +kernel
theorem dX9_init_1 : decode cX9_init 1 = .ok (.invokespecial 1, 3) := by decide +kernel
theorem dX9_init_4 : decode cX9_init 4 = .ok (.aload_n 0, 1) := by decide +kernel
theorem dX9_init_5 : decode cX9_init 5 = .ok (.iconst 0, 1) := by decide +kernel
theorem dX9_init_6 : decode cX9_init 6 = .ok (.putfield 7, 3) := by decide +kernel
theorem dX9_init_9 : decode cX9_init 9 = .ok (.iload_n 1, 1) := by decide +kernel
theorem dX9_init_10 : decode cX9_init 10 = .ok (.iconst 1, 1) := by decide +kernel
theorem dX9_init_11 : decode cX9_init 11 = .ok (.invokestatic 13, 3) := by decide +kernel
theorem dX9_init_14 : decode cX9_init 14 = .ok (.istore_n 2, 1) := by decide +kernel
theorem dX9_init_15 : decode cX9_init 15 = .ok (.aload_n 0, 1) := by decide +kernel
theorem dX9_init_16 : decode cX9_init 16 = .ok (.iload_n 2, 1) := by decide +kernel
theorem dX9_init_17 : decode cX9_init 17 = .ok (.newarray .int, 2) := by decide +kernel
theorem dX9_init_19 : decode cX9_init 19 = .ok (.putfield 19, 3) := by decide +kernel
theorem dX9_init_22 : decode cX9_init 22 = .ok (.aload_n 0, 1) := by decide +kernel
theorem dX9_init_23 : decode cX9_init 23 = .ok (.iload_n 2, 1) := by decide +kernel
theorem dX9_init_24 : decode cX9_init 24 = .ok (.newarray .long, 2) := by decide +kernel
theorem dX9_init_26 : decode cX9_init 26 = .ok (.putfield 23, 3) := by decide +kernel
theorem dX9_init_29 : decode cX9_init 29 = .ok (.aload_n 0, 1) := by decide +kernel
theorem dX9_init_30 : decode cX9_init 30 = .ok (.iload_n 2, 1) := by decide +kernel
theorem dX9_init_31 : decode cX9_init 31 = .ok (.newarray .double, 2) := by decide +kernel
theorem dX9_init_33 : decode cX9_init 33 = .ok (.putfield 27, 3) := by decide +kernel
theorem dX9_init_36 : decode cX9_init 36 = .ok (.return_, 1) := by decide +kernel
theorem dX11_isTongue_0 : decode cX11_isTongue 0 = .ok (.iload_n 0, 1) := by decide +kernel
theorem dX11_isTongue_1 : decode cX11_isTongue 1 = .ok (.ifCond .lt 12, 3) := by decide +kernel
theorem dX11_isTongue_4 : decode cX11_isTongue 4 = .ok (.iload_n 0, 1) := by decide +kernel
theorem dX11_isTongue_5 : decode cX11_isTongue 5 = .ok (.iconst 4, 1) := by decide +kernel
theorem dX11_isTongue_6 : decode cX11_isTongue 6 = .ok (.if_icmp .ge 7, 3) := by decide +kernel
theorem dX11_isTongue_9 : decode cX11_isTongue 9 = .ok (.iconst 1, 1) := by decide +kernel
theorem dX11_isTongue_10 : decode cX11_isTongue 10 = .ok (.goto 4, 3) := by decide +kernel
theorem dX11_isTongue_13 : decode cX11_isTongue 13 = .ok (.iconst 0, 1) := by decide +kernel
theorem dX11_isTongue_14 : decode cX11_isTongue 14 = .ok (.ireturn, 1) := by decide +kernel
abbrev vwCl : List vw_C := [(RX0, TX0, 6), (RX1, TX1, 5), (RX2, TX2, 8), (RX3, TX3, 7), (RX4, TX4, 17), (RX5, TX5, 5), (RX7, TX7, 11), (RX8, TX8, 8), (RX9, TX9, 4), (RX10, TX10, 16), (RX11, TX11, 9), (RX12, TX12, 106)]
