def RX0 : String := "Macroloom$Code"
def TX0 : u_T := fun k => match k with
  | 0 => ("Macroloom$Code", "works", "LMacroloom$Row;", true)
  | 1 => ("Macroloom$Code", "details", "LMacroloom$Row;", true)
  | _ => ("Macroloom$Code", "used", "I", false)
def tyX0 : Nat → FieldType := fun k => match k with
  | 0 => .object "Macroloom$Row"
  | 1 => .object "Macroloom$Row"
  | _ => .int
abbrev wsX00 : List Cond := u_ws RX0 TX0 3
theorem nmX0 : ∀ a, a < 3 → ∀ b, b < 3 → a ≠ b → (TX0 a).2.1 ≠ (TX0 b).2.1 := by decide +kernel
theorem tyX0_ok : ∀ k, k < 3 → parseFieldDescriptor (TX0 k).2.2.1 = some (tyX0 k) := by decide +kernel
abbrev cX0_init : ByteArray := prog_2_method_1_code
def yX0_init : MethodName := ⟨RX0, "<init>", "()V"⟩
abbrev cX0_emit : ByteArray := prog_2_method_2_code
def yX0_emit : MethodName := ⟨RX0, "emit", "(II)V"⟩
abbrev cX0_translate : ByteArray := prog_2_method_3_code
def yX0_translate : MethodName := ⟨RX0, "translate", "(IIII)I"⟩
abbrev cX0_translateParts : ByteArray := prog_2_method_4_code
def yX0_translateParts : MethodName := ⟨RX0, "translateParts", "(IIII)V"⟩
abbrev cX0_translateIf : ByteArray := prog_2_method_5_code
def yX0_translateIf : MethodName := ⟨RX0, "translateIf", "(III)V"⟩
abbrev cX0_translateLoop : ByteArray := prog_2_method_6_code
def yX0_translateLoop : MethodName := ⟨RX0, "translateLoop", "(I)V"⟩
abbrev cX0_translateTry : ByteArray := prog_2_method_7_code
def yX0_translateTry : MethodName := ⟨RX0, "translateTry", "(III)V"⟩
abbrev cX0_translateFinally : ByteArray := prog_2_method_8_code
def yX0_translateFinally : MethodName := ⟨RX0, "translateFinally", "(II)V"⟩
abbrev cX0_translateOption : ByteArray := prog_2_method_9_code
def yX0_translateOption : MethodName := ⟨RX0, "translateOption", "(III)V"⟩
abbrev cX0_translateEach : ByteArray := prog_2_method_10_code
def yX0_translateEach : MethodName := ⟨RX0, "translateEach", "(I)V"⟩
abbrev cX0_translateCall : ByteArray := prog_2_method_11_code
def yX0_translateCall : MethodName := ⟨RX0, "translateCall", "(III)V"⟩
abbrev cX0_translateInsert : ByteArray := prog_2_method_12_code
def yX0_translateInsert : MethodName := ⟨RX0, "translateInsert", "(I)V"⟩
def RX1 : String := "Macroloom$Frames"
def TX1 : u_T := fun k => match k with
  | 0 => ("Macroloom$Frames", "nodes", "LMacroloom$Row;", true)
  | 1 => ("Macroloom$Frames", "ups", "LMacroloom$Row;", true)
  | 2 => ("Macroloom$Frames", "scopes", "LMacroloom$Row;", true)
  | 3 => ("Macroloom$Frames", "bodies", "LMacroloom$Row;", true)
  | 4 => ("Macroloom$Frames", "places", "LMacroloom$Row;", true)
  | 5 => ("Macroloom$Frames", "landings", "LMacroloom$Row;", true)
  | 6 => ("Macroloom$Frames", "arounds", "LMacroloom$Row;", true)
  | 7 => ("Macroloom$Frames", "kept", "LMacroloom$Row;", true)
  | 8 => ("Macroloom$Frames", "held", "LMacroloom$Row;", true)
  | 9 => ("Macroloom$Frames", "spare", "LMacroloom$Row;", true)
  | _ => ("Macroloom$Frames", "causes", "LMacroloom$Row;", true)
def tyX1 : Nat → FieldType := fun k => match k with
  | 0 => .object "Macroloom$Row"
  | 1 => .object "Macroloom$Row"
  | 2 => .object "Macroloom$Row"
  | 3 => .object "Macroloom$Row"
  | 4 => .object "Macroloom$Row"
  | 5 => .object "Macroloom$Row"
  | 6 => .object "Macroloom$Row"
  | 7 => .object "Macroloom$Row"
  | 8 => .object "Macroloom$Row"
  | 9 => .object "Macroloom$Row"
  | _ => .object "Macroloom$Row"
abbrev wsX10 : List Cond := u_ws RX1 TX1 11
theorem nmX1 : ∀ a, a < 11 → ∀ b, b < 11 → a ≠ b → (TX1 a).2.1 ≠ (TX1 b).2.1 := by decide +kernel
theorem tyX1_ok : ∀ k, k < 11 → parseFieldDescriptor (TX1 k).2.2.1 = some (tyX1 k) := by decide +kernel
abbrev cX1_init : ByteArray := prog_3_method_1_code
def yX1_init : MethodName := ⟨RX1, "<init>", "()V"⟩
abbrev cX1_land : ByteArray := prog_3_method_2_code
def yX1_land : MethodName := ⟨RX1, "land", "(I)V"⟩
abbrev cX1_rootOf : ByteArray := prog_3_method_3_code
def yX1_rootOf : MethodName := ⟨RX1, "rootOf", "(I)I"⟩
def RX2 : String := "Macroloom$Machine"
def TX2 : u_T := fun k => match k with
  | 0 => ("Macroloom$Machine", "program", "LMacroloom$Program;", true)
  | 1 => ("Macroloom$Machine", "world", "LMacroloom$World;", true)
  | 2 => ("Macroloom$Machine", "before", "LMacroloom$World;", true)
  | 3 => ("Macroloom$Machine", "frames", "LMacroloom$Frames;", true)
  | 4 => ("Macroloom$Machine", "scopes", "LMacroloom$Scopes;", true)
  | 5 => ("Macroloom$Machine", "makings", "LMacroloom$Makings;", true)
  | 6 => ("Macroloom$Machine", "report", "LMacroloom$Report;", false)
  | 7 => ("Macroloom$Machine", "going", "Z", false)
  | 8 => ("Macroloom$Machine", "calls", "I", false)
  | 9 => ("Macroloom$Machine", "budget", "I", false)
  | 10 => ("Macroloom$Machine", "steps", "I", false)
  | 11 => ("Macroloom$Machine", "current", "I", false)
  | 12 => ("Macroloom$Machine", "waiting", "Z", false)
  | 13 => ("Macroloom$Machine", "lastCall", "I", false)
  | 14 => ("Macroloom$Machine", "hooking", "Z", false)
  | 15 => ("Macroloom$Machine", "ending", "I", false)
  | 16 => ("Macroloom$Machine", "value", "I", false)
  | 17 => ("Macroloom$Machine", "cause", "I", false)
  | 18 => ("Macroloom$Machine", "detail", "I", false)
  | _ => ("Macroloom$Machine", "result", "I", false)
def tyX2 : Nat → FieldType := fun k => match k with
  | 0 => .object "Macroloom$Program"
  | 1 => .object "Macroloom$World"
  | 2 => .object "Macroloom$World"
  | 3 => .object "Macroloom$Frames"
  | 4 => .object "Macroloom$Scopes"
  | 5 => .object "Macroloom$Makings"
  | 6 => .object "Macroloom$Report"
  | 7 => .boolean
  | 8 => .int
  | 9 => .int
  | 10 => .int
  | 11 => .int
  | 12 => .boolean
  | 13 => .int
  | 14 => .boolean
  | 15 => .int
  | 16 => .int
  | 17 => .int
  | 18 => .int
  | _ => .int
abbrev wsX20 : List Cond := u_ws RX2 TX2 20
theorem nmX2 : ∀ a, a < 20 → ∀ b, b < 20 → a ≠ b → (TX2 a).2.1 ≠ (TX2 b).2.1 := by decide +kernel
theorem tyX2_ok : ∀ k, k < 20 → parseFieldDescriptor (TX2 k).2.2.1 = some (tyX2 k) := by decide +kernel
abbrev cX2_init : ByteArray := prog_4_method_1_code
def yX2_init : MethodName := ⟨RX2, "<init>", "(LMacroloom$Program;LMacroloom$World;LMacroloom$Report;)V"⟩
abbrev cX2_open : ByteArray := prog_4_method_2_code
def yX2_open : MethodName := ⟨RX2, "open", "(IILMacroloom$Report;)V"⟩
abbrev cX2_advance : ByteArray := prog_4_method_3_code
def yX2_advance : MethodName := ⟨RX2, "advance", "(IZ)I"⟩
abbrev cX2_abandon : ByteArray := prog_4_method_4_code
def yX2_abandon : MethodName := ⟨RX2, "abandon", "()I"⟩
abbrev cX2_waitingNode : ByteArray := prog_4_method_5_code
def yX2_waitingNode : MethodName := ⟨RX2, "waitingNode", "()I"⟩
abbrev cX2_seenByWaiting : ByteArray := prog_4_method_6_code
def yX2_seenByWaiting : MethodName := ⟨RX2, "seenByWaiting", "(I)I"⟩
abbrev cX2_letBegin : ByteArray := prog_4_method_7_code
def yX2_letBegin : MethodName := ⟨RX2, "letBegin", "()V"⟩
abbrev cX2_settle : ByteArray := prog_4_method_8_code
def yX2_settle : MethodName := ⟨RX2, "settle", "()V"⟩
abbrev cX2_begin : ByteArray := prog_4_method_9_code
def yX2_begin : MethodName := ⟨RX2, "begin", "(III)V"⟩
abbrev cX2_fail : ByteArray := prog_4_method_10_code
def yX2_fail : MethodName := ⟨RX2, "fail", "(I)V"⟩
abbrev cX2_jump : ByteArray := prog_4_method_11_code
def yX2_jump : MethodName := ⟨RX2, "jump", "(I)V"⟩
abbrev cX2_performFlow : ByteArray := prog_4_method_12_code
def yX2_performFlow : MethodName := ⟨RX2, "performFlow", "(II)V"⟩
abbrev cX2_performBehind : ByteArray := prog_4_method_13_code
def yX2_performBehind : MethodName := ⟨RX2, "performBehind", "(II)V"⟩
abbrev cX2_performReckoning : ByteArray := prog_4_method_14_code
def yX2_performReckoning : MethodName := ⟨RX2, "performReckoning", "(II)V"⟩
abbrev cX2_putInto : ByteArray := prog_4_method_15_code
def yX2_putInto : MethodName := ⟨RX2, "putInto", "(II)V"⟩
abbrev cX2_reckon : ByteArray := prog_4_method_16_code
def yX2_reckon : MethodName := ⟨RX2, "reckon", "(III)V"⟩
abbrev cX2_performControl : ByteArray := prog_4_method_17_code
def yX2_performControl : MethodName := ⟨RX2, "performControl", "(II)V"⟩
abbrev cX2_performEditing : ByteArray := prog_4_method_18_code
def yX2_performEditing : MethodName := ⟨RX2, "performEditing", "(II)V"⟩
abbrev cX2_leave : ByteArray := prog_4_method_19_code
def yX2_leave : MethodName := ⟨RX2, "leave", "()V"⟩
abbrev cX2_endCall : ByteArray := prog_4_method_20_code
def yX2_endCall : MethodName := ⟨RX2, "endCall", "(I)V"⟩
abbrev cX2_endGenerator : ByteArray := prog_4_method_21_code
def yX2_endGenerator : MethodName := ⟨RX2, "endGenerator", "(II)V"⟩
abbrev cX2_closeNext : ByteArray := prog_4_method_22_code
def yX2_closeNext : MethodName := ⟨RX2, "closeNext", "()V"⟩
abbrev cX2_catchError : ByteArray := prog_4_method_23_code
def yX2_catchError : MethodName := ⟨RX2, "catchError", "(I)V"⟩
abbrev cX2_catchLeaving : ByteArray := prog_4_method_24_code
def yX2_catchLeaving : MethodName := ⟨RX2, "catchLeaving", "(I)V"⟩
abbrev cX2_hold : ByteArray := prog_4_method_25_code
def yX2_hold : MethodName := ⟨RX2, "hold", "()V"⟩
abbrev cX2_revive : ByteArray := prog_4_method_26_code
def yX2_revive : MethodName := ⟨RX2, "revive", "()V"⟩
abbrev cX2_loopWith : ByteArray := prog_4_method_27_code
def yX2_loopWith : MethodName := ⟨RX2, "loopWith", "(I)I"⟩
abbrev cX2_bodyToReturn : ByteArray := prog_4_method_28_code
def yX2_bodyToReturn : MethodName := ⟨RX2, "bodyToReturn", "()I"⟩
abbrev cX2_leaveFor : ByteArray := prog_4_method_29_code
def yX2_leaveFor : MethodName := ⟨RX2, "leaveFor", "(II)V"⟩
abbrev cX2_apply : ByteArray := prog_4_method_30_code
def yX2_apply : MethodName := ⟨RX2, "apply", "()V"⟩
abbrev cX2_invoke : ByteArray := prog_4_method_31_code
def yX2_invoke : MethodName := ⟨RX2, "invoke", "(II)V"⟩
abbrev cX2_enter : ByteArray := prog_4_method_32_code
def yX2_enter : MethodName := ⟨RX2, "enter", "(I)V"⟩
abbrev cX2_noteCall : ByteArray := prog_4_method_33_code
def yX2_noteCall : MethodName := ⟨RX2, "noteCall", "()V"⟩
abbrev cX2_ask : ByteArray := prog_4_method_34_code
def yX2_ask : MethodName := ⟨RX2, "ask", "()V"⟩
abbrev cX2_askFirst : ByteArray := prog_4_method_35_code
def yX2_askFirst : MethodName := ⟨RX2, "askFirst", "(I)V"⟩
abbrev cX2_goOn : ByteArray := prog_4_method_36_code
def yX2_goOn : MethodName := ⟨RX2, "goOn", "(I)V"⟩
abbrev cX2_rest : ByteArray := prog_4_method_37_code
def yX2_rest : MethodName := ⟨RX2, "rest", "()V"⟩
abbrev cX2_isBarred : ByteArray := prog_4_method_38_code
def yX2_isBarred : MethodName := ⟨RX2, "isBarred", "()Z"⟩
abbrev cX2_stay : ByteArray := prog_4_method_39_code
def yX2_stay : MethodName := ⟨RX2, "stay", "(I)V"⟩
abbrev cX2_insert : ByteArray := prog_4_method_40_code
def yX2_insert : MethodName := ⟨RX2, "insert", "(LMacroloom$Text;I)V"⟩
abbrev cX2_move : ByteArray := prog_4_method_41_code
def yX2_move : MethodName := ⟨RX2, "move", "(LMacroloom$Text;)V"⟩
abbrev cX2_addCursor : ByteArray := prog_4_method_42_code
def yX2_addCursor : MethodName := ⟨RX2, "addCursor", "(LMacroloom$Text;)V"⟩
abbrev cX2_choose : ByteArray := prog_4_method_43_code
def yX2_choose : MethodName := ⟨RX2, "choose", "()V"⟩
abbrev cX2_reload : ByteArray := prog_4_method_44_code
def yX2_reload : MethodName := ⟨RX2, "reload", "(I)V"⟩
abbrev cX2_chooseNextCursor : ByteArray := prog_4_method_45_code
def yX2_chooseNextCursor : MethodName := ⟨RX2, "chooseNextCursor", "(I)V"⟩
abbrev cX2_leaveEach : ByteArray := prog_4_method_46_code
def yX2_leaveEach : MethodName := ⟨RX2, "leaveEach", "()V"⟩
def RX3 : String := "Macroloom$Makings"
def TX3 : u_T := fun k => match k with
  | 0 => ("Macroloom$Makings", "functions", "LMacroloom$Row;", true)
  | 1 => ("Macroloom$Makings", "generators", "LMacroloom$Row;", true)
  | 2 => ("Macroloom$Makings", "states", "LMacroloom$Row;", true)
  | 3 => ("Macroloom$Makings", "roots", "LMacroloom$Row;", true)
  | 4 => ("Macroloom$Makings", "rests", "LMacroloom$Row;", true)
  | 5 => ("Macroloom$Makings", "functionCount", "I", false)
  | _ => ("Macroloom$Makings", "generatorCount", "I", false)
def tyX3 : Nat → FieldType := fun k => match k with
  | 0 => .object "Macroloom$Row"
  | 1 => .object "Macroloom$Row"
  | 2 => .object "Macroloom$Row"
  | 3 => .object "Macroloom$Row"
  | 4 => .object "Macroloom$Row"
  | 5 => .int
  | _ => .int
abbrev wsX30 : List Cond := u_ws RX3 TX3 7
theorem nmX3 : ∀ a, a < 7 → ∀ b, b < 7 → a ≠ b → (TX3 a).2.1 ≠ (TX3 b).2.1 := by decide +kernel
theorem tyX3_ok : ∀ k, k < 7 → parseFieldDescriptor (TX3 k).2.2.1 = some (tyX3 k) := by decide +kernel
abbrev cX3_init : ByteArray := prog_5_method_1_code
def yX3_init : MethodName := ⟨RX3, "<init>", "()V"⟩
abbrev cX3_clear : ByteArray := prog_5_method_2_code
def yX3_clear : MethodName := ⟨RX3, "clear", "()V"⟩
abbrev cX3_makeFunction : ByteArray := prog_5_method_3_code
def yX3_makeFunction : MethodName := ⟨RX3, "makeFunction", "(I)I"⟩
abbrev cX3_makeGenerator : ByteArray := prog_5_method_4_code
def yX3_makeGenerator : MethodName := ⟨RX3, "makeGenerator", "(I)I"⟩
abbrev cX3_isFunction : ByteArray := prog_5_method_5_code
def yX3_isFunction : MethodName := ⟨RX3, "isFunction", "(I)Z"⟩
abbrev cX3_isGenerator : ByteArray := prog_5_method_6_code
def yX3_isGenerator : MethodName := ⟨RX3, "isGenerator", "(I)Z"⟩
abbrev cX3_functionMaker : ByteArray := prog_5_method_7_code
def yX3_functionMaker : MethodName := ⟨RX3, "functionMaker", "(I)I"⟩
abbrev cX3_generatorMaker : ByteArray := prog_5_method_8_code
def yX3_generatorMaker : MethodName := ⟨RX3, "generatorMaker", "(I)I"⟩
abbrev cX3_lowestResting : ByteArray := prog_5_method_9_code
def yX3_lowestResting : MethodName := ⟨RX3, "lowestResting", "()I"⟩
def RX4 : String := "Macroloom$Program"
def TX4 : u_T := fun k => match k with
  | 0 => ("Macroloom$Program", "kinds", "LMacroloom$Row;", true)
  | 1 => ("Macroloom$Program", "firsts", "LMacroloom$Row;", true)
  | 2 => ("Macroloom$Program", "seconds", "LMacroloom$Row;", true)
  | 3 => ("Macroloom$Program", "sizes", "LMacroloom$Row;", true)
  | 4 => ("Macroloom$Program", "breaks", "LMacroloom$Row;", true)
  | 5 => ("Macroloom$Program", "entries", "LMacroloom$Row;", true)
  | 6 => ("Macroloom$Program", "code", "LMacroloom$Code;", true)
  | _ => ("Macroloom$Program", "count", "I", false)
def tyX4 : Nat → FieldType := fun k => match k with
  | 0 => .object "Macroloom$Row"
  | 1 => .object "Macroloom$Row"
  | 2 => .object "Macroloom$Row"
  | 3 => .object "Macroloom$Row"
  | 4 => .object "Macroloom$Row"
  | 5 => .object "Macroloom$Row"
  | 6 => .object "Macroloom$Code"
  | _ => .int
abbrev wsX40 : List Cond := u_ws RX4 TX4 8
theorem nmX4 : ∀ a, a < 8 → ∀ b, b < 8 → a ≠ b → (TX4 a).2.1 ≠ (TX4 b).2.1 := by decide +kernel
theorem tyX4_ok : ∀ k, k < 8 → parseFieldDescriptor (TX4 k).2.2.1 = some (tyX4 k) := by decide +kernel
abbrev cX4_init : ByteArray := prog_6_method_1_code
def yX4_init : MethodName := ⟨RX4, "<init>", "()V"⟩
abbrev cX4_has : ByteArray := prog_6_method_2_code
def yX4_has : MethodName := ⟨RX4, "has", "(I)Z"⟩
abbrev cX4_shapeOf : ByteArray := prog_6_method_3_code
def yX4_shapeOf : MethodName := ⟨RX4, "shapeOf", "(III)C"⟩
abbrev cX4_choose : ByteArray := prog_6_method_4_code
def yX4_choose : MethodName := ⟨RX4, "choose", "(IIII)I"⟩
abbrev cX4_lacksPart : ByteArray := prog_6_method_5_code
def yX4_lacksPart : MethodName := ⟨RX4, "lacksPart", "(IIII)Z"⟩
abbrev cX4_isShaped : ByteArray := prog_6_method_6_code
def yX4_isShaped : MethodName := ⟨RX4, "isShaped", "(IIII)Z"⟩
abbrev cX4_fits : ByteArray := prog_6_method_7_code
def yX4_fits : MethodName := ⟨RX4, "fits", "(CI)Z"⟩
abbrev cX4_hasRoom : ByteArray := prog_6_method_8_code
def yX4_hasRoom : MethodName := ⟨RX4, "hasRoom", "(IIII)Z"⟩
abbrev cX4_sizeWith : ByteArray := prog_6_method_9_code
def yX4_sizeWith : MethodName := ⟨RX4, "sizeWith", "(IIII)I"⟩
abbrev cX4_add : ByteArray := prog_6_method_10_code
def yX4_add : MethodName := ⟨RX4, "add", "(IIII)I"⟩
def RX5 : String := "Macroloom$Report"
def TX5 : u_T := fun k => match k with
  | 0 => ("Macroloom$Report", "told", "I", false)
  | 1 => ("Macroloom$Report", "cost", "I", false)
  | 2 => ("Macroloom$Report", "blamed", "I", false)
  | 3 => ("Macroloom$Report", "count", "I", false)
  | _ => ("Macroloom$Report", "trace", "LMacroloom$Row;", true)
def tyX5 : Nat → FieldType := fun k => match k with
  | 0 => .int
  | 1 => .int
  | 2 => .int
  | 3 => .int
  | _ => .object "Macroloom$Row"
abbrev wsX50 : List Cond := u_ws RX5 TX5 5
theorem nmX5 : ∀ a, a < 5 → ∀ b, b < 5 → a ≠ b → (TX5 a).2.1 ≠ (TX5 b).2.1 := by decide +kernel
theorem tyX5_ok : ∀ k, k < 5 → parseFieldDescriptor (TX5 k).2.2.1 = some (tyX5 k) := by decide +kernel
abbrev cX5_init : ByteArray := prog_7_method_1_code
def yX5_init : MethodName := ⟨RX5, "<init>", "()V"⟩
abbrev cX5_push : ByteArray := prog_7_method_2_code
def yX5_push : MethodName := ⟨RX5, "push", "(I)V"⟩
def RX6 : String := "Macroloom$Row"
def TX6 : u_T := fun k => match k with
  | _ => ("Macroloom$Row", "cells", "[I", true)
def tyX6 : Nat → FieldType := fun k => match k with
  | _ => .array .int
abbrev wsX60 : List Cond := u_ws RX6 TX6 1
theorem nmX6 : ∀ a, a < 1 → ∀ b, b < 1 → a ≠ b → (TX6 a).2.1 ≠ (TX6 b).2.1 := by decide +kernel
theorem tyX6_ok : ∀ k, k < 1 → parseFieldDescriptor (TX6 k).2.2.1 = some (tyX6 k) := by decide +kernel
abbrev cX6_init : ByteArray := prog_8_method_1_code
def yX6_init : MethodName := ⟨RX6, "<init>", "(II)V"⟩
abbrev cX6_at : ByteArray := prog_8_method_2_code
def yX6_at : MethodName := ⟨RX6, "at", "(I)I"⟩
abbrev cX6_put : ByteArray := prog_8_method_3_code
def yX6_put : MethodName := ⟨RX6, "put", "(II)V"⟩
abbrev cX6_become : ByteArray := prog_8_method_4_code
def yX6_become : MethodName := ⟨RX6, "become", "(LMacroloom$Row;)V"⟩
def RX7 : String := "Macroloom$Scopes"
def TX7 : u_T := fun k => match k with
  | 0 => ("Macroloom$Scopes", "outers", "LMacroloom$Row;", true)
  | 1 => ("Macroloom$Scopes", "cells", "LMacroloom$Row;", true)
  | _ => ("Macroloom$Scopes", "count", "I", false)
def tyX7 : Nat → FieldType := fun k => match k with
  | 0 => .object "Macroloom$Row"
  | 1 => .object "Macroloom$Row"
  | _ => .int
abbrev wsX70 : List Cond := u_ws RX7 TX7 3
theorem nmX7 : ∀ a, a < 3 → ∀ b, b < 3 → a ≠ b → (TX7 a).2.1 ≠ (TX7 b).2.1 := by decide +kernel
theorem tyX7_ok : ∀ k, k < 3 → parseFieldDescriptor (TX7 k).2.2.1 = some (tyX7 k) := by decide +kernel
abbrev cX7_init : ByteArray := prog_9_method_1_code
def yX7_init : MethodName := ⟨RX7, "<init>", "()V"⟩
abbrev cX7_clear : ByteArray := prog_9_method_2_code
def yX7_clear : MethodName := ⟨RX7, "clear", "()V"⟩
abbrev cX7_open : ByteArray := prog_9_method_3_code
def yX7_open : MethodName := ⟨RX7, "open", "(I)I"⟩
abbrev cX7_bind : ByteArray := prog_9_method_4_code
def yX7_bind : MethodName := ⟨RX7, "bind", "(III)V"⟩
abbrev cX7_holderOf : ByteArray := prog_9_method_5_code
def yX7_holderOf : MethodName := ⟨RX7, "holderOf", "(II)I"⟩
abbrev cX7_valueOf : ByteArray := prog_9_method_6_code
def yX7_valueOf : MethodName := ⟨RX7, "valueOf", "(II)I"⟩
def RX8 : String := "Macroloom$Text"
def TX8 : u_T := fun k => match k with
  | 0 => ("Macroloom$Text", "letters", "LMacroloom$Row;", true)
  | 1 => ("Macroloom$Text", "places", "LMacroloom$Row;", true)
  | 2 => ("Macroloom$Text", "count", "I", false)
  | _ => ("Macroloom$Text", "chosen", "I", false)
def tyX8 : Nat → FieldType := fun k => match k with
  | 0 => .object "Macroloom$Row"
  | 1 => .object "Macroloom$Row"
  | 2 => .int
  | _ => .int
abbrev wsX80 : List Cond := u_ws RX8 TX8 4
theorem nmX8 : ∀ a, a < 4 → ∀ b, b < 4 → a ≠ b → (TX8 a).2.1 ≠ (TX8 b).2.1 := by decide +kernel
theorem tyX8_ok : ∀ k, k < 4 → parseFieldDescriptor (TX8 k).2.2.1 = some (tyX8 k) := by decide +kernel
abbrev cX8_init : ByteArray := prog_10_method_1_code
def yX8_init : MethodName := ⟨RX8, "<init>", "()V"⟩
abbrev cX8_become : ByteArray := prog_10_method_2_code
def yX8_become : MethodName := ⟨RX8, "become", "(LMacroloom$Text;)V"⟩
abbrev cX8_append : ByteArray := prog_10_method_3_code
def yX8_append : MethodName := ⟨RX8, "append", "(I)V"⟩
abbrev cX8_hasPlace : ByteArray := prog_10_method_4_code
def yX8_hasPlace : MethodName := ⟨RX8, "hasPlace", "(I)Z"⟩
abbrev cX8_activePlace : ByteArray := prog_10_method_5_code
def yX8_activePlace : MethodName := ⟨RX8, "activePlace", "()I"⟩
abbrev cX8_insertLetter : ByteArray := prog_10_method_6_code
def yX8_insertLetter : MethodName := ⟨RX8, "insertLetter", "(I)V"⟩
abbrev cX8_eraseLetter : ByteArray := prog_10_method_7_code
def yX8_eraseLetter : MethodName := ⟨RX8, "eraseLetter", "()I"⟩
abbrev cX8_freeCursor : ByteArray := prog_10_method_8_code
def yX8_freeCursor : MethodName := ⟨RX8, "freeCursor", "()I"⟩
abbrev cX8_packedOrder : ByteArray := prog_10_method_9_code
def yX8_packedOrder : MethodName := ⟨RX8, "packedOrder", "()I"⟩
abbrev cX8_chooseAgain : ByteArray := prog_10_method_10_code
def yX8_chooseAgain : MethodName := ⟨RX8, "chooseAgain", "(I)V"⟩
def RX9 : String := "Macroloom$World"
def TX9 : u_T := fun k => match k with
  | 0 => ("Macroloom$World", "zeroth", "LMacroloom$Text;", true)
  | 1 => ("Macroloom$World", "first", "LMacroloom$Text;", true)
  | 2 => ("Macroloom$World", "options", "LMacroloom$Row;", true)
  | 3 => ("Macroloom$World", "registers", "LMacroloom$Row;", true)
  | 4 => ("Macroloom$World", "bodies", "LMacroloom$Row;", true)
  | 5 => ("Macroloom$World", "parameters", "LMacroloom$Row;", true)
  | 6 => ("Macroloom$World", "standards", "LMacroloom$Row;", true)
  | 7 => ("Macroloom$World", "current", "I", false)
  | _ => ("Macroloom$World", "hooked", "I", false)
def tyX9 : Nat → FieldType := fun k => match k with
  | 0 => .object "Macroloom$Text"
  | 1 => .object "Macroloom$Text"
  | 2 => .object "Macroloom$Row"
  | 3 => .object "Macroloom$Row"
  | 4 => .object "Macroloom$Row"
  | 5 => .object "Macroloom$Row"
  | 6 => .object "Macroloom$Row"
  | 7 => .int
  | _ => .int
abbrev wsX90 : List Cond := u_ws RX9 TX9 9
theorem nmX9 : ∀ a, a < 9 → ∀ b, b < 9 → a ≠ b → (TX9 a).2.1 ≠ (TX9 b).2.1 := by decide +kernel
theorem tyX9_ok : ∀ k, k < 9 → parseFieldDescriptor (TX9 k).2.2.1 = some (tyX9 k) := by decide +kernel
abbrev cX9_init : ByteArray := prog_11_method_1_code
def yX9_init : MethodName := ⟨RX9, "<init>", "()V"⟩
abbrev cX9_textOf : ByteArray := prog_11_method_2_code
def yX9_textOf : MethodName := ⟨RX9, "textOf", "(I)LMacroloom$Text;"⟩
abbrev cX9_become : ByteArray := prog_11_method_3_code
def yX9_become : MethodName := ⟨RX9, "become", "(LMacroloom$World;)V"⟩
abbrev cX9_becomeButRegisters : ByteArray := prog_11_method_4_code
def yX9_becomeButRegisters : MethodName := ⟨RX9, "becomeButRegisters", "(LMacroloom$World;)V"⟩
def RX10 : String := "Macroloom"
def TX10 : u_T := fun k => match k with
  | 0 => ("Macroloom", "program", "LMacroloom$Program;", true)
  | 1 => ("Macroloom", "world", "LMacroloom$World;", true)
  | 2 => ("Macroloom", "last", "LMacroloom$Report;", true)
  | 3 => ("Macroloom", "draft", "LMacroloom$Report;", true)
  | 4 => ("Macroloom", "budget", "I", false)
  | _ => ("Macroloom", "machine", "LMacroloom$Machine;", false)
def tyX10 : Nat → FieldType := fun k => match k with
  | 0 => .object "Macroloom$Program"
  | 1 => .object "Macroloom$World"
  | 2 => .object "Macroloom$Report"
  | 3 => .object "Macroloom$Report"
  | 4 => .int
  | _ => .object "Macroloom$Machine"
abbrev wsX100 : List Cond := u_ws RX10 TX10 6
theorem nmX10 : ∀ a, a < 6 → ∀ b, b < 6 → a ≠ b → (TX10 a).2.1 ≠ (TX10 b).2.1 := by decide +kernel
theorem tyX10_ok : ∀ k, k < 6 → parseFieldDescriptor (TX10 k).2.2.1 = some (tyX10 k) := by decide +kernel
abbrev cX10_init : ByteArray := prog_1_method_1_code
def yX10_init : MethodName := ⟨RX10, "<init>", "()V"⟩
abbrev cX10_node : ByteArray := prog_1_method_2_code
def yX10_node : MethodName := ⟨RX10, "node", "(IIII)I"⟩
abbrev cX10_define : ByteArray := prog_1_method_3_code
def yX10_define : MethodName := ⟨RX10, "define", "(IIII)I"⟩
abbrev cX10_size : ByteArray := prog_1_method_4_code
def yX10_size : MethodName := ⟨RX10, "size", "(I)I"⟩
abbrev cX10_setOption : ByteArray := prog_1_method_5_code
def yX10_setOption : MethodName := ⟨RX10, "setOption", "(II)I"⟩
abbrev cX10_setBudget : ByteArray := prog_1_method_6_code
def yX10_setBudget : MethodName := ⟨RX10, "setBudget", "(I)I"⟩
abbrev cX10_write : ByteArray := prog_1_method_7_code
def yX10_write : MethodName := ⟨RX10, "write", "(II)I"⟩
abbrev cX10_run : ByteArray := prog_1_method_8_code
def yX10_run : MethodName := ⟨RX10, "run", "(I)I"⟩
abbrev cX10_tried : ByteArray := prog_1_method_9_code
def yX10_tried : MethodName := ⟨RX10, "tried", "(I)I"⟩
abbrev cX10_triedSteps : ByteArray := prog_1_method_10_code
def yX10_triedSteps : MethodName := ⟨RX10, "triedSteps", "(I)I"⟩
abbrev cX10_start : ByteArray := prog_1_method_11_code
def yX10_start : MethodName := ⟨RX10, "start", "(I)V"⟩
abbrev cX10_step : ByteArray := prog_1_method_12_code
def yX10_step : MethodName := ⟨RX10, "step", "(I)I"⟩
abbrev cX10_giveUp : ByteArray := prog_1_method_13_code
def yX10_giveUp : MethodName := ⟨RX10, "giveUp", "()I"⟩
abbrev cX10_breakAt : ByteArray := prog_1_method_14_code
def yX10_breakAt : MethodName := ⟨RX10, "breakAt", "(IZ)Z"⟩
abbrev cX10_next : ByteArray := prog_1_method_15_code
def yX10_next : MethodName := ⟨RX10, "next", "()I"⟩
abbrev cX10_look : ByteArray := prog_1_method_16_code
def yX10_look : MethodName := ⟨RX10, "look", "(I)I"⟩
abbrev cX10_active : ByteArray := prog_1_method_17_code
def yX10_active : MethodName := ⟨RX10, "active", "()I"⟩
abbrev cX10_outcome : ByteArray := prog_1_method_18_code
def yX10_outcome : MethodName := ⟨RX10, "outcome", "()I"⟩
abbrev cX10_steps : ByteArray := prog_1_method_19_code
def yX10_steps : MethodName := ⟨RX10, "steps", "()I"⟩
abbrev cX10_cause : ByteArray := prog_1_method_20_code
def yX10_cause : MethodName := ⟨RX10, "cause", "()I"⟩
abbrev cX10_traced : ByteArray := prog_1_method_21_code
def yX10_traced : MethodName := ⟨RX10, "traced", "()I"⟩
abbrev cX10_traceAt : ByteArray := prog_1_method_22_code
def yX10_traceAt : MethodName := ⟨RX10, "traceAt", "(I)I"⟩
abbrev cX10_buffer : ByteArray := prog_1_method_23_code
def yX10_buffer : MethodName := ⟨RX10, "buffer", "()I"⟩
abbrev cX10_length : ByteArray := prog_1_method_24_code
def yX10_length : MethodName := ⟨RX10, "length", "(I)I"⟩
abbrev cX10_letter : ByteArray := prog_1_method_25_code
def yX10_letter : MethodName := ⟨RX10, "letter", "(II)I"⟩
abbrev cX10_cursor : ByteArray := prog_1_method_26_code
def yX10_cursor : MethodName := ⟨RX10, "cursor", "(II)I"⟩
abbrev cX10_activeCursor : ByteArray := prog_1_method_27_code
def yX10_activeCursor : MethodName := ⟨RX10, "activeCursor", "(I)I"⟩
abbrev cX10_option : ByteArray := prog_1_method_28_code
def yX10_option : MethodName := ⟨RX10, "option", "(I)I"⟩
abbrev cX10_register : ByteArray := prog_1_method_29_code
def yX10_register : MethodName := ⟨RX10, "register", "(I)I"⟩
abbrev cX10_body : ByteArray := prog_1_method_30_code
def yX10_body : MethodName := ⟨RX10, "body", "(I)I"⟩
abbrev cX10_hook : ByteArray := prog_1_method_31_code
def yX10_hook : MethodName := ⟨RX10, "hook", "()I"⟩
abbrev cX10_isStepped : ByteArray := prog_1_method_32_code
def yX10_isStepped : MethodName := ⟨RX10, "isStepped", "()Z"⟩
abbrev cX10_steppedMachine : ByteArray := prog_1_method_33_code
def yX10_steppedMachine : MethodName := ⟨RX10, "steppedMachine", "()LMacroloom$Machine;"⟩
abbrev cX10_readyMachine : ByteArray := prog_1_method_34_code
def yX10_readyMachine : MethodName := ⟨RX10, "readyMachine", "()LMacroloom$Machine;"⟩
abbrev cX10_tryOut : ByteArray := prog_1_method_35_code
def yX10_tryOut : MethodName := ⟨RX10, "tryOut", "(I)LMacroloom$Report;"⟩
abbrev cX10_isBelow : ByteArray := prog_1_method_36_code
def yX10_isBelow : MethodName := ⟨RX10, "isBelow", "(II)Z"⟩
abbrev cX10_isNumber : ByteArray := prog_1_method_37_code
def yX10_isNumber : MethodName := ⟨RX10, "isNumber", "(I)Z"⟩
abbrev cX10_isAmount : ByteArray := prog_1_method_38_code
def yX10_isAmount : MethodName := ⟨RX10, "isAmount", "(I)Z"⟩
def RX11 : String := "MacroloomModel"
def TX11 : u_T := fun k => match k with
  | _ => ("", "", "", false)
def tyX11 : Nat → FieldType := fun k => match k with
  | _ => .int
abbrev wsX110 : List Cond := u_ws RX11 TX11 0
theorem nmX11 : ∀ a, a < 0 → ∀ b, b < 0 → a ≠ b → (TX11 a).2.1 ≠ (TX11 b).2.1 := by decide +kernel
theorem tyX11_ok : ∀ k, k < 0 → parseFieldDescriptor (TX11 k).2.2.1 = some (tyX11 k) := by decide +kernel
def RJ9 : String := "java/lang/Math"
abbrev cJ9_max_7cf53 : ByteArray := prog_18_method_65_code
def yJ9_max_7cf53 : MethodName := ⟨RJ9, "max", "(II)I"⟩
abbrev cJ9_min_7cf53 : ByteArray := prog_18_method_69_code
def yJ9_min_7cf53 : MethodName := ⟨RJ9, "min", "(II)I"⟩
def RJ0 : String := "java/lang/String"
abbrev cJ0_length_8abf5 : ByteArray := prog_20_method_54_code
def yJ0_length_8abf5 : MethodName := ⟨RJ0, "length", "()I"⟩
abbrev cJ0_charAt_5068e : ByteArray := prog_20_method_56_code
def yJ0_charAt_5068e : MethodName := ⟨RJ0, "charAt", "(I)C"⟩
abbrev cJ0_coder_7d493 : ByteArray := prog_20_method_152_code
def yJ0_coder_7d493 : MethodName := ⟨RJ0, "coder", "()B"⟩
abbrev cJ0_isLatin1_aae02 : ByteArray := prog_20_method_154_code
def yJ0_isLatin1_aae02 : MethodName := ⟨RJ0, "isLatin1", "()Z"⟩
abbrev cJ0_checkIndex_df160 : ByteArray := prog_20_method_155_code
def yJ0_checkIndex_df160 : MethodName := ⟨RJ0, "checkIndex", "(II)V"⟩
def RJ1 : String := "java/lang/StringLatin1"
abbrev cJ1_charAt_3b067 : ByteArray := prog_21_method_2_code
def yJ1_charAt_3b067 : MethodName := ⟨RJ1, "charAt", "([BI)C"⟩
def RJ2 : String := "java/lang/StringUTF16"
abbrev cJ2_getChar_3b067 : ByteArray := prog_22_method_5_code
def yJ2_getChar_3b067 : MethodName := ⟨RJ2, "getChar", "([BI)C"⟩
abbrev cJ2_length_9d52b : ByteArray := prog_22_method_6_code
def yJ2_length_9d52b : MethodName := ⟨RJ2, "length", "([B)I"⟩
abbrev cJ2_charAt_3b067 : ByteArray := prog_22_method_83_code
def yJ2_charAt_3b067 : MethodName := ⟨RJ2, "charAt", "([BI)C"⟩
abbrev cJ2_checkIndex_2214a : ByteArray := prog_22_method_91_code
def yJ2_checkIndex_2214a : MethodName := ⟨RJ2, "checkIndex", "(I[B)V"⟩
def RJ10 : String := "java/lang/System"
def RJ7 : String := "java/util/Arrays"
abbrev cJ7_fill_53178 : ByteArray := prog_25_method_103_code
def yJ7_fill_53178 : MethodName := ⟨RJ7, "fill", "([II)V"⟩
def RJ3 : String := "jdk/internal/util/Preconditions"
abbrev cJ3_checkIndex_8e157 : ByteArray := prog_26_method_11_code
def yJ3_checkIndex_8e157 : MethodName := ⟨RJ3, "checkIndex", "(IILjava/util/function/BiFunction;)I"⟩
def RL : String := "MacroloomLaw"
abbrev cL_at : ByteArray := method_2_code
def yL_at : MethodName := ⟨RL, "at", "([II)I"⟩
abbrev cL_low : ByteArray := method_3_code
def yL_low : MethodName := ⟨RL, "low", "(II)I"⟩
abbrev cL_node : ByteArray := method_4_code
def yL_node : MethodName := ⟨RL, "node", "(LMacroloom;IIII)I"⟩
abbrev cL_define : ByteArray := method_5_code
def yL_define : MethodName := ⟨RL, "define", "(LMacroloom;IIII)I"⟩
abbrev cL_size : ByteArray := method_6_code
def yL_size : MethodName := ⟨RL, "size", "(LMacroloom;I)I"⟩
abbrev cL_setOption : ByteArray := method_7_code
def yL_setOption : MethodName := ⟨RL, "setOption", "(LMacroloom;II)I"⟩
abbrev cL_setBudget : ByteArray := method_8_code
def yL_setBudget : MethodName := ⟨RL, "setBudget", "(LMacroloom;I)I"⟩
abbrev cL_write : ByteArray := method_9_code
def yL_write : MethodName := ⟨RL, "write", "(LMacroloom;II)I"⟩
abbrev cL_run : ByteArray := method_10_code
def yL_run : MethodName := ⟨RL, "run", "(LMacroloom;I)I"⟩
abbrev cL_tried : ByteArray := method_11_code
def yL_tried : MethodName := ⟨RL, "tried", "(LMacroloom;I)I"⟩
abbrev cL_triedSteps : ByteArray := method_12_code
def yL_triedSteps : MethodName := ⟨RL, "triedSteps", "(LMacroloom;I)I"⟩
abbrev cL_start : ByteArray := method_13_code
def yL_start : MethodName := ⟨RL, "start", "(LMacroloom;I)I"⟩
abbrev cL_step : ByteArray := method_14_code
def yL_step : MethodName := ⟨RL, "step", "(LMacroloom;I)I"⟩
abbrev cL_giveUp : ByteArray := method_15_code
def yL_giveUp : MethodName := ⟨RL, "giveUp", "(LMacroloom;)I"⟩
abbrev cL_breakAt : ByteArray := method_16_code
def yL_breakAt : MethodName := ⟨RL, "breakAt", "(LMacroloom;IZ)I"⟩
abbrev cL_look : ByteArray := method_17_code
def yL_look : MethodName := ⟨RL, "look", "(LMacroloom;I)I"⟩
abbrev cL_traceAt : ByteArray := method_18_code
def yL_traceAt : MethodName := ⟨RL, "traceAt", "(LMacroloom;I)I"⟩
abbrev cL_length : ByteArray := method_19_code
def yL_length : MethodName := ⟨RL, "length", "(LMacroloom;I)I"⟩
abbrev cL_letter : ByteArray := method_20_code
def yL_letter : MethodName := ⟨RL, "letter", "(LMacroloom;II)I"⟩
abbrev cL_cursor : ByteArray := method_21_code
def yL_cursor : MethodName := ⟨RL, "cursor", "(LMacroloom;II)I"⟩
abbrev cL_activeCursor : ByteArray := method_22_code
def yL_activeCursor : MethodName := ⟨RL, "activeCursor", "(LMacroloom;I)I"⟩
abbrev cL_option : ByteArray := method_23_code
def yL_option : MethodName := ⟨RL, "option", "(LMacroloom;I)I"⟩
abbrev cL_register : ByteArray := method_24_code
def yL_register : MethodName := ⟨RL, "register", "(LMacroloom;I)I"⟩
abbrev cL_body : ByteArray := method_25_code
def yL_body : MethodName := ⟨RL, "body", "(LMacroloom;I)I"⟩
abbrev cL_part : ByteArray := method_26_code
def yL_part : MethodName := ⟨RL, "part", "([II)I"⟩
abbrev cL_firstOf : ByteArray := method_27_code
def yL_firstOf : MethodName := ⟨RL, "firstOf", "(I[II)I"⟩
abbrev cL_hasSecond : ByteArray := method_28_code
def yL_hasSecond : MethodName := ⟨RL, "hasSecond", "(I)Z"⟩
abbrev cL_makes : ByteArray := method_29_code
def yL_makes : MethodName := ⟨RL, "makes", "(LMacroloom;[I[III)Z"⟩
abbrev cL_notes : ByteArray := method_30_code
def yL_notes : MethodName := ⟨RL, "notes", "(LMacroloom;[I)Z"⟩
abbrev cL_letters : ByteArray := method_31_code
def yL_letters : MethodName := ⟨RL, "letters", "(LMacroloom;[IZ)Z"⟩
abbrev cL_same : ByteArray := method_32_code
def yL_same : MethodName := ⟨RL, "same", "(LMacroloom;[I[I)Z"⟩
abbrev cL_isOutcome : ByteArray := method_33_code
def yL_isOutcome : MethodName := ⟨RL, "isOutcome", "(I)Z"⟩
abbrev cL_told : ByteArray := method_34_code
def yL_told : MethodName := ⟨RL, "told", "(LMacroloom;[I)Z"⟩
abbrev cL_runs : ByteArray := method_35_code
def yL_runs : MethodName := ⟨RL, "runs", "(LMacroloom;[I[I[IIZI)Z"⟩
abbrev cL_budgets : ByteArray := method_36_code
def yL_budgets : MethodName := ⟨RL, "budgets", "(LMacroloom;[II)Z"⟩
abbrev cL_gives : ByteArray := method_37_code
def yL_gives : MethodName := ⟨RL, "gives", "(LMacroloom;[I[I[III)Z"⟩
abbrev cL_acts : ByteArray := method_38_code
def yL_acts : MethodName := ⟨RL, "acts", "(LMacroloom;[I[I[I[III)Z"⟩
abbrev cL_law : ByteArray := code
def yL_law : MethodName := ⟨RL, "law", "([I)Z"⟩
abbrev vwCl : List vw_C := [(RX0, TX0, 3), (RX1, TX1, 11), (RX2, TX2, 20), (RX3, TX3, 7), (RX4, TX4, 8), (RX5, TX5, 5), (RX6, TX6, 1), (RX7, TX7, 3), (RX8, TX8, 4), (RX9, TX9, 9), (RX10, TX10, 6)]
/-! the one list of words -/
def GW : List Cond := lw_tbl.filter goodWord
theorem gw_of {w : Cond} (h : w ∈ lw_tbl) (g : goodWord w = true) : w ∈ GW := List.mem_filter.mpr ⟨h, g⟩
theorem gw_tbl {w : Cond} (h : w ∈ GW) : w ∈ lw_tbl := (List.mem_filter.mp h).1
theorem gw_good {w : Cond} (h : w ∈ GW) : goodWord w = true := (List.mem_filter.mp h).2
theorem gw_t {w : Cond} (h : w ∈ tables_1) (g : goodWord w = true) : w ∈ GW := gw_of (List.mem_append_right _ h) g
theorem tb1 {w : Cond} (h : w ∈ tables_1_1) : w ∈ tables_1 := List.mem_append_left _ h
theorem tb2 {w : Cond} (h : w ∈ tables_1_2) : w ∈ tables_1 := List.mem_append_right _ (List.mem_append_left _ h)
theorem tb3 {w : Cond} (h : w ∈ tables_1_3) : w ∈ tables_1 := List.mem_append_right _ (List.mem_append_right _ (List.mem_append_left _ h))
theorem tb4 {w : Cond} (h : w ∈ tables_1_4) : w ∈ tables_1 := List.mem_append_right _ (List.mem_append_right _ (List.mem_append_right _ (List.mem_append_left _ h)))
theorem tb5 {w : Cond} (h : w ∈ tables_1_5) : w ∈ tables_1 := List.mem_append_right _ (List.mem_append_right _ (List.mem_append_right _ (List.mem_append_right _ (List.mem_append_left _ h))))
theorem tb6 {w : Cond} (h : w ∈ tables_1_6) : w ∈ tables_1 := List.mem_append_right _ (List.mem_append_right _ (List.mem_append_right _ (List.mem_append_right _ (List.mem_append_right _ h))))
theorem pv_sel {q : MethodName × Nat} (h : q ∈ lw_privs) (g : goodWord (Cond.selects q.1.cls q.1 q.1) = true) : Cond.selects q.1.cls q.1 q.1 ∈ GW := gw_of (List.mem_append_left _ (List.mem_map.mpr ⟨q, h, rfl⟩)) g
theorem pv1 {q : MethodName × Nat} (h : q ∈ lw_privs_1) : q ∈ lw_privs := List.mem_append_left _ h
theorem pv2 {q : MethodName × Nat} (h : q ∈ lw_privs_2) : q ∈ lw_privs := List.mem_append_right _ (List.mem_append_left _ h)
theorem pv3 {q : MethodName × Nat} (h : q ∈ lw_privs_3) : q ∈ lw_privs := List.mem_append_right _ (List.mem_append_right _ (List.mem_append_left _ h))
theorem pv4 {q : MethodName × Nat} (h : q ∈ lw_privs_4) : q ∈ lw_privs := List.mem_append_right _ (List.mem_append_right _ (List.mem_append_right _ h))
/-- all words of a kind of a class -/
theorem gw_list {L : List Cond} (ps : List (Nat × Nat)) (hp : ∀ w ∈ L, goodWord w = true) (h : L = ps.filterMap (fun q => ([tables_1_1, tables_1_2, tables_1_3, tables_1_4, tables_1_5, tables_1_6][q.1]?).bind (fun t => t[q.2]?))) : ∀ w ∈ L, w ∈ GW := by
  intro w hw
  have g := hp w hw
  rw [h] at hw
  obtain ⟨q, -, hq⟩ := List.mem_filterMap.mp hw
  obtain ⟨k, i⟩ := q
  refine gw_t ?_ g
  match k, hq with
  | 0, hq => exact tb1 (List.mem_of_getElem? hq)
  | 1, hq => exact tb2 (List.mem_of_getElem? hq)
  | 2, hq => exact tb3 (List.mem_of_getElem? hq)
  | 3, hq => exact tb4 (List.mem_of_getElem? hq)
  | 4, hq => exact tb5 (List.mem_of_getElem? hq)
  | 5, hq => exact tb6 (List.mem_of_getElem? hq)
  | k + 6, hq => simp at hq
def gwV (y : MethodName) (cc : ByteArray) (nL : Nat) (ret : Option FieldType) (C : String) (n : Nat) : Prop := Cond.code y cc nL ret ∈ GW ∧ Cond.instanceMethod y ∈ GW ∧ Cond.selects C y y ∈ GW ∧ Cond.initialized y.cls ∈ GW ∧ (y.cls = C ∧ y.cls ≠ "java/lang/invoke/MethodHandle" ∧ y.cls ≠ "java/lang/invoke/VarHandle" ∧ (parseMethodDescriptor y.desc).map (fun d => d.parameters.length) = some n)
def gwS (y : MethodName) (cc : ByteArray) (nL : Nat) (ret : Option FieldType) (n : Nat) : Prop := Cond.code y cc nL ret ∈ GW ∧ Cond.static y ∈ GW ∧ Cond.initialized y.cls ∈ GW ∧ (y.cls ≠ "java/lang/invoke/MethodHandle" ∧ y.cls ≠ "java/lang/invoke/VarHandle" ∧ (parseMethodDescriptor y.desc).map (fun d => d.parameters.length) = some n)
def gwI (y : MethodName) (cc : ByteArray) (nL : Nat) (n : Nat) : Prop := Cond.code y cc nL none ∈ GW ∧ Cond.instanceMethod y ∈ GW ∧ Cond.initialized y.cls ∈ GW ∧ y.name = "<init>" ∧ (y.cls ≠ "java/lang/invoke/MethodHandle" ∧ y.cls ≠ "java/lang/invoke/VarHandle" ∧ (parseMethodDescriptor y.desc).map (fun d => d.parameters.length) = some n)

theorem mI_L : Cond.initialized RL ∈ GW := gw_t (tb1 (List.mem_of_getElem? (i := 0) rfl)) rfl
theorem mI_X10 : Cond.initialized RX10 ∈ GW := gw_t (tb1 (List.mem_of_getElem? (i := 1) rfl)) rfl
theorem mI_X4 : Cond.initialized RX4 ∈ GW := gw_t (tb1 (List.mem_of_getElem? (i := 2) rfl)) rfl
theorem mI_X6 : Cond.initialized RX6 ∈ GW := gw_t (tb1 (List.mem_of_getElem? (i := 3) rfl)) rfl
theorem mI_J9 : Cond.initialized RJ9 ∈ GW := gw_t (tb1 (List.mem_of_getElem? (i := 4) rfl)) rfl
theorem mI_J7 : Cond.initialized RJ7 ∈ GW := gw_t (tb1 (List.mem_of_getElem? (i := 5) rfl)) rfl
theorem mI_X0 : Cond.initialized RX0 ∈ GW := gw_t (tb1 (List.mem_of_getElem? (i := 6) rfl)) rfl
theorem mI_X9 : Cond.initialized RX9 ∈ GW := gw_t (tb1 (List.mem_of_getElem? (i := 7) rfl)) rfl
theorem mI_X8 : Cond.initialized RX8 ∈ GW := gw_t (tb1 (List.mem_of_getElem? (i := 8) rfl)) rfl
theorem mI_X5 : Cond.initialized RX5 ∈ GW := gw_t (tb1 (List.mem_of_getElem? (i := 9) rfl)) rfl
theorem mI_java_lang_Throwable : Cond.initialized "java/lang/Throwable" ∈ GW := gw_t (tb1 (List.mem_of_getElem? (i := 10) rfl)) rfl
theorem mI_java_lang_Exception : Cond.initialized "java/lang/Exception" ∈ GW := gw_t (tb1 (List.mem_of_getElem? (i := 11) rfl)) rfl
theorem mI_java_lang_RuntimeException : Cond.initialized "java/lang/RuntimeException" ∈ GW := gw_t (tb1 (List.mem_of_getElem? (i := 12) rfl)) rfl
theorem mI_java_lang_IndexOutOfBoundsException : Cond.initialized "java/lang/IndexOutOfBoundsException" ∈ GW := gw_t (tb1 (List.mem_of_getElem? (i := 13) rfl)) rfl
theorem mI_J0 : Cond.initialized RJ0 ∈ GW := gw_t (tb1 (List.mem_of_getElem? (i := 14) rfl)) rfl
theorem mI_J1 : Cond.initialized RJ1 ∈ GW := gw_t (tb1 (List.mem_of_getElem? (i := 15) rfl)) rfl
theorem mI_J3 : Cond.initialized RJ3 ∈ GW := gw_t (tb1 (List.mem_of_getElem? (i := 16) rfl)) rfl
theorem mI_J2 : Cond.initialized RJ2 ∈ GW := gw_t (tb1 (List.mem_of_getElem? (i := 17) rfl)) rfl
theorem mI_java_lang_IllegalArgumentException : Cond.initialized "java/lang/IllegalArgumentException" ∈ GW := gw_t (tb1 (List.mem_of_getElem? (i := 18) rfl)) rfl
theorem mI_java_lang_IllegalStateException : Cond.initialized "java/lang/IllegalStateException" ∈ GW := gw_t (tb1 (List.mem_of_getElem? (i := 19) rfl)) rfl
theorem mI_X2 : Cond.initialized RX2 ∈ GW := gw_t (tb1 (List.mem_of_getElem? (i := 20) rfl)) rfl
theorem mI_X1 : Cond.initialized RX1 ∈ GW := gw_t (tb1 (List.mem_of_getElem? (i := 21) rfl)) rfl
theorem mI_X7 : Cond.initialized RX7 ∈ GW := gw_t (tb1 (List.mem_of_getElem? (i := 22) rfl)) rfl
theorem mI_X3 : Cond.initialized RX3 ∈ GW := gw_t (tb1 (List.mem_of_getElem? (i := 23) rfl)) rfl
theorem mI_J10 : Cond.initialized RJ10 ∈ GW := gw_t (tb1 (List.mem_of_getElem? (i := 24) rfl)) rfl
theorem mC_L_11 : Cond.classLink RL 11 RX10 ∈ GW := gw_t (tb1 (List.mem_of_getElem? (i := 25) rfl)) rfl
theorem mN_X10 : Cond.instantiable RX10 6 ∈ GW := gw_t (tb1 (List.mem_of_getElem? (i := 26) rfl)) rfl
theorem mM_L_224 : Cond.methodLink RL 224 yX10_init ∈ GW := gw_t (tb1 (List.mem_of_getElem? (i := 27) rfl)) rfl
theorem mM_X10_3 : Cond.methodLink RX10 3 ⟨"java/lang/Object", "<init>", "()V"⟩ ∈ GW := gw_t (tb1 (List.mem_of_getElem? (i := 30) rfl)) rfl
theorem mC_X10_9 : Cond.classLink RX10 9 RX4 ∈ GW := gw_t (tb1 (List.mem_of_getElem? (i := 33) rfl)) rfl
theorem mN_X4 : Cond.instantiable RX4 8 ∈ GW := gw_t (tb1 (List.mem_of_getElem? (i := 34) rfl)) rfl
theorem mM_X4_3 : Cond.methodLink RX4 3 ⟨"java/lang/Object", "<init>", "()V"⟩ ∈ GW := gw_t (tb1 (List.mem_of_getElem? (i := 38) rfl)) rfl
theorem mC_X4_9 : Cond.classLink RX4 9 RX6 ∈ GW := gw_t (tb1 (List.mem_of_getElem? (i := 39) rfl)) rfl
theorem mN_X6 : Cond.instantiable RX6 1 ∈ GW := gw_t (tb1 (List.mem_of_getElem? (i := 40) rfl)) rfl
theorem mM_X4_11 : Cond.methodLink RX4 11 yX6_init ∈ GW := gw_t (tb1 (List.mem_of_getElem? (i := 41) rfl)) rfl
theorem mM_X6_3 : Cond.methodLink RX6 3 ⟨"java/lang/Object", "<init>", "()V"⟩ ∈ GW := gw_t (tb1 (List.mem_of_getElem? (i := 44) rfl)) rfl
theorem mM_X6_9 : Cond.methodLink RX6 9 yJ9_max_7cf53 ∈ GW := gw_t (tb1 (List.mem_of_getElem? (i := 45) rfl)) rfl
theorem mM_X6_21 : Cond.methodLink RX6 21 yJ7_fill_53178 ∈ GW := gw_t (tb1 (List.mem_of_getElem? (i := 48) rfl)) rfl
theorem mF_X6_15 : Cond.fieldLink RX6 15 "Macroloom$Row" "cells" "[I" ∈ GW := gw_t (tb1 (List.mem_of_getElem? (i := 51) rfl)) rfl
theorem mA_int : Cond.arrayClass .int ∈ GW := gw_t (tb1 (List.mem_of_getElem? (i := 55) rfl)) rfl
theorem mC_X4_35 : Cond.classLink RX4 35 RX0 ∈ GW := gw_t (tb1 (List.mem_of_getElem? (i := 56) rfl)) rfl
theorem mN_X0 : Cond.instantiable RX0 3 ∈ GW := gw_t (tb1 (List.mem_of_getElem? (i := 57) rfl)) rfl
theorem mM_X0_3 : Cond.methodLink RX0 3 ⟨"java/lang/Object", "<init>", "()V"⟩ ∈ GW := gw_t (tb1 (List.mem_of_getElem? (i := 61) rfl)) rfl
theorem mC_X0_9 : Cond.classLink RX0 9 RX6 ∈ GW := gw_t (tb1 (List.mem_of_getElem? (i := 62) rfl)) rfl
theorem mM_X0_11 : Cond.methodLink RX0 11 yX6_init ∈ GW := gw_t (tb1 (List.mem_of_getElem? (i := 63) rfl)) rfl
theorem mF_X0_14 : Cond.fieldLink RX0 14 "Macroloom$Code" "works" "LMacroloom$Row;" ∈ GW := gw_t (tb1 (List.mem_of_getElem? (i := 64) rfl)) rfl
theorem mF_X2_134 : Cond.fieldLink RX2 134 "Macroloom$Code" "works" "LMacroloom$Row;" ∈ GW := gw_t (tb1 (List.mem_of_getElem? (i := 65) rfl)) rfl
theorem mF_X0_20 : Cond.fieldLink RX0 20 "Macroloom$Code" "details" "LMacroloom$Row;" ∈ GW := gw_t (tb1 (List.mem_of_getElem? (i := 66) rfl)) rfl
theorem mF_X2_139 : Cond.fieldLink RX2 139 "Macroloom$Code" "details" "LMacroloom$Row;" ∈ GW := gw_t (tb1 (List.mem_of_getElem? (i := 67) rfl)) rfl
theorem mF_X0_23 : Cond.fieldLink RX0 23 "Macroloom$Code" "used" "I" ∈ GW := gw_t (tb1 (List.mem_of_getElem? (i := 68) rfl)) rfl
theorem mF_X4_14 : Cond.fieldLink RX4 14 "Macroloom$Program" "kinds" "LMacroloom$Row;" ∈ GW := gw_t (tb1 (List.mem_of_getElem? (i := 76) rfl)) rfl
theorem mF_X2_377 : Cond.fieldLink RX2 377 "Macroloom$Program" "kinds" "LMacroloom$Row;" ∈ GW := gw_t (tb1 (List.mem_of_getElem? (i := 77) rfl)) rfl
theorem mF_X4_20 : Cond.fieldLink RX4 20 "Macroloom$Program" "firsts" "LMacroloom$Row;" ∈ GW := gw_t (tb1 (List.mem_of_getElem? (i := 78) rfl)) rfl
theorem mF_X2_380 : Cond.fieldLink RX2 380 "Macroloom$Program" "firsts" "LMacroloom$Row;" ∈ GW := gw_t (tb1 (List.mem_of_getElem? (i := 79) rfl)) rfl
theorem mF_X4_23 : Cond.fieldLink RX4 23 "Macroloom$Program" "seconds" "LMacroloom$Row;" ∈ GW := gw_t (tb1 (List.mem_of_getElem? (i := 80) rfl)) rfl
theorem mF_X2_392 : Cond.fieldLink RX2 392 "Macroloom$Program" "seconds" "LMacroloom$Row;" ∈ GW := gw_t (tb1 (List.mem_of_getElem? (i := 81) rfl)) rfl
theorem mF_X4_26 : Cond.fieldLink RX4 26 "Macroloom$Program" "sizes" "LMacroloom$Row;" ∈ GW := gw_t (tb1 (List.mem_of_getElem? (i := 82) rfl)) rfl
theorem mF_X10_106 : Cond.fieldLink RX10 106 "Macroloom$Program" "sizes" "LMacroloom$Row;" ∈ GW := gw_t (tb1 (List.mem_of_getElem? (i := 83) rfl)) rfl
theorem mF_X4_29 : Cond.fieldLink RX4 29 "Macroloom$Program" "breaks" "LMacroloom$Row;" ∈ GW := gw_t (tb1 (List.mem_of_getElem? (i := 84) rfl)) rfl
theorem mF_X2_109 : Cond.fieldLink RX2 109 "Macroloom$Program" "breaks" "LMacroloom$Row;" ∈ GW := gw_t (tb1 (List.mem_of_getElem? (i := 85) rfl)) rfl
theorem mF_X10_176 : Cond.fieldLink RX10 176 "Macroloom$Program" "breaks" "LMacroloom$Row;" ∈ GW := gw_t (tb1 (List.mem_of_getElem? (i := 86) rfl)) rfl
theorem mF_X4_32 : Cond.fieldLink RX4 32 "Macroloom$Program" "entries" "LMacroloom$Row;" ∈ GW := gw_t (tb1 (List.mem_of_getElem? (i := 87) rfl)) rfl
theorem mF_X2_206 : Cond.fieldLink RX2 206 "Macroloom$Program" "entries" "LMacroloom$Row;" ∈ GW := gw_t (tb1 (List.mem_of_getElem? (i := 88) rfl)) rfl
theorem mF_X4_38 : Cond.fieldLink RX4 38 "Macroloom$Program" "code" "LMacroloom$Code;" ∈ GW := gw_t (tb1 (List.mem_of_getElem? (i := 89) rfl)) rfl
theorem mF_X2_130 : Cond.fieldLink RX2 130 "Macroloom$Program" "code" "LMacroloom$Code;" ∈ GW := gw_t (tb1 (List.mem_of_getElem? (i := 90) rfl)) rfl
theorem mF_X4_42 : Cond.fieldLink RX4 42 "Macroloom$Program" "count" "I" ∈ GW := gw_t (tb1 (List.mem_of_getElem? (i := 91) rfl)) rfl
theorem mC_X10_16 : Cond.classLink RX10 16 RX9 ∈ GW := gw_t (tb1 (List.mem_of_getElem? (i := 109) rfl)) rfl
theorem mN_X9 : Cond.instantiable RX9 9 ∈ GW := gw_t (tb1 (List.mem_of_getElem? (i := 110) rfl)) rfl
theorem mM_X9_3 : Cond.methodLink RX9 3 ⟨"java/lang/Object", "<init>", "()V"⟩ ∈ GW := gw_t (tb1 (List.mem_of_getElem? (i := 114) rfl)) rfl
theorem mC_X9_9 : Cond.classLink RX9 9 RX8 ∈ GW := gw_t (tb1 (List.mem_of_getElem? (i := 115) rfl)) rfl
theorem mN_X8 : Cond.instantiable RX8 4 ∈ GW := gw_t (tb1 (List.mem_of_getElem? (i := 116) rfl)) rfl
theorem mM_X9_11 : Cond.methodLink RX9 11 yX8_init ∈ GW := gw_t (tb1 (List.mem_of_getElem? (i := 117) rfl)) rfl
theorem mM_X8_3 : Cond.methodLink RX8 3 ⟨"java/lang/Object", "<init>", "()V"⟩ ∈ GW := gw_t (tb1 (List.mem_of_getElem? (i := 120) rfl)) rfl
theorem mC_X8_9 : Cond.classLink RX8 9 RX6 ∈ GW := gw_t (tb1 (List.mem_of_getElem? (i := 121) rfl)) rfl
theorem mM_X8_11 : Cond.methodLink RX8 11 yX6_init ∈ GW := gw_t (tb1 (List.mem_of_getElem? (i := 122) rfl)) rfl
theorem mM_X8_23 : Cond.methodLink RX8 23 yX6_put ∈ GW := gw_t (tb1 (List.mem_of_getElem? (i := 123) rfl)) rfl
theorem mF_X8_14 : Cond.fieldLink RX8 14 "Macroloom$Text" "letters" "LMacroloom$Row;" ∈ GW := gw_t (tb1 (List.mem_of_getElem? (i := 127) rfl)) rfl
theorem mF_X2_329 : Cond.fieldLink RX2 329 "Macroloom$Text" "letters" "LMacroloom$Row;" ∈ GW := gw_t (tb1 (List.mem_of_getElem? (i := 128) rfl)) rfl
theorem mF_X10_204 : Cond.fieldLink RX10 204 "Macroloom$Text" "letters" "LMacroloom$Row;" ∈ GW := gw_t (tb1 (List.mem_of_getElem? (i := 129) rfl)) rfl
theorem mF_X8_20 : Cond.fieldLink RX8 20 "Macroloom$Text" "places" "LMacroloom$Row;" ∈ GW := gw_t (tb1 (List.mem_of_getElem? (i := 130) rfl)) rfl
theorem mF_X10_209 : Cond.fieldLink RX10 209 "Macroloom$Text" "places" "LMacroloom$Row;" ∈ GW := gw_t (tb1 (List.mem_of_getElem? (i := 131) rfl)) rfl
theorem mF_X2_433 : Cond.fieldLink RX2 433 "Macroloom$Text" "places" "LMacroloom$Row;" ∈ GW := gw_t (tb1 (List.mem_of_getElem? (i := 132) rfl)) rfl
theorem mF_X8_30 : Cond.fieldLink RX8 30 "Macroloom$Text" "count" "I" ∈ GW := gw_t (tb1 (List.mem_of_getElem? (i := 133) rfl)) rfl
theorem mF_X10_132 : Cond.fieldLink RX10 132 "Macroloom$Text" "count" "I" ∈ GW := gw_t (tb1 (List.mem_of_getElem? (i := 134) rfl)) rfl
theorem mF_X2_328 : Cond.fieldLink RX2 328 "Macroloom$Text" "count" "I" ∈ GW := gw_t (tb1 (List.mem_of_getElem? (i := 135) rfl)) rfl
theorem mF_X8_34 : Cond.fieldLink RX8 34 "Macroloom$Text" "chosen" "I" ∈ GW := gw_t (tb1 (List.mem_of_getElem? (i := 136) rfl)) rfl
theorem mF_X2_338 : Cond.fieldLink RX2 338 "Macroloom$Text" "chosen" "I" ∈ GW := gw_t (tb1 (List.mem_of_getElem? (i := 137) rfl)) rfl
theorem mF_X10_212 : Cond.fieldLink RX10 212 "Macroloom$Text" "chosen" "I" ∈ GW := gw_t (tb1 (List.mem_of_getElem? (i := 138) rfl)) rfl
theorem mC_X9_21 : Cond.classLink RX9 21 RX6 ∈ GW := gw_t (tb1 (List.mem_of_getElem? (i := 148) rfl)) rfl
theorem mM_X9_23 : Cond.methodLink RX9 23 yX6_init ∈ GW := gw_t (tb1 (List.mem_of_getElem? (i := 149) rfl)) rfl
theorem mF_X9_12 : Cond.fieldLink RX9 12 "Macroloom$World" "zeroth" "LMacroloom$Text;" ∈ GW := gw_t (tb1 (List.mem_of_getElem? (i := 150) rfl)) rfl
theorem mF_X9_18 : Cond.fieldLink RX9 18 "Macroloom$World" "first" "LMacroloom$Text;" ∈ GW := gw_t (tb1 (List.mem_of_getElem? (i := 151) rfl)) rfl
theorem mF_X9_26 : Cond.fieldLink RX9 26 "Macroloom$World" "options" "LMacroloom$Row;" ∈ GW := gw_t (tb1 (List.mem_of_getElem? (i := 152) rfl)) rfl
theorem mF_X10_116 : Cond.fieldLink RX10 116 "Macroloom$World" "options" "LMacroloom$Row;" ∈ GW := gw_t (tb1 (List.mem_of_getElem? (i := 153) rfl)) rfl
theorem mF_X2_236 : Cond.fieldLink RX2 236 "Macroloom$World" "options" "LMacroloom$Row;" ∈ GW := gw_t (tb1 (List.mem_of_getElem? (i := 154) rfl)) rfl
theorem mF_X9_30 : Cond.fieldLink RX9 30 "Macroloom$World" "registers" "LMacroloom$Row;" ∈ GW := gw_t (tb1 (List.mem_of_getElem? (i := 155) rfl)) rfl
theorem mF_X10_217 : Cond.fieldLink RX10 217 "Macroloom$World" "registers" "LMacroloom$Row;" ∈ GW := gw_t (tb1 (List.mem_of_getElem? (i := 156) rfl)) rfl
theorem mF_X2_420 : Cond.fieldLink RX2 420 "Macroloom$World" "registers" "LMacroloom$Row;" ∈ GW := gw_t (tb1 (List.mem_of_getElem? (i := 157) rfl)) rfl
theorem mF_X9_33 : Cond.fieldLink RX9 33 "Macroloom$World" "bodies" "LMacroloom$Row;" ∈ GW := gw_t (tb1 (List.mem_of_getElem? (i := 158) rfl)) rfl
theorem mF_X10_86 : Cond.fieldLink RX10 86 "Macroloom$World" "bodies" "LMacroloom$Row;" ∈ GW := gw_t (tb1 (List.mem_of_getElem? (i := 159) rfl)) rfl
theorem mF_X2_248 : Cond.fieldLink RX2 248 "Macroloom$World" "bodies" "LMacroloom$Row;" ∈ GW := gw_t (tb1 (List.mem_of_getElem? (i := 160) rfl)) rfl
theorem mF_X9_36 : Cond.fieldLink RX9 36 "Macroloom$World" "parameters" "LMacroloom$Row;" ∈ GW := gw_t (tb1 (List.mem_of_getElem? (i := 161) rfl)) rfl
theorem mF_X10_100 : Cond.fieldLink RX10 100 "Macroloom$World" "parameters" "LMacroloom$Row;" ∈ GW := gw_t (tb1 (List.mem_of_getElem? (i := 162) rfl)) rfl
theorem mF_X2_395 : Cond.fieldLink RX2 395 "Macroloom$World" "parameters" "LMacroloom$Row;" ∈ GW := gw_t (tb1 (List.mem_of_getElem? (i := 163) rfl)) rfl
theorem mF_X9_39 : Cond.fieldLink RX9 39 "Macroloom$World" "standards" "LMacroloom$Row;" ∈ GW := gw_t (tb1 (List.mem_of_getElem? (i := 164) rfl)) rfl
theorem mF_X10_103 : Cond.fieldLink RX10 103 "Macroloom$World" "standards" "LMacroloom$Row;" ∈ GW := gw_t (tb1 (List.mem_of_getElem? (i := 165) rfl)) rfl
theorem mF_X2_398 : Cond.fieldLink RX2 398 "Macroloom$World" "standards" "LMacroloom$Row;" ∈ GW := gw_t (tb1 (List.mem_of_getElem? (i := 166) rfl)) rfl
theorem mF_X9_57 : Cond.fieldLink RX9 57 "Macroloom$World" "current" "I" ∈ GW := gw_t (tb1 (List.mem_of_getElem? (i := 167) rfl)) rfl
theorem mF_X2_307 : Cond.fieldLink RX2 307 "Macroloom$World" "current" "I" ∈ GW := gw_t (tb1 (List.mem_of_getElem? (i := 168) rfl)) rfl
theorem mF_X10_199 : Cond.fieldLink RX10 199 "Macroloom$World" "current" "I" ∈ GW := gw_t (tb1 (List.mem_of_getElem? (i := 169) rfl)) rfl
theorem mF_X9_42 : Cond.fieldLink RX9 42 "Macroloom$World" "hooked" "I" ∈ GW := gw_t (tb1 (List.mem_of_getElem? (i := 170) rfl)) rfl
theorem mF_X2_347 : Cond.fieldLink RX2 347 "Macroloom$World" "hooked" "I" ∈ GW := gw_t (tb1 (List.mem_of_getElem? (i := 171) rfl)) rfl
theorem mF_X10_222 : Cond.fieldLink RX10 222 "Macroloom$World" "hooked" "I" ∈ GW := gw_t (tb1 (List.mem_of_getElem? (i := 172) rfl)) rfl
theorem mC_X10_23 : Cond.classLink RX10 23 RX5 ∈ GW := gw_t (tb1 (List.mem_of_getElem? (i := 192) rfl)) rfl
theorem mN_X5 : Cond.instantiable RX5 5 ∈ GW := gw_t (tb1 (List.mem_of_getElem? (i := 193) rfl)) rfl
theorem mM_X5_3 : Cond.methodLink RX5 3 ⟨"java/lang/Object", "<init>", "()V"⟩ ∈ GW := gw_t (tb1 (List.mem_of_getElem? (i := 197) rfl)) rfl
theorem mK_X5_9 : Cond.constant RX5 9 (50000) ∈ GW := gw_t (tb1 (List.mem_of_getElem? (i := 198) rfl)) rfl
theorem mC_X5_16 : Cond.classLink RX5 16 RX6 ∈ GW := gw_t (tb1 (List.mem_of_getElem? (i := 199) rfl)) rfl
theorem mM_X5_18 : Cond.methodLink RX5 18 yX6_init ∈ GW := gw_t (tb1 (List.mem_of_getElem? (i := 200) rfl)) rfl
theorem mF_X2_180 : Cond.fieldLink RX2 180 "Macroloom$Report" "told" "I" ∈ GW := gw_t (tb1 (List.mem_of_getElem? (i := 201) rfl)) rfl
theorem mF_X10_157 : Cond.fieldLink RX10 157 "Macroloom$Report" "told" "I" ∈ GW := gw_t (tb1 (List.mem_of_getElem? (i := 202) rfl)) rfl
theorem mF_X2_185 : Cond.fieldLink RX2 185 "Macroloom$Report" "cost" "I" ∈ GW := gw_t (tb1 (List.mem_of_getElem? (i := 203) rfl)) rfl
theorem mF_X10_164 : Cond.fieldLink RX10 164 "Macroloom$Report" "cost" "I" ∈ GW := gw_t (tb1 (List.mem_of_getElem? (i := 204) rfl)) rfl
theorem mF_X5_10 : Cond.fieldLink RX5 10 "Macroloom$Report" "blamed" "I" ∈ GW := gw_t (tb1 (List.mem_of_getElem? (i := 205) rfl)) rfl
theorem mF_X2_188 : Cond.fieldLink RX2 188 "Macroloom$Report" "blamed" "I" ∈ GW := gw_t (tb1 (List.mem_of_getElem? (i := 206) rfl)) rfl
theorem mF_X10_190 : Cond.fieldLink RX10 190 "Macroloom$Report" "blamed" "I" ∈ GW := gw_t (tb1 (List.mem_of_getElem? (i := 207) rfl)) rfl
theorem mF_X5_25 : Cond.fieldLink RX5 25 "Macroloom$Report" "count" "I" ∈ GW := gw_t (tb1 (List.mem_of_getElem? (i := 208) rfl)) rfl
theorem mF_X2_191 : Cond.fieldLink RX2 191 "Macroloom$Report" "count" "I" ∈ GW := gw_t (tb1 (List.mem_of_getElem? (i := 209) rfl)) rfl
theorem mF_X10_193 : Cond.fieldLink RX10 193 "Macroloom$Report" "count" "I" ∈ GW := gw_t (tb1 (List.mem_of_getElem? (i := 210) rfl)) rfl
theorem mF_X5_21 : Cond.fieldLink RX5 21 "Macroloom$Report" "trace" "LMacroloom$Row;" ∈ GW := gw_t (tb1 (List.mem_of_getElem? (i := 211) rfl)) rfl
theorem mF_X10_196 : Cond.fieldLink RX10 196 "Macroloom$Report" "trace" "LMacroloom$Row;" ∈ GW := gw_t (tb1 (List.mem_of_getElem? (i := 212) rfl)) rfl
theorem mF_X10_12 : Cond.fieldLink RX10 12 "Macroloom" "program" "LMacroloom$Program;" ∈ GW := gw_t (tb1 (List.mem_of_getElem? (i := 224) rfl)) rfl
theorem mF_X10_19 : Cond.fieldLink RX10 19 "Macroloom" "world" "LMacroloom$World;" ∈ GW := gw_t (tb1 (List.mem_of_getElem? (i := 225) rfl)) rfl
theorem mF_X10_26 : Cond.fieldLink RX10 26 "Macroloom" "last" "LMacroloom$Report;" ∈ GW := gw_t (tb1 (List.mem_of_getElem? (i := 226) rfl)) rfl
theorem mF_X10_30 : Cond.fieldLink RX10 30 "Macroloom" "draft" "LMacroloom$Report;" ∈ GW := gw_t (tb1 (List.mem_of_getElem? (i := 227) rfl)) rfl
theorem mF_X10_33 : Cond.fieldLink RX10 33 "Macroloom" "budget" "I" ∈ GW := gw_t (tb1 (List.mem_of_getElem? (i := 228) rfl)) rfl
theorem mF_X10_225 : Cond.fieldLink RX10 225 "Macroloom" "machine" "LMacroloom$Machine;" ∈ GW := gw_t (tb1 (List.mem_of_getElem? (i := 229) rfl)) rfl
theorem mM_L_225 : Cond.methodLink RL 225 yL_at ∈ GW := gw_t (tb2 (List.mem_of_getElem? (i := 3) rfl)) rfl
theorem mK_L_7 : Cond.constant RL 7 (1205597129) ∈ GW := gw_t (tb2 (List.mem_of_getElem? (i := 6) rfl)) rfl
theorem mK_L_8 : Cond.constant RL 8 (1508026071) ∈ GW := gw_t (tb2 (List.mem_of_getElem? (i := 7) rfl)) rfl
theorem mM_L_135 : Cond.methodLink RL 135 yL_notes ∈ GW := gw_t (tb2 (List.mem_of_getElem? (i := 8) rfl)) rfl
theorem mM_L_116 : Cond.methodLink RL 116 yL_length ∈ GW := gw_t (tb2 (List.mem_of_getElem? (i := 11) rfl)) rfl
theorem mC_L_16 : Cond.classLink RL 16 "java/lang/IndexOutOfBoundsException" ∈ GW := gw_t (tb2 (List.mem_of_getElem? (i := 14) rfl)) rfl
theorem mM_L_72 : Cond.methodLink RL 72 yX10_length ∈ GW := gw_t (tb2 (List.mem_of_getElem? (i := 15) rfl)) rfl
theorem mM_X10_68 : Cond.methodLink RX10 68 yX10_isBelow ∈ GW := gw_t (tb2 (List.mem_of_getElem? (i := 19) rfl)) rfl
theorem mC_X10_41 : Cond.classLink RX10 41 "java/lang/IndexOutOfBoundsException" ∈ GW := gw_t (tb2 (List.mem_of_getElem? (i := 22) rfl)) rfl
theorem mN_java_lang_IndexOutOfBoundsException : Cond.instantiable "java/lang/IndexOutOfBoundsException" 6 ∈ GW := gw_t (tb2 (List.mem_of_getElem? (i := 23) rfl)) rfl
theorem mN_java_lang_Throwable : Cond.instantiable "java/lang/Throwable" 6 ∈ GW := gw_t (tb2 (List.mem_of_getElem? (i := 61) rfl)) rfl
theorem mM_X10_45 : Cond.methodLink RX10 45 ⟨"java/lang/IndexOutOfBoundsException", "<init>", "(Ljava/lang/String;)V"⟩ ∈ GW := gw_t (tb2 (List.mem_of_getElem? (i := 64) rfl)) rfl
theorem mA_byte : Cond.arrayClass .byte ∈ GW := gw_t (tb2 (List.mem_of_getElem? (i := 89) rfl)) rfl
theorem mM_X10_128 : Cond.methodLink RX10 128 yX9_textOf ∈ GW := gw_t (tb2 (List.mem_of_getElem? (i := 90) rfl)) rfl
theorem mK_L_18 : Cond.constant RL 18 (-1000001) ∈ GW := gw_t (tb2 (List.mem_of_getElem? (i := 94) rfl)) rfl
theorem mM_L_118 : Cond.methodLink RL 118 yL_cursor ∈ GW := gw_t (tb2 (List.mem_of_getElem? (i := 95) rfl)) rfl
theorem mM_L_78 : Cond.methodLink RL 78 yX10_cursor ∈ GW := gw_t (tb2 (List.mem_of_getElem? (i := 98) rfl)) rfl
theorem mM_X10_90 : Cond.methodLink RX10 90 yX6_at ∈ GW := gw_t (tb2 (List.mem_of_getElem? (i := 103) rfl)) rfl
theorem mM_L_121 : Cond.methodLink RL 121 yL_activeCursor ∈ GW := gw_t (tb2 (List.mem_of_getElem? (i := 107) rfl)) rfl
theorem mM_L_81 : Cond.methodLink RL 81 yX10_activeCursor ∈ GW := gw_t (tb2 (List.mem_of_getElem? (i := 110) rfl)) rfl
theorem mM_L_123 : Cond.methodLink RL 123 yL_letter ∈ GW := gw_t (tb2 (List.mem_of_getElem? (i := 114) rfl)) rfl
theorem mM_L_75 : Cond.methodLink RL 75 yX10_letter ∈ GW := gw_t (tb2 (List.mem_of_getElem? (i := 117) rfl)) rfl
theorem mM_L_125 : Cond.methodLink RL 125 yL_option ∈ GW := gw_t (tb2 (List.mem_of_getElem? (i := 122) rfl)) rfl
theorem mM_L_84 : Cond.methodLink RL 84 yX10_option ∈ GW := gw_t (tb2 (List.mem_of_getElem? (i := 125) rfl)) rfl
theorem mM_L_127 : Cond.methodLink RL 127 yL_body ∈ GW := gw_t (tb2 (List.mem_of_getElem? (i := 130) rfl)) rfl
theorem mM_L_90 : Cond.methodLink RL 90 yX10_body ∈ GW := gw_t (tb2 (List.mem_of_getElem? (i := 133) rfl)) rfl
theorem mM_L_129 : Cond.methodLink RL 129 yX10_hook ∈ GW := gw_t (tb2 (List.mem_of_getElem? (i := 138) rfl)) rfl
theorem mM_L_132 : Cond.methodLink RL 132 yX10_buffer ∈ GW := gw_t (tb2 (List.mem_of_getElem? (i := 142) rfl)) rfl
theorem mM_L_228 : Cond.methodLink RL 228 yL_acts ∈ GW := gw_t (tb2 (List.mem_of_getElem? (i := 146) rfl)) rfl
theorem mM_L_93 : Cond.methodLink RL 93 yL_low ∈ GW := gw_t (tb2 (List.mem_of_getElem? (i := 149) rfl)) rfl
theorem mK_L_9 : Cond.constant RL 9 (2147483647) ∈ GW := gw_t (tb2 (List.mem_of_getElem? (i := 152) rfl)) rfl
theorem mM_L_208 : Cond.methodLink RL 208 yL_makes ∈ GW := gw_t (tb2 (List.mem_of_getElem? (i := 153) rfl)) rfl
theorem mM_L_102 : Cond.methodLink RL 102 yL_firstOf ∈ GW := gw_t (tb2 (List.mem_of_getElem? (i := 156) rfl)) rfl
theorem mM_L_98 : Cond.methodLink RL 98 yL_part ∈ GW := gw_t (tb2 (List.mem_of_getElem? (i := 159) rfl)) rfl
theorem mM_L_106 : Cond.methodLink RL 106 yL_hasSecond ∈ GW := gw_t (tb2 (List.mem_of_getElem? (i := 162) rfl)) rfl
theorem mM_L_110 : Cond.methodLink RL 110 yL_node ∈ GW := gw_t (tb2 (List.mem_of_getElem? (i := 165) rfl)) rfl
theorem mC_L_19 : Cond.classLink RL 19 "java/lang/IllegalArgumentException" ∈ GW := gw_t (tb2 (List.mem_of_getElem? (i := 168) rfl)) rfl
theorem mC_L_22 : Cond.classLink RL 22 "java/lang/IllegalStateException" ∈ GW := gw_t (tb2 (List.mem_of_getElem? (i := 169) rfl)) rfl
theorem mM_L_10 : Cond.methodLink RL 10 yX10_node ∈ GW := gw_t (tb2 (List.mem_of_getElem? (i := 170) rfl)) rfl
theorem mM_X10_37 : Cond.methodLink RX10 37 yX4_lacksPart ∈ GW := gw_t (tb2 (List.mem_of_getElem? (i := 174) rfl)) rfl
theorem mM_X4_62 : Cond.methodLink RX4 62 yX4_shapeOf ∈ GW := gw_t (tb2 (List.mem_of_getElem? (i := 178) rfl)) rfl
theorem mM_X4_52 : Cond.methodLink RX4 52 yJ0_length_8abf5 ∈ GW := gw_t (tb2 (List.mem_of_getElem? (i := 183) rfl)) rfl
theorem mM_J0_335 : Cond.methodLink RJ0 335 yJ0_coder_7d493 ∈ GW := gw_t (tb2 (List.mem_of_getElem? (i := 187) rfl)) rfl
theorem mF_J0_38 : Cond.fieldLink RJ0 38 "java/lang/String" "COMPACT_STRINGS" "Z" ∈ GW := gw_t (tb2 (List.mem_of_getElem? (i := 191) rfl)) rfl
theorem mM_X4_58 : Cond.methodLink RX4 58 yJ0_charAt_5068e ∈ GW := gw_t (tb2 (List.mem_of_getElem? (i := 193) rfl)) rfl
theorem mM_J0_492 : Cond.methodLink RJ0 492 yJ0_isLatin1_aae02 ∈ GW := gw_t (tb2 (List.mem_of_getElem? (i := 197) rfl)) rfl
theorem mM_J0_495 : Cond.methodLink RJ0 495 yJ1_charAt_3b067 ∈ GW := gw_t (tb2 (List.mem_of_getElem? (i := 201) rfl)) rfl
theorem mM_J1_9 : Cond.methodLink RJ1 9 yJ0_checkIndex_df160 ∈ GW := gw_t (tb2 (List.mem_of_getElem? (i := 204) rfl)) rfl
theorem mF_J0_1053 : Cond.fieldLink RJ0 1053 "jdk/internal/util/Preconditions" "SIOOBE_FORMATTER" "Ljava/util/function/BiFunction;" ∈ GW := gw_t (tb2 (List.mem_of_getElem? (i := 207) rfl)) rfl
theorem mM_J0_1059 : Cond.methodLink RJ0 1059 yJ3_checkIndex_8e157 ∈ GW := gw_t (tb2 (List.mem_of_getElem? (i := 209) rfl)) rfl
theorem mM_J0_498 : Cond.methodLink RJ0 498 yJ2_charAt_3b067 ∈ GW := gw_t (tb2 (List.mem_of_getElem? (i := 212) rfl)) rfl
theorem mM_J2_67 : Cond.methodLink RJ2 67 yJ2_checkIndex_2214a ∈ GW := gw_t (tb2 (List.mem_of_getElem? (i := 215) rfl)) rfl
theorem mM_J2_48 : Cond.methodLink RJ2 48 yJ2_length_9d52b ∈ GW := gw_t (tb2 (List.mem_of_getElem? (i := 218) rfl)) rfl
theorem mM_J2_414 : Cond.methodLink RJ2 414 yJ0_checkIndex_df160 ∈ GW := gw_t (tb2 (List.mem_of_getElem? (i := 221) rfl)) rfl
theorem mM_J2_71 : Cond.methodLink RJ2 71 yJ2_getChar_3b067 ∈ GW := gw_t (tb2 (List.mem_of_getElem? (i := 222) rfl)) rfl
theorem mF_J2_44 : Cond.fieldLink RJ2 44 "java/lang/StringUTF16" "$assertionsDisabled" "Z" ∈ GW := gw_t (tb2 (List.mem_of_getElem? (i := 225) rfl)) rfl
theorem mF_J2_59 : Cond.fieldLink RJ2 59 "java/lang/StringUTF16" "HI_BYTE_SHIFT" "I" ∈ GW := gw_t (tb2 (List.mem_of_getElem? (i := 227) rfl)) rfl
theorem mF_J2_63 : Cond.fieldLink RJ2 63 "java/lang/StringUTF16" "LO_BYTE_SHIFT" "I" ∈ GW := gw_t (tb2 (List.mem_of_getElem? (i := 229) rfl)) rfl
theorem mM_X4_66 : Cond.methodLink RX4 66 yX4_choose ∈ GW := gw_t (tb2 (List.mem_of_getElem? (i := 231) rfl)) rfl
theorem mM_X4_70 : Cond.methodLink RX4 70 yX4_has ∈ GW := gw_t (tb2 (List.mem_of_getElem? (i := 234) rfl)) rfl
theorem mM_X10_48 : Cond.methodLink RX10 48 yX4_isShaped ∈ GW := gw_t (tb2 (List.mem_of_getElem? (i := 239) rfl)) rfl
theorem mM_X4_74 : Cond.methodLink RX4 74 yX4_fits ∈ GW := gw_t (tb3 (List.mem_of_getElem? (i := 3) rfl)) rfl
theorem mC_X10_51 : Cond.classLink RX10 51 "java/lang/IllegalArgumentException" ∈ GW := gw_t (tb3 (List.mem_of_getElem? (i := 9) rfl)) rfl
theorem mN_java_lang_IllegalArgumentException : Cond.instantiable "java/lang/IllegalArgumentException" 6 ∈ GW := gw_t (tb3 (List.mem_of_getElem? (i := 10) rfl)) rfl
theorem mM_X10_55 : Cond.methodLink RX10 55 ⟨"java/lang/IllegalArgumentException", "<init>", "(Ljava/lang/String;)V"⟩ ∈ GW := gw_t (tb3 (List.mem_of_getElem? (i := 19) rfl)) rfl
theorem mM_X10_56 : Cond.methodLink RX10 56 yX4_hasRoom ∈ GW := gw_t (tb3 (List.mem_of_getElem? (i := 25) rfl)) rfl
theorem mM_X4_81 : Cond.methodLink RX4 81 yX4_sizeWith ∈ GW := gw_t (tb3 (List.mem_of_getElem? (i := 29) rfl)) rfl
theorem mM_X4_84 : Cond.methodLink RX4 84 yX6_at ∈ GW := gw_t (tb3 (List.mem_of_getElem? (i := 33) rfl)) rfl
theorem mC_X10_59 : Cond.classLink RX10 59 "java/lang/IllegalStateException" ∈ GW := gw_t (tb3 (List.mem_of_getElem? (i := 34) rfl)) rfl
theorem mN_java_lang_IllegalStateException : Cond.instantiable "java/lang/IllegalStateException" 6 ∈ GW := gw_t (tb3 (List.mem_of_getElem? (i := 35) rfl)) rfl
theorem mM_X10_63 : Cond.methodLink RX10 63 ⟨"java/lang/IllegalStateException", "<init>", "(Ljava/lang/String;)V"⟩ ∈ GW := gw_t (tb3 (List.mem_of_getElem? (i := 44) rfl)) rfl
theorem mM_X10_64 : Cond.methodLink RX10 64 yX4_add ∈ GW := gw_t (tb3 (List.mem_of_getElem? (i := 50) rfl)) rfl
theorem mM_X4_88 : Cond.methodLink RX4 88 yX6_put ∈ GW := gw_t (tb3 (List.mem_of_getElem? (i := 54) rfl)) rfl
theorem mM_X4_91 : Cond.methodLink RX4 91 yX0_translate ∈ GW := gw_t (tb3 (List.mem_of_getElem? (i := 55) rfl)) rfl
theorem mM_X0_30 : Cond.methodLink RX0 30 yX0_emit ∈ GW := gw_t (tb3 (List.mem_of_getElem? (i := 59) rfl)) rfl
theorem mM_X0_27 : Cond.methodLink RX0 27 yX6_put ∈ GW := gw_t (tb3 (List.mem_of_getElem? (i := 63) rfl)) rfl
theorem mM_X0_33 : Cond.methodLink RX0 33 yX0_translateCall ∈ GW := gw_t (tb3 (List.mem_of_getElem? (i := 64) rfl)) rfl
theorem mM_X0_37 : Cond.methodLink RX0 37 yX0_translateInsert ∈ GW := gw_t (tb3 (List.mem_of_getElem? (i := 68) rfl)) rfl
theorem mM_X0_41 : Cond.methodLink RX0 41 yX0_translateParts ∈ GW := gw_t (tb3 (List.mem_of_getElem? (i := 72) rfl)) rfl
theorem mM_X0_45 : Cond.methodLink RX0 45 yX0_translateIf ∈ GW := gw_t (tb3 (List.mem_of_getElem? (i := 76) rfl)) rfl
theorem mM_X0_48 : Cond.methodLink RX0 48 yX0_translateLoop ∈ GW := gw_t (tb3 (List.mem_of_getElem? (i := 80) rfl)) rfl
theorem mM_X0_51 : Cond.methodLink RX0 51 yX0_translateTry ∈ GW := gw_t (tb3 (List.mem_of_getElem? (i := 84) rfl)) rfl
theorem mM_X0_54 : Cond.methodLink RX0 54 yX0_translateFinally ∈ GW := gw_t (tb3 (List.mem_of_getElem? (i := 88) rfl)) rfl
theorem mM_X0_57 : Cond.methodLink RX0 57 yX0_translateOption ∈ GW := gw_t (tb3 (List.mem_of_getElem? (i := 92) rfl)) rfl
theorem mM_X0_60 : Cond.methodLink RX0 60 yX0_translateEach ∈ GW := gw_t (tb3 (List.mem_of_getElem? (i := 96) rfl)) rfl
theorem mK_L_21 : Cond.constant RL 21 (-1000002) ∈ GW := gw_t (tb3 (List.mem_of_getElem? (i := 100) rfl)) rfl
theorem mK_L_24 : Cond.constant RL 24 (-1000003) ∈ GW := gw_t (tb3 (List.mem_of_getElem? (i := 101) rfl)) rfl
theorem mM_L_113 : Cond.methodLink RL 113 yL_size ∈ GW := gw_t (tb3 (List.mem_of_getElem? (i := 102) rfl)) rfl
theorem mM_L_28 : Cond.methodLink RL 28 yX10_size ∈ GW := gw_t (tb3 (List.mem_of_getElem? (i := 105) rfl)) rfl
theorem mM_X10_72 : Cond.methodLink RX10 72 yX4_has ∈ GW := gw_t (tb3 (List.mem_of_getElem? (i := 109) rfl)) rfl
theorem mM_L_176 : Cond.methodLink RL 176 yL_told ∈ GW := gw_t (tb3 (List.mem_of_getElem? (i := 110) rfl)) rfl
theorem mK_L_145 : Cond.constant RL 145 (39999) ∈ GW := gw_t (tb3 (List.mem_of_getElem? (i := 113) rfl)) rfl
theorem mM_L_146 : Cond.methodLink RL 146 yX10_outcome ∈ GW := gw_t (tb3 (List.mem_of_getElem? (i := 114) rfl)) rfl
theorem mM_L_149 : Cond.methodLink RL 149 yX10_steps ∈ GW := gw_t (tb3 (List.mem_of_getElem? (i := 118) rfl)) rfl
theorem mM_L_152 : Cond.methodLink RL 152 yX10_cause ∈ GW := gw_t (tb3 (List.mem_of_getElem? (i := 122) rfl)) rfl
theorem mM_L_155 : Cond.methodLink RL 155 yX10_traced ∈ GW := gw_t (tb3 (List.mem_of_getElem? (i := 126) rfl)) rfl
theorem mK_L_158 : Cond.constant RL 158 (50000) ∈ GW := gw_t (tb3 (List.mem_of_getElem? (i := 130) rfl)) rfl
theorem mM_L_159 : Cond.methodLink RL 159 yX10_next ∈ GW := gw_t (tb3 (List.mem_of_getElem? (i := 131) rfl)) rfl
theorem mM_X10_167 : Cond.methodLink RX10 167 yX10_steppedMachine ∈ GW := gw_t (tb3 (List.mem_of_getElem? (i := 135) rfl)) rfl
theorem mM_X10_179 : Cond.methodLink RX10 179 yX2_waitingNode ∈ GW := gw_t (tb3 (List.mem_of_getElem? (i := 139) rfl)) rfl
theorem mM_X2_119 : Cond.methodLink RX2 119 yX6_at ∈ GW := gw_t (tb3 (List.mem_of_getElem? (i := 143) rfl)) rfl
theorem mM_L_162 : Cond.methodLink RL 162 yX10_active ∈ GW := gw_t (tb3 (List.mem_of_getElem? (i := 144) rfl)) rfl
theorem mM_L_165 : Cond.methodLink RL 165 yL_traceAt ∈ GW := gw_t (tb3 (List.mem_of_getElem? (i := 148) rfl)) rfl
theorem mM_L_69 : Cond.methodLink RL 69 yX10_traceAt ∈ GW := gw_t (tb3 (List.mem_of_getElem? (i := 151) rfl)) rfl
theorem mM_L_212 : Cond.methodLink RL 212 yL_runs ∈ GW := gw_t (tb3 (List.mem_of_getElem? (i := 156) rfl)) rfl
theorem mM_L_139 : Cond.methodLink RL 139 yL_letters ∈ GW := gw_t (tb3 (List.mem_of_getElem? (i := 159) rfl)) rfl
theorem mM_L_167 : Cond.methodLink RL 167 yL_register ∈ GW := gw_t (tb3 (List.mem_of_getElem? (i := 162) rfl)) rfl
theorem mM_L_87 : Cond.methodLink RL 87 yX10_register ∈ GW := gw_t (tb3 (List.mem_of_getElem? (i := 165) rfl)) rfl
theorem mM_L_169 : Cond.methodLink RL 169 yL_tried ∈ GW := gw_t (tb3 (List.mem_of_getElem? (i := 170) rfl)) rfl
theorem mM_L_45 : Cond.methodLink RL 45 yX10_tried ∈ GW := gw_t (tb3 (List.mem_of_getElem? (i := 173) rfl)) rfl
theorem mM_X10_80 : Cond.methodLink RX10 80 yX10_isStepped ∈ GW := gw_t (tb3 (List.mem_of_getElem? (i := 177) rfl)) rfl
theorem mM_X10_160 : Cond.methodLink RX10 160 yX10_tryOut ∈ GW := gw_t (tb3 (List.mem_of_getElem? (i := 182) rfl)) rfl
theorem mM_X10_143 : Cond.methodLink RX10 143 yX10_readyMachine ∈ GW := gw_t (tb3 (List.mem_of_getElem? (i := 186) rfl)) rfl
theorem mC_X10_148 : Cond.classLink RX10 148 RX2 ∈ GW := gw_t (tb3 (List.mem_of_getElem? (i := 190) rfl)) rfl
theorem mN_X2 : Cond.instantiable RX2 20 ∈ GW := gw_t (tb3 (List.mem_of_getElem? (i := 191) rfl)) rfl
theorem mM_X10_233 : Cond.methodLink RX10 233 yX2_init ∈ GW := gw_t (tb3 (List.mem_of_getElem? (i := 192) rfl)) rfl
theorem mM_X2_3 : Cond.methodLink RX2 3 ⟨"java/lang/Object", "<init>", "()V"⟩ ∈ GW := gw_t (tb3 (List.mem_of_getElem? (i := 195) rfl)) rfl
theorem mC_X2_9 : Cond.classLink RX2 9 RX9 ∈ GW := gw_t (tb3 (List.mem_of_getElem? (i := 196) rfl)) rfl
theorem mC_X2_18 : Cond.classLink RX2 18 RX1 ∈ GW := gw_t (tb3 (List.mem_of_getElem? (i := 198) rfl)) rfl
theorem mN_X1 : Cond.instantiable RX1 11 ∈ GW := gw_t (tb3 (List.mem_of_getElem? (i := 199) rfl)) rfl
theorem mM_X1_3 : Cond.methodLink RX1 3 ⟨"java/lang/Object", "<init>", "()V"⟩ ∈ GW := gw_t (tb3 (List.mem_of_getElem? (i := 203) rfl)) rfl
theorem mC_X1_9 : Cond.classLink RX1 9 RX6 ∈ GW := gw_t (tb3 (List.mem_of_getElem? (i := 204) rfl)) rfl
theorem mM_X1_11 : Cond.methodLink RX1 11 yX6_init ∈ GW := gw_t (tb3 (List.mem_of_getElem? (i := 205) rfl)) rfl
theorem mK_X1_47 : Cond.constant RX1 47 (50000) ∈ GW := gw_t (tb3 (List.mem_of_getElem? (i := 206) rfl)) rfl
theorem mF_X1_14 : Cond.fieldLink RX1 14 "Macroloom$Frames" "nodes" "LMacroloom$Row;" ∈ GW := gw_t (tb3 (List.mem_of_getElem? (i := 207) rfl)) rfl
theorem mF_X2_167 : Cond.fieldLink RX2 167 "Macroloom$Frames" "nodes" "LMacroloom$Row;" ∈ GW := gw_t (tb3 (List.mem_of_getElem? (i := 208) rfl)) rfl
theorem mF_X1_20 : Cond.fieldLink RX1 20 "Macroloom$Frames" "ups" "LMacroloom$Row;" ∈ GW := gw_t (tb3 (List.mem_of_getElem? (i := 209) rfl)) rfl
theorem mF_X2_200 : Cond.fieldLink RX2 200 "Macroloom$Frames" "ups" "LMacroloom$Row;" ∈ GW := gw_t (tb3 (List.mem_of_getElem? (i := 210) rfl)) rfl
theorem mF_X1_23 : Cond.fieldLink RX1 23 "Macroloom$Frames" "scopes" "LMacroloom$Row;" ∈ GW := gw_t (tb3 (List.mem_of_getElem? (i := 211) rfl)) rfl
theorem mF_X2_170 : Cond.fieldLink RX2 170 "Macroloom$Frames" "scopes" "LMacroloom$Row;" ∈ GW := gw_t (tb3 (List.mem_of_getElem? (i := 212) rfl)) rfl
theorem mF_X1_26 : Cond.fieldLink RX1 26 "Macroloom$Frames" "bodies" "LMacroloom$Row;" ∈ GW := gw_t (tb3 (List.mem_of_getElem? (i := 213) rfl)) rfl
theorem mF_X2_203 : Cond.fieldLink RX2 203 "Macroloom$Frames" "bodies" "LMacroloom$Row;" ∈ GW := gw_t (tb3 (List.mem_of_getElem? (i := 214) rfl)) rfl
theorem mF_X1_29 : Cond.fieldLink RX1 29 "Macroloom$Frames" "places" "LMacroloom$Row;" ∈ GW := gw_t (tb3 (List.mem_of_getElem? (i := 215) rfl)) rfl
theorem mF_X2_127 : Cond.fieldLink RX2 127 "Macroloom$Frames" "places" "LMacroloom$Row;" ∈ GW := gw_t (tb3 (List.mem_of_getElem? (i := 216) rfl)) rfl
theorem mF_X1_32 : Cond.fieldLink RX1 32 "Macroloom$Frames" "landings" "LMacroloom$Row;" ∈ GW := gw_t (tb3 (List.mem_of_getElem? (i := 217) rfl)) rfl
theorem mF_X2_209 : Cond.fieldLink RX2 209 "Macroloom$Frames" "landings" "LMacroloom$Row;" ∈ GW := gw_t (tb3 (List.mem_of_getElem? (i := 218) rfl)) rfl
theorem mF_X1_35 : Cond.fieldLink RX1 35 "Macroloom$Frames" "arounds" "LMacroloom$Row;" ∈ GW := gw_t (tb3 (List.mem_of_getElem? (i := 219) rfl)) rfl
theorem mF_X2_197 : Cond.fieldLink RX2 197 "Macroloom$Frames" "arounds" "LMacroloom$Row;" ∈ GW := gw_t (tb3 (List.mem_of_getElem? (i := 220) rfl)) rfl
theorem mF_X1_38 : Cond.fieldLink RX1 38 "Macroloom$Frames" "kept" "LMacroloom$Row;" ∈ GW := gw_t (tb3 (List.mem_of_getElem? (i := 221) rfl)) rfl
theorem mF_X2_218 : Cond.fieldLink RX2 218 "Macroloom$Frames" "kept" "LMacroloom$Row;" ∈ GW := gw_t (tb3 (List.mem_of_getElem? (i := 222) rfl)) rfl
theorem mF_X1_41 : Cond.fieldLink RX1 41 "Macroloom$Frames" "held" "LMacroloom$Row;" ∈ GW := gw_t (tb3 (List.mem_of_getElem? (i := 223) rfl)) rfl
theorem mF_X2_212 : Cond.fieldLink RX2 212 "Macroloom$Frames" "held" "LMacroloom$Row;" ∈ GW := gw_t (tb3 (List.mem_of_getElem? (i := 224) rfl)) rfl
theorem mF_X1_44 : Cond.fieldLink RX1 44 "Macroloom$Frames" "spare" "LMacroloom$Row;" ∈ GW := gw_t (tb3 (List.mem_of_getElem? (i := 225) rfl)) rfl
theorem mF_X2_249 : Cond.fieldLink RX2 249 "Macroloom$Frames" "spare" "LMacroloom$Row;" ∈ GW := gw_t (tb3 (List.mem_of_getElem? (i := 226) rfl)) rfl
theorem mF_X1_48 : Cond.fieldLink RX1 48 "Macroloom$Frames" "causes" "LMacroloom$Row;" ∈ GW := gw_t (tb3 (List.mem_of_getElem? (i := 227) rfl)) rfl
theorem mF_X2_374 : Cond.fieldLink RX2 374 "Macroloom$Frames" "causes" "LMacroloom$Row;" ∈ GW := gw_t (tb3 (List.mem_of_getElem? (i := 228) rfl)) rfl
theorem mC_X2_25 : Cond.classLink RX2 25 RX7 ∈ GW := gw_t (tb4 (List.mem_of_getElem? (i := 12) rfl)) rfl
theorem mN_X7 : Cond.instantiable RX7 3 ∈ GW := gw_t (tb4 (List.mem_of_getElem? (i := 13) rfl)) rfl
theorem mM_X7_3 : Cond.methodLink RX7 3 ⟨"java/lang/Object", "<init>", "()V"⟩ ∈ GW := gw_t (tb4 (List.mem_of_getElem? (i := 17) rfl)) rfl
theorem mC_X7_9 : Cond.classLink RX7 9 RX6 ∈ GW := gw_t (tb4 (List.mem_of_getElem? (i := 18) rfl)) rfl
theorem mM_X7_11 : Cond.methodLink RX7 11 yX6_init ∈ GW := gw_t (tb4 (List.mem_of_getElem? (i := 19) rfl)) rfl
theorem mK_X7_20 : Cond.constant RX7 20 (49999) ∈ GW := gw_t (tb4 (List.mem_of_getElem? (i := 20) rfl)) rfl
theorem mF_X7_14 : Cond.fieldLink RX7 14 "Macroloom$Scopes" "outers" "LMacroloom$Row;" ∈ GW := gw_t (tb4 (List.mem_of_getElem? (i := 21) rfl)) rfl
theorem mF_X7_21 : Cond.fieldLink RX7 21 "Macroloom$Scopes" "cells" "LMacroloom$Row;" ∈ GW := gw_t (tb4 (List.mem_of_getElem? (i := 22) rfl)) rfl
theorem mF_X7_24 : Cond.fieldLink RX7 24 "Macroloom$Scopes" "count" "I" ∈ GW := gw_t (tb4 (List.mem_of_getElem? (i := 23) rfl)) rfl
theorem mC_X2_32 : Cond.classLink RX2 32 RX3 ∈ GW := gw_t (tb4 (List.mem_of_getElem? (i := 31) rfl)) rfl
theorem mN_X3 : Cond.instantiable RX3 7 ∈ GW := gw_t (tb4 (List.mem_of_getElem? (i := 32) rfl)) rfl
theorem mM_X3_3 : Cond.methodLink RX3 3 ⟨"java/lang/Object", "<init>", "()V"⟩ ∈ GW := gw_t (tb4 (List.mem_of_getElem? (i := 36) rfl)) rfl
theorem mC_X3_9 : Cond.classLink RX3 9 RX6 ∈ GW := gw_t (tb4 (List.mem_of_getElem? (i := 37) rfl)) rfl
theorem mM_X3_11 : Cond.methodLink RX3 11 yX6_init ∈ GW := gw_t (tb4 (List.mem_of_getElem? (i := 38) rfl)) rfl
theorem mF_X3_14 : Cond.fieldLink RX3 14 "Macroloom$Makings" "functions" "LMacroloom$Row;" ∈ GW := gw_t (tb4 (List.mem_of_getElem? (i := 39) rfl)) rfl
theorem mF_X3_20 : Cond.fieldLink RX3 20 "Macroloom$Makings" "generators" "LMacroloom$Row;" ∈ GW := gw_t (tb4 (List.mem_of_getElem? (i := 40) rfl)) rfl
theorem mF_X3_23 : Cond.fieldLink RX3 23 "Macroloom$Makings" "states" "LMacroloom$Row;" ∈ GW := gw_t (tb4 (List.mem_of_getElem? (i := 41) rfl)) rfl
theorem mF_X2_362 : Cond.fieldLink RX2 362 "Macroloom$Makings" "states" "LMacroloom$Row;" ∈ GW := gw_t (tb4 (List.mem_of_getElem? (i := 42) rfl)) rfl
theorem mF_X3_26 : Cond.fieldLink RX3 26 "Macroloom$Makings" "roots" "LMacroloom$Row;" ∈ GW := gw_t (tb4 (List.mem_of_getElem? (i := 43) rfl)) rfl
theorem mF_X2_368 : Cond.fieldLink RX2 368 "Macroloom$Makings" "roots" "LMacroloom$Row;" ∈ GW := gw_t (tb4 (List.mem_of_getElem? (i := 44) rfl)) rfl
theorem mF_X3_29 : Cond.fieldLink RX3 29 "Macroloom$Makings" "rests" "LMacroloom$Row;" ∈ GW := gw_t (tb4 (List.mem_of_getElem? (i := 45) rfl)) rfl
theorem mF_X2_371 : Cond.fieldLink RX2 371 "Macroloom$Makings" "rests" "LMacroloom$Row;" ∈ GW := gw_t (tb4 (List.mem_of_getElem? (i := 46) rfl)) rfl
theorem mF_X3_32 : Cond.fieldLink RX3 32 "Macroloom$Makings" "functionCount" "I" ∈ GW := gw_t (tb4 (List.mem_of_getElem? (i := 47) rfl)) rfl
theorem mF_X3_36 : Cond.fieldLink RX3 36 "Macroloom$Makings" "generatorCount" "I" ∈ GW := gw_t (tb4 (List.mem_of_getElem? (i := 48) rfl)) rfl
theorem mF_X2_39 : Cond.fieldLink RX2 39 "Macroloom$Machine" "program" "LMacroloom$Program;" ∈ GW := gw_t (tb4 (List.mem_of_getElem? (i := 64) rfl)) rfl
theorem mF_X2_43 : Cond.fieldLink RX2 43 "Macroloom$Machine" "world" "LMacroloom$World;" ∈ GW := gw_t (tb4 (List.mem_of_getElem? (i := 65) rfl)) rfl
theorem mF_X2_12 : Cond.fieldLink RX2 12 "Macroloom$Machine" "before" "LMacroloom$World;" ∈ GW := gw_t (tb4 (List.mem_of_getElem? (i := 66) rfl)) rfl
theorem mF_X10_236 : Cond.fieldLink RX10 236 "Macroloom$Machine" "before" "LMacroloom$World;" ∈ GW := gw_t (tb4 (List.mem_of_getElem? (i := 67) rfl)) rfl
theorem mF_X2_21 : Cond.fieldLink RX2 21 "Macroloom$Machine" "frames" "LMacroloom$Frames;" ∈ GW := gw_t (tb4 (List.mem_of_getElem? (i := 68) rfl)) rfl
theorem mF_X2_28 : Cond.fieldLink RX2 28 "Macroloom$Machine" "scopes" "LMacroloom$Scopes;" ∈ GW := gw_t (tb4 (List.mem_of_getElem? (i := 69) rfl)) rfl
theorem mF_X2_35 : Cond.fieldLink RX2 35 "Macroloom$Machine" "makings" "LMacroloom$Makings;" ∈ GW := gw_t (tb4 (List.mem_of_getElem? (i := 70) rfl)) rfl
theorem mF_X2_46 : Cond.fieldLink RX2 46 "Macroloom$Machine" "report" "LMacroloom$Report;" ∈ GW := gw_t (tb4 (List.mem_of_getElem? (i := 71) rfl)) rfl
theorem mF_X2_94 : Cond.fieldLink RX2 94 "Macroloom$Machine" "going" "Z" ∈ GW := gw_t (tb4 (List.mem_of_getElem? (i := 72) rfl)) rfl
theorem mF_X10_229 : Cond.fieldLink RX10 229 "Macroloom$Machine" "going" "Z" ∈ GW := gw_t (tb4 (List.mem_of_getElem? (i := 73) rfl)) rfl
theorem mF_X2_65 : Cond.fieldLink RX2 65 "Macroloom$Machine" "calls" "I" ∈ GW := gw_t (tb4 (List.mem_of_getElem? (i := 74) rfl)) rfl
theorem mF_X10_187 : Cond.fieldLink RX10 187 "Macroloom$Machine" "calls" "I" ∈ GW := gw_t (tb4 (List.mem_of_getElem? (i := 75) rfl)) rfl
theorem mF_X2_58 : Cond.fieldLink RX2 58 "Macroloom$Machine" "budget" "I" ∈ GW := gw_t (tb4 (List.mem_of_getElem? (i := 76) rfl)) rfl
theorem mF_X2_62 : Cond.fieldLink RX2 62 "Macroloom$Machine" "steps" "I" ∈ GW := gw_t (tb4 (List.mem_of_getElem? (i := 77) rfl)) rfl
theorem mF_X2_91 : Cond.fieldLink RX2 91 "Macroloom$Machine" "current" "I" ∈ GW := gw_t (tb4 (List.mem_of_getElem? (i := 78) rfl)) rfl
theorem mF_X2_106 : Cond.fieldLink RX2 106 "Macroloom$Machine" "waiting" "Z" ∈ GW := gw_t (tb4 (List.mem_of_getElem? (i := 79) rfl)) rfl
theorem mF_X2_68 : Cond.fieldLink RX2 68 "Macroloom$Machine" "lastCall" "I" ∈ GW := gw_t (tb4 (List.mem_of_getElem? (i := 80) rfl)) rfl
theorem mF_X2_71 : Cond.fieldLink RX2 71 "Macroloom$Machine" "hooking" "Z" ∈ GW := gw_t (tb4 (List.mem_of_getElem? (i := 81) rfl)) rfl
theorem mF_X2_75 : Cond.fieldLink RX2 75 "Macroloom$Machine" "ending" "I" ∈ GW := gw_t (tb4 (List.mem_of_getElem? (i := 82) rfl)) rfl
theorem mF_X2_78 : Cond.fieldLink RX2 78 "Macroloom$Machine" "value" "I" ∈ GW := gw_t (tb4 (List.mem_of_getElem? (i := 83) rfl)) rfl
theorem mF_X2_82 : Cond.fieldLink RX2 82 "Macroloom$Machine" "cause" "I" ∈ GW := gw_t (tb4 (List.mem_of_getElem? (i := 84) rfl)) rfl
theorem mF_X2_85 : Cond.fieldLink RX2 85 "Macroloom$Machine" "detail" "I" ∈ GW := gw_t (tb4 (List.mem_of_getElem? (i := 85) rfl)) rfl
theorem mF_X2_88 : Cond.fieldLink RX2 88 "Macroloom$Machine" "result" "I" ∈ GW := gw_t (tb4 (List.mem_of_getElem? (i := 86) rfl)) rfl
theorem mM_X10_147 : Cond.methodLink RX10 147 yX2_open ∈ GW := gw_t (tb4 (List.mem_of_getElem? (i := 128) rfl)) rfl
theorem mM_X2_50 : Cond.methodLink RX2 50 yX9_become ∈ GW := gw_t (tb4 (List.mem_of_getElem? (i := 132) rfl)) rfl
theorem mM_X9_46 : Cond.methodLink RX9 46 yX9_becomeButRegisters ∈ GW := gw_t (tb4 (List.mem_of_getElem? (i := 136) rfl)) rfl
theorem mM_X9_54 : Cond.methodLink RX9 54 yX8_become ∈ GW := gw_t (tb4 (List.mem_of_getElem? (i := 140) rfl)) rfl
theorem mM_X8_26 : Cond.methodLink RX8 26 yX6_become ∈ GW := gw_t (tb4 (List.mem_of_getElem? (i := 144) rfl)) rfl
theorem mM_X6_27 : Cond.methodLink RX6 27 yJ9_min_7cf53 ∈ GW := gw_t (tb4 (List.mem_of_getElem? (i := 148) rfl)) rfl
theorem mM_X6_30 : Cond.methodLink RX6 30 ⟨"java/lang/System", "arraycopy", "(Ljava/lang/Object;ILjava/lang/Object;II)V"⟩ ∈ GW := gw_t (tb4 (List.mem_of_getElem? (i := 151) rfl)) rfl
theorem mM_X9_50 : Cond.methodLink RX9 50 yX6_become ∈ GW := gw_t (tb4 (List.mem_of_getElem? (i := 154) rfl)) rfl
theorem mM_X2_54 : Cond.methodLink RX2 54 yX7_clear ∈ GW := gw_t (tb4 (List.mem_of_getElem? (i := 155) rfl)) rfl
theorem mM_X2_57 : Cond.methodLink RX2 57 yX3_clear ∈ GW := gw_t (tb4 (List.mem_of_getElem? (i := 159) rfl)) rfl
theorem mK_X2_81 : Cond.constant RX2 81 (50000) ∈ GW := gw_t (tb4 (List.mem_of_getElem? (i := 163) rfl)) rfl
theorem mM_X2_97 : Cond.methodLink RX2 97 yX7_open ∈ GW := gw_t (tb4 (List.mem_of_getElem? (i := 164) rfl)) rfl
theorem mM_X7_28 : Cond.methodLink RX7 28 yX6_put ∈ GW := gw_t (tb4 (List.mem_of_getElem? (i := 168) rfl)) rfl
theorem mM_X2_101 : Cond.methodLink RX2 101 yX2_begin ∈ GW := gw_t (tb4 (List.mem_of_getElem? (i := 169) rfl)) rfl
theorem mM_X2_142 : Cond.methodLink RX2 142 yX6_put ∈ GW := gw_t (tb4 (List.mem_of_getElem? (i := 173) rfl)) rfl
theorem mM_X10_153 : Cond.methodLink RX10 153 yX2_advance ∈ GW := gw_t (tb4 (List.mem_of_getElem? (i := 174) rfl)) rfl
theorem mK_X2_105 : Cond.constant RX2 105 (1000000) ∈ GW := gw_t (tb4 (List.mem_of_getElem? (i := 178) rfl)) rfl
theorem mM_X2_115 : Cond.methodLink RX2 115 yX2_waitingNode ∈ GW := gw_t (tb4 (List.mem_of_getElem? (i := 179) rfl)) rfl
theorem mM_X2_124 : Cond.methodLink RX2 124 yX2_letBegin ∈ GW := gw_t (tb4 (List.mem_of_getElem? (i := 180) rfl)) rfl
theorem mM_X2_176 : Cond.methodLink RX2 176 yX2_fail ∈ GW := gw_t (tb4 (List.mem_of_getElem? (i := 184) rfl)) rfl
theorem mM_X2_146 : Cond.methodLink RX2 146 yX2_performBehind ∈ GW := gw_t (tb4 (List.mem_of_getElem? (i := 188) rfl)) rfl
theorem mM_X2_224 : Cond.methodLink RX2 224 yX2_catchError ∈ GW := gw_t (tb4 (List.mem_of_getElem? (i := 192) rfl)) rfl
theorem mM_X2_221 : Cond.methodLink RX2 221 yX2_jump ∈ GW := gw_t (tb4 (List.mem_of_getElem? (i := 196) rfl)) rfl
theorem mM_X2_245 : Cond.methodLink RX2 245 yX7_bind ∈ GW := gw_t (tb4 (List.mem_of_getElem? (i := 200) rfl)) rfl
theorem mM_X2_227 : Cond.methodLink RX2 227 yX2_catchLeaving ∈ GW := gw_t (tb4 (List.mem_of_getElem? (i := 204) rfl)) rfl
theorem mM_X2_230 : Cond.methodLink RX2 230 yX2_hold ∈ GW := gw_t (tb4 (List.mem_of_getElem? (i := 208) rfl)) rfl
theorem mM_X2_233 : Cond.methodLink RX2 233 yX2_revive ∈ GW := gw_t (tb4 (List.mem_of_getElem? (i := 212) rfl)) rfl
theorem mM_X2_239 : Cond.methodLink RX2 239 yX2_chooseNextCursor ∈ GW := gw_t (tb4 (List.mem_of_getElem? (i := 216) rfl)) rfl
theorem mM_X2_308 : Cond.methodLink RX2 308 yX9_textOf ∈ GW := gw_t (tb4 (List.mem_of_getElem? (i := 220) rfl)) rfl
theorem mM_X2_242 : Cond.methodLink RX2 242 yX2_leaveEach ∈ GW := gw_t (tb4 (List.mem_of_getElem? (i := 221) rfl)) rfl
theorem mM_X2_437 : Cond.methodLink RX2 437 yX8_chooseAgain ∈ GW := gw_t (tb4 (List.mem_of_getElem? (i := 225) rfl)) rfl
theorem mM_X8_37 : Cond.methodLink RX8 37 yX6_at ∈ GW := gw_t (tb4 (List.mem_of_getElem? (i := 229) rfl)) rfl
theorem mM_X2_252 : Cond.methodLink RX2 252 yX2_enter ∈ GW := gw_t (tb4 (List.mem_of_getElem? (i := 230) rfl)) rfl
theorem mM_X2_401 : Cond.methodLink RX2 401 yX2_noteCall ∈ GW := gw_t (tb4 (List.mem_of_getElem? (i := 234) rfl)) rfl
theorem mM_X2_149 : Cond.methodLink RX2 149 yX2_performFlow ∈ GW := gw_t (tb4 (List.mem_of_getElem? (i := 238) rfl)) rfl
theorem mM_X2_215 : Cond.methodLink RX2 215 yX2_leave ∈ GW := gw_t (tb5 (List.mem_of_getElem? (i := 2) rfl)) rfl
theorem mM_X2_350 : Cond.methodLink RX2 350 yX2_endCall ∈ GW := gw_t (tb5 (List.mem_of_getElem? (i := 6) rfl)) rfl
theorem mM_X2_353 : Cond.methodLink RX2 353 yX2_endGenerator ∈ GW := gw_t (tb5 (List.mem_of_getElem? (i := 10) rfl)) rfl
theorem mM_X2_356 : Cond.methodLink RX2 356 yX2_closeNext ∈ GW := gw_t (tb5 (List.mem_of_getElem? (i := 14) rfl)) rfl
theorem mM_X2_365 : Cond.methodLink RX2 365 yX3_lowestResting ∈ GW := gw_t (tb5 (List.mem_of_getElem? (i := 18) rfl)) rfl
theorem mM_X3_42 : Cond.methodLink RX3 42 yX6_at ∈ GW := gw_t (tb5 (List.mem_of_getElem? (i := 22) rfl)) rfl
theorem mM_X2_359 : Cond.methodLink RX2 359 yX1_land ∈ GW := gw_t (tb5 (List.mem_of_getElem? (i := 23) rfl)) rfl
theorem mM_X1_51 : Cond.methodLink RX1 51 yX6_at ∈ GW := gw_t (tb5 (List.mem_of_getElem? (i := 27) rfl)) rfl
theorem mM_X1_55 : Cond.methodLink RX1 55 yX6_put ∈ GW := gw_t (tb5 (List.mem_of_getElem? (i := 28) rfl)) rfl
theorem mM_X2_152 : Cond.methodLink RX2 152 yX2_performEditing ∈ GW := gw_t (tb5 (List.mem_of_getElem? (i := 29) rfl)) rfl
theorem mM_X2_312 : Cond.methodLink RX2 312 yX2_insert ∈ GW := gw_t (tb5 (List.mem_of_getElem? (i := 33) rfl)) rfl
theorem mM_X2_427 : Cond.methodLink RX2 427 yX8_insertLetter ∈ GW := gw_t (tb5 (List.mem_of_getElem? (i := 39) rfl)) rfl
theorem mM_X8_41 : Cond.methodLink RX8 41 yX8_activePlace ∈ GW := gw_t (tb5 (List.mem_of_getElem? (i := 43) rfl)) rfl
theorem mM_X2_292 : Cond.methodLink RX2 292 yX2_invoke ∈ GW := gw_t (tb5 (List.mem_of_getElem? (i := 47) rfl)) rfl
theorem mM_X2_316 : Cond.methodLink RX2 316 yX8_activePlace ∈ GW := gw_t (tb5 (List.mem_of_getElem? (i := 51) rfl)) rfl
theorem mM_X2_321 : Cond.methodLink RX2 321 yX8_eraseLetter ∈ GW := gw_t (tb5 (List.mem_of_getElem? (i := 52) rfl)) rfl
theorem mM_X2_324 : Cond.methodLink RX2 324 yX2_move ∈ GW := gw_t (tb5 (List.mem_of_getElem? (i := 56) rfl)) rfl
theorem mM_X2_430 : Cond.methodLink RX2 430 yX8_hasPlace ∈ GW := gw_t (tb5 (List.mem_of_getElem? (i := 60) rfl)) rfl
theorem mM_X2_332 : Cond.methodLink RX2 332 yX2_addCursor ∈ GW := gw_t (tb5 (List.mem_of_getElem? (i := 64) rfl)) rfl
theorem mM_X2_434 : Cond.methodLink RX2 434 yX8_freeCursor ∈ GW := gw_t (tb5 (List.mem_of_getElem? (i := 68) rfl)) rfl
theorem mM_X2_335 : Cond.methodLink RX2 335 yX8_packedOrder ∈ GW := gw_t (tb5 (List.mem_of_getElem? (i := 72) rfl)) rfl
theorem mM_X2_341 : Cond.methodLink RX2 341 yX2_choose ∈ GW := gw_t (tb5 (List.mem_of_getElem? (i := 76) rfl)) rfl
theorem mM_X2_344 : Cond.methodLink RX2 344 yX2_reload ∈ GW := gw_t (tb5 (List.mem_of_getElem? (i := 80) rfl)) rfl
theorem mM_X2_155 : Cond.methodLink RX2 155 yX2_performControl ∈ GW := gw_t (tb5 (List.mem_of_getElem? (i := 84) rfl)) rfl
theorem mM_X2_277 : Cond.methodLink RX2 277 yX2_loopWith ∈ GW := gw_t (tb5 (List.mem_of_getElem? (i := 88) rfl)) rfl
theorem mM_X2_280 : Cond.methodLink RX2 280 yX2_leaveFor ∈ GW := gw_t (tb5 (List.mem_of_getElem? (i := 92) rfl)) rfl
theorem mM_X2_283 : Cond.methodLink RX2 283 yX2_bodyToReturn ∈ GW := gw_t (tb5 (List.mem_of_getElem? (i := 96) rfl)) rfl
theorem mM_X2_383 : Cond.methodLink RX2 383 yX1_rootOf ∈ GW := gw_t (tb5 (List.mem_of_getElem? (i := 100) rfl)) rfl
theorem mM_X2_286 : Cond.methodLink RX2 286 yX3_makeFunction ∈ GW := gw_t (tb5 (List.mem_of_getElem? (i := 104) rfl)) rfl
theorem mM_X3_39 : Cond.methodLink RX3 39 yX6_put ∈ GW := gw_t (tb5 (List.mem_of_getElem? (i := 108) rfl)) rfl
theorem mM_X2_289 : Cond.methodLink RX2 289 yX2_apply ∈ GW := gw_t (tb5 (List.mem_of_getElem? (i := 109) rfl)) rfl
theorem mM_X2_386 : Cond.methodLink RX2 386 yX3_isFunction ∈ GW := gw_t (tb5 (List.mem_of_getElem? (i := 113) rfl)) rfl
theorem mM_X2_389 : Cond.methodLink RX2 389 yX3_functionMaker ∈ GW := gw_t (tb5 (List.mem_of_getElem? (i := 117) rfl)) rfl
theorem mM_X2_295 : Cond.methodLink RX2 295 yX3_makeGenerator ∈ GW := gw_t (tb5 (List.mem_of_getElem? (i := 121) rfl)) rfl
theorem mM_X2_298 : Cond.methodLink RX2 298 yX2_rest ∈ GW := gw_t (tb5 (List.mem_of_getElem? (i := 125) rfl)) rfl
theorem mM_X2_416 : Cond.methodLink RX2 416 yX2_isBarred ∈ GW := gw_t (tb5 (List.mem_of_getElem? (i := 129) rfl)) rfl
theorem mM_X2_301 : Cond.methodLink RX2 301 yX2_ask ∈ GW := gw_t (tb5 (List.mem_of_getElem? (i := 133) rfl)) rfl
theorem mM_X2_404 : Cond.methodLink RX2 404 yX3_isGenerator ∈ GW := gw_t (tb5 (List.mem_of_getElem? (i := 137) rfl)) rfl
theorem mM_X2_407 : Cond.methodLink RX2 407 yX2_goOn ∈ GW := gw_t (tb5 (List.mem_of_getElem? (i := 141) rfl)) rfl
theorem mM_X2_410 : Cond.methodLink RX2 410 yX2_askFirst ∈ GW := gw_t (tb5 (List.mem_of_getElem? (i := 145) rfl)) rfl
theorem mM_X2_413 : Cond.methodLink RX2 413 yX3_generatorMaker ∈ GW := gw_t (tb5 (List.mem_of_getElem? (i := 149) rfl)) rfl
theorem mM_X2_304 : Cond.methodLink RX2 304 yX2_stay ∈ GW := gw_t (tb5 (List.mem_of_getElem? (i := 153) rfl)) rfl
theorem mM_X2_158 : Cond.methodLink RX2 158 yX2_performReckoning ∈ GW := gw_t (tb5 (List.mem_of_getElem? (i := 157) rfl)) rfl
theorem mM_X2_172 : Cond.methodLink RX2 172 yX7_valueOf ∈ GW := gw_t (tb5 (List.mem_of_getElem? (i := 161) rfl)) rfl
theorem mM_X7_35 : Cond.methodLink RX7 35 yX7_holderOf ∈ GW := gw_t (tb5 (List.mem_of_getElem? (i := 165) rfl)) rfl
theorem mM_X7_31 : Cond.methodLink RX7 31 yX6_at ∈ GW := gw_t (tb5 (List.mem_of_getElem? (i := 169) rfl)) rfl
theorem mK_X2_255 : Cond.constant RX2 255 (49999) ∈ GW := gw_t (tb5 (List.mem_of_getElem? (i := 170) rfl)) rfl
theorem mM_X2_256 : Cond.methodLink RX2 256 yX7_holderOf ∈ GW := gw_t (tb5 (List.mem_of_getElem? (i := 171) rfl)) rfl
theorem mM_X2_259 : Cond.methodLink RX2 259 yX2_putInto ∈ GW := gw_t (tb5 (List.mem_of_getElem? (i := 172) rfl)) rfl
theorem mM_X2_262 : Cond.methodLink RX2 262 yX2_reckon ∈ GW := gw_t (tb5 (List.mem_of_getElem? (i := 176) rfl)) rfl
theorem mM_X2_269 : Cond.methodLink RX2 269 yJ9_min_7cf53 ∈ GW := gw_t (tb5 (List.mem_of_getElem? (i := 180) rfl)) rfl
theorem mM_X2_274 : Cond.methodLink RX2 274 yJ9_max_7cf53 ∈ GW := gw_t (tb5 (List.mem_of_getElem? (i := 181) rfl)) rfl
theorem mM_X2_161 : Cond.methodLink RX2 161 yX2_settle ∈ GW := gw_t (tb5 (List.mem_of_getElem? (i := 182) rfl)) rfl
theorem mM_X2_194 : Cond.methodLink RX2 194 yX5_push ∈ GW := gw_t (tb5 (List.mem_of_getElem? (i := 186) rfl)) rfl
theorem mM_X5_28 : Cond.methodLink RX5 28 yX6_put ∈ GW := gw_t (tb5 (List.mem_of_getElem? (i := 190) rfl)) rfl
theorem mM_X2_164 : Cond.methodLink RX2 164 yX9_becomeButRegisters ∈ GW := gw_t (tb5 (List.mem_of_getElem? (i := 191) rfl)) rfl
theorem mM_X10_239 : Cond.methodLink RX10 239 yX9_become ∈ GW := gw_t (tb5 (List.mem_of_getElem? (i := 192) rfl)) rfl
theorem mM_L_171 : Cond.methodLink RL 171 yL_triedSteps ∈ GW := gw_t (tb5 (List.mem_of_getElem? (i := 193) rfl)) rfl
theorem mM_L_48 : Cond.methodLink RL 48 yX10_triedSteps ∈ GW := gw_t (tb5 (List.mem_of_getElem? (i := 196) rfl)) rfl
theorem mM_L_173 : Cond.methodLink RL 173 yL_isOutcome ∈ GW := gw_t (tb5 (List.mem_of_getElem? (i := 200) rfl)) rfl
theorem mK_L_143 : Cond.constant RL 143 (40001) ∈ GW := gw_t (tb5 (List.mem_of_getElem? (i := 203) rfl)) rfl
theorem mK_L_144 : Cond.constant RL 144 (60000) ∈ GW := gw_t (tb5 (List.mem_of_getElem? (i := 204) rfl)) rfl
theorem mM_L_179 : Cond.methodLink RL 179 yL_same ∈ GW := gw_t (tb5 (List.mem_of_getElem? (i := 205) rfl)) rfl
theorem mM_L_183 : Cond.methodLink RL 183 yL_run ∈ GW := gw_t (tb5 (List.mem_of_getElem? (i := 208) rfl)) rfl
theorem mM_L_42 : Cond.methodLink RL 42 yX10_run ∈ GW := gw_t (tb5 (List.mem_of_getElem? (i := 211) rfl)) rfl
theorem mM_L_185 : Cond.methodLink RL 185 yL_start ∈ GW := gw_t (tb5 (List.mem_of_getElem? (i := 215) rfl)) rfl
theorem mM_L_51 : Cond.methodLink RL 51 yX10_start ∈ GW := gw_t (tb5 (List.mem_of_getElem? (i := 218) rfl)) rfl
theorem mM_L_187 : Cond.methodLink RL 187 yL_look ∈ GW := gw_t (tb5 (List.mem_of_getElem? (i := 222) rfl)) rfl
theorem mM_L_66 : Cond.methodLink RL 66 yX10_look ∈ GW := gw_t (tb5 (List.mem_of_getElem? (i := 225) rfl)) rfl
theorem mM_X10_184 : Cond.methodLink RX10 184 yX2_seenByWaiting ∈ GW := gw_t (tb5 (List.mem_of_getElem? (i := 231) rfl)) rfl
theorem mK_L_189 : Cond.constant RL 189 (49999) ∈ GW := gw_t (tb5 (List.mem_of_getElem? (i := 235) rfl)) rfl
theorem mM_L_190 : Cond.methodLink RL 190 yL_setOption ∈ GW := gw_t (tb5 (List.mem_of_getElem? (i := 236) rfl)) rfl
theorem mM_L_32 : Cond.methodLink RL 32 yX10_setOption ∈ GW := gw_t (tb5 (List.mem_of_getElem? (i := 239) rfl)) rfl
theorem mM_X10_111 : Cond.methodLink RX10 111 yX10_isNumber ∈ GW := gw_t (tb6 (List.mem_of_getElem? (i := 3) rfl)) rfl
theorem mM_X10_96 : Cond.methodLink RX10 96 yX6_put ∈ GW := gw_t (tb6 (List.mem_of_getElem? (i := 5) rfl)) rfl
theorem mM_L_192 : Cond.methodLink RL 192 yL_write ∈ GW := gw_t (tb6 (List.mem_of_getElem? (i := 6) rfl)) rfl
theorem mM_L_39 : Cond.methodLink RL 39 yX10_write ∈ GW := gw_t (tb6 (List.mem_of_getElem? (i := 9) rfl)) rfl
theorem mM_X10_139 : Cond.methodLink RX10 139 yX8_append ∈ GW := gw_t (tb6 (List.mem_of_getElem? (i := 15) rfl)) rfl
theorem mM_L_194 : Cond.methodLink RL 194 yL_define ∈ GW := gw_t (tb6 (List.mem_of_getElem? (i := 19) rfl)) rfl
theorem mM_L_25 : Cond.methodLink RL 25 yX10_define ∈ GW := gw_t (tb6 (List.mem_of_getElem? (i := 22) rfl)) rfl
theorem mM_L_196 : Cond.methodLink RL 196 yL_step ∈ GW := gw_t (tb6 (List.mem_of_getElem? (i := 28) rfl)) rfl
theorem mM_L_55 : Cond.methodLink RL 55 yX10_step ∈ GW := gw_t (tb6 (List.mem_of_getElem? (i := 31) rfl)) rfl
theorem mM_X10_119 : Cond.methodLink RX10 119 yX10_isAmount ∈ GW := gw_t (tb6 (List.mem_of_getElem? (i := 35) rfl)) rfl
theorem mM_L_198 : Cond.methodLink RL 198 yL_giveUp ∈ GW := gw_t (tb6 (List.mem_of_getElem? (i := 39) rfl)) rfl
theorem mM_L_58 : Cond.methodLink RL 58 yX10_giveUp ∈ GW := gw_t (tb6 (List.mem_of_getElem? (i := 42) rfl)) rfl
theorem mM_X10_172 : Cond.methodLink RX10 172 yX2_abandon ∈ GW := gw_t (tb6 (List.mem_of_getElem? (i := 46) rfl)) rfl
theorem mK_L_201 : Cond.constant RL 201 (40000) ∈ GW := gw_t (tb6 (List.mem_of_getElem? (i := 50) rfl)) rfl
theorem mM_L_216 : Cond.methodLink RL 216 yL_budgets ∈ GW := gw_t (tb6 (List.mem_of_getElem? (i := 51) rfl)) rfl
theorem mM_L_202 : Cond.methodLink RL 202 yL_setBudget ∈ GW := gw_t (tb6 (List.mem_of_getElem? (i := 54) rfl)) rfl
theorem mM_L_36 : Cond.methodLink RL 36 yX10_setBudget ∈ GW := gw_t (tb6 (List.mem_of_getElem? (i := 57) rfl)) rfl
theorem mK_L_204 : Cond.constant RL 204 (49993) ∈ GW := gw_t (tb6 (List.mem_of_getElem? (i := 61) rfl)) rfl
theorem mM_L_220 : Cond.methodLink RL 220 yL_gives ∈ GW := gw_t (tb6 (List.mem_of_getElem? (i := 62) rfl)) rfl
theorem mM_L_205 : Cond.methodLink RL 205 yL_breakAt ∈ GW := gw_t (tb6 (List.mem_of_getElem? (i := 65) rfl)) rfl
theorem mM_L_62 : Cond.methodLink RL 62 yX10_breakAt ∈ GW := gw_t (tb6 (List.mem_of_getElem? (i := 68) rfl)) rfl
theorem mF_J0_9 : Cond.fieldLink RJ0 9 "java/lang/String" "value" "[B" ∈ GW := gw_t (tb6 (List.mem_of_getElem? (i := 73) rfl)) rfl
theorem mF_J0_15 : Cond.fieldLink RJ0 15 "java/lang/String" "coder" "B" ∈ GW := gw_t (tb6 (List.mem_of_getElem? (i := 74) rfl)) rfl
theorem mOI : Cond.instanceMethod objectInit ∈ GW := gw_t (tb1 (List.mem_of_getElem? (i := 31) rfl)) rfl
theorem mOC : Cond.code objectInit ⟨#[0xb1]⟩ 1 none ∈ GW := gw_t (tb1 (List.mem_of_getElem? (i := 32) rfl)) rfl
theorem bX10_init : gwI yX10_init cX10_init 1 0 := ⟨gw_t (tb1 (List.mem_of_getElem? (i := 29) rfl)) rfl, gw_t (tb1 (List.mem_of_getElem? (i := 28) rfl)) rfl, mI_X10, rfl, by decide +kernel⟩
theorem bX4_init : gwI yX4_init cX4_init 1 0 := ⟨gw_t (tb1 (List.mem_of_getElem? (i := 37) rfl)) rfl, gw_t (tb1 (List.mem_of_getElem? (i := 36) rfl)) rfl, mI_X4, rfl, by decide +kernel⟩
theorem bX6_init : gwI yX6_init cX6_init 3 2 := ⟨gw_t (tb1 (List.mem_of_getElem? (i := 43) rfl)) rfl, gw_t (tb1 (List.mem_of_getElem? (i := 42) rfl)) rfl, mI_X6, rfl, by decide +kernel⟩
theorem bJ9_max_7cf53 : gwS yJ9_max_7cf53 cJ9_max_7cf53 2 ((some .int)) 2 := ⟨gw_t (tb1 (List.mem_of_getElem? (i := 47) rfl)) rfl, gw_t (tb1 (List.mem_of_getElem? (i := 46) rfl)) rfl, mI_J9, by decide +kernel⟩
theorem bJ7_fill_53178 : gwS yJ7_fill_53178 cJ7_fill_53178 4 (none) 2 := ⟨gw_t (tb1 (List.mem_of_getElem? (i := 50) rfl)) rfl, gw_t (tb1 (List.mem_of_getElem? (i := 49) rfl)) rfl, mI_J7, by decide +kernel⟩
theorem bX0_init : gwI yX0_init cX0_init 1 0 := ⟨gw_t (tb1 (List.mem_of_getElem? (i := 60) rfl)) rfl, gw_t (tb1 (List.mem_of_getElem? (i := 59) rfl)) rfl, mI_X0, rfl, by decide +kernel⟩
theorem bX9_init : gwI yX9_init cX9_init 1 0 := ⟨gw_t (tb1 (List.mem_of_getElem? (i := 113) rfl)) rfl, gw_t (tb1 (List.mem_of_getElem? (i := 112) rfl)) rfl, mI_X9, rfl, by decide +kernel⟩
theorem bX8_init : gwI yX8_init cX8_init 1 0 := ⟨gw_t (tb1 (List.mem_of_getElem? (i := 119) rfl)) rfl, gw_t (tb1 (List.mem_of_getElem? (i := 118) rfl)) rfl, mI_X8, rfl, by decide +kernel⟩
theorem bX6_put : gwV yX6_put cX6_put 3 (none) RX6 2 := ⟨gw_t (tb1 (List.mem_of_getElem? (i := 126) rfl)) rfl, gw_t (tb1 (List.mem_of_getElem? (i := 124) rfl)) rfl, gw_t (tb1 (List.mem_of_getElem? (i := 125) rfl)) rfl, mI_X6, by decide +kernel⟩
theorem bX5_init : gwI yX5_init cX5_init 1 0 := ⟨gw_t (tb1 (List.mem_of_getElem? (i := 196) rfl)) rfl, gw_t (tb1 (List.mem_of_getElem? (i := 195) rfl)) rfl, mI_X5, rfl, by decide +kernel⟩
theorem bL_at : gwS yL_at cL_at 2 ((some .int)) 2 := ⟨gw_t (tb2 (List.mem_of_getElem? (i := 5) rfl)) rfl, gw_t (tb2 (List.mem_of_getElem? (i := 4) rfl)) rfl, mI_L, by decide +kernel⟩
theorem bL_notes : gwS yL_notes cL_notes 7 ((some .boolean)) 2 := ⟨gw_t (tb2 (List.mem_of_getElem? (i := 10) rfl)) rfl, gw_t (tb2 (List.mem_of_getElem? (i := 9) rfl)) rfl, mI_L, by decide +kernel⟩
theorem bX10_length : gwV yX10_length cX10_length 2 ((some .int)) RX10 1 := ⟨gw_t (tb2 (List.mem_of_getElem? (i := 18) rfl)) rfl, gw_t (tb2 (List.mem_of_getElem? (i := 16) rfl)) rfl, gw_t (tb2 (List.mem_of_getElem? (i := 17) rfl)) rfl, mI_X10, by decide +kernel⟩
theorem bX10_isBelow : gwS yX10_isBelow cX10_isBelow 2 ((some .boolean)) 2 := ⟨gw_t (tb2 (List.mem_of_getElem? (i := 21) rfl)) rfl, gw_t (tb2 (List.mem_of_getElem? (i := 20) rfl)) rfl, mI_X10, by decide +kernel⟩
theorem bX9_textOf : gwV yX9_textOf cX9_textOf 2 ((some (.object "Macroloom$Text"))) RX9 1 := ⟨gw_t (tb2 (List.mem_of_getElem? (i := 93) rfl)) rfl, gw_t (tb2 (List.mem_of_getElem? (i := 91) rfl)) rfl, gw_t (tb2 (List.mem_of_getElem? (i := 92) rfl)) rfl, mI_X9, by decide +kernel⟩
theorem bX10_cursor : gwV yX10_cursor cX10_cursor 3 ((some .int)) RX10 2 := ⟨gw_t (tb2 (List.mem_of_getElem? (i := 101) rfl)) rfl, gw_t (tb2 (List.mem_of_getElem? (i := 99) rfl)) rfl, gw_t (tb2 (List.mem_of_getElem? (i := 100) rfl)) rfl, mI_X10, by decide +kernel⟩
theorem bX6_at : gwV yX6_at cX6_at 2 ((some .int)) RX6 1 := ⟨gw_t (tb2 (List.mem_of_getElem? (i := 106) rfl)) rfl, gw_t (tb2 (List.mem_of_getElem? (i := 104) rfl)) rfl, gw_t (tb2 (List.mem_of_getElem? (i := 105) rfl)) rfl, mI_X6, by decide +kernel⟩
theorem bX10_activeCursor : gwV yX10_activeCursor cX10_activeCursor 2 ((some .int)) RX10 1 := ⟨gw_t (tb2 (List.mem_of_getElem? (i := 113) rfl)) rfl, gw_t (tb2 (List.mem_of_getElem? (i := 111) rfl)) rfl, gw_t (tb2 (List.mem_of_getElem? (i := 112) rfl)) rfl, mI_X10, by decide +kernel⟩
theorem bX10_letter : gwV yX10_letter cX10_letter 3 ((some .int)) RX10 2 := ⟨gw_t (tb2 (List.mem_of_getElem? (i := 120) rfl)) rfl, gw_t (tb2 (List.mem_of_getElem? (i := 118) rfl)) rfl, gw_t (tb2 (List.mem_of_getElem? (i := 119) rfl)) rfl, mI_X10, by decide +kernel⟩
theorem bX10_option : gwV yX10_option cX10_option 2 ((some .int)) RX10 1 := ⟨gw_t (tb2 (List.mem_of_getElem? (i := 128) rfl)) rfl, gw_t (tb2 (List.mem_of_getElem? (i := 126) rfl)) rfl, gw_t (tb2 (List.mem_of_getElem? (i := 127) rfl)) rfl, mI_X10, by decide +kernel⟩
theorem bX10_body : gwV yX10_body cX10_body 2 ((some .int)) RX10 1 := ⟨gw_t (tb2 (List.mem_of_getElem? (i := 136) rfl)) rfl, gw_t (tb2 (List.mem_of_getElem? (i := 134) rfl)) rfl, gw_t (tb2 (List.mem_of_getElem? (i := 135) rfl)) rfl, mI_X10, by decide +kernel⟩
theorem bX10_hook : gwV yX10_hook cX10_hook 1 ((some .int)) RX10 0 := ⟨gw_t (tb2 (List.mem_of_getElem? (i := 141) rfl)) rfl, gw_t (tb2 (List.mem_of_getElem? (i := 139) rfl)) rfl, gw_t (tb2 (List.mem_of_getElem? (i := 140) rfl)) rfl, mI_X10, by decide +kernel⟩
theorem bX10_buffer : gwV yX10_buffer cX10_buffer 1 ((some .int)) RX10 0 := ⟨gw_t (tb2 (List.mem_of_getElem? (i := 145) rfl)) rfl, gw_t (tb2 (List.mem_of_getElem? (i := 143) rfl)) rfl, gw_t (tb2 (List.mem_of_getElem? (i := 144) rfl)) rfl, mI_X10, by decide +kernel⟩
theorem bL_acts : gwS yL_acts cL_acts 13 ((some .boolean)) 7 := ⟨gw_t (tb2 (List.mem_of_getElem? (i := 148) rfl)) rfl, gw_t (tb2 (List.mem_of_getElem? (i := 147) rfl)) rfl, mI_L, by decide +kernel⟩
theorem bL_low : gwS yL_low cL_low 2 ((some .int)) 2 := ⟨gw_t (tb2 (List.mem_of_getElem? (i := 151) rfl)) rfl, gw_t (tb2 (List.mem_of_getElem? (i := 150) rfl)) rfl, mI_L, by decide +kernel⟩
theorem bL_makes : gwS yL_makes cL_makes 13 ((some .boolean)) 5 := ⟨gw_t (tb2 (List.mem_of_getElem? (i := 155) rfl)) rfl, gw_t (tb2 (List.mem_of_getElem? (i := 154) rfl)) rfl, mI_L, by decide +kernel⟩
theorem bL_firstOf : gwS yL_firstOf cL_firstOf 3 ((some .int)) 3 := ⟨gw_t (tb2 (List.mem_of_getElem? (i := 158) rfl)) rfl, gw_t (tb2 (List.mem_of_getElem? (i := 157) rfl)) rfl, mI_L, by decide +kernel⟩
theorem bL_part : gwS yL_part cL_part 3 ((some .int)) 2 := ⟨gw_t (tb2 (List.mem_of_getElem? (i := 161) rfl)) rfl, gw_t (tb2 (List.mem_of_getElem? (i := 160) rfl)) rfl, mI_L, by decide +kernel⟩
theorem bL_hasSecond : gwS yL_hasSecond cL_hasSecond 1 ((some .boolean)) 1 := ⟨gw_t (tb2 (List.mem_of_getElem? (i := 164) rfl)) rfl, gw_t (tb2 (List.mem_of_getElem? (i := 163) rfl)) rfl, mI_L, by decide +kernel⟩
theorem bX10_node : gwV yX10_node cX10_node 5 ((some .int)) RX10 4 := ⟨gw_t (tb2 (List.mem_of_getElem? (i := 173) rfl)) rfl, gw_t (tb2 (List.mem_of_getElem? (i := 171) rfl)) rfl, gw_t (tb2 (List.mem_of_getElem? (i := 172) rfl)) rfl, mI_X10, by decide +kernel⟩
theorem bX4_lacksPart : gwV yX4_lacksPart cX4_lacksPart 8 ((some .boolean)) RX4 4 := ⟨gw_t (tb2 (List.mem_of_getElem? (i := 177) rfl)) rfl, gw_t (tb2 (List.mem_of_getElem? (i := 175) rfl)) rfl, gw_t (tb2 (List.mem_of_getElem? (i := 176) rfl)) rfl, mI_X4, by decide +kernel⟩
theorem bX4_shapeOf : gwS yX4_shapeOf cX4_shapeOf 5 ((some .char)) 3 := ⟨gw_t (tb2 (List.mem_of_getElem? (i := 180) rfl)) rfl, gw_t (tb2 (List.mem_of_getElem? (i := 179) rfl)) rfl, mI_X4, by decide +kernel⟩
theorem bJ0_length_8abf5 : gwV yJ0_length_8abf5 cJ0_length_8abf5 1 ((some .int)) RJ0 0 := ⟨gw_t (tb2 (List.mem_of_getElem? (i := 186) rfl)) rfl, gw_t (tb2 (List.mem_of_getElem? (i := 184) rfl)) rfl, gw_t (tb2 (List.mem_of_getElem? (i := 185) rfl)) rfl, mI_J0, by decide +kernel⟩
theorem bJ0_coder_7d493 : gwV yJ0_coder_7d493 cJ0_coder_7d493 1 ((some .byte)) RJ0 0 := ⟨gw_t (tb2 (List.mem_of_getElem? (i := 190) rfl)) rfl, gw_t (tb2 (List.mem_of_getElem? (i := 188) rfl)) rfl, gw_t (tb2 (List.mem_of_getElem? (i := 189) rfl)) rfl, mI_J0, by decide +kernel⟩
theorem bJ0_charAt_5068e : gwV yJ0_charAt_5068e cJ0_charAt_5068e 2 ((some .char)) RJ0 1 := ⟨gw_t (tb2 (List.mem_of_getElem? (i := 196) rfl)) rfl, gw_t (tb2 (List.mem_of_getElem? (i := 194) rfl)) rfl, gw_t (tb2 (List.mem_of_getElem? (i := 195) rfl)) rfl, mI_J0, by decide +kernel⟩
theorem bJ0_isLatin1_aae02 : gwV yJ0_isLatin1_aae02 cJ0_isLatin1_aae02 1 ((some .boolean)) RJ0 0 := ⟨gw_t (tb2 (List.mem_of_getElem? (i := 200) rfl)) rfl, gw_t (tb2 (List.mem_of_getElem? (i := 198) rfl)) rfl, gw_t (tb2 (List.mem_of_getElem? (i := 199) rfl)) rfl, mI_J0, by decide +kernel⟩
theorem bJ1_charAt_3b067 : gwS yJ1_charAt_3b067 cJ1_charAt_3b067 2 ((some .char)) 2 := ⟨gw_t (tb2 (List.mem_of_getElem? (i := 203) rfl)) rfl, gw_t (tb2 (List.mem_of_getElem? (i := 202) rfl)) rfl, mI_J1, by decide +kernel⟩
theorem bJ0_checkIndex_df160 : gwS yJ0_checkIndex_df160 cJ0_checkIndex_df160 2 (none) 2 := ⟨gw_t (tb2 (List.mem_of_getElem? (i := 206) rfl)) rfl, gw_t (tb2 (List.mem_of_getElem? (i := 205) rfl)) rfl, mI_J0, by decide +kernel⟩
theorem bJ3_checkIndex_8e157 : gwS yJ3_checkIndex_8e157 cJ3_checkIndex_8e157 3 ((some .int)) 3 := ⟨gw_t (tb2 (List.mem_of_getElem? (i := 211) rfl)) rfl, gw_t (tb2 (List.mem_of_getElem? (i := 210) rfl)) rfl, mI_J3, by decide +kernel⟩
theorem bJ2_charAt_3b067 : gwS yJ2_charAt_3b067 cJ2_charAt_3b067 2 ((some .char)) 2 := ⟨gw_t (tb2 (List.mem_of_getElem? (i := 214) rfl)) rfl, gw_t (tb2 (List.mem_of_getElem? (i := 213) rfl)) rfl, mI_J2, by decide +kernel⟩
theorem bJ2_checkIndex_2214a : gwS yJ2_checkIndex_2214a cJ2_checkIndex_2214a 2 (none) 2 := ⟨gw_t (tb2 (List.mem_of_getElem? (i := 217) rfl)) rfl, gw_t (tb2 (List.mem_of_getElem? (i := 216) rfl)) rfl, mI_J2, by decide +kernel⟩
theorem bJ2_length_9d52b : gwS yJ2_length_9d52b cJ2_length_9d52b 1 ((some .int)) 1 := ⟨gw_t (tb2 (List.mem_of_getElem? (i := 220) rfl)) rfl, gw_t (tb2 (List.mem_of_getElem? (i := 219) rfl)) rfl, mI_J2, by decide +kernel⟩
theorem bJ2_getChar_3b067 : gwS yJ2_getChar_3b067 cJ2_getChar_3b067 2 ((some .char)) 2 := ⟨gw_t (tb2 (List.mem_of_getElem? (i := 224) rfl)) rfl, gw_t (tb2 (List.mem_of_getElem? (i := 223) rfl)) rfl, mI_J2, by decide +kernel⟩
theorem bX4_choose : gwS yX4_choose cX4_choose 4 ((some .int)) 4 := ⟨gw_t (tb2 (List.mem_of_getElem? (i := 233) rfl)) rfl, gw_t (tb2 (List.mem_of_getElem? (i := 232) rfl)) rfl, mI_X4, by decide +kernel⟩
theorem bX4_has : gwV yX4_has cX4_has 2 ((some .boolean)) RX4 1 := ⟨gw_t (tb2 (List.mem_of_getElem? (i := 237) rfl)) rfl, gw_t (tb2 (List.mem_of_getElem? (i := 235) rfl)) rfl, gw_t (tb2 (List.mem_of_getElem? (i := 236) rfl)) rfl, mI_X4, by decide +kernel⟩
theorem bX4_isShaped : gwV yX4_isShaped cX4_isShaped 6 ((some .boolean)) RX4 4 := ⟨gw_t (tb3 (List.mem_of_getElem? (i := 2) rfl)) rfl, gw_t (tb3 (List.mem_of_getElem? (i := 0) rfl)) rfl, gw_t (tb3 (List.mem_of_getElem? (i := 1) rfl)) rfl, mI_X4, by decide +kernel⟩
theorem bX4_fits : gwS yX4_fits cX4_fits 2 ((some .boolean)) 2 := ⟨gw_t (tb3 (List.mem_of_getElem? (i := 5) rfl)) rfl, gw_t (tb3 (List.mem_of_getElem? (i := 4) rfl)) rfl, mI_X4, by decide +kernel⟩
theorem bX10_isNumber : gwS yX10_isNumber cX10_isNumber 1 ((some .boolean)) 1 := ⟨gw_t (tb3 (List.mem_of_getElem? (i := 8) rfl)) rfl, gw_t (tb3 (List.mem_of_getElem? (i := 7) rfl)) rfl, mI_X10, by decide +kernel⟩
theorem bX4_hasRoom : gwV yX4_hasRoom cX4_hasRoom 5 ((some .boolean)) RX4 4 := ⟨gw_t (tb3 (List.mem_of_getElem? (i := 28) rfl)) rfl, gw_t (tb3 (List.mem_of_getElem? (i := 26) rfl)) rfl, gw_t (tb3 (List.mem_of_getElem? (i := 27) rfl)) rfl, mI_X4, by decide +kernel⟩
theorem bX4_sizeWith : gwV yX4_sizeWith cX4_sizeWith 9 ((some .int)) RX4 4 := ⟨gw_t (tb3 (List.mem_of_getElem? (i := 32) rfl)) rfl, gw_t (tb3 (List.mem_of_getElem? (i := 31) rfl)) rfl, pv_sel (q := (yX4_sizeWith, 8)) (pv1 (List.mem_of_getElem? (i := 1) rfl)) rfl, mI_X4, by decide +kernel⟩
theorem bX4_add : gwV yX4_add cX4_add 6 ((some .int)) RX4 4 := ⟨gw_t (tb3 (List.mem_of_getElem? (i := 53) rfl)) rfl, gw_t (tb3 (List.mem_of_getElem? (i := 51) rfl)) rfl, gw_t (tb3 (List.mem_of_getElem? (i := 52) rfl)) rfl, mI_X4, by decide +kernel⟩
theorem bX0_translate : gwV yX0_translate cX0_translate 6 ((some .int)) RX0 4 := ⟨gw_t (tb3 (List.mem_of_getElem? (i := 58) rfl)) rfl, gw_t (tb3 (List.mem_of_getElem? (i := 56) rfl)) rfl, gw_t (tb3 (List.mem_of_getElem? (i := 57) rfl)) rfl, mI_X0, by decide +kernel⟩
theorem bX0_emit : gwV yX0_emit cX0_emit 3 (none) RX0 2 := ⟨gw_t (tb3 (List.mem_of_getElem? (i := 62) rfl)) rfl, gw_t (tb3 (List.mem_of_getElem? (i := 61) rfl)) rfl, pv_sel (q := (yX0_emit, 3)) (pv1 (List.mem_of_getElem? (i := 2) rfl)) rfl, mI_X0, by decide +kernel⟩
theorem bX0_translateCall : gwV yX0_translateCall cX0_translateCall 5 (none) RX0 3 := ⟨gw_t (tb3 (List.mem_of_getElem? (i := 67) rfl)) rfl, gw_t (tb3 (List.mem_of_getElem? (i := 66) rfl)) rfl, pv_sel (q := (yX0_translateCall, 3)) (pv1 (List.mem_of_getElem? (i := 3) rfl)) rfl, mI_X0, by decide +kernel⟩
theorem bX0_translateInsert : gwV yX0_translateInsert cX0_translateInsert 3 (none) RX0 1 := ⟨gw_t (tb3 (List.mem_of_getElem? (i := 71) rfl)) rfl, gw_t (tb3 (List.mem_of_getElem? (i := 70) rfl)) rfl, pv_sel (q := (yX0_translateInsert, 3)) (pv1 (List.mem_of_getElem? (i := 4) rfl)) rfl, mI_X0, by decide +kernel⟩
theorem bX0_translateParts : gwV yX0_translateParts cX0_translateParts 5 (none) RX0 4 := ⟨gw_t (tb3 (List.mem_of_getElem? (i := 75) rfl)) rfl, gw_t (tb3 (List.mem_of_getElem? (i := 74) rfl)) rfl, pv_sel (q := (yX0_translateParts, 3)) (pv1 (List.mem_of_getElem? (i := 5) rfl)) rfl, mI_X0, by decide +kernel⟩
theorem bX0_translateIf : gwV yX0_translateIf cX0_translateIf 5 (none) RX0 3 := ⟨gw_t (tb3 (List.mem_of_getElem? (i := 79) rfl)) rfl, gw_t (tb3 (List.mem_of_getElem? (i := 78) rfl)) rfl, pv_sel (q := (yX0_translateIf, 3)) (pv1 (List.mem_of_getElem? (i := 6) rfl)) rfl, mI_X0, by decide +kernel⟩
theorem bX0_translateLoop : gwV yX0_translateLoop cX0_translateLoop 3 (none) RX0 1 := ⟨gw_t (tb3 (List.mem_of_getElem? (i := 83) rfl)) rfl, gw_t (tb3 (List.mem_of_getElem? (i := 82) rfl)) rfl, pv_sel (q := (yX0_translateLoop, 3)) (pv1 (List.mem_of_getElem? (i := 7) rfl)) rfl, mI_X0, by decide +kernel⟩
theorem bX0_translateTry : gwV yX0_translateTry cX0_translateTry 5 (none) RX0 3 := ⟨gw_t (tb3 (List.mem_of_getElem? (i := 87) rfl)) rfl, gw_t (tb3 (List.mem_of_getElem? (i := 86) rfl)) rfl, pv_sel (q := (yX0_translateTry, 3)) (pv1 (List.mem_of_getElem? (i := 8) rfl)) rfl, mI_X0, by decide +kernel⟩
theorem bX0_translateFinally : gwV yX0_translateFinally cX0_translateFinally 4 (none) RX0 2 := ⟨gw_t (tb3 (List.mem_of_getElem? (i := 91) rfl)) rfl, gw_t (tb3 (List.mem_of_getElem? (i := 90) rfl)) rfl, pv_sel (q := (yX0_translateFinally, 3)) (pv1 (List.mem_of_getElem? (i := 9) rfl)) rfl, mI_X0, by decide +kernel⟩
theorem bX0_translateOption : gwV yX0_translateOption cX0_translateOption 5 (none) RX0 3 := ⟨gw_t (tb3 (List.mem_of_getElem? (i := 95) rfl)) rfl, gw_t (tb3 (List.mem_of_getElem? (i := 94) rfl)) rfl, pv_sel (q := (yX0_translateOption, 3)) (pv1 (List.mem_of_getElem? (i := 10) rfl)) rfl, mI_X0, by decide +kernel⟩
theorem bX0_translateEach : gwV yX0_translateEach cX0_translateEach 3 (none) RX0 1 := ⟨gw_t (tb3 (List.mem_of_getElem? (i := 99) rfl)) rfl, gw_t (tb3 (List.mem_of_getElem? (i := 98) rfl)) rfl, pv_sel (q := (yX0_translateEach, 3)) (pv1 (List.mem_of_getElem? (i := 11) rfl)) rfl, mI_X0, by decide +kernel⟩
theorem bX10_size : gwV yX10_size cX10_size 2 ((some .int)) RX10 1 := ⟨gw_t (tb3 (List.mem_of_getElem? (i := 108) rfl)) rfl, gw_t (tb3 (List.mem_of_getElem? (i := 106) rfl)) rfl, gw_t (tb3 (List.mem_of_getElem? (i := 107) rfl)) rfl, mI_X10, by decide +kernel⟩
theorem bL_told : gwS yL_told cL_told 5 ((some .boolean)) 2 := ⟨gw_t (tb3 (List.mem_of_getElem? (i := 112) rfl)) rfl, gw_t (tb3 (List.mem_of_getElem? (i := 111) rfl)) rfl, mI_L, by decide +kernel⟩
theorem bX10_outcome : gwV yX10_outcome cX10_outcome 1 ((some .int)) RX10 0 := ⟨gw_t (tb3 (List.mem_of_getElem? (i := 117) rfl)) rfl, gw_t (tb3 (List.mem_of_getElem? (i := 115) rfl)) rfl, gw_t (tb3 (List.mem_of_getElem? (i := 116) rfl)) rfl, mI_X10, by decide +kernel⟩
theorem bX10_steps : gwV yX10_steps cX10_steps 1 ((some .int)) RX10 0 := ⟨gw_t (tb3 (List.mem_of_getElem? (i := 121) rfl)) rfl, gw_t (tb3 (List.mem_of_getElem? (i := 119) rfl)) rfl, gw_t (tb3 (List.mem_of_getElem? (i := 120) rfl)) rfl, mI_X10, by decide +kernel⟩
theorem bX10_cause : gwV yX10_cause cX10_cause 1 ((some .int)) RX10 0 := ⟨gw_t (tb3 (List.mem_of_getElem? (i := 125) rfl)) rfl, gw_t (tb3 (List.mem_of_getElem? (i := 123) rfl)) rfl, gw_t (tb3 (List.mem_of_getElem? (i := 124) rfl)) rfl, mI_X10, by decide +kernel⟩
theorem bX10_traced : gwV yX10_traced cX10_traced 1 ((some .int)) RX10 0 := ⟨gw_t (tb3 (List.mem_of_getElem? (i := 129) rfl)) rfl, gw_t (tb3 (List.mem_of_getElem? (i := 127) rfl)) rfl, gw_t (tb3 (List.mem_of_getElem? (i := 128) rfl)) rfl, mI_X10, by decide +kernel⟩
theorem bX10_next : gwV yX10_next cX10_next 2 ((some .int)) RX10 0 := ⟨gw_t (tb3 (List.mem_of_getElem? (i := 134) rfl)) rfl, gw_t (tb3 (List.mem_of_getElem? (i := 132) rfl)) rfl, gw_t (tb3 (List.mem_of_getElem? (i := 133) rfl)) rfl, mI_X10, by decide +kernel⟩
theorem bX10_steppedMachine : gwV yX10_steppedMachine cX10_steppedMachine 1 ((some (.object "Macroloom$Machine"))) RX10 0 := ⟨gw_t (tb3 (List.mem_of_getElem? (i := 138) rfl)) rfl, gw_t (tb3 (List.mem_of_getElem? (i := 137) rfl)) rfl, pv_sel (q := (yX10_steppedMachine, 6)) (pv1 (List.mem_of_getElem? (i := 12) rfl)) rfl, mI_X10, by decide +kernel⟩
theorem bX2_waitingNode : gwV yX2_waitingNode cX2_waitingNode 1 ((some .int)) RX2 0 := ⟨gw_t (tb3 (List.mem_of_getElem? (i := 142) rfl)) rfl, gw_t (tb3 (List.mem_of_getElem? (i := 140) rfl)) rfl, gw_t (tb3 (List.mem_of_getElem? (i := 141) rfl)) rfl, mI_X2, by decide +kernel⟩
theorem bX10_active : gwV yX10_active cX10_active 2 ((some .int)) RX10 0 := ⟨gw_t (tb3 (List.mem_of_getElem? (i := 147) rfl)) rfl, gw_t (tb3 (List.mem_of_getElem? (i := 145) rfl)) rfl, gw_t (tb3 (List.mem_of_getElem? (i := 146) rfl)) rfl, mI_X10, by decide +kernel⟩
theorem bX10_traceAt : gwV yX10_traceAt cX10_traceAt 2 ((some .int)) RX10 1 := ⟨gw_t (tb3 (List.mem_of_getElem? (i := 154) rfl)) rfl, gw_t (tb3 (List.mem_of_getElem? (i := 152) rfl)) rfl, gw_t (tb3 (List.mem_of_getElem? (i := 153) rfl)) rfl, mI_X10, by decide +kernel⟩
theorem bL_runs : gwS yL_runs cL_runs 13 ((some .boolean)) 7 := ⟨gw_t (tb3 (List.mem_of_getElem? (i := 158) rfl)) rfl, gw_t (tb3 (List.mem_of_getElem? (i := 157) rfl)) rfl, mI_L, by decide +kernel⟩
theorem bL_letters : gwS yL_letters cL_letters 7 ((some .boolean)) 3 := ⟨gw_t (tb3 (List.mem_of_getElem? (i := 161) rfl)) rfl, gw_t (tb3 (List.mem_of_getElem? (i := 160) rfl)) rfl, mI_L, by decide +kernel⟩
theorem bX10_register : gwV yX10_register cX10_register 2 ((some .int)) RX10 1 := ⟨gw_t (tb3 (List.mem_of_getElem? (i := 168) rfl)) rfl, gw_t (tb3 (List.mem_of_getElem? (i := 166) rfl)) rfl, gw_t (tb3 (List.mem_of_getElem? (i := 167) rfl)) rfl, mI_X10, by decide +kernel⟩
theorem bX10_tried : gwV yX10_tried cX10_tried 2 ((some .int)) RX10 1 := ⟨gw_t (tb3 (List.mem_of_getElem? (i := 176) rfl)) rfl, gw_t (tb3 (List.mem_of_getElem? (i := 174) rfl)) rfl, gw_t (tb3 (List.mem_of_getElem? (i := 175) rfl)) rfl, mI_X10, by decide +kernel⟩
theorem bX10_isStepped : gwV yX10_isStepped cX10_isStepped 1 ((some .boolean)) RX10 0 := ⟨gw_t (tb3 (List.mem_of_getElem? (i := 180) rfl)) rfl, gw_t (tb3 (List.mem_of_getElem? (i := 179) rfl)) rfl, pv_sel (q := (yX10_isStepped, 6)) (pv1 (List.mem_of_getElem? (i := 13) rfl)) rfl, mI_X10, by decide +kernel⟩
theorem bX10_tryOut : gwV yX10_tryOut cX10_tryOut 3 ((some (.object "Macroloom$Report"))) RX10 1 := ⟨gw_t (tb3 (List.mem_of_getElem? (i := 185) rfl)) rfl, gw_t (tb3 (List.mem_of_getElem? (i := 184) rfl)) rfl, pv_sel (q := (yX10_tryOut, 6)) (pv1 (List.mem_of_getElem? (i := 14) rfl)) rfl, mI_X10, by decide +kernel⟩
theorem bX10_readyMachine : gwV yX10_readyMachine cX10_readyMachine 1 ((some (.object "Macroloom$Machine"))) RX10 0 := ⟨gw_t (tb3 (List.mem_of_getElem? (i := 189) rfl)) rfl, gw_t (tb3 (List.mem_of_getElem? (i := 188) rfl)) rfl, pv_sel (q := (yX10_readyMachine, 6)) (pv1 (List.mem_of_getElem? (i := 15) rfl)) rfl, mI_X10, by decide +kernel⟩
theorem bX2_init : gwI yX2_init cX2_init 4 3 := ⟨gw_t (tb3 (List.mem_of_getElem? (i := 194) rfl)) rfl, gw_t (tb3 (List.mem_of_getElem? (i := 193) rfl)) rfl, mI_X2, rfl, by decide +kernel⟩
theorem bX1_init : gwI yX1_init cX1_init 1 0 := ⟨gw_t (tb3 (List.mem_of_getElem? (i := 202) rfl)) rfl, gw_t (tb3 (List.mem_of_getElem? (i := 201) rfl)) rfl, mI_X1, rfl, by decide +kernel⟩
theorem bX7_init : gwI yX7_init cX7_init 1 0 := ⟨gw_t (tb4 (List.mem_of_getElem? (i := 16) rfl)) rfl, gw_t (tb4 (List.mem_of_getElem? (i := 15) rfl)) rfl, mI_X7, rfl, by decide +kernel⟩
theorem bX3_init : gwI yX3_init cX3_init 1 0 := ⟨gw_t (tb4 (List.mem_of_getElem? (i := 35) rfl)) rfl, gw_t (tb4 (List.mem_of_getElem? (i := 34) rfl)) rfl, mI_X3, rfl, by decide +kernel⟩
theorem bX2_open : gwV yX2_open cX2_open 4 (none) RX2 3 := ⟨gw_t (tb4 (List.mem_of_getElem? (i := 131) rfl)) rfl, gw_t (tb4 (List.mem_of_getElem? (i := 129) rfl)) rfl, gw_t (tb4 (List.mem_of_getElem? (i := 130) rfl)) rfl, mI_X2, by decide +kernel⟩
theorem bX9_become : gwV yX9_become cX9_become 2 (none) RX9 1 := ⟨gw_t (tb4 (List.mem_of_getElem? (i := 135) rfl)) rfl, gw_t (tb4 (List.mem_of_getElem? (i := 133) rfl)) rfl, gw_t (tb4 (List.mem_of_getElem? (i := 134) rfl)) rfl, mI_X9, by decide +kernel⟩
theorem bX9_becomeButRegisters : gwV yX9_becomeButRegisters cX9_becomeButRegisters 2 (none) RX9 1 := ⟨gw_t (tb4 (List.mem_of_getElem? (i := 139) rfl)) rfl, gw_t (tb4 (List.mem_of_getElem? (i := 137) rfl)) rfl, gw_t (tb4 (List.mem_of_getElem? (i := 138) rfl)) rfl, mI_X9, by decide +kernel⟩
theorem bX8_become : gwV yX8_become cX8_become 2 (none) RX8 1 := ⟨gw_t (tb4 (List.mem_of_getElem? (i := 143) rfl)) rfl, gw_t (tb4 (List.mem_of_getElem? (i := 141) rfl)) rfl, gw_t (tb4 (List.mem_of_getElem? (i := 142) rfl)) rfl, mI_X8, by decide +kernel⟩
theorem bX6_become : gwV yX6_become cX6_become 2 (none) RX6 1 := ⟨gw_t (tb4 (List.mem_of_getElem? (i := 147) rfl)) rfl, gw_t (tb4 (List.mem_of_getElem? (i := 145) rfl)) rfl, gw_t (tb4 (List.mem_of_getElem? (i := 146) rfl)) rfl, mI_X6, by decide +kernel⟩
theorem bJ9_min_7cf53 : gwS yJ9_min_7cf53 cJ9_min_7cf53 2 ((some .int)) 2 := ⟨gw_t (tb4 (List.mem_of_getElem? (i := 150) rfl)) rfl, gw_t (tb4 (List.mem_of_getElem? (i := 149) rfl)) rfl, mI_J9, by decide +kernel⟩
theorem bX7_clear : gwV yX7_clear cX7_clear 1 (none) RX7 0 := ⟨gw_t (tb4 (List.mem_of_getElem? (i := 158) rfl)) rfl, gw_t (tb4 (List.mem_of_getElem? (i := 156) rfl)) rfl, gw_t (tb4 (List.mem_of_getElem? (i := 157) rfl)) rfl, mI_X7, by decide +kernel⟩
theorem bX3_clear : gwV yX3_clear cX3_clear 1 (none) RX3 0 := ⟨gw_t (tb4 (List.mem_of_getElem? (i := 162) rfl)) rfl, gw_t (tb4 (List.mem_of_getElem? (i := 160) rfl)) rfl, gw_t (tb4 (List.mem_of_getElem? (i := 161) rfl)) rfl, mI_X3, by decide +kernel⟩
theorem bX7_open : gwV yX7_open cX7_open 4 ((some .int)) RX7 1 := ⟨gw_t (tb4 (List.mem_of_getElem? (i := 167) rfl)) rfl, gw_t (tb4 (List.mem_of_getElem? (i := 165) rfl)) rfl, gw_t (tb4 (List.mem_of_getElem? (i := 166) rfl)) rfl, mI_X7, by decide +kernel⟩
theorem bX2_begin : gwV yX2_begin cX2_begin 5 (none) RX2 3 := ⟨gw_t (tb4 (List.mem_of_getElem? (i := 172) rfl)) rfl, gw_t (tb4 (List.mem_of_getElem? (i := 171) rfl)) rfl, pv_sel (q := (yX2_begin, 20)) (pv2 (List.mem_of_getElem? (i := 0) rfl)) rfl, mI_X2, by decide +kernel⟩
theorem bX2_advance : gwV yX2_advance cX2_advance 8 ((some .int)) RX2 2 := ⟨gw_t (tb4 (List.mem_of_getElem? (i := 177) rfl)) rfl, gw_t (tb4 (List.mem_of_getElem? (i := 175) rfl)) rfl, gw_t (tb4 (List.mem_of_getElem? (i := 176) rfl)) rfl, mI_X2, by decide +kernel⟩
theorem bX2_letBegin : gwV yX2_letBegin cX2_letBegin 1 (none) RX2 0 := ⟨gw_t (tb4 (List.mem_of_getElem? (i := 183) rfl)) rfl, gw_t (tb4 (List.mem_of_getElem? (i := 182) rfl)) rfl, pv_sel (q := (yX2_letBegin, 20)) (pv2 (List.mem_of_getElem? (i := 1) rfl)) rfl, mI_X2, by decide +kernel⟩
theorem bX2_fail : gwV yX2_fail cX2_fail 2 (none) RX2 1 := ⟨gw_t (tb4 (List.mem_of_getElem? (i := 187) rfl)) rfl, gw_t (tb4 (List.mem_of_getElem? (i := 186) rfl)) rfl, pv_sel (q := (yX2_fail, 20)) (pv2 (List.mem_of_getElem? (i := 2) rfl)) rfl, mI_X2, by decide +kernel⟩
theorem bX2_performBehind : gwV yX2_performBehind cX2_performBehind 3 (none) RX2 2 := ⟨gw_t (tb4 (List.mem_of_getElem? (i := 191) rfl)) rfl, gw_t (tb4 (List.mem_of_getElem? (i := 190) rfl)) rfl, pv_sel (q := (yX2_performBehind, 20)) (pv2 (List.mem_of_getElem? (i := 3) rfl)) rfl, mI_X2, by decide +kernel⟩
theorem bX2_catchError : gwV yX2_catchError cX2_catchError 3 (none) RX2 1 := ⟨gw_t (tb4 (List.mem_of_getElem? (i := 195) rfl)) rfl, gw_t (tb4 (List.mem_of_getElem? (i := 194) rfl)) rfl, pv_sel (q := (yX2_catchError, 20)) (pv2 (List.mem_of_getElem? (i := 4) rfl)) rfl, mI_X2, by decide +kernel⟩
theorem bX2_jump : gwV yX2_jump cX2_jump 2 (none) RX2 1 := ⟨gw_t (tb4 (List.mem_of_getElem? (i := 199) rfl)) rfl, gw_t (tb4 (List.mem_of_getElem? (i := 198) rfl)) rfl, pv_sel (q := (yX2_jump, 20)) (pv2 (List.mem_of_getElem? (i := 5) rfl)) rfl, mI_X2, by decide +kernel⟩
theorem bX7_bind : gwV yX7_bind cX7_bind 4 (none) RX7 3 := ⟨gw_t (tb4 (List.mem_of_getElem? (i := 203) rfl)) rfl, gw_t (tb4 (List.mem_of_getElem? (i := 201) rfl)) rfl, gw_t (tb4 (List.mem_of_getElem? (i := 202) rfl)) rfl, mI_X7, by decide +kernel⟩
theorem bX2_catchLeaving : gwV yX2_catchLeaving cX2_catchLeaving 3 (none) RX2 1 := ⟨gw_t (tb4 (List.mem_of_getElem? (i := 207) rfl)) rfl, gw_t (tb4 (List.mem_of_getElem? (i := 206) rfl)) rfl, pv_sel (q := (yX2_catchLeaving, 20)) (pv2 (List.mem_of_getElem? (i := 6) rfl)) rfl, mI_X2, by decide +kernel⟩
theorem bX2_hold : gwV yX2_hold cX2_hold 1 (none) RX2 0 := ⟨gw_t (tb4 (List.mem_of_getElem? (i := 211) rfl)) rfl, gw_t (tb4 (List.mem_of_getElem? (i := 210) rfl)) rfl, pv_sel (q := (yX2_hold, 20)) (pv2 (List.mem_of_getElem? (i := 7) rfl)) rfl, mI_X2, by decide +kernel⟩
theorem bX2_revive : gwV yX2_revive cX2_revive 1 (none) RX2 0 := ⟨gw_t (tb4 (List.mem_of_getElem? (i := 215) rfl)) rfl, gw_t (tb4 (List.mem_of_getElem? (i := 214) rfl)) rfl, pv_sel (q := (yX2_revive, 20)) (pv2 (List.mem_of_getElem? (i := 8) rfl)) rfl, mI_X2, by decide +kernel⟩
theorem bX2_chooseNextCursor : gwV yX2_chooseNextCursor cX2_chooseNextCursor 7 (none) RX2 1 := ⟨gw_t (tb4 (List.mem_of_getElem? (i := 219) rfl)) rfl, gw_t (tb4 (List.mem_of_getElem? (i := 218) rfl)) rfl, pv_sel (q := (yX2_chooseNextCursor, 20)) (pv2 (List.mem_of_getElem? (i := 9) rfl)) rfl, mI_X2, by decide +kernel⟩
theorem bX2_leaveEach : gwV yX2_leaveEach cX2_leaveEach 2 (none) RX2 0 := ⟨gw_t (tb4 (List.mem_of_getElem? (i := 224) rfl)) rfl, gw_t (tb4 (List.mem_of_getElem? (i := 223) rfl)) rfl, pv_sel (q := (yX2_leaveEach, 20)) (pv2 (List.mem_of_getElem? (i := 10) rfl)) rfl, mI_X2, by decide +kernel⟩
theorem bX8_chooseAgain : gwV yX8_chooseAgain cX8_chooseAgain 3 (none) RX8 1 := ⟨gw_t (tb4 (List.mem_of_getElem? (i := 228) rfl)) rfl, gw_t (tb4 (List.mem_of_getElem? (i := 226) rfl)) rfl, gw_t (tb4 (List.mem_of_getElem? (i := 227) rfl)) rfl, mI_X8, by decide +kernel⟩
theorem bX2_enter : gwV yX2_enter cX2_enter 2 (none) RX2 1 := ⟨gw_t (tb4 (List.mem_of_getElem? (i := 233) rfl)) rfl, gw_t (tb4 (List.mem_of_getElem? (i := 232) rfl)) rfl, pv_sel (q := (yX2_enter, 20)) (pv2 (List.mem_of_getElem? (i := 11) rfl)) rfl, mI_X2, by decide +kernel⟩
theorem bX2_noteCall : gwV yX2_noteCall cX2_noteCall 1 (none) RX2 0 := ⟨gw_t (tb4 (List.mem_of_getElem? (i := 237) rfl)) rfl, gw_t (tb4 (List.mem_of_getElem? (i := 236) rfl)) rfl, pv_sel (q := (yX2_noteCall, 20)) (pv2 (List.mem_of_getElem? (i := 12) rfl)) rfl, mI_X2, by decide +kernel⟩
theorem bX2_performFlow : gwV yX2_performFlow cX2_performFlow 4 (none) RX2 2 := ⟨gw_t (tb5 (List.mem_of_getElem? (i := 1) rfl)) rfl, gw_t (tb5 (List.mem_of_getElem? (i := 0) rfl)) rfl, pv_sel (q := (yX2_performFlow, 20)) (pv2 (List.mem_of_getElem? (i := 13) rfl)) rfl, mI_X2, by decide +kernel⟩
theorem bX2_leave : gwV yX2_leave cX2_leave 3 (none) RX2 0 := ⟨gw_t (tb5 (List.mem_of_getElem? (i := 5) rfl)) rfl, gw_t (tb5 (List.mem_of_getElem? (i := 4) rfl)) rfl, pv_sel (q := (yX2_leave, 20)) (pv2 (List.mem_of_getElem? (i := 14) rfl)) rfl, mI_X2, by decide +kernel⟩
theorem bX2_endCall : gwV yX2_endCall cX2_endCall 2 (none) RX2 1 := ⟨gw_t (tb5 (List.mem_of_getElem? (i := 9) rfl)) rfl, gw_t (tb5 (List.mem_of_getElem? (i := 8) rfl)) rfl, pv_sel (q := (yX2_endCall, 20)) (pv2 (List.mem_of_getElem? (i := 15) rfl)) rfl, mI_X2, by decide +kernel⟩
theorem bX2_endGenerator : gwV yX2_endGenerator cX2_endGenerator 3 (none) RX2 2 := ⟨gw_t (tb5 (List.mem_of_getElem? (i := 13) rfl)) rfl, gw_t (tb5 (List.mem_of_getElem? (i := 12) rfl)) rfl, pv_sel (q := (yX2_endGenerator, 20)) (pv3 (List.mem_of_getElem? (i := 0) rfl)) rfl, mI_X2, by decide +kernel⟩
theorem bX2_closeNext : gwV yX2_closeNext cX2_closeNext 2 (none) RX2 0 := ⟨gw_t (tb5 (List.mem_of_getElem? (i := 17) rfl)) rfl, gw_t (tb5 (List.mem_of_getElem? (i := 16) rfl)) rfl, pv_sel (q := (yX2_closeNext, 20)) (pv3 (List.mem_of_getElem? (i := 1) rfl)) rfl, mI_X2, by decide +kernel⟩
theorem bX3_lowestResting : gwV yX3_lowestResting cX3_lowestResting 2 ((some .int)) RX3 0 := ⟨gw_t (tb5 (List.mem_of_getElem? (i := 21) rfl)) rfl, gw_t (tb5 (List.mem_of_getElem? (i := 19) rfl)) rfl, gw_t (tb5 (List.mem_of_getElem? (i := 20) rfl)) rfl, mI_X3, by decide +kernel⟩
theorem bX1_land : gwV yX1_land cX1_land 2 (none) RX1 1 := ⟨gw_t (tb5 (List.mem_of_getElem? (i := 26) rfl)) rfl, gw_t (tb5 (List.mem_of_getElem? (i := 24) rfl)) rfl, gw_t (tb5 (List.mem_of_getElem? (i := 25) rfl)) rfl, mI_X1, by decide +kernel⟩
theorem bX2_performEditing : gwV yX2_performEditing cX2_performEditing 4 (none) RX2 2 := ⟨gw_t (tb5 (List.mem_of_getElem? (i := 32) rfl)) rfl, gw_t (tb5 (List.mem_of_getElem? (i := 31) rfl)) rfl, pv_sel (q := (yX2_performEditing, 20)) (pv3 (List.mem_of_getElem? (i := 2) rfl)) rfl, mI_X2, by decide +kernel⟩
theorem bX2_insert : gwV yX2_insert cX2_insert 3 (none) RX2 2 := ⟨gw_t (tb5 (List.mem_of_getElem? (i := 36) rfl)) rfl, gw_t (tb5 (List.mem_of_getElem? (i := 35) rfl)) rfl, pv_sel (q := (yX2_insert, 20)) (pv3 (List.mem_of_getElem? (i := 3) rfl)) rfl, mI_X2, by decide +kernel⟩
theorem bX8_insertLetter : gwV yX8_insertLetter cX8_insertLetter 5 (none) RX8 1 := ⟨gw_t (tb5 (List.mem_of_getElem? (i := 42) rfl)) rfl, gw_t (tb5 (List.mem_of_getElem? (i := 40) rfl)) rfl, gw_t (tb5 (List.mem_of_getElem? (i := 41) rfl)) rfl, mI_X8, by decide +kernel⟩
theorem bX8_activePlace : gwV yX8_activePlace cX8_activePlace 1 ((some .int)) RX8 0 := ⟨gw_t (tb5 (List.mem_of_getElem? (i := 46) rfl)) rfl, gw_t (tb5 (List.mem_of_getElem? (i := 44) rfl)) rfl, gw_t (tb5 (List.mem_of_getElem? (i := 45) rfl)) rfl, mI_X8, by decide +kernel⟩
theorem bX2_invoke : gwV yX2_invoke cX2_invoke 6 (none) RX2 2 := ⟨gw_t (tb5 (List.mem_of_getElem? (i := 50) rfl)) rfl, gw_t (tb5 (List.mem_of_getElem? (i := 49) rfl)) rfl, pv_sel (q := (yX2_invoke, 20)) (pv3 (List.mem_of_getElem? (i := 4) rfl)) rfl, mI_X2, by decide +kernel⟩
theorem bX8_eraseLetter : gwV yX8_eraseLetter cX8_eraseLetter 6 ((some .int)) RX8 0 := ⟨gw_t (tb5 (List.mem_of_getElem? (i := 55) rfl)) rfl, gw_t (tb5 (List.mem_of_getElem? (i := 53) rfl)) rfl, gw_t (tb5 (List.mem_of_getElem? (i := 54) rfl)) rfl, mI_X8, by decide +kernel⟩
theorem bX2_move : gwV yX2_move cX2_move 2 (none) RX2 1 := ⟨gw_t (tb5 (List.mem_of_getElem? (i := 59) rfl)) rfl, gw_t (tb5 (List.mem_of_getElem? (i := 58) rfl)) rfl, pv_sel (q := (yX2_move, 20)) (pv3 (List.mem_of_getElem? (i := 5) rfl)) rfl, mI_X2, by decide +kernel⟩
theorem bX8_hasPlace : gwV yX8_hasPlace cX8_hasPlace 2 ((some .boolean)) RX8 1 := ⟨gw_t (tb5 (List.mem_of_getElem? (i := 63) rfl)) rfl, gw_t (tb5 (List.mem_of_getElem? (i := 61) rfl)) rfl, gw_t (tb5 (List.mem_of_getElem? (i := 62) rfl)) rfl, mI_X8, by decide +kernel⟩
theorem bX2_addCursor : gwV yX2_addCursor cX2_addCursor 3 (none) RX2 1 := ⟨gw_t (tb5 (List.mem_of_getElem? (i := 67) rfl)) rfl, gw_t (tb5 (List.mem_of_getElem? (i := 66) rfl)) rfl, pv_sel (q := (yX2_addCursor, 20)) (pv3 (List.mem_of_getElem? (i := 6) rfl)) rfl, mI_X2, by decide +kernel⟩
theorem bX8_freeCursor : gwV yX8_freeCursor cX8_freeCursor 2 ((some .int)) RX8 0 := ⟨gw_t (tb5 (List.mem_of_getElem? (i := 71) rfl)) rfl, gw_t (tb5 (List.mem_of_getElem? (i := 69) rfl)) rfl, gw_t (tb5 (List.mem_of_getElem? (i := 70) rfl)) rfl, mI_X8, by decide +kernel⟩
theorem bX8_packedOrder : gwV yX8_packedOrder cX8_packedOrder 5 ((some .int)) RX8 0 := ⟨gw_t (tb5 (List.mem_of_getElem? (i := 75) rfl)) rfl, gw_t (tb5 (List.mem_of_getElem? (i := 73) rfl)) rfl, gw_t (tb5 (List.mem_of_getElem? (i := 74) rfl)) rfl, mI_X8, by decide +kernel⟩
theorem bX2_choose : gwV yX2_choose cX2_choose 1 (none) RX2 0 := ⟨gw_t (tb5 (List.mem_of_getElem? (i := 79) rfl)) rfl, gw_t (tb5 (List.mem_of_getElem? (i := 78) rfl)) rfl, pv_sel (q := (yX2_choose, 20)) (pv3 (List.mem_of_getElem? (i := 7) rfl)) rfl, mI_X2, by decide +kernel⟩
theorem bX2_reload : gwV yX2_reload cX2_reload 2 (none) RX2 1 := ⟨gw_t (tb5 (List.mem_of_getElem? (i := 83) rfl)) rfl, gw_t (tb5 (List.mem_of_getElem? (i := 82) rfl)) rfl, pv_sel (q := (yX2_reload, 20)) (pv3 (List.mem_of_getElem? (i := 8) rfl)) rfl, mI_X2, by decide +kernel⟩
theorem bX2_performControl : gwV yX2_performControl cX2_performControl 3 (none) RX2 2 := ⟨gw_t (tb5 (List.mem_of_getElem? (i := 87) rfl)) rfl, gw_t (tb5 (List.mem_of_getElem? (i := 86) rfl)) rfl, pv_sel (q := (yX2_performControl, 20)) (pv3 (List.mem_of_getElem? (i := 9) rfl)) rfl, mI_X2, by decide +kernel⟩
theorem bX2_loopWith : gwV yX2_loopWith cX2_loopWith 5 ((some .int)) RX2 1 := ⟨gw_t (tb5 (List.mem_of_getElem? (i := 91) rfl)) rfl, gw_t (tb5 (List.mem_of_getElem? (i := 90) rfl)) rfl, pv_sel (q := (yX2_loopWith, 20)) (pv3 (List.mem_of_getElem? (i := 10) rfl)) rfl, mI_X2, by decide +kernel⟩
theorem bX2_leaveFor : gwV yX2_leaveFor cX2_leaveFor 3 (none) RX2 2 := ⟨gw_t (tb5 (List.mem_of_getElem? (i := 95) rfl)) rfl, gw_t (tb5 (List.mem_of_getElem? (i := 94) rfl)) rfl, pv_sel (q := (yX2_leaveFor, 20)) (pv3 (List.mem_of_getElem? (i := 11) rfl)) rfl, mI_X2, by decide +kernel⟩
theorem bX2_bodyToReturn : gwV yX2_bodyToReturn cX2_bodyToReturn 2 ((some .int)) RX2 0 := ⟨gw_t (tb5 (List.mem_of_getElem? (i := 99) rfl)) rfl, gw_t (tb5 (List.mem_of_getElem? (i := 98) rfl)) rfl, pv_sel (q := (yX2_bodyToReturn, 20)) (pv3 (List.mem_of_getElem? (i := 12) rfl)) rfl, mI_X2, by decide +kernel⟩
theorem bX1_rootOf : gwV yX1_rootOf cX1_rootOf 4 ((some .int)) RX1 1 := ⟨gw_t (tb5 (List.mem_of_getElem? (i := 103) rfl)) rfl, gw_t (tb5 (List.mem_of_getElem? (i := 101) rfl)) rfl, gw_t (tb5 (List.mem_of_getElem? (i := 102) rfl)) rfl, mI_X1, by decide +kernel⟩
theorem bX3_makeFunction : gwV yX3_makeFunction cX3_makeFunction 2 ((some .int)) RX3 1 := ⟨gw_t (tb5 (List.mem_of_getElem? (i := 107) rfl)) rfl, gw_t (tb5 (List.mem_of_getElem? (i := 105) rfl)) rfl, gw_t (tb5 (List.mem_of_getElem? (i := 106) rfl)) rfl, mI_X3, by decide +kernel⟩
theorem bX2_apply : gwV yX2_apply cX2_apply 5 (none) RX2 0 := ⟨gw_t (tb5 (List.mem_of_getElem? (i := 112) rfl)) rfl, gw_t (tb5 (List.mem_of_getElem? (i := 111) rfl)) rfl, pv_sel (q := (yX2_apply, 20)) (pv3 (List.mem_of_getElem? (i := 13) rfl)) rfl, mI_X2, by decide +kernel⟩
theorem bX3_isFunction : gwV yX3_isFunction cX3_isFunction 2 ((some .boolean)) RX3 1 := ⟨gw_t (tb5 (List.mem_of_getElem? (i := 116) rfl)) rfl, gw_t (tb5 (List.mem_of_getElem? (i := 114) rfl)) rfl, gw_t (tb5 (List.mem_of_getElem? (i := 115) rfl)) rfl, mI_X3, by decide +kernel⟩
theorem bX3_functionMaker : gwV yX3_functionMaker cX3_functionMaker 2 ((some .int)) RX3 1 := ⟨gw_t (tb5 (List.mem_of_getElem? (i := 120) rfl)) rfl, gw_t (tb5 (List.mem_of_getElem? (i := 118) rfl)) rfl, gw_t (tb5 (List.mem_of_getElem? (i := 119) rfl)) rfl, mI_X3, by decide +kernel⟩
theorem bX3_makeGenerator : gwV yX3_makeGenerator cX3_makeGenerator 2 ((some .int)) RX3 1 := ⟨gw_t (tb5 (List.mem_of_getElem? (i := 124) rfl)) rfl, gw_t (tb5 (List.mem_of_getElem? (i := 122) rfl)) rfl, gw_t (tb5 (List.mem_of_getElem? (i := 123) rfl)) rfl, mI_X3, by decide +kernel⟩
theorem bX2_rest : gwV yX2_rest cX2_rest 4 (none) RX2 0 := ⟨gw_t (tb5 (List.mem_of_getElem? (i := 128) rfl)) rfl, gw_t (tb5 (List.mem_of_getElem? (i := 127) rfl)) rfl, pv_sel (q := (yX2_rest, 20)) (pv3 (List.mem_of_getElem? (i := 14) rfl)) rfl, mI_X2, by decide +kernel⟩
theorem bX2_isBarred : gwV yX2_isBarred cX2_isBarred 4 ((some .boolean)) RX2 0 := ⟨gw_t (tb5 (List.mem_of_getElem? (i := 132) rfl)) rfl, gw_t (tb5 (List.mem_of_getElem? (i := 131) rfl)) rfl, pv_sel (q := (yX2_isBarred, 20)) (pv3 (List.mem_of_getElem? (i := 15) rfl)) rfl, mI_X2, by decide +kernel⟩
theorem bX2_ask : gwV yX2_ask cX2_ask 3 (none) RX2 0 := ⟨gw_t (tb5 (List.mem_of_getElem? (i := 136) rfl)) rfl, gw_t (tb5 (List.mem_of_getElem? (i := 135) rfl)) rfl, pv_sel (q := (yX2_ask, 20)) (pv4 (List.mem_of_getElem? (i := 0) rfl)) rfl, mI_X2, by decide +kernel⟩
theorem bX3_isGenerator : gwV yX3_isGenerator cX3_isGenerator 2 ((some .boolean)) RX3 1 := ⟨gw_t (tb5 (List.mem_of_getElem? (i := 140) rfl)) rfl, gw_t (tb5 (List.mem_of_getElem? (i := 138) rfl)) rfl, gw_t (tb5 (List.mem_of_getElem? (i := 139) rfl)) rfl, mI_X3, by decide +kernel⟩
theorem bX2_goOn : gwV yX2_goOn cX2_goOn 2 (none) RX2 1 := ⟨gw_t (tb5 (List.mem_of_getElem? (i := 144) rfl)) rfl, gw_t (tb5 (List.mem_of_getElem? (i := 143) rfl)) rfl, pv_sel (q := (yX2_goOn, 20)) (pv4 (List.mem_of_getElem? (i := 1) rfl)) rfl, mI_X2, by decide +kernel⟩
theorem bX2_askFirst : gwV yX2_askFirst cX2_askFirst 3 (none) RX2 1 := ⟨gw_t (tb5 (List.mem_of_getElem? (i := 148) rfl)) rfl, gw_t (tb5 (List.mem_of_getElem? (i := 147) rfl)) rfl, pv_sel (q := (yX2_askFirst, 20)) (pv4 (List.mem_of_getElem? (i := 2) rfl)) rfl, mI_X2, by decide +kernel⟩
theorem bX3_generatorMaker : gwV yX3_generatorMaker cX3_generatorMaker 2 ((some .int)) RX3 1 := ⟨gw_t (tb5 (List.mem_of_getElem? (i := 152) rfl)) rfl, gw_t (tb5 (List.mem_of_getElem? (i := 150) rfl)) rfl, gw_t (tb5 (List.mem_of_getElem? (i := 151) rfl)) rfl, mI_X3, by decide +kernel⟩
theorem bX2_stay : gwV yX2_stay cX2_stay 2 (none) RX2 1 := ⟨gw_t (tb5 (List.mem_of_getElem? (i := 156) rfl)) rfl, gw_t (tb5 (List.mem_of_getElem? (i := 155) rfl)) rfl, pv_sel (q := (yX2_stay, 20)) (pv4 (List.mem_of_getElem? (i := 3) rfl)) rfl, mI_X2, by decide +kernel⟩
theorem bX2_performReckoning : gwV yX2_performReckoning cX2_performReckoning 4 (none) RX2 2 := ⟨gw_t (tb5 (List.mem_of_getElem? (i := 160) rfl)) rfl, gw_t (tb5 (List.mem_of_getElem? (i := 159) rfl)) rfl, pv_sel (q := (yX2_performReckoning, 20)) (pv4 (List.mem_of_getElem? (i := 4) rfl)) rfl, mI_X2, by decide +kernel⟩
theorem bX7_valueOf : gwV yX7_valueOf cX7_valueOf 4 ((some .int)) RX7 2 := ⟨gw_t (tb5 (List.mem_of_getElem? (i := 164) rfl)) rfl, gw_t (tb5 (List.mem_of_getElem? (i := 162) rfl)) rfl, gw_t (tb5 (List.mem_of_getElem? (i := 163) rfl)) rfl, mI_X7, by decide +kernel⟩
theorem bX7_holderOf : gwV yX7_holderOf cX7_holderOf 5 ((some .int)) RX7 2 := ⟨gw_t (tb5 (List.mem_of_getElem? (i := 168) rfl)) rfl, gw_t (tb5 (List.mem_of_getElem? (i := 166) rfl)) rfl, gw_t (tb5 (List.mem_of_getElem? (i := 167) rfl)) rfl, mI_X7, by decide +kernel⟩
theorem bX2_putInto : gwV yX2_putInto cX2_putInto 3 (none) RX2 2 := ⟨gw_t (tb5 (List.mem_of_getElem? (i := 175) rfl)) rfl, gw_t (tb5 (List.mem_of_getElem? (i := 174) rfl)) rfl, pv_sel (q := (yX2_putInto, 20)) (pv4 (List.mem_of_getElem? (i := 5) rfl)) rfl, mI_X2, by decide +kernel⟩
theorem bX2_reckon : gwV yX2_reckon cX2_reckon 5 (none) RX2 3 := ⟨gw_t (tb5 (List.mem_of_getElem? (i := 179) rfl)) rfl, gw_t (tb5 (List.mem_of_getElem? (i := 178) rfl)) rfl, pv_sel (q := (yX2_reckon, 20)) (pv4 (List.mem_of_getElem? (i := 6) rfl)) rfl, mI_X2, by decide +kernel⟩
theorem bX2_settle : gwV yX2_settle cX2_settle 4 (none) RX2 0 := ⟨gw_t (tb5 (List.mem_of_getElem? (i := 185) rfl)) rfl, gw_t (tb5 (List.mem_of_getElem? (i := 184) rfl)) rfl, pv_sel (q := (yX2_settle, 20)) (pv4 (List.mem_of_getElem? (i := 7) rfl)) rfl, mI_X2, by decide +kernel⟩
theorem bX5_push : gwV yX5_push cX5_push 2 (none) RX5 1 := ⟨gw_t (tb5 (List.mem_of_getElem? (i := 189) rfl)) rfl, gw_t (tb5 (List.mem_of_getElem? (i := 187) rfl)) rfl, gw_t (tb5 (List.mem_of_getElem? (i := 188) rfl)) rfl, mI_X5, by decide +kernel⟩
theorem bX10_triedSteps : gwV yX10_triedSteps cX10_triedSteps 2 ((some .int)) RX10 1 := ⟨gw_t (tb5 (List.mem_of_getElem? (i := 199) rfl)) rfl, gw_t (tb5 (List.mem_of_getElem? (i := 197) rfl)) rfl, gw_t (tb5 (List.mem_of_getElem? (i := 198) rfl)) rfl, mI_X10, by decide +kernel⟩
theorem bL_isOutcome : gwS yL_isOutcome cL_isOutcome 1 ((some .boolean)) 1 := ⟨gw_t (tb5 (List.mem_of_getElem? (i := 202) rfl)) rfl, gw_t (tb5 (List.mem_of_getElem? (i := 201) rfl)) rfl, mI_L, by decide +kernel⟩
theorem bL_same : gwS yL_same cL_same 6 ((some .boolean)) 3 := ⟨gw_t (tb5 (List.mem_of_getElem? (i := 207) rfl)) rfl, gw_t (tb5 (List.mem_of_getElem? (i := 206) rfl)) rfl, mI_L, by decide +kernel⟩
theorem bX10_run : gwV yX10_run cX10_run 3 ((some .int)) RX10 1 := ⟨gw_t (tb5 (List.mem_of_getElem? (i := 214) rfl)) rfl, gw_t (tb5 (List.mem_of_getElem? (i := 212) rfl)) rfl, gw_t (tb5 (List.mem_of_getElem? (i := 213) rfl)) rfl, mI_X10, by decide +kernel⟩
theorem bX10_start : gwV yX10_start cX10_start 2 (none) RX10 1 := ⟨gw_t (tb5 (List.mem_of_getElem? (i := 221) rfl)) rfl, gw_t (tb5 (List.mem_of_getElem? (i := 219) rfl)) rfl, gw_t (tb5 (List.mem_of_getElem? (i := 220) rfl)) rfl, mI_X10, by decide +kernel⟩
theorem bX10_look : gwV yX10_look cX10_look 3 ((some .int)) RX10 1 := ⟨gw_t (tb5 (List.mem_of_getElem? (i := 228) rfl)) rfl, gw_t (tb5 (List.mem_of_getElem? (i := 226) rfl)) rfl, gw_t (tb5 (List.mem_of_getElem? (i := 227) rfl)) rfl, mI_X10, by decide +kernel⟩
theorem bX2_seenByWaiting : gwV yX2_seenByWaiting cX2_seenByWaiting 2 ((some .int)) RX2 1 := ⟨gw_t (tb5 (List.mem_of_getElem? (i := 234) rfl)) rfl, gw_t (tb5 (List.mem_of_getElem? (i := 232) rfl)) rfl, gw_t (tb5 (List.mem_of_getElem? (i := 233) rfl)) rfl, mI_X2, by decide +kernel⟩
theorem bX10_setOption : gwV yX10_setOption cX10_setOption 4 ((some .int)) RX10 2 := ⟨gw_t (tb6 (List.mem_of_getElem? (i := 2) rfl)) rfl, gw_t (tb6 (List.mem_of_getElem? (i := 0) rfl)) rfl, gw_t (tb6 (List.mem_of_getElem? (i := 1) rfl)) rfl, mI_X10, by decide +kernel⟩
theorem bX10_write : gwV yX10_write cX10_write 4 ((some .int)) RX10 2 := ⟨gw_t (tb6 (List.mem_of_getElem? (i := 12) rfl)) rfl, gw_t (tb6 (List.mem_of_getElem? (i := 10) rfl)) rfl, gw_t (tb6 (List.mem_of_getElem? (i := 11) rfl)) rfl, mI_X10, by decide +kernel⟩
theorem bX8_append : gwV yX8_append cX8_append 2 (none) RX8 1 := ⟨gw_t (tb6 (List.mem_of_getElem? (i := 18) rfl)) rfl, gw_t (tb6 (List.mem_of_getElem? (i := 16) rfl)) rfl, gw_t (tb6 (List.mem_of_getElem? (i := 17) rfl)) rfl, mI_X8, by decide +kernel⟩
theorem bX10_define : gwV yX10_define cX10_define 6 ((some .int)) RX10 4 := ⟨gw_t (tb6 (List.mem_of_getElem? (i := 25) rfl)) rfl, gw_t (tb6 (List.mem_of_getElem? (i := 23) rfl)) rfl, gw_t (tb6 (List.mem_of_getElem? (i := 24) rfl)) rfl, mI_X10, by decide +kernel⟩
theorem bX10_step : gwV yX10_step cX10_step 3 ((some .int)) RX10 1 := ⟨gw_t (tb6 (List.mem_of_getElem? (i := 34) rfl)) rfl, gw_t (tb6 (List.mem_of_getElem? (i := 32) rfl)) rfl, gw_t (tb6 (List.mem_of_getElem? (i := 33) rfl)) rfl, mI_X10, by decide +kernel⟩
theorem bX10_isAmount : gwS yX10_isAmount cX10_isAmount 1 ((some .boolean)) 1 := ⟨gw_t (tb6 (List.mem_of_getElem? (i := 37) rfl)) rfl, gw_t (tb6 (List.mem_of_getElem? (i := 36) rfl)) rfl, mI_X10, by decide +kernel⟩
theorem bX10_giveUp : gwV yX10_giveUp cX10_giveUp 2 ((some .int)) RX10 0 := ⟨gw_t (tb6 (List.mem_of_getElem? (i := 45) rfl)) rfl, gw_t (tb6 (List.mem_of_getElem? (i := 43) rfl)) rfl, gw_t (tb6 (List.mem_of_getElem? (i := 44) rfl)) rfl, mI_X10, by decide +kernel⟩
theorem bX2_abandon : gwV yX2_abandon cX2_abandon 1 ((some .int)) RX2 0 := ⟨gw_t (tb6 (List.mem_of_getElem? (i := 49) rfl)) rfl, gw_t (tb6 (List.mem_of_getElem? (i := 47) rfl)) rfl, gw_t (tb6 (List.mem_of_getElem? (i := 48) rfl)) rfl, mI_X2, by decide +kernel⟩
theorem bL_budgets : gwS yL_budgets cL_budgets 6 ((some .boolean)) 3 := ⟨gw_t (tb6 (List.mem_of_getElem? (i := 53) rfl)) rfl, gw_t (tb6 (List.mem_of_getElem? (i := 52) rfl)) rfl, mI_L, by decide +kernel⟩
theorem bX10_setBudget : gwV yX10_setBudget cX10_setBudget 3 ((some .int)) RX10 1 := ⟨gw_t (tb6 (List.mem_of_getElem? (i := 60) rfl)) rfl, gw_t (tb6 (List.mem_of_getElem? (i := 58) rfl)) rfl, gw_t (tb6 (List.mem_of_getElem? (i := 59) rfl)) rfl, mI_X10, by decide +kernel⟩
theorem bL_gives : gwS yL_gives cL_gives 10 ((some .boolean)) 6 := ⟨gw_t (tb6 (List.mem_of_getElem? (i := 64) rfl)) rfl, gw_t (tb6 (List.mem_of_getElem? (i := 63) rfl)) rfl, mI_L, by decide +kernel⟩
theorem bX10_breakAt : gwV yX10_breakAt cX10_breakAt 4 ((some .boolean)) RX10 2 := ⟨gw_t (tb6 (List.mem_of_getElem? (i := 71) rfl)) rfl, gw_t (tb6 (List.mem_of_getElem? (i := 69) rfl)) rfl, gw_t (tb6 (List.mem_of_getElem? (i := 70) rfl)) rfl, mI_X10, by decide +kernel⟩
set_option maxRecDepth 20000 in
theorem iX0 : ∀ w ∈ u_ws RX0 TX0 3, w ∈ GW := gw_list [(0, 69), (0, 71), (0, 73)] (by decide +kernel) rfl
set_option maxRecDepth 20000 in
theorem iX1 : ∀ w ∈ u_ws RX1 TX1 11, w ∈ GW := gw_list [(2, 229), (2, 231), (2, 233), (2, 235), (2, 237), (2, 239), (3, 1), (3, 3), (3, 5), (3, 7), (3, 9)] (by decide +kernel) rfl
set_option maxRecDepth 20000 in
theorem iX2 : ∀ w ∈ u_ws RX2 TX2 20, w ∈ GW := gw_list [(3, 87), (3, 89), (3, 91), (3, 93), (3, 95), (3, 97), (3, 99), (3, 101), (3, 103), (3, 105), (3, 107), (3, 109), (3, 111), (3, 113), (3, 115), (3, 117), (3, 119), (3, 121), (3, 123), (3, 125)] (by decide +kernel) rfl
set_option maxRecDepth 20000 in
theorem iX3 : ∀ w ∈ u_ws RX3 TX3 7, w ∈ GW := gw_list [(3, 49), (3, 51), (3, 53), (3, 55), (3, 57), (3, 59), (3, 61)] (by decide +kernel) rfl
set_option maxRecDepth 20000 in
theorem iX4 : ∀ w ∈ u_ws RX4 TX4 8, w ∈ GW := gw_list [(0, 92), (0, 94), (0, 96), (0, 98), (0, 100), (0, 102), (0, 104), (0, 106)] (by decide +kernel) rfl
set_option maxRecDepth 20000 in
theorem iX5 : ∀ w ∈ u_ws RX5 TX5 5, w ∈ GW := gw_list [(0, 213), (0, 215), (0, 217), (0, 219), (0, 221)] (by decide +kernel) rfl
set_option maxRecDepth 20000 in
theorem iX6 : ∀ w ∈ u_ws RX6 TX6 1, w ∈ GW := gw_list [(0, 52)] (by decide +kernel) rfl
set_option maxRecDepth 20000 in
theorem iX7 : ∀ w ∈ u_ws RX7 TX7 3, w ∈ GW := gw_list [(3, 24), (3, 26), (3, 28)] (by decide +kernel) rfl
set_option maxRecDepth 20000 in
theorem iX8 : ∀ w ∈ u_ws RX8 TX8 4, w ∈ GW := gw_list [(0, 139), (0, 141), (0, 143), (0, 145)] (by decide +kernel) rfl
set_option maxRecDepth 20000 in
theorem iX9 : ∀ w ∈ u_ws RX9 TX9 9, w ∈ GW := gw_list [(0, 173), (0, 175), (0, 177), (0, 179), (0, 181), (0, 183), (0, 185), (0, 187), (0, 189)] (by decide +kernel) rfl
set_option maxRecDepth 20000 in
theorem iX10 : ∀ w ∈ u_ws RX10 TX10 6, w ∈ GW := gw_list [(0, 230), (0, 232), (0, 234), (0, 236), (0, 238), (1, 0)] (by decide +kernel) rfl
def nW : List Cond := [Cond.methodLinkNest RX10 11 yX4_init "Macroloom", Cond.methodLinkNest RX4 37 yX0_init "Macroloom", Cond.methodLinkNest RX10 18 yX9_init "Macroloom", Cond.methodLinkNest RX10 25 yX5_init "Macroloom", Cond.methodLinkNest RX4 46 yX10_isBelow "Macroloom", Cond.methodLinkNest RX4 78 yX10_isNumber "Macroloom", Cond.methodLinkNest RX2 11 yX9_init "Macroloom", Cond.methodLinkNest RX2 20 yX1_init "Macroloom", Cond.methodLinkNest RX2 27 yX7_init "Macroloom", Cond.methodLinkNest RX2 34 yX3_init "Macroloom", Cond.methodLinkNest RX2 265 yX10_isNumber "Macroloom", Cond.methodLinkNest RX2 423 yX10_isBelow "Macroloom"]
theorem mE_X10_11 : Cond.methodLinkNest RX10 11 yX4_init "Macroloom" ∈ nW := List.mem_of_getElem? (i := 0) rfl
theorem mE_X4_37 : Cond.methodLinkNest RX4 37 yX0_init "Macroloom" ∈ nW := List.mem_of_getElem? (i := 1) rfl
theorem mE_X10_18 : Cond.methodLinkNest RX10 18 yX9_init "Macroloom" ∈ nW := List.mem_of_getElem? (i := 2) rfl
theorem mE_X10_25 : Cond.methodLinkNest RX10 25 yX5_init "Macroloom" ∈ nW := List.mem_of_getElem? (i := 3) rfl
theorem mE_X4_46 : Cond.methodLinkNest RX4 46 yX10_isBelow "Macroloom" ∈ nW := List.mem_of_getElem? (i := 4) rfl
theorem mE_X4_78 : Cond.methodLinkNest RX4 78 yX10_isNumber "Macroloom" ∈ nW := List.mem_of_getElem? (i := 5) rfl
theorem mE_X2_11 : Cond.methodLinkNest RX2 11 yX9_init "Macroloom" ∈ nW := List.mem_of_getElem? (i := 6) rfl
theorem mE_X2_20 : Cond.methodLinkNest RX2 20 yX1_init "Macroloom" ∈ nW := List.mem_of_getElem? (i := 7) rfl
theorem mE_X2_27 : Cond.methodLinkNest RX2 27 yX7_init "Macroloom" ∈ nW := List.mem_of_getElem? (i := 8) rfl
theorem mE_X2_34 : Cond.methodLinkNest RX2 34 yX3_init "Macroloom" ∈ nW := List.mem_of_getElem? (i := 9) rfl
theorem mE_X2_265 : Cond.methodLinkNest RX2 265 yX10_isNumber "Macroloom" ∈ nW := List.mem_of_getElem? (i := 10) rfl
theorem mE_X2_423 : Cond.methodLinkNest RX2 423 yX10_isBelow "Macroloom" ∈ nW := List.mem_of_getElem? (i := 11) rfl
set_option maxRecDepth 20000 in
theorem nW_in : ∀ w ∈ nW, w ∈ lw_tbl := by
  intro w hw
  simp only [nW, List.mem_cons, List.not_mem_nil, or_false] at hw
  rcases hw with rfl | rfl | rfl | rfl | rfl | rfl | rfl | rfl | rfl | rfl | rfl | rfl
  · exact List.mem_append_right _ (tb1 (List.mem_of_getElem? (i := 35) rfl))
  · exact List.mem_append_right _ (tb1 (List.mem_of_getElem? (i := 58) rfl))
  · exact List.mem_append_right _ (tb1 (List.mem_of_getElem? (i := 111) rfl))
  · exact List.mem_append_right _ (tb1 (List.mem_of_getElem? (i := 194) rfl))
  · exact List.mem_append_right _ (tb2 (List.mem_of_getElem? (i := 181) rfl))
  · exact List.mem_append_right _ (tb3 (List.mem_of_getElem? (i := 6) rfl))
  · exact List.mem_append_right _ (tb3 (List.mem_of_getElem? (i := 197) rfl))
  · exact List.mem_append_right _ (tb3 (List.mem_of_getElem? (i := 200) rfl))
  · exact List.mem_append_right _ (tb4 (List.mem_of_getElem? (i := 14) rfl))
  · exact List.mem_append_right _ (tb4 (List.mem_of_getElem? (i := 33) rfl))
  · exact List.mem_append_right _ (tb5 (List.mem_of_getElem? (i := 37) rfl))
  · exact List.mem_append_right _ (tb5 (List.mem_of_getElem? (i := 38) rfl))
def sW : List (String × Nat × String) := [(RX10, 124, "no such buffer"), (RX10, 207, "no such buffer or cursor"), (RX10, 202, "no such buffer or place"), (RX10, 109, "no such option"), (RX10, 220, "no such slot"), (RX4, 50, "v--n--np-np-pp-pp-pp-pp-pp-pp-ppppp-p--qp-qp-q--np-pp-soop--npppp-p--p--p--p--qppq--qp-p-----p-----------p--p--p--sp-h--"), (RX10, 43, "no such node"), (RX10, 53, "kind, a, b or c is out of its range"), (RX10, 61, "too many nodes, or too large a one"), (RX10, 194, "no such place"), (RX10, 215, "no such register"), (RX10, 84, "a run is stepped"), (RX10, 182, "no such name"), (RX10, 170, "no run is stepped"), (RX10, 114, "value is out of range"), (RX10, 126, "letter is out of range"), (RX10, 137, "the text is full, or a run is stepped"), (RX10, 76, "no such slot or node"), (RX10, 78, "parameters is out of range, or does not go with the standard"), (RX10, 122, "steps is out of range")]
theorem mS_X10_124 : (RX10, 124, "no such buffer") ∈ sW := List.mem_of_getElem? (i := 0) rfl
theorem mS_X10_207 : (RX10, 207, "no such buffer or cursor") ∈ sW := List.mem_of_getElem? (i := 1) rfl
theorem mS_X10_202 : (RX10, 202, "no such buffer or place") ∈ sW := List.mem_of_getElem? (i := 2) rfl
theorem mS_X10_109 : (RX10, 109, "no such option") ∈ sW := List.mem_of_getElem? (i := 3) rfl
theorem mS_X10_220 : (RX10, 220, "no such slot") ∈ sW := List.mem_of_getElem? (i := 4) rfl
theorem mS_X4_50 : (RX4, 50, "v--n--np-np-pp-pp-pp-pp-pp-pp-ppppp-p--qp-qp-q--np-pp-soop--npppp-p--p--p--p--qppq--qp-p-----p-----------p--p--p--sp-h--") ∈ sW := List.mem_of_getElem? (i := 5) rfl
theorem mS_X10_43 : (RX10, 43, "no such node") ∈ sW := List.mem_of_getElem? (i := 6) rfl
theorem mS_X10_53 : (RX10, 53, "kind, a, b or c is out of its range") ∈ sW := List.mem_of_getElem? (i := 7) rfl
theorem mS_X10_61 : (RX10, 61, "too many nodes, or too large a one") ∈ sW := List.mem_of_getElem? (i := 8) rfl
theorem mS_X10_194 : (RX10, 194, "no such place") ∈ sW := List.mem_of_getElem? (i := 9) rfl
theorem mS_X10_215 : (RX10, 215, "no such register") ∈ sW := List.mem_of_getElem? (i := 10) rfl
theorem mS_X10_84 : (RX10, 84, "a run is stepped") ∈ sW := List.mem_of_getElem? (i := 11) rfl
theorem mS_X10_182 : (RX10, 182, "no such name") ∈ sW := List.mem_of_getElem? (i := 12) rfl
theorem mS_X10_170 : (RX10, 170, "no run is stepped") ∈ sW := List.mem_of_getElem? (i := 13) rfl
theorem mS_X10_114 : (RX10, 114, "value is out of range") ∈ sW := List.mem_of_getElem? (i := 14) rfl
theorem mS_X10_126 : (RX10, 126, "letter is out of range") ∈ sW := List.mem_of_getElem? (i := 15) rfl
theorem mS_X10_137 : (RX10, 137, "the text is full, or a run is stepped") ∈ sW := List.mem_of_getElem? (i := 16) rfl
theorem mS_X10_76 : (RX10, 76, "no such slot or node") ∈ sW := List.mem_of_getElem? (i := 17) rfl
theorem mS_X10_78 : (RX10, 78, "parameters is out of range, or does not go with the standard") ∈ sW := List.mem_of_getElem? (i := 18) rfl
theorem mS_X10_122 : (RX10, 122, "steps is out of range") ∈ sW := List.mem_of_getElem? (i := 19) rfl
