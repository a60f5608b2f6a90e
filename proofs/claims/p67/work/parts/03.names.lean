/-! ===== BEGIN printed: names, fields, word lists, decode rows ===== -/
def RX0 : String := "FalseLightMarsh$Distances"
def TX0 : u_T := fun k => match k with
  | 0 => ("FalseLightMarsh$Distances", "steps", "[I", true)
  | 1 => ("FalseLightMarsh$Distances", "known", "Z", false)
  | 2 => ("FalseLightMarsh$Distances", "queue", "[I", true)
  | _ => ("FalseLightMarsh$Distances", "queued", "I", false)
def tyX0 : Nat → FieldType := fun k => match k with
  | 0 => .array .int
  | 1 => .boolean
  | 2 => .array .int
  | _ => .int
abbrev wsX00 : List Cond := u_ws RX0 TX0 4
theorem nmX0 : ∀ a, a < 4 → ∀ b, b < 4 → a ≠ b → (TX0 a).2.1 ≠ (TX0 b).2.1 := by decide +kernel
theorem tyX0_ok : ∀ k, k < 4 → parseFieldDescriptor (TX0 k).2.2.1 = some (tyX0 k) := by decide +kernel
abbrev cX0_init : ByteArray := prog_2_method_1_code
def yX0_init : MethodName := ⟨RX0, "<init>", "()V"⟩
abbrev cX0_measureToCell : ByteArray := prog_2_method_2_code
def yX0_measureToCell : MethodName := ⟨RX0, "measureToCell", "(LFalseLightMarsh$Ground;I)V"⟩
abbrev cX0_measureToHuts : ByteArray := prog_2_method_3_code
def yX0_measureToHuts : MethodName := ⟨RX0, "measureToHuts", "(LFalseLightMarsh$Ground;)V"⟩
abbrev cX0_forgetPaths : ByteArray := prog_2_method_4_code
def yX0_forgetPaths : MethodName := ⟨RX0, "forgetPaths", "()V"⟩
abbrev cX0_spread : ByteArray := prog_2_method_5_code
def yX0_spread : MethodName := ⟨RX0, "spread", "(LFalseLightMarsh$Ground;)V"⟩
abbrev cX0_reach : ByteArray := prog_2_method_6_code
def yX0_reach : MethodName := ⟨RX0, "reach", "(LFalseLightMarsh$Ground;II)V"⟩
abbrev cX0_nextCell : ByteArray := prog_2_method_7_code
def yX0_nextCell : MethodName := ⟨RX0, "nextCell", "(LFalseLightMarsh$Ground;I)I"⟩
def RX1 : String := "FalseLightMarsh$Ground"
def TX1 : u_T := fun k => match k with
  | 0 => ("FalseLightMarsh$Ground", "columns", "I", false)
  | 1 => ("FalseLightMarsh$Ground", "rows", "I", false)
  | _ => ("FalseLightMarsh$Ground", "cells", "[I", true)
def tyX1 : Nat → FieldType := fun k => match k with
  | 0 => .int
  | 1 => .int
  | _ => .array .int
abbrev wsX10 : List Cond := u_ws RX1 TX1 3
theorem nmX1 : ∀ a, a < 3 → ∀ b, b < 3 → a ≠ b → (TX1 a).2.1 ≠ (TX1 b).2.1 := by decide +kernel
theorem tyX1_ok : ∀ k, k < 3 → parseFieldDescriptor (TX1 k).2.2.1 = some (tyX1 k) := by decide +kernel
abbrev cX1_init : ByteArray := prog_3_method_1_code
def yX1_init : MethodName := ⟨RX1, "<init>", "()V"⟩
abbrev cX1_copyFrom : ByteArray := prog_3_method_2_code
def yX1_copyFrom : MethodName := ⟨RX1, "copyFrom", "(LFalseLightMarsh$Ground;)V"⟩
abbrev cX1_contains : ByteArray := prog_3_method_3_code
def yX1_contains : MethodName := ⟨RX1, "contains", "(II)Z"⟩
abbrev cX1_holdsPlank : ByteArray := prog_3_method_4_code
def yX1_holdsPlank : MethodName := ⟨RX1, "holdsPlank", "(I)Z"⟩
abbrev cX1_takesTraveller : ByteArray := prog_3_method_5_code
def yX1_takesTraveller : MethodName := ⟨RX1, "takesTraveller", "(I)Z"⟩
abbrev cX1_countPlanks : ByteArray := prog_3_method_6_code
def yX1_countPlanks : MethodName := ⟨RX1, "countPlanks", "()I"⟩
abbrev cX1_neighbour : ByteArray := prog_3_method_7_code
def yX1_neighbour : MethodName := ⟨RX1, "neighbour", "(II)I"⟩
abbrev cX1_wear : ByteArray := prog_3_method_8_code
def yX1_wear : MethodName := ⟨RX1, "wear", "(I)Z"⟩
def RX2 : String := "FalseLightMarsh$History"
def TX2 : u_T := fun k => match k with
  | 0 => ("FalseLightMarsh$History", "count", "I", false)
  | 1 => ("FalseLightMarsh$History", "newest", "I", false)
  | _ => ("FalseLightMarsh$History", "past", "[LFalseLightMarsh$World;", true)
def tyX2 : Nat → FieldType := fun k => match k with
  | 0 => .int
  | 1 => .int
  | _ => .array (.object "FalseLightMarsh$World")
abbrev wsX20 : List Cond := u_ws RX2 TX2 3
theorem nmX2 : ∀ a, a < 3 → ∀ b, b < 3 → a ≠ b → (TX2 a).2.1 ≠ (TX2 b).2.1 := by decide +kernel
theorem tyX2_ok : ∀ k, k < 3 → parseFieldDescriptor (TX2 k).2.2.1 = some (tyX2 k) := by decide +kernel
abbrev cX2_init : ByteArray := prog_4_method_1_code
def yX2_init : MethodName := ⟨RX2, "<init>", "()V"⟩
abbrev cX2_forgetAll : ByteArray := prog_4_method_2_code
def yX2_forgetAll : MethodName := ⟨RX2, "forgetAll", "()V"⟩
abbrev cX2_remember : ByteArray := prog_4_method_3_code
def yX2_remember : MethodName := ⟨RX2, "remember", "(LFalseLightMarsh$World;)V"⟩
abbrev cX2_restoreLatest : ByteArray := prog_4_method_4_code
def yX2_restoreLatest : MethodName := ⟨RX2, "restoreLatest", "(LFalseLightMarsh$World;)V"⟩
def RX3 : String := "FalseLightMarsh$Lights"
def TX3 : u_T := fun k => match k with
  | 0 => ("FalseLightMarsh$Lights", "count", "I", false)
  | 1 => ("FalseLightMarsh$Lights", "trueSet", "I", false)
  | 2 => ("FalseLightMarsh$Lights", "cell", "[I", true)
  | 3 => ("FalseLightMarsh$Lights", "bright", "[I", true)
  | _ => ("FalseLightMarsh$Lights", "next", "[I", true)
def tyX3 : Nat → FieldType := fun k => match k with
  | 0 => .int
  | 1 => .int
  | 2 => .array .int
  | 3 => .array .int
  | _ => .array .int
abbrev wsX30 : List Cond := u_ws RX3 TX3 5
theorem nmX3 : ∀ a, a < 5 → ∀ b, b < 5 → a ≠ b → (TX3 a).2.1 ≠ (TX3 b).2.1 := by decide +kernel
theorem tyX3_ok : ∀ k, k < 5 → parseFieldDescriptor (TX3 k).2.2.1 = some (tyX3 k) := by decide +kernel
abbrev cX3_init : ByteArray := prog_5_method_1_code
def yX3_init : MethodName := ⟨RX3, "<init>", "()V"⟩
abbrev cX3_copyFrom : ByteArray := prog_5_method_2_code
def yX3_copyFrom : MethodName := ⟨RX3, "copyFrom", "(LFalseLightMarsh$Lights;)V"⟩
abbrev cX3_removeAll : ByteArray := prog_5_method_3_code
def yX3_removeAll : MethodName := ⟨RX3, "removeAll", "()V"⟩
abbrev cX3_contains : ByteArray := prog_5_method_4_code
def yX3_contains : MethodName := ⟨RX3, "contains", "(I)Z"⟩
abbrev cX3_onCell : ByteArray := prog_5_method_5_code
def yX3_onCell : MethodName := ⟨RX3, "onCell", "(I)I"⟩
abbrev cX3_put : ByteArray := prog_5_method_6_code
def yX3_put : MethodName := ⟨RX3, "put", "(IIZ)I"⟩
abbrev cX3_goesWrong : ByteArray := prog_5_method_7_code
def yX3_goesWrong : MethodName := ⟨RX3, "goesWrong", "(I)Z"⟩
abbrev cX3_countWrong : ByteArray := prog_5_method_8_code
def yX3_countWrong : MethodName := ⟨RX3, "countWrong", "()I"⟩
def RX4 : String := "FalseLightMarsh$Simulation"
def TX4 : u_T := fun k => match k with
  | _ => ("FalseLightMarsh$Simulation", "ways", "[LFalseLightMarsh$Distances;", true)
def tyX4 : Nat → FieldType := fun k => match k with
  | _ => .array (.object "FalseLightMarsh$Distances")
abbrev wsX40 : List Cond := u_ws RX4 TX4 1
theorem nmX4 : ∀ a, a < 1 → ∀ b, b < 1 → a ≠ b → (TX4 a).2.1 ≠ (TX4 b).2.1 := by decide +kernel
theorem tyX4_ok : ∀ k, k < 1 → parseFieldDescriptor (TX4 k).2.2.1 = some (tyX4 k) := by decide +kernel
abbrev cX4_init : ByteArray := prog_6_method_1_code
def yX4_init : MethodName := ⟨RX4, "<init>", "()V"⟩
abbrev cX4_run : ByteArray := prog_6_method_2_code
def yX4_run : MethodName := ⟨RX4, "run", "(LFalseLightMarsh$World;I)V"⟩
abbrev cX4_forgetWays : ByteArray := prog_6_method_3_code
def yX4_forgetWays : MethodName := ⟨RX4, "forgetWays", "()V"⟩
abbrev cX4_act : ByteArray := prog_6_method_4_code
def yX4_act : MethodName := ⟨RX4, "act", "(LFalseLightMarsh$World;I)Z"⟩
abbrev cX4_move : ByteArray := prog_6_method_5_code
def yX4_move : MethodName := ⟨RX4, "move", "(LFalseLightMarsh$World;II)Z"⟩
abbrev cX4_settle : ByteArray := prog_6_method_6_code
def yX4_settle : MethodName := ⟨RX4, "settle", "(LFalseLightMarsh$World;II)V"⟩
abbrev cX4_passLight : ByteArray := prog_6_method_7_code
def yX4_passLight : MethodName := ⟨RX4, "passLight", "(LFalseLightMarsh$World;II)V"⟩
abbrev cX4_warnOthers : ByteArray := prog_6_method_8_code
def yX4_warnOthers : MethodName := ⟨RX4, "warnOthers", "(LFalseLightMarsh$World;I)V"⟩
def RX5 : String := "FalseLightMarsh$TextReader"
def TX5 : u_T := fun k => match k with
  | 0 => ("FalseLightMarsh$TextReader", "length", "I", false)
  | 1 => ("FalseLightMarsh$TextReader", "text", "[B", true)
  | 2 => ("FalseLightMarsh$TextReader", "start", "I", false)
  | 3 => ("FalseLightMarsh$TextReader", "end", "I", false)
  | 4 => ("FalseLightMarsh$TextReader", "kind", "I", false)
  | 5 => ("FalseLightMarsh$TextReader", "value", "I", false)
  | _ => ("FalseLightMarsh$TextReader", "taken", "I", false)
def tyX5 : Nat → FieldType := fun k => match k with
  | 0 => .int
  | 1 => .array .byte
  | 2 => .int
  | 3 => .int
  | 4 => .int
  | 5 => .int
  | _ => .int
abbrev wsX50 : List Cond := u_ws RX5 TX5 7
theorem nmX5 : ∀ a, a < 7 → ∀ b, b < 7 → a ≠ b → (TX5 a).2.1 ≠ (TX5 b).2.1 := by decide +kernel
theorem tyX5_ok : ∀ k, k < 7 → parseFieldDescriptor (TX5 k).2.2.1 = some (tyX5 k) := by decide +kernel
abbrev cX5_init : ByteArray := prog_7_method_1_code
def yX5_init : MethodName := ⟨RX5, "<init>", "()V"⟩
abbrev cX5_putInt : ByteArray := prog_7_method_2_code
def yX5_putInt : MethodName := ⟨RX5, "putInt", "(I)V"⟩
abbrev cX5_putText : ByteArray := prog_7_method_3_code
def yX5_putText : MethodName := ⟨RX5, "putText", "(Ljava/lang/String;)V"⟩
abbrev cX5_putByte : ByteArray := prog_7_method_4_code
def yX5_putByte : MethodName := ⟨RX5, "putByte", "(B)V"⟩
abbrev cX5_cutTo : ByteArray := prog_7_method_5_code
def yX5_cutTo : MethodName := ⟨RX5, "cutTo", "(I)V"⟩
abbrev cX5_readInto : ByteArray := prog_7_method_6_code
def yX5_readInto : MethodName := ⟨RX5, "readInto", "(LFalseLightMarsh$World;)I"⟩
abbrev cX5_readHead : ByteArray := prog_7_method_7_code
def yX5_readHead : MethodName := ⟨RX5, "readHead", "(LFalseLightMarsh$World;)Z"⟩
abbrev cX5_readRows : ByteArray := prog_7_method_8_code
def yX5_readRows : MethodName := ⟨RX5, "readRows", "(LFalseLightMarsh$Ground;)Z"⟩
abbrev cX5_readFogs : ByteArray := prog_7_method_9_code
def yX5_readFogs : MethodName := ⟨RX5, "readFogs", "(LFalseLightMarsh$World;)Z"⟩
abbrev cX5_readLights : ByteArray := prog_7_method_10_code
def yX5_readLights : MethodName := ⟨RX5, "readLights", "(LFalseLightMarsh$World;)Z"⟩
abbrev cX5_readLight : ByteArray := prog_7_method_11_code
def yX5_readLight : MethodName := ⟨RX5, "readLight", "(LFalseLightMarsh$World;)Z"⟩
abbrev cX5_readTravellers : ByteArray := prog_7_method_12_code
def yX5_readTravellers : MethodName := ⟨RX5, "readTravellers", "(LFalseLightMarsh$World;)Z"⟩
abbrev cX5_takeWord : ByteArray := prog_7_method_13_code
def yX5_takeWord : MethodName := ⟨RX5, "takeWord", "(Ljava/lang/String;)Z"⟩
abbrev cX5_isNumber : ByteArray := prog_7_method_14_code
def yX5_isNumber : MethodName := ⟨RX5, "isNumber", "(II)Z"⟩
abbrev cX5_takeNumber : ByteArray := prog_7_method_15_code
def yX5_takeNumber : MethodName := ⟨RX5, "takeNumber", "(II)Z"⟩
abbrev cX5_takeSemicolon : ByteArray := prog_7_method_16_code
def yX5_takeSemicolon : MethodName := ⟨RX5, "takeSemicolon", "()Z"⟩
abbrev cX5_takeCells : ByteArray := prog_7_method_17_code
def yX5_takeCells : MethodName := ⟨RX5, "takeCells", "(LFalseLightMarsh$Ground;I)Z"⟩
abbrev cX5_groundOf : ByteArray := prog_7_method_18_code
def yX5_groundOf : MethodName := ⟨RX5, "groundOf", "(B)I"⟩
abbrev cX5_scan : ByteArray := prog_7_method_19_code
def yX5_scan : MethodName := ⟨RX5, "scan", "()V"⟩
abbrev cX5_readNumber : ByteArray := prog_7_method_20_code
def yX5_readNumber : MethodName := ⟨RX5, "readNumber", "()V"⟩
abbrev cX5_kindOf : ByteArray := prog_7_method_21_code
def yX5_kindOf : MethodName := ⟨RX5, "kindOf", "(B)I"⟩
def RX6 : String := "FalseLightMarsh$Travellers"
def TX6 : u_T := fun k => match k with
  | 0 => ("FalseLightMarsh$Travellers", "count", "I", false)
  | 1 => ("FalseLightMarsh$Travellers", "cell", "[I", true)
  | 2 => ("FalseLightMarsh$Travellers", "state", "[I", true)
  | 3 => ("FalseLightMarsh$Travellers", "steps", "[I", true)
  | 4 => ("FalseLightMarsh$Travellers", "goal", "[I", true)
  | 5 => ("FalseLightMarsh$Travellers", "passed", "[I", true)
  | 6 => ("FalseLightMarsh$Travellers", "distrusted", "[I", true)
  | _ => ("FalseLightMarsh$Travellers", "doneAt", "[I", true)
def tyX6 : Nat → FieldType := fun k => match k with
  | 0 => .int
  | 1 => .array .int
  | 2 => .array .int
  | 3 => .array .int
  | 4 => .array .int
  | 5 => .array .int
  | 6 => .array .int
  | _ => .array .int
abbrev wsX60 : List Cond := u_ws RX6 TX6 8
theorem nmX6 : ∀ a, a < 8 → ∀ b, b < 8 → a ≠ b → (TX6 a).2.1 ≠ (TX6 b).2.1 := by decide +kernel
theorem tyX6_ok : ∀ k, k < 8 → parseFieldDescriptor (TX6 k).2.2.1 = some (tyX6 k) := by decide +kernel
abbrev cX6_init : ByteArray := prog_8_method_1_code
def yX6_init : MethodName := ⟨RX6, "<init>", "()V"⟩
abbrev cX6_copyFrom : ByteArray := prog_8_method_2_code
def yX6_copyFrom : MethodName := ⟨RX6, "copyFrom", "(LFalseLightMarsh$Travellers;)V"⟩
abbrev cX6_put : ByteArray := prog_8_method_3_code
def yX6_put : MethodName := ⟨RX6, "put", "(I)I"⟩
abbrev cX6_finish : ByteArray := prog_8_method_4_code
def yX6_finish : MethodName := ⟨RX6, "finish", "(III)V"⟩
abbrev cX6_shuns : ByteArray := prog_8_method_5_code
def yX6_shuns : MethodName := ⟨RX6, "shuns", "(II)Z"⟩
abbrev cX6_countIn : ByteArray := prog_8_method_6_code
def yX6_countIn : MethodName := ⟨RX6, "countIn", "(I)I"⟩
abbrev cX6_countFollowing : ByteArray := prog_8_method_7_code
def yX6_countFollowing : MethodName := ⟨RX6, "countFollowing", "(I)I"⟩
abbrev cX6_sumOfSteps : ByteArray := prog_8_method_8_code
def yX6_sumOfSteps : MethodName := ⟨RX6, "sumOfSteps", "()I"⟩
def RX7 : String := "FalseLightMarsh$World"
def TX7 : u_T := fun k => match k with
  | 0 => ("FalseLightMarsh$World", "ground", "LFalseLightMarsh$Ground;", true)
  | 1 => ("FalseLightMarsh$World", "lights", "LFalseLightMarsh$Lights;", true)
  | 2 => ("FalseLightMarsh$World", "travellers", "LFalseLightMarsh$Travellers;", true)
  | 3 => ("FalseLightMarsh$World", "fog", "[I", true)
  | 4 => ("FalseLightMarsh$World", "clearness", "I", false)
  | _ => ("FalseLightMarsh$World", "time", "I", false)
def tyX7 : Nat → FieldType := fun k => match k with
  | 0 => .object "FalseLightMarsh$Ground"
  | 1 => .object "FalseLightMarsh$Lights"
  | 2 => .object "FalseLightMarsh$Travellers"
  | 3 => .array .int
  | 4 => .int
  | _ => .int
abbrev wsX70 : List Cond := u_ws RX7 TX7 6
theorem nmX7 : ∀ a, a < 6 → ∀ b, b < 6 → a ≠ b → (TX7 a).2.1 ≠ (TX7 b).2.1 := by decide +kernel
theorem tyX7_ok : ∀ k, k < 6 → parseFieldDescriptor (TX7 k).2.2.1 = some (tyX7 k) := by decide +kernel
abbrev cX7_init : ByteArray := prog_9_method_1_code
def yX7_init : MethodName := ⟨RX7, "<init>", "()V"⟩
abbrev cX7_copyFrom : ByteArray := prog_9_method_2_code
def yX7_copyFrom : MethodName := ⟨RX7, "copyFrom", "(LFalseLightMarsh$World;)V"⟩
abbrev cX7_startAnew : ByteArray := prog_9_method_3_code
def yX7_startAnew : MethodName := ⟨RX7, "startAnew", "(II)V"⟩
abbrev cX7_sightNow : ByteArray := prog_9_method_4_code
def yX7_sightNow : MethodName := ⟨RX7, "sightNow", "()I"⟩
abbrev cX7_distanceTo : ByteArray := prog_9_method_5_code
def yX7_distanceTo : MethodName := ⟨RX7, "distanceTo", "(II)I"⟩
abbrev cX7_nearestAcceptable : ByteArray := prog_9_method_6_code
def yX7_nearestAcceptable : MethodName := ⟨RX7, "nearestAcceptable", "(I)I"⟩
abbrev cX7_takesLight : ByteArray := prog_9_method_7_code
def yX7_takesLight : MethodName := ⟨RX7, "takesLight", "(I)Z"⟩
def RX8 : String := "FalseLightMarsh"
def TX8 : u_T := fun k => match k with
  | 0 => ("FalseLightMarsh", "world", "LFalseLightMarsh$World;", true)
  | 1 => ("FalseLightMarsh", "draft", "LFalseLightMarsh$World;", true)
  | 2 => ("FalseLightMarsh", "history", "LFalseLightMarsh$History;", true)
  | 3 => ("FalseLightMarsh", "snapshots", "[LFalseLightMarsh$World;", true)
  | 4 => ("FalseLightMarsh", "saved", "[Z", true)
  | 5 => ("FalseLightMarsh", "reader", "LFalseLightMarsh$TextReader;", true)
  | 6 => ("FalseLightMarsh", "simulation", "LFalseLightMarsh$Simulation;", true)
  | 7 => ("FalseLightMarsh", "distances", "LFalseLightMarsh$Distances;", true)
  | 8 => ("FalseLightMarsh", "printed", "[B", true)
  | 9 => ("FalseLightMarsh", "printedLength", "I", false)
  | _ => ("FalseLightMarsh", "error", "I", false)
def tyX8 : Nat → FieldType := fun k => match k with
  | 0 => .object "FalseLightMarsh$World"
  | 1 => .object "FalseLightMarsh$World"
  | 2 => .object "FalseLightMarsh$History"
  | 3 => .array (.object "FalseLightMarsh$World")
  | 4 => .array .boolean
  | 5 => .object "FalseLightMarsh$TextReader"
  | 6 => .object "FalseLightMarsh$Simulation"
  | 7 => .object "FalseLightMarsh$Distances"
  | 8 => .array .byte
  | 9 => .int
  | _ => .int
abbrev wsX80 : List Cond := u_ws RX8 TX8 11
theorem nmX8 : ∀ a, a < 11 → ∀ b, b < 11 → a ≠ b → (TX8 a).2.1 ≠ (TX8 b).2.1 := by decide +kernel
theorem tyX8_ok : ∀ k, k < 11 → parseFieldDescriptor (TX8 k).2.2.1 = some (tyX8 k) := by decide +kernel
abbrev cX8_init : ByteArray := prog_1_method_1_code
def yX8_init : MethodName := ⟨RX8, "<init>", "()V"⟩
abbrev cX8_append : ByteArray := prog_1_method_2_code
def yX8_append : MethodName := ⟨RX8, "append", "(IIIII)I"⟩
abbrev cX8_shorten : ByteArray := prog_1_method_3_code
def yX8_shorten : MethodName := ⟨RX8, "shorten", "(I)I"⟩
abbrev cX8_load : ByteArray := prog_1_method_4_code
def yX8_load : MethodName := ⟨RX8, "load", "()I"⟩
abbrev cX8_hasError : ByteArray := prog_1_method_5_code
def yX8_hasError : MethodName := ⟨RX8, "hasError", "()Z"⟩
abbrev cX8_errorOffset : ByteArray := prog_1_method_6_code
def yX8_errorOffset : MethodName := ⟨RX8, "errorOffset", "()I"⟩
abbrev cX8_width : ByteArray := prog_1_method_7_code
def yX8_width : MethodName := ⟨RX8, "width", "()I"⟩
abbrev cX8_height : ByteArray := prog_1_method_8_code
def yX8_height : MethodName := ⟨RX8, "height", "()I"⟩
abbrev cX8_isWater : ByteArray := prog_1_method_9_code
def yX8_isWater : MethodName := ⟨RX8, "isWater", "(II)Z"⟩
abbrev cX8_isHut : ByteArray := prog_1_method_10_code
def yX8_isHut : MethodName := ⟨RX8, "isHut", "(II)Z"⟩
abbrev cX8_isPlank : ByteArray := prog_1_method_11_code
def yX8_isPlank : MethodName := ⟨RX8, "isPlank", "(II)Z"⟩
abbrev cX8_plankStrength : ByteArray := prog_1_method_12_code
def yX8_plankStrength : MethodName := ⟨RX8, "plankStrength", "(II)I"⟩
abbrev cX8_plankCount : ByteArray := prog_1_method_13_code
def yX8_plankCount : MethodName := ⟨RX8, "plankCount", "()I"⟩
abbrev cX8_pathLength : ByteArray := prog_1_method_14_code
def yX8_pathLength : MethodName := ⟨RX8, "pathLength", "(IIII)I"⟩
abbrev cX8_stepsToHut : ByteArray := prog_1_method_15_code
def yX8_stepsToHut : MethodName := ⟨RX8, "stepsToHut", "(II)I"⟩
abbrev cX8_time : ByteArray := prog_1_method_16_code
def yX8_time : MethodName := ⟨RX8, "time", "()I"⟩
abbrev cX8_clearness : ByteArray := prog_1_method_17_code
def yX8_clearness : MethodName := ⟨RX8, "clearness", "()I"⟩
abbrev cX8_fog : ByteArray := prog_1_method_18_code
def yX8_fog : MethodName := ⟨RX8, "fog", "(I)I"⟩
abbrev cX8_sight : ByteArray := prog_1_method_19_code
def yX8_sight : MethodName := ⟨RX8, "sight", "()I"⟩
abbrev cX8_lightCount : ByteArray := prog_1_method_20_code
def yX8_lightCount : MethodName := ⟨RX8, "lightCount", "()I"⟩
abbrev cX8_lightColumn : ByteArray := prog_1_method_21_code
def yX8_lightColumn : MethodName := ⟨RX8, "lightColumn", "(I)I"⟩
abbrev cX8_lightRow : ByteArray := prog_1_method_22_code
def yX8_lightRow : MethodName := ⟨RX8, "lightRow", "(I)I"⟩
abbrev cX8_brightness : ByteArray := prog_1_method_23_code
def yX8_brightness : MethodName := ⟨RX8, "brightness", "(I)I"⟩
abbrev cX8_isTrueLight : ByteArray := prog_1_method_24_code
def yX8_isTrueLight : MethodName := ⟨RX8, "isTrueLight", "(I)Z"⟩
abbrev cX8_hasSuccessor : ByteArray := prog_1_method_25_code
def yX8_hasSuccessor : MethodName := ⟨RX8, "hasSuccessor", "(I)Z"⟩
abbrev cX8_successor : ByteArray := prog_1_method_26_code
def yX8_successor : MethodName := ⟨RX8, "successor", "(I)I"⟩
abbrev cX8_followers : ByteArray := prog_1_method_27_code
def yX8_followers : MethodName := ⟨RX8, "followers", "(I)I"⟩
abbrev cX8_leadsAstray : ByteArray := prog_1_method_28_code
def yX8_leadsAstray : MethodName := ⟨RX8, "leadsAstray", "(I)Z"⟩
abbrev cX8_travellerCount : ByteArray := prog_1_method_29_code
def yX8_travellerCount : MethodName := ⟨RX8, "travellerCount", "()I"⟩
abbrev cX8_travellerColumn : ByteArray := prog_1_method_30_code
def yX8_travellerColumn : MethodName := ⟨RX8, "travellerColumn", "(I)I"⟩
abbrev cX8_travellerRow : ByteArray := prog_1_method_31_code
def yX8_travellerRow : MethodName := ⟨RX8, "travellerRow", "(I)I"⟩
abbrev cX8_isWalking : ByteArray := prog_1_method_32_code
def yX8_isWalking : MethodName := ⟨RX8, "isWalking", "(I)Z"⟩
abbrev cX8_hasArrived : ByteArray := prog_1_method_33_code
def yX8_hasArrived : MethodName := ⟨RX8, "hasArrived", "(I)Z"⟩
abbrev cX8_hasSunk : ByteArray := prog_1_method_34_code
def yX8_hasSunk : MethodName := ⟨RX8, "hasSunk", "(I)Z"⟩
abbrev cX8_stepsTaken : ByteArray := prog_1_method_35_code
def yX8_stepsTaken : MethodName := ⟨RX8, "stepsTaken", "(I)I"⟩
abbrev cX8_hasTarget : ByteArray := prog_1_method_36_code
def yX8_hasTarget : MethodName := ⟨RX8, "hasTarget", "(I)Z"⟩
abbrev cX8_target : ByteArray := prog_1_method_37_code
def yX8_target : MethodName := ⟨RX8, "target", "(I)I"⟩
abbrev cX8_hasPassed : ByteArray := prog_1_method_38_code
def yX8_hasPassed : MethodName := ⟨RX8, "hasPassed", "(II)Z"⟩
abbrev cX8_distrusts : ByteArray := prog_1_method_39_code
def yX8_distrusts : MethodName := ⟨RX8, "distrusts", "(II)Z"⟩
abbrev cX8_sees : ByteArray := prog_1_method_40_code
def yX8_sees : MethodName := ⟨RX8, "sees", "(II)Z"⟩
abbrev cX8_nearestLight : ByteArray := prog_1_method_41_code
def yX8_nearestLight : MethodName := ⟨RX8, "nearestLight", "(I)I"⟩
abbrev cX8_walkingCount : ByteArray := prog_1_method_42_code
def yX8_walkingCount : MethodName := ⟨RX8, "walkingCount", "()I"⟩
abbrev cX8_arrivedCount : ByteArray := prog_1_method_43_code
def yX8_arrivedCount : MethodName := ⟨RX8, "arrivedCount", "()I"⟩
abbrev cX8_sunkCount : ByteArray := prog_1_method_44_code
def yX8_sunkCount : MethodName := ⟨RX8, "sunkCount", "()I"⟩
abbrev cX8_arrivedShare : ByteArray := prog_1_method_45_code
def yX8_arrivedShare : MethodName := ⟨RX8, "arrivedShare", "()F"⟩
abbrev cX8_meanSteps : ByteArray := prog_1_method_46_code
def yX8_meanSteps : MethodName := ⟨RX8, "meanSteps", "()D"⟩
abbrev cX8_ticksUntilDone : ByteArray := prog_1_method_47_code
def yX8_ticksUntilDone : MethodName := ⟨RX8, "ticksUntilDone", "(I)I"⟩
abbrev cX8_willArrive : ByteArray := prog_1_method_48_code
def yX8_willArrive : MethodName := ⟨RX8, "willArrive", "(I)Z"⟩
abbrev cX8_arrivedAfter : ByteArray := prog_1_method_49_code
def yX8_arrivedAfter : MethodName := ⟨RX8, "arrivedAfter", "(I)I"⟩
abbrev cX8_sunkAfter : ByteArray := prog_1_method_50_code
def yX8_sunkAfter : MethodName := ⟨RX8, "sunkAfter", "(I)I"⟩
abbrev cX8_bestClearness : ByteArray := prog_1_method_51_code
def yX8_bestClearness : MethodName := ⟨RX8, "bestClearness", "()I"⟩
abbrev cX8_tick : ByteArray := prog_1_method_52_code
def yX8_tick : MethodName := ⟨RX8, "tick", "(I)I"⟩
abbrev cX8_addLight : ByteArray := prog_1_method_53_code
def yX8_addLight : MethodName := ⟨RX8, "addLight", "(IIIZ)I"⟩
abbrev cX8_addTraveller : ByteArray := prog_1_method_54_code
def yX8_addTraveller : MethodName := ⟨RX8, "addTraveller", "(II)I"⟩
abbrev cX8_setSuccessor : ByteArray := prog_1_method_55_code
def yX8_setSuccessor : MethodName := ⟨RX8, "setSuccessor", "(II)I"⟩
abbrev cX8_clearSuccessor : ByteArray := prog_1_method_56_code
def yX8_clearSuccessor : MethodName := ⟨RX8, "clearSuccessor", "(I)I"⟩
abbrev cX8_layPlank : ByteArray := prog_1_method_57_code
def yX8_layPlank : MethodName := ⟨RX8, "layPlank", "(III)I"⟩
abbrev cX8_setClearness : ByteArray := prog_1_method_58_code
def yX8_setClearness : MethodName := ⟨RX8, "setClearness", "(I)I"⟩
abbrev cX8_setFog : ByteArray := prog_1_method_59_code
def yX8_setFog : MethodName := ⟨RX8, "setFog", "(II)I"⟩
abbrev cX8_setTarget : ByteArray := prog_1_method_60_code
def yX8_setTarget : MethodName := ⟨RX8, "setTarget", "(II)I"⟩
abbrev cX8_undo : ByteArray := prog_1_method_61_code
def yX8_undo : MethodName := ⟨RX8, "undo", "()I"⟩
abbrev cX8_saveSnapshot : ByteArray := prog_1_method_62_code
def yX8_saveSnapshot : MethodName := ⟨RX8, "saveSnapshot", "(I)I"⟩
abbrev cX8_restoreSnapshot : ByteArray := prog_1_method_63_code
def yX8_restoreSnapshot : MethodName := ⟨RX8, "restoreSnapshot", "(I)I"⟩
abbrev cX8_printedByte : ByteArray := prog_1_method_65_code
def yX8_printedByte : MethodName := ⟨RX8, "printedByte", "(I)I"⟩
abbrev cX8_requireCell : ByteArray := prog_1_method_66_code
def yX8_requireCell : MethodName := ⟨RX8, "requireCell", "(II)I"⟩
abbrev cX8_requireHour : ByteArray := prog_1_method_67_code
def yX8_requireHour : MethodName := ⟨RX8, "requireHour", "(I)V"⟩
abbrev cX8_requireLight : ByteArray := prog_1_method_68_code
def yX8_requireLight : MethodName := ⟨RX8, "requireLight", "(I)V"⟩
abbrev cX8_requireTraveller : ByteArray := prog_1_method_69_code
def yX8_requireTraveller : MethodName := ⟨RX8, "requireTraveller", "(I)V"⟩
abbrev cX8_requireSlot : ByteArray := prog_1_method_70_code
def yX8_requireSlot : MethodName := ⟨RX8, "requireSlot", "(I)V"⟩
abbrev cX8_requireWalking : ByteArray := prog_1_method_71_code
def yX8_requireWalking : MethodName := ⟨RX8, "requireWalking", "(I)V"⟩
abbrev cX8_requireSuccessor : ByteArray := prog_1_method_72_code
def yX8_requireSuccessor : MethodName := ⟨RX8, "requireSuccessor", "(I)I"⟩
abbrev cX8_requirePath : ByteArray := prog_1_method_73_code
def yX8_requirePath : MethodName := ⟨RX8, "requirePath", "(I)I"⟩
abbrev cX8_requireFuture : ByteArray := prog_1_method_74_code
def yX8_requireFuture : MethodName := ⟨RX8, "requireFuture", "(I)V"⟩
abbrev cX8_cellAt : ByteArray := prog_1_method_75_code
def yX8_cellAt : MethodName := ⟨RX8, "cellAt", "(II)I"⟩
abbrev cX8_columnOf : ByteArray := prog_1_method_76_code
def yX8_columnOf : MethodName := ⟨RX8, "columnOf", "(I)I"⟩
abbrev cX8_rowOf : ByteArray := prog_1_method_77_code
def yX8_rowOf : MethodName := ⟨RX8, "rowOf", "(I)I"⟩
abbrev cX8_holds : ByteArray := prog_1_method_78_code
def yX8_holds : MethodName := ⟨RX8, "holds", "(II)Z"⟩
abbrev cX8_copyNumbers : ByteArray := prog_1_method_79_code
def yX8_copyNumbers : MethodName := ⟨RX8, "copyNumbers", "([I[I)V"⟩
def RX9 : String := "FalseLightMarshModel"
def TX9 : u_T := fun k => match k with
  | _ => ("", "", "", false)
def tyX9 : Nat → FieldType := fun k => match k with
  | _ => .int
abbrev wsX90 : List Cond := u_ws RX9 TX9 0
theorem nmX9 : ∀ a, a < 0 → ∀ b, b < 0 → a ≠ b → (TX9 a).2.1 ≠ (TX9 b).2.1 := by decide +kernel
theorem tyX9_ok : ∀ k, k < 0 → parseFieldDescriptor (TX9 k).2.2.1 = some (tyX9 k) := by decide +kernel
def RJx145de : String := "java/io/Serializable"
def TJx145de : u_T := fun k => match k with
  | _ => ("", "", "", false)
def tyJx145de : Nat → FieldType := fun k => match k with
  | _ => .int
abbrev wsJx145de0 : List Cond := u_ws RJx145de TJx145de 0
theorem nmJx145de : ∀ a, a < 0 → ∀ b, b < 0 → a ≠ b → (TJx145de a).2.1 ≠ (TJx145de b).2.1 := by decide +kernel
theorem tyJx145de_ok : ∀ k, k < 0 → parseFieldDescriptor (TJx145de k).2.2.1 = some (tyJx145de k) := by decide +kernel
def RJ5 : String := "java/lang/AbstractStringBuilder"
def TJ5 : u_T := fun k => match k with
  | _ => ("", "", "", false)
def tyJ5 : Nat → FieldType := fun k => match k with
  | _ => .int
abbrev wsJ50 : List Cond := u_ws RJ5 TJ5 0
theorem nmJ5 : ∀ a, a < 0 → ∀ b, b < 0 → a ≠ b → (TJ5 a).2.1 ≠ (TJ5 b).2.1 := by decide +kernel
theorem tyJ5_ok : ∀ k, k < 0 → parseFieldDescriptor (TJ5 k).2.2.1 = some (tyJ5 k) := by decide +kernel
abbrev cJ5_init_d00df : ByteArray := prog_13_method_2_code
def yJ5_init_d00df : MethodName := ⟨RJ5, "<init>", "(I)V"⟩
abbrev cJ5_init_a7421 : ByteArray := prog_13_method_3_code
def yJ5_init_a7421 : MethodName := ⟨RJ5, "<init>", "(Ljava/lang/String;)V"⟩
abbrev cJ5_length_8abf5 : ByteArray := prog_13_method_6_code
def yJ5_length_8abf5 : MethodName := ⟨RJ5, "length", "()I"⟩
abbrev cJ5_ensureCapacityInternal_d00df : ByteArray := prog_13_method_9_code
def yJ5_ensureCapacityInternal_d00df : MethodName := ⟨RJ5, "ensureCapacityInternal", "(I)V"⟩
abbrev cJ5_newCapacity_0f7a4 : ByteArray := prog_13_method_10_code
def yJ5_newCapacity_0f7a4 : MethodName := ⟨RJ5, "newCapacity", "(I)I"⟩
abbrev cJ5_inflate_da8c8 : ByteArray := prog_13_method_11_code
def yJ5_inflate_da8c8 : MethodName := ⟨RJ5, "inflate", "()V"⟩
abbrev cJ5_append_cf1ce : ByteArray := prog_13_method_22_code
def yJ5_append_cf1ce : MethodName := ⟨RJ5, "append", "(Ljava/lang/String;)Ljava/lang/AbstractStringBuilder;"⟩
abbrev cJ5_appendNull_278bc : ByteArray := prog_13_method_26_code
def yJ5_appendNull_278bc : MethodName := ⟨RJ5, "appendNull", "()Ljava/lang/AbstractStringBuilder;"⟩
abbrev cJ5_append_3fe6f : ByteArray := prog_13_method_31_code
def yJ5_append_3fe6f : MethodName := ⟨RJ5, "append", "(C)Ljava/lang/AbstractStringBuilder;"⟩
abbrev cJ5_append_c97b9 : ByteArray := prog_13_method_32_code
def yJ5_append_c97b9 : MethodName := ⟨RJ5, "append", "(I)Ljava/lang/AbstractStringBuilder;"⟩
abbrev cJ5_getValue_6d5f1 : ByteArray := prog_13_method_64_code
def yJ5_getValue_6d5f1 : MethodName := ⟨RJ5, "getValue", "()[B"⟩
abbrev cJ5_isLatin1_aae02 : ByteArray := prog_13_method_68_code
def yJ5_isLatin1_aae02 : MethodName := ⟨RJ5, "isLatin1", "()Z"⟩
abbrev cJ5_inflateIfNeededFor_a7421 : ByteArray := prog_13_method_71_code
def yJ5_inflateIfNeededFor_a7421 : MethodName := ⟨RJ5, "inflateIfNeededFor", "(Ljava/lang/String;)V"⟩
abbrev cJ5_putStringAt_47b60 : ByteArray := prog_13_method_73_code
def yJ5_putStringAt_47b60 : MethodName := ⟨RJ5, "putStringAt", "(ILjava/lang/String;)V"⟩
def RJx2cfe8 : String := "java/lang/Appendable"
def TJx2cfe8 : u_T := fun k => match k with
  | _ => ("", "", "", false)
def tyJx2cfe8 : Nat → FieldType := fun k => match k with
  | _ => .int
abbrev wsJx2cfe80 : List Cond := u_ws RJx2cfe8 TJx2cfe8 0
theorem nmJx2cfe8 : ∀ a, a < 0 → ∀ b, b < 0 → a ≠ b → (TJx2cfe8 a).2.1 ≠ (TJx2cfe8 b).2.1 := by decide +kernel
theorem tyJx2cfe8_ok : ∀ k, k < 0 → parseFieldDescriptor (TJx2cfe8 k).2.2.1 = some (tyJx2cfe8 k) := by decide +kernel
def RJx9f9b0 : String := "java/lang/CharSequence"
def TJx9f9b0 : u_T := fun k => match k with
  | _ => ("", "", "", false)
def tyJx9f9b0 : Nat → FieldType := fun k => match k with
  | _ => .int
abbrev wsJx9f9b00 : List Cond := u_ws RJx9f9b0 TJx9f9b0 0
theorem nmJx9f9b0 : ∀ a, a < 0 → ∀ b, b < 0 → a ≠ b → (TJx9f9b0 a).2.1 ≠ (TJx9f9b0 b).2.1 := by decide +kernel
theorem tyJx9f9b0_ok : ∀ k, k < 0 → parseFieldDescriptor (TJx9f9b0 k).2.2.1 = some (tyJx9f9b0 k) := by decide +kernel
def RJx8e188 : String := "java/lang/Cloneable"
def TJx8e188 : u_T := fun k => match k with
  | _ => ("", "", "", false)
def tyJx8e188 : Nat → FieldType := fun k => match k with
  | _ => .int
abbrev wsJx8e1880 : List Cond := u_ws RJx8e188 TJx8e188 0
theorem nmJx8e188 : ∀ a, a < 0 → ∀ b, b < 0 → a ≠ b → (TJx8e188 a).2.1 ≠ (TJx8e188 b).2.1 := by decide +kernel
theorem tyJx8e188_ok : ∀ k, k < 0 → parseFieldDescriptor (TJx8e188 k).2.2.1 = some (tyJx8e188 k) := by decide +kernel
def RJxb160c : String := "java/lang/Comparable"
def TJxb160c : u_T := fun k => match k with
  | _ => ("", "", "", false)
def tyJxb160c : Nat → FieldType := fun k => match k with
  | _ => .int
abbrev wsJxb160c0 : List Cond := u_ws RJxb160c TJxb160c 0
theorem nmJxb160c : ∀ a, a < 0 → ∀ b, b < 0 → a ≠ b → (TJxb160c a).2.1 ≠ (TJxb160c b).2.1 := by decide +kernel
theorem tyJxb160c_ok : ∀ k, k < 0 → parseFieldDescriptor (TJxb160c k).2.2.1 = some (tyJxb160c k) := by decide +kernel
def RJ6 : String := "java/lang/Integer"
def TJ6 : u_T := fun k => match k with
  | _ => ("", "", "", false)
def tyJ6 : Nat → FieldType := fun k => match k with
  | _ => .int
abbrev wsJ60 : List Cond := u_ws RJ6 TJ6 0
theorem nmJ6 : ∀ a, a < 0 → ∀ b, b < 0 → a ≠ b → (TJ6 a).2.1 ≠ (TJ6 b).2.1 := by decide +kernel
theorem tyJ6_ok : ∀ k, k < 0 → parseFieldDescriptor (TJ6 k).2.2.1 = some (tyJ6 k) := by decide +kernel
abbrev cJ6_getChars_ba4f3 : ByteArray := prog_22_method_12_code
def yJ6_getChars_ba4f3 : MethodName := ⟨RJ6, "getChars", "(II[B)I"⟩
abbrev cJ6_stringSize_0f7a4 : ByteArray := prog_22_method_13_code
def yJ6_stringSize_0f7a4 : MethodName := ⟨RJ6, "stringSize", "(I)I"⟩
def RJ9 : String := "java/lang/Math"
def TJ9 : u_T := fun k => match k with
  | _ => ("", "", "", false)
def tyJ9 : Nat → FieldType := fun k => match k with
  | _ => .int
abbrev wsJ90 : List Cond := u_ws RJ9 TJ9 0
theorem nmJ9 : ∀ a, a < 0 → ∀ b, b < 0 → a ≠ b → (TJ9 a).2.1 ≠ (TJ9 b).2.1 := by decide +kernel
theorem tyJ9_ok : ∀ k, k < 0 → parseFieldDescriptor (TJ9 k).2.2.1 = some (tyJ9 k) := by decide +kernel
abbrev cJ9_abs_0f7a4 : ByteArray := prog_23_method_59_code
def yJ9_abs_0f7a4 : MethodName := ⟨RJ9, "abs", "(I)I"⟩
abbrev cJ9_max_7cf53 : ByteArray := prog_23_method_65_code
def yJ9_max_7cf53 : MethodName := ⟨RJ9, "max", "(II)I"⟩
abbrev cJ9_min_7cf53 : ByteArray := prog_23_method_69_code
def yJ9_min_7cf53 : MethodName := ⟨RJ9, "min", "(II)I"⟩
def RJxd2413 : String := "java/lang/Number"
def TJxd2413 : u_T := fun k => match k with
  | _ => ("", "", "", false)
def tyJxd2413 : Nat → FieldType := fun k => match k with
  | _ => .int
abbrev wsJxd24130 : List Cond := u_ws RJxd2413 TJxd2413 0
theorem nmJxd2413 : ∀ a, a < 0 → ∀ b, b < 0 → a ≠ b → (TJxd2413 a).2.1 ≠ (TJxd2413 b).2.1 := by decide +kernel
theorem tyJxd2413_ok : ∀ k, k < 0 → parseFieldDescriptor (TJxd2413 k).2.2.1 = some (tyJxd2413 k) := by decide +kernel
def RJ0 : String := "java/lang/String"
def TJ0 : u_T := fun k => match k with
  | 0 => ("java/lang/String", "value", "[B", true)
  | 1 => ("java/lang/String", "coder", "B", true)
  | 2 => ("java/lang/String", "hash", "I", false)
  | _ => ("java/lang/String", "hashIsZero", "Z", false)
def tyJ0 : Nat → FieldType := fun k => match k with
  | 0 => .array .byte
  | 1 => .byte
  | 2 => .int
  | _ => .boolean
abbrev wsJ00 : List Cond := u_ws RJ0 TJ0 4
theorem nmJ0 : ∀ a, a < 4 → ∀ b, b < 4 → a ≠ b → (TJ0 a).2.1 ≠ (TJ0 b).2.1 := by decide +kernel
theorem tyJ0_ok : ∀ k, k < 4 → parseFieldDescriptor (TJ0 k).2.2.1 = some (tyJ0 k) := by decide +kernel
abbrev cJ0_init_81219 : ByteArray := prog_26_method_53_code
def yJ0_init_81219 : MethodName := ⟨RJ0, "<init>", "(Ljava/lang/StringBuilder;)V"⟩
abbrev cJ0_length_8abf5 : ByteArray := prog_26_method_54_code
def yJ0_length_8abf5 : MethodName := ⟨RJ0, "length", "()I"⟩
abbrev cJ0_charAt_5068e : ByteArray := prog_26_method_56_code
def yJ0_charAt_5068e : MethodName := ⟨RJ0, "charAt", "(I)C"⟩
abbrev cJ0_getBytes_840e7 : ByteArray := prog_26_method_147_code
def yJ0_getBytes_840e7 : MethodName := ⟨RJ0, "getBytes", "([BIB)V"⟩
abbrev cJ0_init_db425 : ByteArray := prog_26_method_150_code
def yJ0_init_db425 : MethodName := ⟨RJ0, "<init>", "(Ljava/lang/AbstractStringBuilder;Ljava/lang/Void;)V"⟩
abbrev cJ0_coder_7d493 : ByteArray := prog_26_method_152_code
def yJ0_coder_7d493 : MethodName := ⟨RJ0, "coder", "()B"⟩
abbrev cJ0_isLatin1_aae02 : ByteArray := prog_26_method_154_code
def yJ0_isLatin1_aae02 : MethodName := ⟨RJ0, "isLatin1", "()Z"⟩
abbrev cJ0_checkIndex_df160 : ByteArray := prog_26_method_155_code
def yJ0_checkIndex_df160 : MethodName := ⟨RJ0, "checkIndex", "(II)V"⟩
abbrev cJ0_checkBoundsOffCount_cabcc : ByteArray := prog_26_method_157_code
def yJ0_checkBoundsOffCount_cabcc : MethodName := ⟨RJ0, "checkBoundsOffCount", "(III)I"⟩
abbrev cJ0_checkBoundsBeginEnd_23922 : ByteArray := prog_26_method_158_code
def yJ0_checkBoundsBeginEnd_23922 : MethodName := ⟨RJ0, "checkBoundsBeginEnd", "(III)V"⟩
def RJ4 : String := "java/lang/StringBuilder"
def TJ4 : u_T := fun k => match k with
  | 0 => ("java/lang/AbstractStringBuilder", "value", "[B", false)
  | 1 => ("java/lang/AbstractStringBuilder", "coder", "B", false)
  | 2 => ("java/lang/AbstractStringBuilder", "maybeLatin1", "Z", false)
  | _ => ("java/lang/AbstractStringBuilder", "count", "I", false)
def tyJ4 : Nat → FieldType := fun k => match k with
  | 0 => .array .byte
  | 1 => .byte
  | 2 => .boolean
  | _ => .int
abbrev wsJ40 : List Cond := u_ws RJ4 TJ4 4
theorem nmJ4 : ∀ a, a < 4 → ∀ b, b < 4 → a ≠ b → (TJ4 a).2.1 ≠ (TJ4 b).2.1 := by decide +kernel
theorem tyJ4_ok : ∀ k, k < 4 → parseFieldDescriptor (TJ4 k).2.2.1 = some (tyJ4 k) := by decide +kernel
abbrev cJ4_init_da8c8 : ByteArray := prog_27_method_1_code
def yJ4_init_da8c8 : MethodName := ⟨RJ4, "<init>", "()V"⟩
abbrev cJ4_init_a7421 : ByteArray := prog_27_method_3_code
def yJ4_init_a7421 : MethodName := ⟨RJ4, "<init>", "(Ljava/lang/String;)V"⟩
abbrev cJ4_append_15ec4 : ByteArray := prog_27_method_7_code
def yJ4_append_15ec4 : MethodName := ⟨RJ4, "append", "(Ljava/lang/String;)Ljava/lang/StringBuilder;"⟩
abbrev cJ4_append_cf468 : ByteArray := prog_27_method_14_code
def yJ4_append_cf468 : MethodName := ⟨RJ4, "append", "(C)Ljava/lang/StringBuilder;"⟩
abbrev cJ4_append_bf812 : ByteArray := prog_27_method_15_code
def yJ4_append_bf812 : MethodName := ⟨RJ4, "append", "(I)Ljava/lang/StringBuilder;"⟩
abbrev cJ4_toString_0e30d : ByteArray := prog_27_method_42_code
def yJ4_toString_0e30d : MethodName := ⟨RJ4, "toString", "()Ljava/lang/String;"⟩
abbrev cJ4_append_cf1ce : ByteArray := prog_27_method_80_code
def yJ4_append_cf1ce : MethodName := ⟨RJ4, "append", "(Ljava/lang/String;)Ljava/lang/AbstractStringBuilder;"⟩
abbrev cJ4_length_8abf5 : ByteArray := prog_27_method_93_code
def yJ4_length_8abf5 : MethodName := ⟨RJ4, "length", "()I"⟩
def RJ1 : String := "java/lang/StringLatin1"
def TJ1 : u_T := fun k => match k with
  | _ => ("", "", "", false)
def tyJ1 : Nat → FieldType := fun k => match k with
  | _ => .int
abbrev wsJ10 : List Cond := u_ws RJ1 TJ1 0
theorem nmJ1 : ∀ a, a < 0 → ∀ b, b < 0 → a ≠ b → (TJ1 a).2.1 ≠ (TJ1 b).2.1 := by decide +kernel
theorem tyJ1_ok : ∀ k, k < 0 → parseFieldDescriptor (TJ1 k).2.2.1 = some (tyJ1 k) := by decide +kernel
abbrev cJ1_charAt_3b067 : ByteArray := prog_28_method_2_code
def yJ1_charAt_3b067 : MethodName := ⟨RJ1, "charAt", "([BI)C"⟩
abbrev cJ1_canEncode_fc78d : ByteArray := prog_28_method_3_code
def yJ1_canEncode_fc78d : MethodName := ⟨RJ1, "canEncode", "(C)Z"⟩
abbrev cJ1_inflate_0e8fd : ByteArray := prog_28_method_50_code
def yJ1_inflate_0e8fd : MethodName := ⟨RJ1, "inflate", "([BI[BII)V"⟩
def RJ2 : String := "java/lang/StringUTF16"
def TJ2 : u_T := fun k => match k with
  | _ => ("", "", "", false)
def tyJ2 : Nat → FieldType := fun k => match k with
  | _ => .int
abbrev wsJ20 : List Cond := u_ws RJ2 TJ2 0
theorem nmJ2 : ∀ a, a < 0 → ∀ b, b < 0 → a ≠ b → (TJ2 a).2.1 ≠ (TJ2 b).2.1 := by decide +kernel
theorem tyJ2_ok : ∀ k, k < 0 → parseFieldDescriptor (TJ2 k).2.2.1 = some (tyJ2 k) := by decide +kernel
abbrev cJ2_newBytesFor_77867 : ByteArray := prog_29_method_2_code
def yJ2_newBytesFor_77867 : MethodName := ⟨RJ2, "newBytesFor", "(I)[B"⟩
abbrev cJ2_newBytesLength_0f7a4 : ByteArray := prog_29_method_3_code
def yJ2_newBytesLength_0f7a4 : MethodName := ⟨RJ2, "newBytesLength", "(I)I"⟩
abbrev cJ2_putChar_b72d1 : ByteArray := prog_29_method_4_code
def yJ2_putChar_b72d1 : MethodName := ⟨RJ2, "putChar", "([BII)V"⟩
abbrev cJ2_getChar_3b067 : ByteArray := prog_29_method_5_code
def yJ2_getChar_3b067 : MethodName := ⟨RJ2, "getChar", "([BI)C"⟩
abbrev cJ2_length_9d52b : ByteArray := prog_29_method_6_code
def yJ2_length_9d52b : MethodName := ⟨RJ2, "length", "([B)I"⟩
abbrev cJ2_coderFromArrayLen_85cad : ByteArray := prog_29_method_15_code
def yJ2_coderFromArrayLen_85cad : MethodName := ⟨RJ2, "coderFromArrayLen", "([BI)B"⟩
abbrev cJ2_compress_39247 : ByteArray := prog_29_method_17_code
def yJ2_compress_39247 : MethodName := ⟨RJ2, "compress", "([BII)[B"⟩
abbrev cJ2_compress_5af95 : ByteArray := prog_29_method_22_code
def yJ2_compress_5af95 : MethodName := ⟨RJ2, "compress", "([BI[BII)I"⟩
abbrev cJ2_putCharSB_b72d1 : ByteArray := prog_29_method_71_code
def yJ2_putCharSB_b72d1 : MethodName := ⟨RJ2, "putCharSB", "([BII)V"⟩
abbrev cJ2_getChars_46870 : ByteArray := prog_29_method_77_code
def yJ2_getChars_46870 : MethodName := ⟨RJ2, "getChars", "(III[B)I"⟩
abbrev cJ2_putCharsAt_cd4e5 : ByteArray := prog_29_method_81_code
def yJ2_putCharsAt_cd4e5 : MethodName := ⟨RJ2, "putCharsAt", "([BICCCC)I"⟩
abbrev cJ2_charAt_3b067 : ByteArray := prog_29_method_83_code
def yJ2_charAt_3b067 : MethodName := ⟨RJ2, "charAt", "([BI)C"⟩
abbrev cJ2_inflate_0e8fd : ByteArray := prog_29_method_86_code
def yJ2_inflate_0e8fd : MethodName := ⟨RJ2, "inflate", "([BI[BII)V"⟩
abbrev cJ2_getChars_ba4f3 : ByteArray := prog_29_method_89_code
def yJ2_getChars_ba4f3 : MethodName := ⟨RJ2, "getChars", "(II[B)I"⟩
abbrev cJ2_checkIndex_2214a : ByteArray := prog_29_method_91_code
def yJ2_checkIndex_2214a : MethodName := ⟨RJ2, "checkIndex", "(I[B)V"⟩
abbrev cJ2_checkBoundsBeginEnd_d044e : ByteArray := prog_29_method_93_code
def yJ2_checkBoundsBeginEnd_d044e : MethodName := ⟨RJ2, "checkBoundsBeginEnd", "(II[B)V"⟩
abbrev cJ2_checkBoundsOffCount_d044e : ByteArray := prog_29_method_94_code
def yJ2_checkBoundsOffCount_d044e : MethodName := ⟨RJ2, "checkBoundsOffCount", "(II[B)V"⟩
def RJ10 : String := "java/lang/System"
def TJ10 : u_T := fun k => match k with
  | _ => ("", "", "", false)
def tyJ10 : Nat → FieldType := fun k => match k with
  | _ => .int
abbrev wsJ100 : List Cond := u_ws RJ10 TJ10 0
theorem nmJ10 : ∀ a, a < 0 → ∀ b, b < 0 → a ≠ b → (TJ10 a).2.1 ≠ (TJ10 b).2.1 := by decide +kernel
theorem tyJ10_ok : ∀ k, k < 0 → parseFieldDescriptor (TJ10 k).2.2.1 = some (tyJ10 k) := by decide +kernel
def RJxfd54e : String := "java/lang/constant/Constable"
def TJxfd54e : u_T := fun k => match k with
  | _ => ("", "", "", false)
def tyJxfd54e : Nat → FieldType := fun k => match k with
  | _ => .int
abbrev wsJxfd54e0 : List Cond := u_ws RJxfd54e TJxfd54e 0
theorem nmJxfd54e : ∀ a, a < 0 → ∀ b, b < 0 → a ≠ b → (TJxfd54e a).2.1 ≠ (TJxfd54e b).2.1 := by decide +kernel
theorem tyJxfd54e_ok : ∀ k, k < 0 → parseFieldDescriptor (TJxfd54e k).2.2.1 = some (tyJxfd54e k) := by decide +kernel
def RJx3cf43 : String := "java/lang/constant/ConstantDesc"
def TJx3cf43 : u_T := fun k => match k with
  | _ => ("", "", "", false)
def tyJx3cf43 : Nat → FieldType := fun k => match k with
  | _ => .int
abbrev wsJx3cf430 : List Cond := u_ws RJx3cf43 TJx3cf43 0
theorem nmJx3cf43 : ∀ a, a < 0 → ∀ b, b < 0 → a ≠ b → (TJx3cf43 a).2.1 ≠ (TJx3cf43 b).2.1 := by decide +kernel
theorem tyJx3cf43_ok : ∀ k, k < 0 → parseFieldDescriptor (TJx3cf43 k).2.2.1 = some (tyJx3cf43 k) := by decide +kernel
def RJ7 : String := "java/util/Arrays"
def TJ7 : u_T := fun k => match k with
  | _ => ("", "", "", false)
def tyJ7 : Nat → FieldType := fun k => match k with
  | _ => .int
abbrev wsJ70 : List Cond := u_ws RJ7 TJ7 0
theorem nmJ7 : ∀ a, a < 0 → ∀ b, b < 0 → a ≠ b → (TJ7 a).2.1 ≠ (TJ7 b).2.1 := by decide +kernel
theorem tyJ7_ok : ∀ k, k < 0 → parseFieldDescriptor (TJ7 k).2.2.1 = some (tyJ7 k) := by decide +kernel
abbrev cJ7_fill_53178 : ByteArray := prog_34_method_103_code
def yJ7_fill_53178 : MethodName := ⟨RJ7, "fill", "([II)V"⟩
abbrev cJ7_copyOf_9075b : ByteArray := prog_34_method_121_code
def yJ7_copyOf_9075b : MethodName := ⟨RJ7, "copyOf", "([BI)[B"⟩
abbrev cJ7_checkLength_df160 : ByteArray := prog_34_method_131_code
def yJ7_checkLength_df160 : MethodName := ⟨RJ7, "checkLength", "(II)V"⟩
abbrev cJ7_copyOfRange_39247 : ByteArray := prog_34_method_132_code
def yJ7_copyOfRange_39247 : MethodName := ⟨RJ7, "copyOfRange", "([BII)[B"⟩
abbrev cJ7_copyOfRangeByte_39247 : ByteArray := prog_34_method_133_code
def yJ7_copyOfRangeByte_39247 : MethodName := ⟨RJ7, "copyOfRangeByte", "([BII)[B"⟩
def RJ8 : String := "jdk/internal/util/ArraysSupport"
def TJ8 : u_T := fun k => match k with
  | _ => ("", "", "", false)
def tyJ8 : Nat → FieldType := fun k => match k with
  | _ => .int
abbrev wsJ80 : List Cond := u_ws RJ8 TJ8 0
theorem nmJ8 : ∀ a, a < 0 → ∀ b, b < 0 → a ≠ b → (TJ8 a).2.1 ≠ (TJ8 b).2.1 := by decide +kernel
theorem tyJ8_ok : ∀ k, k < 0 → parseFieldDescriptor (TJ8 k).2.2.1 = some (tyJ8 k) := by decide +kernel
abbrev cJ8_newLength_cabcc : ByteArray := prog_36_method_27_code
def yJ8_newLength_cabcc : MethodName := ⟨RJ8, "newLength", "(III)I"⟩
abbrev cJ8_hugeLength_7cf53 : ByteArray := prog_36_method_28_code
def yJ8_hugeLength_7cf53 : MethodName := ⟨RJ8, "hugeLength", "(II)I"⟩
def RJ3 : String := "jdk/internal/util/Preconditions"
def TJ3 : u_T := fun k => match k with
  | _ => ("", "", "", false)
def tyJ3 : Nat → FieldType := fun k => match k with
  | _ => .int
abbrev wsJ30 : List Cond := u_ws RJ3 TJ3 0
theorem nmJ3 : ∀ a, a < 0 → ∀ b, b < 0 → a ≠ b → (TJ3 a).2.1 ≠ (TJ3 b).2.1 := by decide +kernel
theorem tyJ3_ok : ∀ k, k < 0 → parseFieldDescriptor (TJ3 k).2.2.1 = some (tyJ3 k) := by decide +kernel
abbrev cJ3_checkIndex_8e157 : ByteArray := prog_37_method_11_code
def yJ3_checkIndex_8e157 : MethodName := ⟨RJ3, "checkIndex", "(IILjava/util/function/BiFunction;)I"⟩
abbrev cJ3_checkFromToIndex_8c36e : ByteArray := prog_37_method_12_code
def yJ3_checkFromToIndex_8c36e : MethodName := ⟨RJ3, "checkFromToIndex", "(IIILjava/util/function/BiFunction;)I"⟩
abbrev cJ3_checkFromIndexSize_8c36e : ByteArray := prog_37_method_13_code
def yJ3_checkFromIndexSize_8c36e : MethodName := ⟨RJ3, "checkFromIndexSize", "(IIILjava/util/function/BiFunction;)I"⟩
def RL : String := "FalseLightMarshLaw"
abbrev cL_call : ByteArray := method_2_code
def yL_call : MethodName := ⟨RL, "call", "(LFalseLightMarsh;IIIIII)I"⟩
abbrev cL_call_ : ByteArray := method_3_code
def yL_call_ : MethodName := ⟨RL, "call", "(LFalseLightMarsh;III)I"⟩
abbrev cL_call__ : ByteArray := method_4_code
def yL_call__ : MethodName := ⟨RL, "call", "(LFalseLightMarsh;II)I"⟩
abbrev cL_feeds : ByteArray := method_5_code
def yL_feeds : MethodName := ⟨RL, "feeds", "(LFalseLightMarsh;Ljava/lang/String;)Z"⟩
abbrev cL_marsh : ByteArray := method_6_code
def yL_marsh : MethodName := ⟨RL, "marsh", "(II)Ljava/lang/String;"⟩
abbrev cL_state : ByteArray := method_7_code
def yL_state : MethodName := ⟨RL, "state", "(LFalseLightMarsh;)J"⟩
abbrev cL_steps : ByteArray := method_8_code
def yL_steps : MethodName := ⟨RL, "steps", "(LFalseLightMarsh;II)[[I"⟩
abbrev cL_paths : ByteArray := method_9_code
def yL_paths : MethodName := ⟨RL, "paths", "(LFalseLightMarsh;I)Z"⟩
abbrev cL_lights : ByteArray := method_10_code
def yL_lights : MethodName := ⟨RL, "lights", "(LFalseLightMarsh;)Z"⟩
abbrev cL_travellers : ByteArray := method_11_code
def yL_travellers : MethodName := ⟨RL, "travellers", "(LFalseLightMarsh;)Z"⟩
abbrev cL_ticks : ByteArray := method_12_code
def yL_ticks : MethodName := ⟨RL, "ticks", "(LFalseLightMarsh;I)Z"⟩
abbrev cL_does : ByteArray := method_13_code
def yL_does : MethodName := ⟨RL, "does", "(LFalseLightMarsh;II)Z"⟩
abbrev cL_law : ByteArray := code
def yL_law : MethodName := ⟨RL, "law", "([I)Z"⟩
abbrev vwCl : List vw_C := [(RX0, TX0, 4), (RX1, TX1, 3), (RX2, TX2, 3), (RX3, TX3, 5), (RX4, TX4, 1), (RX5, TX5, 7), (RX6, TX6, 8), (RX7, TX7, 6), (RX8, TX8, 11), (RJ0, TJ0, 4), (RJ4, TJ4, 4)]
