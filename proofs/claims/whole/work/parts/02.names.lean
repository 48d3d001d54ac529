abbrev R_E : String := "QuakeServer$Entities"
abbrev R_W : String := "QuakeServer$Walls"
abbrev R_P : String := "QuakeServer$Program"
abbrev R_M : String := "QuakeServer$Machine"
abbrev R_V : String := "QuakeServer$Mover"
abbrev R_L : String := "QuakeServer$LastMessage"
abbrev R_Q : String := "QuakeServer"
abbrev R_N : String := "QuakeServerModel"
abbrev R_A : String := "QuakeServerLaw"
abbrev R_J : String := "java/lang/Math"
def T_E : u_T := fun k => match k with
  | 0 => ("QuakeServer$Entities", "there", "[Z", true)
  | _ => ("QuakeServer$Entities", "fields", "[I", true)
def ty_E : Nat → FieldType := fun k => match k with
  | 0 => .array .boolean
  | _ => .array .int
theorem nm_E : ∀ a, a < 2 → ∀ b, b < 2 → a ≠ b → (T_E a).2.1 ≠ (T_E b).2.1 := by decide +kernel
theorem ty_E_ok : ∀ k, k < 2 → parseFieldDescriptor (T_E k).2.2.1 = some (ty_E k) := by decide +kernel
def T_W : u_T := fun k => match k with
  | 0 => ("QuakeServer$Walls", "lows", "[I", true)
  | 1 => ("QuakeServer$Walls", "highs", "[I", true)
  | _ => ("QuakeServer$Walls", "number", "I", false)
def ty_W : Nat → FieldType := fun k => match k with
  | 0 => .array .int
  | 1 => .array .int
  | _ => .int
theorem nm_W : ∀ a, a < 3 → ∀ b, b < 3 → a ≠ b → (T_W a).2.1 ≠ (T_W b).2.1 := by decide +kernel
theorem ty_W_ok : ∀ k, k < 3 → parseFieldDescriptor (T_W k).2.2.1 = some (ty_W k) := by decide +kernel
def T_P : u_T := fun k => match k with
  | 0 => ("QuakeServer$Program", "parts", "[I", true)
  | _ => ("QuakeServer$Program", "lengths", "[I", true)
def ty_P : Nat → FieldType := fun k => match k with
  | 0 => .array .int
  | _ => .array .int
theorem nm_P : ∀ a, a < 2 → ∀ b, b < 2 → a ≠ b → (T_P a).2.1 ≠ (T_P b).2.1 := by decide +kernel
theorem ty_P_ok : ∀ k, k < 2 → parseFieldDescriptor (T_P k).2.2.1 = some (ty_P k) := by decide +kernel
def T_M : u_T := fun k => match k with
  | 0 => ("QuakeServer$Machine", "entities", "LQuakeServer$Entities;", true)
  | 1 => ("QuakeServer$Machine", "program", "LQuakeServer$Program;", true)
  | 2 => ("QuakeServer$Machine", "globals", "[I", true)
  | 3 => ("QuakeServer$Machine", "openFunctions", "[I", true)
  | 4 => ("QuakeServer$Machine", "openPlaces", "[I", true)
  | 5 => ("QuakeServer$Machine", "depth", "I", false)
  | 6 => ("QuakeServer$Machine", "tooDeep", "Z", false)
  | 7 => ("QuakeServer$Machine", "time", "I", false)
  | 8 => ("QuakeServer$Machine", "drawState", "I", false)
  | 9 => ("QuakeServer$Machine", "runaways", "I", false)
  | _ => ("QuakeServer$Machine", "workingRuns", "I", false)
def ty_M : Nat → FieldType := fun k => match k with
  | 0 => .object "QuakeServer$Entities"
  | 1 => .object "QuakeServer$Program"
  | 2 => .array .int
  | 3 => .array .int
  | 4 => .array .int
  | 5 => .int
  | 6 => .boolean
  | 7 => .int
  | 8 => .int
  | 9 => .int
  | _ => .int
theorem nm_M : ∀ a, a < 11 → ∀ b, b < 11 → a ≠ b → (T_M a).2.1 ≠ (T_M b).2.1 := by decide +kernel
theorem ty_M_ok : ∀ k, k < 11 → parseFieldDescriptor (T_M k).2.2.1 = some (ty_M k) := by decide +kernel
def T_V : u_T := fun k => match k with
  | 0 => ("QuakeServer$Mover", "entities", "LQuakeServer$Entities;", true)
  | 1 => ("QuakeServer$Mover", "walls", "LQuakeServer$Walls;", true)
  | 2 => ("QuakeServer$Mover", "machine", "LQuakeServer$Machine;", true)
  | 3 => ("QuakeServer$Mover", "hits", "I", false)
  | 4 => ("QuakeServer$Mover", "reach", "I", false)
  | _ => ("QuakeServer$Mover", "met", "I", false)
def ty_V : Nat → FieldType := fun k => match k with
  | 0 => .object "QuakeServer$Entities"
  | 1 => .object "QuakeServer$Walls"
  | 2 => .object "QuakeServer$Machine"
  | 3 => .int
  | 4 => .int
  | _ => .int
theorem nm_V : ∀ a, a < 6 → ∀ b, b < 6 → a ≠ b → (T_V a).2.1 ≠ (T_V b).2.1 := by decide +kernel
theorem ty_V_ok : ∀ k, k < 6 → parseFieldDescriptor (T_V k).2.2.1 = some (ty_V k) := by decide +kernel
def T_L : u_T := fun k => match k with
  | 0 => ("QuakeServer$LastMessage", "entities", "LQuakeServer$Entities;", true)
  | _ => ("QuakeServer$LastMessage", "told", "[I", true)
def ty_L : Nat → FieldType := fun k => match k with
  | 0 => .object "QuakeServer$Entities"
  | _ => .array .int
theorem nm_L : ∀ a, a < 2 → ∀ b, b < 2 → a ≠ b → (T_L a).2.1 ≠ (T_L b).2.1 := by decide +kernel
theorem ty_L_ok : ∀ k, k < 2 → parseFieldDescriptor (T_L k).2.2.1 = some (ty_L k) := by decide +kernel
def T_Q : u_T := fun k => match k with
  | 0 => ("QuakeServer", "entities", "LQuakeServer$Entities;", true)
  | 1 => ("QuakeServer", "walls", "LQuakeServer$Walls;", true)
  | 2 => ("QuakeServer", "program", "LQuakeServer$Program;", true)
  | 3 => ("QuakeServer", "machine", "LQuakeServer$Machine;", true)
  | 4 => ("QuakeServer", "mover", "LQuakeServer$Mover;", true)
  | _ => ("QuakeServer", "lastMessage", "LQuakeServer$LastMessage;", true)
def ty_Q : Nat → FieldType := fun k => match k with
  | 0 => .object "QuakeServer$Entities"
  | 1 => .object "QuakeServer$Walls"
  | 2 => .object "QuakeServer$Program"
  | 3 => .object "QuakeServer$Machine"
  | 4 => .object "QuakeServer$Mover"
  | _ => .object "QuakeServer$LastMessage"
theorem nm_Q : ∀ a, a < 6 → ∀ b, b < 6 → a ≠ b → (T_Q a).2.1 ≠ (T_Q b).2.1 := by decide +kernel
theorem ty_Q_ok : ∀ k, k < 6 → parseFieldDescriptor (T_Q k).2.2.1 = some (ty_Q k) := by decide +kernel
def T_N : u_T := fun k => match k with
  | 0 => ("QuakeServerModel", "thrown", "I", false)
  | 1 => ("QuakeServerModel", "f", "[J", true)
  | 2 => ("QuakeServerModel", "there", "[Z", true)
  | 3 => ("QuakeServerModel", "told", "[J", true)
  | 4 => ("QuakeServerModel", "toldThere", "[Z", true)
  | 5 => ("QuakeServerModel", "walls", "[J", true)
  | 6 => ("QuakeServerModel", "wallCount", "I", false)
  | 7 => ("QuakeServerModel", "op", "[I", true)
  | 8 => ("QuakeServerModel", "ia", "[I", true)
  | 9 => ("QuakeServerModel", "ib", "[I", true)
  | 10 => ("QuakeServerModel", "ic", "[I", true)
  | 11 => ("QuakeServerModel", "size", "[I", true)
  | 12 => ("QuakeServerModel", "g", "[J", true)
  | 13 => ("QuakeServerModel", "time", "J", false)
  | 14 => ("QuakeServerModel", "state", "I", false)
  | 15 => ("QuakeServerModel", "runaways", "I", false)
  | 16 => ("QuakeServerModel", "runs", "I", false)
  | 17 => ("QuakeServerModel", "hits", "I", false)
  | 18 => ("QuakeServerModel", "back", "[I", true)
  | 19 => ("QuakeServerModel", "hit", "I", false)
  | 20 => ("QuakeServerModel", "distance", "J", false)
  | _ => ("QuakeServerModel", "depth", "I", false)
def ty_N : Nat → FieldType := fun k => match k with
  | 0 => .int
  | 1 => .array .long
  | 2 => .array .boolean
  | 3 => .array .long
  | 4 => .array .boolean
  | 5 => .array .long
  | 6 => .int
  | 7 => .array .int
  | 8 => .array .int
  | 9 => .array .int
  | 10 => .array .int
  | 11 => .array .int
  | 12 => .array .long
  | 13 => .long
  | 14 => .int
  | 15 => .int
  | 16 => .int
  | 17 => .int
  | 18 => .array .int
  | 19 => .int
  | 20 => .long
  | _ => .int
theorem nm_N : ∀ a, a < 22 → ∀ b, b < 22 → a ≠ b → (T_N a).2.1 ≠ (T_N b).2.1 := by decide +kernel
theorem ty_N_ok : ∀ k, k < 22 → parseFieldDescriptor (T_N k).2.2.1 = some (ty_N k) := by decide +kernel
abbrev vwCl : List vw_C := [(R_E, T_E, 2), (R_W, T_W, 3), (R_P, T_P, 2), (R_M, T_M, 11), (R_V, T_V, 6), (R_L, T_L, 2), (R_Q, T_Q, 6), (R_N, T_N, 22)]
abbrev b_Q_init : ByteArray := prog_1_method_1_code
abbrev y_Q_init : MethodName := ⟨"QuakeServer", "<init>", "()V"⟩
abbrev b_E_init : ByteArray := prog_2_method_1_code
abbrev y_E_init : MethodName := ⟨"QuakeServer$Entities", "<init>", "()V"⟩
abbrev b_W_init : ByteArray := prog_7_method_1_code
abbrev y_W_init : MethodName := ⟨"QuakeServer$Walls", "<init>", "()V"⟩
abbrev b_P_init : ByteArray := prog_6_method_1_code
abbrev y_P_init : MethodName := ⟨"QuakeServer$Program", "<init>", "()V"⟩
abbrev b_M_init : ByteArray := prog_4_method_1_code
abbrev y_M_init : MethodName := ⟨"QuakeServer$Machine", "<init>", "(LQuakeServer$Entities;LQuakeServer$Program;)V"⟩
abbrev b_V_init : ByteArray := prog_5_method_1_code
abbrev y_V_init : MethodName := ⟨"QuakeServer$Mover", "<init>", "(LQuakeServer$Entities;LQuakeServer$Walls;LQuakeServer$Machine;)V"⟩
abbrev b_L_init : ByteArray := prog_3_method_1_code
abbrev y_L_init : MethodName := ⟨"QuakeServer$LastMessage", "<init>", "(LQuakeServer$Entities;)V"⟩
abbrev b_Q_changes : ByteArray := prog_1_method_12_code
abbrev y_Q_changes : MethodName := ⟨"QuakeServer", "changes", "()I"⟩
abbrev b_L_differences : ByteArray := prog_3_method_3_code
abbrev y_L_differences : MethodName := ⟨"QuakeServer$LastMessage", "differences", "()I"⟩
abbrev b_L_now : ByteArray := prog_3_method_2_code
abbrev y_L_now : MethodName := ⟨"QuakeServer$LastMessage", "now", "(I)I"⟩
abbrev b_E_isThere : ByteArray := prog_2_method_2_code
abbrev y_E_isThere : MethodName := ⟨"QuakeServer$Entities", "isThere", "(I)Z"⟩
abbrev b_E_field : ByteArray := prog_2_method_7_code
abbrev y_E_field : MethodName := ⟨"QuakeServer$Entities", "field", "(II)I"⟩
abbrev b_Q_message : ByteArray := prog_1_method_14_code
abbrev y_Q_message : MethodName := ⟨"QuakeServer", "message", "()I"⟩
abbrev b_L_tellAll : ByteArray := prog_3_method_5_code
abbrev y_L_tellAll : MethodName := ⟨"QuakeServer$LastMessage", "tellAll", "()V"⟩
abbrev b_A_wall : ByteArray := method_3_code
abbrev y_A_wall : MethodName := ⟨"QuakeServerLaw", "wall", "(LQuakeServer;IIII[J)I"⟩
abbrev b_Q_wall : ByteArray := prog_1_method_2_code
abbrev y_Q_wall : MethodName := ⟨"QuakeServer", "wall", "(IIII)I"⟩
abbrev b_Q_isInWorld : ByteArray := prog_1_method_18_code
abbrev y_Q_isInWorld : MethodName := ⟨"QuakeServer", "isInWorld", "(I)Z"⟩
abbrev b_W_add : ByteArray := prog_7_method_2_code
abbrev y_W_add : MethodName := ⟨"QuakeServer$Walls", "add", "(IIII)I"⟩
abbrev b_A_instr : ByteArray := method_4_code
abbrev y_A_instr : MethodName := ⟨"QuakeServerLaw", "instr", "(LQuakeServer;IIIII[J)I"⟩
abbrev b_Q_instr : ByteArray := prog_1_method_3_code
abbrev y_Q_instr : MethodName := ⟨"QuakeServer", "instr", "(IIIII)I"⟩
abbrev b_Q_isBelow : ByteArray := prog_1_method_16_code
abbrev y_Q_isBelow : MethodName := ⟨"QuakeServer", "isBelow", "(II)Z"⟩
abbrev b_P_isSound : ByteArray := prog_6_method_2_code
abbrev y_P_isSound : MethodName := ⟨"QuakeServer$Program", "isSound", "(IIII)Z"⟩
abbrev b_P_length : ByteArray := prog_6_method_3_code
abbrev y_P_length : MethodName := ⟨"QuakeServer$Program", "length", "(I)I"⟩
abbrev b_P_add : ByteArray := prog_6_method_5_code
abbrev y_P_add : MethodName := ⟨"QuakeServer$Program", "add", "(IIIII)I"⟩
abbrev b_P_firstPart : ByteArray := prog_6_method_4_code
abbrev y_P_firstPart : MethodName := ⟨"QuakeServer$Program", "firstPart", "(II)I"⟩
abbrev b_A_spawn : ByteArray := method_5_code
abbrev y_A_spawn : MethodName := ⟨"QuakeServerLaw", "spawn", "(LQuakeServer;DDD[J)I"⟩
abbrev b_Q_spawn : ByteArray := prog_1_method_4_code
abbrev y_Q_spawn : MethodName := ⟨"QuakeServer", "spawn", "(DDD)I"⟩
abbrev b_Q_isNumber : ByteArray := prog_1_method_19_code
abbrev y_Q_isNumber : MethodName := ⟨"QuakeServer", "isNumber", "(D)Z"⟩
abbrev b_E_create : ByteArray := prog_2_method_4_code
abbrev y_E_create : MethodName := ⟨"QuakeServer$Entities", "create", "()I"⟩
abbrev b_Q_eighthsOf : ByteArray := prog_1_method_20_code
abbrev y_Q_eighthsOf : MethodName := ⟨"QuakeServer", "eighthsOf", "(D)I"⟩
abbrev b_E_put : ByteArray := prog_2_method_9_code
abbrev y_E_put : MethodName := ⟨"QuakeServer$Entities", "put", "(III)V"⟩
abbrev b_A_remove : ByteArray := method_6_code
abbrev y_A_remove : MethodName := ⟨"QuakeServerLaw", "remove", "(LQuakeServer;I[J)I"⟩
abbrev b_Q_remove : ByteArray := prog_1_method_5_code
abbrev y_Q_remove : MethodName := ⟨"QuakeServer", "remove", "(I)I"⟩
abbrev b_E_erase : ByteArray := prog_2_method_5_code
abbrev y_E_erase : MethodName := ⟨"QuakeServer$Entities", "erase", "(I)V"⟩
abbrev b_A_set : ByteArray := method_7_code
abbrev y_A_set : MethodName := ⟨"QuakeServerLaw", "set", "(LQuakeServer;IID[D)I"⟩
abbrev b_Q_set : ByteArray := prog_1_method_6_code
abbrev y_Q_set : MethodName := ⟨"QuakeServer", "set", "(IID)D"⟩
abbrev b_Q_valueOf : ByteArray := prog_1_method_21_code
abbrev y_Q_valueOf : MethodName := ⟨"QuakeServer", "valueOf", "(I)D"⟩
abbrev b_A_get : ByteArray := method_8_code
abbrev y_A_get : MethodName := ⟨"QuakeServerLaw", "get", "(LQuakeServer;II[D)I"⟩
abbrev b_Q_get : ByteArray := prog_1_method_7_code
abbrev y_Q_get : MethodName := ⟨"QuakeServer", "get", "(II)D"⟩
abbrev b_A_setGlobal : ByteArray := method_9_code
abbrev y_A_setGlobal : MethodName := ⟨"QuakeServerLaw", "setGlobal", "(LQuakeServer;II[J)I"⟩
abbrev b_Q_setGlobal : ByteArray := prog_1_method_8_code
abbrev y_Q_setGlobal : MethodName := ⟨"QuakeServer", "setGlobal", "(II)I"⟩
abbrev b_A_global : ByteArray := method_10_code
abbrev y_A_global : MethodName := ⟨"QuakeServerLaw", "global", "(LQuakeServer;I[J)I"⟩
abbrev b_Q_global : ByteArray := prog_1_method_9_code
abbrev y_Q_global : MethodName := ⟨"QuakeServer", "global", "(I)I"⟩
abbrev b_A_run : ByteArray := method_11_code
abbrev y_A_run : MethodName := ⟨"QuakeServerLaw", "run", "(LQuakeServer;III[J)I"⟩
abbrev b_Q_run : ByteArray := prog_1_method_10_code
abbrev y_Q_run : MethodName := ⟨"QuakeServer", "run", "(III)I"⟩
abbrev b_Q_isEntityOrWorld : ByteArray := prog_1_method_17_code
abbrev y_Q_isEntityOrWorld : MethodName := ⟨"QuakeServer", "isEntityOrWorld", "(I)Z"⟩
abbrev b_M_start : ByteArray := prog_4_method_3_code
abbrev y_M_start : MethodName := ⟨"QuakeServer$Machine", "start", "(III)I"⟩
abbrev b_M_perform : ByteArray := prog_4_method_4_code
abbrev y_M_perform : MethodName := ⟨"QuakeServer$Machine", "perform", "(I)I"⟩
abbrev b_M_leaveEndedFunctions : ByteArray := prog_4_method_5_code
abbrev y_M_leaveEndedFunctions : MethodName := ⟨"QuakeServer$Machine", "leaveEndedFunctions", "()V"⟩
abbrev b_M_step : ByteArray := prog_4_method_6_code
abbrev y_M_step : MethodName := ⟨"QuakeServer$Machine", "step", "()V"⟩
abbrev b_Q_wholeOf : ByteArray := prog_1_method_22_code
abbrev y_Q_wholeOf : MethodName := ⟨"QuakeServer", "wholeOf", "(I)I"⟩
abbrev b_M_enter : ByteArray := prog_4_method_7_code
abbrev y_M_enter : MethodName := ⟨"QuakeServer$Machine", "enter", "(I)V"⟩
abbrev b_M_result : ByteArray := prog_4_method_8_code
abbrev y_M_result : MethodName := ⟨"QuakeServer$Machine", "result", "(III)I"⟩
abbrev b_Q_inRange : ByteArray := prog_1_method_23_code
abbrev y_Q_inRange : MethodName := ⟨"QuakeServer", "inRange", "(J)I"⟩
abbrev b_J_floorDiv_JJJ : ByteArray := prog_13_method_49_code
abbrev y_J_floorDiv_JJJ : MethodName := ⟨"java/lang/Math", "floorDiv", "(JJ)J"⟩
abbrev b_E_firstBehind : ByteArray := prog_2_method_6_code
abbrev y_E_firstBehind : MethodName := ⟨"QuakeServer$Entities", "firstBehind", "(I)I"⟩
abbrev b_M_draw : ByteArray := prog_4_method_9_code
abbrev y_M_draw : MethodName := ⟨"QuakeServer$Machine", "draw", "()I"⟩
abbrev b_A_tick : ByteArray := method_12_code
abbrev y_A_tick : MethodName := ⟨"QuakeServerLaw", "tick", "(LQuakeServer;I[J)I"⟩
abbrev b_Q_tick : ByteArray := prog_1_method_11_code
abbrev y_Q_tick : MethodName := ⟨"QuakeServer", "tick", "(I)I"⟩
abbrev b_M_advanceTime : ByteArray := prog_4_method_2_code
abbrev y_M_advanceTime : MethodName := ⟨"QuakeServer$Machine", "advanceTime", "()V"⟩
abbrev b_V_takeTurn : ByteArray := prog_5_method_2_code
abbrev y_V_takeTurn : MethodName := ⟨"QuakeServer$Mover", "takeTurn", "(I)V"⟩
abbrev b_E_wholeField : ByteArray := prog_2_method_8_code
abbrev y_E_wholeField : MethodName := ⟨"QuakeServer$Entities", "wholeField", "(II)I"⟩
abbrev b_V_travel : ByteArray := prog_5_method_3_code
abbrev y_V_travel : MethodName := ⟨"QuakeServer$Mover", "travel", "(II)V"⟩
abbrev b_V_go : ByteArray := prog_5_method_4_code
abbrev y_V_go : MethodName := ⟨"QuakeServer$Mover", "go", "(II)I"⟩
abbrev b_J_floorDiv_III : ByteArray := prog_13_method_47_code
abbrev y_J_floorDiv_III : MethodName := ⟨"java/lang/Math", "floorDiv", "(II)I"⟩
abbrev b_J_abs_II : ByteArray := prog_13_method_59_code
abbrev y_J_abs_II : MethodName := ⟨"java/lang/Math", "abs", "(I)I"⟩
abbrev b_V_meetWalls : ByteArray := prog_5_method_5_code
abbrev y_V_meetWalls : MethodName := ⟨"QuakeServer$Mover", "meetWalls", "(IIZ)V"⟩
abbrev b_E_low : ByteArray := prog_2_method_10_code
abbrev y_E_low : MethodName := ⟨"QuakeServer$Entities", "low", "(II)I"⟩
abbrev b_E_sizeUsed : ByteArray := prog_2_method_12_code
abbrev y_E_sizeUsed : MethodName := ⟨"QuakeServer$Entities", "sizeUsed", "(I)I"⟩
abbrev b_J_min_III : ByteArray := prog_13_method_69_code
abbrev y_J_min_III : MethodName := ⟨"java/lang/Math", "min", "(II)I"⟩
abbrev b_J_max_III : ByteArray := prog_13_method_65_code
abbrev y_J_max_III : MethodName := ⟨"java/lang/Math", "max", "(II)I"⟩
abbrev b_E_high : ByteArray := prog_2_method_11_code
abbrev y_E_high : MethodName := ⟨"QuakeServer$Entities", "high", "(II)I"⟩
abbrev b_W_high : ByteArray := prog_7_method_4_code
abbrev y_W_high : MethodName := ⟨"QuakeServer$Walls", "high", "(II)I"⟩
abbrev b_W_low : ByteArray := prog_7_method_3_code
abbrev y_W_low : MethodName := ⟨"QuakeServer$Walls", "low", "(II)I"⟩
abbrev b_V_meet : ByteArray := prog_5_method_8_code
abbrev y_V_meet : MethodName := ⟨"QuakeServer$Mover", "meet", "(II)V"⟩
abbrev b_V_meetEntities : ByteArray := prog_5_method_6_code
abbrev y_V_meetEntities : MethodName := ⟨"QuakeServer$Mover", "meetEntities", "(IIZ)V"⟩
abbrev b_V_mayBlock : ByteArray := prog_5_method_7_code
abbrev y_V_mayBlock : MethodName := ⟨"QuakeServer$Mover", "mayBlock", "(II)Z"⟩
abbrev b_E_boxesOverlap : ByteArray := prog_2_method_13_code
abbrev y_E_boxesOverlap : MethodName := ⟨"QuakeServer$Entities", "boxesOverlap", "(III)Z"⟩
abbrev b_V_touchTriggers : ByteArray := prog_5_method_9_code
abbrev y_V_touchTriggers : MethodName := ⟨"QuakeServer$Mover", "touchTriggers", "(I)V"⟩
abbrev b_V_think : ByteArray := prog_5_method_10_code
abbrev y_V_think : MethodName := ⟨"QuakeServer$Mover", "think", "(I)V"⟩
abbrev b_E_number : ByteArray := prog_2_method_3_code
abbrev y_E_number : MethodName := ⟨"QuakeServer$Entities", "number", "()I"⟩
abbrev b_A_change : ByteArray := method_13_code
abbrev y_A_change : MethodName := ⟨"QuakeServerLaw", "change", "(LQuakeServer;I[J)I"⟩
abbrev b_Q_change : ByteArray := prog_1_method_13_code
abbrev y_Q_change : MethodName := ⟨"QuakeServer", "change", "(I)I"⟩
abbrev b_L_difference : ByteArray := prog_3_method_4_code
abbrev y_L_difference : MethodName := ⟨"QuakeServer$LastMessage", "difference", "(I)I"⟩
abbrev b_A_count : ByteArray := method_14_code
abbrev y_A_count : MethodName := ⟨"QuakeServerLaw", "count", "(LQuakeServer;I[J)I"⟩
abbrev b_Q_count : ByteArray := prog_1_method_15_code
abbrev y_Q_count : MethodName := ⟨"QuakeServer", "count", "(I)I"⟩
abbrev b_N_init : ByteArray := prog_9_method_1_code
abbrev y_N_init : MethodName := ⟨"QuakeServerModel", "<init>", "()V"⟩
abbrev b_N_thrown : ByteArray := prog_9_method_2_code
abbrev y_N_thrown : MethodName := ⟨"QuakeServerModel", "thrown", "()I"⟩
abbrev b_N_wall : ByteArray := prog_9_method_8_code
abbrev y_N_wall : MethodName := ⟨"QuakeServerModel", "wall", "(IIII)I"⟩
abbrev b_N_in : ByteArray := prog_9_method_4_code
abbrev y_N_in : MethodName := ⟨"QuakeServerModel", "in", "(III)Z"⟩
abbrev b_N_fail : ByteArray := prog_9_method_3_code
abbrev y_N_fail : MethodName := ⟨"QuakeServerModel", "fail", "(I)I"⟩
abbrev b_N_instr : ByteArray := prog_9_method_10_code
abbrev y_N_instr : MethodName := ⟨"QuakeServerModel", "instr", "(IIIII)I"⟩
abbrev b_N_fits : ByteArray := prog_9_method_9_code
abbrev y_N_fits : MethodName := ⟨"QuakeServerModel", "fits", "(IIII)Z"⟩
abbrev b_N_spawn : ByteArray := prog_9_method_14_code
abbrev y_N_spawn : MethodName := ⟨"QuakeServerModel", "spawn", "(DDD)I"⟩
abbrev b_N_number : ByteArray := prog_9_method_12_code
abbrev y_N_number : MethodName := ⟨"QuakeServerModel", "number", "(D)Z"⟩
abbrev b_N_create : ByteArray := prog_9_method_11_code
abbrev y_N_create : MethodName := ⟨"QuakeServerModel", "create", "()I"⟩
abbrev b_N_eighths : ByteArray := prog_9_method_13_code
abbrev y_N_eighths : MethodName := ⟨"QuakeServerModel", "eighths", "(D)J"⟩
abbrev b_N_remove : ByteArray := prog_9_method_16_code
abbrev y_N_remove : MethodName := ⟨"QuakeServerModel", "remove", "(I)I"⟩
abbrev b_N_gone : ByteArray := prog_9_method_15_code
abbrev y_N_gone : MethodName := ⟨"QuakeServerModel", "gone", "(I)Z"⟩
abbrev b_N_set : ByteArray := prog_9_method_17_code
abbrev y_N_set : MethodName := ⟨"QuakeServerModel", "set", "(IID)D"⟩
abbrev b_N_get : ByteArray := prog_9_method_18_code
abbrev y_N_get : MethodName := ⟨"QuakeServerModel", "get", "(II)D"⟩
abbrev b_N_setGlobal : ByteArray := prog_9_method_19_code
abbrev y_N_setGlobal : MethodName := ⟨"QuakeServerModel", "setGlobal", "(II)I"⟩
abbrev b_N_global : ByteArray := prog_9_method_20_code
abbrev y_N_global : MethodName := ⟨"QuakeServerModel", "global", "(I)I"⟩
abbrev b_N_run : ByteArray := prog_9_method_28_code
abbrev y_N_run : MethodName := ⟨"QuakeServerModel", "run", "(III)I"⟩
abbrev b_N_perform : ByteArray := prog_9_method_27_code
abbrev y_N_perform : MethodName := ⟨"QuakeServerModel", "perform", "(IJJZ)I"⟩
abbrev b_N_instructions : ByteArray := prog_9_method_26_code
abbrev y_N_instructions : MethodName := ⟨"QuakeServerModel", "instructions", "(I)I"⟩
abbrev b_N_unwound : ByteArray := prog_9_method_25_code
abbrev y_N_unwound : MethodName := ⟨"QuakeServerModel", "unwound", "(I)I"⟩
abbrev b_N_instruction : ByteArray := prog_9_method_24_code
abbrev y_N_instruction : MethodName := ⟨"QuakeServerModel", "instruction", "(I)V"⟩
abbrev b_N_whole : ByteArray := prog_9_method_7_code
abbrev y_N_whole : MethodName := ⟨"QuakeServerModel", "whole", "(J)I"⟩
abbrev b_N_down : ByteArray := prog_9_method_6_code
abbrev y_N_down : MethodName := ⟨"QuakeServerModel", "down", "(JJ)J"⟩
abbrev b_N_given : ByteArray := prog_9_method_23_code
abbrev y_N_given : MethodName := ⟨"QuakeServerModel", "given", "(IJI)J"⟩
abbrev b_N_clamp : ByteArray := prog_9_method_5_code
abbrev y_N_clamp : MethodName := ⟨"QuakeServerModel", "clamp", "(J)J"⟩
abbrev b_N_behind : ByteArray := prog_9_method_22_code
abbrev y_N_behind : MethodName := ⟨"QuakeServerModel", "behind", "(I)J"⟩
abbrev b_N_drawn : ByteArray := prog_9_method_21_code
abbrev y_N_drawn : MethodName := ⟨"QuakeServerModel", "drawn", "()J"⟩
abbrev b_N_tick : ByteArray := prog_9_method_39_code
abbrev y_N_tick : MethodName := ⟨"QuakeServerModel", "tick", "(I)I"⟩
abbrev b_N_turn : ByteArray := prog_9_method_37_code
abbrev y_N_turn : MethodName := ⟨"QuakeServerModel", "turn", "(I)V"⟩
abbrev b_N_go : ByteArray := prog_9_method_35_code
abbrev y_N_go : MethodName := ⟨"QuakeServerModel", "go", "(II)V"⟩
abbrev b_N_blockers : ByteArray := prog_9_method_33_code
abbrev y_N_blockers : MethodName := ⟨"QuakeServerModel", "blockers", "(IIZ)V"⟩
abbrev b_N_half : ByteArray := prog_9_method_29_code
abbrev y_N_half : MethodName := ⟨"QuakeServerModel", "half", "(I)J"⟩
abbrev b_N_overlap : ByteArray := prog_9_method_30_code
abbrev y_N_overlap : MethodName := ⟨"QuakeServerModel", "overlap", "(JJJJ)Z"⟩
abbrev b_N_consider : ByteArray := prog_9_method_32_code
abbrev y_N_consider : MethodName := ⟨"QuakeServerModel", "consider", "(IJZJJ)V"⟩
abbrev b_N_meets : ByteArray := prog_9_method_31_code
abbrev y_N_meets : MethodName := ⟨"QuakeServerModel", "meets", "(III)Z"⟩
abbrev b_N_touch : ByteArray := prog_9_method_34_code
abbrev y_N_touch : MethodName := ⟨"QuakeServerModel", "touch", "(II)V"⟩
abbrev b_N_triggers : ByteArray := prog_9_method_36_code
abbrev y_N_triggers : MethodName := ⟨"QuakeServerModel", "triggers", "(I)V"⟩
abbrev b_N_present : ByteArray := prog_9_method_38_code
abbrev y_N_present : MethodName := ⟨"QuakeServerModel", "present", "()I"⟩
abbrev b_N_changes : ByteArray := prog_9_method_41_code
abbrev y_N_changes : MethodName := ⟨"QuakeServerModel", "changes", "()I"⟩
abbrev b_N_changed : ByteArray := prog_9_method_40_code
abbrev y_N_changed : MethodName := ⟨"QuakeServerModel", "changed", "(II)Z"⟩
abbrev b_N_change : ByteArray := prog_9_method_42_code
abbrev y_N_change : MethodName := ⟨"QuakeServerModel", "change", "(I)I"⟩
abbrev b_N_message : ByteArray := prog_9_method_43_code
abbrev y_N_message : MethodName := ⟨"QuakeServerModel", "message", "()I"⟩
abbrev b_N_count : ByteArray := prog_9_method_44_code
abbrev y_N_count : MethodName := ⟨"QuakeServerModel", "count", "(I)I"⟩
def qs_gt : List Cond := lw_tbl.filter goodWord
abbrev qs_ws (y : MethodName) (b : ByteArray) (n : Nat) (r : Option FieldType) : List Cond := Cond.code y b n r :: qs_gt
theorem qs_gg {w : Cond} (h : w ∈ qs_gt) : goodWord w = true := (List.mem_filter.mp h).2
theorem qs_mem {w : Cond} (i : Nat) (h : tables_1[i]? = some w) (hg : goodWord w = true) : w ∈ qs_gt := List.mem_filter.mpr ⟨List.mem_append_right _ (List.mem_of_getElem? h), hg⟩
theorem qs_memp {w : Cond} (i : Nat) (h : (k2_sels lw_privs)[i]? = some w) (hg : goodWord w = true) : w ∈ qs_gt := List.mem_filter.mpr ⟨List.mem_append_left _ (List.mem_of_getElem? h), hg⟩
theorem qs_in1 {w : Cond} (h : w ∈ qs_gt) : w ∈ qs_gt ∧ ((w.onTables && w.keeps) = true ∨ ∃ ty, w = .arrayClass ty) := ⟨h, good_of_word (qs_gg h)⟩
theorem qs_gc {y : MethodName} {b : ByteArray} {n : Nat} {r : Option FieldType} (h : Cond.code y b n r ∈ qs_gt) : GoodIn qs_gt (qs_ws y b n r) := fun w hw => by
  rcases List.mem_cons.mp hw with rfl | hw
  · exact qs_in1 h
  · exact qs_in1 hw
theorem qs_gV {own C : String} {idx : Nat} {y : MethodName} {b : ByteArray} {n : Nat} {r : Option FieldType} (h1 : Cond.methodLink own idx y ∈ qs_gt) (h2 : Cond.instanceMethod y ∈ qs_gt) (h3 : Cond.selects C y y ∈ qs_gt) (h4 : Cond.initialized C ∈ qs_gt) (h : Cond.code y b n r ∈ qs_gt) : GoodIn qs_gt (wsV own idx C y (qs_ws y b n r)) := fun w hw => by
  rcases List.mem_append.mp hw with hw | hw
  · simp only [List.mem_cons, List.not_mem_nil, or_false] at hw
    rcases hw with rfl | rfl | rfl | rfl
    · exact qs_in1 h1
    · exact qs_in1 h2
    · exact qs_in1 h3
    · exact qs_in1 h4
  · exact qs_gc h w hw
theorem qs_gS {own : String} {idx : Nat} {y : MethodName} {b : ByteArray} {n : Nat} {r : Option FieldType} (h1 : Cond.methodLink own idx y ∈ qs_gt) (h2 : Cond.static y ∈ qs_gt) (h4 : Cond.initialized y.cls ∈ qs_gt) (h : Cond.code y b n r ∈ qs_gt) : GoodIn qs_gt (va_wsS own idx y (qs_ws y b n r)) := fun w hw => by
  rcases List.mem_append.mp hw with hw | hw
  · simp only [List.mem_cons, List.not_mem_nil, or_false] at hw
    rcases hw with rfl | rfl | rfl
    · exact qs_in1 h1
    · exact qs_in1 h2
    · exact qs_in1 h4
  · exact qs_gc h w hw
def qn_F : List (String × Nat × String × String × String × String) := [("QuakeServer", 70, "QuakeServer$Walls", "number", "I", "QuakeServer"), ("QuakeServer$Mover", 96, "QuakeServer$Walls", "number", "I", "QuakeServer"), ("QuakeServer$Machine", 76, "QuakeServer$Program", "parts", "[I", "QuakeServer"), ("QuakeServer", 150, "QuakeServer$Machine", "globals", "[I", "QuakeServer"), ("QuakeServer$Mover", 114, "QuakeServer$Machine", "time", "I", "QuakeServer"), ("QuakeServer", 186, "QuakeServer$Machine", "time", "I", "QuakeServer"), ("QuakeServer", 192, "QuakeServer$Machine", "drawState", "I", "QuakeServer"), ("QuakeServer", 189, "QuakeServer$Machine", "runaways", "I", "QuakeServer"), ("QuakeServer", 195, "QuakeServer$Machine", "workingRuns", "I", "QuakeServer"), ("QuakeServer", 198, "QuakeServer$Mover", "hits", "I", "QuakeServer")]
def qn_M : List (String × Nat × MethodName × String) := [("QuakeServer", 11, ⟨"QuakeServer$Entities", "<init>", "()V"⟩, "QuakeServer"), ("QuakeServer", 18, ⟨"QuakeServer$Walls", "<init>", "()V"⟩, "QuakeServer"), ("QuakeServer", 25, ⟨"QuakeServer$Program", "<init>", "()V"⟩, "QuakeServer"), ("QuakeServer$Program", 18, ⟨"QuakeServer", "isBelow", "(II)Z"⟩, "QuakeServer"), ("QuakeServer$Machine", 40, ⟨"QuakeServer", "isBelow", "(II)Z"⟩, "QuakeServer"), ("QuakeServer$Machine", 79, ⟨"QuakeServer", "wholeOf", "(I)I"⟩, "QuakeServer"), ("QuakeServer$Machine", 36, ⟨"QuakeServer", "inRange", "(J)I"⟩, "QuakeServer"), ("QuakeServer$Entities", 27, ⟨"QuakeServer", "wholeOf", "(I)I"⟩, "QuakeServer"), ("QuakeServer$Mover", 32, ⟨"QuakeServer", "inRange", "(J)I"⟩, "QuakeServer")]
def qn_C : List (String × String) := [("java/lang/IllegalArgumentException", "java/lang/IllegalArgumentException"), ("java/lang/IllegalStateException", "java/lang/IllegalStateException"), ("java/util/NoSuchElementException", "java/util/NoSuchElementException")]
def qn_D : List MethodName := [⟨"java/lang/RuntimeException", "<init>", "()V"⟩, ⟨"java/lang/RuntimeException", "<init>", "(Ljava/lang/String;)V"⟩, ⟨"java/lang/Exception", "<init>", "()V"⟩, ⟨"java/lang/Exception", "<init>", "(Ljava/lang/String;)V"⟩, ⟨"java/lang/Throwable", "<init>", "()V"⟩, ⟨"java/lang/Throwable", "<init>", "(Ljava/lang/String;)V"⟩]
def qs_N (U : State) : Prop := (∀ q ∈ qn_F, va_Nw (.fieldLinkNest q.1 q.2.1 q.2.2.1 q.2.2.2.1 q.2.2.2.2.1 q.2.2.2.2.2) U) ∧ (∀ q ∈ qn_M, va_Nw (.methodLinkNest q.1 q.2.1 q.2.2.1 q.2.2.2) U) ∧ (∀ q ∈ qn_C, va_Nw (.castable q.1 q.2) U) ∧ ∀ q ∈ qn_D, va_Nw (.declares q) U
theorem qs_N.warm {s U : State} (hW : s.WarmedH U.vm) (h : qs_N s) : qs_N U := ⟨fun q hq => va_Nw.warmF hW (h.1 q hq), fun q hq => va_Nw.warmM hW (h.2.1 q hq), fun q hq => va_Nw.warmC hW (h.2.2.1 q hq), fun q hq => va_Nw.warmD hW (h.2.2.2 q hq)⟩
theorem qs_N.same {s U : State} (hv : s.vm = U.vm) (h : qs_N s) : qs_N U := ⟨fun q hq => va_Nw.same rfl hv (h.1 q hq), fun q hq => va_Nw.same rfl hv (h.2.1 q hq), fun q hq => va_Nw.same rfl hv (h.2.2.1 q hq), fun q hq => va_Nw.same rfl hv (h.2.2.2 q hq)⟩
theorem nF_0 {U : State} (h : qs_N U) : va_Nw (.fieldLinkNest "QuakeServer" 70 "QuakeServer$Walls" "number" "I" "QuakeServer") U := h.1 ("QuakeServer", 70, "QuakeServer$Walls", "number", "I", "QuakeServer") (List.mem_of_getElem? (i := 0) rfl)
theorem nF_1 {U : State} (h : qs_N U) : va_Nw (.fieldLinkNest "QuakeServer$Mover" 96 "QuakeServer$Walls" "number" "I" "QuakeServer") U := h.1 ("QuakeServer$Mover", 96, "QuakeServer$Walls", "number", "I", "QuakeServer") (List.mem_of_getElem? (i := 1) rfl)
theorem nF_2 {U : State} (h : qs_N U) : va_Nw (.fieldLinkNest "QuakeServer$Machine" 76 "QuakeServer$Program" "parts" "[I" "QuakeServer") U := h.1 ("QuakeServer$Machine", 76, "QuakeServer$Program", "parts", "[I", "QuakeServer") (List.mem_of_getElem? (i := 2) rfl)
theorem nF_3 {U : State} (h : qs_N U) : va_Nw (.fieldLinkNest "QuakeServer" 150 "QuakeServer$Machine" "globals" "[I" "QuakeServer") U := h.1 ("QuakeServer", 150, "QuakeServer$Machine", "globals", "[I", "QuakeServer") (List.mem_of_getElem? (i := 3) rfl)
theorem nF_4 {U : State} (h : qs_N U) : va_Nw (.fieldLinkNest "QuakeServer$Mover" 114 "QuakeServer$Machine" "time" "I" "QuakeServer") U := h.1 ("QuakeServer$Mover", 114, "QuakeServer$Machine", "time", "I", "QuakeServer") (List.mem_of_getElem? (i := 4) rfl)
theorem nF_5 {U : State} (h : qs_N U) : va_Nw (.fieldLinkNest "QuakeServer" 186 "QuakeServer$Machine" "time" "I" "QuakeServer") U := h.1 ("QuakeServer", 186, "QuakeServer$Machine", "time", "I", "QuakeServer") (List.mem_of_getElem? (i := 5) rfl)
theorem nF_6 {U : State} (h : qs_N U) : va_Nw (.fieldLinkNest "QuakeServer" 192 "QuakeServer$Machine" "drawState" "I" "QuakeServer") U := h.1 ("QuakeServer", 192, "QuakeServer$Machine", "drawState", "I", "QuakeServer") (List.mem_of_getElem? (i := 6) rfl)
theorem nF_7 {U : State} (h : qs_N U) : va_Nw (.fieldLinkNest "QuakeServer" 189 "QuakeServer$Machine" "runaways" "I" "QuakeServer") U := h.1 ("QuakeServer", 189, "QuakeServer$Machine", "runaways", "I", "QuakeServer") (List.mem_of_getElem? (i := 7) rfl)
theorem nF_8 {U : State} (h : qs_N U) : va_Nw (.fieldLinkNest "QuakeServer" 195 "QuakeServer$Machine" "workingRuns" "I" "QuakeServer") U := h.1 ("QuakeServer", 195, "QuakeServer$Machine", "workingRuns", "I", "QuakeServer") (List.mem_of_getElem? (i := 8) rfl)
theorem nF_9 {U : State} (h : qs_N U) : va_Nw (.fieldLinkNest "QuakeServer" 198 "QuakeServer$Mover" "hits" "I" "QuakeServer") U := h.1 ("QuakeServer", 198, "QuakeServer$Mover", "hits", "I", "QuakeServer") (List.mem_of_getElem? (i := 9) rfl)
theorem nM_0 {U : State} (h : qs_N U) : va_Nw (.methodLinkNest "QuakeServer" 11 ⟨"QuakeServer$Entities", "<init>", "()V"⟩ "QuakeServer") U := h.2.1 ("QuakeServer", 11, ⟨"QuakeServer$Entities", "<init>", "()V"⟩, "QuakeServer") (List.mem_of_getElem? (i := 0) rfl)
theorem nM_1 {U : State} (h : qs_N U) : va_Nw (.methodLinkNest "QuakeServer" 18 ⟨"QuakeServer$Walls", "<init>", "()V"⟩ "QuakeServer") U := h.2.1 ("QuakeServer", 18, ⟨"QuakeServer$Walls", "<init>", "()V"⟩, "QuakeServer") (List.mem_of_getElem? (i := 1) rfl)
theorem nM_2 {U : State} (h : qs_N U) : va_Nw (.methodLinkNest "QuakeServer" 25 ⟨"QuakeServer$Program", "<init>", "()V"⟩ "QuakeServer") U := h.2.1 ("QuakeServer", 25, ⟨"QuakeServer$Program", "<init>", "()V"⟩, "QuakeServer") (List.mem_of_getElem? (i := 2) rfl)
theorem nM_3 {U : State} (h : qs_N U) : va_Nw (.methodLinkNest "QuakeServer$Program" 18 ⟨"QuakeServer", "isBelow", "(II)Z"⟩ "QuakeServer") U := h.2.1 ("QuakeServer$Program", 18, ⟨"QuakeServer", "isBelow", "(II)Z"⟩, "QuakeServer") (List.mem_of_getElem? (i := 3) rfl)
theorem nM_4 {U : State} (h : qs_N U) : va_Nw (.methodLinkNest "QuakeServer$Machine" 40 ⟨"QuakeServer", "isBelow", "(II)Z"⟩ "QuakeServer") U := h.2.1 ("QuakeServer$Machine", 40, ⟨"QuakeServer", "isBelow", "(II)Z"⟩, "QuakeServer") (List.mem_of_getElem? (i := 4) rfl)
theorem nM_5 {U : State} (h : qs_N U) : va_Nw (.methodLinkNest "QuakeServer$Machine" 79 ⟨"QuakeServer", "wholeOf", "(I)I"⟩ "QuakeServer") U := h.2.1 ("QuakeServer$Machine", 79, ⟨"QuakeServer", "wholeOf", "(I)I"⟩, "QuakeServer") (List.mem_of_getElem? (i := 5) rfl)
theorem nM_6 {U : State} (h : qs_N U) : va_Nw (.methodLinkNest "QuakeServer$Machine" 36 ⟨"QuakeServer", "inRange", "(J)I"⟩ "QuakeServer") U := h.2.1 ("QuakeServer$Machine", 36, ⟨"QuakeServer", "inRange", "(J)I"⟩, "QuakeServer") (List.mem_of_getElem? (i := 6) rfl)
theorem nM_7 {U : State} (h : qs_N U) : va_Nw (.methodLinkNest "QuakeServer$Entities" 27 ⟨"QuakeServer", "wholeOf", "(I)I"⟩ "QuakeServer") U := h.2.1 ("QuakeServer$Entities", 27, ⟨"QuakeServer", "wholeOf", "(I)I"⟩, "QuakeServer") (List.mem_of_getElem? (i := 7) rfl)
theorem nM_8 {U : State} (h : qs_N U) : va_Nw (.methodLinkNest "QuakeServer$Mover" 32 ⟨"QuakeServer", "inRange", "(J)I"⟩ "QuakeServer") U := h.2.1 ("QuakeServer$Mover", 32, ⟨"QuakeServer", "inRange", "(J)I"⟩, "QuakeServer") (List.mem_of_getElem? (i := 8) rfl)
