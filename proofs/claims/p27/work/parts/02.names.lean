/-! names: of the program that the check prints (claim/NAMES.p27), without its word lists -/
def RX0 : String := "MarkArenas$History"
def TX0 : u_T := fun k => match k with
  | 0 => ("MarkArenas$History", "states", "[LMarkArenas$State;", true)
  | 1 => ("MarkArenas$History", "next", "I", false)
  | _ => ("MarkArenas$History", "saved", "I", false)
def tyX0 : Nat → FieldType := fun k => match k with
  | 0 => .array (.object "MarkArenas$State")
  | 1 => .int
  | _ => .int
theorem nmX0 : ∀ a, a < 3 → ∀ b, b < 3 → a ≠ b → (TX0 a).2.1 ≠ (TX0 b).2.1 := by decide +kernel
theorem tyX0_ok : ∀ k, k < 3 → parseFieldDescriptor (TX0 k).2.2.1 = some (tyX0 k) := by decide +kernel
abbrev cX0_init : ByteArray := prog_2_method_1_code
def yX0_init : MethodName := ⟨RX0, "<init>", "()V"⟩
abbrev cX0_save : ByteArray := prog_2_method_2_code
def yX0_save : MethodName := ⟨RX0, "save", "(LMarkArenas$State;)V"⟩
abbrev cX0_restore : ByteArray := prog_2_method_3_code
def yX0_restore : MethodName := ⟨RX0, "restore", "(LMarkArenas$State;)V"⟩
def RX1 : String := "MarkArenas$Reach"
def TX1 : u_T := fun k => match k with
  | 0 => ("MarkArenas$Reach", "order", "[I", true)
  | 1 => ("MarkArenas$Reach", "place", "[I", true)
  | 2 => ("MarkArenas$Reach", "steps", "[I", true)
  | _ => ("MarkArenas$Reach", "met", "I", false)
def tyX1 : Nat → FieldType := fun k => match k with
  | 0 => .array .int
  | 1 => .array .int
  | 2 => .array .int
  | _ => .int
theorem nmX1 : ∀ a, a < 4 → ∀ b, b < 4 → a ≠ b → (TX1 a).2.1 ≠ (TX1 b).2.1 := by decide +kernel
theorem tyX1_ok : ∀ k, k < 4 → parseFieldDescriptor (TX1 k).2.2.1 = some (tyX1 k) := by decide +kernel
abbrev cX1_init : ByteArray := prog_3_method_1_code
def yX1_init : MethodName := ⟨RX1, "<init>", "()V"⟩
abbrev cX1_forget : ByteArray := prog_3_method_2_code
def yX1_forget : MethodName := ⟨RX1, "forget", "()V"⟩
abbrev cX1_hasMet : ByteArray := prog_3_method_3_code
def yX1_hasMet : MethodName := ⟨RX1, "hasMet", "(I)Z"⟩
abbrev cX1_placeOf : ByteArray := prog_3_method_4_code
def yX1_placeOf : MethodName := ⟨RX1, "placeOf", "(I)I"⟩
abbrev cX1_stepsTo : ByteArray := prog_3_method_5_code
def yX1_stepsTo : MethodName := ⟨RX1, "stepsTo", "(I)I"⟩
abbrev cX1_meet : ByteArray := prog_3_method_6_code
def yX1_meet : MethodName := ⟨RX1, "meet", "(II)V"⟩
abbrev cX1_startAtRoots : ByteArray := prog_3_method_7_code
def yX1_startAtRoots : MethodName := ⟨RX1, "startAtRoots", "(LMarkArenas$State;I)V"⟩
abbrev cX1_follow : ByteArray := prog_3_method_8_code
def yX1_follow : MethodName := ⟨RX1, "follow", "(LMarkArenas$State;II)V"⟩
abbrev cX1_cells : ByteArray := prog_3_method_9_code
def yX1_cells : MethodName := ⟨RX1, "cells", "(LMarkArenas$State;)I"⟩
def RX2 : String := "MarkArenas$Returning"
def TX2 : u_T := fun k => match k with
  | 0 => ("MarkArenas$Returning", "living", "LMarkArenas$Reach;", true)
  | 1 => ("MarkArenas$Returning", "surviving", "LMarkArenas$Reach;", true)
  | _ => ("MarkArenas$Returning", "landings", "[I", true)
def tyX2 : Nat → FieldType := fun k => match k with
  | 0 => .object "MarkArenas$Reach"
  | 1 => .object "MarkArenas$Reach"
  | _ => .array .int
theorem nmX2 : ∀ a, a < 3 → ∀ b, b < 3 → a ≠ b → (TX2 a).2.1 ≠ (TX2 b).2.1 := by decide +kernel
theorem tyX2_ok : ∀ k, k < 3 → parseFieldDescriptor (TX2 k).2.2.1 = some (tyX2 k) := by decide +kernel
abbrev cX2_init : ByteArray := prog_4_method_1_code
def yX2_init : MethodName := ⟨RX2, "<init>", "()V"⟩
abbrev cX2_survey : ByteArray := prog_4_method_2_code
def yX2_survey : MethodName := ⟨RX2, "survey", "(LMarkArenas$State;I)V"⟩
abbrev cX2_meetRemembered : ByteArray := prog_4_method_3_code
def yX2_meetRemembered : MethodName := ⟨RX2, "meetRemembered", "(LMarkArenas$State;I)V"⟩
abbrev cX2_survivingCells : ByteArray := prog_4_method_4_code
def yX2_survivingCells : MethodName := ⟨RX2, "survivingCells", "(LMarkArenas$State;)I"⟩
abbrev cX2_deadCells : ByteArray := prog_4_method_5_code
def yX2_deadCells : MethodName := ⟨RX2, "deadCells", "(LMarkArenas$State;I)I"⟩
abbrev cX2_isKept : ByteArray := prog_4_method_6_code
def yX2_isKept : MethodName := ⟨RX2, "isKept", "(LMarkArenas$State;)Z"⟩
abbrev cX2_reason : ByteArray := prog_4_method_7_code
def yX2_reason : MethodName := ⟨RX2, "reason", "(LMarkArenas$State;II)I"⟩
abbrev cX2_landing : ByteArray := prog_4_method_9_code
def yX2_landing : MethodName := ⟨RX2, "landing", "(LMarkArenas$State;II)I"⟩
abbrev cX2_rank : ByteArray := prog_4_method_10_code
def yX2_rank : MethodName := ⟨RX2, "rank", "(LMarkArenas$State;I)I"⟩
abbrev cX2_carryOn : ByteArray := prog_4_method_11_code
def yX2_carryOn : MethodName := ⟨RX2, "carryOn", "(LMarkArenas$State;II)I"⟩
def RX3 : String := "MarkArenas$State"
def TX3 : u_T := fun k => match k with
  | 0 => ("MarkArenas$State", "isUsed", "[Z", true)
  | 1 => ("MarkArenas$State", "arenaOf", "[I", true)
  | 2 => ("MarkArenas$State", "address", "[I", true)
  | 3 => ("MarkArenas$State", "size", "[I", true)
  | 4 => ("MarkArenas$State", "fields", "[I", true)
  | 5 => ("MarkArenas$State", "isRoot", "[Z", true)
  | 6 => ("MarkArenas$State", "isPinned", "[Z", true)
  | 7 => ("MarkArenas$State", "laidAnew", "[I", true)
  | 8 => ("MarkArenas$State", "isHandedOut", "[Z", true)
  | 9 => ("MarkArenas$State", "mark", "[I", true)
  | 10 => ("MarkArenas$State", "opened", "[I", true)
  | 11 => ("MarkArenas$State", "settings", "[I", true)
  | 12 => ("MarkArenas$State", "madeSoFar", "I", false)
  | 13 => ("MarkArenas$State", "laidAnewSoFar", "I", false)
  | 14 => ("MarkArenas$State", "goneSoFar", "I", false)
  | _ => ("MarkArenas$State", "returnedSoFar", "I", false)
def tyX3 : Nat → FieldType := fun k => match k with
  | 0 => .array .boolean
  | 1 => .array .int
  | 2 => .array .int
  | 3 => .array .int
  | 4 => .array .int
  | 5 => .array .boolean
  | 6 => .array .boolean
  | 7 => .array .int
  | 8 => .array .boolean
  | 9 => .array .int
  | 10 => .array .int
  | 11 => .array .int
  | 12 => .int
  | 13 => .int
  | 14 => .int
  | _ => .int
theorem nmX3 : ∀ a, a < 16 → ∀ b, b < 16 → a ≠ b → (TX3 a).2.1 ≠ (TX3 b).2.1 := by decide +kernel
theorem tyX3_ok : ∀ k, k < 16 → parseFieldDescriptor (TX3 k).2.2.1 = some (tyX3 k) := by decide +kernel
abbrev cX3_init : ByteArray := prog_5_method_1_code
def yX3_init : MethodName := ⟨RX3, "<init>", "()V"⟩
abbrev cX3_copyFrom : ByteArray := prog_5_method_2_code
def yX3_copyFrom : MethodName := ⟨RX3, "copyFrom", "(LMarkArenas$State;)V"⟩
abbrev cX3_has : ByteArray := prog_5_method_3_code
def yX3_has : MethodName := ⟨RX3, "has", "(I)Z"⟩
abbrev cX3_isIn : ByteArray := prog_5_method_4_code
def yX3_isIn : MethodName := ⟨RX3, "isIn", "(II)Z"⟩
abbrev cX3_isOpen : ByteArray := prog_5_method_5_code
def yX3_isOpen : MethodName := ⟨RX3, "isOpen", "(I)Z"⟩
abbrev cX3_hasRoom : ByteArray := prog_5_method_6_code
def yX3_hasRoom : MethodName := ⟨RX3, "hasRoom", "(II)Z"⟩
abbrev cX3_reference : ByteArray := prog_5_method_7_code
def yX3_reference : MethodName := ⟨RX3, "reference", "(II)I"⟩
abbrev cX3_refer : ByteArray := prog_5_method_8_code
def yX3_refer : MethodName := ⟨RX3, "refer", "(III)V"⟩
abbrev cX3_lowestFreeArena : ByteArray := prog_5_method_9_code
def yX3_lowestFreeArena : MethodName := ⟨RX3, "lowestFreeArena", "()I"⟩
abbrev cX3_lowestFreeNumber : ByteArray := prog_5_method_10_code
def yX3_lowestFreeNumber : MethodName := ⟨RX3, "lowestFreeNumber", "()I"⟩
abbrev cX3_handOut : ByteArray := prog_5_method_11_code
def yX3_handOut : MethodName := ⟨RX3, "handOut", "(I)V"⟩
abbrev cX3_add : ByteArray := prog_5_method_12_code
def yX3_add : MethodName := ⟨RX3, "add", "(III)V"⟩
abbrev cX3_layAnew : ByteArray := prog_5_method_13_code
def yX3_layAnew : MethodName := ⟨RX3, "layAnew", "(III)V"⟩
abbrev cX3_free : ByteArray := prog_5_method_14_code
def yX3_free : MethodName := ⟨RX3, "free", "(I)I"⟩
abbrev cX3_drop : ByteArray := prog_5_method_15_code
def yX3_drop : MethodName := ⟨RX3, "drop", "(I)V"⟩
abbrev cX3_objectAt : ByteArray := prog_5_method_16_code
def yX3_objectAt : MethodName := ⟨RX3, "objectAt", "(II)I"⟩
abbrev cX3_objects : ByteArray := prog_5_method_17_code
def yX3_objects : MethodName := ⟨RX3, "objects", "()I"⟩
abbrev cX3_objectsIn : ByteArray := prog_5_method_18_code
def yX3_objectsIn : MethodName := ⟨RX3, "objectsIn", "(I)I"⟩
abbrev cX3_pinnedIn : ByteArray := prog_5_method_19_code
def yX3_pinnedIn : MethodName := ⟨RX3, "pinnedIn", "(I)I"⟩
abbrev cX3_roots : ByteArray := prog_5_method_20_code
def yX3_roots : MethodName := ⟨RX3, "roots", "()I"⟩
abbrev cX3_openArenas : ByteArray := prog_5_method_21_code
def yX3_openArenas : MethodName := ⟨RX3, "openArenas", "()I"⟩
abbrev cX3_references : ByteArray := prog_5_method_22_code
def yX3_references : MethodName := ⟨RX3, "references", "(Z)I"⟩
abbrev cX3_referencesTo : ByteArray := prog_5_method_23_code
def yX3_referencesTo : MethodName := ⟨RX3, "referencesTo", "(I)I"⟩
def RX4 : String := "MarkArenas$Text"
def TX4 : u_T := fun k => match k with
  | 0 => ("MarkArenas$Text", "codes", "[I", true)
  | 1 => ("MarkArenas$Text", "length", "I", false)
  | 2 => ("MarkArenas$Text", "partSize", "I", false)
  | 3 => ("MarkArenas$Text", "partIsRoot", "Z", false)
  | _ => ("MarkArenas$Text", "partHolder", "I", false)
def tyX4 : Nat → FieldType := fun k => match k with
  | 0 => .array .int
  | 1 => .int
  | 2 => .int
  | 3 => .boolean
  | _ => .int
theorem nmX4 : ∀ a, a < 5 → ∀ b, b < 5 → a ≠ b → (TX4 a).2.1 ≠ (TX4 b).2.1 := by decide +kernel
theorem tyX4_ok : ∀ k, k < 5 → parseFieldDescriptor (TX4 k).2.2.1 = some (tyX4 k) := by decide +kernel
abbrev cX4_init : ByteArray := prog_6_method_1_code
def yX4_init : MethodName := ⟨RX4, "<init>", "()V"⟩
def RX5 : String := "MarkArenas"
def TX5 : u_T := fun k => match k with
  | 0 => ("MarkArenas", "state", "LMarkArenas$State;", true)
  | 1 => ("MarkArenas", "returning", "LMarkArenas$Returning;", true)
  | 2 => ("MarkArenas", "lasting", "LMarkArenas$Reach;", true)
  | 3 => ("MarkArenas", "text", "LMarkArenas$Text;", true)
  | _ => ("MarkArenas", "history", "LMarkArenas$History;", true)
def tyX5 : Nat → FieldType := fun k => match k with
  | 0 => .object "MarkArenas$State"
  | 1 => .object "MarkArenas$Returning"
  | 2 => .object "MarkArenas$Reach"
  | 3 => .object "MarkArenas$Text"
  | _ => .object "MarkArenas$History"
theorem nmX5 : ∀ a, a < 5 → ∀ b, b < 5 → a ≠ b → (TX5 a).2.1 ≠ (TX5 b).2.1 := by decide +kernel
theorem tyX5_ok : ∀ k, k < 5 → parseFieldDescriptor (TX5 k).2.2.1 = some (tyX5 k) := by decide +kernel
abbrev cX5_init : ByteArray := prog_1_method_1_code
def yX5_init : MethodName := ⟨RX5, "<init>", "()V"⟩
abbrev cX5_open : ByteArray := prog_1_method_2_code
def yX5_open : MethodName := ⟨RX5, "open", "()I"⟩
abbrev cX5_make : ByteArray := prog_1_method_3_code
def yX5_make : MethodName := ⟨RX5, "make", "(II)I"⟩
abbrev cX5_link : ByteArray := prog_1_method_4_code
def yX5_link : MethodName := ⟨RX5, "link", "(III)I"⟩
abbrev cX5_root : ByteArray := prog_1_method_5_code
def yX5_root : MethodName := ⟨RX5, "root", "(IZ)I"⟩
abbrev cX5_pin : ByteArray := prog_1_method_6_code
def yX5_pin : MethodName := ⟨RX5, "pin", "(IZ)I"⟩
abbrev cX5_giveBack : ByteArray := prog_1_method_7_code
def yX5_giveBack : MethodName := ⟨RX5, "giveBack", "(II)I"⟩
abbrev cX5_set : ByteArray := prog_1_method_9_code
def yX5_set : MethodName := ⟨RX5, "set", "(II)I"⟩
abbrev cX5_undo : ByteArray := prog_1_method_16_code
def yX5_undo : MethodName := ⟨RX5, "undo", "()I"⟩
abbrev cX5_object : ByteArray := prog_1_method_17_code
def yX5_object : MethodName := ⟨RX5, "object", "(II)I"⟩
abbrev cX5_objectProperty : ByteArray := prog_1_method_18_code
def yX5_objectProperty : MethodName := ⟨RX5, "objectProperty", "(II)I"⟩
abbrev cX5_arena : ByteArray := prog_1_method_19_code
def yX5_arena : MethodName := ⟨RX5, "arena", "(II)I"⟩
abbrev cX5_arenaProperty : ByteArray := prog_1_method_20_code
def yX5_arenaProperty : MethodName := ⟨RX5, "arenaProperty", "(II)I"⟩
abbrev cX5_at : ByteArray := prog_1_method_21_code
def yX5_at : MethodName := ⟨RX5, "at", "(II)I"⟩
abbrev cX5_count : ByteArray := prog_1_method_22_code
def yX5_count : MethodName := ⟨RX5, "count", "(I)I"⟩
abbrev cX5_number : ByteArray := prog_1_method_23_code
def yX5_number : MethodName := ⟨RX5, "number", "(I)I"⟩
abbrev cX5_setting : ByteArray := prog_1_method_24_code
def yX5_setting : MethodName := ⟨RX5, "setting", "(I)I"⟩
abbrev cX5_ifLost : ByteArray := prog_1_method_27_code
def yX5_ifLost : MethodName := ⟨RX5, "ifLost", "(I)I"⟩
abbrev cX5_lostWith : ByteArray := prog_1_method_28_code
def yX5_lostWith : MethodName := ⟨RX5, "lostWith", "(I)I"⟩
abbrev cX5_traceRoots : ByteArray := prog_1_method_29_code
def yX5_traceRoots : MethodName := ⟨RX5, "traceRoots", "(I)V"⟩
abbrev cX5_best : ByteArray := prog_1_method_30_code
def yX5_best : MethodName := ⟨RX5, "best", "()I"⟩
abbrev cX5_livingShare : ByteArray := prog_1_method_31_code
def yX5_livingShare : MethodName := ⟨RX5, "livingShare", "()D"⟩
abbrev cX5_oneIf : ByteArray := prog_1_method_36_code
def yX5_oneIf : MethodName := ⟨RX5, "oneIf", "(Z)I"⟩
abbrev cX5_isArena : ByteArray := prog_1_method_37_code
def yX5_isArena : MethodName := ⟨RX5, "isArena", "(I)Z"⟩
abbrev cX5_isNumber : ByteArray := prog_1_method_38_code
def yX5_isNumber : MethodName := ⟨RX5, "isNumber", "(I)Z"⟩
abbrev cX5_refuseNoArena : ByteArray := prog_1_method_39_code
def yX5_refuseNoArena : MethodName := ⟨RX5, "refuseNoArena", "(I)V"⟩
abbrev cX5_refuseNoObject : ByteArray := prog_1_method_40_code
def yX5_refuseNoObject : MethodName := ⟨RX5, "refuseNoObject", "(I)V"⟩
abbrev cX5_refuseNoSetting : ByteArray := prog_1_method_41_code
def yX5_refuseNoSetting : MethodName := ⟨RX5, "refuseNoSetting", "(I)V"⟩
def RX6 : String := "MarkArenasModel"
def TX6 : u_T := fun k => match k with
  | _ => ("", "", "", false)
def tyX6 : Nat → FieldType := fun k => match k with
  | _ => .int
theorem nmX6 : ∀ a, a < 0 → ∀ b, b < 0 → a ≠ b → (TX6 a).2.1 ≠ (TX6 b).2.1 := by decide +kernel
theorem tyX6_ok : ∀ k, k < 0 → parseFieldDescriptor (TX6 k).2.2.1 = some (tyX6 k) := by decide +kernel
def RJ0 : String := "java/lang/String"
def TJ0 : u_T := fun k => match k with
  | _ => ("", "", "", false)
def tyJ0 : Nat → FieldType := fun k => match k with
  | _ => .int
theorem nmJ0 : ∀ a, a < 0 → ∀ b, b < 0 → a ≠ b → (TJ0 a).2.1 ≠ (TJ0 b).2.1 := by decide +kernel
theorem tyJ0_ok : ∀ k, k < 0 → parseFieldDescriptor (TJ0 k).2.2.1 = some (tyJ0 k) := by decide +kernel
def RJ10 : String := "java/lang/System"
def TJ10 : u_T := fun k => match k with
  | _ => ("", "", "", false)
def tyJ10 : Nat → FieldType := fun k => match k with
  | _ => .int
theorem nmJ10 : ∀ a, a < 0 → ∀ b, b < 0 → a ≠ b → (TJ10 a).2.1 ≠ (TJ10 b).2.1 := by decide +kernel
theorem tyJ10_ok : ∀ k, k < 0 → parseFieldDescriptor (TJ10 k).2.2.1 = some (tyJ10 k) := by decide +kernel
def RL : String := "MarkArenasLaw"
abbrev cL_low : ByteArray := method_2_code
def yL_low : MethodName := ⟨RL, "low", "(II)I"⟩
abbrev cL_cell : ByteArray := method_3_code
def yL_cell : MethodName := ⟨RL, "cell", "([II)I"⟩
abbrev cL_open : ByteArray := method_4_code
def yL_open : MethodName := ⟨RL, "open", "(LMarkArenas;)I"⟩
abbrev cL_make : ByteArray := method_5_code
def yL_make : MethodName := ⟨RL, "make", "(LMarkArenas;II)I"⟩
abbrev cL_giveBack : ByteArray := method_6_code
def yL_giveBack : MethodName := ⟨RL, "giveBack", "(LMarkArenas;II)I"⟩
abbrev cL_link : ByteArray := method_7_code
def yL_link : MethodName := ⟨RL, "link", "(LMarkArenas;III)I"⟩
abbrev cL_object : ByteArray := method_8_code
def yL_object : MethodName := ⟨RL, "object", "(LMarkArenas;II)I"⟩
abbrev cL_is : ByteArray := method_9_code
def yL_is : MethodName := ⟨RL, "is", "(LMarkArenas;I)Z"⟩
abbrev cL_undo : ByteArray := method_10_code
def yL_undo : MethodName := ⟨RL, "undo", "(LMarkArenas;)I"⟩
abbrev cL_heap : ByteArray := method_11_code
def yL_heap : MethodName := ⟨RL, "heap", "(LMarkArenas;)Z"⟩
abbrev cL_arenas : ByteArray := method_12_code
def yL_arenas : MethodName := ⟨RL, "arenas", "(LMarkArenas;)Z"⟩
abbrev cL_act : ByteArray := method_13_code
def yL_act : MethodName := ⟨RL, "act", "(LMarkArenas;[II)I"⟩
abbrev cL_law : ByteArray := code
def yL_law : MethodName := ⟨RL, "law", "([I)Z"⟩
theorem dX0_init_0 : decode cX0_init 0 = .ok (.aload_n 0, 1) := by decide +kernel
theorem dX0_init_1 : decode cX0_init 1 = .ok (.invokespecial 1, 3) := by decide +kernel
theorem dX0_init_4 : decode cX0_init 4 = .ok (.aload_n 0, 1) := by decide +kernel
theorem dX0_init_5 : decode cX0_init 5 = .ok (.bipush 6, 2) := by decide +kernel
theorem dX0_init_7 : decode cX0_init 7 = .ok (.anewarray 9, 3) := by decide +kernel
theorem dX0_init_10 : decode cX0_init 10 = .ok (.putfield 11, 3) := by decide +kernel
theorem dX0_init_13 : decode cX0_init 13 = .ok (.iconst 0, 1) := by decide +kernel
theorem dX0_init_14 : decode cX0_init 14 = .ok (.istore_n 1, 1) := by decide +kernel
theorem dX0_init_15 : decode cX0_init 15 = .ok (.iload_n 1, 1) := by decide +kernel
theorem dX0_init_16 : decode cX0_init 16 = .ok (.bipush 6, 2) := by decide +kernel
theorem dX0_init_18 : decode cX0_init 18 = .ok (.if_icmp .ge 22, 3) := by decide +kernel
theorem dX0_init_21 : decode cX0_init 21 = .ok (.aload_n 0, 1) := by decide +kernel
theorem dX0_init_22 : decode cX0_init 22 = .ok (.getfield 11, 3) := by decide +kernel
theorem dX0_init_25 : decode cX0_init 25 = .ok (.iload_n 1, 1) := by decide +kernel
theorem dX0_init_26 : decode cX0_init 26 = .ok (.new 9, 3) := by decide +kernel
theorem dX0_init_29 : decode cX0_init 29 = .ok (.dup, 1) := by decide +kernel
theorem dX0_init_30 : decode cX0_init 30 = .ok (.invokespecial 15, 3) := by decide +kernel
theorem dX0_init_33 : decode cX0_init 33 = .ok (.aastore, 1) := by decide +kernel
theorem dX0_init_34 : decode cX0_init 34 = .ok (.iinc 1 1, 3) := by decide +kernel
theorem dX0_init_37 : decode cX0_init 37 = .ok (.goto (-22), 3) := by decide +kernel
theorem dX0_init_40 : decode cX0_init 40 = .ok (.return_, 1) := by decide +kernel
theorem dX0_save_0 : decode cX0_save 0 = .ok (.aload_n 0, 1) := by decide +kernel
theorem dX0_save_1 : decode cX0_save 1 = .ok (.getfield 16, 3) := by decide +kernel
theorem dX0_save_4 : decode cX0_save 4 = .ok (.ifCond .lt 24, 3) := by decide +kernel
theorem dX0_save_7 : decode cX0_save 7 = .ok (.aload_n 0, 1) := by decide +kernel
theorem dX0_save_8 : decode cX0_save 8 = .ok (.getfield 16, 3) := by decide +kernel
theorem dX0_save_11 : decode cX0_save 11 = .ok (.bipush 6, 2) := by decide +kernel
theorem dX0_save_13 : decode cX0_save 13 = .ok (.if_icmp .ge 15, 3) := by decide +kernel
theorem dX0_save_16 : decode cX0_save 16 = .ok (.aload_n 0, 1) := by decide +kernel
theorem dX0_save_17 : decode cX0_save 17 = .ok (.getfield 11, 3) := by decide +kernel
theorem dX0_save_20 : decode cX0_save 20 = .ok (.aload_n 0, 1) := by decide +kernel
theorem dX0_save_21 : decode cX0_save 21 = .ok (.getfield 16, 3) := by decide +kernel
theorem dX0_save_24 : decode cX0_save 24 = .ok (.aaload, 1) := by decide +kernel
theorem dX0_save_25 : decode cX0_save 25 = .ok (.ifnonnull 4, 3) := by decide +kernel
theorem dX0_save_28 : decode cX0_save 28 = .ok (.return_, 1) := by decide +kernel
theorem dX0_save_29 : decode cX0_save 29 = .ok (.aload_n 0, 1) := by decide +kernel
theorem dX0_save_30 : decode cX0_save 30 = .ok (.getfield 11, 3) := by decide +kernel
theorem dX0_save_33 : decode cX0_save 33 = .ok (.aload_n 0, 1) := by decide +kernel
theorem dX0_save_34 : decode cX0_save 34 = .ok (.getfield 16, 3) := by decide +kernel
theorem dX0_save_37 : decode cX0_save 37 = .ok (.aaload, 1) := by decide +kernel
theorem dX0_save_38 : decode cX0_save 38 = .ok (.aload_n 1, 1) := by decide +kernel
theorem dX0_save_39 : decode cX0_save 39 = .ok (.invokevirtual 20, 3) := by decide +kernel
theorem dX0_save_42 : decode cX0_save 42 = .ok (.aload_n 0, 1) := by decide +kernel
theorem dX0_save_43 : decode cX0_save 43 = .ok (.aload_n 0, 1) := by decide +kernel
theorem dX0_save_44 : decode cX0_save 44 = .ok (.getfield 16, 3) := by decide +kernel
theorem dX0_save_47 : decode cX0_save 47 = .ok (.iconst 5, 1) := by decide +kernel
theorem dX0_save_48 : decode cX0_save 48 = .ok (.if_icmp .ne 7, 3) := by decide +kernel
theorem dX0_save_51 : decode cX0_save 51 = .ok (.iconst 0, 1) := by decide +kernel
theorem dX0_save_52 : decode cX0_save 52 = .ok (.goto 9, 3) := by decide +kernel
theorem dX0_save_55 : decode cX0_save 55 = .ok (.aload_n 0, 1) := by decide +kernel
theorem dX0_save_56 : decode cX0_save 56 = .ok (.getfield 16, 3) := by decide +kernel
theorem dX0_save_59 : decode cX0_save 59 = .ok (.iconst 1, 1) := by decide +kernel
theorem dX0_save_60 : decode cX0_save 60 = .ok (.iadd, 1) := by decide +kernel
theorem dX0_save_61 : decode cX0_save 61 = .ok (.putfield 16, 3) := by decide +kernel
theorem dX0_save_64 : decode cX0_save 64 = .ok (.aload_n 0, 1) := by decide +kernel
theorem dX0_save_65 : decode cX0_save 65 = .ok (.aload_n 0, 1) := by decide +kernel
theorem dX0_save_66 : decode cX0_save 66 = .ok (.getfield 24, 3) := by decide +kernel
theorem dX0_save_69 : decode cX0_save 69 = .ok (.bipush 6, 2) := by decide +kernel
theorem dX0_save_71 : decode cX0_save 71 = .ok (.if_icmp .ge 12, 3) := by decide +kernel
theorem dX0_save_74 : decode cX0_save 74 = .ok (.aload_n 0, 1) := by decide +kernel
theorem dX0_save_75 : decode cX0_save 75 = .ok (.getfield 24, 3) := by decide +kernel
theorem dX0_save_78 : decode cX0_save 78 = .ok (.iconst 1, 1) := by decide +kernel
theorem dX0_save_79 : decode cX0_save 79 = .ok (.iadd, 1) := by decide +kernel
theorem dX0_save_80 : decode cX0_save 80 = .ok (.goto 5, 3) := by decide +kernel
theorem dX0_save_83 : decode cX0_save 83 = .ok (.bipush 6, 2) := by decide +kernel
theorem dX0_save_85 : decode cX0_save 85 = .ok (.putfield 24, 3) := by decide +kernel
theorem dX0_save_88 : decode cX0_save 88 = .ok (.return_, 1) := by decide +kernel
theorem dX0_restore_0 : decode cX0_restore 0 = .ok (.aload_n 0, 1) := by decide +kernel
theorem dX0_restore_1 : decode cX0_restore 1 = .ok (.getfield 16, 3) := by decide +kernel
theorem dX0_restore_4 : decode cX0_restore 4 = .ok (.ifCond .ne 7, 3) := by decide +kernel
theorem dX0_restore_7 : decode cX0_restore 7 = .ok (.iconst 5, 1) := by decide +kernel
theorem dX0_restore_8 : decode cX0_restore 8 = .ok (.goto 9, 3) := by decide +kernel
theorem dX0_restore_11 : decode cX0_restore 11 = .ok (.aload_n 0, 1) := by decide +kernel
theorem dX0_restore_12 : decode cX0_restore 12 = .ok (.getfield 16, 3) := by decide +kernel
theorem dX0_restore_15 : decode cX0_restore 15 = .ok (.iconst 1, 1) := by decide +kernel
theorem dX0_restore_16 : decode cX0_restore 16 = .ok (.isub, 1) := by decide +kernel
theorem dX0_restore_17 : decode cX0_restore 17 = .ok (.istore_n 2, 1) := by decide +kernel
theorem dX0_restore_18 : decode cX0_restore 18 = .ok (.aload_n 0, 1) := by decide +kernel
theorem dX0_restore_19 : decode cX0_restore 19 = .ok (.getfield 24, 3) := by decide +kernel
theorem dX0_restore_22 : decode cX0_restore 22 = .ok (.ifCond .le 22, 3) := by decide +kernel
theorem dX0_restore_25 : decode cX0_restore 25 = .ok (.iload_n 2, 1) := by decide +kernel
theorem dX0_restore_26 : decode cX0_restore 26 = .ok (.ifCond .lt 18, 3) := by decide +kernel
theorem dX0_restore_29 : decode cX0_restore 29 = .ok (.iload_n 2, 1) := by decide +kernel
theorem dX0_restore_30 : decode cX0_restore 30 = .ok (.bipush 6, 2) := by decide +kernel
theorem dX0_restore_32 : decode cX0_restore 32 = .ok (.if_icmp .ge 12, 3) := by decide +kernel
theorem dX0_restore_35 : decode cX0_restore 35 = .ok (.aload_n 0, 1) := by decide +kernel
theorem dX0_restore_36 : decode cX0_restore 36 = .ok (.getfield 11, 3) := by decide +kernel
theorem dX0_restore_39 : decode cX0_restore 39 = .ok (.iload_n 2, 1) := by decide +kernel
theorem dX0_restore_40 : decode cX0_restore 40 = .ok (.aaload, 1) := by decide +kernel
theorem dX0_restore_41 : decode cX0_restore 41 = .ok (.ifnonnull 4, 3) := by decide +kernel
theorem dX0_restore_44 : decode cX0_restore 44 = .ok (.return_, 1) := by decide +kernel
theorem dX0_restore_45 : decode cX0_restore 45 = .ok (.aload_n 1, 1) := by decide +kernel
theorem dX0_restore_46 : decode cX0_restore 46 = .ok (.aload_n 0, 1) := by decide +kernel
theorem dX0_restore_47 : decode cX0_restore 47 = .ok (.getfield 11, 3) := by decide +kernel
theorem dX0_restore_50 : decode cX0_restore 50 = .ok (.iload_n 2, 1) := by decide +kernel
theorem dX0_restore_51 : decode cX0_restore 51 = .ok (.aaload, 1) := by decide +kernel
theorem dX0_restore_52 : decode cX0_restore 52 = .ok (.invokevirtual 20, 3) := by decide +kernel
theorem dX0_restore_55 : decode cX0_restore 55 = .ok (.aload_n 0, 1) := by decide +kernel
theorem dX0_restore_56 : decode cX0_restore 56 = .ok (.iload_n 2, 1) := by decide +kernel
theorem dX0_restore_57 : decode cX0_restore 57 = .ok (.putfield 16, 3) := by decide +kernel
theorem dX0_restore_60 : decode cX0_restore 60 = .ok (.aload_n 0, 1) := by decide +kernel
theorem dX0_restore_61 : decode cX0_restore 61 = .ok (.dup, 1) := by decide +kernel
theorem dX0_restore_62 : decode cX0_restore 62 = .ok (.getfield 24, 3) := by decide +kernel
theorem dX0_restore_65 : decode cX0_restore 65 = .ok (.iconst 1, 1) := by decide +kernel
theorem dX0_restore_66 : decode cX0_restore 66 = .ok (.isub, 1) := by decide +kernel
theorem dX0_restore_67 : decode cX0_restore 67 = .ok (.putfield 24, 3) := by decide +kernel
theorem dX0_restore_70 : decode cX0_restore 70 = .ok (.return_, 1) := by decide +kernel
theorem dX1_init_0 : decode cX1_init 0 = .ok (.aload_n 0, 1) := by decide +kernel
theorem dX1_init_1 : decode cX1_init 1 = .ok (.invokespecial 3, 3) := by decide +kernel
theorem dX1_init_4 : decode cX1_init 4 = .ok (.aload_n 0, 1) := by decide +kernel
theorem dX1_init_5 : decode cX1_init 5 = .ok (.bipush 24, 2) := by decide +kernel
theorem dX1_init_7 : decode cX1_init 7 = .ok (.newarray .int, 2) := by decide +kernel
theorem dX1_init_9 : decode cX1_init 9 = .ok (.putfield 9, 3) := by decide +kernel
theorem dX1_init_12 : decode cX1_init 12 = .ok (.aload_n 0, 1) := by decide +kernel
theorem dX1_init_13 : decode cX1_init 13 = .ok (.bipush 24, 2) := by decide +kernel
theorem dX1_init_15 : decode cX1_init 15 = .ok (.newarray .int, 2) := by decide +kernel
theorem dX1_init_17 : decode cX1_init 17 = .ok (.putfield 15, 3) := by decide +kernel
theorem dX1_init_20 : decode cX1_init 20 = .ok (.aload_n 0, 1) := by decide +kernel
theorem dX1_init_21 : decode cX1_init 21 = .ok (.bipush 24, 2) := by decide +kernel
theorem dX1_init_23 : decode cX1_init 23 = .ok (.newarray .int, 2) := by decide +kernel
theorem dX1_init_25 : decode cX1_init 25 = .ok (.putfield 18, 3) := by decide +kernel
theorem dX1_init_28 : decode cX1_init 28 = .ok (.return_, 1) := by decide +kernel
theorem dX1_forget_0 : decode cX1_forget 0 = .ok (.aload_n 0, 1) := by decide +kernel
theorem dX1_forget_1 : decode cX1_forget 1 = .ok (.iconst 0, 1) := by decide +kernel
theorem dX1_forget_2 : decode cX1_forget 2 = .ok (.putfield 21, 3) := by decide +kernel
theorem dX1_forget_5 : decode cX1_forget 5 = .ok (.iconst 0, 1) := by decide +kernel
theorem dX1_forget_6 : decode cX1_forget 6 = .ok (.istore_n 1, 1) := by decide +kernel
theorem dX1_forget_7 : decode cX1_forget 7 = .ok (.iload_n 1, 1) := by decide +kernel
theorem dX1_forget_8 : decode cX1_forget 8 = .ok (.bipush 24, 2) := by decide +kernel
theorem dX1_forget_10 : decode cX1_forget 10 = .ok (.if_icmp .ge 23, 3) := by decide +kernel
theorem dX1_forget_13 : decode cX1_forget 13 = .ok (.aload_n 0, 1) := by decide +kernel
theorem dX1_forget_14 : decode cX1_forget 14 = .ok (.getfield 15, 3) := by decide +kernel
theorem dX1_forget_17 : decode cX1_forget 17 = .ok (.iload_n 1, 1) := by decide +kernel
theorem dX1_forget_18 : decode cX1_forget 18 = .ok (.iconst (-1), 1) := by decide +kernel
theorem dX1_forget_19 : decode cX1_forget 19 = .ok (.iastore, 1) := by decide +kernel
theorem dX1_forget_20 : decode cX1_forget 20 = .ok (.aload_n 0, 1) := by decide +kernel
theorem dX1_forget_21 : decode cX1_forget 21 = .ok (.getfield 18, 3) := by decide +kernel
theorem dX1_forget_24 : decode cX1_forget 24 = .ok (.iload_n 1, 1) := by decide +kernel
theorem dX1_forget_25 : decode cX1_forget 25 = .ok (.iconst (-1), 1) := by decide +kernel
theorem dX1_forget_26 : decode cX1_forget 26 = .ok (.iastore, 1) := by decide +kernel
theorem dX1_forget_27 : decode cX1_forget 27 = .ok (.iinc 1 1, 3) := by decide +kernel
theorem dX1_forget_30 : decode cX1_forget 30 = .ok (.goto (-23), 3) := by decide +kernel
theorem dX1_forget_33 : decode cX1_forget 33 = .ok (.return_, 1) := by decide +kernel
theorem dX1_hasMet_0 : decode cX1_hasMet 0 = .ok (.iload_n 1, 1) := by decide +kernel
theorem dX1_hasMet_1 : decode cX1_hasMet 1 = .ok (.ifCond .lt 23, 3) := by decide +kernel
theorem dX1_hasMet_4 : decode cX1_hasMet 4 = .ok (.iload_n 1, 1) := by decide +kernel
theorem dX1_hasMet_5 : decode cX1_hasMet 5 = .ok (.bipush 24, 2) := by decide +kernel
theorem dX1_hasMet_7 : decode cX1_hasMet 7 = .ok (.if_icmp .ge 17, 3) := by decide +kernel
theorem dX1_hasMet_10 : decode cX1_hasMet 10 = .ok (.aload_n 0, 1) := by decide +kernel
theorem dX1_hasMet_11 : decode cX1_hasMet 11 = .ok (.getfield 15, 3) := by decide +kernel
theorem dX1_hasMet_14 : decode cX1_hasMet 14 = .ok (.iload_n 1, 1) := by decide +kernel
theorem dX1_hasMet_15 : decode cX1_hasMet 15 = .ok (.iaload, 1) := by decide +kernel
theorem dX1_hasMet_16 : decode cX1_hasMet 16 = .ok (.iconst (-1), 1) := by decide +kernel
theorem dX1_hasMet_17 : decode cX1_hasMet 17 = .ok (.if_icmp .eq 7, 3) := by decide +kernel
theorem dX1_hasMet_20 : decode cX1_hasMet 20 = .ok (.iconst 1, 1) := by decide +kernel
theorem dX1_hasMet_21 : decode cX1_hasMet 21 = .ok (.goto 4, 3) := by decide +kernel
theorem dX1_hasMet_24 : decode cX1_hasMet 24 = .ok (.iconst 0, 1) := by decide +kernel
theorem dX1_hasMet_25 : decode cX1_hasMet 25 = .ok (.ireturn, 1) := by decide +kernel
theorem dX1_placeOf_0 : decode cX1_placeOf 0 = .ok (.iload_n 1, 1) := by decide +kernel
theorem dX1_placeOf_1 : decode cX1_placeOf 1 = .ok (.ifCond .lt 18, 3) := by decide +kernel
theorem dX1_placeOf_4 : decode cX1_placeOf 4 = .ok (.iload_n 1, 1) := by decide +kernel
theorem dX1_placeOf_5 : decode cX1_placeOf 5 = .ok (.bipush 24, 2) := by decide +kernel
theorem dX1_placeOf_7 : decode cX1_placeOf 7 = .ok (.if_icmp .ge 12, 3) := by decide +kernel
theorem dX1_placeOf_10 : decode cX1_placeOf 10 = .ok (.aload_n 0, 1) := by decide +kernel
theorem dX1_placeOf_11 : decode cX1_placeOf 11 = .ok (.getfield 15, 3) := by decide +kernel
theorem dX1_placeOf_14 : decode cX1_placeOf 14 = .ok (.iload_n 1, 1) := by decide +kernel
theorem dX1_placeOf_15 : decode cX1_placeOf 15 = .ok (.iaload, 1) := by decide +kernel
theorem dX1_placeOf_16 : decode cX1_placeOf 16 = .ok (.goto 4, 3) := by decide +kernel
theorem dX1_placeOf_19 : decode cX1_placeOf 19 = .ok (.iconst (-1), 1) := by decide +kernel
theorem dX1_placeOf_20 : decode cX1_placeOf 20 = .ok (.ireturn, 1) := by decide +kernel
theorem dX1_stepsTo_0 : decode cX1_stepsTo 0 = .ok (.iload_n 1, 1) := by decide +kernel
theorem dX1_stepsTo_1 : decode cX1_stepsTo 1 = .ok (.ifCond .lt 18, 3) := by decide +kernel
theorem dX1_stepsTo_4 : decode cX1_stepsTo 4 = .ok (.iload_n 1, 1) := by decide +kernel
theorem dX1_stepsTo_5 : decode cX1_stepsTo 5 = .ok (.bipush 24, 2) := by decide +kernel
theorem dX1_stepsTo_7 : decode cX1_stepsTo 7 = .ok (.if_icmp .ge 12, 3) := by decide +kernel
theorem dX1_stepsTo_10 : decode cX1_stepsTo 10 = .ok (.aload_n 0, 1) := by decide +kernel
theorem dX1_stepsTo_11 : decode cX1_stepsTo 11 = .ok (.getfield 18, 3) := by decide +kernel
theorem dX1_stepsTo_14 : decode cX1_stepsTo 14 = .ok (.iload_n 1, 1) := by decide +kernel
theorem dX1_stepsTo_15 : decode cX1_stepsTo 15 = .ok (.iaload, 1) := by decide +kernel
theorem dX1_stepsTo_16 : decode cX1_stepsTo 16 = .ok (.goto 4, 3) := by decide +kernel
theorem dX1_stepsTo_19 : decode cX1_stepsTo 19 = .ok (.iconst (-1), 1) := by decide +kernel
theorem dX1_stepsTo_20 : decode cX1_stepsTo 20 = .ok (.ireturn, 1) := by decide +kernel
theorem dX1_meet_0 : decode cX1_meet 0 = .ok (.iload_n 1, 1) := by decide +kernel
theorem dX1_meet_1 : decode cX1_meet 1 = .ok (.ifCond .lt 25, 3) := by decide +kernel
theorem dX1_meet_4 : decode cX1_meet 4 = .ok (.iload_n 1, 1) := by decide +kernel
theorem dX1_meet_5 : decode cX1_meet 5 = .ok (.bipush 24, 2) := by decide +kernel
theorem dX1_meet_7 : decode cX1_meet 7 = .ok (.if_icmp .ge 19, 3) := by decide +kernel
theorem dX1_meet_10 : decode cX1_meet 10 = .ok (.aload_n 0, 1) := by decide +kernel
theorem dX1_meet_11 : decode cX1_meet 11 = .ok (.getfield 21, 3) := by decide +kernel
theorem dX1_meet_14 : decode cX1_meet 14 = .ok (.ifCond .lt 12, 3) := by decide +kernel
theorem dX1_meet_17 : decode cX1_meet 17 = .ok (.aload_n 0, 1) := by decide +kernel
theorem dX1_meet_18 : decode cX1_meet 18 = .ok (.getfield 21, 3) := by decide +kernel
theorem dX1_meet_21 : decode cX1_meet 21 = .ok (.bipush 24, 2) := by decide +kernel
theorem dX1_meet_23 : decode cX1_meet 23 = .ok (.if_icmp .lt 4, 3) := by decide +kernel
theorem dX1_meet_26 : decode cX1_meet 26 = .ok (.return_, 1) := by decide +kernel
theorem dX1_meet_27 : decode cX1_meet 27 = .ok (.aload_n 0, 1) := by decide +kernel
theorem dX1_meet_28 : decode cX1_meet 28 = .ok (.getfield 15, 3) := by decide +kernel
theorem dX1_meet_31 : decode cX1_meet 31 = .ok (.iload_n 1, 1) := by decide +kernel
theorem dX1_meet_32 : decode cX1_meet 32 = .ok (.iaload, 1) := by decide +kernel
theorem dX1_meet_33 : decode cX1_meet 33 = .ok (.iconst (-1), 1) := by decide +kernel
theorem dX1_meet_34 : decode cX1_meet 34 = .ok (.if_icmp .ne 40, 3) := by decide +kernel
theorem dX1_meet_37 : decode cX1_meet 37 = .ok (.aload_n 0, 1) := by decide +kernel
theorem dX1_meet_38 : decode cX1_meet 38 = .ok (.getfield 9, 3) := by decide +kernel
theorem dX1_meet_41 : decode cX1_meet 41 = .ok (.aload_n 0, 1) := by decide +kernel
theorem dX1_meet_42 : decode cX1_meet 42 = .ok (.getfield 21, 3) := by decide +kernel
theorem dX1_meet_45 : decode cX1_meet 45 = .ok (.iload_n 1, 1) := by decide +kernel
theorem dX1_meet_46 : decode cX1_meet 46 = .ok (.iastore, 1) := by decide +kernel
theorem dX1_meet_47 : decode cX1_meet 47 = .ok (.aload_n 0, 1) := by decide +kernel
theorem dX1_meet_48 : decode cX1_meet 48 = .ok (.getfield 15, 3) := by decide +kernel
theorem dX1_meet_51 : decode cX1_meet 51 = .ok (.iload_n 1, 1) := by decide +kernel
theorem dX1_meet_52 : decode cX1_meet 52 = .ok (.aload_n 0, 1) := by decide +kernel
theorem dX1_meet_53 : decode cX1_meet 53 = .ok (.getfield 21, 3) := by decide +kernel
theorem dX1_meet_56 : decode cX1_meet 56 = .ok (.iastore, 1) := by decide +kernel
theorem dX1_meet_57 : decode cX1_meet 57 = .ok (.aload_n 0, 1) := by decide +kernel
theorem dX1_meet_58 : decode cX1_meet 58 = .ok (.getfield 18, 3) := by decide +kernel
theorem dX1_meet_61 : decode cX1_meet 61 = .ok (.iload_n 1, 1) := by decide +kernel
theorem dX1_meet_62 : decode cX1_meet 62 = .ok (.iload_n 2, 1) := by decide +kernel
theorem dX1_meet_63 : decode cX1_meet 63 = .ok (.iastore, 1) := by decide +kernel
theorem dX1_meet_64 : decode cX1_meet 64 = .ok (.aload_n 0, 1) := by decide +kernel
theorem dX1_meet_65 : decode cX1_meet 65 = .ok (.dup, 1) := by decide +kernel
theorem dX1_meet_66 : decode cX1_meet 66 = .ok (.getfield 21, 3) := by decide +kernel
theorem dX1_meet_69 : decode cX1_meet 69 = .ok (.iconst 1, 1) := by decide +kernel
theorem dX1_meet_70 : decode cX1_meet 70 = .ok (.iadd, 1) := by decide +kernel
theorem dX1_meet_71 : decode cX1_meet 71 = .ok (.putfield 21, 3) := by decide +kernel
theorem dX1_meet_74 : decode cX1_meet 74 = .ok (.return_, 1) := by decide +kernel
theorem dX1_startAtRoots_0 : decode cX1_startAtRoots 0 = .ok (.aload_n 0, 1) := by decide +kernel
theorem dX1_startAtRoots_1 : decode cX1_startAtRoots 1 = .ok (.invokevirtual 25, 3) := by decide +kernel
theorem dX1_startAtRoots_4 : decode cX1_startAtRoots 4 = .ok (.iconst 0, 1) := by decide +kernel
theorem dX1_startAtRoots_5 : decode cX1_startAtRoots 5 = .ok (.istore_n 3, 1) := by decide +kernel
theorem dX1_startAtRoots_6 : decode cX1_startAtRoots 6 = .ok (.iload_n 3, 1) := by decide +kernel
theorem dX1_startAtRoots_7 : decode cX1_startAtRoots 7 = .ok (.bipush 24, 2) := by decide +kernel
theorem dX1_startAtRoots_9 : decode cX1_startAtRoots 9 = .ok (.if_icmp .ge 37, 3) := by decide +kernel
theorem dX1_startAtRoots_12 : decode cX1_startAtRoots 12 = .ok (.iload_n 3, 1) := by decide +kernel
theorem dX1_startAtRoots_13 : decode cX1_startAtRoots 13 = .ok (.iload_n 2, 1) := by decide +kernel
theorem dX1_startAtRoots_14 : decode cX1_startAtRoots 14 = .ok (.if_icmp .eq 26, 3) := by decide +kernel
theorem dX1_startAtRoots_17 : decode cX1_startAtRoots 17 = .ok (.aload_n 1, 1) := by decide +kernel
theorem dX1_startAtRoots_18 : decode cX1_startAtRoots 18 = .ok (.iload_n 3, 1) := by decide +kernel
theorem dX1_startAtRoots_19 : decode cX1_startAtRoots 19 = .ok (.invokevirtual 28, 3) := by decide +kernel
theorem dX1_startAtRoots_22 : decode cX1_startAtRoots 22 = .ok (.ifCond .eq 18, 3) := by decide +kernel
theorem dX1_startAtRoots_25 : decode cX1_startAtRoots 25 = .ok (.aload_n 1, 1) := by decide +kernel
theorem dX1_startAtRoots_26 : decode cX1_startAtRoots 26 = .ok (.getfield 34, 3) := by decide +kernel
theorem dX1_startAtRoots_29 : decode cX1_startAtRoots 29 = .ok (.iload_n 3, 1) := by decide +kernel
theorem dX1_startAtRoots_30 : decode cX1_startAtRoots 30 = .ok (.baload, 1) := by decide +kernel
theorem dX1_startAtRoots_31 : decode cX1_startAtRoots 31 = .ok (.ifCond .eq 9, 3) := by decide +kernel
theorem dX1_startAtRoots_34 : decode cX1_startAtRoots 34 = .ok (.aload_n 0, 1) := by decide +kernel
theorem dX1_startAtRoots_35 : decode cX1_startAtRoots 35 = .ok (.iload_n 3, 1) := by decide +kernel
theorem dX1_startAtRoots_36 : decode cX1_startAtRoots 36 = .ok (.iconst 0, 1) := by decide +kernel
theorem dX1_startAtRoots_37 : decode cX1_startAtRoots 37 = .ok (.invokevirtual 38, 3) := by decide +kernel
theorem dX1_startAtRoots_40 : decode cX1_startAtRoots 40 = .ok (.iinc 3 1, 3) := by decide +kernel
theorem dX1_startAtRoots_43 : decode cX1_startAtRoots 43 = .ok (.goto (-37), 3) := by decide +kernel
theorem dX1_startAtRoots_46 : decode cX1_startAtRoots 46 = .ok (.return_, 1) := by decide +kernel
theorem dX1_follow_0 : decode cX1_follow 0 = .ok (.iconst 0, 1) := by decide +kernel
theorem dX1_follow_1 : decode cX1_follow 1 = .ok (.istore 4, 2) := by decide +kernel
theorem dX1_follow_3 : decode cX1_follow 3 = .ok (.iload 4, 2) := by decide +kernel
theorem dX1_follow_5 : decode cX1_follow 5 = .ok (.bipush 24, 2) := by decide +kernel
theorem dX1_follow_7 : decode cX1_follow 7 = .ok (.if_icmp .ge 91, 3) := by decide +kernel
theorem dX1_follow_10 : decode cX1_follow 10 = .ok (.iload 4, 2) := by decide +kernel
theorem dX1_follow_12 : decode cX1_follow 12 = .ok (.aload_n 0, 1) := by decide +kernel
theorem dX1_follow_13 : decode cX1_follow 13 = .ok (.getfield 21, 3) := by decide +kernel
theorem dX1_follow_16 : decode cX1_follow 16 = .ok (.if_icmp .ge 82, 3) := by decide +kernel
theorem dX1_follow_19 : decode cX1_follow 19 = .ok (.aload_n 0, 1) := by decide +kernel
theorem dX1_follow_20 : decode cX1_follow 20 = .ok (.getfield 9, 3) := by decide +kernel
theorem dX1_follow_23 : decode cX1_follow 23 = .ok (.iload 4, 2) := by decide +kernel
theorem dX1_follow_25 : decode cX1_follow 25 = .ok (.iaload, 1) := by decide +kernel
theorem dX1_follow_26 : decode cX1_follow 26 = .ok (.istore 5, 2) := by decide +kernel
theorem dX1_follow_28 : decode cX1_follow 28 = .ok (.aload_n 0, 1) := by decide +kernel
theorem dX1_follow_29 : decode cX1_follow 29 = .ok (.iload 5, 2) := by decide +kernel
theorem dX1_follow_31 : decode cX1_follow 31 = .ok (.invokevirtual 42, 3) := by decide +kernel
theorem dX1_follow_34 : decode cX1_follow 34 = .ok (.iconst 1, 1) := by decide +kernel
theorem dX1_follow_35 : decode cX1_follow 35 = .ok (.iadd, 1) := by decide +kernel
theorem dX1_follow_36 : decode cX1_follow 36 = .ok (.istore 6, 2) := by decide +kernel
theorem dX1_follow_38 : decode cX1_follow 38 = .ok (.iconst 0, 1) := by decide +kernel
theorem dX1_follow_39 : decode cX1_follow 39 = .ok (.istore 7, 2) := by decide +kernel
theorem dX1_follow_41 : decode cX1_follow 41 = .ok (.iload 7, 2) := by decide +kernel
theorem dX1_follow_43 : decode cX1_follow 43 = .ok (.iconst 2, 1) := by decide +kernel
theorem dX1_follow_44 : decode cX1_follow 44 = .ok (.if_icmp .ge 48, 3) := by decide +kernel
theorem dX1_follow_47 : decode cX1_follow 47 = .ok (.aload_n 1, 1) := by decide +kernel
theorem dX1_follow_48 : decode cX1_follow 48 = .ok (.iload 5, 2) := by decide +kernel
theorem dX1_follow_50 : decode cX1_follow 50 = .ok (.iload 7, 2) := by decide +kernel
theorem dX1_follow_52 : decode cX1_follow 52 = .ok (.invokevirtual 46, 3) := by decide +kernel
theorem dX1_follow_55 : decode cX1_follow 55 = .ok (.istore 8, 2) := by decide +kernel
theorem dX1_follow_57 : decode cX1_follow 57 = .ok (.iload 8, 2) := by decide +kernel
theorem dX1_follow_59 : decode cX1_follow 59 = .ok (.iload_n 3, 1) := by decide +kernel
theorem dX1_follow_60 : decode cX1_follow 60 = .ok (.if_icmp .eq 26, 3) := by decide +kernel
theorem dX1_follow_63 : decode cX1_follow 63 = .ok (.iload_n 2, 1) := by decide +kernel
theorem dX1_follow_64 : decode cX1_follow 64 = .ok (.iconst (-1), 1) := by decide +kernel
theorem dX1_follow_65 : decode cX1_follow 65 = .ok (.if_icmp .eq 13, 3) := by decide +kernel
theorem dX1_follow_68 : decode cX1_follow 68 = .ok (.aload_n 1, 1) := by decide +kernel
theorem dX1_follow_69 : decode cX1_follow 69 = .ok (.iload 8, 2) := by decide +kernel
theorem dX1_follow_71 : decode cX1_follow 71 = .ok (.iload_n 2, 1) := by decide +kernel
theorem dX1_follow_72 : decode cX1_follow 72 = .ok (.invokevirtual 50, 3) := by decide +kernel
theorem dX1_follow_75 : decode cX1_follow 75 = .ok (.ifCond .eq 11, 3) := by decide +kernel
theorem dX1_follow_78 : decode cX1_follow 78 = .ok (.aload_n 0, 1) := by decide +kernel
theorem dX1_follow_79 : decode cX1_follow 79 = .ok (.iload 8, 2) := by decide +kernel
theorem dX1_follow_81 : decode cX1_follow 81 = .ok (.iload 6, 2) := by decide +kernel
theorem dX1_follow_83 : decode cX1_follow 83 = .ok (.invokevirtual 38, 3) := by decide +kernel
theorem dX1_follow_86 : decode cX1_follow 86 = .ok (.iinc 7 1, 3) := by decide +kernel
theorem dX1_follow_89 : decode cX1_follow 89 = .ok (.goto (-48), 3) := by decide +kernel
theorem dX1_follow_92 : decode cX1_follow 92 = .ok (.iinc 4 1, 3) := by decide +kernel
theorem dX1_follow_95 : decode cX1_follow 95 = .ok (.goto (-92), 3) := by decide +kernel
theorem dX1_follow_98 : decode cX1_follow 98 = .ok (.return_, 1) := by decide +kernel
theorem dX1_cells_0 : decode cX1_cells 0 = .ok (.iconst 0, 1) := by decide +kernel
theorem dX1_cells_1 : decode cX1_cells 1 = .ok (.istore_n 2, 1) := by decide +kernel
theorem dX1_cells_2 : decode cX1_cells 2 = .ok (.iconst 0, 1) := by decide +kernel
theorem dX1_cells_3 : decode cX1_cells 3 = .ok (.istore_n 3, 1) := by decide +kernel
theorem dX1_cells_4 : decode cX1_cells 4 = .ok (.iload_n 3, 1) := by decide +kernel
theorem dX1_cells_5 : decode cX1_cells 5 = .ok (.bipush 24, 2) := by decide +kernel
theorem dX1_cells_7 : decode cX1_cells 7 = .ok (.if_icmp .ge 26, 3) := by decide +kernel
theorem dX1_cells_10 : decode cX1_cells 10 = .ok (.aload_n 0, 1) := by decide +kernel
theorem dX1_cells_11 : decode cX1_cells 11 = .ok (.iload_n 3, 1) := by decide +kernel
theorem dX1_cells_12 : decode cX1_cells 12 = .ok (.invokevirtual 54, 3) := by decide +kernel
theorem dX1_cells_15 : decode cX1_cells 15 = .ok (.ifCond .eq 12, 3) := by decide +kernel
theorem dX1_cells_18 : decode cX1_cells 18 = .ok (.iload_n 2, 1) := by decide +kernel
theorem dX1_cells_19 : decode cX1_cells 19 = .ok (.aload_n 1, 1) := by decide +kernel
theorem dX1_cells_20 : decode cX1_cells 20 = .ok (.getfield 57, 3) := by decide +kernel
theorem dX1_cells_23 : decode cX1_cells 23 = .ok (.iload_n 3, 1) := by decide +kernel
theorem dX1_cells_24 : decode cX1_cells 24 = .ok (.iaload, 1) := by decide +kernel
theorem dX1_cells_25 : decode cX1_cells 25 = .ok (.iadd, 1) := by decide +kernel
theorem dX1_cells_26 : decode cX1_cells 26 = .ok (.istore_n 2, 1) := by decide +kernel
theorem dX1_cells_27 : decode cX1_cells 27 = .ok (.iinc 3 1, 3) := by decide +kernel
theorem dX1_cells_30 : decode cX1_cells 30 = .ok (.goto (-26), 3) := by decide +kernel
theorem dX1_cells_33 : decode cX1_cells 33 = .ok (.iload_n 2, 1) := by decide +kernel
theorem dX1_cells_34 : decode cX1_cells 34 = .ok (.ireturn, 1) := by decide +kernel
theorem dX2_init_0 : decode cX2_init 0 = .ok (.aload_n 0, 1) := by decide +kernel
theorem dX2_init_1 : decode cX2_init 1 = .ok (.invokespecial 3, 3) := by decide +kernel
theorem dX2_init_4 : decode cX2_init 4 = .ok (.aload_n 0, 1) := by decide +kernel
theorem dX2_init_5 : decode cX2_init 5 = .ok (.new 9, 3) := by decide +kernel
theorem dX2_init_8 : decode cX2_init 8 = .ok (.dup, 1) := by decide +kernel
theorem dX2_init_9 : decode cX2_init 9 = .ok (.invokespecial 11, 3) := by decide +kernel
theorem dX2_init_12 : decode cX2_init 12 = .ok (.putfield 12, 3) := by decide +kernel
theorem dX2_init_15 : decode cX2_init 15 = .ok (.aload_n 0, 1) := by decide +kernel
theorem dX2_init_16 : decode cX2_init 16 = .ok (.new 9, 3) := by decide +kernel
theorem dX2_init_19 : decode cX2_init 19 = .ok (.dup, 1) := by decide +kernel
theorem dX2_init_20 : decode cX2_init 20 = .ok (.invokespecial 11, 3) := by decide +kernel
theorem dX2_init_23 : decode cX2_init 23 = .ok (.putfield 18, 3) := by decide +kernel
theorem dX2_init_26 : decode cX2_init 26 = .ok (.aload_n 0, 1) := by decide +kernel
theorem dX2_init_27 : decode cX2_init 27 = .ok (.bipush 24, 2) := by decide +kernel
theorem dX2_init_29 : decode cX2_init 29 = .ok (.newarray .int, 2) := by decide +kernel
theorem dX2_init_31 : decode cX2_init 31 = .ok (.putfield 21, 3) := by decide +kernel
theorem dX2_init_34 : decode cX2_init 34 = .ok (.return_, 1) := by decide +kernel
theorem dX2_survey_0 : decode cX2_survey 0 = .ok (.aload_n 0, 1) := by decide +kernel
theorem dX2_survey_1 : decode cX2_survey 1 = .ok (.getfield 12, 3) := by decide +kernel
theorem dX2_survey_4 : decode cX2_survey 4 = .ok (.aload_n 1, 1) := by decide +kernel
theorem dX2_survey_5 : decode cX2_survey 5 = .ok (.iconst (-1), 1) := by decide +kernel
theorem dX2_survey_6 : decode cX2_survey 6 = .ok (.invokevirtual 25, 3) := by decide +kernel
theorem dX2_survey_9 : decode cX2_survey 9 = .ok (.aload_n 0, 1) := by decide +kernel
theorem dX2_survey_10 : decode cX2_survey 10 = .ok (.getfield 12, 3) := by decide +kernel
theorem dX2_survey_13 : decode cX2_survey 13 = .ok (.aload_n 1, 1) := by decide +kernel
theorem dX2_survey_14 : decode cX2_survey 14 = .ok (.iconst (-1), 1) := by decide +kernel
theorem dX2_survey_15 : decode cX2_survey 15 = .ok (.iconst (-1), 1) := by decide +kernel
theorem dX2_survey_16 : decode cX2_survey 16 = .ok (.invokevirtual 29, 3) := by decide +kernel
theorem dX2_survey_19 : decode cX2_survey 19 = .ok (.aload_n 0, 1) := by decide +kernel
theorem dX2_survey_20 : decode cX2_survey 20 = .ok (.getfield 18, 3) := by decide +kernel
theorem dX2_survey_23 : decode cX2_survey 23 = .ok (.invokevirtual 33, 3) := by decide +kernel
theorem dX2_survey_26 : decode cX2_survey 26 = .ok (.iconst 0, 1) := by decide +kernel
theorem dX2_survey_27 : decode cX2_survey 27 = .ok (.istore_n 3, 1) := by decide +kernel
theorem dX2_survey_28 : decode cX2_survey 28 = .ok (.iload_n 3, 1) := by decide +kernel
theorem dX2_survey_29 : decode cX2_survey 29 = .ok (.bipush 24, 2) := by decide +kernel
theorem dX2_survey_31 : decode cX2_survey 31 = .ok (.if_icmp .ge 38, 3) := by decide +kernel
theorem dX2_survey_34 : decode cX2_survey 34 = .ok (.aload_n 1, 1) := by decide +kernel
theorem dX2_survey_35 : decode cX2_survey 35 = .ok (.iload_n 3, 1) := by decide +kernel
theorem dX2_survey_36 : decode cX2_survey 36 = .ok (.iload_n 2, 1) := by decide +kernel
theorem dX2_survey_37 : decode cX2_survey 37 = .ok (.invokevirtual 36, 3) := by decide +kernel
theorem dX2_survey_40 : decode cX2_survey 40 = .ok (.ifCond .eq 23, 3) := by decide +kernel
theorem dX2_survey_43 : decode cX2_survey 43 = .ok (.aload_n 0, 1) := by decide +kernel
theorem dX2_survey_44 : decode cX2_survey 44 = .ok (.getfield 12, 3) := by decide +kernel
theorem dX2_survey_47 : decode cX2_survey 47 = .ok (.iload_n 3, 1) := by decide +kernel
theorem dX2_survey_48 : decode cX2_survey 48 = .ok (.invokevirtual 42, 3) := by decide +kernel
theorem dX2_survey_51 : decode cX2_survey 51 = .ok (.ifCond .eq 12, 3) := by decide +kernel
theorem dX2_survey_54 : decode cX2_survey 54 = .ok (.aload_n 0, 1) := by decide +kernel
theorem dX2_survey_55 : decode cX2_survey 55 = .ok (.getfield 18, 3) := by decide +kernel
theorem dX2_survey_58 : decode cX2_survey 58 = .ok (.iload_n 3, 1) := by decide +kernel
theorem dX2_survey_59 : decode cX2_survey 59 = .ok (.iconst 0, 1) := by decide +kernel
theorem dX2_survey_60 : decode cX2_survey 60 = .ok (.invokevirtual 46, 3) := by decide +kernel
theorem dX2_survey_63 : decode cX2_survey 63 = .ok (.iinc 3 1, 3) := by decide +kernel
theorem dX2_survey_66 : decode cX2_survey 66 = .ok (.goto (-38), 3) := by decide +kernel
theorem dX2_survey_69 : decode cX2_survey 69 = .ok (.aload_n 1, 1) := by decide +kernel
theorem dX2_survey_70 : decode cX2_survey 70 = .ok (.getfield 50, 3) := by decide +kernel
theorem dX2_survey_73 : decode cX2_survey 73 = .ok (.iconst 0, 1) := by decide +kernel
theorem dX2_survey_74 : decode cX2_survey 74 = .ok (.iaload, 1) := by decide +kernel
theorem dX2_survey_75 : decode cX2_survey 75 = .ok (.iconst 1, 1) := by decide +kernel
theorem dX2_survey_76 : decode cX2_survey 76 = .ok (.if_icmp .ne 9, 3) := by decide +kernel
theorem dX2_survey_79 : decode cX2_survey 79 = .ok (.aload_n 0, 1) := by decide +kernel
theorem dX2_survey_80 : decode cX2_survey 80 = .ok (.aload_n 1, 1) := by decide +kernel
theorem dX2_survey_81 : decode cX2_survey 81 = .ok (.iload_n 2, 1) := by decide +kernel
theorem dX2_survey_82 : decode cX2_survey 82 = .ok (.invokevirtual 53, 3) := by decide +kernel
theorem dX2_survey_85 : decode cX2_survey 85 = .ok (.aload_n 0, 1) := by decide +kernel
theorem dX2_survey_86 : decode cX2_survey 86 = .ok (.getfield 18, 3) := by decide +kernel
theorem dX2_survey_89 : decode cX2_survey 89 = .ok (.aload_n 1, 1) := by decide +kernel
theorem dX2_survey_90 : decode cX2_survey 90 = .ok (.iload_n 2, 1) := by decide +kernel
theorem dX2_survey_91 : decode cX2_survey 91 = .ok (.iconst (-1), 1) := by decide +kernel
theorem dX2_survey_92 : decode cX2_survey 92 = .ok (.invokevirtual 29, 3) := by decide +kernel
theorem dX2_survey_95 : decode cX2_survey 95 = .ok (.return_, 1) := by decide +kernel
theorem dX2_meetRemembered_0 : decode cX2_meetRemembered 0 = .ok (.iconst 0, 1) := by decide +kernel
theorem dX2_meetRemembered_1 : decode cX2_meetRemembered 1 = .ok (.istore_n 3, 1) := by decide +kernel
theorem dX2_meetRemembered_2 : decode cX2_meetRemembered 2 = .ok (.iload_n 3, 1) := by decide +kernel
theorem dX2_meetRemembered_3 : decode cX2_meetRemembered 3 = .ok (.bipush 24, 2) := by decide +kernel
theorem dX2_meetRemembered_5 : decode cX2_meetRemembered 5 = .ok (.if_icmp .ge 62, 3) := by decide +kernel
theorem dX2_meetRemembered_8 : decode cX2_meetRemembered 8 = .ok (.iconst 0, 1) := by decide +kernel
theorem dX2_meetRemembered_9 : decode cX2_meetRemembered 9 = .ok (.istore 4, 2) := by decide +kernel
theorem dX2_meetRemembered_11 : decode cX2_meetRemembered 11 = .ok (.iload 4, 2) := by decide +kernel
theorem dX2_meetRemembered_13 : decode cX2_meetRemembered 13 = .ok (.iconst 2, 1) := by decide +kernel
theorem dX2_meetRemembered_14 : decode cX2_meetRemembered 14 = .ok (.if_icmp .ge 47, 3) := by decide +kernel
theorem dX2_meetRemembered_17 : decode cX2_meetRemembered 17 = .ok (.aload_n 1, 1) := by decide +kernel
theorem dX2_meetRemembered_18 : decode cX2_meetRemembered 18 = .ok (.iload_n 3, 1) := by decide +kernel
theorem dX2_meetRemembered_19 : decode cX2_meetRemembered 19 = .ok (.iload_n 2, 1) := by decide +kernel
theorem dX2_meetRemembered_20 : decode cX2_meetRemembered 20 = .ok (.invokevirtual 36, 3) := by decide +kernel
theorem dX2_meetRemembered_23 : decode cX2_meetRemembered 23 = .ok (.ifCond .ne 38, 3) := by decide +kernel
theorem dX2_meetRemembered_26 : decode cX2_meetRemembered 26 = .ok (.aload_n 1, 1) := by decide +kernel
theorem dX2_meetRemembered_27 : decode cX2_meetRemembered 27 = .ok (.iload_n 3, 1) := by decide +kernel
theorem dX2_meetRemembered_28 : decode cX2_meetRemembered 28 = .ok (.iload 4, 2) := by decide +kernel
theorem dX2_meetRemembered_30 : decode cX2_meetRemembered 30 = .ok (.invokevirtual 56, 3) := by decide +kernel
theorem dX2_meetRemembered_33 : decode cX2_meetRemembered 33 = .ok (.istore 5, 2) := by decide +kernel
theorem dX2_meetRemembered_35 : decode cX2_meetRemembered 35 = .ok (.aload_n 1, 1) := by decide +kernel
theorem dX2_meetRemembered_36 : decode cX2_meetRemembered 36 = .ok (.iload 5, 2) := by decide +kernel
theorem dX2_meetRemembered_38 : decode cX2_meetRemembered 38 = .ok (.iload_n 2, 1) := by decide +kernel
theorem dX2_meetRemembered_39 : decode cX2_meetRemembered 39 = .ok (.invokevirtual 36, 3) := by decide +kernel
theorem dX2_meetRemembered_42 : decode cX2_meetRemembered 42 = .ok (.ifCond .eq 13, 3) := by decide +kernel
theorem dX2_meetRemembered_45 : decode cX2_meetRemembered 45 = .ok (.aload_n 0, 1) := by decide +kernel
theorem dX2_meetRemembered_46 : decode cX2_meetRemembered 46 = .ok (.getfield 18, 3) := by decide +kernel
theorem dX2_meetRemembered_49 : decode cX2_meetRemembered 49 = .ok (.iload 5, 2) := by decide +kernel
theorem dX2_meetRemembered_51 : decode cX2_meetRemembered 51 = .ok (.iconst 0, 1) := by decide +kernel
theorem dX2_meetRemembered_52 : decode cX2_meetRemembered 52 = .ok (.invokevirtual 46, 3) := by decide +kernel
theorem dX2_meetRemembered_55 : decode cX2_meetRemembered 55 = .ok (.iinc 4 1, 3) := by decide +kernel
theorem dX2_meetRemembered_58 : decode cX2_meetRemembered 58 = .ok (.goto (-47), 3) := by decide +kernel
theorem dX2_meetRemembered_61 : decode cX2_meetRemembered 61 = .ok (.iinc 3 1, 3) := by decide +kernel
theorem dX2_meetRemembered_64 : decode cX2_meetRemembered 64 = .ok (.goto (-62), 3) := by decide +kernel
theorem dX2_meetRemembered_67 : decode cX2_meetRemembered 67 = .ok (.return_, 1) := by decide +kernel
theorem dX2_survivingCells_0 : decode cX2_survivingCells 0 = .ok (.aload_n 0, 1) := by decide +kernel
theorem dX2_survivingCells_1 : decode cX2_survivingCells 1 = .ok (.getfield 18, 3) := by decide +kernel
theorem dX2_survivingCells_4 : decode cX2_survivingCells 4 = .ok (.aload_n 1, 1) := by decide +kernel
theorem dX2_survivingCells_5 : decode cX2_survivingCells 5 = .ok (.invokevirtual 60, 3) := by decide +kernel
theorem dX2_survivingCells_8 : decode cX2_survivingCells 8 = .ok (.ireturn, 1) := by decide +kernel
theorem dX2_deadCells_0 : decode cX2_deadCells 0 = .ok (.iload_n 2, 1) := by decide +kernel
theorem dX2_deadCells_1 : decode cX2_deadCells 1 = .ok (.invokestatic 64, 3) := by decide +kernel
theorem dX2_deadCells_4 : decode cX2_deadCells 4 = .ok (.ifCond .eq 21, 3) := by decide +kernel
theorem dX2_deadCells_7 : decode cX2_deadCells 7 = .ok (.aload_n 1, 1) := by decide +kernel
theorem dX2_deadCells_8 : decode cX2_deadCells 8 = .ok (.getfield 67, 3) := by decide +kernel
theorem dX2_deadCells_11 : decode cX2_deadCells 11 = .ok (.iload_n 2, 1) := by decide +kernel
theorem dX2_deadCells_12 : decode cX2_deadCells 12 = .ok (.iaload, 1) := by decide +kernel
theorem dX2_deadCells_13 : decode cX2_deadCells 13 = .ok (.aload_n 0, 1) := by decide +kernel
theorem dX2_deadCells_14 : decode cX2_deadCells 14 = .ok (.getfield 18, 3) := by decide +kernel
theorem dX2_deadCells_17 : decode cX2_deadCells 17 = .ok (.aload_n 1, 1) := by decide +kernel
theorem dX2_deadCells_18 : decode cX2_deadCells 18 = .ok (.invokevirtual 60, 3) := by decide +kernel
theorem dX2_deadCells_21 : decode cX2_deadCells 21 = .ok (.isub, 1) := by decide +kernel
theorem dX2_deadCells_22 : decode cX2_deadCells 22 = .ok (.goto 4, 3) := by decide +kernel
theorem dX2_deadCells_25 : decode cX2_deadCells 25 = .ok (.iconst 0, 1) := by decide +kernel
theorem dX2_deadCells_26 : decode cX2_deadCells 26 = .ok (.ireturn, 1) := by decide +kernel
theorem dX2_isKept_0 : decode cX2_isKept 0 = .ok (.iconst 0, 1) := by decide +kernel
theorem dX2_isKept_1 : decode cX2_isKept 1 = .ok (.istore_n 2, 1) := by decide +kernel
theorem dX2_isKept_2 : decode cX2_isKept 2 = .ok (.iload_n 2, 1) := by decide +kernel
theorem dX2_isKept_3 : decode cX2_isKept 3 = .ok (.bipush 24, 2) := by decide +kernel
theorem dX2_isKept_5 : decode cX2_isKept 5 = .ok (.if_icmp .ge 31, 3) := by decide +kernel
theorem dX2_isKept_8 : decode cX2_isKept 8 = .ok (.aload_n 0, 1) := by decide +kernel
theorem dX2_isKept_9 : decode cX2_isKept 9 = .ok (.getfield 18, 3) := by decide +kernel
theorem dX2_isKept_12 : decode cX2_isKept 12 = .ok (.iload_n 2, 1) := by decide +kernel
theorem dX2_isKept_13 : decode cX2_isKept 13 = .ok (.invokevirtual 42, 3) := by decide +kernel
theorem dX2_isKept_16 : decode cX2_isKept 16 = .ok (.ifCond .eq 14, 3) := by decide +kernel
theorem dX2_isKept_19 : decode cX2_isKept 19 = .ok (.aload_n 1, 1) := by decide +kernel
theorem dX2_isKept_20 : decode cX2_isKept 20 = .ok (.getfield 70, 3) := by decide +kernel
theorem dX2_isKept_23 : decode cX2_isKept 23 = .ok (.iload_n 2, 1) := by decide +kernel
theorem dX2_isKept_24 : decode cX2_isKept 24 = .ok (.baload, 1) := by decide +kernel
theorem dX2_isKept_25 : decode cX2_isKept 25 = .ok (.ifCond .eq 5, 3) := by decide +kernel
theorem dX2_isKept_28 : decode cX2_isKept 28 = .ok (.iconst 1, 1) := by decide +kernel
theorem dX2_isKept_29 : decode cX2_isKept 29 = .ok (.ireturn, 1) := by decide +kernel
theorem dX2_isKept_30 : decode cX2_isKept 30 = .ok (.iinc 2 1, 3) := by decide +kernel
theorem dX2_isKept_33 : decode cX2_isKept 33 = .ok (.goto (-31), 3) := by decide +kernel
theorem dX2_isKept_36 : decode cX2_isKept 36 = .ok (.iconst 0, 1) := by decide +kernel
theorem dX2_isKept_37 : decode cX2_isKept 37 = .ok (.ireturn, 1) := by decide +kernel
theorem dX2_reason_0 : decode cX2_reason 0 = .ok (.iload_n 2, 1) := by decide +kernel
theorem dX2_reason_1 : decode cX2_reason 1 = .ok (.iload_n 3, 1) := by decide +kernel
theorem dX2_reason_2 : decode cX2_reason 2 = .ok (.if_icmp .ne 5, 3) := by decide +kernel
theorem dX2_reason_5 : decode cX2_reason 5 = .ok (.iconst 1, 1) := by decide +kernel
theorem dX2_reason_6 : decode cX2_reason 6 = .ok (.ireturn, 1) := by decide +kernel
theorem dX2_reason_7 : decode cX2_reason 7 = .ok (.aload_n 1, 1) := by decide +kernel
theorem dX2_reason_8 : decode cX2_reason 8 = .ok (.iload_n 2, 1) := by decide +kernel
theorem dX2_reason_9 : decode cX2_reason 9 = .ok (.invokevirtual 74, 3) := by decide +kernel
theorem dX2_reason_12 : decode cX2_reason 12 = .ok (.ifCond .eq 11, 3) := by decide +kernel
theorem dX2_reason_15 : decode cX2_reason 15 = .ok (.aload_n 1, 1) := by decide +kernel
theorem dX2_reason_16 : decode cX2_reason 16 = .ok (.iload_n 3, 1) := by decide +kernel
theorem dX2_reason_17 : decode cX2_reason 17 = .ok (.invokevirtual 74, 3) := by decide +kernel
theorem dX2_reason_20 : decode cX2_reason 20 = .ok (.ifCond .ne 5, 3) := by decide +kernel
theorem dX2_reason_23 : decode cX2_reason 23 = .ok (.iconst 2, 1) := by decide +kernel
theorem dX2_reason_24 : decode cX2_reason 24 = .ok (.ireturn, 1) := by decide +kernel
theorem dX2_reason_25 : decode cX2_reason 25 = .ok (.aload_n 0, 1) := by decide +kernel
theorem dX2_reason_26 : decode cX2_reason 26 = .ok (.aload_n 1, 1) := by decide +kernel
theorem dX2_reason_27 : decode cX2_reason 27 = .ok (.iload_n 2, 1) := by decide +kernel
theorem dX2_reason_28 : decode cX2_reason 28 = .ok (.invokevirtual 77, 3) := by decide +kernel
theorem dX2_reason_31 : decode cX2_reason 31 = .ok (.aload_n 0, 1) := by decide +kernel
theorem dX2_reason_32 : decode cX2_reason 32 = .ok (.aload_n 1, 1) := by decide +kernel
theorem dX2_reason_33 : decode cX2_reason 33 = .ok (.invokevirtual 80, 3) := by decide +kernel
theorem dX2_reason_36 : decode cX2_reason 36 = .ok (.ifCond .eq 5, 3) := by decide +kernel
theorem dX2_reason_39 : decode cX2_reason 39 = .ok (.iconst 3, 1) := by decide +kernel
theorem dX2_reason_40 : decode cX2_reason 40 = .ok (.ireturn, 1) := by decide +kernel
theorem dX2_reason_41 : decode cX2_reason 41 = .ok (.aload_n 1, 1) := by decide +kernel
theorem dX2_reason_42 : decode cX2_reason 42 = .ok (.iload_n 3, 1) := by decide +kernel
theorem dX2_reason_43 : decode cX2_reason 43 = .ok (.aload_n 0, 1) := by decide +kernel
theorem dX2_reason_44 : decode cX2_reason 44 = .ok (.getfield 18, 3) := by decide +kernel
theorem dX2_reason_47 : decode cX2_reason 47 = .ok (.aload_n 1, 1) := by decide +kernel
theorem dX2_reason_48 : decode cX2_reason 48 = .ok (.invokevirtual 60, 3) := by decide +kernel
theorem dX2_reason_51 : decode cX2_reason 51 = .ok (.invokevirtual 84, 3) := by decide +kernel
theorem dX2_reason_54 : decode cX2_reason 54 = .ok (.ifCond .eq 7, 3) := by decide +kernel
theorem dX2_reason_57 : decode cX2_reason 57 = .ok (.iconst 0, 1) := by decide +kernel
theorem dX2_reason_58 : decode cX2_reason 58 = .ok (.goto 4, 3) := by decide +kernel
theorem dX2_reason_61 : decode cX2_reason 61 = .ok (.iconst 4, 1) := by decide +kernel
theorem dX2_reason_62 : decode cX2_reason 62 = .ok (.ireturn, 1) := by decide +kernel
theorem dX2_landing_0 : decode cX2_landing 0 = .ok (.iload_n 3, 1) := by decide +kernel
theorem dX2_landing_1 : decode cX2_landing 1 = .ok (.invokestatic 64, 3) := by decide +kernel
theorem dX2_landing_4 : decode cX2_landing 4 = .ok (.ifCond .eq 12, 3) := by decide +kernel
theorem dX2_landing_7 : decode cX2_landing 7 = .ok (.aload_n 1, 1) := by decide +kernel
theorem dX2_landing_8 : decode cX2_landing 8 = .ok (.getfield 67, 3) := by decide +kernel
theorem dX2_landing_11 : decode cX2_landing 11 = .ok (.iload_n 3, 1) := by decide +kernel
theorem dX2_landing_12 : decode cX2_landing 12 = .ok (.iaload, 1) := by decide +kernel
theorem dX2_landing_13 : decode cX2_landing 13 = .ok (.goto 4, 3) := by decide +kernel
theorem dX2_landing_16 : decode cX2_landing 16 = .ok (.iconst 0, 1) := by decide +kernel
theorem dX2_landing_17 : decode cX2_landing 17 = .ok (.istore 4, 2) := by decide +kernel
theorem dX2_landing_19 : decode cX2_landing 19 = .ok (.aload_n 0, 1) := by decide +kernel
theorem dX2_landing_20 : decode cX2_landing 20 = .ok (.aload_n 1, 1) := by decide +kernel
theorem dX2_landing_21 : decode cX2_landing 21 = .ok (.iload_n 2, 1) := by decide +kernel
theorem dX2_landing_22 : decode cX2_landing 22 = .ok (.invokevirtual 100, 3) := by decide +kernel
theorem dX2_landing_25 : decode cX2_landing 25 = .ok (.istore 5, 2) := by decide +kernel
theorem dX2_landing_27 : decode cX2_landing 27 = .ok (.iconst 0, 1) := by decide +kernel
theorem dX2_landing_28 : decode cX2_landing 28 = .ok (.istore 6, 2) := by decide +kernel
theorem dX2_landing_30 : decode cX2_landing 30 = .ok (.iload 6, 2) := by decide +kernel
theorem dX2_landing_32 : decode cX2_landing 32 = .ok (.bipush 24, 2) := by decide +kernel
theorem dX2_landing_34 : decode cX2_landing 34 = .ok (.if_icmp .ge 45, 3) := by decide +kernel
theorem dX2_landing_37 : decode cX2_landing 37 = .ok (.aload_n 0, 1) := by decide +kernel
theorem dX2_landing_38 : decode cX2_landing 38 = .ok (.getfield 18, 3) := by decide +kernel
theorem dX2_landing_41 : decode cX2_landing 41 = .ok (.iload 6, 2) := by decide +kernel
theorem dX2_landing_43 : decode cX2_landing 43 = .ok (.invokevirtual 42, 3) := by decide +kernel
theorem dX2_landing_46 : decode cX2_landing 46 = .ok (.ifCond .eq 27, 3) := by decide +kernel
theorem dX2_landing_49 : decode cX2_landing 49 = .ok (.aload_n 0, 1) := by decide +kernel
theorem dX2_landing_50 : decode cX2_landing 50 = .ok (.aload_n 1, 1) := by decide +kernel
theorem dX2_landing_51 : decode cX2_landing 51 = .ok (.iload 6, 2) := by decide +kernel
theorem dX2_landing_53 : decode cX2_landing 53 = .ok (.invokevirtual 100, 3) := by decide +kernel
theorem dX2_landing_56 : decode cX2_landing 56 = .ok (.iload 5, 2) := by decide +kernel
theorem dX2_landing_58 : decode cX2_landing 58 = .ok (.if_icmp .ge 15, 3) := by decide +kernel
theorem dX2_landing_61 : decode cX2_landing 61 = .ok (.iload 4, 2) := by decide +kernel
theorem dX2_landing_63 : decode cX2_landing 63 = .ok (.aload_n 1, 1) := by decide +kernel
theorem dX2_landing_64 : decode cX2_landing 64 = .ok (.getfield 104, 3) := by decide +kernel
theorem dX2_landing_67 : decode cX2_landing 67 = .ok (.iload 6, 2) := by decide +kernel
theorem dX2_landing_69 : decode cX2_landing 69 = .ok (.iaload, 1) := by decide +kernel
theorem dX2_landing_70 : decode cX2_landing 70 = .ok (.iadd, 1) := by decide +kernel
theorem dX2_landing_71 : decode cX2_landing 71 = .ok (.istore 4, 2) := by decide +kernel
theorem dX2_landing_73 : decode cX2_landing 73 = .ok (.iinc 6 1, 3) := by decide +kernel
theorem dX2_landing_76 : decode cX2_landing 76 = .ok (.goto (-46), 3) := by decide +kernel
theorem dX2_landing_79 : decode cX2_landing 79 = .ok (.iload 4, 2) := by decide +kernel
theorem dX2_landing_81 : decode cX2_landing 81 = .ok (.ireturn, 1) := by decide +kernel
theorem dX2_rank_0 : decode cX2_rank 0 = .ok (.aload_n 1, 1) := by decide +kernel
theorem dX2_rank_1 : decode cX2_rank 1 = .ok (.getfield 50, 3) := by decide +kernel
theorem dX2_rank_4 : decode cX2_rank 4 = .ok (.iconst 1, 1) := by decide +kernel
theorem dX2_rank_5 : decode cX2_rank 5 = .ok (.iaload, 1) := by decide +kernel
theorem dX2_rank_6 : decode cX2_rank 6 = .ok (.istore_n 3, 1) := by decide +kernel
theorem dX2_rank_7 : decode cX2_rank 7 = .ok (.iload_n 3, 1) := by decide +kernel
theorem dX2_rank_8 : decode cX2_rank 8 = .ok (.iconst 1, 1) := by decide +kernel
theorem dX2_rank_9 : decode cX2_rank 9 = .ok (.if_icmp .eq 10, 3) := by decide +kernel
theorem dX2_rank_12 : decode cX2_rank 12 = .ok (.iload_n 2, 1) := by decide +kernel
theorem dX2_rank_13 : decode cX2_rank 13 = .ok (.invokestatic 107, 3) := by decide +kernel
theorem dX2_rank_16 : decode cX2_rank 16 = .ok (.ifCond .ne 5, 3) := by decide +kernel
theorem dX2_rank_19 : decode cX2_rank 19 = .ok (.iload_n 2, 1) := by decide +kernel
theorem dX2_rank_20 : decode cX2_rank 20 = .ok (.ireturn, 1) := by decide +kernel
theorem dX2_rank_21 : decode cX2_rank 21 = .ok (.iload_n 3, 1) := by decide +kernel
theorem dX2_rank_22 : decode cX2_rank 22 = .ok (.iconst 2, 1) := by decide +kernel
theorem dX2_rank_23 : decode cX2_rank 23 = .ok (.if_icmp .eq 10, 3) := by decide +kernel
theorem dX2_rank_26 : decode cX2_rank 26 = .ok (.aload_n 1, 1) := by decide +kernel
theorem dX2_rank_27 : decode cX2_rank 27 = .ok (.getfield 110, 3) := by decide +kernel
theorem dX2_rank_30 : decode cX2_rank 30 = .ok (.iload_n 2, 1) := by decide +kernel
theorem dX2_rank_31 : decode cX2_rank 31 = .ok (.iaload, 1) := by decide +kernel
theorem dX2_rank_32 : decode cX2_rank 32 = .ok (.ireturn, 1) := by decide +kernel
theorem dX2_rank_33 : decode cX2_rank 33 = .ok (.aload_n 0, 1) := by decide +kernel
theorem dX2_rank_34 : decode cX2_rank 34 = .ok (.getfield 12, 3) := by decide +kernel
theorem dX2_rank_37 : decode cX2_rank 37 = .ok (.iload_n 2, 1) := by decide +kernel
theorem dX2_rank_38 : decode cX2_rank 38 = .ok (.invokevirtual 42, 3) := by decide +kernel
theorem dX2_rank_41 : decode cX2_rank 41 = .ok (.ifCond .eq 14, 3) := by decide +kernel
theorem dX2_rank_44 : decode cX2_rank 44 = .ok (.aload_n 0, 1) := by decide +kernel
theorem dX2_rank_45 : decode cX2_rank 45 = .ok (.getfield 12, 3) := by decide +kernel
theorem dX2_rank_48 : decode cX2_rank 48 = .ok (.iload_n 2, 1) := by decide +kernel
theorem dX2_rank_49 : decode cX2_rank 49 = .ok (.invokevirtual 113, 3) := by decide +kernel
theorem dX2_rank_52 : decode cX2_rank 52 = .ok (.goto 12, 3) := by decide +kernel
theorem dX2_rank_55 : decode cX2_rank 55 = .ok (.bipush 24, 2) := by decide +kernel
theorem dX2_rank_57 : decode cX2_rank 57 = .ok (.aload_n 1, 1) := by decide +kernel
theorem dX2_rank_58 : decode cX2_rank 58 = .ok (.getfield 110, 3) := by decide +kernel
theorem dX2_rank_61 : decode cX2_rank 61 = .ok (.iload_n 2, 1) := by decide +kernel
theorem dX2_rank_62 : decode cX2_rank 62 = .ok (.iaload, 1) := by decide +kernel
theorem dX2_rank_63 : decode cX2_rank 63 = .ok (.iadd, 1) := by decide +kernel
theorem dX2_rank_64 : decode cX2_rank 64 = .ok (.ireturn, 1) := by decide +kernel
theorem dX2_carryOn_0 : decode cX2_carryOn 0 = .ok (.aload_n 0, 1) := by decide +kernel
theorem dX2_carryOn_1 : decode cX2_carryOn 1 = .ok (.aload_n 1, 1) := by decide +kernel
theorem dX2_carryOn_2 : decode cX2_carryOn 2 = .ok (.iload_n 2, 1) := by decide +kernel
theorem dX2_carryOn_3 : decode cX2_carryOn 3 = .ok (.invokevirtual 77, 3) := by decide +kernel
theorem dX2_carryOn_6 : decode cX2_carryOn 6 = .ok (.iconst 0, 1) := by decide +kernel
theorem dX2_carryOn_7 : decode cX2_carryOn 7 = .ok (.istore 4, 2) := by decide +kernel
theorem dX2_carryOn_9 : decode cX2_carryOn 9 = .ok (.iload 4, 2) := by decide +kernel
theorem dX2_carryOn_11 : decode cX2_carryOn 11 = .ok (.bipush 24, 2) := by decide +kernel
theorem dX2_carryOn_13 : decode cX2_carryOn 13 = .ok (.if_icmp .ge 40, 3) := by decide +kernel
theorem dX2_carryOn_16 : decode cX2_carryOn 16 = .ok (.aload_n 0, 1) := by decide +kernel
theorem dX2_carryOn_17 : decode cX2_carryOn 17 = .ok (.getfield 21, 3) := by decide +kernel
theorem dX2_carryOn_20 : decode cX2_carryOn 20 = .ok (.iload 4, 2) := by decide +kernel
theorem dX2_carryOn_22 : decode cX2_carryOn 22 = .ok (.aload_n 0, 1) := by decide +kernel
theorem dX2_carryOn_23 : decode cX2_carryOn 23 = .ok (.getfield 18, 3) := by decide +kernel
theorem dX2_carryOn_26 : decode cX2_carryOn 26 = .ok (.iload 4, 2) := by decide +kernel
theorem dX2_carryOn_28 : decode cX2_carryOn 28 = .ok (.invokevirtual 42, 3) := by decide +kernel
theorem dX2_carryOn_31 : decode cX2_carryOn 31 = .ok (.ifCond .eq 14, 3) := by decide +kernel
theorem dX2_carryOn_34 : decode cX2_carryOn 34 = .ok (.aload_n 0, 1) := by decide +kernel
theorem dX2_carryOn_35 : decode cX2_carryOn 35 = .ok (.aload_n 1, 1) := by decide +kernel
theorem dX2_carryOn_36 : decode cX2_carryOn 36 = .ok (.iload 4, 2) := by decide +kernel
theorem dX2_carryOn_38 : decode cX2_carryOn 38 = .ok (.iload_n 3, 1) := by decide +kernel
theorem dX2_carryOn_39 : decode cX2_carryOn 39 = .ok (.invokevirtual 97, 3) := by decide +kernel
theorem dX2_carryOn_42 : decode cX2_carryOn 42 = .ok (.goto 4, 3) := by decide +kernel
theorem dX2_carryOn_45 : decode cX2_carryOn 45 = .ok (.iconst (-1), 1) := by decide +kernel
theorem dX2_carryOn_46 : decode cX2_carryOn 46 = .ok (.iastore, 1) := by decide +kernel
theorem dX2_carryOn_47 : decode cX2_carryOn 47 = .ok (.iinc 4 1, 3) := by decide +kernel
theorem dX2_carryOn_50 : decode cX2_carryOn 50 = .ok (.goto (-41), 3) := by decide +kernel
theorem dX2_carryOn_53 : decode cX2_carryOn 53 = .ok (.iconst 0, 1) := by decide +kernel
theorem dX2_carryOn_54 : decode cX2_carryOn 54 = .ok (.istore 4, 2) := by decide +kernel
theorem dX2_carryOn_56 : decode cX2_carryOn 56 = .ok (.iload 4, 2) := by decide +kernel
theorem dX2_carryOn_58 : decode cX2_carryOn 58 = .ok (.bipush 24, 2) := by decide +kernel
theorem dX2_carryOn_60 : decode cX2_carryOn 60 = .ok (.if_icmp .ge 35, 3) := by decide +kernel
theorem dX2_carryOn_63 : decode cX2_carryOn 63 = .ok (.aload_n 0, 1) := by decide +kernel
theorem dX2_carryOn_64 : decode cX2_carryOn 64 = .ok (.getfield 18, 3) := by decide +kernel
theorem dX2_carryOn_67 : decode cX2_carryOn 67 = .ok (.iload 4, 2) := by decide +kernel
theorem dX2_carryOn_69 : decode cX2_carryOn 69 = .ok (.invokevirtual 42, 3) := by decide +kernel
theorem dX2_carryOn_72 : decode cX2_carryOn 72 = .ok (.ifCond .eq 17, 3) := by decide +kernel
theorem dX2_carryOn_75 : decode cX2_carryOn 75 = .ok (.aload_n 1, 1) := by decide +kernel
theorem dX2_carryOn_76 : decode cX2_carryOn 76 = .ok (.iload 4, 2) := by decide +kernel
theorem dX2_carryOn_78 : decode cX2_carryOn 78 = .ok (.iload_n 3, 1) := by decide +kernel
theorem dX2_carryOn_79 : decode cX2_carryOn 79 = .ok (.aload_n 0, 1) := by decide +kernel
theorem dX2_carryOn_80 : decode cX2_carryOn 80 = .ok (.getfield 21, 3) := by decide +kernel
theorem dX2_carryOn_83 : decode cX2_carryOn 83 = .ok (.iload 4, 2) := by decide +kernel
theorem dX2_carryOn_85 : decode cX2_carryOn 85 = .ok (.iaload, 1) := by decide +kernel
theorem dX2_carryOn_86 : decode cX2_carryOn 86 = .ok (.invokevirtual 117, 3) := by decide +kernel
theorem dX2_carryOn_89 : decode cX2_carryOn 89 = .ok (.iinc 4 1, 3) := by decide +kernel
theorem dX2_carryOn_92 : decode cX2_carryOn 92 = .ok (.goto (-36), 3) := by decide +kernel
theorem dX2_carryOn_95 : decode cX2_carryOn 95 = .ok (.aload_n 0, 1) := by decide +kernel
theorem dX2_carryOn_96 : decode cX2_carryOn 96 = .ok (.getfield 18, 3) := by decide +kernel
theorem dX2_carryOn_99 : decode cX2_carryOn 99 = .ok (.getfield 121, 3) := by decide +kernel
theorem dX2_carryOn_102 : decode cX2_carryOn 102 = .ok (.ireturn, 1) := by decide +kernel
theorem dX3_init_0 : decode cX3_init 0 = .ok (.aload_n 0, 1) := by decide +kernel
theorem dX3_init_1 : decode cX3_init 1 = .ok (.invokespecial 3, 3) := by decide +kernel
theorem dX3_init_4 : decode cX3_init 4 = .ok (.aload_n 0, 1) := by decide +kernel
theorem dX3_init_5 : decode cX3_init 5 = .ok (.bipush 24, 2) := by decide +kernel
theorem dX3_init_7 : decode cX3_init 7 = .ok (.newarray .boolean, 2) := by decide +kernel
theorem dX3_init_9 : decode cX3_init 9 = .ok (.putfield 9, 3) := by decide +kernel
theorem dX3_init_12 : decode cX3_init 12 = .ok (.aload_n 0, 1) := by decide +kernel
theorem dX3_init_13 : decode cX3_init 13 = .ok (.bipush 24, 2) := by decide +kernel
theorem dX3_init_15 : decode cX3_init 15 = .ok (.newarray .int, 2) := by decide +kernel
theorem dX3_init_17 : decode cX3_init 17 = .ok (.putfield 15, 3) := by decide +kernel
theorem dX3_init_20 : decode cX3_init 20 = .ok (.aload_n 0, 1) := by decide +kernel
theorem dX3_init_21 : decode cX3_init 21 = .ok (.bipush 24, 2) := by decide +kernel
theorem dX3_init_23 : decode cX3_init 23 = .ok (.newarray .int, 2) := by decide +kernel
theorem dX3_init_25 : decode cX3_init 25 = .ok (.putfield 19, 3) := by decide +kernel
theorem dX3_init_28 : decode cX3_init 28 = .ok (.aload_n 0, 1) := by decide +kernel
theorem dX3_init_29 : decode cX3_init 29 = .ok (.bipush 24, 2) := by decide +kernel
theorem dX3_init_31 : decode cX3_init 31 = .ok (.newarray .int, 2) := by decide +kernel
theorem dX3_init_33 : decode cX3_init 33 = .ok (.putfield 22, 3) := by decide +kernel
theorem dX3_init_36 : decode cX3_init 36 = .ok (.aload_n 0, 1) := by decide +kernel
theorem dX3_init_37 : decode cX3_init 37 = .ok (.bipush 48, 2) := by decide +kernel
theorem dX3_init_39 : decode cX3_init 39 = .ok (.newarray .int, 2) := by decide +kernel
theorem dX3_init_41 : decode cX3_init 41 = .ok (.putfield 25, 3) := by decide +kernel
theorem dX3_init_44 : decode cX3_init 44 = .ok (.aload_n 0, 1) := by decide +kernel
theorem dX3_init_45 : decode cX3_init 45 = .ok (.bipush 24, 2) := by decide +kernel
theorem dX3_init_47 : decode cX3_init 47 = .ok (.newarray .boolean, 2) := by decide +kernel
theorem dX3_init_49 : decode cX3_init 49 = .ok (.putfield 28, 3) := by decide +kernel
theorem dX3_init_52 : decode cX3_init 52 = .ok (.aload_n 0, 1) := by decide +kernel
theorem dX3_init_53 : decode cX3_init 53 = .ok (.bipush 24, 2) := by decide +kernel
theorem dX3_init_55 : decode cX3_init 55 = .ok (.newarray .boolean, 2) := by decide +kernel
theorem dX3_init_57 : decode cX3_init 57 = .ok (.putfield 31, 3) := by decide +kernel
theorem dX3_init_60 : decode cX3_init 60 = .ok (.aload_n 0, 1) := by decide +kernel
theorem dX3_init_61 : decode cX3_init 61 = .ok (.bipush 24, 2) := by decide +kernel
theorem dX3_init_63 : decode cX3_init 63 = .ok (.newarray .int, 2) := by decide +kernel
theorem dX3_init_65 : decode cX3_init 65 = .ok (.putfield 34, 3) := by decide +kernel
theorem dX3_init_68 : decode cX3_init 68 = .ok (.aload_n 0, 1) := by decide +kernel
theorem dX3_init_69 : decode cX3_init 69 = .ok (.bipush 6, 2) := by decide +kernel
theorem dX3_init_71 : decode cX3_init 71 = .ok (.newarray .boolean, 2) := by decide +kernel
theorem dX3_init_73 : decode cX3_init 73 = .ok (.putfield 37, 3) := by decide +kernel
theorem dX3_init_76 : decode cX3_init 76 = .ok (.aload_n 0, 1) := by decide +kernel
theorem dX3_init_77 : decode cX3_init 77 = .ok (.bipush 6, 2) := by decide +kernel
theorem dX3_init_79 : decode cX3_init 79 = .ok (.newarray .int, 2) := by decide +kernel
theorem dX3_init_81 : decode cX3_init 81 = .ok (.putfield 40, 3) := by decide +kernel
theorem dX3_init_84 : decode cX3_init 84 = .ok (.aload_n 0, 1) := by decide +kernel
theorem dX3_init_85 : decode cX3_init 85 = .ok (.bipush 6, 2) := by decide +kernel
theorem dX3_init_87 : decode cX3_init 87 = .ok (.newarray .int, 2) := by decide +kernel
theorem dX3_init_89 : decode cX3_init 89 = .ok (.putfield 43, 3) := by decide +kernel
theorem dX3_init_92 : decode cX3_init 92 = .ok (.aload_n 0, 1) := by decide +kernel
theorem dX3_init_93 : decode cX3_init 93 = .ok (.iconst 2, 1) := by decide +kernel
theorem dX3_init_94 : decode cX3_init 94 = .ok (.newarray .int, 2) := by decide +kernel
theorem dX3_init_96 : decode cX3_init 96 = .ok (.putfield 46, 3) := by decide +kernel
theorem dX3_init_99 : decode cX3_init 99 = .ok (.iconst 0, 1) := by decide +kernel
theorem dX3_init_100 : decode cX3_init 100 = .ok (.istore_n 1, 1) := by decide +kernel
theorem dX3_init_101 : decode cX3_init 101 = .ok (.iload_n 1, 1) := by decide +kernel
theorem dX3_init_102 : decode cX3_init 102 = .ok (.bipush 48, 2) := by decide +kernel
theorem dX3_init_104 : decode cX3_init 104 = .ok (.if_icmp .ge 16, 3) := by decide +kernel
theorem dX3_init_107 : decode cX3_init 107 = .ok (.aload_n 0, 1) := by decide +kernel
theorem dX3_init_108 : decode cX3_init 108 = .ok (.getfield 25, 3) := by decide +kernel
theorem dX3_init_111 : decode cX3_init 111 = .ok (.iload_n 1, 1) := by decide +kernel
theorem dX3_init_112 : decode cX3_init 112 = .ok (.iconst (-1), 1) := by decide +kernel
theorem dX3_init_113 : decode cX3_init 113 = .ok (.iastore, 1) := by decide +kernel
theorem dX3_init_114 : decode cX3_init 114 = .ok (.iinc 1 1, 3) := by decide +kernel
theorem dX3_init_117 : decode cX3_init 117 = .ok (.goto (-16), 3) := by decide +kernel
theorem dX3_init_120 : decode cX3_init 120 = .ok (.return_, 1) := by decide +kernel
theorem dX3_copyFrom_0 : decode cX3_copyFrom 0 = .ok (.iconst 0, 1) := by decide +kernel
theorem dX3_copyFrom_1 : decode cX3_copyFrom 1 = .ok (.istore_n 2, 1) := by decide +kernel
theorem dX3_copyFrom_2 : decode cX3_copyFrom 2 = .ok (.iload_n 2, 1) := by decide +kernel
theorem dX3_copyFrom_3 : decode cX3_copyFrom 3 = .ok (.bipush 24, 2) := by decide +kernel
theorem dX3_copyFrom_5 : decode cX3_copyFrom 5 = .ok (.if_icmp .ge 45, 3) := by decide +kernel
theorem dX3_copyFrom_8 : decode cX3_copyFrom 8 = .ok (.aload_n 0, 1) := by decide +kernel
theorem dX3_copyFrom_9 : decode cX3_copyFrom 9 = .ok (.getfield 9, 3) := by decide +kernel
theorem dX3_copyFrom_12 : decode cX3_copyFrom 12 = .ok (.iload_n 2, 1) := by decide +kernel
theorem dX3_copyFrom_13 : decode cX3_copyFrom 13 = .ok (.aload_n 1, 1) := by decide +kernel
theorem dX3_copyFrom_14 : decode cX3_copyFrom 14 = .ok (.getfield 9, 3) := by decide +kernel
theorem dX3_copyFrom_17 : decode cX3_copyFrom 17 = .ok (.iload_n 2, 1) := by decide +kernel
theorem dX3_copyFrom_18 : decode cX3_copyFrom 18 = .ok (.baload, 1) := by decide +kernel
theorem dX3_copyFrom_19 : decode cX3_copyFrom 19 = .ok (.bastore, 1) := by decide +kernel
theorem dX3_copyFrom_20 : decode cX3_copyFrom 20 = .ok (.aload_n 0, 1) := by decide +kernel
theorem dX3_copyFrom_21 : decode cX3_copyFrom 21 = .ok (.getfield 28, 3) := by decide +kernel
theorem dX3_copyFrom_24 : decode cX3_copyFrom 24 = .ok (.iload_n 2, 1) := by decide +kernel
theorem dX3_copyFrom_25 : decode cX3_copyFrom 25 = .ok (.aload_n 1, 1) := by decide +kernel
theorem dX3_copyFrom_26 : decode cX3_copyFrom 26 = .ok (.getfield 28, 3) := by decide +kernel
theorem dX3_copyFrom_29 : decode cX3_copyFrom 29 = .ok (.iload_n 2, 1) := by decide +kernel
theorem dX3_copyFrom_30 : decode cX3_copyFrom 30 = .ok (.baload, 1) := by decide +kernel
theorem dX3_copyFrom_31 : decode cX3_copyFrom 31 = .ok (.bastore, 1) := by decide +kernel
theorem dX3_copyFrom_32 : decode cX3_copyFrom 32 = .ok (.aload_n 0, 1) := by decide +kernel
theorem dX3_copyFrom_33 : decode cX3_copyFrom 33 = .ok (.getfield 31, 3) := by decide +kernel
theorem dX3_copyFrom_36 : decode cX3_copyFrom 36 = .ok (.iload_n 2, 1) := by decide +kernel
theorem dX3_copyFrom_37 : decode cX3_copyFrom 37 = .ok (.aload_n 1, 1) := by decide +kernel
theorem dX3_copyFrom_38 : decode cX3_copyFrom 38 = .ok (.getfield 31, 3) := by decide +kernel
theorem dX3_copyFrom_41 : decode cX3_copyFrom 41 = .ok (.iload_n 2, 1) := by decide +kernel
theorem dX3_copyFrom_42 : decode cX3_copyFrom 42 = .ok (.baload, 1) := by decide +kernel
theorem dX3_copyFrom_43 : decode cX3_copyFrom 43 = .ok (.bastore, 1) := by decide +kernel
theorem dX3_copyFrom_44 : decode cX3_copyFrom 44 = .ok (.iinc 2 1, 3) := by decide +kernel
theorem dX3_copyFrom_47 : decode cX3_copyFrom 47 = .ok (.goto (-45), 3) := by decide +kernel
theorem dX3_copyFrom_50 : decode cX3_copyFrom 50 = .ok (.iconst 0, 1) := by decide +kernel
theorem dX3_copyFrom_51 : decode cX3_copyFrom 51 = .ok (.istore_n 2, 1) := by decide +kernel
theorem dX3_copyFrom_52 : decode cX3_copyFrom 52 = .ok (.iload_n 2, 1) := by decide +kernel
theorem dX3_copyFrom_53 : decode cX3_copyFrom 53 = .ok (.bipush 6, 2) := by decide +kernel
theorem dX3_copyFrom_55 : decode cX3_copyFrom 55 = .ok (.if_icmp .ge 21, 3) := by decide +kernel
theorem dX3_copyFrom_58 : decode cX3_copyFrom 58 = .ok (.aload_n 0, 1) := by decide +kernel
theorem dX3_copyFrom_59 : decode cX3_copyFrom 59 = .ok (.getfield 37, 3) := by decide +kernel
theorem dX3_copyFrom_62 : decode cX3_copyFrom 62 = .ok (.iload_n 2, 1) := by decide +kernel
theorem dX3_copyFrom_63 : decode cX3_copyFrom 63 = .ok (.aload_n 1, 1) := by decide +kernel
theorem dX3_copyFrom_64 : decode cX3_copyFrom 64 = .ok (.getfield 37, 3) := by decide +kernel
theorem dX3_copyFrom_67 : decode cX3_copyFrom 67 = .ok (.iload_n 2, 1) := by decide +kernel
theorem dX3_copyFrom_68 : decode cX3_copyFrom 68 = .ok (.baload, 1) := by decide +kernel
theorem dX3_copyFrom_69 : decode cX3_copyFrom 69 = .ok (.bastore, 1) := by decide +kernel
theorem dX3_copyFrom_70 : decode cX3_copyFrom 70 = .ok (.iinc 2 1, 3) := by decide +kernel
theorem dX3_copyFrom_73 : decode cX3_copyFrom 73 = .ok (.goto (-21), 3) := by decide +kernel
theorem dX3_copyFrom_76 : decode cX3_copyFrom 76 = .ok (.aload_n 1, 1) := by decide +kernel
theorem dX3_copyFrom_77 : decode cX3_copyFrom 77 = .ok (.getfield 15, 3) := by decide +kernel
theorem dX3_copyFrom_80 : decode cX3_copyFrom 80 = .ok (.iconst 0, 1) := by decide +kernel
theorem dX3_copyFrom_81 : decode cX3_copyFrom 81 = .ok (.aload_n 0, 1) := by decide +kernel
theorem dX3_copyFrom_82 : decode cX3_copyFrom 82 = .ok (.getfield 15, 3) := by decide +kernel
theorem dX3_copyFrom_85 : decode cX3_copyFrom 85 = .ok (.iconst 0, 1) := by decide +kernel
theorem dX3_copyFrom_86 : decode cX3_copyFrom 86 = .ok (.bipush 24, 2) := by decide +kernel
theorem dX3_copyFrom_88 : decode cX3_copyFrom 88 = .ok (.invokestatic 49, 3) := by decide +kernel
theorem dX3_copyFrom_91 : decode cX3_copyFrom 91 = .ok (.aload_n 1, 1) := by decide +kernel
theorem dX3_copyFrom_92 : decode cX3_copyFrom 92 = .ok (.getfield 19, 3) := by decide +kernel
theorem dX3_copyFrom_95 : decode cX3_copyFrom 95 = .ok (.iconst 0, 1) := by decide +kernel
theorem dX3_copyFrom_96 : decode cX3_copyFrom 96 = .ok (.aload_n 0, 1) := by decide +kernel
theorem dX3_copyFrom_97 : decode cX3_copyFrom 97 = .ok (.getfield 19, 3) := by decide +kernel
theorem dX3_copyFrom_100 : decode cX3_copyFrom 100 = .ok (.iconst 0, 1) := by decide +kernel
theorem dX3_copyFrom_101 : decode cX3_copyFrom 101 = .ok (.bipush 24, 2) := by decide +kernel
theorem dX3_copyFrom_103 : decode cX3_copyFrom 103 = .ok (.invokestatic 49, 3) := by decide +kernel
theorem dX3_copyFrom_106 : decode cX3_copyFrom 106 = .ok (.aload_n 1, 1) := by decide +kernel
theorem dX3_copyFrom_107 : decode cX3_copyFrom 107 = .ok (.getfield 22, 3) := by decide +kernel
theorem dX3_copyFrom_110 : decode cX3_copyFrom 110 = .ok (.iconst 0, 1) := by decide +kernel
theorem dX3_copyFrom_111 : decode cX3_copyFrom 111 = .ok (.aload_n 0, 1) := by decide +kernel
theorem dX3_copyFrom_112 : decode cX3_copyFrom 112 = .ok (.getfield 22, 3) := by decide +kernel
theorem dX3_copyFrom_115 : decode cX3_copyFrom 115 = .ok (.iconst 0, 1) := by decide +kernel
theorem dX3_copyFrom_116 : decode cX3_copyFrom 116 = .ok (.bipush 24, 2) := by decide +kernel
theorem dX3_copyFrom_118 : decode cX3_copyFrom 118 = .ok (.invokestatic 49, 3) := by decide +kernel
theorem dX3_copyFrom_121 : decode cX3_copyFrom 121 = .ok (.aload_n 1, 1) := by decide +kernel
theorem dX3_copyFrom_122 : decode cX3_copyFrom 122 = .ok (.getfield 25, 3) := by decide +kernel
theorem dX3_copyFrom_125 : decode cX3_copyFrom 125 = .ok (.iconst 0, 1) := by decide +kernel
theorem dX3_copyFrom_126 : decode cX3_copyFrom 126 = .ok (.aload_n 0, 1) := by decide +kernel
theorem dX3_copyFrom_127 : decode cX3_copyFrom 127 = .ok (.getfield 25, 3) := by decide +kernel
theorem dX3_copyFrom_130 : decode cX3_copyFrom 130 = .ok (.iconst 0, 1) := by decide +kernel
theorem dX3_copyFrom_131 : decode cX3_copyFrom 131 = .ok (.bipush 48, 2) := by decide +kernel
theorem dX3_copyFrom_133 : decode cX3_copyFrom 133 = .ok (.invokestatic 49, 3) := by decide +kernel
theorem dX3_copyFrom_136 : decode cX3_copyFrom 136 = .ok (.aload_n 1, 1) := by decide +kernel
theorem dX3_copyFrom_137 : decode cX3_copyFrom 137 = .ok (.getfield 34, 3) := by decide +kernel
theorem dX3_copyFrom_140 : decode cX3_copyFrom 140 = .ok (.iconst 0, 1) := by decide +kernel
theorem dX3_copyFrom_141 : decode cX3_copyFrom 141 = .ok (.aload_n 0, 1) := by decide +kernel
theorem dX3_copyFrom_142 : decode cX3_copyFrom 142 = .ok (.getfield 34, 3) := by decide +kernel
theorem dX3_copyFrom_145 : decode cX3_copyFrom 145 = .ok (.iconst 0, 1) := by decide +kernel
theorem dX3_copyFrom_146 : decode cX3_copyFrom 146 = .ok (.bipush 24, 2) := by decide +kernel
theorem dX3_copyFrom_148 : decode cX3_copyFrom 148 = .ok (.invokestatic 49, 3) := by decide +kernel
theorem dX3_copyFrom_151 : decode cX3_copyFrom 151 = .ok (.aload_n 1, 1) := by decide +kernel
theorem dX3_copyFrom_152 : decode cX3_copyFrom 152 = .ok (.getfield 40, 3) := by decide +kernel
theorem dX3_copyFrom_155 : decode cX3_copyFrom 155 = .ok (.iconst 0, 1) := by decide +kernel
theorem dX3_copyFrom_156 : decode cX3_copyFrom 156 = .ok (.aload_n 0, 1) := by decide +kernel
theorem dX3_copyFrom_157 : decode cX3_copyFrom 157 = .ok (.getfield 40, 3) := by decide +kernel
theorem dX3_copyFrom_160 : decode cX3_copyFrom 160 = .ok (.iconst 0, 1) := by decide +kernel
theorem dX3_copyFrom_161 : decode cX3_copyFrom 161 = .ok (.bipush 6, 2) := by decide +kernel
theorem dX3_copyFrom_163 : decode cX3_copyFrom 163 = .ok (.invokestatic 49, 3) := by decide +kernel
theorem dX3_copyFrom_166 : decode cX3_copyFrom 166 = .ok (.aload_n 1, 1) := by decide +kernel
theorem dX3_copyFrom_167 : decode cX3_copyFrom 167 = .ok (.getfield 43, 3) := by decide +kernel
theorem dX3_copyFrom_170 : decode cX3_copyFrom 170 = .ok (.iconst 0, 1) := by decide +kernel
theorem dX3_copyFrom_171 : decode cX3_copyFrom 171 = .ok (.aload_n 0, 1) := by decide +kernel
theorem dX3_copyFrom_172 : decode cX3_copyFrom 172 = .ok (.getfield 43, 3) := by decide +kernel
theorem dX3_copyFrom_175 : decode cX3_copyFrom 175 = .ok (.iconst 0, 1) := by decide +kernel
theorem dX3_copyFrom_176 : decode cX3_copyFrom 176 = .ok (.bipush 6, 2) := by decide +kernel
theorem dX3_copyFrom_178 : decode cX3_copyFrom 178 = .ok (.invokestatic 49, 3) := by decide +kernel
theorem dX3_copyFrom_181 : decode cX3_copyFrom 181 = .ok (.aload_n 1, 1) := by decide +kernel
theorem dX3_copyFrom_182 : decode cX3_copyFrom 182 = .ok (.getfield 46, 3) := by decide +kernel
theorem dX3_copyFrom_185 : decode cX3_copyFrom 185 = .ok (.iconst 0, 1) := by decide +kernel
theorem dX3_copyFrom_186 : decode cX3_copyFrom 186 = .ok (.aload_n 0, 1) := by decide +kernel
theorem dX3_copyFrom_187 : decode cX3_copyFrom 187 = .ok (.getfield 46, 3) := by decide +kernel
theorem dX3_copyFrom_190 : decode cX3_copyFrom 190 = .ok (.iconst 0, 1) := by decide +kernel
theorem dX3_copyFrom_191 : decode cX3_copyFrom 191 = .ok (.iconst 2, 1) := by decide +kernel
theorem dX3_copyFrom_192 : decode cX3_copyFrom 192 = .ok (.invokestatic 49, 3) := by decide +kernel
theorem dX3_copyFrom_195 : decode cX3_copyFrom 195 = .ok (.aload_n 0, 1) := by decide +kernel
theorem dX3_copyFrom_196 : decode cX3_copyFrom 196 = .ok (.aload_n 1, 1) := by decide +kernel
theorem dX3_copyFrom_197 : decode cX3_copyFrom 197 = .ok (.getfield 55, 3) := by decide +kernel
theorem dX3_copyFrom_200 : decode cX3_copyFrom 200 = .ok (.putfield 55, 3) := by decide +kernel
theorem dX3_copyFrom_203 : decode cX3_copyFrom 203 = .ok (.aload_n 0, 1) := by decide +kernel
theorem dX3_copyFrom_204 : decode cX3_copyFrom 204 = .ok (.aload_n 1, 1) := by decide +kernel
theorem dX3_copyFrom_205 : decode cX3_copyFrom 205 = .ok (.getfield 59, 3) := by decide +kernel
theorem dX3_copyFrom_208 : decode cX3_copyFrom 208 = .ok (.putfield 59, 3) := by decide +kernel
theorem dX3_copyFrom_211 : decode cX3_copyFrom 211 = .ok (.aload_n 0, 1) := by decide +kernel
theorem dX3_copyFrom_212 : decode cX3_copyFrom 212 = .ok (.aload_n 1, 1) := by decide +kernel
theorem dX3_copyFrom_213 : decode cX3_copyFrom 213 = .ok (.getfield 62, 3) := by decide +kernel
theorem dX3_copyFrom_216 : decode cX3_copyFrom 216 = .ok (.putfield 62, 3) := by decide +kernel
theorem dX3_copyFrom_219 : decode cX3_copyFrom 219 = .ok (.aload_n 0, 1) := by decide +kernel
theorem dX3_copyFrom_220 : decode cX3_copyFrom 220 = .ok (.aload_n 1, 1) := by decide +kernel
theorem dX3_copyFrom_221 : decode cX3_copyFrom 221 = .ok (.getfield 65, 3) := by decide +kernel
theorem dX3_copyFrom_224 : decode cX3_copyFrom 224 = .ok (.putfield 65, 3) := by decide +kernel
theorem dX3_copyFrom_227 : decode cX3_copyFrom 227 = .ok (.return_, 1) := by decide +kernel
theorem dX3_has_0 : decode cX3_has 0 = .ok (.iload_n 1, 1) := by decide +kernel
theorem dX3_has_1 : decode cX3_has 1 = .ok (.ifCond .lt 22, 3) := by decide +kernel
theorem dX3_has_4 : decode cX3_has 4 = .ok (.iload_n 1, 1) := by decide +kernel
theorem dX3_has_5 : decode cX3_has 5 = .ok (.bipush 24, 2) := by decide +kernel
theorem dX3_has_7 : decode cX3_has 7 = .ok (.if_icmp .ge 16, 3) := by decide +kernel
theorem dX3_has_10 : decode cX3_has 10 = .ok (.aload_n 0, 1) := by decide +kernel
theorem dX3_has_11 : decode cX3_has 11 = .ok (.getfield 9, 3) := by decide +kernel
theorem dX3_has_14 : decode cX3_has 14 = .ok (.iload_n 1, 1) := by decide +kernel
theorem dX3_has_15 : decode cX3_has 15 = .ok (.baload, 1) := by decide +kernel
theorem dX3_has_16 : decode cX3_has 16 = .ok (.ifCond .eq 7, 3) := by decide +kernel
theorem dX3_has_19 : decode cX3_has 19 = .ok (.iconst 1, 1) := by decide +kernel
theorem dX3_has_20 : decode cX3_has 20 = .ok (.goto 4, 3) := by decide +kernel
theorem dX3_has_23 : decode cX3_has 23 = .ok (.iconst 0, 1) := by decide +kernel
theorem dX3_has_24 : decode cX3_has 24 = .ok (.ireturn, 1) := by decide +kernel
theorem dX3_isIn_0 : decode cX3_isIn 0 = .ok (.iload_n 1, 1) := by decide +kernel
theorem dX3_isIn_1 : decode cX3_isIn 1 = .ok (.ifCond .lt 32, 3) := by decide +kernel
theorem dX3_isIn_4 : decode cX3_isIn 4 = .ok (.iload_n 1, 1) := by decide +kernel
theorem dX3_isIn_5 : decode cX3_isIn 5 = .ok (.bipush 24, 2) := by decide +kernel
theorem dX3_isIn_7 : decode cX3_isIn 7 = .ok (.if_icmp .ge 26, 3) := by decide +kernel
theorem dX3_isIn_10 : decode cX3_isIn 10 = .ok (.aload_n 0, 1) := by decide +kernel
theorem dX3_isIn_11 : decode cX3_isIn 11 = .ok (.getfield 9, 3) := by decide +kernel
theorem dX3_isIn_14 : decode cX3_isIn 14 = .ok (.iload_n 1, 1) := by decide +kernel
theorem dX3_isIn_15 : decode cX3_isIn 15 = .ok (.baload, 1) := by decide +kernel
theorem dX3_isIn_16 : decode cX3_isIn 16 = .ok (.ifCond .eq 17, 3) := by decide +kernel
theorem dX3_isIn_19 : decode cX3_isIn 19 = .ok (.aload_n 0, 1) := by decide +kernel
theorem dX3_isIn_20 : decode cX3_isIn 20 = .ok (.getfield 15, 3) := by decide +kernel
theorem dX3_isIn_23 : decode cX3_isIn 23 = .ok (.iload_n 1, 1) := by decide +kernel
theorem dX3_isIn_24 : decode cX3_isIn 24 = .ok (.iaload, 1) := by decide +kernel
theorem dX3_isIn_25 : decode cX3_isIn 25 = .ok (.iload_n 2, 1) := by decide +kernel
theorem dX3_isIn_26 : decode cX3_isIn 26 = .ok (.if_icmp .ne 7, 3) := by decide +kernel
theorem dX3_isIn_29 : decode cX3_isIn 29 = .ok (.iconst 1, 1) := by decide +kernel
theorem dX3_isIn_30 : decode cX3_isIn 30 = .ok (.goto 4, 3) := by decide +kernel
theorem dX3_isIn_33 : decode cX3_isIn 33 = .ok (.iconst 0, 1) := by decide +kernel
theorem dX3_isIn_34 : decode cX3_isIn 34 = .ok (.ireturn, 1) := by decide +kernel
theorem dX3_isOpen_0 : decode cX3_isOpen 0 = .ok (.iload_n 1, 1) := by decide +kernel
theorem dX3_isOpen_1 : decode cX3_isOpen 1 = .ok (.invokestatic 68, 3) := by decide +kernel
theorem dX3_isOpen_4 : decode cX3_isOpen 4 = .ok (.ifCond .eq 16, 3) := by decide +kernel
theorem dX3_isOpen_7 : decode cX3_isOpen 7 = .ok (.aload_n 0, 1) := by decide +kernel
theorem dX3_isOpen_8 : decode cX3_isOpen 8 = .ok (.getfield 37, 3) := by decide +kernel
theorem dX3_isOpen_11 : decode cX3_isOpen 11 = .ok (.iload_n 1, 1) := by decide +kernel
theorem dX3_isOpen_12 : decode cX3_isOpen 12 = .ok (.baload, 1) := by decide +kernel
theorem dX3_isOpen_13 : decode cX3_isOpen 13 = .ok (.ifCond .eq 7, 3) := by decide +kernel
theorem dX3_isOpen_16 : decode cX3_isOpen 16 = .ok (.iconst 1, 1) := by decide +kernel
theorem dX3_isOpen_17 : decode cX3_isOpen 17 = .ok (.goto 4, 3) := by decide +kernel
theorem dX3_isOpen_20 : decode cX3_isOpen 20 = .ok (.iconst 0, 1) := by decide +kernel
theorem dX3_isOpen_21 : decode cX3_isOpen 21 = .ok (.ireturn, 1) := by decide +kernel
theorem dX3_hasRoom_0 : decode cX3_hasRoom 0 = .ok (.iload_n 1, 1) := by decide +kernel
theorem dX3_hasRoom_1 : decode cX3_hasRoom 1 = .ok (.invokestatic 68, 3) := by decide +kernel
theorem dX3_hasRoom_4 : decode cX3_hasRoom 4 = .ok (.ifCond .eq 20, 3) := by decide +kernel
theorem dX3_hasRoom_7 : decode cX3_hasRoom 7 = .ok (.iload_n 2, 1) := by decide +kernel
theorem dX3_hasRoom_8 : decode cX3_hasRoom 8 = .ok (.bipush 64, 2) := by decide +kernel
theorem dX3_hasRoom_10 : decode cX3_hasRoom 10 = .ok (.aload_n 0, 1) := by decide +kernel
theorem dX3_hasRoom_11 : decode cX3_hasRoom 11 = .ok (.getfield 40, 3) := by decide +kernel
theorem dX3_hasRoom_14 : decode cX3_hasRoom 14 = .ok (.iload_n 1, 1) := by decide +kernel
theorem dX3_hasRoom_15 : decode cX3_hasRoom 15 = .ok (.iaload, 1) := by decide +kernel
theorem dX3_hasRoom_16 : decode cX3_hasRoom 16 = .ok (.isub, 1) := by decide +kernel
theorem dX3_hasRoom_17 : decode cX3_hasRoom 17 = .ok (.if_icmp .gt 7, 3) := by decide +kernel
theorem dX3_hasRoom_20 : decode cX3_hasRoom 20 = .ok (.iconst 1, 1) := by decide +kernel
theorem dX3_hasRoom_21 : decode cX3_hasRoom 21 = .ok (.goto 4, 3) := by decide +kernel
theorem dX3_hasRoom_24 : decode cX3_hasRoom 24 = .ok (.iconst 0, 1) := by decide +kernel
theorem dX3_hasRoom_25 : decode cX3_hasRoom 25 = .ok (.ireturn, 1) := by decide +kernel
theorem dX3_reference_0 : decode cX3_reference 0 = .ok (.iload_n 1, 1) := by decide +kernel
theorem dX3_reference_1 : decode cX3_reference 1 = .ok (.ifCond .lt 18, 3) := by decide +kernel
theorem dX3_reference_4 : decode cX3_reference 4 = .ok (.iload_n 1, 1) := by decide +kernel
theorem dX3_reference_5 : decode cX3_reference 5 = .ok (.bipush 24, 2) := by decide +kernel
theorem dX3_reference_7 : decode cX3_reference 7 = .ok (.if_icmp .ge 12, 3) := by decide +kernel
theorem dX3_reference_10 : decode cX3_reference 10 = .ok (.iload_n 2, 1) := by decide +kernel
theorem dX3_reference_11 : decode cX3_reference 11 = .ok (.ifCond .lt 8, 3) := by decide +kernel
theorem dX3_reference_14 : decode cX3_reference 14 = .ok (.iload_n 2, 1) := by decide +kernel
theorem dX3_reference_15 : decode cX3_reference 15 = .ok (.iconst 2, 1) := by decide +kernel
theorem dX3_reference_16 : decode cX3_reference 16 = .ok (.if_icmp .lt 5, 3) := by decide +kernel
theorem dX3_reference_19 : decode cX3_reference 19 = .ok (.iconst (-1), 1) := by decide +kernel
theorem dX3_reference_20 : decode cX3_reference 20 = .ok (.ireturn, 1) := by decide +kernel
theorem dX3_reference_21 : decode cX3_reference 21 = .ok (.aload_n 0, 1) := by decide +kernel
theorem dX3_reference_22 : decode cX3_reference 22 = .ok (.getfield 25, 3) := by decide +kernel
theorem dX3_reference_25 : decode cX3_reference 25 = .ok (.iload_n 1, 1) := by decide +kernel
theorem dX3_reference_26 : decode cX3_reference 26 = .ok (.iconst 2, 1) := by decide +kernel
theorem dX3_reference_27 : decode cX3_reference 27 = .ok (.imul, 1) := by decide +kernel
theorem dX3_reference_28 : decode cX3_reference 28 = .ok (.iload_n 2, 1) := by decide +kernel
theorem dX3_reference_29 : decode cX3_reference 29 = .ok (.iadd, 1) := by decide +kernel
theorem dX3_reference_30 : decode cX3_reference 30 = .ok (.iaload, 1) := by decide +kernel
theorem dX3_reference_31 : decode cX3_reference 31 = .ok (.ireturn, 1) := by decide +kernel
theorem dX3_refer_0 : decode cX3_refer 0 = .ok (.iload_n 1, 1) := by decide +kernel
theorem dX3_refer_1 : decode cX3_refer 1 = .ok (.invokestatic 72, 3) := by decide +kernel
theorem dX3_refer_4 : decode cX3_refer 4 = .ok (.ifCond .eq 23, 3) := by decide +kernel
theorem dX3_refer_7 : decode cX3_refer 7 = .ok (.iload_n 2, 1) := by decide +kernel
theorem dX3_refer_8 : decode cX3_refer 8 = .ok (.ifCond .lt 19, 3) := by decide +kernel
theorem dX3_refer_11 : decode cX3_refer 11 = .ok (.iload_n 2, 1) := by decide +kernel
theorem dX3_refer_12 : decode cX3_refer 12 = .ok (.iconst 2, 1) := by decide +kernel
theorem dX3_refer_13 : decode cX3_refer 13 = .ok (.if_icmp .ge 14, 3) := by decide +kernel
theorem dX3_refer_16 : decode cX3_refer 16 = .ok (.aload_n 0, 1) := by decide +kernel
theorem dX3_refer_17 : decode cX3_refer 17 = .ok (.getfield 25, 3) := by decide +kernel
theorem dX3_refer_20 : decode cX3_refer 20 = .ok (.iload_n 1, 1) := by decide +kernel
theorem dX3_refer_21 : decode cX3_refer 21 = .ok (.iconst 2, 1) := by decide +kernel
theorem dX3_refer_22 : decode cX3_refer 22 = .ok (.imul, 1) := by decide +kernel
theorem dX3_refer_23 : decode cX3_refer 23 = .ok (.iload_n 2, 1) := by decide +kernel
theorem dX3_refer_24 : decode cX3_refer 24 = .ok (.iadd, 1) := by decide +kernel
theorem dX3_refer_25 : decode cX3_refer 25 = .ok (.iload_n 3, 1) := by decide +kernel
theorem dX3_refer_26 : decode cX3_refer 26 = .ok (.iastore, 1) := by decide +kernel
theorem dX3_refer_27 : decode cX3_refer 27 = .ok (.return_, 1) := by decide +kernel
theorem dX3_lowestFreeArena_0 : decode cX3_lowestFreeArena 0 = .ok (.iconst 0, 1) := by decide +kernel
theorem dX3_lowestFreeArena_1 : decode cX3_lowestFreeArena 1 = .ok (.istore_n 1, 1) := by decide +kernel
theorem dX3_lowestFreeArena_2 : decode cX3_lowestFreeArena 2 = .ok (.iload_n 1, 1) := by decide +kernel
theorem dX3_lowestFreeArena_3 : decode cX3_lowestFreeArena 3 = .ok (.bipush 6, 2) := by decide +kernel
theorem dX3_lowestFreeArena_5 : decode cX3_lowestFreeArena 5 = .ok (.if_icmp .ge 20, 3) := by decide +kernel
theorem dX3_lowestFreeArena_8 : decode cX3_lowestFreeArena 8 = .ok (.aload_n 0, 1) := by decide +kernel
theorem dX3_lowestFreeArena_9 : decode cX3_lowestFreeArena 9 = .ok (.getfield 37, 3) := by decide +kernel
theorem dX3_lowestFreeArena_12 : decode cX3_lowestFreeArena 12 = .ok (.iload_n 1, 1) := by decide +kernel
theorem dX3_lowestFreeArena_13 : decode cX3_lowestFreeArena 13 = .ok (.baload, 1) := by decide +kernel
theorem dX3_lowestFreeArena_14 : decode cX3_lowestFreeArena 14 = .ok (.ifCond .ne 5, 3) := by decide +kernel
theorem dX3_lowestFreeArena_17 : decode cX3_lowestFreeArena 17 = .ok (.iload_n 1, 1) := by decide +kernel
theorem dX3_lowestFreeArena_18 : decode cX3_lowestFreeArena 18 = .ok (.ireturn, 1) := by decide +kernel
theorem dX3_lowestFreeArena_19 : decode cX3_lowestFreeArena 19 = .ok (.iinc 1 1, 3) := by decide +kernel
theorem dX3_lowestFreeArena_22 : decode cX3_lowestFreeArena 22 = .ok (.goto (-20), 3) := by decide +kernel
theorem dX3_lowestFreeArena_25 : decode cX3_lowestFreeArena 25 = .ok (.iconst (-1), 1) := by decide +kernel
theorem dX3_lowestFreeArena_26 : decode cX3_lowestFreeArena 26 = .ok (.ireturn, 1) := by decide +kernel
theorem dX3_lowestFreeNumber_0 : decode cX3_lowestFreeNumber 0 = .ok (.iconst 0, 1) := by decide +kernel
theorem dX3_lowestFreeNumber_1 : decode cX3_lowestFreeNumber 1 = .ok (.istore_n 1, 1) := by decide +kernel
theorem dX3_lowestFreeNumber_2 : decode cX3_lowestFreeNumber 2 = .ok (.iload_n 1, 1) := by decide +kernel
theorem dX3_lowestFreeNumber_3 : decode cX3_lowestFreeNumber 3 = .ok (.bipush 24, 2) := by decide +kernel
theorem dX3_lowestFreeNumber_5 : decode cX3_lowestFreeNumber 5 = .ok (.if_icmp .ge 20, 3) := by decide +kernel
theorem dX3_lowestFreeNumber_8 : decode cX3_lowestFreeNumber 8 = .ok (.aload_n 0, 1) := by decide +kernel
theorem dX3_lowestFreeNumber_9 : decode cX3_lowestFreeNumber 9 = .ok (.getfield 9, 3) := by decide +kernel
theorem dX3_lowestFreeNumber_12 : decode cX3_lowestFreeNumber 12 = .ok (.iload_n 1, 1) := by decide +kernel
theorem dX3_lowestFreeNumber_13 : decode cX3_lowestFreeNumber 13 = .ok (.baload, 1) := by decide +kernel
theorem dX3_lowestFreeNumber_14 : decode cX3_lowestFreeNumber 14 = .ok (.ifCond .ne 5, 3) := by decide +kernel
theorem dX3_lowestFreeNumber_17 : decode cX3_lowestFreeNumber 17 = .ok (.iload_n 1, 1) := by decide +kernel
theorem dX3_lowestFreeNumber_18 : decode cX3_lowestFreeNumber 18 = .ok (.ireturn, 1) := by decide +kernel
theorem dX3_lowestFreeNumber_19 : decode cX3_lowestFreeNumber 19 = .ok (.iinc 1 1, 3) := by decide +kernel
theorem dX3_lowestFreeNumber_22 : decode cX3_lowestFreeNumber 22 = .ok (.goto (-20), 3) := by decide +kernel
theorem dX3_lowestFreeNumber_25 : decode cX3_lowestFreeNumber 25 = .ok (.iconst (-1), 1) := by decide +kernel
theorem dX3_lowestFreeNumber_26 : decode cX3_lowestFreeNumber 26 = .ok (.ireturn, 1) := by decide +kernel
theorem dX3_handOut_0 : decode cX3_handOut 0 = .ok (.iload_n 1, 1) := by decide +kernel
theorem dX3_handOut_1 : decode cX3_handOut 1 = .ok (.invokestatic 68, 3) := by decide +kernel
theorem dX3_handOut_4 : decode cX3_handOut 4 = .ok (.ifCond .eq 20, 3) := by decide +kernel
theorem dX3_handOut_7 : decode cX3_handOut 7 = .ok (.aload_n 0, 1) := by decide +kernel
theorem dX3_handOut_8 : decode cX3_handOut 8 = .ok (.getfield 37, 3) := by decide +kernel
theorem dX3_handOut_11 : decode cX3_handOut 11 = .ok (.iload_n 1, 1) := by decide +kernel
theorem dX3_handOut_12 : decode cX3_handOut 12 = .ok (.iconst 1, 1) := by decide +kernel
theorem dX3_handOut_13 : decode cX3_handOut 13 = .ok (.bastore, 1) := by decide +kernel
theorem dX3_handOut_14 : decode cX3_handOut 14 = .ok (.aload_n 0, 1) := by decide +kernel
theorem dX3_handOut_15 : decode cX3_handOut 15 = .ok (.getfield 43, 3) := by decide +kernel
theorem dX3_handOut_18 : decode cX3_handOut 18 = .ok (.iload_n 1, 1) := by decide +kernel
theorem dX3_handOut_19 : decode cX3_handOut 19 = .ok (.dup2, 1) := by decide +kernel
theorem dX3_handOut_20 : decode cX3_handOut 20 = .ok (.iaload, 1) := by decide +kernel
theorem dX3_handOut_21 : decode cX3_handOut 21 = .ok (.iconst 1, 1) := by decide +kernel
theorem dX3_handOut_22 : decode cX3_handOut 22 = .ok (.iadd, 1) := by decide +kernel
theorem dX3_handOut_23 : decode cX3_handOut 23 = .ok (.iastore, 1) := by decide +kernel
theorem dX3_handOut_24 : decode cX3_handOut 24 = .ok (.return_, 1) := by decide +kernel
theorem dX3_add_0 : decode cX3_add 0 = .ok (.iload_n 1, 1) := by decide +kernel
theorem dX3_add_1 : decode cX3_add 1 = .ok (.invokestatic 72, 3) := by decide +kernel
theorem dX3_add_4 : decode cX3_add 4 = .ok (.ifCond .eq 10, 3) := by decide +kernel
theorem dX3_add_7 : decode cX3_add 7 = .ok (.iload_n 2, 1) := by decide +kernel
theorem dX3_add_8 : decode cX3_add 8 = .ok (.invokestatic 68, 3) := by decide +kernel
theorem dX3_add_11 : decode cX3_add 11 = .ok (.ifCond .ne 4, 3) := by decide +kernel
theorem dX3_add_14 : decode cX3_add 14 = .ok (.return_, 1) := by decide +kernel
theorem dX3_add_15 : decode cX3_add 15 = .ok (.aload_n 0, 1) := by decide +kernel
theorem dX3_add_16 : decode cX3_add 16 = .ok (.getfield 9, 3) := by decide +kernel
theorem dX3_add_19 : decode cX3_add 19 = .ok (.iload_n 1, 1) := by decide +kernel
theorem dX3_add_20 : decode cX3_add 20 = .ok (.iconst 1, 1) := by decide +kernel
theorem dX3_add_21 : decode cX3_add 21 = .ok (.bastore, 1) := by decide +kernel
theorem dX3_add_22 : decode cX3_add 22 = .ok (.aload_n 0, 1) := by decide +kernel
theorem dX3_add_23 : decode cX3_add 23 = .ok (.getfield 15, 3) := by decide +kernel
theorem dX3_add_26 : decode cX3_add 26 = .ok (.iload_n 1, 1) := by decide +kernel
theorem dX3_add_27 : decode cX3_add 27 = .ok (.iload_n 2, 1) := by decide +kernel
theorem dX3_add_28 : decode cX3_add 28 = .ok (.iastore, 1) := by decide +kernel
theorem dX3_add_29 : decode cX3_add 29 = .ok (.aload_n 0, 1) := by decide +kernel
theorem dX3_add_30 : decode cX3_add 30 = .ok (.getfield 19, 3) := by decide +kernel
theorem dX3_add_33 : decode cX3_add 33 = .ok (.iload_n 1, 1) := by decide +kernel
theorem dX3_add_34 : decode cX3_add 34 = .ok (.aload_n 0, 1) := by decide +kernel
theorem dX3_add_35 : decode cX3_add 35 = .ok (.getfield 40, 3) := by decide +kernel
theorem dX3_add_38 : decode cX3_add 38 = .ok (.iload_n 2, 1) := by decide +kernel
theorem dX3_add_39 : decode cX3_add 39 = .ok (.iaload, 1) := by decide +kernel
theorem dX3_add_40 : decode cX3_add 40 = .ok (.iastore, 1) := by decide +kernel
theorem dX3_add_41 : decode cX3_add 41 = .ok (.aload_n 0, 1) := by decide +kernel
theorem dX3_add_42 : decode cX3_add 42 = .ok (.getfield 22, 3) := by decide +kernel
theorem dX3_add_45 : decode cX3_add 45 = .ok (.iload_n 1, 1) := by decide +kernel
theorem dX3_add_46 : decode cX3_add 46 = .ok (.iload_n 3, 1) := by decide +kernel
theorem dX3_add_47 : decode cX3_add 47 = .ok (.iastore, 1) := by decide +kernel
theorem dX3_add_48 : decode cX3_add 48 = .ok (.aload_n 0, 1) := by decide +kernel
theorem dX3_add_49 : decode cX3_add 49 = .ok (.getfield 40, 3) := by decide +kernel
theorem dX3_add_52 : decode cX3_add 52 = .ok (.iload_n 2, 1) := by decide +kernel
theorem dX3_add_53 : decode cX3_add 53 = .ok (.dup2, 1) := by decide +kernel
theorem dX3_add_54 : decode cX3_add 54 = .ok (.iaload, 1) := by decide +kernel
theorem dX3_add_55 : decode cX3_add 55 = .ok (.iload_n 3, 1) := by decide +kernel
theorem dX3_add_56 : decode cX3_add 56 = .ok (.iadd, 1) := by decide +kernel
theorem dX3_add_57 : decode cX3_add 57 = .ok (.iastore, 1) := by decide +kernel
theorem dX3_add_58 : decode cX3_add 58 = .ok (.aload_n 0, 1) := by decide +kernel
theorem dX3_add_59 : decode cX3_add 59 = .ok (.dup, 1) := by decide +kernel
theorem dX3_add_60 : decode cX3_add 60 = .ok (.getfield 55, 3) := by decide +kernel
theorem dX3_add_63 : decode cX3_add 63 = .ok (.iconst 1, 1) := by decide +kernel
theorem dX3_add_64 : decode cX3_add 64 = .ok (.iadd, 1) := by decide +kernel
theorem dX3_add_65 : decode cX3_add 65 = .ok (.putfield 55, 3) := by decide +kernel
theorem dX3_add_68 : decode cX3_add 68 = .ok (.return_, 1) := by decide +kernel
theorem dX3_layAnew_0 : decode cX3_layAnew 0 = .ok (.iload_n 1, 1) := by decide +kernel
theorem dX3_layAnew_1 : decode cX3_layAnew 1 = .ok (.invokestatic 72, 3) := by decide +kernel
theorem dX3_layAnew_4 : decode cX3_layAnew 4 = .ok (.ifCond .eq 10, 3) := by decide +kernel
theorem dX3_layAnew_7 : decode cX3_layAnew 7 = .ok (.iload_n 2, 1) := by decide +kernel
theorem dX3_layAnew_8 : decode cX3_layAnew 8 = .ok (.invokestatic 68, 3) := by decide +kernel
theorem dX3_layAnew_11 : decode cX3_layAnew 11 = .ok (.ifCond .ne 4, 3) := by decide +kernel
theorem dX3_layAnew_14 : decode cX3_layAnew 14 = .ok (.return_, 1) := by decide +kernel
theorem dX3_layAnew_15 : decode cX3_layAnew 15 = .ok (.aload_n 0, 1) := by decide +kernel
theorem dX3_layAnew_16 : decode cX3_layAnew 16 = .ok (.getfield 15, 3) := by decide +kernel
theorem dX3_layAnew_19 : decode cX3_layAnew 19 = .ok (.iload_n 1, 1) := by decide +kernel
theorem dX3_layAnew_20 : decode cX3_layAnew 20 = .ok (.iload_n 2, 1) := by decide +kernel
theorem dX3_layAnew_21 : decode cX3_layAnew 21 = .ok (.iastore, 1) := by decide +kernel
theorem dX3_layAnew_22 : decode cX3_layAnew 22 = .ok (.aload_n 0, 1) := by decide +kernel
theorem dX3_layAnew_23 : decode cX3_layAnew 23 = .ok (.getfield 19, 3) := by decide +kernel
theorem dX3_layAnew_26 : decode cX3_layAnew 26 = .ok (.iload_n 1, 1) := by decide +kernel
theorem dX3_layAnew_27 : decode cX3_layAnew 27 = .ok (.iload_n 3, 1) := by decide +kernel
theorem dX3_layAnew_28 : decode cX3_layAnew 28 = .ok (.iastore, 1) := by decide +kernel
theorem dX3_layAnew_29 : decode cX3_layAnew 29 = .ok (.aload_n 0, 1) := by decide +kernel
theorem dX3_layAnew_30 : decode cX3_layAnew 30 = .ok (.getfield 34, 3) := by decide +kernel
theorem dX3_layAnew_33 : decode cX3_layAnew 33 = .ok (.iload_n 1, 1) := by decide +kernel
theorem dX3_layAnew_34 : decode cX3_layAnew 34 = .ok (.dup2, 1) := by decide +kernel
theorem dX3_layAnew_35 : decode cX3_layAnew 35 = .ok (.iaload, 1) := by decide +kernel
theorem dX3_layAnew_36 : decode cX3_layAnew 36 = .ok (.iconst 1, 1) := by decide +kernel
theorem dX3_layAnew_37 : decode cX3_layAnew 37 = .ok (.iadd, 1) := by decide +kernel
theorem dX3_layAnew_38 : decode cX3_layAnew 38 = .ok (.iastore, 1) := by decide +kernel
theorem dX3_layAnew_39 : decode cX3_layAnew 39 = .ok (.aload_n 0, 1) := by decide +kernel
theorem dX3_layAnew_40 : decode cX3_layAnew 40 = .ok (.getfield 40, 3) := by decide +kernel
theorem dX3_layAnew_43 : decode cX3_layAnew 43 = .ok (.iload_n 2, 1) := by decide +kernel
theorem dX3_layAnew_44 : decode cX3_layAnew 44 = .ok (.dup2, 1) := by decide +kernel
theorem dX3_layAnew_45 : decode cX3_layAnew 45 = .ok (.iaload, 1) := by decide +kernel
theorem dX3_layAnew_46 : decode cX3_layAnew 46 = .ok (.aload_n 0, 1) := by decide +kernel
theorem dX3_layAnew_47 : decode cX3_layAnew 47 = .ok (.getfield 22, 3) := by decide +kernel
theorem dX3_layAnew_50 : decode cX3_layAnew 50 = .ok (.iload_n 1, 1) := by decide +kernel
theorem dX3_layAnew_51 : decode cX3_layAnew 51 = .ok (.iaload, 1) := by decide +kernel
theorem dX3_layAnew_52 : decode cX3_layAnew 52 = .ok (.iadd, 1) := by decide +kernel
theorem dX3_layAnew_53 : decode cX3_layAnew 53 = .ok (.iastore, 1) := by decide +kernel
theorem dX3_layAnew_54 : decode cX3_layAnew 54 = .ok (.aload_n 0, 1) := by decide +kernel
theorem dX3_layAnew_55 : decode cX3_layAnew 55 = .ok (.dup, 1) := by decide +kernel
theorem dX3_layAnew_56 : decode cX3_layAnew 56 = .ok (.getfield 59, 3) := by decide +kernel
theorem dX3_layAnew_59 : decode cX3_layAnew 59 = .ok (.iconst 1, 1) := by decide +kernel
theorem dX3_layAnew_60 : decode cX3_layAnew 60 = .ok (.iadd, 1) := by decide +kernel
theorem dX3_layAnew_61 : decode cX3_layAnew 61 = .ok (.putfield 59, 3) := by decide +kernel
theorem dX3_layAnew_64 : decode cX3_layAnew 64 = .ok (.return_, 1) := by decide +kernel
theorem dX3_free_0 : decode cX3_free 0 = .ok (.iconst 0, 1) := by decide +kernel
theorem dX3_free_1 : decode cX3_free 1 = .ok (.istore_n 2, 1) := by decide +kernel
theorem dX3_free_2 : decode cX3_free 2 = .ok (.iconst 0, 1) := by decide +kernel
theorem dX3_free_3 : decode cX3_free 3 = .ok (.istore_n 3, 1) := by decide +kernel
theorem dX3_free_4 : decode cX3_free 4 = .ok (.iload_n 3, 1) := by decide +kernel
theorem dX3_free_5 : decode cX3_free 5 = .ok (.bipush 24, 2) := by decide +kernel
theorem dX3_free_7 : decode cX3_free 7 = .ok (.if_icmp .ge 26, 3) := by decide +kernel
theorem dX3_free_10 : decode cX3_free 10 = .ok (.aload_n 0, 1) := by decide +kernel
theorem dX3_free_11 : decode cX3_free 11 = .ok (.iload_n 3, 1) := by decide +kernel
theorem dX3_free_12 : decode cX3_free 12 = .ok (.iload_n 1, 1) := by decide +kernel
theorem dX3_free_13 : decode cX3_free 13 = .ok (.invokevirtual 75, 3) := by decide +kernel
theorem dX3_free_16 : decode cX3_free 16 = .ok (.ifCond .eq 11, 3) := by decide +kernel
theorem dX3_free_19 : decode cX3_free 19 = .ok (.aload_n 0, 1) := by decide +kernel
theorem dX3_free_20 : decode cX3_free 20 = .ok (.iload_n 3, 1) := by decide +kernel
theorem dX3_free_21 : decode cX3_free 21 = .ok (.invokevirtual 79, 3) := by decide +kernel
theorem dX3_free_24 : decode cX3_free 24 = .ok (.iinc 2 1, 3) := by decide +kernel
theorem dX3_free_27 : decode cX3_free 27 = .ok (.iinc 3 1, 3) := by decide +kernel
theorem dX3_free_30 : decode cX3_free 30 = .ok (.goto (-26), 3) := by decide +kernel
theorem dX3_free_33 : decode cX3_free 33 = .ok (.iload_n 1, 1) := by decide +kernel
theorem dX3_free_34 : decode cX3_free 34 = .ok (.invokestatic 68, 3) := by decide +kernel
theorem dX3_free_37 : decode cX3_free 37 = .ok (.ifCond .eq 17, 3) := by decide +kernel
theorem dX3_free_40 : decode cX3_free 40 = .ok (.aload_n 0, 1) := by decide +kernel
theorem dX3_free_41 : decode cX3_free 41 = .ok (.getfield 37, 3) := by decide +kernel
theorem dX3_free_44 : decode cX3_free 44 = .ok (.iload_n 1, 1) := by decide +kernel
theorem dX3_free_45 : decode cX3_free 45 = .ok (.iconst 0, 1) := by decide +kernel
theorem dX3_free_46 : decode cX3_free 46 = .ok (.bastore, 1) := by decide +kernel
theorem dX3_free_47 : decode cX3_free 47 = .ok (.aload_n 0, 1) := by decide +kernel
theorem dX3_free_48 : decode cX3_free 48 = .ok (.getfield 40, 3) := by decide +kernel
theorem dX3_free_51 : decode cX3_free 51 = .ok (.iload_n 1, 1) := by decide +kernel
theorem dX3_free_52 : decode cX3_free 52 = .ok (.iconst 0, 1) := by decide +kernel
theorem dX3_free_53 : decode cX3_free 53 = .ok (.iastore, 1) := by decide +kernel
theorem dX3_free_54 : decode cX3_free 54 = .ok (.aload_n 0, 1) := by decide +kernel
theorem dX3_free_55 : decode cX3_free 55 = .ok (.dup, 1) := by decide +kernel
theorem dX3_free_56 : decode cX3_free 56 = .ok (.getfield 62, 3) := by decide +kernel
theorem dX3_free_59 : decode cX3_free 59 = .ok (.iload_n 2, 1) := by decide +kernel
theorem dX3_free_60 : decode cX3_free 60 = .ok (.iadd, 1) := by decide +kernel
theorem dX3_free_61 : decode cX3_free 61 = .ok (.putfield 62, 3) := by decide +kernel
theorem dX3_free_64 : decode cX3_free 64 = .ok (.aload_n 0, 1) := by decide +kernel
theorem dX3_free_65 : decode cX3_free 65 = .ok (.dup, 1) := by decide +kernel
theorem dX3_free_66 : decode cX3_free 66 = .ok (.getfield 65, 3) := by decide +kernel
theorem dX3_free_69 : decode cX3_free 69 = .ok (.iconst 1, 1) := by decide +kernel
theorem dX3_free_70 : decode cX3_free 70 = .ok (.iadd, 1) := by decide +kernel
theorem dX3_free_71 : decode cX3_free 71 = .ok (.putfield 65, 3) := by decide +kernel
theorem dX3_free_74 : decode cX3_free 74 = .ok (.iload_n 2, 1) := by decide +kernel
theorem dX3_free_75 : decode cX3_free 75 = .ok (.ireturn, 1) := by decide +kernel
theorem dX3_drop_0 : decode cX3_drop 0 = .ok (.iload_n 1, 1) := by decide +kernel
theorem dX3_drop_1 : decode cX3_drop 1 = .ok (.invokestatic 72, 3) := by decide +kernel
theorem dX3_drop_4 : decode cX3_drop 4 = .ok (.ifCond .ne 4, 3) := by decide +kernel
theorem dX3_drop_7 : decode cX3_drop 7 = .ok (.return_, 1) := by decide +kernel
theorem dX3_drop_8 : decode cX3_drop 8 = .ok (.aload_n 0, 1) := by decide +kernel
theorem dX3_drop_9 : decode cX3_drop 9 = .ok (.getfield 9, 3) := by decide +kernel
theorem dX3_drop_12 : decode cX3_drop 12 = .ok (.iload_n 1, 1) := by decide +kernel
theorem dX3_drop_13 : decode cX3_drop 13 = .ok (.iconst 0, 1) := by decide +kernel
theorem dX3_drop_14 : decode cX3_drop 14 = .ok (.bastore, 1) := by decide +kernel
theorem dX3_drop_15 : decode cX3_drop 15 = .ok (.aload_n 0, 1) := by decide +kernel
theorem dX3_drop_16 : decode cX3_drop 16 = .ok (.getfield 28, 3) := by decide +kernel
theorem dX3_drop_19 : decode cX3_drop 19 = .ok (.iload_n 1, 1) := by decide +kernel
theorem dX3_drop_20 : decode cX3_drop 20 = .ok (.iconst 0, 1) := by decide +kernel
theorem dX3_drop_21 : decode cX3_drop 21 = .ok (.bastore, 1) := by decide +kernel
theorem dX3_drop_22 : decode cX3_drop 22 = .ok (.aload_n 0, 1) := by decide +kernel
theorem dX3_drop_23 : decode cX3_drop 23 = .ok (.getfield 31, 3) := by decide +kernel
theorem dX3_drop_26 : decode cX3_drop 26 = .ok (.iload_n 1, 1) := by decide +kernel
theorem dX3_drop_27 : decode cX3_drop 27 = .ok (.iconst 0, 1) := by decide +kernel
theorem dX3_drop_28 : decode cX3_drop 28 = .ok (.bastore, 1) := by decide +kernel
theorem dX3_drop_29 : decode cX3_drop 29 = .ok (.aload_n 0, 1) := by decide +kernel
theorem dX3_drop_30 : decode cX3_drop 30 = .ok (.getfield 34, 3) := by decide +kernel
theorem dX3_drop_33 : decode cX3_drop 33 = .ok (.iload_n 1, 1) := by decide +kernel
theorem dX3_drop_34 : decode cX3_drop 34 = .ok (.iconst 0, 1) := by decide +kernel
theorem dX3_drop_35 : decode cX3_drop 35 = .ok (.iastore, 1) := by decide +kernel
theorem dX3_drop_36 : decode cX3_drop 36 = .ok (.iconst 0, 1) := by decide +kernel
theorem dX3_drop_37 : decode cX3_drop 37 = .ok (.istore_n 2, 1) := by decide +kernel
theorem dX3_drop_38 : decode cX3_drop 38 = .ok (.iload_n 2, 1) := by decide +kernel
theorem dX3_drop_39 : decode cX3_drop 39 = .ok (.bipush 24, 2) := by decide +kernel
theorem dX3_drop_41 : decode cX3_drop 41 = .ok (.if_icmp .ge 44, 3) := by decide +kernel
theorem dX3_drop_44 : decode cX3_drop 44 = .ok (.iconst 0, 1) := by decide +kernel
theorem dX3_drop_45 : decode cX3_drop 45 = .ok (.istore_n 3, 1) := by decide +kernel
theorem dX3_drop_46 : decode cX3_drop 46 = .ok (.iload_n 3, 1) := by decide +kernel
theorem dX3_drop_47 : decode cX3_drop 47 = .ok (.iconst 2, 1) := by decide +kernel
theorem dX3_drop_48 : decode cX3_drop 48 = .ok (.if_icmp .ge 31, 3) := by decide +kernel
theorem dX3_drop_51 : decode cX3_drop 51 = .ok (.iload_n 2, 1) := by decide +kernel
theorem dX3_drop_52 : decode cX3_drop 52 = .ok (.iload_n 1, 1) := by decide +kernel
theorem dX3_drop_53 : decode cX3_drop 53 = .ok (.if_icmp .eq 13, 3) := by decide +kernel
theorem dX3_drop_56 : decode cX3_drop 56 = .ok (.aload_n 0, 1) := by decide +kernel
theorem dX3_drop_57 : decode cX3_drop 57 = .ok (.iload_n 2, 1) := by decide +kernel
theorem dX3_drop_58 : decode cX3_drop 58 = .ok (.iload_n 3, 1) := by decide +kernel
theorem dX3_drop_59 : decode cX3_drop 59 = .ok (.invokevirtual 83, 3) := by decide +kernel
theorem dX3_drop_62 : decode cX3_drop 62 = .ok (.iload_n 1, 1) := by decide +kernel
theorem dX3_drop_63 : decode cX3_drop 63 = .ok (.if_icmp .ne 10, 3) := by decide +kernel
theorem dX3_drop_66 : decode cX3_drop 66 = .ok (.aload_n 0, 1) := by decide +kernel
theorem dX3_drop_67 : decode cX3_drop 67 = .ok (.iload_n 2, 1) := by decide +kernel
theorem dX3_drop_68 : decode cX3_drop 68 = .ok (.iload_n 3, 1) := by decide +kernel
theorem dX3_drop_69 : decode cX3_drop 69 = .ok (.iconst (-1), 1) := by decide +kernel
theorem dX3_drop_70 : decode cX3_drop 70 = .ok (.invokevirtual 87, 3) := by decide +kernel
theorem dX3_drop_73 : decode cX3_drop 73 = .ok (.iinc 3 1, 3) := by decide +kernel
theorem dX3_drop_76 : decode cX3_drop 76 = .ok (.goto (-30), 3) := by decide +kernel
theorem dX3_drop_79 : decode cX3_drop 79 = .ok (.iinc 2 1, 3) := by decide +kernel
theorem dX3_drop_82 : decode cX3_drop 82 = .ok (.goto (-44), 3) := by decide +kernel
theorem dX3_drop_85 : decode cX3_drop 85 = .ok (.return_, 1) := by decide +kernel
theorem dX3_objectAt_0 : decode cX3_objectAt 0 = .ok (.iconst 0, 1) := by decide +kernel
theorem dX3_objectAt_1 : decode cX3_objectAt 1 = .ok (.istore_n 3, 1) := by decide +kernel
theorem dX3_objectAt_2 : decode cX3_objectAt 2 = .ok (.iload_n 3, 1) := by decide +kernel
theorem dX3_objectAt_3 : decode cX3_objectAt 3 = .ok (.bipush 24, 2) := by decide +kernel
theorem dX3_objectAt_5 : decode cX3_objectAt 5 = .ok (.if_icmp .ge 47, 3) := by decide +kernel
theorem dX3_objectAt_8 : decode cX3_objectAt 8 = .ok (.aload_n 0, 1) := by decide +kernel
theorem dX3_objectAt_9 : decode cX3_objectAt 9 = .ok (.iload_n 3, 1) := by decide +kernel
theorem dX3_objectAt_10 : decode cX3_objectAt 10 = .ok (.iload_n 1, 1) := by decide +kernel
theorem dX3_objectAt_11 : decode cX3_objectAt 11 = .ok (.invokevirtual 75, 3) := by decide +kernel
theorem dX3_objectAt_14 : decode cX3_objectAt 14 = .ok (.ifCond .eq 32, 3) := by decide +kernel
theorem dX3_objectAt_17 : decode cX3_objectAt 17 = .ok (.iload_n 2, 1) := by decide +kernel
theorem dX3_objectAt_18 : decode cX3_objectAt 18 = .ok (.aload_n 0, 1) := by decide +kernel
theorem dX3_objectAt_19 : decode cX3_objectAt 19 = .ok (.getfield 19, 3) := by decide +kernel
theorem dX3_objectAt_22 : decode cX3_objectAt 22 = .ok (.iload_n 3, 1) := by decide +kernel
theorem dX3_objectAt_23 : decode cX3_objectAt 23 = .ok (.iaload, 1) := by decide +kernel
theorem dX3_objectAt_24 : decode cX3_objectAt 24 = .ok (.if_icmp .lt 22, 3) := by decide +kernel
theorem dX3_objectAt_27 : decode cX3_objectAt 27 = .ok (.iload_n 2, 1) := by decide +kernel
theorem dX3_objectAt_28 : decode cX3_objectAt 28 = .ok (.aload_n 0, 1) := by decide +kernel
theorem dX3_objectAt_29 : decode cX3_objectAt 29 = .ok (.getfield 19, 3) := by decide +kernel
theorem dX3_objectAt_32 : decode cX3_objectAt 32 = .ok (.iload_n 3, 1) := by decide +kernel
theorem dX3_objectAt_33 : decode cX3_objectAt 33 = .ok (.iaload, 1) := by decide +kernel
theorem dX3_objectAt_34 : decode cX3_objectAt 34 = .ok (.aload_n 0, 1) := by decide +kernel
theorem dX3_objectAt_35 : decode cX3_objectAt 35 = .ok (.getfield 22, 3) := by decide +kernel
theorem dX3_objectAt_38 : decode cX3_objectAt 38 = .ok (.iload_n 3, 1) := by decide +kernel
theorem dX3_objectAt_39 : decode cX3_objectAt 39 = .ok (.iaload, 1) := by decide +kernel
theorem dX3_objectAt_40 : decode cX3_objectAt 40 = .ok (.iadd, 1) := by decide +kernel
theorem dX3_objectAt_41 : decode cX3_objectAt 41 = .ok (.if_icmp .ge 5, 3) := by decide +kernel
theorem dX3_objectAt_44 : decode cX3_objectAt 44 = .ok (.iload_n 3, 1) := by decide +kernel
theorem dX3_objectAt_45 : decode cX3_objectAt 45 = .ok (.ireturn, 1) := by decide +kernel
theorem dX3_objectAt_46 : decode cX3_objectAt 46 = .ok (.iinc 3 1, 3) := by decide +kernel
theorem dX3_objectAt_49 : decode cX3_objectAt 49 = .ok (.goto (-47), 3) := by decide +kernel
theorem dX3_objectAt_52 : decode cX3_objectAt 52 = .ok (.iconst (-1), 1) := by decide +kernel
theorem dX3_objectAt_53 : decode cX3_objectAt 53 = .ok (.ireturn, 1) := by decide +kernel
theorem dX3_objects_0 : decode cX3_objects 0 = .ok (.iconst 0, 1) := by decide +kernel
theorem dX3_objects_1 : decode cX3_objects 1 = .ok (.istore_n 1, 1) := by decide +kernel
theorem dX3_objects_2 : decode cX3_objects 2 = .ok (.iconst 0, 1) := by decide +kernel
theorem dX3_objects_3 : decode cX3_objects 3 = .ok (.istore_n 2, 1) := by decide +kernel
theorem dX3_objects_4 : decode cX3_objects 4 = .ok (.iload_n 2, 1) := by decide +kernel
theorem dX3_objects_5 : decode cX3_objects 5 = .ok (.bipush 24, 2) := by decide +kernel
theorem dX3_objects_7 : decode cX3_objects 7 = .ok (.if_icmp .ge 21, 3) := by decide +kernel
theorem dX3_objects_10 : decode cX3_objects 10 = .ok (.iload_n 1, 1) := by decide +kernel
theorem dX3_objects_11 : decode cX3_objects 11 = .ok (.aload_n 0, 1) := by decide +kernel
theorem dX3_objects_12 : decode cX3_objects 12 = .ok (.getfield 9, 3) := by decide +kernel
theorem dX3_objects_15 : decode cX3_objects 15 = .ok (.iload_n 2, 1) := by decide +kernel
theorem dX3_objects_16 : decode cX3_objects 16 = .ok (.baload, 1) := by decide +kernel
theorem dX3_objects_17 : decode cX3_objects 17 = .ok (.invokestatic 91, 3) := by decide +kernel
theorem dX3_objects_20 : decode cX3_objects 20 = .ok (.iadd, 1) := by decide +kernel
theorem dX3_objects_21 : decode cX3_objects 21 = .ok (.istore_n 1, 1) := by decide +kernel
theorem dX3_objects_22 : decode cX3_objects 22 = .ok (.iinc 2 1, 3) := by decide +kernel
theorem dX3_objects_25 : decode cX3_objects 25 = .ok (.goto (-21), 3) := by decide +kernel
theorem dX3_objects_28 : decode cX3_objects 28 = .ok (.iload_n 1, 1) := by decide +kernel
theorem dX3_objects_29 : decode cX3_objects 29 = .ok (.ireturn, 1) := by decide +kernel
theorem dX3_objectsIn_0 : decode cX3_objectsIn 0 = .ok (.iconst 0, 1) := by decide +kernel
theorem dX3_objectsIn_1 : decode cX3_objectsIn 1 = .ok (.istore_n 2, 1) := by decide +kernel
theorem dX3_objectsIn_2 : decode cX3_objectsIn 2 = .ok (.iconst 0, 1) := by decide +kernel
theorem dX3_objectsIn_3 : decode cX3_objectsIn 3 = .ok (.istore_n 3, 1) := by decide +kernel
theorem dX3_objectsIn_4 : decode cX3_objectsIn 4 = .ok (.iload_n 3, 1) := by decide +kernel
theorem dX3_objectsIn_5 : decode cX3_objectsIn 5 = .ok (.bipush 24, 2) := by decide +kernel
theorem dX3_objectsIn_7 : decode cX3_objectsIn 7 = .ok (.if_icmp .ge 21, 3) := by decide +kernel
theorem dX3_objectsIn_10 : decode cX3_objectsIn 10 = .ok (.iload_n 2, 1) := by decide +kernel
theorem dX3_objectsIn_11 : decode cX3_objectsIn 11 = .ok (.aload_n 0, 1) := by decide +kernel
theorem dX3_objectsIn_12 : decode cX3_objectsIn 12 = .ok (.iload_n 3, 1) := by decide +kernel
theorem dX3_objectsIn_13 : decode cX3_objectsIn 13 = .ok (.iload_n 1, 1) := by decide +kernel
theorem dX3_objectsIn_14 : decode cX3_objectsIn 14 = .ok (.invokevirtual 75, 3) := by decide +kernel
theorem dX3_objectsIn_17 : decode cX3_objectsIn 17 = .ok (.invokestatic 91, 3) := by decide +kernel
theorem dX3_objectsIn_20 : decode cX3_objectsIn 20 = .ok (.iadd, 1) := by decide +kernel
theorem dX3_objectsIn_21 : decode cX3_objectsIn 21 = .ok (.istore_n 2, 1) := by decide +kernel
theorem dX3_objectsIn_22 : decode cX3_objectsIn 22 = .ok (.iinc 3 1, 3) := by decide +kernel
theorem dX3_objectsIn_25 : decode cX3_objectsIn 25 = .ok (.goto (-21), 3) := by decide +kernel
theorem dX3_objectsIn_28 : decode cX3_objectsIn 28 = .ok (.iload_n 2, 1) := by decide +kernel
theorem dX3_objectsIn_29 : decode cX3_objectsIn 29 = .ok (.ireturn, 1) := by decide +kernel
theorem dX3_pinnedIn_0 : decode cX3_pinnedIn 0 = .ok (.iconst 0, 1) := by decide +kernel
theorem dX3_pinnedIn_1 : decode cX3_pinnedIn 1 = .ok (.istore_n 2, 1) := by decide +kernel
theorem dX3_pinnedIn_2 : decode cX3_pinnedIn 2 = .ok (.iconst 0, 1) := by decide +kernel
theorem dX3_pinnedIn_3 : decode cX3_pinnedIn 3 = .ok (.istore_n 3, 1) := by decide +kernel
theorem dX3_pinnedIn_4 : decode cX3_pinnedIn 4 = .ok (.iload_n 3, 1) := by decide +kernel
theorem dX3_pinnedIn_5 : decode cX3_pinnedIn 5 = .ok (.bipush 24, 2) := by decide +kernel
theorem dX3_pinnedIn_7 : decode cX3_pinnedIn 7 = .ok (.if_icmp .ge 38, 3) := by decide +kernel
theorem dX3_pinnedIn_10 : decode cX3_pinnedIn 10 = .ok (.iload_n 2, 1) := by decide +kernel
theorem dX3_pinnedIn_11 : decode cX3_pinnedIn 11 = .ok (.aload_n 0, 1) := by decide +kernel
theorem dX3_pinnedIn_12 : decode cX3_pinnedIn 12 = .ok (.iload_n 3, 1) := by decide +kernel
theorem dX3_pinnedIn_13 : decode cX3_pinnedIn 13 = .ok (.iload_n 1, 1) := by decide +kernel
theorem dX3_pinnedIn_14 : decode cX3_pinnedIn 14 = .ok (.invokevirtual 75, 3) := by decide +kernel
theorem dX3_pinnedIn_17 : decode cX3_pinnedIn 17 = .ok (.ifCond .eq 16, 3) := by decide +kernel
theorem dX3_pinnedIn_20 : decode cX3_pinnedIn 20 = .ok (.aload_n 0, 1) := by decide +kernel
theorem dX3_pinnedIn_21 : decode cX3_pinnedIn 21 = .ok (.getfield 31, 3) := by decide +kernel
theorem dX3_pinnedIn_24 : decode cX3_pinnedIn 24 = .ok (.iload_n 3, 1) := by decide +kernel
theorem dX3_pinnedIn_25 : decode cX3_pinnedIn 25 = .ok (.baload, 1) := by decide +kernel
theorem dX3_pinnedIn_26 : decode cX3_pinnedIn 26 = .ok (.ifCond .eq 7, 3) := by decide +kernel
theorem dX3_pinnedIn_29 : decode cX3_pinnedIn 29 = .ok (.iconst 1, 1) := by decide +kernel
theorem dX3_pinnedIn_30 : decode cX3_pinnedIn 30 = .ok (.goto 4, 3) := by decide +kernel
theorem dX3_pinnedIn_33 : decode cX3_pinnedIn 33 = .ok (.iconst 0, 1) := by decide +kernel
theorem dX3_pinnedIn_34 : decode cX3_pinnedIn 34 = .ok (.invokestatic 91, 3) := by decide +kernel
theorem dX3_pinnedIn_37 : decode cX3_pinnedIn 37 = .ok (.iadd, 1) := by decide +kernel
theorem dX3_pinnedIn_38 : decode cX3_pinnedIn 38 = .ok (.istore_n 2, 1) := by decide +kernel
theorem dX3_pinnedIn_39 : decode cX3_pinnedIn 39 = .ok (.iinc 3 1, 3) := by decide +kernel
theorem dX3_pinnedIn_42 : decode cX3_pinnedIn 42 = .ok (.goto (-38), 3) := by decide +kernel
theorem dX3_pinnedIn_45 : decode cX3_pinnedIn 45 = .ok (.iload_n 2, 1) := by decide +kernel
theorem dX3_pinnedIn_46 : decode cX3_pinnedIn 46 = .ok (.ireturn, 1) := by decide +kernel
theorem dX3_roots_0 : decode cX3_roots 0 = .ok (.iconst 0, 1) := by decide +kernel
theorem dX3_roots_1 : decode cX3_roots 1 = .ok (.istore_n 1, 1) := by decide +kernel
theorem dX3_roots_2 : decode cX3_roots 2 = .ok (.iconst 0, 1) := by decide +kernel
theorem dX3_roots_3 : decode cX3_roots 3 = .ok (.istore_n 2, 1) := by decide +kernel
theorem dX3_roots_4 : decode cX3_roots 4 = .ok (.iload_n 2, 1) := by decide +kernel
theorem dX3_roots_5 : decode cX3_roots 5 = .ok (.bipush 24, 2) := by decide +kernel
theorem dX3_roots_7 : decode cX3_roots 7 = .ok (.if_icmp .ge 21, 3) := by decide +kernel
theorem dX3_roots_10 : decode cX3_roots 10 = .ok (.iload_n 1, 1) := by decide +kernel
theorem dX3_roots_11 : decode cX3_roots 11 = .ok (.aload_n 0, 1) := by decide +kernel
theorem dX3_roots_12 : decode cX3_roots 12 = .ok (.getfield 28, 3) := by decide +kernel
theorem dX3_roots_15 : decode cX3_roots 15 = .ok (.iload_n 2, 1) := by decide +kernel
theorem dX3_roots_16 : decode cX3_roots 16 = .ok (.baload, 1) := by decide +kernel
theorem dX3_roots_17 : decode cX3_roots 17 = .ok (.invokestatic 91, 3) := by decide +kernel
theorem dX3_roots_20 : decode cX3_roots 20 = .ok (.iadd, 1) := by decide +kernel
theorem dX3_roots_21 : decode cX3_roots 21 = .ok (.istore_n 1, 1) := by decide +kernel
theorem dX3_roots_22 : decode cX3_roots 22 = .ok (.iinc 2 1, 3) := by decide +kernel
theorem dX3_roots_25 : decode cX3_roots 25 = .ok (.goto (-21), 3) := by decide +kernel
theorem dX3_roots_28 : decode cX3_roots 28 = .ok (.iload_n 1, 1) := by decide +kernel
theorem dX3_roots_29 : decode cX3_roots 29 = .ok (.ireturn, 1) := by decide +kernel
theorem dX3_openArenas_0 : decode cX3_openArenas 0 = .ok (.iconst 0, 1) := by decide +kernel
theorem dX3_openArenas_1 : decode cX3_openArenas 1 = .ok (.istore_n 1, 1) := by decide +kernel
theorem dX3_openArenas_2 : decode cX3_openArenas 2 = .ok (.iconst 0, 1) := by decide +kernel
theorem dX3_openArenas_3 : decode cX3_openArenas 3 = .ok (.istore_n 2, 1) := by decide +kernel
theorem dX3_openArenas_4 : decode cX3_openArenas 4 = .ok (.iload_n 2, 1) := by decide +kernel
theorem dX3_openArenas_5 : decode cX3_openArenas 5 = .ok (.bipush 6, 2) := by decide +kernel
theorem dX3_openArenas_7 : decode cX3_openArenas 7 = .ok (.if_icmp .ge 21, 3) := by decide +kernel
theorem dX3_openArenas_10 : decode cX3_openArenas 10 = .ok (.iload_n 1, 1) := by decide +kernel
theorem dX3_openArenas_11 : decode cX3_openArenas 11 = .ok (.aload_n 0, 1) := by decide +kernel
theorem dX3_openArenas_12 : decode cX3_openArenas 12 = .ok (.getfield 37, 3) := by decide +kernel
theorem dX3_openArenas_15 : decode cX3_openArenas 15 = .ok (.iload_n 2, 1) := by decide +kernel
theorem dX3_openArenas_16 : decode cX3_openArenas 16 = .ok (.baload, 1) := by decide +kernel
theorem dX3_openArenas_17 : decode cX3_openArenas 17 = .ok (.invokestatic 91, 3) := by decide +kernel
theorem dX3_openArenas_20 : decode cX3_openArenas 20 = .ok (.iadd, 1) := by decide +kernel
theorem dX3_openArenas_21 : decode cX3_openArenas 21 = .ok (.istore_n 1, 1) := by decide +kernel
theorem dX3_openArenas_22 : decode cX3_openArenas 22 = .ok (.iinc 2 1, 3) := by decide +kernel
theorem dX3_openArenas_25 : decode cX3_openArenas 25 = .ok (.goto (-21), 3) := by decide +kernel
theorem dX3_openArenas_28 : decode cX3_openArenas 28 = .ok (.iload_n 1, 1) := by decide +kernel
theorem dX3_openArenas_29 : decode cX3_openArenas 29 = .ok (.ireturn, 1) := by decide +kernel
theorem dX3_references_0 : decode cX3_references 0 = .ok (.iconst 0, 1) := by decide +kernel
theorem dX3_references_1 : decode cX3_references 1 = .ok (.istore_n 2, 1) := by decide +kernel
theorem dX3_references_2 : decode cX3_references 2 = .ok (.iconst 0, 1) := by decide +kernel
theorem dX3_references_3 : decode cX3_references 3 = .ok (.istore_n 3, 1) := by decide +kernel
theorem dX3_references_4 : decode cX3_references 4 = .ok (.iload_n 3, 1) := by decide +kernel
theorem dX3_references_5 : decode cX3_references 5 = .ok (.bipush 24, 2) := by decide +kernel
theorem dX3_references_7 : decode cX3_references 7 = .ok (.if_icmp .ge 65, 3) := by decide +kernel
theorem dX3_references_10 : decode cX3_references 10 = .ok (.iconst 0, 1) := by decide +kernel
theorem dX3_references_11 : decode cX3_references 11 = .ok (.istore 4, 2) := by decide +kernel
theorem dX3_references_13 : decode cX3_references 13 = .ok (.iload 4, 2) := by decide +kernel
theorem dX3_references_15 : decode cX3_references 15 = .ok (.iconst 2, 1) := by decide +kernel
theorem dX3_references_16 : decode cX3_references 16 = .ok (.if_icmp .ge 50, 3) := by decide +kernel
theorem dX3_references_19 : decode cX3_references 19 = .ok (.aload_n 0, 1) := by decide +kernel
theorem dX3_references_20 : decode cX3_references 20 = .ok (.iload_n 3, 1) := by decide +kernel
theorem dX3_references_21 : decode cX3_references 21 = .ok (.iload 4, 2) := by decide +kernel
theorem dX3_references_23 : decode cX3_references 23 = .ok (.invokevirtual 83, 3) := by decide +kernel
theorem dX3_references_26 : decode cX3_references 26 = .ok (.istore 5, 2) := by decide +kernel
theorem dX3_references_28 : decode cX3_references 28 = .ok (.aload_n 0, 1) := by decide +kernel
theorem dX3_references_29 : decode cX3_references 29 = .ok (.iload 5, 2) := by decide +kernel
theorem dX3_references_31 : decode cX3_references 31 = .ok (.invokevirtual 95, 3) := by decide +kernel
theorem dX3_references_34 : decode cX3_references 34 = .ok (.ifCond .eq 26, 3) := by decide +kernel
theorem dX3_references_37 : decode cX3_references 37 = .ok (.iload_n 1, 1) := by decide +kernel
theorem dX3_references_38 : decode cX3_references 38 = .ok (.ifCond .eq 19, 3) := by decide +kernel
theorem dX3_references_41 : decode cX3_references 41 = .ok (.aload_n 0, 1) := by decide +kernel
theorem dX3_references_42 : decode cX3_references 42 = .ok (.getfield 15, 3) := by decide +kernel
theorem dX3_references_45 : decode cX3_references 45 = .ok (.iload 5, 2) := by decide +kernel
theorem dX3_references_47 : decode cX3_references 47 = .ok (.iaload, 1) := by decide +kernel
theorem dX3_references_48 : decode cX3_references 48 = .ok (.aload_n 0, 1) := by decide +kernel
theorem dX3_references_49 : decode cX3_references 49 = .ok (.getfield 15, 3) := by decide +kernel
theorem dX3_references_52 : decode cX3_references 52 = .ok (.iload_n 3, 1) := by decide +kernel
theorem dX3_references_53 : decode cX3_references 53 = .ok (.iaload, 1) := by decide +kernel
theorem dX3_references_54 : decode cX3_references 54 = .ok (.if_icmp .eq 6, 3) := by decide +kernel
theorem dX3_references_57 : decode cX3_references 57 = .ok (.iinc 2 1, 3) := by decide +kernel
theorem dX3_references_60 : decode cX3_references 60 = .ok (.iinc 4 1, 3) := by decide +kernel
theorem dX3_references_63 : decode cX3_references 63 = .ok (.goto (-50), 3) := by decide +kernel
theorem dX3_references_66 : decode cX3_references 66 = .ok (.iinc 3 1, 3) := by decide +kernel
theorem dX3_references_69 : decode cX3_references 69 = .ok (.goto (-65), 3) := by decide +kernel
theorem dX3_references_72 : decode cX3_references 72 = .ok (.iload_n 2, 1) := by decide +kernel
theorem dX3_references_73 : decode cX3_references 73 = .ok (.ireturn, 1) := by decide +kernel
theorem dX3_referencesTo_0 : decode cX3_referencesTo 0 = .ok (.iconst 0, 1) := by decide +kernel
theorem dX3_referencesTo_1 : decode cX3_referencesTo 1 = .ok (.istore_n 2, 1) := by decide +kernel
theorem dX3_referencesTo_2 : decode cX3_referencesTo 2 = .ok (.iconst 0, 1) := by decide +kernel
theorem dX3_referencesTo_3 : decode cX3_referencesTo 3 = .ok (.istore_n 3, 1) := by decide +kernel
theorem dX3_referencesTo_4 : decode cX3_referencesTo 4 = .ok (.iload_n 3, 1) := by decide +kernel
theorem dX3_referencesTo_5 : decode cX3_referencesTo 5 = .ok (.bipush 24, 2) := by decide +kernel
theorem dX3_referencesTo_7 : decode cX3_referencesTo 7 = .ok (.if_icmp .ge 46, 3) := by decide +kernel
theorem dX3_referencesTo_10 : decode cX3_referencesTo 10 = .ok (.iconst 0, 1) := by decide +kernel
theorem dX3_referencesTo_11 : decode cX3_referencesTo 11 = .ok (.istore 4, 2) := by decide +kernel
theorem dX3_referencesTo_13 : decode cX3_referencesTo 13 = .ok (.iload 4, 2) := by decide +kernel
theorem dX3_referencesTo_15 : decode cX3_referencesTo 15 = .ok (.iconst 2, 1) := by decide +kernel
theorem dX3_referencesTo_16 : decode cX3_referencesTo 16 = .ok (.if_icmp .ge 31, 3) := by decide +kernel
theorem dX3_referencesTo_19 : decode cX3_referencesTo 19 = .ok (.iload_n 2, 1) := by decide +kernel
theorem dX3_referencesTo_20 : decode cX3_referencesTo 20 = .ok (.aload_n 0, 1) := by decide +kernel
theorem dX3_referencesTo_21 : decode cX3_referencesTo 21 = .ok (.iload_n 3, 1) := by decide +kernel
theorem dX3_referencesTo_22 : decode cX3_referencesTo 22 = .ok (.iload 4, 2) := by decide +kernel
theorem dX3_referencesTo_24 : decode cX3_referencesTo 24 = .ok (.invokevirtual 83, 3) := by decide +kernel
theorem dX3_referencesTo_27 : decode cX3_referencesTo 27 = .ok (.iload_n 1, 1) := by decide +kernel
theorem dX3_referencesTo_28 : decode cX3_referencesTo 28 = .ok (.if_icmp .ne 7, 3) := by decide +kernel
theorem dX3_referencesTo_31 : decode cX3_referencesTo 31 = .ok (.iconst 1, 1) := by decide +kernel
theorem dX3_referencesTo_32 : decode cX3_referencesTo 32 = .ok (.goto 4, 3) := by decide +kernel
theorem dX3_referencesTo_35 : decode cX3_referencesTo 35 = .ok (.iconst 0, 1) := by decide +kernel
theorem dX3_referencesTo_36 : decode cX3_referencesTo 36 = .ok (.invokestatic 91, 3) := by decide +kernel
theorem dX3_referencesTo_39 : decode cX3_referencesTo 39 = .ok (.iadd, 1) := by decide +kernel
theorem dX3_referencesTo_40 : decode cX3_referencesTo 40 = .ok (.istore_n 2, 1) := by decide +kernel
theorem dX3_referencesTo_41 : decode cX3_referencesTo 41 = .ok (.iinc 4 1, 3) := by decide +kernel
theorem dX3_referencesTo_44 : decode cX3_referencesTo 44 = .ok (.goto (-31), 3) := by decide +kernel
theorem dX3_referencesTo_47 : decode cX3_referencesTo 47 = .ok (.iinc 3 1, 3) := by decide +kernel
theorem dX3_referencesTo_50 : decode cX3_referencesTo 50 = .ok (.goto (-46), 3) := by decide +kernel
theorem dX3_referencesTo_53 : decode cX3_referencesTo 53 = .ok (.iload_n 2, 1) := by decide +kernel
theorem dX3_referencesTo_54 : decode cX3_referencesTo 54 = .ok (.ireturn, 1) := by decide +kernel
theorem dX4_init_0 : decode cX4_init 0 = .ok (.aload_n 0, 1) := by decide +kernel
theorem dX4_init_1 : decode cX4_init 1 = .ok (.invokespecial 3, 3) := by decide +kernel
theorem dX4_init_4 : decode cX4_init 4 = .ok (.aload_n 0, 1) := by decide +kernel
theorem dX4_init_5 : decode cX4_init 5 = .ok (.bipush 60, 2) := by decide +kernel
theorem dX4_init_7 : decode cX4_init 7 = .ok (.newarray .int, 2) := by decide +kernel
theorem dX4_init_9 : decode cX4_init 9 = .ok (.putfield 11, 3) := by decide +kernel
theorem dX4_init_12 : decode cX4_init 12 = .ok (.return_, 1) := by decide +kernel
theorem dX5_init_0 : decode cX5_init 0 = .ok (.aload_n 0, 1) := by decide +kernel
theorem dX5_init_1 : decode cX5_init 1 = .ok (.invokespecial 1, 3) := by decide +kernel
theorem dX5_init_4 : decode cX5_init 4 = .ok (.aload_n 0, 1) := by decide +kernel
theorem dX5_init_5 : decode cX5_init 5 = .ok (.new 7, 3) := by decide +kernel
theorem dX5_init_8 : decode cX5_init 8 = .ok (.dup, 1) := by decide +kernel
theorem dX5_init_9 : decode cX5_init 9 = .ok (.invokespecial 9, 3) := by decide +kernel
theorem dX5_init_12 : decode cX5_init 12 = .ok (.putfield 10, 3) := by decide +kernel
theorem dX5_init_15 : decode cX5_init 15 = .ok (.aload_n 0, 1) := by decide +kernel
theorem dX5_init_16 : decode cX5_init 16 = .ok (.new 16, 3) := by decide +kernel
theorem dX5_init_19 : decode cX5_init 19 = .ok (.dup, 1) := by decide +kernel
theorem dX5_init_20 : decode cX5_init 20 = .ok (.invokespecial 18, 3) := by decide +kernel
theorem dX5_init_23 : decode cX5_init 23 = .ok (.putfield 19, 3) := by decide +kernel
theorem dX5_init_26 : decode cX5_init 26 = .ok (.aload_n 0, 1) := by decide +kernel
theorem dX5_init_27 : decode cX5_init 27 = .ok (.new 23, 3) := by decide +kernel
theorem dX5_init_30 : decode cX5_init 30 = .ok (.dup, 1) := by decide +kernel
theorem dX5_init_31 : decode cX5_init 31 = .ok (.invokespecial 25, 3) := by decide +kernel
theorem dX5_init_34 : decode cX5_init 34 = .ok (.putfield 26, 3) := by decide +kernel
theorem dX5_init_37 : decode cX5_init 37 = .ok (.aload_n 0, 1) := by decide +kernel
theorem dX5_init_38 : decode cX5_init 38 = .ok (.new 30, 3) := by decide +kernel
theorem dX5_init_41 : decode cX5_init 41 = .ok (.dup, 1) := by decide +kernel
theorem dX5_init_42 : decode cX5_init 42 = .ok (.invokespecial 32, 3) := by decide +kernel
theorem dX5_init_45 : decode cX5_init 45 = .ok (.putfield 33, 3) := by decide +kernel
theorem dX5_init_48 : decode cX5_init 48 = .ok (.aload_n 0, 1) := by decide +kernel
theorem dX5_init_49 : decode cX5_init 49 = .ok (.new 37, 3) := by decide +kernel
theorem dX5_init_52 : decode cX5_init 52 = .ok (.dup, 1) := by decide +kernel
theorem dX5_init_53 : decode cX5_init 53 = .ok (.invokespecial 39, 3) := by decide +kernel
theorem dX5_init_56 : decode cX5_init 56 = .ok (.putfield 40, 3) := by decide +kernel
theorem dX5_init_59 : decode cX5_init 59 = .ok (.return_, 1) := by decide +kernel
theorem dX5_open_0 : decode cX5_open 0 = .ok (.aload_n 0, 1) := by decide +kernel
theorem dX5_open_1 : decode cX5_open 1 = .ok (.getfield 10, 3) := by decide +kernel
theorem dX5_open_4 : decode cX5_open 4 = .ok (.invokevirtual 44, 3) := by decide +kernel
theorem dX5_open_7 : decode cX5_open 7 = .ok (.istore_n 1, 1) := by decide +kernel
theorem dX5_open_8 : decode cX5_open 8 = .ok (.iload_n 1, 1) := by decide +kernel
theorem dX5_open_9 : decode cX5_open 9 = .ok (.iconst (-1), 1) := by decide +kernel
theorem dX5_open_10 : decode cX5_open 10 = .ok (.if_icmp .ne 13, 3) := by decide +kernel
theorem dX5_open_13 : decode cX5_open 13 = .ok (.new 48, 3) := by decide +kernel
theorem dX5_open_16 : decode cX5_open 16 = .ok (.dup, 1) := by decide +kernel
theorem dX5_open_17 : decode cX5_open 17 = .ok (.ldc 50, 2) := by decide +kernel
theorem dX5_open_19 : decode cX5_open 19 = .ok (.invokespecial 52, 3) := by decide +kernel
theorem dX5_open_22 : decode cX5_open 22 = .ok (.athrow, 1) := by decide +kernel
theorem dX5_open_23 : decode cX5_open 23 = .ok (.aload_n 0, 1) := by decide +kernel
theorem dX5_open_24 : decode cX5_open 24 = .ok (.getfield 40, 3) := by decide +kernel
theorem dX5_open_27 : decode cX5_open 27 = .ok (.aload_n 0, 1) := by decide +kernel
theorem dX5_open_28 : decode cX5_open 28 = .ok (.getfield 10, 3) := by decide +kernel
theorem dX5_open_31 : decode cX5_open 31 = .ok (.invokevirtual 55, 3) := by decide +kernel
theorem dX5_open_34 : decode cX5_open 34 = .ok (.aload_n 0, 1) := by decide +kernel
theorem dX5_open_35 : decode cX5_open 35 = .ok (.getfield 10, 3) := by decide +kernel
theorem dX5_open_38 : decode cX5_open 38 = .ok (.iload_n 1, 1) := by decide +kernel
theorem dX5_open_39 : decode cX5_open 39 = .ok (.invokevirtual 59, 3) := by decide +kernel
theorem dX5_open_42 : decode cX5_open 42 = .ok (.iload_n 1, 1) := by decide +kernel
theorem dX5_open_43 : decode cX5_open 43 = .ok (.ireturn, 1) := by decide +kernel
theorem dX5_make_0 : decode cX5_make 0 = .ok (.iload_n 1, 1) := by decide +kernel
theorem dX5_make_1 : decode cX5_make 1 = .ok (.invokestatic 63, 3) := by decide +kernel
theorem dX5_make_4 : decode cX5_make 4 = .ok (.iload_n 2, 1) := by decide +kernel
theorem dX5_make_5 : decode cX5_make 5 = .ok (.iconst 1, 1) := by decide +kernel
theorem dX5_make_6 : decode cX5_make 6 = .ok (.if_icmp .lt 9, 3) := by decide +kernel
theorem dX5_make_9 : decode cX5_make 9 = .ok (.iload_n 2, 1) := by decide +kernel
theorem dX5_make_10 : decode cX5_make 10 = .ok (.bipush 16, 2) := by decide +kernel
theorem dX5_make_12 : decode cX5_make 12 = .ok (.if_icmp .le 13, 3) := by decide +kernel
theorem dX5_make_15 : decode cX5_make 15 = .ok (.new 66, 3) := by decide +kernel
theorem dX5_make_18 : decode cX5_make 18 = .ok (.dup, 1) := by decide +kernel
theorem dX5_make_19 : decode cX5_make 19 = .ok (.ldc 68, 2) := by decide +kernel
theorem dX5_make_21 : decode cX5_make 21 = .ok (.invokespecial 70, 3) := by decide +kernel
theorem dX5_make_24 : decode cX5_make 24 = .ok (.athrow, 1) := by decide +kernel
theorem dX5_make_25 : decode cX5_make 25 = .ok (.aload_n 0, 1) := by decide +kernel
theorem dX5_make_26 : decode cX5_make 26 = .ok (.getfield 10, 3) := by decide +kernel
theorem dX5_make_29 : decode cX5_make 29 = .ok (.invokevirtual 71, 3) := by decide +kernel
theorem dX5_make_32 : decode cX5_make 32 = .ok (.istore_n 3, 1) := by decide +kernel
theorem dX5_make_33 : decode cX5_make 33 = .ok (.aload_n 0, 1) := by decide +kernel
theorem dX5_make_34 : decode cX5_make 34 = .ok (.getfield 10, 3) := by decide +kernel
theorem dX5_make_37 : decode cX5_make 37 = .ok (.iload_n 1, 1) := by decide +kernel
theorem dX5_make_38 : decode cX5_make 38 = .ok (.invokevirtual 74, 3) := by decide +kernel
theorem dX5_make_41 : decode cX5_make 41 = .ok (.ifCond .eq 20, 3) := by decide +kernel
theorem dX5_make_44 : decode cX5_make 44 = .ok (.aload_n 0, 1) := by decide +kernel
theorem dX5_make_45 : decode cX5_make 45 = .ok (.getfield 10, 3) := by decide +kernel
theorem dX5_make_48 : decode cX5_make 48 = .ok (.iload_n 1, 1) := by decide +kernel
theorem dX5_make_49 : decode cX5_make 49 = .ok (.iload_n 2, 1) := by decide +kernel
theorem dX5_make_50 : decode cX5_make 50 = .ok (.invokevirtual 78, 3) := by decide +kernel
theorem dX5_make_53 : decode cX5_make 53 = .ok (.ifCond .eq 8, 3) := by decide +kernel
theorem dX5_make_56 : decode cX5_make 56 = .ok (.iload_n 3, 1) := by decide +kernel
theorem dX5_make_57 : decode cX5_make 57 = .ok (.iconst (-1), 1) := by decide +kernel
theorem dX5_make_58 : decode cX5_make 58 = .ok (.if_icmp .ne 13, 3) := by decide +kernel
theorem dX5_make_61 : decode cX5_make 61 = .ok (.new 48, 3) := by decide +kernel
theorem dX5_make_64 : decode cX5_make 64 = .ok (.dup, 1) := by decide +kernel
theorem dX5_make_65 : decode cX5_make 65 = .ok (.ldc 82, 2) := by decide +kernel
theorem dX5_make_67 : decode cX5_make 67 = .ok (.invokespecial 52, 3) := by decide +kernel
theorem dX5_make_70 : decode cX5_make 70 = .ok (.athrow, 1) := by decide +kernel
theorem dX5_make_71 : decode cX5_make 71 = .ok (.aload_n 0, 1) := by decide +kernel
theorem dX5_make_72 : decode cX5_make 72 = .ok (.getfield 40, 3) := by decide +kernel
theorem dX5_make_75 : decode cX5_make 75 = .ok (.aload_n 0, 1) := by decide +kernel
theorem dX5_make_76 : decode cX5_make 76 = .ok (.getfield 10, 3) := by decide +kernel
theorem dX5_make_79 : decode cX5_make 79 = .ok (.invokevirtual 55, 3) := by decide +kernel
theorem dX5_make_82 : decode cX5_make 82 = .ok (.aload_n 0, 1) := by decide +kernel
theorem dX5_make_83 : decode cX5_make 83 = .ok (.getfield 10, 3) := by decide +kernel
theorem dX5_make_86 : decode cX5_make 86 = .ok (.iload_n 3, 1) := by decide +kernel
theorem dX5_make_87 : decode cX5_make 87 = .ok (.iload_n 1, 1) := by decide +kernel
theorem dX5_make_88 : decode cX5_make 88 = .ok (.iload_n 2, 1) := by decide +kernel
theorem dX5_make_89 : decode cX5_make 89 = .ok (.invokevirtual 84, 3) := by decide +kernel
theorem dX5_make_92 : decode cX5_make 92 = .ok (.iload_n 3, 1) := by decide +kernel
theorem dX5_make_93 : decode cX5_make 93 = .ok (.ireturn, 1) := by decide +kernel
theorem dX5_link_0 : decode cX5_link 0 = .ok (.aload_n 0, 1) := by decide +kernel
theorem dX5_link_1 : decode cX5_link 1 = .ok (.iload_n 1, 1) := by decide +kernel
theorem dX5_link_2 : decode cX5_link 2 = .ok (.invokevirtual 88, 3) := by decide +kernel
theorem dX5_link_5 : decode cX5_link 5 = .ok (.iload_n 2, 1) := by decide +kernel
theorem dX5_link_6 : decode cX5_link 6 = .ok (.ifCond .lt 8, 3) := by decide +kernel
theorem dX5_link_9 : decode cX5_link 9 = .ok (.iload_n 2, 1) := by decide +kernel
theorem dX5_link_10 : decode cX5_link 10 = .ok (.iconst 2, 1) := by decide +kernel
theorem dX5_link_11 : decode cX5_link 11 = .ok (.if_icmp .lt 13, 3) := by decide +kernel
theorem dX5_link_14 : decode cX5_link 14 = .ok (.new 91, 3) := by decide +kernel
theorem dX5_link_17 : decode cX5_link 17 = .ok (.dup, 1) := by decide +kernel
theorem dX5_link_18 : decode cX5_link 18 = .ok (.ldc 93, 2) := by decide +kernel
theorem dX5_link_20 : decode cX5_link 20 = .ok (.invokespecial 95, 3) := by decide +kernel
theorem dX5_link_23 : decode cX5_link 23 = .ok (.athrow, 1) := by decide +kernel
theorem dX5_link_24 : decode cX5_link 24 = .ok (.iload_n 3, 1) := by decide +kernel
theorem dX5_link_25 : decode cX5_link 25 = .ok (.iconst (-1), 1) := by decide +kernel
theorem dX5_link_26 : decode cX5_link 26 = .ok (.if_icmp .eq 8, 3) := by decide +kernel
theorem dX5_link_29 : decode cX5_link 29 = .ok (.aload_n 0, 1) := by decide +kernel
theorem dX5_link_30 : decode cX5_link 30 = .ok (.iload_n 3, 1) := by decide +kernel
theorem dX5_link_31 : decode cX5_link 31 = .ok (.invokevirtual 88, 3) := by decide +kernel
theorem dX5_link_34 : decode cX5_link 34 = .ok (.aload_n 0, 1) := by decide +kernel
theorem dX5_link_35 : decode cX5_link 35 = .ok (.getfield 40, 3) := by decide +kernel
theorem dX5_link_38 : decode cX5_link 38 = .ok (.aload_n 0, 1) := by decide +kernel
theorem dX5_link_39 : decode cX5_link 39 = .ok (.getfield 10, 3) := by decide +kernel
theorem dX5_link_42 : decode cX5_link 42 = .ok (.invokevirtual 55, 3) := by decide +kernel
theorem dX5_link_45 : decode cX5_link 45 = .ok (.aload_n 0, 1) := by decide +kernel
theorem dX5_link_46 : decode cX5_link 46 = .ok (.getfield 10, 3) := by decide +kernel
theorem dX5_link_49 : decode cX5_link 49 = .ok (.iload_n 1, 1) := by decide +kernel
theorem dX5_link_50 : decode cX5_link 50 = .ok (.iload_n 2, 1) := by decide +kernel
theorem dX5_link_51 : decode cX5_link 51 = .ok (.invokevirtual 96, 3) := by decide +kernel
theorem dX5_link_54 : decode cX5_link 54 = .ok (.istore 4, 2) := by decide +kernel
theorem dX5_link_56 : decode cX5_link 56 = .ok (.aload_n 0, 1) := by decide +kernel
theorem dX5_link_57 : decode cX5_link 57 = .ok (.getfield 10, 3) := by decide +kernel
theorem dX5_link_60 : decode cX5_link 60 = .ok (.iload_n 1, 1) := by decide +kernel
theorem dX5_link_61 : decode cX5_link 61 = .ok (.iload_n 2, 1) := by decide +kernel
theorem dX5_link_62 : decode cX5_link 62 = .ok (.iload_n 3, 1) := by decide +kernel
theorem dX5_link_63 : decode cX5_link 63 = .ok (.invokevirtual 100, 3) := by decide +kernel
theorem dX5_link_66 : decode cX5_link 66 = .ok (.iload 4, 2) := by decide +kernel
theorem dX5_link_68 : decode cX5_link 68 = .ok (.ireturn, 1) := by decide +kernel
theorem dX5_root_0 : decode cX5_root 0 = .ok (.aload_n 0, 1) := by decide +kernel
theorem dX5_root_1 : decode cX5_root 1 = .ok (.iload_n 1, 1) := by decide +kernel
theorem dX5_root_2 : decode cX5_root 2 = .ok (.invokevirtual 88, 3) := by decide +kernel
theorem dX5_root_5 : decode cX5_root 5 = .ok (.aload_n 0, 1) := by decide +kernel
theorem dX5_root_6 : decode cX5_root 6 = .ok (.getfield 40, 3) := by decide +kernel
theorem dX5_root_9 : decode cX5_root 9 = .ok (.aload_n 0, 1) := by decide +kernel
theorem dX5_root_10 : decode cX5_root 10 = .ok (.getfield 10, 3) := by decide +kernel
theorem dX5_root_13 : decode cX5_root 13 = .ok (.invokevirtual 55, 3) := by decide +kernel
theorem dX5_root_16 : decode cX5_root 16 = .ok (.aload_n 0, 1) := by decide +kernel
theorem dX5_root_17 : decode cX5_root 17 = .ok (.getfield 10, 3) := by decide +kernel
theorem dX5_root_20 : decode cX5_root 20 = .ok (.getfield 103, 3) := by decide +kernel
theorem dX5_root_23 : decode cX5_root 23 = .ok (.iload_n 1, 1) := by decide +kernel
theorem dX5_root_24 : decode cX5_root 24 = .ok (.baload, 1) := by decide +kernel
theorem dX5_root_25 : decode cX5_root 25 = .ok (.istore_n 3, 1) := by decide +kernel
theorem dX5_root_26 : decode cX5_root 26 = .ok (.aload_n 0, 1) := by decide +kernel
theorem dX5_root_27 : decode cX5_root 27 = .ok (.getfield 10, 3) := by decide +kernel
theorem dX5_root_30 : decode cX5_root 30 = .ok (.getfield 103, 3) := by decide +kernel
theorem dX5_root_33 : decode cX5_root 33 = .ok (.iload_n 1, 1) := by decide +kernel
theorem dX5_root_34 : decode cX5_root 34 = .ok (.iload_n 2, 1) := by decide +kernel
theorem dX5_root_35 : decode cX5_root 35 = .ok (.bastore, 1) := by decide +kernel
theorem dX5_root_36 : decode cX5_root 36 = .ok (.iload_n 3, 1) := by decide +kernel
theorem dX5_root_37 : decode cX5_root 37 = .ok (.invokestatic 107, 3) := by decide +kernel
theorem dX5_root_40 : decode cX5_root 40 = .ok (.ireturn, 1) := by decide +kernel
theorem dX5_pin_0 : decode cX5_pin 0 = .ok (.aload_n 0, 1) := by decide +kernel
theorem dX5_pin_1 : decode cX5_pin 1 = .ok (.iload_n 1, 1) := by decide +kernel
theorem dX5_pin_2 : decode cX5_pin 2 = .ok (.invokevirtual 88, 3) := by decide +kernel
theorem dX5_pin_5 : decode cX5_pin 5 = .ok (.aload_n 0, 1) := by decide +kernel
theorem dX5_pin_6 : decode cX5_pin 6 = .ok (.getfield 40, 3) := by decide +kernel
theorem dX5_pin_9 : decode cX5_pin 9 = .ok (.aload_n 0, 1) := by decide +kernel
theorem dX5_pin_10 : decode cX5_pin 10 = .ok (.getfield 10, 3) := by decide +kernel
theorem dX5_pin_13 : decode cX5_pin 13 = .ok (.invokevirtual 55, 3) := by decide +kernel
theorem dX5_pin_16 : decode cX5_pin 16 = .ok (.aload_n 0, 1) := by decide +kernel
theorem dX5_pin_17 : decode cX5_pin 17 = .ok (.getfield 10, 3) := by decide +kernel
theorem dX5_pin_20 : decode cX5_pin 20 = .ok (.getfield 111, 3) := by decide +kernel
theorem dX5_pin_23 : decode cX5_pin 23 = .ok (.iload_n 1, 1) := by decide +kernel
theorem dX5_pin_24 : decode cX5_pin 24 = .ok (.iload_n 2, 1) := by decide +kernel
theorem dX5_pin_25 : decode cX5_pin 25 = .ok (.bastore, 1) := by decide +kernel
theorem dX5_pin_26 : decode cX5_pin 26 = .ok (.aload_n 0, 1) := by decide +kernel
theorem dX5_pin_27 : decode cX5_pin 27 = .ok (.getfield 10, 3) := by decide +kernel
theorem dX5_pin_30 : decode cX5_pin 30 = .ok (.aload_n 0, 1) := by decide +kernel
theorem dX5_pin_31 : decode cX5_pin 31 = .ok (.getfield 10, 3) := by decide +kernel
theorem dX5_pin_34 : decode cX5_pin 34 = .ok (.getfield 114, 3) := by decide +kernel
theorem dX5_pin_37 : decode cX5_pin 37 = .ok (.iload_n 1, 1) := by decide +kernel
theorem dX5_pin_38 : decode cX5_pin 38 = .ok (.iaload, 1) := by decide +kernel
theorem dX5_pin_39 : decode cX5_pin 39 = .ok (.invokevirtual 118, 3) := by decide +kernel
theorem dX5_pin_42 : decode cX5_pin 42 = .ok (.ireturn, 1) := by decide +kernel
theorem dX5_giveBack_0 : decode cX5_giveBack 0 = .ok (.iload_n 1, 1) := by decide +kernel
theorem dX5_giveBack_1 : decode cX5_giveBack 1 = .ok (.invokestatic 63, 3) := by decide +kernel
theorem dX5_giveBack_4 : decode cX5_giveBack 4 = .ok (.iload_n 2, 1) := by decide +kernel
theorem dX5_giveBack_5 : decode cX5_giveBack 5 = .ok (.invokestatic 63, 3) := by decide +kernel
theorem dX5_giveBack_8 : decode cX5_giveBack 8 = .ok (.iload_n 1, 1) := by decide +kernel
theorem dX5_giveBack_9 : decode cX5_giveBack 9 = .ok (.iload_n 2, 1) := by decide +kernel
theorem dX5_giveBack_10 : decode cX5_giveBack 10 = .ok (.if_icmp .ne 13, 3) := by decide +kernel
theorem dX5_giveBack_13 : decode cX5_giveBack 13 = .ok (.new 66, 3) := by decide +kernel
theorem dX5_giveBack_16 : decode cX5_giveBack 16 = .ok (.dup, 1) := by decide +kernel
theorem dX5_giveBack_17 : decode cX5_giveBack 17 = .ok (.ldc 122, 2) := by decide +kernel
theorem dX5_giveBack_19 : decode cX5_giveBack 19 = .ok (.invokespecial 70, 3) := by decide +kernel
theorem dX5_giveBack_22 : decode cX5_giveBack 22 = .ok (.athrow, 1) := by decide +kernel
theorem dX5_giveBack_23 : decode cX5_giveBack 23 = .ok (.aload_n 0, 1) := by decide +kernel
theorem dX5_giveBack_24 : decode cX5_giveBack 24 = .ok (.getfield 19, 3) := by decide +kernel
theorem dX5_giveBack_27 : decode cX5_giveBack 27 = .ok (.aload_n 0, 1) := by decide +kernel
theorem dX5_giveBack_28 : decode cX5_giveBack 28 = .ok (.getfield 10, 3) := by decide +kernel
theorem dX5_giveBack_31 : decode cX5_giveBack 31 = .ok (.iload_n 1, 1) := by decide +kernel
theorem dX5_giveBack_32 : decode cX5_giveBack 32 = .ok (.iload_n 2, 1) := by decide +kernel
theorem dX5_giveBack_33 : decode cX5_giveBack 33 = .ok (.invokevirtual 124, 3) := by decide +kernel
theorem dX5_giveBack_36 : decode cX5_giveBack 36 = .ok (.ifCond .eq 13, 3) := by decide +kernel
theorem dX5_giveBack_39 : decode cX5_giveBack 39 = .ok (.new 48, 3) := by decide +kernel
theorem dX5_giveBack_42 : decode cX5_giveBack 42 = .ok (.dup, 1) := by decide +kernel
theorem dX5_giveBack_43 : decode cX5_giveBack 43 = .ok (.ldc 128, 2) := by decide +kernel
theorem dX5_giveBack_45 : decode cX5_giveBack 45 = .ok (.invokespecial 52, 3) := by decide +kernel
theorem dX5_giveBack_48 : decode cX5_giveBack 48 = .ok (.athrow, 1) := by decide +kernel
theorem dX5_giveBack_49 : decode cX5_giveBack 49 = .ok (.aload_n 0, 1) := by decide +kernel
theorem dX5_giveBack_50 : decode cX5_giveBack 50 = .ok (.getfield 40, 3) := by decide +kernel
theorem dX5_giveBack_53 : decode cX5_giveBack 53 = .ok (.aload_n 0, 1) := by decide +kernel
theorem dX5_giveBack_54 : decode cX5_giveBack 54 = .ok (.getfield 10, 3) := by decide +kernel
theorem dX5_giveBack_57 : decode cX5_giveBack 57 = .ok (.invokevirtual 55, 3) := by decide +kernel
theorem dX5_giveBack_60 : decode cX5_giveBack 60 = .ok (.aload_n 0, 1) := by decide +kernel
theorem dX5_giveBack_61 : decode cX5_giveBack 61 = .ok (.getfield 19, 3) := by decide +kernel
theorem dX5_giveBack_64 : decode cX5_giveBack 64 = .ok (.aload_n 0, 1) := by decide +kernel
theorem dX5_giveBack_65 : decode cX5_giveBack 65 = .ok (.getfield 10, 3) := by decide +kernel
theorem dX5_giveBack_68 : decode cX5_giveBack 68 = .ok (.iload_n 1, 1) := by decide +kernel
theorem dX5_giveBack_69 : decode cX5_giveBack 69 = .ok (.iload_n 2, 1) := by decide +kernel
theorem dX5_giveBack_70 : decode cX5_giveBack 70 = .ok (.invokevirtual 130, 3) := by decide +kernel
theorem dX5_giveBack_73 : decode cX5_giveBack 73 = .ok (.istore_n 3, 1) := by decide +kernel
theorem dX5_giveBack_74 : decode cX5_giveBack 74 = .ok (.aload_n 0, 1) := by decide +kernel
theorem dX5_giveBack_75 : decode cX5_giveBack 75 = .ok (.getfield 10, 3) := by decide +kernel
theorem dX5_giveBack_78 : decode cX5_giveBack 78 = .ok (.iload_n 1, 1) := by decide +kernel
theorem dX5_giveBack_79 : decode cX5_giveBack 79 = .ok (.invokevirtual 133, 3) := by decide +kernel
theorem dX5_giveBack_82 : decode cX5_giveBack 82 = .ok (.pop, 1) := by decide +kernel
theorem dX5_giveBack_83 : decode cX5_giveBack 83 = .ok (.iload_n 3, 1) := by decide +kernel
theorem dX5_giveBack_84 : decode cX5_giveBack 84 = .ok (.ireturn, 1) := by decide +kernel
theorem dX5_set_0 : decode cX5_set 0 = .ok (.iload_n 1, 1) := by decide +kernel
theorem dX5_set_1 : decode cX5_set 1 = .ok (.invokestatic 149, 3) := by decide +kernel
theorem dX5_set_4 : decode cX5_set 4 = .ok (.iload_n 1, 1) := by decide +kernel
theorem dX5_set_5 : decode cX5_set 5 = .ok (.iconst 1, 1) := by decide +kernel
theorem dX5_set_6 : decode cX5_set 6 = .ok (.if_icmp .ne 7, 3) := by decide +kernel
theorem dX5_set_9 : decode cX5_set 9 = .ok (.iconst 2, 1) := by decide +kernel
theorem dX5_set_10 : decode cX5_set 10 = .ok (.goto 4, 3) := by decide +kernel
theorem dX5_set_13 : decode cX5_set 13 = .ok (.iconst 1, 1) := by decide +kernel
theorem dX5_set_14 : decode cX5_set 14 = .ok (.istore_n 3, 1) := by decide +kernel
theorem dX5_set_15 : decode cX5_set 15 = .ok (.iload_n 2, 1) := by decide +kernel
theorem dX5_set_16 : decode cX5_set 16 = .ok (.ifCond .lt 8, 3) := by decide +kernel
theorem dX5_set_19 : decode cX5_set 19 = .ok (.iload_n 2, 1) := by decide +kernel
theorem dX5_set_20 : decode cX5_set 20 = .ok (.iload_n 3, 1) := by decide +kernel
theorem dX5_set_21 : decode cX5_set 21 = .ok (.if_icmp .le 13, 3) := by decide +kernel
theorem dX5_set_24 : decode cX5_set 24 = .ok (.new 66, 3) := by decide +kernel
theorem dX5_set_27 : decode cX5_set 27 = .ok (.dup, 1) := by decide +kernel
theorem dX5_set_28 : decode cX5_set 28 = .ok (.ldc 152, 2) := by decide +kernel
theorem dX5_set_30 : decode cX5_set 30 = .ok (.invokespecial 70, 3) := by decide +kernel
theorem dX5_set_33 : decode cX5_set 33 = .ok (.athrow, 1) := by decide +kernel
theorem dX5_set_34 : decode cX5_set 34 = .ok (.aload_n 0, 1) := by decide +kernel
theorem dX5_set_35 : decode cX5_set 35 = .ok (.getfield 40, 3) := by decide +kernel
theorem dX5_set_38 : decode cX5_set 38 = .ok (.aload_n 0, 1) := by decide +kernel
theorem dX5_set_39 : decode cX5_set 39 = .ok (.getfield 10, 3) := by decide +kernel
theorem dX5_set_42 : decode cX5_set 42 = .ok (.invokevirtual 55, 3) := by decide +kernel
theorem dX5_set_45 : decode cX5_set 45 = .ok (.aload_n 0, 1) := by decide +kernel
theorem dX5_set_46 : decode cX5_set 46 = .ok (.getfield 10, 3) := by decide +kernel
theorem dX5_set_49 : decode cX5_set 49 = .ok (.getfield 154, 3) := by decide +kernel
theorem dX5_set_52 : decode cX5_set 52 = .ok (.iload_n 1, 1) := by decide +kernel
theorem dX5_set_53 : decode cX5_set 53 = .ok (.iaload, 1) := by decide +kernel
theorem dX5_set_54 : decode cX5_set 54 = .ok (.istore 4, 2) := by decide +kernel
theorem dX5_set_56 : decode cX5_set 56 = .ok (.aload_n 0, 1) := by decide +kernel
theorem dX5_set_57 : decode cX5_set 57 = .ok (.getfield 10, 3) := by decide +kernel
theorem dX5_set_60 : decode cX5_set 60 = .ok (.getfield 154, 3) := by decide +kernel
theorem dX5_set_63 : decode cX5_set 63 = .ok (.iload_n 1, 1) := by decide +kernel
theorem dX5_set_64 : decode cX5_set 64 = .ok (.iload_n 2, 1) := by decide +kernel
theorem dX5_set_65 : decode cX5_set 65 = .ok (.iastore, 1) := by decide +kernel
theorem dX5_set_66 : decode cX5_set 66 = .ok (.iload 4, 2) := by decide +kernel
theorem dX5_set_68 : decode cX5_set 68 = .ok (.ireturn, 1) := by decide +kernel
theorem dX5_undo_0 : decode cX5_undo 0 = .ok (.aload_n 0, 1) := by decide +kernel
theorem dX5_undo_1 : decode cX5_undo 1 = .ok (.getfield 40, 3) := by decide +kernel
theorem dX5_undo_4 : decode cX5_undo 4 = .ok (.getfield 205, 3) := by decide +kernel
theorem dX5_undo_7 : decode cX5_undo 7 = .ok (.ifCond .ne 13, 3) := by decide +kernel
theorem dX5_undo_10 : decode cX5_undo 10 = .ok (.new 48, 3) := by decide +kernel
theorem dX5_undo_13 : decode cX5_undo 13 = .ok (.dup, 1) := by decide +kernel
theorem dX5_undo_14 : decode cX5_undo 14 = .ok (.ldc 208, 2) := by decide +kernel
theorem dX5_undo_16 : decode cX5_undo 16 = .ok (.invokespecial 52, 3) := by decide +kernel
theorem dX5_undo_19 : decode cX5_undo 19 = .ok (.athrow, 1) := by decide +kernel
theorem dX5_undo_20 : decode cX5_undo 20 = .ok (.aload_n 0, 1) := by decide +kernel
theorem dX5_undo_21 : decode cX5_undo 21 = .ok (.getfield 40, 3) := by decide +kernel
theorem dX5_undo_24 : decode cX5_undo 24 = .ok (.aload_n 0, 1) := by decide +kernel
theorem dX5_undo_25 : decode cX5_undo 25 = .ok (.getfield 10, 3) := by decide +kernel
theorem dX5_undo_28 : decode cX5_undo 28 = .ok (.invokevirtual 210, 3) := by decide +kernel
theorem dX5_undo_31 : decode cX5_undo 31 = .ok (.aload_n 0, 1) := by decide +kernel
theorem dX5_undo_32 : decode cX5_undo 32 = .ok (.getfield 40, 3) := by decide +kernel
theorem dX5_undo_35 : decode cX5_undo 35 = .ok (.getfield 205, 3) := by decide +kernel
theorem dX5_undo_38 : decode cX5_undo 38 = .ok (.ireturn, 1) := by decide +kernel
theorem dX5_object_0 : decode cX5_object 0 = .ok (.aload_n 0, 1) := by decide +kernel
theorem dX5_object_1 : decode cX5_object 1 = .ok (.iload_n 1, 1) := by decide +kernel
theorem dX5_object_2 : decode cX5_object 2 = .ok (.invokevirtual 88, 3) := by decide +kernel
theorem dX5_object_5 : decode cX5_object 5 = .ok (.iload_n 2, 1) := by decide +kernel
theorem dX5_object_6 : decode cX5_object 6 = .ok (.ifCond .lt 9, 3) := by decide +kernel
theorem dX5_object_9 : decode cX5_object 9 = .ok (.iload_n 2, 1) := by decide +kernel
theorem dX5_object_10 : decode cX5_object 10 = .ok (.bipush 12, 2) := by decide +kernel
theorem dX5_object_12 : decode cX5_object 12 = .ok (.if_icmp .lt 13, 3) := by decide +kernel
theorem dX5_object_15 : decode cX5_object 15 = .ok (.new 66, 3) := by decide +kernel
theorem dX5_object_18 : decode cX5_object 18 = .ok (.dup, 1) := by decide +kernel
theorem dX5_object_19 : decode cX5_object 19 = .ok (.ldc 213, 2) := by decide +kernel
theorem dX5_object_21 : decode cX5_object 21 = .ok (.invokespecial 70, 3) := by decide +kernel
theorem dX5_object_24 : decode cX5_object 24 = .ok (.athrow, 1) := by decide +kernel
theorem dX5_object_25 : decode cX5_object 25 = .ok (.aload_n 0, 1) := by decide +kernel
theorem dX5_object_26 : decode cX5_object 26 = .ok (.iload_n 1, 1) := by decide +kernel
theorem dX5_object_27 : decode cX5_object 27 = .ok (.iload_n 2, 1) := by decide +kernel
theorem dX5_object_28 : decode cX5_object 28 = .ok (.invokevirtual 215, 3) := by decide +kernel
theorem dX5_object_31 : decode cX5_object 31 = .ok (.ireturn, 1) := by decide +kernel
theorem dX5_objectProperty_0 : decode cX5_objectProperty 0 = .ok (.iload_n 2, 1) := by decide +kernel
theorem dX5_objectProperty_1 : decode cX5_objectProperty 1 = .ok (.tableswitch 189 0 10 #[59, 69, 79, 89, 99, 109, 122, 189, 135, 170, 180], 59) := by decide +kernel
theorem dX5_objectProperty_60 : decode cX5_objectProperty 60 = .ok (.aload_n 0, 1) := by decide +kernel
theorem dX5_objectProperty_61 : decode cX5_objectProperty 61 = .ok (.getfield 10, 3) := by decide +kernel
theorem dX5_objectProperty_64 : decode cX5_objectProperty 64 = .ok (.getfield 114, 3) := by decide +kernel
theorem dX5_objectProperty_67 : decode cX5_objectProperty 67 = .ok (.iload_n 1, 1) := by decide +kernel
theorem dX5_objectProperty_68 : decode cX5_objectProperty 68 = .ok (.iaload, 1) := by decide +kernel
theorem dX5_objectProperty_69 : decode cX5_objectProperty 69 = .ok (.ireturn, 1) := by decide +kernel
theorem dX5_objectProperty_70 : decode cX5_objectProperty 70 = .ok (.aload_n 0, 1) := by decide +kernel
theorem dX5_objectProperty_71 : decode cX5_objectProperty 71 = .ok (.getfield 10, 3) := by decide +kernel
theorem dX5_objectProperty_74 : decode cX5_objectProperty 74 = .ok (.getfield 218, 3) := by decide +kernel
theorem dX5_objectProperty_77 : decode cX5_objectProperty 77 = .ok (.iload_n 1, 1) := by decide +kernel
theorem dX5_objectProperty_78 : decode cX5_objectProperty 78 = .ok (.iaload, 1) := by decide +kernel
theorem dX5_objectProperty_79 : decode cX5_objectProperty 79 = .ok (.ireturn, 1) := by decide +kernel
theorem dX5_objectProperty_80 : decode cX5_objectProperty 80 = .ok (.aload_n 0, 1) := by decide +kernel
theorem dX5_objectProperty_81 : decode cX5_objectProperty 81 = .ok (.getfield 10, 3) := by decide +kernel
theorem dX5_objectProperty_84 : decode cX5_objectProperty 84 = .ok (.getfield 221, 3) := by decide +kernel
theorem dX5_objectProperty_87 : decode cX5_objectProperty 87 = .ok (.iload_n 1, 1) := by decide +kernel
theorem dX5_objectProperty_88 : decode cX5_objectProperty 88 = .ok (.iaload, 1) := by decide +kernel
theorem dX5_objectProperty_89 : decode cX5_objectProperty 89 = .ok (.ireturn, 1) := by decide +kernel
theorem dX5_objectProperty_90 : decode cX5_objectProperty 90 = .ok (.aload_n 0, 1) := by decide +kernel
theorem dX5_objectProperty_91 : decode cX5_objectProperty 91 = .ok (.getfield 10, 3) := by decide +kernel
theorem dX5_objectProperty_94 : decode cX5_objectProperty 94 = .ok (.iload_n 1, 1) := by decide +kernel
theorem dX5_objectProperty_95 : decode cX5_objectProperty 95 = .ok (.iconst 0, 1) := by decide +kernel
theorem dX5_objectProperty_96 : decode cX5_objectProperty 96 = .ok (.invokevirtual 96, 3) := by decide +kernel
theorem dX5_objectProperty_99 : decode cX5_objectProperty 99 = .ok (.ireturn, 1) := by decide +kernel
theorem dX5_objectProperty_100 : decode cX5_objectProperty 100 = .ok (.aload_n 0, 1) := by decide +kernel
theorem dX5_objectProperty_101 : decode cX5_objectProperty 101 = .ok (.getfield 10, 3) := by decide +kernel
theorem dX5_objectProperty_104 : decode cX5_objectProperty 104 = .ok (.iload_n 1, 1) := by decide +kernel
theorem dX5_objectProperty_105 : decode cX5_objectProperty 105 = .ok (.iconst 1, 1) := by decide +kernel
theorem dX5_objectProperty_106 : decode cX5_objectProperty 106 = .ok (.invokevirtual 96, 3) := by decide +kernel
theorem dX5_objectProperty_109 : decode cX5_objectProperty 109 = .ok (.ireturn, 1) := by decide +kernel
theorem dX5_objectProperty_110 : decode cX5_objectProperty 110 = .ok (.aload_n 0, 1) := by decide +kernel
theorem dX5_objectProperty_111 : decode cX5_objectProperty 111 = .ok (.getfield 10, 3) := by decide +kernel
theorem dX5_objectProperty_114 : decode cX5_objectProperty 114 = .ok (.getfield 103, 3) := by decide +kernel
theorem dX5_objectProperty_117 : decode cX5_objectProperty 117 = .ok (.iload_n 1, 1) := by decide +kernel
theorem dX5_objectProperty_118 : decode cX5_objectProperty 118 = .ok (.baload, 1) := by decide +kernel
theorem dX5_objectProperty_119 : decode cX5_objectProperty 119 = .ok (.invokestatic 107, 3) := by decide +kernel
theorem dX5_objectProperty_122 : decode cX5_objectProperty 122 = .ok (.ireturn, 1) := by decide +kernel
theorem dX5_objectProperty_123 : decode cX5_objectProperty 123 = .ok (.aload_n 0, 1) := by decide +kernel
theorem dX5_objectProperty_124 : decode cX5_objectProperty 124 = .ok (.getfield 10, 3) := by decide +kernel
theorem dX5_objectProperty_127 : decode cX5_objectProperty 127 = .ok (.getfield 111, 3) := by decide +kernel
theorem dX5_objectProperty_130 : decode cX5_objectProperty 130 = .ok (.iload_n 1, 1) := by decide +kernel
theorem dX5_objectProperty_131 : decode cX5_objectProperty 131 = .ok (.baload, 1) := by decide +kernel
theorem dX5_objectProperty_132 : decode cX5_objectProperty 132 = .ok (.invokestatic 107, 3) := by decide +kernel
theorem dX5_objectProperty_135 : decode cX5_objectProperty 135 = .ok (.ireturn, 1) := by decide +kernel
theorem dX5_objectProperty_136 : decode cX5_objectProperty 136 = .ok (.aload_n 0, 1) := by decide +kernel
theorem dX5_objectProperty_137 : decode cX5_objectProperty 137 = .ok (.getfield 19, 3) := by decide +kernel
theorem dX5_objectProperty_140 : decode cX5_objectProperty 140 = .ok (.aload_n 0, 1) := by decide +kernel
theorem dX5_objectProperty_141 : decode cX5_objectProperty 141 = .ok (.getfield 10, 3) := by decide +kernel
theorem dX5_objectProperty_144 : decode cX5_objectProperty 144 = .ok (.aload_n 0, 1) := by decide +kernel
theorem dX5_objectProperty_145 : decode cX5_objectProperty 145 = .ok (.getfield 10, 3) := by decide +kernel
theorem dX5_objectProperty_148 : decode cX5_objectProperty 148 = .ok (.getfield 114, 3) := by decide +kernel
theorem dX5_objectProperty_151 : decode cX5_objectProperty 151 = .ok (.iload_n 1, 1) := by decide +kernel
theorem dX5_objectProperty_152 : decode cX5_objectProperty 152 = .ok (.iaload, 1) := by decide +kernel
theorem dX5_objectProperty_153 : decode cX5_objectProperty 153 = .ok (.invokevirtual 136, 3) := by decide +kernel
theorem dX5_objectProperty_156 : decode cX5_objectProperty 156 = .ok (.aload_n 0, 1) := by decide +kernel
theorem dX5_objectProperty_157 : decode cX5_objectProperty 157 = .ok (.getfield 19, 3) := by decide +kernel
theorem dX5_objectProperty_160 : decode cX5_objectProperty 160 = .ok (.getfield 140, 3) := by decide +kernel
theorem dX5_objectProperty_163 : decode cX5_objectProperty 163 = .ok (.iload_n 1, 1) := by decide +kernel
theorem dX5_objectProperty_164 : decode cX5_objectProperty 164 = .ok (.invokevirtual 224, 3) := by decide +kernel
theorem dX5_objectProperty_167 : decode cX5_objectProperty 167 = .ok (.invokestatic 107, 3) := by decide +kernel
theorem dX5_objectProperty_170 : decode cX5_objectProperty 170 = .ok (.ireturn, 1) := by decide +kernel
theorem dX5_objectProperty_171 : decode cX5_objectProperty 171 = .ok (.aload_n 0, 1) := by decide +kernel
theorem dX5_objectProperty_172 : decode cX5_objectProperty 172 = .ok (.getfield 10, 3) := by decide +kernel
theorem dX5_objectProperty_175 : decode cX5_objectProperty 175 = .ok (.getfield 227, 3) := by decide +kernel
theorem dX5_objectProperty_178 : decode cX5_objectProperty 178 = .ok (.iload_n 1, 1) := by decide +kernel
theorem dX5_objectProperty_179 : decode cX5_objectProperty 179 = .ok (.iaload, 1) := by decide +kernel
theorem dX5_objectProperty_180 : decode cX5_objectProperty 180 = .ok (.ireturn, 1) := by decide +kernel
theorem dX5_objectProperty_181 : decode cX5_objectProperty 181 = .ok (.aload_n 0, 1) := by decide +kernel
theorem dX5_objectProperty_182 : decode cX5_objectProperty 182 = .ok (.getfield 10, 3) := by decide +kernel
theorem dX5_objectProperty_185 : decode cX5_objectProperty 185 = .ok (.iload_n 1, 1) := by decide +kernel
theorem dX5_objectProperty_186 : decode cX5_objectProperty 186 = .ok (.invokevirtual 230, 3) := by decide +kernel
theorem dX5_objectProperty_189 : decode cX5_objectProperty 189 = .ok (.ireturn, 1) := by decide +kernel
theorem dX5_objectProperty_190 : decode cX5_objectProperty 190 = .ok (.aload_n 0, 1) := by decide +kernel
theorem dX5_objectProperty_191 : decode cX5_objectProperty 191 = .ok (.iconst (-1), 1) := by decide +kernel
theorem dX5_objectProperty_192 : decode cX5_objectProperty 192 = .ok (.invokevirtual 233, 3) := by decide +kernel
theorem dX5_objectProperty_195 : decode cX5_objectProperty 195 = .ok (.iload_n 2, 1) := by decide +kernel
theorem dX5_objectProperty_196 : decode cX5_objectProperty 196 = .ok (.bipush 7, 2) := by decide +kernel
theorem dX5_objectProperty_198 : decode cX5_objectProperty 198 = .ok (.if_icmp .ne 17, 3) := by decide +kernel
theorem dX5_objectProperty_201 : decode cX5_objectProperty 201 = .ok (.aload_n 0, 1) := by decide +kernel
theorem dX5_objectProperty_202 : decode cX5_objectProperty 202 = .ok (.getfield 26, 3) := by decide +kernel
theorem dX5_objectProperty_205 : decode cX5_objectProperty 205 = .ok (.iload_n 1, 1) := by decide +kernel
theorem dX5_objectProperty_206 : decode cX5_objectProperty 206 = .ok (.invokevirtual 224, 3) := by decide +kernel
theorem dX5_objectProperty_209 : decode cX5_objectProperty 209 = .ok (.invokestatic 107, 3) := by decide +kernel
theorem dX5_objectProperty_212 : decode cX5_objectProperty 212 = .ok (.goto 11, 3) := by decide +kernel
theorem dX5_objectProperty_215 : decode cX5_objectProperty 215 = .ok (.aload_n 0, 1) := by decide +kernel
theorem dX5_objectProperty_216 : decode cX5_objectProperty 216 = .ok (.getfield 26, 3) := by decide +kernel
theorem dX5_objectProperty_219 : decode cX5_objectProperty 219 = .ok (.iload_n 1, 1) := by decide +kernel
theorem dX5_objectProperty_220 : decode cX5_objectProperty 220 = .ok (.invokevirtual 236, 3) := by decide +kernel
theorem dX5_objectProperty_223 : decode cX5_objectProperty 223 = .ok (.ireturn, 1) := by decide +kernel
theorem dX5_arena_0 : decode cX5_arena 0 = .ok (.iload_n 1, 1) := by decide +kernel
theorem dX5_arena_1 : decode cX5_arena 1 = .ok (.invokestatic 63, 3) := by decide +kernel
theorem dX5_arena_4 : decode cX5_arena 4 = .ok (.iload_n 2, 1) := by decide +kernel
theorem dX5_arena_5 : decode cX5_arena 5 = .ok (.ifCond .lt 9, 3) := by decide +kernel
theorem dX5_arena_8 : decode cX5_arena 8 = .ok (.iload_n 2, 1) := by decide +kernel
theorem dX5_arena_9 : decode cX5_arena 9 = .ok (.bipush 8, 2) := by decide +kernel
theorem dX5_arena_11 : decode cX5_arena 11 = .ok (.if_icmp .lt 13, 3) := by decide +kernel
theorem dX5_arena_14 : decode cX5_arena 14 = .ok (.new 66, 3) := by decide +kernel
theorem dX5_arena_17 : decode cX5_arena 17 = .ok (.dup, 1) := by decide +kernel
theorem dX5_arena_18 : decode cX5_arena 18 = .ok (.ldc 213, 2) := by decide +kernel
theorem dX5_arena_20 : decode cX5_arena 20 = .ok (.invokespecial 70, 3) := by decide +kernel
theorem dX5_arena_23 : decode cX5_arena 23 = .ok (.athrow, 1) := by decide +kernel
theorem dX5_arena_24 : decode cX5_arena 24 = .ok (.aload_n 0, 1) := by decide +kernel
theorem dX5_arena_25 : decode cX5_arena 25 = .ok (.iload_n 1, 1) := by decide +kernel
theorem dX5_arena_26 : decode cX5_arena 26 = .ok (.iload_n 2, 1) := by decide +kernel
theorem dX5_arena_27 : decode cX5_arena 27 = .ok (.invokevirtual 239, 3) := by decide +kernel
theorem dX5_arena_30 : decode cX5_arena 30 = .ok (.ireturn, 1) := by decide +kernel
theorem dX5_arenaProperty_0 : decode cX5_arenaProperty 0 = .ok (.iload_n 2, 1) := by decide +kernel
theorem dX5_arenaProperty_1 : decode cX5_arenaProperty 1 = .ok (.tableswitch 159 0 6 #[43, 55, 65, 74, 98, 123, 132], 43) := by decide +kernel
theorem dX5_arenaProperty_44 : decode cX5_arenaProperty 44 = .ok (.aload_n 0, 1) := by decide +kernel
theorem dX5_arenaProperty_45 : decode cX5_arenaProperty 45 = .ok (.getfield 10, 3) := by decide +kernel
theorem dX5_arenaProperty_48 : decode cX5_arenaProperty 48 = .ok (.iload_n 1, 1) := by decide +kernel
theorem dX5_arenaProperty_49 : decode cX5_arenaProperty 49 = .ok (.invokevirtual 74, 3) := by decide +kernel
theorem dX5_arenaProperty_52 : decode cX5_arenaProperty 52 = .ok (.invokestatic 107, 3) := by decide +kernel
theorem dX5_arenaProperty_55 : decode cX5_arenaProperty 55 = .ok (.ireturn, 1) := by decide +kernel
theorem dX5_arenaProperty_56 : decode cX5_arenaProperty 56 = .ok (.aload_n 0, 1) := by decide +kernel
theorem dX5_arenaProperty_57 : decode cX5_arenaProperty 57 = .ok (.getfield 10, 3) := by decide +kernel
theorem dX5_arenaProperty_60 : decode cX5_arenaProperty 60 = .ok (.getfield 242, 3) := by decide +kernel
theorem dX5_arenaProperty_63 : decode cX5_arenaProperty 63 = .ok (.iload_n 1, 1) := by decide +kernel
theorem dX5_arenaProperty_64 : decode cX5_arenaProperty 64 = .ok (.iaload, 1) := by decide +kernel
theorem dX5_arenaProperty_65 : decode cX5_arenaProperty 65 = .ok (.ireturn, 1) := by decide +kernel
theorem dX5_arenaProperty_66 : decode cX5_arenaProperty 66 = .ok (.aload_n 0, 1) := by decide +kernel
theorem dX5_arenaProperty_67 : decode cX5_arenaProperty 67 = .ok (.getfield 10, 3) := by decide +kernel
theorem dX5_arenaProperty_70 : decode cX5_arenaProperty 70 = .ok (.iload_n 1, 1) := by decide +kernel
theorem dX5_arenaProperty_71 : decode cX5_arenaProperty 71 = .ok (.invokevirtual 245, 3) := by decide +kernel
theorem dX5_arenaProperty_74 : decode cX5_arenaProperty 74 = .ok (.ireturn, 1) := by decide +kernel
theorem dX5_arenaProperty_75 : decode cX5_arenaProperty 75 = .ok (.aload_n 0, 1) := by decide +kernel
theorem dX5_arenaProperty_76 : decode cX5_arenaProperty 76 = .ok (.getfield 19, 3) := by decide +kernel
theorem dX5_arenaProperty_79 : decode cX5_arenaProperty 79 = .ok (.aload_n 0, 1) := by decide +kernel
theorem dX5_arenaProperty_80 : decode cX5_arenaProperty 80 = .ok (.getfield 10, 3) := by decide +kernel
theorem dX5_arenaProperty_83 : decode cX5_arenaProperty 83 = .ok (.iload_n 1, 1) := by decide +kernel
theorem dX5_arenaProperty_84 : decode cX5_arenaProperty 84 = .ok (.invokevirtual 136, 3) := by decide +kernel
theorem dX5_arenaProperty_87 : decode cX5_arenaProperty 87 = .ok (.aload_n 0, 1) := by decide +kernel
theorem dX5_arenaProperty_88 : decode cX5_arenaProperty 88 = .ok (.getfield 19, 3) := by decide +kernel
theorem dX5_arenaProperty_91 : decode cX5_arenaProperty 91 = .ok (.aload_n 0, 1) := by decide +kernel
theorem dX5_arenaProperty_92 : decode cX5_arenaProperty 92 = .ok (.getfield 10, 3) := by decide +kernel
theorem dX5_arenaProperty_95 : decode cX5_arenaProperty 95 = .ok (.invokevirtual 248, 3) := by decide +kernel
theorem dX5_arenaProperty_98 : decode cX5_arenaProperty 98 = .ok (.ireturn, 1) := by decide +kernel
theorem dX5_arenaProperty_99 : decode cX5_arenaProperty 99 = .ok (.aload_n 0, 1) := by decide +kernel
theorem dX5_arenaProperty_100 : decode cX5_arenaProperty 100 = .ok (.getfield 19, 3) := by decide +kernel
theorem dX5_arenaProperty_103 : decode cX5_arenaProperty 103 = .ok (.aload_n 0, 1) := by decide +kernel
theorem dX5_arenaProperty_104 : decode cX5_arenaProperty 104 = .ok (.getfield 10, 3) := by decide +kernel
theorem dX5_arenaProperty_107 : decode cX5_arenaProperty 107 = .ok (.iload_n 1, 1) := by decide +kernel
theorem dX5_arenaProperty_108 : decode cX5_arenaProperty 108 = .ok (.invokevirtual 136, 3) := by decide +kernel
theorem dX5_arenaProperty_111 : decode cX5_arenaProperty 111 = .ok (.aload_n 0, 1) := by decide +kernel
theorem dX5_arenaProperty_112 : decode cX5_arenaProperty 112 = .ok (.getfield 19, 3) := by decide +kernel
theorem dX5_arenaProperty_115 : decode cX5_arenaProperty 115 = .ok (.aload_n 0, 1) := by decide +kernel
theorem dX5_arenaProperty_116 : decode cX5_arenaProperty 116 = .ok (.getfield 10, 3) := by decide +kernel
theorem dX5_arenaProperty_119 : decode cX5_arenaProperty 119 = .ok (.iload_n 1, 1) := by decide +kernel
theorem dX5_arenaProperty_120 : decode cX5_arenaProperty 120 = .ok (.invokevirtual 252, 3) := by decide +kernel
theorem dX5_arenaProperty_123 : decode cX5_arenaProperty 123 = .ok (.ireturn, 1) := by decide +kernel
theorem dX5_arenaProperty_124 : decode cX5_arenaProperty 124 = .ok (.aload_n 0, 1) := by decide +kernel
theorem dX5_arenaProperty_125 : decode cX5_arenaProperty 125 = .ok (.getfield 10, 3) := by decide +kernel
theorem dX5_arenaProperty_128 : decode cX5_arenaProperty 128 = .ok (.iload_n 1, 1) := by decide +kernel
theorem dX5_arenaProperty_129 : decode cX5_arenaProperty 129 = .ok (.invokevirtual 118, 3) := by decide +kernel
theorem dX5_arenaProperty_132 : decode cX5_arenaProperty 132 = .ok (.ireturn, 1) := by decide +kernel
theorem dX5_arenaProperty_133 : decode cX5_arenaProperty 133 = .ok (.aload_n 0, 1) := by decide +kernel
theorem dX5_arenaProperty_134 : decode cX5_arenaProperty 134 = .ok (.getfield 19, 3) := by decide +kernel
theorem dX5_arenaProperty_137 : decode cX5_arenaProperty 137 = .ok (.aload_n 0, 1) := by decide +kernel
theorem dX5_arenaProperty_138 : decode cX5_arenaProperty 138 = .ok (.getfield 10, 3) := by decide +kernel
theorem dX5_arenaProperty_141 : decode cX5_arenaProperty 141 = .ok (.iload_n 1, 1) := by decide +kernel
theorem dX5_arenaProperty_142 : decode cX5_arenaProperty 142 = .ok (.invokevirtual 136, 3) := by decide +kernel
theorem dX5_arenaProperty_145 : decode cX5_arenaProperty 145 = .ok (.aload_n 0, 1) := by decide +kernel
theorem dX5_arenaProperty_146 : decode cX5_arenaProperty 146 = .ok (.getfield 19, 3) := by decide +kernel
theorem dX5_arenaProperty_149 : decode cX5_arenaProperty 149 = .ok (.aload_n 0, 1) := by decide +kernel
theorem dX5_arenaProperty_150 : decode cX5_arenaProperty 150 = .ok (.getfield 10, 3) := by decide +kernel
theorem dX5_arenaProperty_153 : decode cX5_arenaProperty 153 = .ok (.invokevirtual 256, 3) := by decide +kernel
theorem dX5_arenaProperty_156 : decode cX5_arenaProperty 156 = .ok (.invokestatic 107, 3) := by decide +kernel
theorem dX5_arenaProperty_159 : decode cX5_arenaProperty 159 = .ok (.ireturn, 1) := by decide +kernel
theorem dX5_arenaProperty_160 : decode cX5_arenaProperty 160 = .ok (.aload_n 0, 1) := by decide +kernel
theorem dX5_arenaProperty_161 : decode cX5_arenaProperty 161 = .ok (.getfield 10, 3) := by decide +kernel
theorem dX5_arenaProperty_164 : decode cX5_arenaProperty 164 = .ok (.getfield 260, 3) := by decide +kernel
theorem dX5_arenaProperty_167 : decode cX5_arenaProperty 167 = .ok (.iload_n 1, 1) := by decide +kernel
theorem dX5_arenaProperty_168 : decode cX5_arenaProperty 168 = .ok (.iaload, 1) := by decide +kernel
theorem dX5_arenaProperty_169 : decode cX5_arenaProperty 169 = .ok (.ireturn, 1) := by decide +kernel
theorem dX5_at_0 : decode cX5_at 0 = .ok (.iload_n 1, 1) := by decide +kernel
theorem dX5_at_1 : decode cX5_at 1 = .ok (.invokestatic 63, 3) := by decide +kernel
theorem dX5_at_4 : decode cX5_at 4 = .ok (.iload_n 2, 1) := by decide +kernel
theorem dX5_at_5 : decode cX5_at 5 = .ok (.ifCond .lt 9, 3) := by decide +kernel
theorem dX5_at_8 : decode cX5_at 8 = .ok (.iload_n 2, 1) := by decide +kernel
theorem dX5_at_9 : decode cX5_at 9 = .ok (.bipush 64, 2) := by decide +kernel
theorem dX5_at_11 : decode cX5_at 11 = .ok (.if_icmp .lt 14, 3) := by decide +kernel
theorem dX5_at_14 : decode cX5_at 14 = .ok (.new 91, 3) := by decide +kernel
theorem dX5_at_17 : decode cX5_at 17 = .ok (.dup, 1) := by decide +kernel
theorem dX5_at_18 : decode cX5_at 18 = .ok (.ldc_w 263, 3) := by decide +kernel
theorem dX5_at_21 : decode cX5_at 21 = .ok (.invokespecial 95, 3) := by decide +kernel
theorem dX5_at_24 : decode cX5_at 24 = .ok (.athrow, 1) := by decide +kernel
theorem dX5_at_25 : decode cX5_at 25 = .ok (.aload_n 0, 1) := by decide +kernel
theorem dX5_at_26 : decode cX5_at 26 = .ok (.getfield 10, 3) := by decide +kernel
theorem dX5_at_29 : decode cX5_at 29 = .ok (.iload_n 1, 1) := by decide +kernel
theorem dX5_at_30 : decode cX5_at 30 = .ok (.iload_n 2, 1) := by decide +kernel
theorem dX5_at_31 : decode cX5_at 31 = .ok (.invokevirtual 265, 3) := by decide +kernel
theorem dX5_at_34 : decode cX5_at 34 = .ok (.ireturn, 1) := by decide +kernel
theorem dX5_count_0 : decode cX5_count 0 = .ok (.iload_n 1, 1) := by decide +kernel
theorem dX5_count_1 : decode cX5_count 1 = .ok (.ifCond .lt 9, 3) := by decide +kernel
theorem dX5_count_4 : decode cX5_count 4 = .ok (.iload_n 1, 1) := by decide +kernel
theorem dX5_count_5 : decode cX5_count 5 = .ok (.bipush 11, 2) := by decide +kernel
theorem dX5_count_7 : decode cX5_count 7 = .ok (.if_icmp .lt 14, 3) := by decide +kernel
theorem dX5_count_10 : decode cX5_count 10 = .ok (.new 66, 3) := by decide +kernel
theorem dX5_count_13 : decode cX5_count 13 = .ok (.dup, 1) := by decide +kernel
theorem dX5_count_14 : decode cX5_count 14 = .ok (.ldc_w 268, 3) := by decide +kernel
theorem dX5_count_17 : decode cX5_count 17 = .ok (.invokespecial 70, 3) := by decide +kernel
theorem dX5_count_20 : decode cX5_count 20 = .ok (.athrow, 1) := by decide +kernel
theorem dX5_count_21 : decode cX5_count 21 = .ok (.aload_n 0, 1) := by decide +kernel
theorem dX5_count_22 : decode cX5_count 22 = .ok (.iload_n 1, 1) := by decide +kernel
theorem dX5_count_23 : decode cX5_count 23 = .ok (.invokevirtual 270, 3) := by decide +kernel
theorem dX5_count_26 : decode cX5_count 26 = .ok (.ireturn, 1) := by decide +kernel
theorem dX5_number_0 : decode cX5_number 0 = .ok (.iload_n 1, 1) := by decide +kernel
theorem dX5_number_1 : decode cX5_number 1 = .ok (.tableswitch 142 0 9 #[55, 63, 76, 84, 92, 101, 110, 118, 126, 134], 55) := by decide +kernel
theorem dX5_number_56 : decode cX5_number 56 = .ok (.aload_n 0, 1) := by decide +kernel
theorem dX5_number_57 : decode cX5_number 57 = .ok (.getfield 10, 3) := by decide +kernel
theorem dX5_number_60 : decode cX5_number 60 = .ok (.invokevirtual 273, 3) := by decide +kernel
theorem dX5_number_63 : decode cX5_number 63 = .ok (.ireturn, 1) := by decide +kernel
theorem dX5_number_64 : decode cX5_number 64 = .ok (.aload_n 0, 1) := by decide +kernel
theorem dX5_number_65 : decode cX5_number 65 = .ok (.iconst (-1), 1) := by decide +kernel
theorem dX5_number_66 : decode cX5_number 66 = .ok (.invokevirtual 233, 3) := by decide +kernel
theorem dX5_number_69 : decode cX5_number 69 = .ok (.aload_n 0, 1) := by decide +kernel
theorem dX5_number_70 : decode cX5_number 70 = .ok (.getfield 26, 3) := by decide +kernel
theorem dX5_number_73 : decode cX5_number 73 = .ok (.getfield 143, 3) := by decide +kernel
theorem dX5_number_76 : decode cX5_number 76 = .ok (.ireturn, 1) := by decide +kernel
theorem dX5_number_77 : decode cX5_number 77 = .ok (.aload_n 0, 1) := by decide +kernel
theorem dX5_number_78 : decode cX5_number 78 = .ok (.getfield 10, 3) := by decide +kernel
theorem dX5_number_81 : decode cX5_number 81 = .ok (.invokevirtual 276, 3) := by decide +kernel
theorem dX5_number_84 : decode cX5_number 84 = .ok (.ireturn, 1) := by decide +kernel
theorem dX5_number_85 : decode cX5_number 85 = .ok (.aload_n 0, 1) := by decide +kernel
theorem dX5_number_86 : decode cX5_number 86 = .ok (.getfield 10, 3) := by decide +kernel
theorem dX5_number_89 : decode cX5_number 89 = .ok (.invokevirtual 279, 3) := by decide +kernel
theorem dX5_number_92 : decode cX5_number 92 = .ok (.ireturn, 1) := by decide +kernel
theorem dX5_number_93 : decode cX5_number 93 = .ok (.aload_n 0, 1) := by decide +kernel
theorem dX5_number_94 : decode cX5_number 94 = .ok (.getfield 10, 3) := by decide +kernel
theorem dX5_number_97 : decode cX5_number 97 = .ok (.iconst 0, 1) := by decide +kernel
theorem dX5_number_98 : decode cX5_number 98 = .ok (.invokevirtual 282, 3) := by decide +kernel
theorem dX5_number_101 : decode cX5_number 101 = .ok (.ireturn, 1) := by decide +kernel
theorem dX5_number_102 : decode cX5_number 102 = .ok (.aload_n 0, 1) := by decide +kernel
theorem dX5_number_103 : decode cX5_number 103 = .ok (.getfield 10, 3) := by decide +kernel
theorem dX5_number_106 : decode cX5_number 106 = .ok (.iconst 1, 1) := by decide +kernel
theorem dX5_number_107 : decode cX5_number 107 = .ok (.invokevirtual 282, 3) := by decide +kernel
theorem dX5_number_110 : decode cX5_number 110 = .ok (.ireturn, 1) := by decide +kernel
theorem dX5_number_111 : decode cX5_number 111 = .ok (.aload_n 0, 1) := by decide +kernel
theorem dX5_number_112 : decode cX5_number 112 = .ok (.getfield 10, 3) := by decide +kernel
theorem dX5_number_115 : decode cX5_number 115 = .ok (.getfield 285, 3) := by decide +kernel
theorem dX5_number_118 : decode cX5_number 118 = .ok (.ireturn, 1) := by decide +kernel
theorem dX5_number_119 : decode cX5_number 119 = .ok (.aload_n 0, 1) := by decide +kernel
theorem dX5_number_120 : decode cX5_number 120 = .ok (.getfield 10, 3) := by decide +kernel
theorem dX5_number_123 : decode cX5_number 123 = .ok (.getfield 288, 3) := by decide +kernel
theorem dX5_number_126 : decode cX5_number 126 = .ok (.ireturn, 1) := by decide +kernel
theorem dX5_number_127 : decode cX5_number 127 = .ok (.aload_n 0, 1) := by decide +kernel
theorem dX5_number_128 : decode cX5_number 128 = .ok (.getfield 10, 3) := by decide +kernel
theorem dX5_number_131 : decode cX5_number 131 = .ok (.getfield 291, 3) := by decide +kernel
theorem dX5_number_134 : decode cX5_number 134 = .ok (.ireturn, 1) := by decide +kernel
theorem dX5_number_135 : decode cX5_number 135 = .ok (.aload_n 0, 1) := by decide +kernel
theorem dX5_number_136 : decode cX5_number 136 = .ok (.getfield 10, 3) := by decide +kernel
theorem dX5_number_139 : decode cX5_number 139 = .ok (.getfield 294, 3) := by decide +kernel
theorem dX5_number_142 : decode cX5_number 142 = .ok (.ireturn, 1) := by decide +kernel
theorem dX5_number_143 : decode cX5_number 143 = .ok (.aload_n 0, 1) := by decide +kernel
theorem dX5_number_144 : decode cX5_number 144 = .ok (.getfield 40, 3) := by decide +kernel
theorem dX5_number_147 : decode cX5_number 147 = .ok (.getfield 205, 3) := by decide +kernel
theorem dX5_number_150 : decode cX5_number 150 = .ok (.ireturn, 1) := by decide +kernel
theorem dX5_setting_0 : decode cX5_setting 0 = .ok (.iload_n 1, 1) := by decide +kernel
theorem dX5_setting_1 : decode cX5_setting 1 = .ok (.invokestatic 149, 3) := by decide +kernel
theorem dX5_setting_4 : decode cX5_setting 4 = .ok (.aload_n 0, 1) := by decide +kernel
theorem dX5_setting_5 : decode cX5_setting 5 = .ok (.getfield 10, 3) := by decide +kernel
theorem dX5_setting_8 : decode cX5_setting 8 = .ok (.getfield 154, 3) := by decide +kernel
theorem dX5_setting_11 : decode cX5_setting 11 = .ok (.iload_n 1, 1) := by decide +kernel
theorem dX5_setting_12 : decode cX5_setting 12 = .ok (.iaload, 1) := by decide +kernel
theorem dX5_setting_13 : decode cX5_setting 13 = .ok (.ireturn, 1) := by decide +kernel
theorem dX5_ifLost_0 : decode cX5_ifLost 0 = .ok (.aload_n 0, 1) := by decide +kernel
theorem dX5_ifLost_1 : decode cX5_ifLost 1 = .ok (.iload_n 1, 1) := by decide +kernel
theorem dX5_ifLost_2 : decode cX5_ifLost 2 = .ok (.invokevirtual 88, 3) := by decide +kernel
theorem dX5_ifLost_5 : decode cX5_ifLost 5 = .ok (.aload_n 0, 1) := by decide +kernel
theorem dX5_ifLost_6 : decode cX5_ifLost 6 = .ok (.iload_n 1, 1) := by decide +kernel
theorem dX5_ifLost_7 : decode cX5_ifLost 7 = .ok (.invokevirtual 300, 3) := by decide +kernel
theorem dX5_ifLost_10 : decode cX5_ifLost 10 = .ok (.ireturn, 1) := by decide +kernel
theorem dX5_lostWith_0 : decode cX5_lostWith 0 = .ok (.aload_n 0, 1) := by decide +kernel
theorem dX5_lostWith_1 : decode cX5_lostWith 1 = .ok (.iconst (-1), 1) := by decide +kernel
theorem dX5_lostWith_2 : decode cX5_lostWith 2 = .ok (.invokevirtual 233, 3) := by decide +kernel
theorem dX5_lostWith_5 : decode cX5_lostWith 5 = .ok (.aload_n 0, 1) := by decide +kernel
theorem dX5_lostWith_6 : decode cX5_lostWith 6 = .ok (.getfield 26, 3) := by decide +kernel
theorem dX5_lostWith_9 : decode cX5_lostWith 9 = .ok (.getfield 143, 3) := by decide +kernel
theorem dX5_lostWith_12 : decode cX5_lostWith 12 = .ok (.istore_n 2, 1) := by decide +kernel
theorem dX5_lostWith_13 : decode cX5_lostWith 13 = .ok (.aload_n 0, 1) := by decide +kernel
theorem dX5_lostWith_14 : decode cX5_lostWith 14 = .ok (.iload_n 1, 1) := by decide +kernel
theorem dX5_lostWith_15 : decode cX5_lostWith 15 = .ok (.invokevirtual 233, 3) := by decide +kernel
theorem dX5_lostWith_18 : decode cX5_lostWith 18 = .ok (.iload_n 2, 1) := by decide +kernel
theorem dX5_lostWith_19 : decode cX5_lostWith 19 = .ok (.aload_n 0, 1) := by decide +kernel
theorem dX5_lostWith_20 : decode cX5_lostWith 20 = .ok (.getfield 26, 3) := by decide +kernel
theorem dX5_lostWith_23 : decode cX5_lostWith 23 = .ok (.getfield 143, 3) := by decide +kernel
theorem dX5_lostWith_26 : decode cX5_lostWith 26 = .ok (.isub, 1) := by decide +kernel
theorem dX5_lostWith_27 : decode cX5_lostWith 27 = .ok (.ireturn, 1) := by decide +kernel
theorem dX5_traceRoots_0 : decode cX5_traceRoots 0 = .ok (.aload_n 0, 1) := by decide +kernel
theorem dX5_traceRoots_1 : decode cX5_traceRoots 1 = .ok (.getfield 26, 3) := by decide +kernel
theorem dX5_traceRoots_4 : decode cX5_traceRoots 4 = .ok (.aload_n 0, 1) := by decide +kernel
theorem dX5_traceRoots_5 : decode cX5_traceRoots 5 = .ok (.getfield 10, 3) := by decide +kernel
theorem dX5_traceRoots_8 : decode cX5_traceRoots 8 = .ok (.iload_n 1, 1) := by decide +kernel
theorem dX5_traceRoots_9 : decode cX5_traceRoots 9 = .ok (.invokevirtual 303, 3) := by decide +kernel
theorem dX5_traceRoots_12 : decode cX5_traceRoots 12 = .ok (.aload_n 0, 1) := by decide +kernel
theorem dX5_traceRoots_13 : decode cX5_traceRoots 13 = .ok (.getfield 26, 3) := by decide +kernel
theorem dX5_traceRoots_16 : decode cX5_traceRoots 16 = .ok (.aload_n 0, 1) := by decide +kernel
theorem dX5_traceRoots_17 : decode cX5_traceRoots 17 = .ok (.getfield 10, 3) := by decide +kernel
theorem dX5_traceRoots_20 : decode cX5_traceRoots 20 = .ok (.iconst (-1), 1) := by decide +kernel
theorem dX5_traceRoots_21 : decode cX5_traceRoots 21 = .ok (.iload_n 1, 1) := by decide +kernel
theorem dX5_traceRoots_22 : decode cX5_traceRoots 22 = .ok (.invokevirtual 306, 3) := by decide +kernel
theorem dX5_traceRoots_25 : decode cX5_traceRoots 25 = .ok (.return_, 1) := by decide +kernel
theorem dX5_best_0 : decode cX5_best 0 = .ok (.iconst (-1), 1) := by decide +kernel
theorem dX5_best_1 : decode cX5_best 1 = .ok (.istore_n 1, 1) := by decide +kernel
theorem dX5_best_2 : decode cX5_best 2 = .ok (.iconst (-1), 1) := by decide +kernel
theorem dX5_best_3 : decode cX5_best 3 = .ok (.istore_n 2, 1) := by decide +kernel
theorem dX5_best_4 : decode cX5_best 4 = .ok (.iconst 0, 1) := by decide +kernel
theorem dX5_best_5 : decode cX5_best 5 = .ok (.istore_n 3, 1) := by decide +kernel
theorem dX5_best_6 : decode cX5_best 6 = .ok (.iload_n 3, 1) := by decide +kernel
theorem dX5_best_7 : decode cX5_best 7 = .ok (.bipush 6, 2) := by decide +kernel
theorem dX5_best_9 : decode cX5_best 9 = .ok (.if_icmp .ge 81, 3) := by decide +kernel
theorem dX5_best_12 : decode cX5_best 12 = .ok (.iconst 0, 1) := by decide +kernel
theorem dX5_best_13 : decode cX5_best 13 = .ok (.istore 4, 2) := by decide +kernel
theorem dX5_best_15 : decode cX5_best 15 = .ok (.iload 4, 2) := by decide +kernel
theorem dX5_best_17 : decode cX5_best 17 = .ok (.bipush 6, 2) := by decide +kernel
theorem dX5_best_19 : decode cX5_best 19 = .ok (.if_icmp .ge 65, 3) := by decide +kernel
theorem dX5_best_22 : decode cX5_best 22 = .ok (.aload_n 0, 1) := by decide +kernel
theorem dX5_best_23 : decode cX5_best 23 = .ok (.getfield 19, 3) := by decide +kernel
theorem dX5_best_26 : decode cX5_best 26 = .ok (.aload_n 0, 1) := by decide +kernel
theorem dX5_best_27 : decode cX5_best 27 = .ok (.getfield 10, 3) := by decide +kernel
theorem dX5_best_30 : decode cX5_best 30 = .ok (.iload_n 3, 1) := by decide +kernel
theorem dX5_best_31 : decode cX5_best 31 = .ok (.iload 4, 2) := by decide +kernel
theorem dX5_best_33 : decode cX5_best 33 = .ok (.invokevirtual 124, 3) := by decide +kernel
theorem dX5_best_36 : decode cX5_best 36 = .ok (.ifCond .ne 42, 3) := by decide +kernel
theorem dX5_best_39 : decode cX5_best 39 = .ok (.aload_n 0, 1) := by decide +kernel
theorem dX5_best_40 : decode cX5_best 40 = .ok (.getfield 19, 3) := by decide +kernel
theorem dX5_best_43 : decode cX5_best 43 = .ok (.aload_n 0, 1) := by decide +kernel
theorem dX5_best_44 : decode cX5_best 44 = .ok (.getfield 10, 3) := by decide +kernel
theorem dX5_best_47 : decode cX5_best 47 = .ok (.iload_n 3, 1) := by decide +kernel
theorem dX5_best_48 : decode cX5_best 48 = .ok (.invokevirtual 252, 3) := by decide +kernel
theorem dX5_best_51 : decode cX5_best 51 = .ok (.istore 5, 2) := by decide +kernel
theorem dX5_best_53 : decode cX5_best 53 = .ok (.iload 5, 2) := by decide +kernel
theorem dX5_best_55 : decode cX5_best 55 = .ok (.iload_n 2, 1) := by decide +kernel
theorem dX5_best_56 : decode cX5_best 56 = .ok (.if_icmp .le 7, 3) := by decide +kernel
theorem dX5_best_59 : decode cX5_best 59 = .ok (.iload_n 3, 1) := by decide +kernel
theorem dX5_best_60 : decode cX5_best 60 = .ok (.goto 4, 3) := by decide +kernel
theorem dX5_best_63 : decode cX5_best 63 = .ok (.iload_n 1, 1) := by decide +kernel
theorem dX5_best_64 : decode cX5_best 64 = .ok (.istore_n 1, 1) := by decide +kernel
theorem dX5_best_65 : decode cX5_best 65 = .ok (.iload 5, 2) := by decide +kernel
theorem dX5_best_67 : decode cX5_best 67 = .ok (.iload_n 2, 1) := by decide +kernel
theorem dX5_best_68 : decode cX5_best 68 = .ok (.if_icmp .le 8, 3) := by decide +kernel
theorem dX5_best_71 : decode cX5_best 71 = .ok (.iload 5, 2) := by decide +kernel
theorem dX5_best_73 : decode cX5_best 73 = .ok (.goto 4, 3) := by decide +kernel
theorem dX5_best_76 : decode cX5_best 76 = .ok (.iload_n 2, 1) := by decide +kernel
theorem dX5_best_77 : decode cX5_best 77 = .ok (.istore_n 2, 1) := by decide +kernel
theorem dX5_best_78 : decode cX5_best 78 = .ok (.iinc 4 1, 3) := by decide +kernel
theorem dX5_best_81 : decode cX5_best 81 = .ok (.goto (-66), 3) := by decide +kernel
theorem dX5_best_84 : decode cX5_best 84 = .ok (.iinc 3 1, 3) := by decide +kernel
theorem dX5_best_87 : decode cX5_best 87 = .ok (.goto (-81), 3) := by decide +kernel
theorem dX5_best_90 : decode cX5_best 90 = .ok (.iload_n 1, 1) := by decide +kernel
theorem dX5_best_91 : decode cX5_best 91 = .ok (.ireturn, 1) := by decide +kernel
theorem dX5_livingShare_0 : decode cX5_livingShare 0 = .ok (.iconst 0, 1) := by decide +kernel
theorem dX5_livingShare_1 : decode cX5_livingShare 1 = .ok (.istore_n 1, 1) := by decide +kernel
theorem dX5_livingShare_2 : decode cX5_livingShare 2 = .ok (.iconst 0, 1) := by decide +kernel
theorem dX5_livingShare_3 : decode cX5_livingShare 3 = .ok (.istore_n 2, 1) := by decide +kernel
theorem dX5_livingShare_4 : decode cX5_livingShare 4 = .ok (.iload_n 2, 1) := by decide +kernel
theorem dX5_livingShare_5 : decode cX5_livingShare 5 = .ok (.bipush 6, 2) := by decide +kernel
theorem dX5_livingShare_7 : decode cX5_livingShare 7 = .ok (.if_icmp .ge 21, 3) := by decide +kernel
theorem dX5_livingShare_10 : decode cX5_livingShare 10 = .ok (.iload_n 1, 1) := by decide +kernel
theorem dX5_livingShare_11 : decode cX5_livingShare 11 = .ok (.aload_n 0, 1) := by decide +kernel
theorem dX5_livingShare_12 : decode cX5_livingShare 12 = .ok (.getfield 10, 3) := by decide +kernel
theorem dX5_livingShare_15 : decode cX5_livingShare 15 = .ok (.getfield 242, 3) := by decide +kernel
theorem dX5_livingShare_18 : decode cX5_livingShare 18 = .ok (.iload_n 2, 1) := by decide +kernel
theorem dX5_livingShare_19 : decode cX5_livingShare 19 = .ok (.iaload, 1) := by decide +kernel
theorem dX5_livingShare_20 : decode cX5_livingShare 20 = .ok (.iadd, 1) := by decide +kernel
theorem dX5_livingShare_21 : decode cX5_livingShare 21 = .ok (.istore_n 1, 1) := by decide +kernel
theorem dX5_livingShare_22 : decode cX5_livingShare 22 = .ok (.iinc 2 1, 3) := by decide +kernel
theorem dX5_livingShare_25 : decode cX5_livingShare 25 = .ok (.goto (-21), 3) := by decide +kernel
theorem dX5_livingShare_28 : decode cX5_livingShare 28 = .ok (.iload_n 1, 1) := by decide +kernel
theorem dX5_livingShare_29 : decode cX5_livingShare 29 = .ok (.ifCond .gt 5, 3) := by decide +kernel
theorem dX5_livingShare_32 : decode cX5_livingShare 32 = .ok (.dconst 1, 1) := by decide +kernel
theorem dX5_livingShare_33 : decode cX5_livingShare 33 = .ok (.dreturn, 1) := by decide +kernel
theorem dX5_livingShare_34 : decode cX5_livingShare 34 = .ok (.aload_n 0, 1) := by decide +kernel
theorem dX5_livingShare_35 : decode cX5_livingShare 35 = .ok (.iconst (-1), 1) := by decide +kernel
theorem dX5_livingShare_36 : decode cX5_livingShare 36 = .ok (.invokevirtual 233, 3) := by decide +kernel
theorem dX5_livingShare_39 : decode cX5_livingShare 39 = .ok (.aload_n 0, 1) := by decide +kernel
theorem dX5_livingShare_40 : decode cX5_livingShare 40 = .ok (.getfield 26, 3) := by decide +kernel
theorem dX5_livingShare_43 : decode cX5_livingShare 43 = .ok (.aload_n 0, 1) := by decide +kernel
theorem dX5_livingShare_44 : decode cX5_livingShare 44 = .ok (.getfield 10, 3) := by decide +kernel
theorem dX5_livingShare_47 : decode cX5_livingShare 47 = .ok (.invokevirtual 310, 3) := by decide +kernel
theorem dX5_livingShare_50 : decode cX5_livingShare 50 = .ok (.i2d, 1) := by decide +kernel
theorem dX5_livingShare_51 : decode cX5_livingShare 51 = .ok (.iload_n 1, 1) := by decide +kernel
theorem dX5_livingShare_52 : decode cX5_livingShare 52 = .ok (.i2d, 1) := by decide +kernel
theorem dX5_livingShare_53 : decode cX5_livingShare 53 = .ok (.ddiv, 1) := by decide +kernel
theorem dX5_livingShare_54 : decode cX5_livingShare 54 = .ok (.dreturn, 1) := by decide +kernel
theorem dX5_oneIf_0 : decode cX5_oneIf 0 = .ok (.iload_n 0, 1) := by decide +kernel
theorem dX5_oneIf_1 : decode cX5_oneIf 1 = .ok (.ifCond .eq 7, 3) := by decide +kernel
theorem dX5_oneIf_4 : decode cX5_oneIf 4 = .ok (.iconst 1, 1) := by decide +kernel
theorem dX5_oneIf_5 : decode cX5_oneIf 5 = .ok (.goto 4, 3) := by decide +kernel
theorem dX5_oneIf_8 : decode cX5_oneIf 8 = .ok (.iconst 0, 1) := by decide +kernel
theorem dX5_oneIf_9 : decode cX5_oneIf 9 = .ok (.ireturn, 1) := by decide +kernel
theorem dX5_isArena_0 : decode cX5_isArena 0 = .ok (.iload_n 0, 1) := by decide +kernel
theorem dX5_isArena_1 : decode cX5_isArena 1 = .ok (.ifCond .lt 13, 3) := by decide +kernel
theorem dX5_isArena_4 : decode cX5_isArena 4 = .ok (.iload_n 0, 1) := by decide +kernel
theorem dX5_isArena_5 : decode cX5_isArena 5 = .ok (.bipush 6, 2) := by decide +kernel
theorem dX5_isArena_7 : decode cX5_isArena 7 = .ok (.if_icmp .ge 7, 3) := by decide +kernel
theorem dX5_isArena_10 : decode cX5_isArena 10 = .ok (.iconst 1, 1) := by decide +kernel
theorem dX5_isArena_11 : decode cX5_isArena 11 = .ok (.goto 4, 3) := by decide +kernel
theorem dX5_isArena_14 : decode cX5_isArena 14 = .ok (.iconst 0, 1) := by decide +kernel
theorem dX5_isArena_15 : decode cX5_isArena 15 = .ok (.ireturn, 1) := by decide +kernel
theorem dX5_isNumber_0 : decode cX5_isNumber 0 = .ok (.iload_n 0, 1) := by decide +kernel
theorem dX5_isNumber_1 : decode cX5_isNumber 1 = .ok (.ifCond .lt 13, 3) := by decide +kernel
theorem dX5_isNumber_4 : decode cX5_isNumber 4 = .ok (.iload_n 0, 1) := by decide +kernel
theorem dX5_isNumber_5 : decode cX5_isNumber 5 = .ok (.bipush 24, 2) := by decide +kernel
theorem dX5_isNumber_7 : decode cX5_isNumber 7 = .ok (.if_icmp .ge 7, 3) := by decide +kernel
theorem dX5_isNumber_10 : decode cX5_isNumber 10 = .ok (.iconst 1, 1) := by decide +kernel
theorem dX5_isNumber_11 : decode cX5_isNumber 11 = .ok (.goto 4, 3) := by decide +kernel
theorem dX5_isNumber_14 : decode cX5_isNumber 14 = .ok (.iconst 0, 1) := by decide +kernel
theorem dX5_isNumber_15 : decode cX5_isNumber 15 = .ok (.ireturn, 1) := by decide +kernel
theorem dX5_refuseNoArena_0 : decode cX5_refuseNoArena 0 = .ok (.iload_n 0, 1) := by decide +kernel
theorem dX5_refuseNoArena_1 : decode cX5_refuseNoArena 1 = .ok (.invokestatic 345, 3) := by decide +kernel
theorem dX5_refuseNoArena_4 : decode cX5_refuseNoArena 4 = .ok (.ifCond .ne 14, 3) := by decide +kernel
theorem dX5_refuseNoArena_7 : decode cX5_refuseNoArena 7 = .ok (.new 91, 3) := by decide +kernel
theorem dX5_refuseNoArena_10 : decode cX5_refuseNoArena 10 = .ok (.dup, 1) := by decide +kernel
theorem dX5_refuseNoArena_11 : decode cX5_refuseNoArena 11 = .ok (.ldc_w 348, 3) := by decide +kernel
theorem dX5_refuseNoArena_14 : decode cX5_refuseNoArena 14 = .ok (.invokespecial 95, 3) := by decide +kernel
theorem dX5_refuseNoArena_17 : decode cX5_refuseNoArena 17 = .ok (.athrow, 1) := by decide +kernel
theorem dX5_refuseNoArena_18 : decode cX5_refuseNoArena 18 = .ok (.return_, 1) := by decide +kernel
theorem dX5_refuseNoObject_0 : decode cX5_refuseNoObject 0 = .ok (.aload_n 0, 1) := by decide +kernel
theorem dX5_refuseNoObject_1 : decode cX5_refuseNoObject 1 = .ok (.getfield 10, 3) := by decide +kernel
theorem dX5_refuseNoObject_4 : decode cX5_refuseNoObject 4 = .ok (.iload_n 1, 1) := by decide +kernel
theorem dX5_refuseNoObject_5 : decode cX5_refuseNoObject 5 = .ok (.invokevirtual 198, 3) := by decide +kernel
theorem dX5_refuseNoObject_8 : decode cX5_refuseNoObject 8 = .ok (.ifCond .ne 14, 3) := by decide +kernel
theorem dX5_refuseNoObject_11 : decode cX5_refuseNoObject 11 = .ok (.new 91, 3) := by decide +kernel
theorem dX5_refuseNoObject_14 : decode cX5_refuseNoObject 14 = .ok (.dup, 1) := by decide +kernel
theorem dX5_refuseNoObject_15 : decode cX5_refuseNoObject 15 = .ok (.ldc_w 350, 3) := by decide +kernel
theorem dX5_refuseNoObject_18 : decode cX5_refuseNoObject 18 = .ok (.invokespecial 95, 3) := by decide +kernel
theorem dX5_refuseNoObject_21 : decode cX5_refuseNoObject 21 = .ok (.athrow, 1) := by decide +kernel
theorem dX5_refuseNoObject_22 : decode cX5_refuseNoObject 22 = .ok (.return_, 1) := by decide +kernel
theorem dX5_refuseNoSetting_0 : decode cX5_refuseNoSetting 0 = .ok (.iload_n 0, 1) := by decide +kernel
theorem dX5_refuseNoSetting_1 : decode cX5_refuseNoSetting 1 = .ok (.ifCond .lt 8, 3) := by decide +kernel
theorem dX5_refuseNoSetting_4 : decode cX5_refuseNoSetting 4 = .ok (.iload_n 0, 1) := by decide +kernel
theorem dX5_refuseNoSetting_5 : decode cX5_refuseNoSetting 5 = .ok (.iconst 2, 1) := by decide +kernel
theorem dX5_refuseNoSetting_6 : decode cX5_refuseNoSetting 6 = .ok (.if_icmp .lt 14, 3) := by decide +kernel
theorem dX5_refuseNoSetting_9 : decode cX5_refuseNoSetting 9 = .ok (.new 91, 3) := by decide +kernel
theorem dX5_refuseNoSetting_12 : decode cX5_refuseNoSetting 12 = .ok (.dup, 1) := by decide +kernel
theorem dX5_refuseNoSetting_13 : decode cX5_refuseNoSetting 13 = .ok (.ldc_w 352, 3) := by decide +kernel
theorem dX5_refuseNoSetting_16 : decode cX5_refuseNoSetting 16 = .ok (.invokespecial 95, 3) := by decide +kernel
theorem dX5_refuseNoSetting_19 : decode cX5_refuseNoSetting 19 = .ok (.athrow, 1) := by decide +kernel
theorem dX5_refuseNoSetting_20 : decode cX5_refuseNoSetting 20 = .ok (.return_, 1) := by decide +kernel
theorem dL_low_0 : decode cL_low 0 = .ok (.iload_n 0, 1) := by decide +kernel
theorem dL_low_1 : decode cL_low 1 = .ok (.ldc 7, 2) := by decide +kernel
theorem dL_low_3 : decode cL_low 3 = .ok (.iand, 1) := by decide +kernel
theorem dL_low_4 : decode cL_low 4 = .ok (.iload_n 1, 1) := by decide +kernel
theorem dL_low_5 : decode cL_low 5 = .ok (.irem, 1) := by decide +kernel
theorem dL_low_6 : decode cL_low 6 = .ok (.ireturn, 1) := by decide +kernel
theorem dL_cell_0 : decode cL_cell 0 = .ok (.iload_n 1, 1) := by decide +kernel
theorem dL_cell_1 : decode cL_cell 1 = .ok (.aload_n 0, 1) := by decide +kernel
theorem dL_cell_2 : decode cL_cell 2 = .ok (.arraylength, 1) := by decide +kernel
theorem dL_cell_3 : decode cL_cell 3 = .ok (.if_icmp .ge 9, 3) := by decide +kernel
theorem dL_cell_6 : decode cL_cell 6 = .ok (.aload_n 0, 1) := by decide +kernel
theorem dL_cell_7 : decode cL_cell 7 = .ok (.iload_n 1, 1) := by decide +kernel
theorem dL_cell_8 : decode cL_cell 8 = .ok (.iaload, 1) := by decide +kernel
theorem dL_cell_9 : decode cL_cell 9 = .ok (.goto 11, 3) := by decide +kernel
theorem dL_cell_12 : decode cL_cell 12 = .ok (.ldc 8, 2) := by decide +kernel
theorem dL_cell_14 : decode cL_cell 14 = .ok (.iload_n 1, 1) := by decide +kernel
theorem dL_cell_15 : decode cL_cell 15 = .ok (.imul, 1) := by decide +kernel
theorem dL_cell_16 : decode cL_cell 16 = .ok (.sipush 977, 3) := by decide +kernel
theorem dL_cell_19 : decode cL_cell 19 = .ok (.iadd, 1) := by decide +kernel
theorem dL_cell_20 : decode cL_cell 20 = .ok (.ireturn, 1) := by decide +kernel
theorem dL_open_0 : decode cL_open 0 = .ok (.aload_n 0, 1) := by decide +kernel
theorem dL_open_1 : decode cL_open 1 = .ok (.invokevirtual 9, 3) := by decide +kernel
theorem dL_open_4 : decode cL_open 4 = .ok (.ireturn, 1) := by decide +kernel
theorem dL_open_5 : decode cL_open 5 = .ok (.astore_n 1, 1) := by decide +kernel
theorem dL_open_6 : decode cL_open 6 = .ok (.bipush (-3), 2) := by decide +kernel
theorem dL_open_8 : decode cL_open 8 = .ok (.ireturn, 1) := by decide +kernel
theorem dL_make_0 : decode cL_make 0 = .ok (.aload_n 0, 1) := by decide +kernel
theorem dL_make_1 : decode cL_make 1 = .ok (.iload_n 1, 1) := by decide +kernel
theorem dL_make_2 : decode cL_make 2 = .ok (.iload_n 2, 1) := by decide +kernel
theorem dL_make_3 : decode cL_make 3 = .ok (.invokevirtual 17, 3) := by decide +kernel
theorem dL_make_6 : decode cL_make 6 = .ok (.ireturn, 1) := by decide +kernel
theorem dL_make_7 : decode cL_make 7 = .ok (.astore_n 3, 1) := by decide +kernel
theorem dL_make_8 : decode cL_make 8 = .ok (.bipush (-3), 2) := by decide +kernel
theorem dL_make_10 : decode cL_make 10 = .ok (.ireturn, 1) := by decide +kernel
theorem dL_giveBack_0 : decode cL_giveBack 0 = .ok (.aload_n 0, 1) := by decide +kernel
theorem dL_giveBack_1 : decode cL_giveBack 1 = .ok (.iload_n 1, 1) := by decide +kernel
theorem dL_giveBack_2 : decode cL_giveBack 2 = .ok (.iload_n 2, 1) := by decide +kernel
theorem dL_giveBack_3 : decode cL_giveBack 3 = .ok (.invokevirtual 21, 3) := by decide +kernel
theorem dL_giveBack_6 : decode cL_giveBack 6 = .ok (.ireturn, 1) := by decide +kernel
theorem dL_giveBack_7 : decode cL_giveBack 7 = .ok (.astore_n 3, 1) := by decide +kernel
theorem dL_giveBack_8 : decode cL_giveBack 8 = .ok (.bipush (-2), 2) := by decide +kernel
theorem dL_giveBack_10 : decode cL_giveBack 10 = .ok (.ireturn, 1) := by decide +kernel
theorem dL_giveBack_11 : decode cL_giveBack 11 = .ok (.astore_n 3, 1) := by decide +kernel
theorem dL_giveBack_12 : decode cL_giveBack 12 = .ok (.bipush (-3), 2) := by decide +kernel
theorem dL_giveBack_14 : decode cL_giveBack 14 = .ok (.ireturn, 1) := by decide +kernel
theorem dL_link_0 : decode cL_link 0 = .ok (.aload_n 0, 1) := by decide +kernel
theorem dL_link_1 : decode cL_link 1 = .ok (.iload_n 1, 1) := by decide +kernel
theorem dL_link_2 : decode cL_link 2 = .ok (.iload_n 2, 1) := by decide +kernel
theorem dL_link_3 : decode cL_link 3 = .ok (.iload_n 3, 1) := by decide +kernel
theorem dL_link_4 : decode cL_link 4 = .ok (.invokevirtual 26, 3) := by decide +kernel
theorem dL_link_7 : decode cL_link 7 = .ok (.ireturn, 1) := by decide +kernel
theorem dL_link_8 : decode cL_link 8 = .ok (.astore 4, 2) := by decide +kernel
theorem dL_link_10 : decode cL_link 10 = .ok (.bipush (-4), 2) := by decide +kernel
theorem dL_link_12 : decode cL_link 12 = .ok (.ireturn, 1) := by decide +kernel
theorem dL_object_0 : decode cL_object 0 = .ok (.aload_n 0, 1) := by decide +kernel
theorem dL_object_1 : decode cL_object 1 = .ok (.iload_n 1, 1) := by decide +kernel
theorem dL_object_2 : decode cL_object 2 = .ok (.iload_n 2, 1) := by decide +kernel
theorem dL_object_3 : decode cL_object 3 = .ok (.invokevirtual 32, 3) := by decide +kernel
theorem dL_object_6 : decode cL_object 6 = .ok (.ireturn, 1) := by decide +kernel
theorem dL_object_7 : decode cL_object 7 = .ok (.astore_n 3, 1) := by decide +kernel
theorem dL_object_8 : decode cL_object 8 = .ok (.bipush (-4), 2) := by decide +kernel
theorem dL_object_10 : decode cL_object 10 = .ok (.ireturn, 1) := by decide +kernel
theorem dL_is_0 : decode cL_is 0 = .ok (.aload_n 0, 1) := by decide +kernel
theorem dL_is_1 : decode cL_is 1 = .ok (.iload_n 1, 1) := by decide +kernel
theorem dL_is_2 : decode cL_is 2 = .ok (.iconst 0, 1) := by decide +kernel
theorem dL_is_3 : decode cL_is 3 = .ok (.invokestatic 35, 3) := by decide +kernel
theorem dL_is_6 : decode cL_is 6 = .ok (.ifCond .lt 7, 3) := by decide +kernel
theorem dL_is_9 : decode cL_is 9 = .ok (.iconst 1, 1) := by decide +kernel
theorem dL_is_10 : decode cL_is 10 = .ok (.goto 4, 3) := by decide +kernel
theorem dL_is_13 : decode cL_is 13 = .ok (.iconst 0, 1) := by decide +kernel
theorem dL_is_14 : decode cL_is 14 = .ok (.ireturn, 1) := by decide +kernel
theorem dL_undo_0 : decode cL_undo 0 = .ok (.aload_n 0, 1) := by decide +kernel
theorem dL_undo_1 : decode cL_undo 1 = .ok (.invokevirtual 40, 3) := by decide +kernel
theorem dL_undo_4 : decode cL_undo 4 = .ok (.ireturn, 1) := by decide +kernel
theorem dL_undo_5 : decode cL_undo 5 = .ok (.astore_n 1, 1) := by decide +kernel
theorem dL_undo_6 : decode cL_undo 6 = .ok (.bipush (-3), 2) := by decide +kernel
theorem dL_undo_8 : decode cL_undo 8 = .ok (.ireturn, 1) := by decide +kernel
theorem dL_heap_0 : decode cL_heap 0 = .ok (.iconst 0, 1) := by decide +kernel
theorem dL_heap_1 : decode cL_heap 1 = .ok (.istore_n 1, 1) := by decide +kernel
theorem dL_heap_2 : decode cL_heap 2 = .ok (.iconst 0, 1) := by decide +kernel
theorem dL_heap_3 : decode cL_heap 3 = .ok (.istore_n 2, 1) := by decide +kernel
theorem dL_heap_4 : decode cL_heap 4 = .ok (.iconst 0, 1) := by decide +kernel
theorem dL_heap_5 : decode cL_heap 5 = .ok (.istore_n 3, 1) := by decide +kernel
theorem dL_heap_6 : decode cL_heap 6 = .ok (.iconst 0, 1) := by decide +kernel
theorem dL_heap_7 : decode cL_heap 7 = .ok (.istore 4, 2) := by decide +kernel
theorem dL_heap_9 : decode cL_heap 9 = .ok (.iconst 1, 1) := by decide +kernel
theorem dL_heap_10 : decode cL_heap 10 = .ok (.istore 5, 2) := by decide +kernel
theorem dL_heap_12 : decode cL_heap 12 = .ok (.iconst 0, 1) := by decide +kernel
theorem dL_heap_13 : decode cL_heap 13 = .ok (.istore 6, 2) := by decide +kernel
theorem dL_heap_15 : decode cL_heap 15 = .ok (.iload 6, 2) := by decide +kernel
theorem dL_heap_17 : decode cL_heap 17 = .ok (.bipush 24, 2) := by decide +kernel
theorem dL_heap_19 : decode cL_heap 19 = .ok (.if_icmp .ge 387, 3) := by decide +kernel
theorem dL_heap_22 : decode cL_heap 22 = .ok (.iload 5, 2) := by decide +kernel
theorem dL_heap_24 : decode cL_heap 24 = .ok (.ifCond .eq 382, 3) := by decide +kernel
theorem dL_heap_27 : decode cL_heap 27 = .ok (.aload_n 0, 1) := by decide +kernel
theorem dL_heap_28 : decode cL_heap 28 = .ok (.iload 6, 2) := by decide +kernel
theorem dL_heap_30 : decode cL_heap 30 = .ok (.invokestatic 43, 3) := by decide +kernel
theorem dL_heap_33 : decode cL_heap 33 = .ok (.ifCond .eq 367, 3) := by decide +kernel
theorem dL_heap_36 : decode cL_heap 36 = .ok (.aload_n 0, 1) := by decide +kernel
theorem dL_heap_37 : decode cL_heap 37 = .ok (.iload 6, 2) := by decide +kernel
theorem dL_heap_39 : decode cL_heap 39 = .ok (.iconst 0, 1) := by decide +kernel
theorem dL_heap_40 : decode cL_heap 40 = .ok (.invokevirtual 32, 3) := by decide +kernel
theorem dL_heap_43 : decode cL_heap 43 = .ok (.istore 7, 2) := by decide +kernel
theorem dL_heap_45 : decode cL_heap 45 = .ok (.aload_n 0, 1) := by decide +kernel
theorem dL_heap_46 : decode cL_heap 46 = .ok (.iload 6, 2) := by decide +kernel
theorem dL_heap_48 : decode cL_heap 48 = .ok (.iconst 1, 1) := by decide +kernel
theorem dL_heap_49 : decode cL_heap 49 = .ok (.invokevirtual 32, 3) := by decide +kernel
theorem dL_heap_52 : decode cL_heap 52 = .ok (.istore 8, 2) := by decide +kernel
theorem dL_heap_54 : decode cL_heap 54 = .ok (.aload_n 0, 1) := by decide +kernel
theorem dL_heap_55 : decode cL_heap 55 = .ok (.iload 6, 2) := by decide +kernel
theorem dL_heap_57 : decode cL_heap 57 = .ok (.iconst 2, 1) := by decide +kernel
theorem dL_heap_58 : decode cL_heap 58 = .ok (.invokevirtual 32, 3) := by decide +kernel
theorem dL_heap_61 : decode cL_heap 61 = .ok (.istore 9, 2) := by decide +kernel
theorem dL_heap_63 : decode cL_heap 63 = .ok (.aload_n 0, 1) := by decide +kernel
theorem dL_heap_64 : decode cL_heap 64 = .ok (.iload 7, 2) := by decide +kernel
theorem dL_heap_66 : decode cL_heap 66 = .ok (.iconst 0, 1) := by decide +kernel
theorem dL_heap_67 : decode cL_heap 67 = .ok (.invokevirtual 47, 3) := by decide +kernel
theorem dL_heap_70 : decode cL_heap 70 = .ok (.iconst 1, 1) := by decide +kernel
theorem dL_heap_71 : decode cL_heap 71 = .ok (.if_icmp .ne 58, 3) := by decide +kernel
theorem dL_heap_74 : decode cL_heap 74 = .ok (.iload 8, 2) := by decide +kernel
theorem dL_heap_76 : decode cL_heap 76 = .ok (.ifCond .lt 53, 3) := by decide +kernel
theorem dL_heap_79 : decode cL_heap 79 = .ok (.iload 8, 2) := by decide +kernel
theorem dL_heap_81 : decode cL_heap 81 = .ok (.iload 9, 2) := by decide +kernel
theorem dL_heap_83 : decode cL_heap 83 = .ok (.iadd, 1) := by decide +kernel
theorem dL_heap_84 : decode cL_heap 84 = .ok (.aload_n 0, 1) := by decide +kernel
theorem dL_heap_85 : decode cL_heap 85 = .ok (.iload 7, 2) := by decide +kernel
theorem dL_heap_87 : decode cL_heap 87 = .ok (.iconst 1, 1) := by decide +kernel
theorem dL_heap_88 : decode cL_heap 88 = .ok (.invokevirtual 47, 3) := by decide +kernel
theorem dL_heap_91 : decode cL_heap 91 = .ok (.if_icmp .gt 38, 3) := by decide +kernel
theorem dL_heap_94 : decode cL_heap 94 = .ok (.aload_n 0, 1) := by decide +kernel
theorem dL_heap_95 : decode cL_heap 95 = .ok (.iload 7, 2) := by decide +kernel
theorem dL_heap_97 : decode cL_heap 97 = .ok (.iload 8, 2) := by decide +kernel
theorem dL_heap_99 : decode cL_heap 99 = .ok (.invokevirtual 50, 3) := by decide +kernel
theorem dL_heap_102 : decode cL_heap 102 = .ok (.iload 6, 2) := by decide +kernel
theorem dL_heap_104 : decode cL_heap 104 = .ok (.if_icmp .ne 25, 3) := by decide +kernel
theorem dL_heap_107 : decode cL_heap 107 = .ok (.aload_n 0, 1) := by decide +kernel
theorem dL_heap_108 : decode cL_heap 108 = .ok (.iload 7, 2) := by decide +kernel
theorem dL_heap_110 : decode cL_heap 110 = .ok (.iload 8, 2) := by decide +kernel
theorem dL_heap_112 : decode cL_heap 112 = .ok (.iload 9, 2) := by decide +kernel
theorem dL_heap_114 : decode cL_heap 114 = .ok (.iadd, 1) := by decide +kernel
theorem dL_heap_115 : decode cL_heap 115 = .ok (.iconst 1, 1) := by decide +kernel
theorem dL_heap_116 : decode cL_heap 116 = .ok (.isub, 1) := by decide +kernel
theorem dL_heap_117 : decode cL_heap 117 = .ok (.invokevirtual 50, 3) := by decide +kernel
theorem dL_heap_120 : decode cL_heap 120 = .ok (.iload 6, 2) := by decide +kernel
theorem dL_heap_122 : decode cL_heap 122 = .ok (.if_icmp .ne 7, 3) := by decide +kernel
theorem dL_heap_125 : decode cL_heap 125 = .ok (.iconst 1, 1) := by decide +kernel
theorem dL_heap_126 : decode cL_heap 126 = .ok (.goto 4, 3) := by decide +kernel
theorem dL_heap_129 : decode cL_heap 129 = .ok (.iconst 0, 1) := by decide +kernel
theorem dL_heap_130 : decode cL_heap 130 = .ok (.istore 5, 2) := by decide +kernel
theorem dL_heap_132 : decode cL_heap 132 = .ok (.iconst 3, 1) := by decide +kernel
theorem dL_heap_133 : decode cL_heap 133 = .ok (.istore 10, 2) := by decide +kernel
theorem dL_heap_135 : decode cL_heap 135 = .ok (.iload 10, 2) := by decide +kernel
theorem dL_heap_137 : decode cL_heap 137 = .ok (.iconst 5, 1) := by decide +kernel
theorem dL_heap_138 : decode cL_heap 138 = .ok (.if_icmp .ge 60, 3) := by decide +kernel
theorem dL_heap_141 : decode cL_heap 141 = .ok (.iload 5, 2) := by decide +kernel
theorem dL_heap_143 : decode cL_heap 143 = .ok (.ifCond .eq 55, 3) := by decide +kernel
theorem dL_heap_146 : decode cL_heap 146 = .ok (.aload_n 0, 1) := by decide +kernel
theorem dL_heap_147 : decode cL_heap 147 = .ok (.iload 6, 2) := by decide +kernel
theorem dL_heap_149 : decode cL_heap 149 = .ok (.iload 10, 2) := by decide +kernel
theorem dL_heap_151 : decode cL_heap 151 = .ok (.invokevirtual 32, 3) := by decide +kernel
theorem dL_heap_154 : decode cL_heap 154 = .ok (.istore 11, 2) := by decide +kernel
theorem dL_heap_156 : decode cL_heap 156 = .ok (.iload 11, 2) := by decide +kernel
theorem dL_heap_158 : decode cL_heap 158 = .ok (.iconst (-1), 1) := by decide +kernel
theorem dL_heap_159 : decode cL_heap 159 = .ok (.if_icmp .eq 12, 3) := by decide +kernel
theorem dL_heap_162 : decode cL_heap 162 = .ok (.aload_n 0, 1) := by decide +kernel
theorem dL_heap_163 : decode cL_heap 163 = .ok (.iload 11, 2) := by decide +kernel
theorem dL_heap_165 : decode cL_heap 165 = .ok (.invokestatic 43, 3) := by decide +kernel
theorem dL_heap_168 : decode cL_heap 168 = .ok (.ifCond .eq 7, 3) := by decide +kernel
theorem dL_heap_171 : decode cL_heap 171 = .ok (.iconst 1, 1) := by decide +kernel
theorem dL_heap_172 : decode cL_heap 172 = .ok (.goto 4, 3) := by decide +kernel
theorem dL_heap_175 : decode cL_heap 175 = .ok (.iconst 0, 1) := by decide +kernel
theorem dL_heap_176 : decode cL_heap 176 = .ok (.istore 5, 2) := by decide +kernel
theorem dL_heap_178 : decode cL_heap 178 = .ok (.iload_n 3, 1) := by decide +kernel
theorem dL_heap_179 : decode cL_heap 179 = .ok (.iload 11, 2) := by decide +kernel
theorem dL_heap_181 : decode cL_heap 181 = .ok (.iconst (-1), 1) := by decide +kernel
theorem dL_heap_182 : decode cL_heap 182 = .ok (.if_icmp .ne 7, 3) := by decide +kernel
theorem dL_heap_185 : decode cL_heap 185 = .ok (.iconst 0, 1) := by decide +kernel
theorem dL_heap_186 : decode cL_heap 186 = .ok (.goto 4, 3) := by decide +kernel
theorem dL_heap_189 : decode cL_heap 189 = .ok (.iconst 1, 1) := by decide +kernel
theorem dL_heap_190 : decode cL_heap 190 = .ok (.iadd, 1) := by decide +kernel
theorem dL_heap_191 : decode cL_heap 191 = .ok (.istore_n 3, 1) := by decide +kernel
theorem dL_heap_192 : decode cL_heap 192 = .ok (.iinc 10 1, 3) := by decide +kernel
theorem dL_heap_195 : decode cL_heap 195 = .ok (.goto (-60), 3) := by decide +kernel
theorem dL_heap_198 : decode cL_heap 198 = .ok (.iload 5, 2) := by decide +kernel
theorem dL_heap_200 : decode cL_heap 200 = .ok (.ifCond .eq 107, 3) := by decide +kernel
theorem dL_heap_203 : decode cL_heap 203 = .ok (.aload_n 0, 1) := by decide +kernel
theorem dL_heap_204 : decode cL_heap 204 = .ok (.iload 6, 2) := by decide +kernel
theorem dL_heap_206 : decode cL_heap 206 = .ok (.bipush 7, 2) := by decide +kernel
theorem dL_heap_208 : decode cL_heap 208 = .ok (.invokevirtual 32, 3) := by decide +kernel
theorem dL_heap_211 : decode cL_heap 211 = .ok (.iconst 1, 1) := by decide +kernel
theorem dL_heap_212 : decode cL_heap 212 = .ok (.if_icmp .ne 7, 3) := by decide +kernel
theorem dL_heap_215 : decode cL_heap 215 = .ok (.iconst 1, 1) := by decide +kernel
theorem dL_heap_216 : decode cL_heap 216 = .ok (.goto 4, 3) := by decide +kernel
theorem dL_heap_219 : decode cL_heap 219 = .ok (.iconst 0, 1) := by decide +kernel
theorem dL_heap_220 : decode cL_heap 220 = .ok (.aload_n 0, 1) := by decide +kernel
theorem dL_heap_221 : decode cL_heap 221 = .ok (.iload 6, 2) := by decide +kernel
theorem dL_heap_223 : decode cL_heap 223 = .ok (.bipush 11, 2) := by decide +kernel
theorem dL_heap_225 : decode cL_heap 225 = .ok (.invokevirtual 32, 3) := by decide +kernel
theorem dL_heap_228 : decode cL_heap 228 = .ok (.ifCond .lt 7, 3) := by decide +kernel
theorem dL_heap_231 : decode cL_heap 231 = .ok (.iconst 1, 1) := by decide +kernel
theorem dL_heap_232 : decode cL_heap 232 = .ok (.goto 4, 3) := by decide +kernel
theorem dL_heap_235 : decode cL_heap 235 = .ok (.iconst 0, 1) := by decide +kernel
theorem dL_heap_236 : decode cL_heap 236 = .ok (.if_icmp .ne 71, 3) := by decide +kernel
theorem dL_heap_239 : decode cL_heap 239 = .ok (.aload_n 0, 1) := by decide +kernel
theorem dL_heap_240 : decode cL_heap 240 = .ok (.iload 6, 2) := by decide +kernel
theorem dL_heap_242 : decode cL_heap 242 = .ok (.bipush 8, 2) := by decide +kernel
theorem dL_heap_244 : decode cL_heap 244 = .ok (.invokevirtual 32, 3) := by decide +kernel
theorem dL_heap_247 : decode cL_heap 247 = .ok (.aload_n 0, 1) := by decide +kernel
theorem dL_heap_248 : decode cL_heap 248 = .ok (.iload 6, 2) := by decide +kernel
theorem dL_heap_250 : decode cL_heap 250 = .ok (.bipush 7, 2) := by decide +kernel
theorem dL_heap_252 : decode cL_heap 252 = .ok (.invokevirtual 32, 3) := by decide +kernel
theorem dL_heap_255 : decode cL_heap 255 = .ok (.if_icmp .lt 52, 3) := by decide +kernel
theorem dL_heap_258 : decode cL_heap 258 = .ok (.aload_n 0, 1) := by decide +kernel
theorem dL_heap_259 : decode cL_heap 259 = .ok (.iconst 0, 1) := by decide +kernel
theorem dL_heap_260 : decode cL_heap 260 = .ok (.invokevirtual 53, 3) := by decide +kernel
theorem dL_heap_263 : decode cL_heap 263 = .ok (.iconst 1, 1) := by decide +kernel
theorem dL_heap_264 : decode cL_heap 264 = .ok (.if_icmp .eq 22, 3) := by decide +kernel
theorem dL_heap_267 : decode cL_heap 267 = .ok (.aload_n 0, 1) := by decide +kernel
theorem dL_heap_268 : decode cL_heap 268 = .ok (.iload 6, 2) := by decide +kernel
theorem dL_heap_270 : decode cL_heap 270 = .ok (.bipush 8, 2) := by decide +kernel
theorem dL_heap_272 : decode cL_heap 272 = .ok (.invokevirtual 32, 3) := by decide +kernel
theorem dL_heap_275 : decode cL_heap 275 = .ok (.aload_n 0, 1) := by decide +kernel
theorem dL_heap_276 : decode cL_heap 276 = .ok (.iload 6, 2) := by decide +kernel
theorem dL_heap_278 : decode cL_heap 278 = .ok (.bipush 7, 2) := by decide +kernel
theorem dL_heap_280 : decode cL_heap 280 = .ok (.invokevirtual 32, 3) := by decide +kernel
theorem dL_heap_283 : decode cL_heap 283 = .ok (.if_icmp .ne 24, 3) := by decide +kernel
theorem dL_heap_286 : decode cL_heap 286 = .ok (.aload_n 0, 1) := by decide +kernel
theorem dL_heap_287 : decode cL_heap 287 = .ok (.iload 6, 2) := by decide +kernel
theorem dL_heap_289 : decode cL_heap 289 = .ok (.bipush 9, 2) := by decide +kernel
theorem dL_heap_291 : decode cL_heap 291 = .ok (.invokevirtual 32, 3) := by decide +kernel
theorem dL_heap_294 : decode cL_heap 294 = .ok (.aload_n 0, 1) := by decide +kernel
theorem dL_heap_295 : decode cL_heap 295 = .ok (.bipush 7, 2) := by decide +kernel
theorem dL_heap_297 : decode cL_heap 297 = .ok (.invokevirtual 57, 3) := by decide +kernel
theorem dL_heap_300 : decode cL_heap 300 = .ok (.if_icmp .gt 7, 3) := by decide +kernel
theorem dL_heap_303 : decode cL_heap 303 = .ok (.iconst 1, 1) := by decide +kernel
theorem dL_heap_304 : decode cL_heap 304 = .ok (.goto 4, 3) := by decide +kernel
theorem dL_heap_307 : decode cL_heap 307 = .ok (.iconst 0, 1) := by decide +kernel
theorem dL_heap_308 : decode cL_heap 308 = .ok (.istore 5, 2) := by decide +kernel
theorem dL_heap_310 : decode cL_heap 310 = .ok (.iload 5, 2) := by decide +kernel
theorem dL_heap_312 : decode cL_heap 312 = .ok (.ifCond .eq 59, 3) := by decide +kernel
theorem dL_heap_315 : decode cL_heap 315 = .ok (.aload_n 0, 1) := by decide +kernel
theorem dL_heap_316 : decode cL_heap 316 = .ok (.iload 6, 2) := by decide +kernel
theorem dL_heap_318 : decode cL_heap 318 = .ok (.invokevirtual 60, 3) := by decide +kernel
theorem dL_heap_321 : decode cL_heap 321 = .ok (.aload_n 0, 1) := by decide +kernel
theorem dL_heap_322 : decode cL_heap 322 = .ok (.iload 6, 2) := by decide +kernel
theorem dL_heap_324 : decode cL_heap 324 = .ok (.bipush 7, 2) := by decide +kernel
theorem dL_heap_326 : decode cL_heap 326 = .ok (.invokevirtual 32, 3) := by decide +kernel
theorem dL_heap_329 : decode cL_heap 329 = .ok (.if_icmp .lt 42, 3) := by decide +kernel
theorem dL_heap_332 : decode cL_heap 332 = .ok (.aload_n 0, 1) := by decide +kernel
theorem dL_heap_333 : decode cL_heap 333 = .ok (.iload 6, 2) := by decide +kernel
theorem dL_heap_335 : decode cL_heap 335 = .ok (.invokevirtual 60, 3) := by decide +kernel
theorem dL_heap_338 : decode cL_heap 338 = .ok (.aload_n 0, 1) := by decide +kernel
theorem dL_heap_339 : decode cL_heap 339 = .ok (.iconst 1, 1) := by decide +kernel
theorem dL_heap_340 : decode cL_heap 340 = .ok (.invokevirtual 57, 3) := by decide +kernel
theorem dL_heap_343 : decode cL_heap 343 = .ok (.if_icmp .gt 28, 3) := by decide +kernel
theorem dL_heap_346 : decode cL_heap 346 = .ok (.aload_n 0, 1) := by decide +kernel
theorem dL_heap_347 : decode cL_heap 347 = .ok (.iload 6, 2) := by decide +kernel
theorem dL_heap_349 : decode cL_heap 349 = .ok (.bipush 7, 2) := by decide +kernel
theorem dL_heap_351 : decode cL_heap 351 = .ok (.invokevirtual 32, 3) := by decide +kernel
theorem dL_heap_354 : decode cL_heap 354 = .ok (.iconst 1, 1) := by decide +kernel
theorem dL_heap_355 : decode cL_heap 355 = .ok (.if_icmp .eq 12, 3) := by decide +kernel
theorem dL_heap_358 : decode cL_heap 358 = .ok (.aload_n 0, 1) := by decide +kernel
theorem dL_heap_359 : decode cL_heap 359 = .ok (.iload 6, 2) := by decide +kernel
theorem dL_heap_361 : decode cL_heap 361 = .ok (.invokevirtual 60, 3) := by decide +kernel
theorem dL_heap_364 : decode cL_heap 364 = .ok (.ifCond .ne 7, 3) := by decide +kernel
theorem dL_heap_367 : decode cL_heap 367 = .ok (.iconst 1, 1) := by decide +kernel
theorem dL_heap_368 : decode cL_heap 368 = .ok (.goto 4, 3) := by decide +kernel
theorem dL_heap_371 : decode cL_heap 371 = .ok (.iconst 0, 1) := by decide +kernel
theorem dL_heap_372 : decode cL_heap 372 = .ok (.istore 5, 2) := by decide +kernel
theorem dL_heap_374 : decode cL_heap 374 = .ok (.iload_n 2, 1) := by decide +kernel
theorem dL_heap_375 : decode cL_heap 375 = .ok (.aload_n 0, 1) := by decide +kernel
theorem dL_heap_376 : decode cL_heap 376 = .ok (.iload 6, 2) := by decide +kernel
theorem dL_heap_378 : decode cL_heap 378 = .ok (.bipush 10, 2) := by decide +kernel
theorem dL_heap_380 : decode cL_heap 380 = .ok (.invokevirtual 32, 3) := by decide +kernel
theorem dL_heap_383 : decode cL_heap 383 = .ok (.iadd, 1) := by decide +kernel
theorem dL_heap_384 : decode cL_heap 384 = .ok (.istore_n 2, 1) := by decide +kernel
theorem dL_heap_385 : decode cL_heap 385 = .ok (.iload 4, 2) := by decide +kernel
theorem dL_heap_387 : decode cL_heap 387 = .ok (.aload_n 0, 1) := by decide +kernel
theorem dL_heap_388 : decode cL_heap 388 = .ok (.iload 6, 2) := by decide +kernel
theorem dL_heap_390 : decode cL_heap 390 = .ok (.iconst 5, 1) := by decide +kernel
theorem dL_heap_391 : decode cL_heap 391 = .ok (.invokevirtual 32, 3) := by decide +kernel
theorem dL_heap_394 : decode cL_heap 394 = .ok (.iadd, 1) := by decide +kernel
theorem dL_heap_395 : decode cL_heap 395 = .ok (.istore 4, 2) := by decide +kernel
theorem dL_heap_397 : decode cL_heap 397 = .ok (.iinc 1 1, 3) := by decide +kernel
theorem dL_heap_400 : decode cL_heap 400 = .ok (.iinc 6 1, 3) := by decide +kernel
theorem dL_heap_403 : decode cL_heap 403 = .ok (.goto (-388), 3) := by decide +kernel
theorem dL_heap_406 : decode cL_heap 406 = .ok (.iload 5, 2) := by decide +kernel
theorem dL_heap_408 : decode cL_heap 408 = .ok (.ifCond .eq 85, 3) := by decide +kernel
theorem dL_heap_411 : decode cL_heap 411 = .ok (.iload_n 1, 1) := by decide +kernel
theorem dL_heap_412 : decode cL_heap 412 = .ok (.aload_n 0, 1) := by decide +kernel
theorem dL_heap_413 : decode cL_heap 413 = .ok (.iconst 0, 1) := by decide +kernel
theorem dL_heap_414 : decode cL_heap 414 = .ok (.invokevirtual 57, 3) := by decide +kernel
theorem dL_heap_417 : decode cL_heap 417 = .ok (.if_icmp .ne 76, 3) := by decide +kernel
theorem dL_heap_420 : decode cL_heap 420 = .ok (.iload_n 2, 1) := by decide +kernel
theorem dL_heap_421 : decode cL_heap 421 = .ok (.aload_n 0, 1) := by decide +kernel
theorem dL_heap_422 : decode cL_heap 422 = .ok (.iconst 4, 1) := by decide +kernel
theorem dL_heap_423 : decode cL_heap 423 = .ok (.invokevirtual 57, 3) := by decide +kernel
theorem dL_heap_426 : decode cL_heap 426 = .ok (.if_icmp .ne 67, 3) := by decide +kernel
theorem dL_heap_429 : decode cL_heap 429 = .ok (.iload_n 3, 1) := by decide +kernel
theorem dL_heap_430 : decode cL_heap 430 = .ok (.iload_n 2, 1) := by decide +kernel
theorem dL_heap_431 : decode cL_heap 431 = .ok (.if_icmp .ne 62, 3) := by decide +kernel
theorem dL_heap_434 : decode cL_heap 434 = .ok (.iload 4, 2) := by decide +kernel
theorem dL_heap_436 : decode cL_heap 436 = .ok (.aload_n 0, 1) := by decide +kernel
theorem dL_heap_437 : decode cL_heap 437 = .ok (.iconst 3, 1) := by decide +kernel
theorem dL_heap_438 : decode cL_heap 438 = .ok (.invokevirtual 57, 3) := by decide +kernel
theorem dL_heap_441 : decode cL_heap 441 = .ok (.if_icmp .ne 52, 3) := by decide +kernel
theorem dL_heap_444 : decode cL_heap 444 = .ok (.aload_n 0, 1) := by decide +kernel
theorem dL_heap_445 : decode cL_heap 445 = .ok (.iconst 5, 1) := by decide +kernel
theorem dL_heap_446 : decode cL_heap 446 = .ok (.invokevirtual 57, 3) := by decide +kernel
theorem dL_heap_449 : decode cL_heap 449 = .ok (.iload_n 2, 1) := by decide +kernel
theorem dL_heap_450 : decode cL_heap 450 = .ok (.if_icmp .gt 43, 3) := by decide +kernel
theorem dL_heap_453 : decode cL_heap 453 = .ok (.aload_n 0, 1) := by decide +kernel
theorem dL_heap_454 : decode cL_heap 454 = .ok (.bipush 6, 2) := by decide +kernel
theorem dL_heap_456 : decode cL_heap 456 = .ok (.invokevirtual 57, 3) := by decide +kernel
theorem dL_heap_459 : decode cL_heap 459 = .ok (.iload_n 1, 1) := by decide +kernel
theorem dL_heap_460 : decode cL_heap 460 = .ok (.aload_n 0, 1) := by decide +kernel
theorem dL_heap_461 : decode cL_heap 461 = .ok (.bipush 8, 2) := by decide +kernel
theorem dL_heap_463 : decode cL_heap 463 = .ok (.invokevirtual 57, 3) := by decide +kernel
theorem dL_heap_466 : decode cL_heap 466 = .ok (.iadd, 1) := by decide +kernel
theorem dL_heap_467 : decode cL_heap 467 = .ok (.if_icmp .ne 26, 3) := by decide +kernel
theorem dL_heap_470 : decode cL_heap 470 = .ok (.aload_n 0, 1) := by decide +kernel
theorem dL_heap_471 : decode cL_heap 471 = .ok (.iconst 1, 1) := by decide +kernel
theorem dL_heap_472 : decode cL_heap 472 = .ok (.invokevirtual 57, 3) := by decide +kernel
theorem dL_heap_475 : decode cL_heap 475 = .ok (.iload_n 1, 1) := by decide +kernel
theorem dL_heap_476 : decode cL_heap 476 = .ok (.if_icmp .gt 17, 3) := by decide +kernel
theorem dL_heap_479 : decode cL_heap 479 = .ok (.aload_n 0, 1) := by decide +kernel
theorem dL_heap_480 : decode cL_heap 480 = .ok (.iconst 1, 1) := by decide +kernel
theorem dL_heap_481 : decode cL_heap 481 = .ok (.invokevirtual 57, 3) := by decide +kernel
theorem dL_heap_484 : decode cL_heap 484 = .ok (.iload 4, 2) := by decide +kernel
theorem dL_heap_486 : decode cL_heap 486 = .ok (.if_icmp .lt 7, 3) := by decide +kernel
theorem dL_heap_489 : decode cL_heap 489 = .ok (.iconst 1, 1) := by decide +kernel
theorem dL_heap_490 : decode cL_heap 490 = .ok (.goto 4, 3) := by decide +kernel
theorem dL_heap_493 : decode cL_heap 493 = .ok (.iconst 0, 1) := by decide +kernel
theorem dL_heap_494 : decode cL_heap 494 = .ok (.ireturn, 1) := by decide +kernel
theorem dL_arenas_0 : decode cL_arenas 0 = .ok (.iconst 0, 1) := by decide +kernel
theorem dL_arenas_1 : decode cL_arenas 1 = .ok (.istore_n 1, 1) := by decide +kernel
theorem dL_arenas_2 : decode cL_arenas 2 = .ok (.iconst 1, 1) := by decide +kernel
theorem dL_arenas_3 : decode cL_arenas 3 = .ok (.istore_n 2, 1) := by decide +kernel
theorem dL_arenas_4 : decode cL_arenas 4 = .ok (.iconst 0, 1) := by decide +kernel
theorem dL_arenas_5 : decode cL_arenas 5 = .ok (.istore_n 3, 1) := by decide +kernel
theorem dL_arenas_6 : decode cL_arenas 6 = .ok (.iload_n 3, 1) := by decide +kernel
theorem dL_arenas_7 : decode cL_arenas 7 = .ok (.bipush 6, 2) := by decide +kernel
theorem dL_arenas_9 : decode cL_arenas 9 = .ok (.if_icmp .ge 352, 3) := by decide +kernel
theorem dL_arenas_12 : decode cL_arenas 12 = .ok (.iload_n 2, 1) := by decide +kernel
theorem dL_arenas_13 : decode cL_arenas 13 = .ok (.ifCond .eq 348, 3) := by decide +kernel
theorem dL_arenas_16 : decode cL_arenas 16 = .ok (.iconst 0, 1) := by decide +kernel
theorem dL_arenas_17 : decode cL_arenas 17 = .ok (.istore 4, 2) := by decide +kernel
theorem dL_arenas_19 : decode cL_arenas 19 = .ok (.iconst 0, 1) := by decide +kernel
theorem dL_arenas_20 : decode cL_arenas 20 = .ok (.istore 5, 2) := by decide +kernel
theorem dL_arenas_22 : decode cL_arenas 22 = .ok (.iconst 0, 1) := by decide +kernel
theorem dL_arenas_23 : decode cL_arenas 23 = .ok (.istore 6, 2) := by decide +kernel
theorem dL_arenas_25 : decode cL_arenas 25 = .ok (.iconst 0, 1) := by decide +kernel
theorem dL_arenas_26 : decode cL_arenas 26 = .ok (.istore 7, 2) := by decide +kernel
theorem dL_arenas_28 : decode cL_arenas 28 = .ok (.iconst 0, 1) := by decide +kernel
theorem dL_arenas_29 : decode cL_arenas 29 = .ok (.istore 8, 2) := by decide +kernel
theorem dL_arenas_31 : decode cL_arenas 31 = .ok (.iconst 0, 1) := by decide +kernel
theorem dL_arenas_32 : decode cL_arenas 32 = .ok (.istore 9, 2) := by decide +kernel
theorem dL_arenas_34 : decode cL_arenas 34 = .ok (.iload 9, 2) := by decide +kernel
theorem dL_arenas_36 : decode cL_arenas 36 = .ok (.bipush 24, 2) := by decide +kernel
theorem dL_arenas_38 : decode cL_arenas 38 = .ok (.if_icmp .ge 112, 3) := by decide +kernel
theorem dL_arenas_41 : decode cL_arenas 41 = .ok (.aload_n 0, 1) := by decide +kernel
theorem dL_arenas_42 : decode cL_arenas 42 = .ok (.iload 9, 2) := by decide +kernel
theorem dL_arenas_44 : decode cL_arenas 44 = .ok (.iconst 0, 1) := by decide +kernel
theorem dL_arenas_45 : decode cL_arenas 45 = .ok (.invokestatic 35, 3) := by decide +kernel
theorem dL_arenas_48 : decode cL_arenas 48 = .ok (.iload_n 3, 1) := by decide +kernel
theorem dL_arenas_49 : decode cL_arenas 49 = .ok (.if_icmp .ne 95, 3) := by decide +kernel
theorem dL_arenas_52 : decode cL_arenas 52 = .ok (.iinc 5 1, 3) := by decide +kernel
theorem dL_arenas_55 : decode cL_arenas 55 = .ok (.iload 4, 2) := by decide +kernel
theorem dL_arenas_57 : decode cL_arenas 57 = .ok (.aload_n 0, 1) := by decide +kernel
theorem dL_arenas_58 : decode cL_arenas 58 = .ok (.iload 9, 2) := by decide +kernel
theorem dL_arenas_60 : decode cL_arenas 60 = .ok (.iconst 2, 1) := by decide +kernel
theorem dL_arenas_61 : decode cL_arenas 61 = .ok (.invokevirtual 32, 3) := by decide +kernel
theorem dL_arenas_64 : decode cL_arenas 64 = .ok (.iadd, 1) := by decide +kernel
theorem dL_arenas_65 : decode cL_arenas 65 = .ok (.istore 4, 2) := by decide +kernel
theorem dL_arenas_67 : decode cL_arenas 67 = .ok (.iload 6, 2) := by decide +kernel
theorem dL_arenas_69 : decode cL_arenas 69 = .ok (.aload_n 0, 1) := by decide +kernel
theorem dL_arenas_70 : decode cL_arenas 70 = .ok (.iload 9, 2) := by decide +kernel
theorem dL_arenas_72 : decode cL_arenas 72 = .ok (.bipush 8, 2) := by decide +kernel
theorem dL_arenas_74 : decode cL_arenas 74 = .ok (.invokevirtual 32, 3) := by decide +kernel
theorem dL_arenas_77 : decode cL_arenas 77 = .ok (.iconst 1, 1) := by decide +kernel
theorem dL_arenas_78 : decode cL_arenas 78 = .ok (.if_icmp .ne 13, 3) := by decide +kernel
theorem dL_arenas_81 : decode cL_arenas 81 = .ok (.aload_n 0, 1) := by decide +kernel
theorem dL_arenas_82 : decode cL_arenas 82 = .ok (.iload 9, 2) := by decide +kernel
theorem dL_arenas_84 : decode cL_arenas 84 = .ok (.iconst 2, 1) := by decide +kernel
theorem dL_arenas_85 : decode cL_arenas 85 = .ok (.invokevirtual 32, 3) := by decide +kernel
theorem dL_arenas_88 : decode cL_arenas 88 = .ok (.goto 4, 3) := by decide +kernel
theorem dL_arenas_91 : decode cL_arenas 91 = .ok (.iconst 0, 1) := by decide +kernel
theorem dL_arenas_92 : decode cL_arenas 92 = .ok (.iadd, 1) := by decide +kernel
theorem dL_arenas_93 : decode cL_arenas 93 = .ok (.istore 6, 2) := by decide +kernel
theorem dL_arenas_95 : decode cL_arenas 95 = .ok (.iload 7, 2) := by decide +kernel
theorem dL_arenas_97 : decode cL_arenas 97 = .ok (.aload_n 0, 1) := by decide +kernel
theorem dL_arenas_98 : decode cL_arenas 98 = .ok (.iload 9, 2) := by decide +kernel
theorem dL_arenas_100 : decode cL_arenas 100 = .ok (.bipush 6, 2) := by decide +kernel
theorem dL_arenas_102 : decode cL_arenas 102 = .ok (.invokevirtual 32, 3) := by decide +kernel
theorem dL_arenas_105 : decode cL_arenas 105 = .ok (.iadd, 1) := by decide +kernel
theorem dL_arenas_106 : decode cL_arenas 106 = .ok (.istore 7, 2) := by decide +kernel
theorem dL_arenas_108 : decode cL_arenas 108 = .ok (.iload 8, 2) := by decide +kernel
theorem dL_arenas_110 : decode cL_arenas 110 = .ok (.ifCond .ne 27, 3) := by decide +kernel
theorem dL_arenas_113 : decode cL_arenas 113 = .ok (.aload_n 0, 1) := by decide +kernel
theorem dL_arenas_114 : decode cL_arenas 114 = .ok (.iload 9, 2) := by decide +kernel
theorem dL_arenas_116 : decode cL_arenas 116 = .ok (.bipush 6, 2) := by decide +kernel
theorem dL_arenas_118 : decode cL_arenas 118 = .ok (.invokevirtual 32, 3) := by decide +kernel
theorem dL_arenas_121 : decode cL_arenas 121 = .ok (.iconst 1, 1) := by decide +kernel
theorem dL_arenas_122 : decode cL_arenas 122 = .ok (.if_icmp .ne 19, 3) := by decide +kernel
theorem dL_arenas_125 : decode cL_arenas 125 = .ok (.aload_n 0, 1) := by decide +kernel
theorem dL_arenas_126 : decode cL_arenas 126 = .ok (.iload 9, 2) := by decide +kernel
theorem dL_arenas_128 : decode cL_arenas 128 = .ok (.bipush 8, 2) := by decide +kernel
theorem dL_arenas_130 : decode cL_arenas 130 = .ok (.invokevirtual 32, 3) := by decide +kernel
theorem dL_arenas_133 : decode cL_arenas 133 = .ok (.iconst 1, 1) := by decide +kernel
theorem dL_arenas_134 : decode cL_arenas 134 = .ok (.if_icmp .ne 7, 3) := by decide +kernel
theorem dL_arenas_137 : decode cL_arenas 137 = .ok (.iconst 1, 1) := by decide +kernel
theorem dL_arenas_138 : decode cL_arenas 138 = .ok (.goto 4, 3) := by decide +kernel
theorem dL_arenas_141 : decode cL_arenas 141 = .ok (.iconst 0, 1) := by decide +kernel
theorem dL_arenas_142 : decode cL_arenas 142 = .ok (.istore 8, 2) := by decide +kernel
theorem dL_arenas_144 : decode cL_arenas 144 = .ok (.iinc 9 1, 3) := by decide +kernel
theorem dL_arenas_147 : decode cL_arenas 147 = .ok (.goto (-113), 3) := by decide +kernel
theorem dL_arenas_150 : decode cL_arenas 150 = .ok (.iconst 0, 1) := by decide +kernel
theorem dL_arenas_151 : decode cL_arenas 151 = .ok (.istore 9, 2) := by decide +kernel
theorem dL_arenas_153 : decode cL_arenas 153 = .ok (.iconst 0, 1) := by decide +kernel
theorem dL_arenas_154 : decode cL_arenas 154 = .ok (.istore 10, 2) := by decide +kernel
theorem dL_arenas_156 : decode cL_arenas 156 = .ok (.iload 10, 2) := by decide +kernel
theorem dL_arenas_158 : decode cL_arenas 158 = .ok (.bipush 64, 2) := by decide +kernel
theorem dL_arenas_160 : decode cL_arenas 160 = .ok (.if_icmp .ge 30, 3) := by decide +kernel
theorem dL_arenas_163 : decode cL_arenas 163 = .ok (.iload 9, 2) := by decide +kernel
theorem dL_arenas_165 : decode cL_arenas 165 = .ok (.aload_n 0, 1) := by decide +kernel
theorem dL_arenas_166 : decode cL_arenas 166 = .ok (.iload_n 3, 1) := by decide +kernel
theorem dL_arenas_167 : decode cL_arenas 167 = .ok (.iload 10, 2) := by decide +kernel
theorem dL_arenas_169 : decode cL_arenas 169 = .ok (.invokevirtual 50, 3) := by decide +kernel
theorem dL_arenas_172 : decode cL_arenas 172 = .ok (.iconst (-1), 1) := by decide +kernel
theorem dL_arenas_173 : decode cL_arenas 173 = .ok (.if_icmp .ne 7, 3) := by decide +kernel
theorem dL_arenas_176 : decode cL_arenas 176 = .ok (.iconst 0, 1) := by decide +kernel
theorem dL_arenas_177 : decode cL_arenas 177 = .ok (.goto 4, 3) := by decide +kernel
theorem dL_arenas_180 : decode cL_arenas 180 = .ok (.iconst 1, 1) := by decide +kernel
theorem dL_arenas_181 : decode cL_arenas 181 = .ok (.iadd, 1) := by decide +kernel
theorem dL_arenas_182 : decode cL_arenas 182 = .ok (.istore 9, 2) := by decide +kernel
theorem dL_arenas_184 : decode cL_arenas 184 = .ok (.iinc 10 1, 3) := by decide +kernel
theorem dL_arenas_187 : decode cL_arenas 187 = .ok (.goto (-31), 3) := by decide +kernel
theorem dL_arenas_190 : decode cL_arenas 190 = .ok (.iload 9, 2) := by decide +kernel
theorem dL_arenas_192 : decode cL_arenas 192 = .ok (.iload 4, 2) := by decide +kernel
theorem dL_arenas_194 : decode cL_arenas 194 = .ok (.if_icmp .ne 89, 3) := by decide +kernel
theorem dL_arenas_197 : decode cL_arenas 197 = .ok (.aload_n 0, 1) := by decide +kernel
theorem dL_arenas_198 : decode cL_arenas 198 = .ok (.iload_n 3, 1) := by decide +kernel
theorem dL_arenas_199 : decode cL_arenas 199 = .ok (.iconst 2, 1) := by decide +kernel
theorem dL_arenas_200 : decode cL_arenas 200 = .ok (.invokevirtual 47, 3) := by decide +kernel
theorem dL_arenas_203 : decode cL_arenas 203 = .ok (.iload 5, 2) := by decide +kernel
theorem dL_arenas_205 : decode cL_arenas 205 = .ok (.if_icmp .ne 78, 3) := by decide +kernel
theorem dL_arenas_208 : decode cL_arenas 208 = .ok (.aload_n 0, 1) := by decide +kernel
theorem dL_arenas_209 : decode cL_arenas 209 = .ok (.iload_n 3, 1) := by decide +kernel
theorem dL_arenas_210 : decode cL_arenas 210 = .ok (.iconst 3, 1) := by decide +kernel
theorem dL_arenas_211 : decode cL_arenas 211 = .ok (.invokevirtual 47, 3) := by decide +kernel
theorem dL_arenas_214 : decode cL_arenas 214 = .ok (.iload 6, 2) := by decide +kernel
theorem dL_arenas_216 : decode cL_arenas 216 = .ok (.if_icmp .ne 67, 3) := by decide +kernel
theorem dL_arenas_219 : decode cL_arenas 219 = .ok (.aload_n 0, 1) := by decide +kernel
theorem dL_arenas_220 : decode cL_arenas 220 = .ok (.iload_n 3, 1) := by decide +kernel
theorem dL_arenas_221 : decode cL_arenas 221 = .ok (.iconst 4, 1) := by decide +kernel
theorem dL_arenas_222 : decode cL_arenas 222 = .ok (.invokevirtual 47, 3) := by decide +kernel
theorem dL_arenas_225 : decode cL_arenas 225 = .ok (.aload_n 0, 1) := by decide +kernel
theorem dL_arenas_226 : decode cL_arenas 226 = .ok (.iload_n 3, 1) := by decide +kernel
theorem dL_arenas_227 : decode cL_arenas 227 = .ok (.iconst 1, 1) := by decide +kernel
theorem dL_arenas_228 : decode cL_arenas 228 = .ok (.invokevirtual 47, 3) := by decide +kernel
theorem dL_arenas_231 : decode cL_arenas 231 = .ok (.iload 6, 2) := by decide +kernel
theorem dL_arenas_233 : decode cL_arenas 233 = .ok (.isub, 1) := by decide +kernel
theorem dL_arenas_234 : decode cL_arenas 234 = .ok (.if_icmp .ne 49, 3) := by decide +kernel
theorem dL_arenas_237 : decode cL_arenas 237 = .ok (.aload_n 0, 1) := by decide +kernel
theorem dL_arenas_238 : decode cL_arenas 238 = .ok (.iload_n 3, 1) := by decide +kernel
theorem dL_arenas_239 : decode cL_arenas 239 = .ok (.iconst 1, 1) := by decide +kernel
theorem dL_arenas_240 : decode cL_arenas 240 = .ok (.invokevirtual 47, 3) := by decide +kernel
theorem dL_arenas_243 : decode cL_arenas 243 = .ok (.iload 4, 2) := by decide +kernel
theorem dL_arenas_245 : decode cL_arenas 245 = .ok (.if_icmp .ne 38, 3) := by decide +kernel
theorem dL_arenas_248 : decode cL_arenas 248 = .ok (.aload_n 0, 1) := by decide +kernel
theorem dL_arenas_249 : decode cL_arenas 249 = .ok (.iload_n 3, 1) := by decide +kernel
theorem dL_arenas_250 : decode cL_arenas 250 = .ok (.iconst 5, 1) := by decide +kernel
theorem dL_arenas_251 : decode cL_arenas 251 = .ok (.invokevirtual 47, 3) := by decide +kernel
theorem dL_arenas_254 : decode cL_arenas 254 = .ok (.iload 7, 2) := by decide +kernel
theorem dL_arenas_256 : decode cL_arenas 256 = .ok (.if_icmp .ne 27, 3) := by decide +kernel
theorem dL_arenas_259 : decode cL_arenas 259 = .ok (.aload_n 0, 1) := by decide +kernel
theorem dL_arenas_260 : decode cL_arenas 260 = .ok (.iload_n 3, 1) := by decide +kernel
theorem dL_arenas_261 : decode cL_arenas 261 = .ok (.bipush 6, 2) := by decide +kernel
theorem dL_arenas_263 : decode cL_arenas 263 = .ok (.invokevirtual 47, 3) := by decide +kernel
theorem dL_arenas_266 : decode cL_arenas 266 = .ok (.iload 8, 2) := by decide +kernel
theorem dL_arenas_268 : decode cL_arenas 268 = .ok (.ifCond .eq 7, 3) := by decide +kernel
theorem dL_arenas_271 : decode cL_arenas 271 = .ok (.iconst 1, 1) := by decide +kernel
theorem dL_arenas_272 : decode cL_arenas 272 = .ok (.goto 4, 3) := by decide +kernel
theorem dL_arenas_275 : decode cL_arenas 275 = .ok (.iconst 0, 1) := by decide +kernel
theorem dL_arenas_276 : decode cL_arenas 276 = .ok (.if_icmp .ne 7, 3) := by decide +kernel
theorem dL_arenas_279 : decode cL_arenas 279 = .ok (.iconst 1, 1) := by decide +kernel
theorem dL_arenas_280 : decode cL_arenas 280 = .ok (.goto 4, 3) := by decide +kernel
theorem dL_arenas_283 : decode cL_arenas 283 = .ok (.iconst 0, 1) := by decide +kernel
theorem dL_arenas_284 : decode cL_arenas 284 = .ok (.istore_n 2, 1) := by decide +kernel
theorem dL_arenas_285 : decode cL_arenas 285 = .ok (.iload_n 2, 1) := by decide +kernel
theorem dL_arenas_286 : decode cL_arenas 286 = .ok (.ifCond .eq 58, 3) := by decide +kernel
theorem dL_arenas_289 : decode cL_arenas 289 = .ok (.aload_n 0, 1) := by decide +kernel
theorem dL_arenas_290 : decode cL_arenas 290 = .ok (.iload_n 3, 1) := by decide +kernel
theorem dL_arenas_291 : decode cL_arenas 291 = .ok (.iconst 0, 1) := by decide +kernel
theorem dL_arenas_292 : decode cL_arenas 292 = .ok (.invokevirtual 47, 3) := by decide +kernel
theorem dL_arenas_295 : decode cL_arenas 295 = .ok (.iconst 1, 1) := by decide +kernel
theorem dL_arenas_296 : decode cL_arenas 296 = .ok (.if_icmp .eq 17, 3) := by decide +kernel
theorem dL_arenas_299 : decode cL_arenas 299 = .ok (.aload_n 0, 1) := by decide +kernel
theorem dL_arenas_300 : decode cL_arenas 300 = .ok (.iload_n 3, 1) := by decide +kernel
theorem dL_arenas_301 : decode cL_arenas 301 = .ok (.iconst 1, 1) := by decide +kernel
theorem dL_arenas_302 : decode cL_arenas 302 = .ok (.invokevirtual 47, 3) := by decide +kernel
theorem dL_arenas_305 : decode cL_arenas 305 = .ok (.ifCond .ne 39, 3) := by decide +kernel
theorem dL_arenas_308 : decode cL_arenas 308 = .ok (.iload 5, 2) := by decide +kernel
theorem dL_arenas_310 : decode cL_arenas 310 = .ok (.ifCond .ne 34, 3) := by decide +kernel
theorem dL_arenas_313 : decode cL_arenas 313 = .ok (.aload_n 0, 1) := by decide +kernel
theorem dL_arenas_314 : decode cL_arenas 314 = .ok (.iload_n 3, 1) := by decide +kernel
theorem dL_arenas_315 : decode cL_arenas 315 = .ok (.iconst 1, 1) := by decide +kernel
theorem dL_arenas_316 : decode cL_arenas 316 = .ok (.invokevirtual 47, 3) := by decide +kernel
theorem dL_arenas_319 : decode cL_arenas 319 = .ok (.bipush 64, 2) := by decide +kernel
theorem dL_arenas_321 : decode cL_arenas 321 = .ok (.if_icmp .gt 23, 3) := by decide +kernel
theorem dL_arenas_324 : decode cL_arenas 324 = .ok (.aload_n 0, 1) := by decide +kernel
theorem dL_arenas_325 : decode cL_arenas 325 = .ok (.iload_n 3, 1) := by decide +kernel
theorem dL_arenas_326 : decode cL_arenas 326 = .ok (.bipush 7, 2) := by decide +kernel
theorem dL_arenas_328 : decode cL_arenas 328 = .ok (.invokevirtual 47, 3) := by decide +kernel
theorem dL_arenas_331 : decode cL_arenas 331 = .ok (.aload_n 0, 1) := by decide +kernel
theorem dL_arenas_332 : decode cL_arenas 332 = .ok (.iload_n 3, 1) := by decide +kernel
theorem dL_arenas_333 : decode cL_arenas 333 = .ok (.iconst 0, 1) := by decide +kernel
theorem dL_arenas_334 : decode cL_arenas 334 = .ok (.invokevirtual 47, 3) := by decide +kernel
theorem dL_arenas_337 : decode cL_arenas 337 = .ok (.if_icmp .lt 7, 3) := by decide +kernel
theorem dL_arenas_340 : decode cL_arenas 340 = .ok (.iconst 1, 1) := by decide +kernel
theorem dL_arenas_341 : decode cL_arenas 341 = .ok (.goto 4, 3) := by decide +kernel
theorem dL_arenas_344 : decode cL_arenas 344 = .ok (.iconst 0, 1) := by decide +kernel
theorem dL_arenas_345 : decode cL_arenas 345 = .ok (.istore_n 2, 1) := by decide +kernel
theorem dL_arenas_346 : decode cL_arenas 346 = .ok (.iload_n 1, 1) := by decide +kernel
theorem dL_arenas_347 : decode cL_arenas 347 = .ok (.aload_n 0, 1) := by decide +kernel
theorem dL_arenas_348 : decode cL_arenas 348 = .ok (.iload_n 3, 1) := by decide +kernel
theorem dL_arenas_349 : decode cL_arenas 349 = .ok (.iconst 0, 1) := by decide +kernel
theorem dL_arenas_350 : decode cL_arenas 350 = .ok (.invokevirtual 47, 3) := by decide +kernel
theorem dL_arenas_353 : decode cL_arenas 353 = .ok (.iadd, 1) := by decide +kernel
theorem dL_arenas_354 : decode cL_arenas 354 = .ok (.istore_n 1, 1) := by decide +kernel
theorem dL_arenas_355 : decode cL_arenas 355 = .ok (.iinc 3 1, 3) := by decide +kernel
theorem dL_arenas_358 : decode cL_arenas 358 = .ok (.goto (-352), 3) := by decide +kernel
theorem dL_arenas_361 : decode cL_arenas 361 = .ok (.aload_n 0, 1) := by decide +kernel
theorem dL_arenas_362 : decode cL_arenas 362 = .ok (.invokevirtual 63, 3) := by decide +kernel
theorem dL_arenas_365 : decode cL_arenas 365 = .ok (.istore_n 3, 1) := by decide +kernel
theorem dL_arenas_366 : decode cL_arenas 366 = .ok (.iload_n 2, 1) := by decide +kernel
theorem dL_arenas_367 : decode cL_arenas 367 = .ok (.ifCond .eq 59, 3) := by decide +kernel
theorem dL_arenas_370 : decode cL_arenas 370 = .ok (.iload_n 1, 1) := by decide +kernel
theorem dL_arenas_371 : decode cL_arenas 371 = .ok (.aload_n 0, 1) := by decide +kernel
theorem dL_arenas_372 : decode cL_arenas 372 = .ok (.iconst 2, 1) := by decide +kernel
theorem dL_arenas_373 : decode cL_arenas 373 = .ok (.invokevirtual 57, 3) := by decide +kernel
theorem dL_arenas_376 : decode cL_arenas 376 = .ok (.if_icmp .ne 50, 3) := by decide +kernel
theorem dL_arenas_379 : decode cL_arenas 379 = .ok (.iload_n 3, 1) := by decide +kernel
theorem dL_arenas_380 : decode cL_arenas 380 = .ok (.iconst (-1), 1) := by decide +kernel
theorem dL_arenas_381 : decode cL_arenas 381 = .ok (.if_icmp .eq 23, 3) := by decide +kernel
theorem dL_arenas_384 : decode cL_arenas 384 = .ok (.aload_n 0, 1) := by decide +kernel
theorem dL_arenas_385 : decode cL_arenas 385 = .ok (.iload_n 3, 1) := by decide +kernel
theorem dL_arenas_386 : decode cL_arenas 386 = .ok (.iconst 0, 1) := by decide +kernel
theorem dL_arenas_387 : decode cL_arenas 387 = .ok (.invokevirtual 47, 3) := by decide +kernel
theorem dL_arenas_390 : decode cL_arenas 390 = .ok (.iconst 1, 1) := by decide +kernel
theorem dL_arenas_391 : decode cL_arenas 391 = .ok (.if_icmp .ne 35, 3) := by decide +kernel
theorem dL_arenas_394 : decode cL_arenas 394 = .ok (.aload_n 0, 1) := by decide +kernel
theorem dL_arenas_395 : decode cL_arenas 395 = .ok (.iload_n 3, 1) := by decide +kernel
theorem dL_arenas_396 : decode cL_arenas 396 = .ok (.bipush 6, 2) := by decide +kernel
theorem dL_arenas_398 : decode cL_arenas 398 = .ok (.invokevirtual 47, 3) := by decide +kernel
theorem dL_arenas_401 : decode cL_arenas 401 = .ok (.ifCond .ne 25, 3) := by decide +kernel
theorem dL_arenas_404 : decode cL_arenas 404 = .ok (.aload_n 0, 1) := by decide +kernel
theorem dL_arenas_405 : decode cL_arenas 405 = .ok (.invokevirtual 66, 3) := by decide +kernel
theorem dL_arenas_408 : decode cL_arenas 408 = .ok (.dconst 0, 1) := by decide +kernel
theorem dL_arenas_409 : decode cL_arenas 409 = .ok (.dcmp .l, 1) := by decide +kernel
theorem dL_arenas_410 : decode cL_arenas 410 = .ok (.ifCond .lt 16, 3) := by decide +kernel
theorem dL_arenas_413 : decode cL_arenas 413 = .ok (.aload_n 0, 1) := by decide +kernel
theorem dL_arenas_414 : decode cL_arenas 414 = .ok (.invokevirtual 66, 3) := by decide +kernel
theorem dL_arenas_417 : decode cL_arenas 417 = .ok (.dconst 1, 1) := by decide +kernel
theorem dL_arenas_418 : decode cL_arenas 418 = .ok (.dcmp .g, 1) := by decide +kernel
theorem dL_arenas_419 : decode cL_arenas 419 = .ok (.ifCond .gt 7, 3) := by decide +kernel
theorem dL_arenas_422 : decode cL_arenas 422 = .ok (.iconst 1, 1) := by decide +kernel
theorem dL_arenas_423 : decode cL_arenas 423 = .ok (.goto 4, 3) := by decide +kernel
theorem dL_arenas_426 : decode cL_arenas 426 = .ok (.iconst 0, 1) := by decide +kernel
theorem dL_arenas_427 : decode cL_arenas 427 = .ok (.ireturn, 1) := by decide +kernel
theorem dL_act_0 : decode cL_act 0 = .ok (.aload_n 1, 1) := by decide +kernel
theorem dL_act_1 : decode cL_act 1 = .ok (.iload_n 2, 1) := by decide +kernel
theorem dL_act_2 : decode cL_act 2 = .ok (.iconst 1, 1) := by decide +kernel
theorem dL_act_3 : decode cL_act 3 = .ok (.iadd, 1) := by decide +kernel
theorem dL_act_4 : decode cL_act 4 = .ok (.invokestatic 70, 3) := by decide +kernel
theorem dL_act_7 : decode cL_act 7 = .ok (.istore_n 3, 1) := by decide +kernel
theorem dL_act_8 : decode cL_act 8 = .ok (.aload_n 1, 1) := by decide +kernel
theorem dL_act_9 : decode cL_act 9 = .ok (.iload_n 2, 1) := by decide +kernel
theorem dL_act_10 : decode cL_act 10 = .ok (.iconst 2, 1) := by decide +kernel
theorem dL_act_11 : decode cL_act 11 = .ok (.iadd, 1) := by decide +kernel
theorem dL_act_12 : decode cL_act 12 = .ok (.invokestatic 70, 3) := by decide +kernel
theorem dL_act_15 : decode cL_act 15 = .ok (.istore 4, 2) := by decide +kernel
theorem dL_act_17 : decode cL_act 17 = .ok (.iload_n 3, 1) := by decide +kernel
theorem dL_act_18 : decode cL_act 18 = .ok (.bipush 14, 2) := by decide +kernel
theorem dL_act_20 : decode cL_act 20 = .ok (.invokestatic 74, 3) := by decide +kernel
theorem dL_act_23 : decode cL_act 23 = .ok (.istore 5, 2) := by decide +kernel
theorem dL_act_25 : decode cL_act 25 = .ok (.aload_n 1, 1) := by decide +kernel
theorem dL_act_26 : decode cL_act 26 = .ok (.iload_n 2, 1) := by decide +kernel
theorem dL_act_27 : decode cL_act 27 = .ok (.invokestatic 70, 3) := by decide +kernel
theorem dL_act_30 : decode cL_act 30 = .ok (.bipush 18, 2) := by decide +kernel
theorem dL_act_32 : decode cL_act 32 = .ok (.invokestatic 74, 3) := by decide +kernel
theorem dL_act_35 : decode cL_act 35 = .ok (.tableswitch 257 0 16 #[81, 86, 86, 86, 86, 86, 86, 105, 105, 105, 105, 138, 138, 173, 208, 208, 224], 81) := by decide +kernel
theorem dL_act_116 : decode cL_act 116 = .ok (.aload_n 0, 1) := by decide +kernel
theorem dL_act_117 : decode cL_act 117 = .ok (.invokestatic 77, 3) := by decide +kernel
theorem dL_act_120 : decode cL_act 120 = .ok (.ireturn, 1) := by decide +kernel
theorem dL_act_121 : decode cL_act 121 = .ok (.aload_n 0, 1) := by decide +kernel
theorem dL_act_122 : decode cL_act 122 = .ok (.iload_n 3, 1) := by decide +kernel
theorem dL_act_123 : decode cL_act 123 = .ok (.iconst 4, 1) := by decide +kernel
theorem dL_act_124 : decode cL_act 124 = .ok (.invokestatic 74, 3) := by decide +kernel
theorem dL_act_127 : decode cL_act 127 = .ok (.iconst 1, 1) := by decide +kernel
theorem dL_act_128 : decode cL_act 128 = .ok (.iload 4, 2) := by decide +kernel
theorem dL_act_130 : decode cL_act 130 = .ok (.bipush 9, 2) := by decide +kernel
theorem dL_act_132 : decode cL_act 132 = .ok (.invokestatic 74, 3) := by decide +kernel
theorem dL_act_135 : decode cL_act 135 = .ok (.iadd, 1) := by decide +kernel
theorem dL_act_136 : decode cL_act 136 = .ok (.invokestatic 80, 3) := by decide +kernel
theorem dL_act_139 : decode cL_act 139 = .ok (.ireturn, 1) := by decide +kernel
theorem dL_act_140 : decode cL_act 140 = .ok (.aload_n 0, 1) := by decide +kernel
theorem dL_act_141 : decode cL_act 141 = .ok (.iload 5, 2) := by decide +kernel
theorem dL_act_143 : decode cL_act 143 = .ok (.iload 4, 2) := by decide +kernel
theorem dL_act_145 : decode cL_act 145 = .ok (.iconst 2, 1) := by decide +kernel
theorem dL_act_146 : decode cL_act 146 = .ok (.invokestatic 74, 3) := by decide +kernel
theorem dL_act_149 : decode cL_act 149 = .ok (.iload 4, 2) := by decide +kernel
theorem dL_act_151 : decode cL_act 151 = .ok (.bipush 15, 2) := by decide +kernel
theorem dL_act_153 : decode cL_act 153 = .ok (.invokestatic 74, 3) := by decide +kernel
theorem dL_act_156 : decode cL_act 156 = .ok (.iconst 1, 1) := by decide +kernel
theorem dL_act_157 : decode cL_act 157 = .ok (.isub, 1) := by decide +kernel
theorem dL_act_158 : decode cL_act 158 = .ok (.invokestatic 82, 3) := by decide +kernel
theorem dL_act_161 : decode cL_act 161 = .ok (.bipush (-4), 2) := by decide +kernel
theorem dL_act_163 : decode cL_act 163 = .ok (.if_icmp .ne 8, 3) := by decide +kernel
theorem dL_act_166 : decode cL_act 166 = .ok (.bipush (-4), 2) := by decide +kernel
theorem dL_act_168 : decode cL_act 168 = .ok (.goto 4, 3) := by decide +kernel
theorem dL_act_171 : decode cL_act 171 = .ok (.iconst 0, 1) := by decide +kernel
theorem dL_act_172 : decode cL_act 172 = .ok (.ireturn, 1) := by decide +kernel
theorem dL_act_173 : decode cL_act 173 = .ok (.aload_n 0, 1) := by decide +kernel
theorem dL_act_174 : decode cL_act 174 = .ok (.iload 5, 2) := by decide +kernel
theorem dL_act_176 : decode cL_act 176 = .ok (.invokestatic 43, 3) := by decide +kernel
theorem dL_act_179 : decode cL_act 179 = .ok (.ifCond .eq 26, 3) := by decide +kernel
theorem dL_act_182 : decode cL_act 182 = .ok (.aload_n 0, 1) := by decide +kernel
theorem dL_act_183 : decode cL_act 183 = .ok (.iload 5, 2) := by decide +kernel
theorem dL_act_185 : decode cL_act 185 = .ok (.iload 4, 2) := by decide +kernel
theorem dL_act_187 : decode cL_act 187 = .ok (.iconst 3, 1) := by decide +kernel
theorem dL_act_188 : decode cL_act 188 = .ok (.invokestatic 74, 3) := by decide +kernel
theorem dL_act_191 : decode cL_act 191 = .ok (.ifCond .le 7, 3) := by decide +kernel
theorem dL_act_194 : decode cL_act 194 = .ok (.iconst 1, 1) := by decide +kernel
theorem dL_act_195 : decode cL_act 195 = .ok (.goto 4, 3) := by decide +kernel
theorem dL_act_198 : decode cL_act 198 = .ok (.iconst 0, 1) := by decide +kernel
theorem dL_act_199 : decode cL_act 199 = .ok (.invokevirtual 85, 3) := by decide +kernel
theorem dL_act_202 : decode cL_act 202 = .ok (.goto 5, 3) := by decide +kernel
theorem dL_act_205 : decode cL_act 205 = .ok (.bipush (-4), 2) := by decide +kernel
theorem dL_act_207 : decode cL_act 207 = .ok (.ireturn, 1) := by decide +kernel
theorem dL_act_208 : decode cL_act 208 = .ok (.aload_n 0, 1) := by decide +kernel
theorem dL_act_209 : decode cL_act 209 = .ok (.iload 5, 2) := by decide +kernel
theorem dL_act_211 : decode cL_act 211 = .ok (.invokestatic 43, 3) := by decide +kernel
theorem dL_act_214 : decode cL_act 214 = .ok (.ifCond .eq 26, 3) := by decide +kernel
theorem dL_act_217 : decode cL_act 217 = .ok (.aload_n 0, 1) := by decide +kernel
theorem dL_act_218 : decode cL_act 218 = .ok (.iload 5, 2) := by decide +kernel
theorem dL_act_220 : decode cL_act 220 = .ok (.iload 4, 2) := by decide +kernel
theorem dL_act_222 : decode cL_act 222 = .ok (.iconst 3, 1) := by decide +kernel
theorem dL_act_223 : decode cL_act 223 = .ok (.invokestatic 74, 3) := by decide +kernel
theorem dL_act_226 : decode cL_act 226 = .ok (.ifCond .ne 7, 3) := by decide +kernel
theorem dL_act_229 : decode cL_act 229 = .ok (.iconst 1, 1) := by decide +kernel
theorem dL_act_230 : decode cL_act 230 = .ok (.goto 4, 3) := by decide +kernel
theorem dL_act_233 : decode cL_act 233 = .ok (.iconst 0, 1) := by decide +kernel
theorem dL_act_234 : decode cL_act 234 = .ok (.invokevirtual 89, 3) := by decide +kernel
theorem dL_act_237 : decode cL_act 237 = .ok (.goto 5, 3) := by decide +kernel
theorem dL_act_240 : decode cL_act 240 = .ok (.bipush (-4), 2) := by decide +kernel
theorem dL_act_242 : decode cL_act 242 = .ok (.ireturn, 1) := by decide +kernel
theorem dL_act_243 : decode cL_act 243 = .ok (.aload_n 0, 1) := by decide +kernel
theorem dL_act_244 : decode cL_act 244 = .ok (.iload_n 3, 1) := by decide +kernel
theorem dL_act_245 : decode cL_act 245 = .ok (.iconst 4, 1) := by decide +kernel
theorem dL_act_246 : decode cL_act 246 = .ok (.invokestatic 74, 3) := by decide +kernel
theorem dL_act_249 : decode cL_act 249 = .ok (.iload 4, 2) := by decide +kernel
theorem dL_act_251 : decode cL_act 251 = .ok (.iconst 4, 1) := by decide +kernel
theorem dL_act_252 : decode cL_act 252 = .ok (.invokestatic 74, 3) := by decide +kernel
theorem dL_act_255 : decode cL_act 255 = .ok (.invokestatic 92, 3) := by decide +kernel
theorem dL_act_258 : decode cL_act 258 = .ok (.ireturn, 1) := by decide +kernel
theorem dL_act_259 : decode cL_act 259 = .ok (.aload_n 0, 1) := by decide +kernel
theorem dL_act_260 : decode cL_act 260 = .ok (.iload_n 3, 1) := by decide +kernel
theorem dL_act_261 : decode cL_act 261 = .ok (.iconst 2, 1) := by decide +kernel
theorem dL_act_262 : decode cL_act 262 = .ok (.invokestatic 74, 3) := by decide +kernel
theorem dL_act_265 : decode cL_act 265 = .ok (.iload_n 3, 1) := by decide +kernel
theorem dL_act_266 : decode cL_act 266 = .ok (.iconst 2, 1) := by decide +kernel
theorem dL_act_267 : decode cL_act 267 = .ok (.invokestatic 74, 3) := by decide +kernel
theorem dL_act_270 : decode cL_act 270 = .ok (.ifCond .ne 12, 3) := by decide +kernel
theorem dL_act_273 : decode cL_act 273 = .ok (.iload 4, 2) := by decide +kernel
theorem dL_act_275 : decode cL_act 275 = .ok (.iconst 2, 1) := by decide +kernel
theorem dL_act_276 : decode cL_act 276 = .ok (.invokestatic 74, 3) := by decide +kernel
theorem dL_act_279 : decode cL_act 279 = .ok (.goto 9, 3) := by decide +kernel
theorem dL_act_282 : decode cL_act 282 = .ok (.iload 4, 2) := by decide +kernel
theorem dL_act_284 : decode cL_act 284 = .ok (.iconst 3, 1) := by decide +kernel
theorem dL_act_285 : decode cL_act 285 = .ok (.invokestatic 74, 3) := by decide +kernel
theorem dL_act_288 : decode cL_act 288 = .ok (.invokevirtual 94, 3) := by decide +kernel
theorem dL_act_291 : decode cL_act 291 = .ok (.ireturn, 1) := by decide +kernel
theorem dL_act_292 : decode cL_act 292 = .ok (.aload_n 0, 1) := by decide +kernel
theorem dL_act_293 : decode cL_act 293 = .ok (.invokestatic 97, 3) := by decide +kernel
theorem dL_act_296 : decode cL_act 296 = .ok (.ireturn, 1) := by decide +kernel
theorem dL_law_0 : decode cL_law 0 = .ok (.new 10, 3) := by decide +kernel
theorem dL_law_3 : decode cL_law 3 = .ok (.dup, 1) := by decide +kernel
theorem dL_law_4 : decode cL_law 4 = .ok (.invokespecial 99, 3) := by decide +kernel
theorem dL_law_7 : decode cL_law 7 = .ok (.astore_n 1, 1) := by decide +kernel
theorem dL_law_8 : decode cL_law 8 = .ok (.aload_n 1, 1) := by decide +kernel
theorem dL_law_9 : decode cL_law 9 = .ok (.invokevirtual 9, 3) := by decide +kernel
theorem dL_law_12 : decode cL_law 12 = .ok (.pop, 1) := by decide +kernel
theorem dL_law_13 : decode cL_law 13 = .ok (.iconst 1, 1) := by decide +kernel
theorem dL_law_14 : decode cL_law 14 = .ok (.istore_n 2, 1) := by decide +kernel
theorem dL_law_15 : decode cL_law 15 = .ok (.aload_n 0, 1) := by decide +kernel
theorem dL_law_16 : decode cL_law 16 = .ok (.arraylength, 1) := by decide +kernel
theorem dL_law_17 : decode cL_law 17 = .ok (.iconst 3, 1) := by decide +kernel
theorem dL_law_18 : decode cL_law 18 = .ok (.idiv, 1) := by decide +kernel
theorem dL_law_19 : decode cL_law 19 = .ok (.bipush 40, 2) := by decide +kernel
theorem dL_law_21 : decode cL_law 21 = .ok (.if_icmp .le 8, 3) := by decide +kernel
theorem dL_law_24 : decode cL_law 24 = .ok (.bipush 40, 2) := by decide +kernel
theorem dL_law_26 : decode cL_law 26 = .ok (.goto 7, 3) := by decide +kernel
theorem dL_law_29 : decode cL_law 29 = .ok (.aload_n 0, 1) := by decide +kernel
theorem dL_law_30 : decode cL_law 30 = .ok (.arraylength, 1) := by decide +kernel
theorem dL_law_31 : decode cL_law 31 = .ok (.iconst 3, 1) := by decide +kernel
theorem dL_law_32 : decode cL_law 32 = .ok (.idiv, 1) := by decide +kernel
theorem dL_law_33 : decode cL_law 33 = .ok (.istore_n 3, 1) := by decide +kernel
theorem dL_law_34 : decode cL_law 34 = .ok (.iconst 0, 1) := by decide +kernel
theorem dL_law_35 : decode cL_law 35 = .ok (.istore 4, 2) := by decide +kernel
theorem dL_law_37 : decode cL_law 37 = .ok (.iload 4, 2) := by decide +kernel
theorem dL_law_39 : decode cL_law 39 = .ok (.iload_n 3, 1) := by decide +kernel
theorem dL_law_40 : decode cL_law 40 = .ok (.if_icmp .ge 130, 3) := by decide +kernel
theorem dL_law_43 : decode cL_law 43 = .ok (.iload_n 2, 1) := by decide +kernel
theorem dL_law_44 : decode cL_law 44 = .ok (.ifCond .eq 126, 3) := by decide +kernel
theorem dL_law_47 : decode cL_law 47 = .ok (.aload_n 1, 1) := by decide +kernel
theorem dL_law_48 : decode cL_law 48 = .ok (.bipush 10, 2) := by decide +kernel
theorem dL_law_50 : decode cL_law 50 = .ok (.invokevirtual 57, 3) := by decide +kernel
theorem dL_law_53 : decode cL_law 53 = .ok (.istore 5, 2) := by decide +kernel
theorem dL_law_55 : decode cL_law 55 = .ok (.aload_n 1, 1) := by decide +kernel
theorem dL_law_56 : decode cL_law 56 = .ok (.iconst 0, 1) := by decide +kernel
theorem dL_law_57 : decode cL_law 57 = .ok (.invokevirtual 57, 3) := by decide +kernel
theorem dL_law_60 : decode cL_law 60 = .ok (.istore 6, 2) := by decide +kernel
theorem dL_law_62 : decode cL_law 62 = .ok (.aload_n 1, 1) := by decide +kernel
theorem dL_law_63 : decode cL_law 63 = .ok (.bipush 6, 2) := by decide +kernel
theorem dL_law_65 : decode cL_law 65 = .ok (.invokevirtual 57, 3) := by decide +kernel
theorem dL_law_68 : decode cL_law 68 = .ok (.istore 7, 2) := by decide +kernel
theorem dL_law_70 : decode cL_law 70 = .ok (.aload_n 1, 1) := by decide +kernel
theorem dL_law_71 : decode cL_law 71 = .ok (.bipush 7, 2) := by decide +kernel
theorem dL_law_73 : decode cL_law 73 = .ok (.invokevirtual 57, 3) := by decide +kernel
theorem dL_law_76 : decode cL_law 76 = .ok (.istore 8, 2) := by decide +kernel
theorem dL_law_78 : decode cL_law 78 = .ok (.aload_n 1, 1) := by decide +kernel
theorem dL_law_79 : decode cL_law 79 = .ok (.aload_n 0, 1) := by decide +kernel
theorem dL_law_80 : decode cL_law 80 = .ok (.iconst 3, 1) := by decide +kernel
theorem dL_law_81 : decode cL_law 81 = .ok (.iload 4, 2) := by decide +kernel
theorem dL_law_83 : decode cL_law 83 = .ok (.imul, 1) := by decide +kernel
theorem dL_law_84 : decode cL_law 84 = .ok (.invokestatic 100, 3) := by decide +kernel
theorem dL_law_87 : decode cL_law 87 = .ok (.istore 9, 2) := by decide +kernel
theorem dL_law_89 : decode cL_law 89 = .ok (.iload 9, 2) := by decide +kernel
theorem dL_law_91 : decode cL_law 91 = .ok (.ifCond .ge 46, 3) := by decide +kernel
theorem dL_law_94 : decode cL_law 94 = .ok (.aload_n 1, 1) := by decide +kernel
theorem dL_law_95 : decode cL_law 95 = .ok (.bipush 10, 2) := by decide +kernel
theorem dL_law_97 : decode cL_law 97 = .ok (.invokevirtual 57, 3) := by decide +kernel
theorem dL_law_100 : decode cL_law 100 = .ok (.iload 5, 2) := by decide +kernel
theorem dL_law_102 : decode cL_law 102 = .ok (.if_icmp .ne 60, 3) := by decide +kernel
theorem dL_law_105 : decode cL_law 105 = .ok (.aload_n 1, 1) := by decide +kernel
theorem dL_law_106 : decode cL_law 106 = .ok (.iconst 0, 1) := by decide +kernel
theorem dL_law_107 : decode cL_law 107 = .ok (.invokevirtual 57, 3) := by decide +kernel
theorem dL_law_110 : decode cL_law 110 = .ok (.iload 6, 2) := by decide +kernel
theorem dL_law_112 : decode cL_law 112 = .ok (.if_icmp .ne 50, 3) := by decide +kernel
theorem dL_law_115 : decode cL_law 115 = .ok (.aload_n 1, 1) := by decide +kernel
theorem dL_law_116 : decode cL_law 116 = .ok (.bipush 6, 2) := by decide +kernel
theorem dL_law_118 : decode cL_law 118 = .ok (.invokevirtual 57, 3) := by decide +kernel
theorem dL_law_121 : decode cL_law 121 = .ok (.iload 7, 2) := by decide +kernel
theorem dL_law_123 : decode cL_law 123 = .ok (.if_icmp .ne 39, 3) := by decide +kernel
theorem dL_law_126 : decode cL_law 126 = .ok (.aload_n 1, 1) := by decide +kernel
theorem dL_law_127 : decode cL_law 127 = .ok (.bipush 7, 2) := by decide +kernel
theorem dL_law_129 : decode cL_law 129 = .ok (.invokevirtual 57, 3) := by decide +kernel
theorem dL_law_132 : decode cL_law 132 = .ok (.iload 8, 2) := by decide +kernel
theorem dL_law_134 : decode cL_law 134 = .ok (.if_icmp .ne 28, 3) := by decide +kernel
theorem dL_law_137 : decode cL_law 137 = .ok (.aload_n 1, 1) := by decide +kernel
theorem dL_law_138 : decode cL_law 138 = .ok (.invokestatic 104, 3) := by decide +kernel
theorem dL_law_141 : decode cL_law 141 = .ok (.ifCond .eq 21, 3) := by decide +kernel
theorem dL_law_144 : decode cL_law 144 = .ok (.iload 4, 2) := by decide +kernel
theorem dL_law_146 : decode cL_law 146 = .ok (.iconst 3, 1) := by decide +kernel
theorem dL_law_147 : decode cL_law 147 = .ok (.irem, 1) := by decide +kernel
theorem dL_law_148 : decode cL_law 148 = .ok (.ifCond .gt 10, 3) := by decide +kernel
theorem dL_law_151 : decode cL_law 151 = .ok (.aload_n 1, 1) := by decide +kernel
theorem dL_law_152 : decode cL_law 152 = .ok (.invokestatic 108, 3) := by decide +kernel
theorem dL_law_155 : decode cL_law 155 = .ok (.ifCond .eq 7, 3) := by decide +kernel
theorem dL_law_158 : decode cL_law 158 = .ok (.iconst 1, 1) := by decide +kernel
theorem dL_law_159 : decode cL_law 159 = .ok (.goto 4, 3) := by decide +kernel
theorem dL_law_162 : decode cL_law 162 = .ok (.iconst 0, 1) := by decide +kernel
theorem dL_law_163 : decode cL_law 163 = .ok (.istore_n 2, 1) := by decide +kernel
theorem dL_law_164 : decode cL_law 164 = .ok (.iinc 4 1, 3) := by decide +kernel
theorem dL_law_167 : decode cL_law 167 = .ok (.goto (-130), 3) := by decide +kernel
theorem dL_law_170 : decode cL_law 170 = .ok (.iload_n 2, 1) := by decide +kernel
theorem dL_law_171 : decode cL_law 171 = .ok (.ifCond .eq 14, 3) := by decide +kernel
theorem dL_law_174 : decode cL_law 174 = .ok (.aload_n 1, 1) := by decide +kernel
theorem dL_law_175 : decode cL_law 175 = .ok (.invokestatic 108, 3) := by decide +kernel
theorem dL_law_178 : decode cL_law 178 = .ok (.ifCond .eq 7, 3) := by decide +kernel
theorem dL_law_181 : decode cL_law 181 = .ok (.iconst 1, 1) := by decide +kernel
theorem dL_law_182 : decode cL_law 182 = .ok (.goto 4, 3) := by decide +kernel
theorem dL_law_185 : decode cL_law 185 = .ok (.iconst 0, 1) := by decide +kernel
theorem dL_law_186 : decode cL_law 186 = .ok (.ireturn, 1) := by decide +kernel
abbrev vwCl : List vw_C := [(RX0, TX0, 3), (RX1, TX1, 4), (RX2, TX2, 3), (RX3, TX3, 16), (RX4, TX4, 5), (RX5, TX5, 5)]
