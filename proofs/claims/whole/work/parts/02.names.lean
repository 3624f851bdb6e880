/-! names: of the program that the check prints (claim/NAMES.whole), without its word lists -/
def RX0 : String := "MarkArenas$History"
def TX0 : u_T := fun k => match k with
  | 0 => ("MarkArenas$History", "states", "[LMarkArenas$State;", true)
  | 1 => ("MarkArenas$History", "next", "I", false)
  | _ => ("MarkArenas$History", "saved", "I", false)
def tyX0 : Nat → FieldType := fun k => match k with
  | 0 => .array (.object "MarkArenas$State")
  | 1 => .int
  | _ => .int
theorem nmX0 : ∀ a, a < 3 → ∀ b, b < 3 → a ≠ b → (TX0 a).2.1 ≠ (TX0 b).2.1 := by decide +kernel
theorem tyX0_ok : ∀ k, k < 3 → parseFieldDescriptor (TX0 k).2.2.1 = some (tyX0 k) := by decide +kernel
abbrev cX0_init : ByteArray := prog_2_method_1_code
def yX0_init : MethodName := ⟨RX0, "<init>", "()V"⟩
abbrev cX0_save : ByteArray := prog_2_method_2_code
def yX0_save : MethodName := ⟨RX0, "save", "(LMarkArenas$State;)V"⟩
abbrev cX0_restore : ByteArray := prog_2_method_3_code
def yX0_restore : MethodName := ⟨RX0, "restore", "(LMarkArenas$State;)V"⟩
def RX1 : String := "MarkArenas$Reach"
def TX1 : u_T := fun k => match k with
  | 0 => ("MarkArenas$Reach", "order", "[I", true)
  | 1 => ("MarkArenas$Reach", "place", "[I", true)
  | 2 => ("MarkArenas$Reach", "steps", "[I", true)
  | _ => ("MarkArenas$Reach", "met", "I", false)
def tyX1 : Nat → FieldType := fun k => match k with
  | 0 => .array .int
  | 1 => .array .int
  | 2 => .array .int
  | _ => .int
theorem nmX1 : ∀ a, a < 4 → ∀ b, b < 4 → a ≠ b → (TX1 a).2.1 ≠ (TX1 b).2.1 := by decide +kernel
theorem tyX1_ok : ∀ k, k < 4 → parseFieldDescriptor (TX1 k).2.2.1 = some (tyX1 k) := by decide +kernel
abbrev cX1_init : ByteArray := prog_3_method_1_code
def yX1_init : MethodName := ⟨RX1, "<init>", "()V"⟩
abbrev cX1_forget : ByteArray := prog_3_method_2_code
def yX1_forget : MethodName := ⟨RX1, "forget", "()V"⟩
abbrev cX1_hasMet : ByteArray := prog_3_method_3_code
def yX1_hasMet : MethodName := ⟨RX1, "hasMet", "(I)Z"⟩
abbrev cX1_placeOf : ByteArray := prog_3_method_4_code
def yX1_placeOf : MethodName := ⟨RX1, "placeOf", "(I)I"⟩
abbrev cX1_stepsTo : ByteArray := prog_3_method_5_code
def yX1_stepsTo : MethodName := ⟨RX1, "stepsTo", "(I)I"⟩
abbrev cX1_meet : ByteArray := prog_3_method_6_code
def yX1_meet : MethodName := ⟨RX1, "meet", "(II)V"⟩
abbrev cX1_startAtRoots : ByteArray := prog_3_method_7_code
def yX1_startAtRoots : MethodName := ⟨RX1, "startAtRoots", "(LMarkArenas$State;I)V"⟩
abbrev cX1_follow : ByteArray := prog_3_method_8_code
def yX1_follow : MethodName := ⟨RX1, "follow", "(LMarkArenas$State;II)V"⟩
abbrev cX1_cells : ByteArray := prog_3_method_9_code
def yX1_cells : MethodName := ⟨RX1, "cells", "(LMarkArenas$State;)I"⟩
def RX2 : String := "MarkArenas$Returning"
def TX2 : u_T := fun k => match k with
  | 0 => ("MarkArenas$Returning", "living", "LMarkArenas$Reach;", true)
  | 1 => ("MarkArenas$Returning", "surviving", "LMarkArenas$Reach;", true)
  | _ => ("MarkArenas$Returning", "landings", "[I", true)
def tyX2 : Nat → FieldType := fun k => match k with
  | 0 => .object "MarkArenas$Reach"
  | 1 => .object "MarkArenas$Reach"
  | _ => .array .int
theorem nmX2 : ∀ a, a < 3 → ∀ b, b < 3 → a ≠ b → (TX2 a).2.1 ≠ (TX2 b).2.1 := by decide +kernel
theorem tyX2_ok : ∀ k, k < 3 → parseFieldDescriptor (TX2 k).2.2.1 = some (tyX2 k) := by decide +kernel
abbrev cX2_init : ByteArray := prog_4_method_1_code
def yX2_init : MethodName := ⟨RX2, "<init>", "()V"⟩
abbrev cX2_survey : ByteArray := prog_4_method_2_code
def yX2_survey : MethodName := ⟨RX2, "survey", "(LMarkArenas$State;I)V"⟩
abbrev cX2_meetRemembered : ByteArray := prog_4_method_3_code
def yX2_meetRemembered : MethodName := ⟨RX2, "meetRemembered", "(LMarkArenas$State;I)V"⟩
abbrev cX2_survivingCells : ByteArray := prog_4_method_4_code
def yX2_survivingCells : MethodName := ⟨RX2, "survivingCells", "(LMarkArenas$State;)I"⟩
abbrev cX2_deadCells : ByteArray := prog_4_method_5_code
def yX2_deadCells : MethodName := ⟨RX2, "deadCells", "(LMarkArenas$State;I)I"⟩
abbrev cX2_isKept : ByteArray := prog_4_method_6_code
def yX2_isKept : MethodName := ⟨RX2, "isKept", "(LMarkArenas$State;)Z"⟩
abbrev cX2_reason : ByteArray := prog_4_method_7_code
def yX2_reason : MethodName := ⟨RX2, "reason", "(LMarkArenas$State;II)I"⟩
abbrev cX2_addressIfGiven : ByteArray := prog_4_method_8_code
def yX2_addressIfGiven : MethodName := ⟨RX2, "addressIfGiven", "(LMarkArenas$State;II)I"⟩
abbrev cX2_landing : ByteArray := prog_4_method_9_code
def yX2_landing : MethodName := ⟨RX2, "landing", "(LMarkArenas$State;II)I"⟩
abbrev cX2_rank : ByteArray := prog_4_method_10_code
def yX2_rank : MethodName := ⟨RX2, "rank", "(LMarkArenas$State;I)I"⟩
abbrev cX2_carryOn : ByteArray := prog_4_method_11_code
def yX2_carryOn : MethodName := ⟨RX2, "carryOn", "(LMarkArenas$State;II)I"⟩
def RX3 : String := "MarkArenas$State"
def TX3 : u_T := fun k => match k with
  | 0 => ("MarkArenas$State", "isUsed", "[Z", true)
  | 1 => ("MarkArenas$State", "arenaOf", "[I", true)
  | 2 => ("MarkArenas$State", "address", "[I", true)
  | 3 => ("MarkArenas$State", "size", "[I", true)
  | 4 => ("MarkArenas$State", "fields", "[I", true)
  | 5 => ("MarkArenas$State", "isRoot", "[Z", true)
  | 6 => ("MarkArenas$State", "isPinned", "[Z", true)
  | 7 => ("MarkArenas$State", "laidAnew", "[I", true)
  | 8 => ("MarkArenas$State", "isHandedOut", "[Z", true)
  | 9 => ("MarkArenas$State", "mark", "[I", true)
  | 10 => ("MarkArenas$State", "opened", "[I", true)
  | 11 => ("MarkArenas$State", "settings", "[I", true)
  | 12 => ("MarkArenas$State", "madeSoFar", "I", false)
  | 13 => ("MarkArenas$State", "laidAnewSoFar", "I", false)
  | 14 => ("MarkArenas$State", "goneSoFar", "I", false)
  | _ => ("MarkArenas$State", "returnedSoFar", "I", false)
def tyX3 : Nat → FieldType := fun k => match k with
  | 0 => .array .boolean
  | 1 => .array .int
  | 2 => .array .int
  | 3 => .array .int
  | 4 => .array .int
  | 5 => .array .boolean
  | 6 => .array .boolean
  | 7 => .array .int
  | 8 => .array .boolean
  | 9 => .array .int
  | 10 => .array .int
  | 11 => .array .int
  | 12 => .int
  | 13 => .int
  | 14 => .int
  | _ => .int
theorem nmX3 : ∀ a, a < 16 → ∀ b, b < 16 → a ≠ b → (TX3 a).2.1 ≠ (TX3 b).2.1 := by decide +kernel
theorem tyX3_ok : ∀ k, k < 16 → parseFieldDescriptor (TX3 k).2.2.1 = some (tyX3 k) := by decide +kernel
abbrev cX3_init : ByteArray := prog_5_method_1_code
def yX3_init : MethodName := ⟨RX3, "<init>", "()V"⟩
abbrev cX3_copyFrom : ByteArray := prog_5_method_2_code
def yX3_copyFrom : MethodName := ⟨RX3, "copyFrom", "(LMarkArenas$State;)V"⟩
abbrev cX3_has : ByteArray := prog_5_method_3_code
def yX3_has : MethodName := ⟨RX3, "has", "(I)Z"⟩
abbrev cX3_isIn : ByteArray := prog_5_method_4_code
def yX3_isIn : MethodName := ⟨RX3, "isIn", "(II)Z"⟩
abbrev cX3_isOpen : ByteArray := prog_5_method_5_code
def yX3_isOpen : MethodName := ⟨RX3, "isOpen", "(I)Z"⟩
abbrev cX3_hasRoom : ByteArray := prog_5_method_6_code
def yX3_hasRoom : MethodName := ⟨RX3, "hasRoom", "(II)Z"⟩
abbrev cX3_reference : ByteArray := prog_5_method_7_code
def yX3_reference : MethodName := ⟨RX3, "reference", "(II)I"⟩
abbrev cX3_refer : ByteArray := prog_5_method_8_code
def yX3_refer : MethodName := ⟨RX3, "refer", "(III)V"⟩
abbrev cX3_lowestFreeArena : ByteArray := prog_5_method_9_code
def yX3_lowestFreeArena : MethodName := ⟨RX3, "lowestFreeArena", "()I"⟩
abbrev cX3_lowestFreeNumber : ByteArray := prog_5_method_10_code
def yX3_lowestFreeNumber : MethodName := ⟨RX3, "lowestFreeNumber", "()I"⟩
abbrev cX3_handOut : ByteArray := prog_5_method_11_code
def yX3_handOut : MethodName := ⟨RX3, "handOut", "(I)V"⟩
abbrev cX3_add : ByteArray := prog_5_method_12_code
def yX3_add : MethodName := ⟨RX3, "add", "(III)V"⟩
abbrev cX3_layAnew : ByteArray := prog_5_method_13_code
def yX3_layAnew : MethodName := ⟨RX3, "layAnew", "(III)V"⟩
abbrev cX3_free : ByteArray := prog_5_method_14_code
def yX3_free : MethodName := ⟨RX3, "free", "(I)I"⟩
abbrev cX3_drop : ByteArray := prog_5_method_15_code
def yX3_drop : MethodName := ⟨RX3, "drop", "(I)V"⟩
abbrev cX3_objectAt : ByteArray := prog_5_method_16_code
def yX3_objectAt : MethodName := ⟨RX3, "objectAt", "(II)I"⟩
abbrev cX3_objects : ByteArray := prog_5_method_17_code
def yX3_objects : MethodName := ⟨RX3, "objects", "()I"⟩
abbrev cX3_objectsIn : ByteArray := prog_5_method_18_code
def yX3_objectsIn : MethodName := ⟨RX3, "objectsIn", "(I)I"⟩
abbrev cX3_pinnedIn : ByteArray := prog_5_method_19_code
def yX3_pinnedIn : MethodName := ⟨RX3, "pinnedIn", "(I)I"⟩
abbrev cX3_roots : ByteArray := prog_5_method_20_code
def yX3_roots : MethodName := ⟨RX3, "roots", "()I"⟩
abbrev cX3_openArenas : ByteArray := prog_5_method_21_code
def yX3_openArenas : MethodName := ⟨RX3, "openArenas", "()I"⟩
abbrev cX3_references : ByteArray := prog_5_method_22_code
def yX3_references : MethodName := ⟨RX3, "references", "(Z)I"⟩
abbrev cX3_referencesTo : ByteArray := prog_5_method_23_code
def yX3_referencesTo : MethodName := ⟨RX3, "referencesTo", "(I)I"⟩
def RX4 : String := "MarkArenas$Text"
def TX4 : u_T := fun k => match k with
  | 0 => ("MarkArenas$Text", "codes", "[I", true)
  | 1 => ("MarkArenas$Text", "length", "I", false)
  | 2 => ("MarkArenas$Text", "partSize", "I", false)
  | 3 => ("MarkArenas$Text", "partIsRoot", "Z", false)
  | _ => ("MarkArenas$Text", "partHolder", "I", false)
def tyX4 : Nat → FieldType := fun k => match k with
  | 0 => .array .int
  | 1 => .int
  | 2 => .int
  | 3 => .boolean
  | _ => .int
theorem nmX4 : ∀ a, a < 5 → ∀ b, b < 5 → a ≠ b → (TX4 a).2.1 ≠ (TX4 b).2.1 := by decide +kernel
theorem tyX4_ok : ∀ k, k < 5 → parseFieldDescriptor (TX4 k).2.2.1 = some (tyX4 k) := by decide +kernel
abbrev cX4_init : ByteArray := prog_6_method_1_code
def yX4_init : MethodName := ⟨RX4, "<init>", "()V"⟩
abbrev cX4_isFull : ByteArray := prog_6_method_2_code
def yX4_isFull : MethodName := ⟨RX4, "isFull", "()Z"⟩
abbrev cX4_add : ByteArray := prog_6_method_3_code
def yX4_add : MethodName := ⟨RX4, "add", "(I)V"⟩
abbrev cX4_empty : ByteArray := prog_6_method_4_code
def yX4_empty : MethodName := ⟨RX4, "empty", "()V"⟩
abbrev cX4_errorPlace : ByteArray := prog_6_method_5_code
def yX4_errorPlace : MethodName := ⟨RX4, "errorPlace", "()I"⟩
abbrev cX4_isComplete : ByteArray := prog_6_method_6_code
def yX4_isComplete : MethodName := ⟨RX4, "isComplete", "()Z"⟩
abbrev cX4_stageAfter : ByteArray := prog_6_method_7_code
def yX4_stageAfter : MethodName := ⟨RX4, "stageAfter", "(II)I"⟩
abbrev cX4_stageBehindSize : ByteArray := prog_6_method_8_code
def yX4_stageBehindSize : MethodName := ⟨RX4, "stageBehindSize", "(I)I"⟩
abbrev cX4_stageInHolder : ByteArray := prog_6_method_9_code
def yX4_stageInHolder : MethodName := ⟨RX4, "stageInHolder", "(I)I"⟩
abbrev cX4_stageBehindPart : ByteArray := prog_6_method_10_code
def yX4_stageBehindPart : MethodName := ⟨RX4, "stageBehindPart", "(I)I"⟩
abbrev cX4_isDigit : ByteArray := prog_6_method_11_code
def yX4_isDigit : MethodName := ⟨RX4, "isDigit", "(III)Z"⟩
abbrev cX4_readPart : ByteArray := prog_6_method_12_code
def yX4_readPart : MethodName := ⟨RX4, "readPart", "(I)I"⟩
abbrev cX4_withCodes : ByteArray := prog_6_method_13_code
def yX4_withCodes : MethodName := ⟨RX4, "withCodes", "(J)J"⟩
def RX5 : String := "MarkArenas"
def TX5 : u_T := fun k => match k with
  | 0 => ("MarkArenas", "state", "LMarkArenas$State;", true)
  | 1 => ("MarkArenas", "returning", "LMarkArenas$Returning;", true)
  | 2 => ("MarkArenas", "lasting", "LMarkArenas$Reach;", true)
  | 3 => ("MarkArenas", "text", "LMarkArenas$Text;", true)
  | _ => ("MarkArenas", "history", "LMarkArenas$History;", true)
def tyX5 : Nat → FieldType := fun k => match k with
  | 0 => .object "MarkArenas$State"
  | 1 => .object "MarkArenas$Returning"
  | 2 => .object "MarkArenas$Reach"
  | 3 => .object "MarkArenas$Text"
  | _ => .object "MarkArenas$History"
theorem nmX5 : ∀ a, a < 5 → ∀ b, b < 5 → a ≠ b → (TX5 a).2.1 ≠ (TX5 b).2.1 := by decide +kernel
theorem tyX5_ok : ∀ k, k < 5 → parseFieldDescriptor (TX5 k).2.2.1 = some (tyX5 k) := by decide +kernel
abbrev cX5_init : ByteArray := prog_1_method_1_code
def yX5_init : MethodName := ⟨RX5, "<init>", "()V"⟩
abbrev cX5_open : ByteArray := prog_1_method_2_code
def yX5_open : MethodName := ⟨RX5, "open", "()I"⟩
abbrev cX5_make : ByteArray := prog_1_method_3_code
def yX5_make : MethodName := ⟨RX5, "make", "(II)I"⟩
abbrev cX5_link : ByteArray := prog_1_method_4_code
def yX5_link : MethodName := ⟨RX5, "link", "(III)I"⟩
abbrev cX5_root : ByteArray := prog_1_method_5_code
def yX5_root : MethodName := ⟨RX5, "root", "(IZ)I"⟩
abbrev cX5_pin : ByteArray := prog_1_method_6_code
def yX5_pin : MethodName := ⟨RX5, "pin", "(IZ)I"⟩
abbrev cX5_giveBack : ByteArray := prog_1_method_7_code
def yX5_giveBack : MethodName := ⟨RX5, "giveBack", "(II)I"⟩
abbrev cX5_close : ByteArray := prog_1_method_8_code
def yX5_close : MethodName := ⟨RX5, "close", "(I)I"⟩
abbrev cX5_set : ByteArray := prog_1_method_9_code
def yX5_set : MethodName := ⟨RX5, "set", "(II)I"⟩
abbrev cX5_append : ByteArray := prog_1_method_10_code
def yX5_append : MethodName := ⟨RX5, "append", "(I)I"⟩
abbrev cX5_clearBuffer : ByteArray := prog_1_method_11_code
def yX5_clearBuffer : MethodName := ⟨RX5, "clearBuffer", "()I"⟩
abbrev cX5_firstError : ByteArray := prog_1_method_12_code
def yX5_firstError : MethodName := ⟨RX5, "firstError", "()I"⟩
abbrev cX5_makeAll : ByteArray := prog_1_method_13_code
def yX5_makeAll : MethodName := ⟨RX5, "makeAll", "(I)I"⟩
abbrev cX5_makeParts : ByteArray := prog_1_method_14_code
def yX5_makeParts : MethodName := ⟨RX5, "makeParts", "(I)I"⟩
abbrev cX5_makePart : ByteArray := prog_1_method_15_code
def yX5_makePart : MethodName := ⟨RX5, "makePart", "(I)Z"⟩
abbrev cX5_undo : ByteArray := prog_1_method_16_code
def yX5_undo : MethodName := ⟨RX5, "undo", "()I"⟩
abbrev cX5_object : ByteArray := prog_1_method_17_code
def yX5_object : MethodName := ⟨RX5, "object", "(II)I"⟩
abbrev cX5_objectProperty : ByteArray := prog_1_method_18_code
def yX5_objectProperty : MethodName := ⟨RX5, "objectProperty", "(II)I"⟩
abbrev cX5_arena : ByteArray := prog_1_method_19_code
def yX5_arena : MethodName := ⟨RX5, "arena", "(II)I"⟩
abbrev cX5_arenaProperty : ByteArray := prog_1_method_20_code
def yX5_arenaProperty : MethodName := ⟨RX5, "arenaProperty", "(II)I"⟩
abbrev cX5_at : ByteArray := prog_1_method_21_code
def yX5_at : MethodName := ⟨RX5, "at", "(II)I"⟩
abbrev cX5_count : ByteArray := prog_1_method_22_code
def yX5_count : MethodName := ⟨RX5, "count", "(I)I"⟩
abbrev cX5_number : ByteArray := prog_1_method_23_code
def yX5_number : MethodName := ⟨RX5, "number", "(I)I"⟩
abbrev cX5_setting : ByteArray := prog_1_method_24_code
def yX5_setting : MethodName := ⟨RX5, "setting", "(I)I"⟩
abbrev cX5_whyNot : ByteArray := prog_1_method_25_code
def yX5_whyNot : MethodName := ⟨RX5, "whyNot", "(II)I"⟩
abbrev cX5_ifGiven : ByteArray := prog_1_method_26_code
def yX5_ifGiven : MethodName := ⟨RX5, "ifGiven", "(II)I"⟩
abbrev cX5_ifLost : ByteArray := prog_1_method_27_code
def yX5_ifLost : MethodName := ⟨RX5, "ifLost", "(I)I"⟩
abbrev cX5_lostWith : ByteArray := prog_1_method_28_code
def yX5_lostWith : MethodName := ⟨RX5, "lostWith", "(I)I"⟩
abbrev cX5_traceRoots : ByteArray := prog_1_method_29_code
def yX5_traceRoots : MethodName := ⟨RX5, "traceRoots", "(I)V"⟩
abbrev cX5_best : ByteArray := prog_1_method_30_code
def yX5_best : MethodName := ⟨RX5, "best", "()I"⟩
abbrev cX5_livingShare : ByteArray := prog_1_method_31_code
def yX5_livingShare : MethodName := ⟨RX5, "livingShare", "()D"⟩
abbrev cX5_digest : ByteArray := prog_1_method_32_code
def yX5_digest : MethodName := ⟨RX5, "digest", "()J"⟩
abbrev cX5_withObject : ByteArray := prog_1_method_33_code
def yX5_withObject : MethodName := ⟨RX5, "withObject", "(JI)J"⟩
abbrev cX5_withArena : ByteArray := prog_1_method_34_code
def yX5_withArena : MethodName := ⟨RX5, "withArena", "(JI)J"⟩
abbrev cX5_bitsOf : ByteArray := prog_1_method_35_code
def yX5_bitsOf : MethodName := ⟨RX5, "bitsOf", "(D)J"⟩
abbrev cX5_oneIf : ByteArray := prog_1_method_36_code
def yX5_oneIf : MethodName := ⟨RX5, "oneIf", "(Z)I"⟩
abbrev cX5_isArena : ByteArray := prog_1_method_37_code
def yX5_isArena : MethodName := ⟨RX5, "isArena", "(I)Z"⟩
abbrev cX5_isNumber : ByteArray := prog_1_method_38_code
def yX5_isNumber : MethodName := ⟨RX5, "isNumber", "(I)Z"⟩
abbrev cX5_refuseNoArena : ByteArray := prog_1_method_39_code
def yX5_refuseNoArena : MethodName := ⟨RX5, "refuseNoArena", "(I)V"⟩
abbrev cX5_refuseNoObject : ByteArray := prog_1_method_40_code
def yX5_refuseNoObject : MethodName := ⟨RX5, "refuseNoObject", "(I)V"⟩
abbrev cX5_refuseNoSetting : ByteArray := prog_1_method_41_code
def yX5_refuseNoSetting : MethodName := ⟨RX5, "refuseNoSetting", "(I)V"⟩
def RX6 : String := "MarkArenasModel"
def TX6 : u_T := fun k => match k with
  | 0 => ("MarkArenasModel", "now", "[I", true)
  | 1 => ("MarkArenasModel", "past", "[I", true)
  | 2 => ("MarkArenasModel", "kept", "I", false)
  | 3 => ("MarkArenasModel", "text", "[I", true)
  | 4 => ("MarkArenasModel", "typed", "I", false)
  | 5 => ("MarkArenasModel", "thrown", "I", false)
  | 6 => ("MarkArenasModel", "at", "I", false)
  | 7 => ("MarkArenasModel", "isFault", "Z", false)
  | 8 => ("MarkArenasModel", "value", "I", false)
  | 9 => ("MarkArenasModel", "told", "[I", true)
  | 10 => ("MarkArenasModel", "tolds", "I", false)
  | 11 => ("MarkArenasModel", "far", "[I", true)
  | 12 => ("MarkArenasModel", "met", "[I", true)
  | 13 => ("MarkArenasModel", "meets", "I", false)
  | 14 => ("MarkArenasModel", "lives", "[Z", true)
  | 15 => ("MarkArenasModel", "order", "[I", true)
  | _ => ("MarkArenasModel", "survivors", "I", false)
def tyX6 : Nat → FieldType := fun k => match k with
  | 0 => .array .int
  | 1 => .array .int
  | 2 => .int
  | 3 => .array .int
  | 4 => .int
  | 5 => .int
  | 6 => .int
  | 7 => .boolean
  | 8 => .int
  | 9 => .array .int
  | 10 => .int
  | 11 => .array .int
  | 12 => .array .int
  | 13 => .int
  | 14 => .array .boolean
  | 15 => .array .int
  | _ => .int
theorem nmX6 : ∀ a, a < 17 → ∀ b, b < 17 → a ≠ b → (TX6 a).2.1 ≠ (TX6 b).2.1 := by decide +kernel
theorem tyX6_ok : ∀ k, k < 17 → parseFieldDescriptor (TX6 k).2.2.1 = some (tyX6 k) := by decide +kernel
abbrev cX6_init : ByteArray := prog_8_method_1_code
def yX6_init : MethodName := ⟨RX6, "<init>", "()V"⟩
abbrev cX6_thrown : ByteArray := prog_8_method_2_code
def yX6_thrown : MethodName := ⟨RX6, "thrown", "()I"⟩
abbrev cX6_fails : ByteArray := prog_8_method_3_code
def yX6_fails : MethodName := ⟨RX6, "fails", "(I)I"⟩
abbrev cX6_in : ByteArray := prog_8_method_4_code
def yX6_in : MethodName := ⟨RX6, "in", "(III)Z"⟩
abbrev cX6_isArena : ByteArray := prog_8_method_5_code
def yX6_isArena : MethodName := ⟨RX6, "isArena", "(I)Z"⟩
abbrev cX6_of : ByteArray := prog_8_method_6_code
def yX6_of : MethodName := ⟨RX6, "of", "(II)I"⟩
abbrev cX6_isObject : ByteArray := prog_8_method_7_code
def yX6_isObject : MethodName := ⟨RX6, "isObject", "(I)Z"⟩
abbrev cX6_isIn : ByteArray := prog_8_method_8_code
def yX6_isIn : MethodName := ⟨RX6, "isIn", "(II)Z"⟩
abbrev cX6_isOpen : ByteArray := prog_8_method_9_code
def yX6_isOpen : MethodName := ⟨RX6, "isOpen", "(I)Z"⟩
abbrev cX6_mark : ByteArray := prog_8_method_10_code
def yX6_mark : MethodName := ⟨RX6, "mark", "(I)I"⟩
abbrev cX6_saves : ByteArray := prog_8_method_11_code
def yX6_saves : MethodName := ⟨RX6, "saves", "()V"⟩
abbrev cX6_undo : ByteArray := prog_8_method_12_code
def yX6_undo : MethodName := ⟨RX6, "undo", "()I"⟩
abbrev cX6_meets : ByteArray := prog_8_method_13_code
def yX6_meets : MethodName := ⟨RX6, "meets", "(II)V"⟩
abbrev cX6_meetsAll : ByteArray := prog_8_method_14_code
def yX6_meetsAll : MethodName := ⟨RX6, "meetsAll", "(I)V"⟩
abbrev cX6_isRemembered : ByteArray := prog_8_method_15_code
def yX6_isRemembered : MethodName := ⟨RX6, "isRemembered", "(I)Z"⟩
abbrev cX6_survives : ByteArray := prog_8_method_16_code
def yX6_survives : MethodName := ⟨RX6, "survives", "(I)V"⟩
abbrev cX6_isAhead : ByteArray := prog_8_method_17_code
def yX6_isAhead : MethodName := ⟨RX6, "isAhead", "(II)Z"⟩
abbrev cX6_place : ByteArray := prog_8_method_18_code
def yX6_place : MethodName := ⟨RX6, "place", "(I)I"⟩
abbrev cX6_orders : ByteArray := prog_8_method_19_code
def yX6_orders : MethodName := ⟨RX6, "orders", "(I)V"⟩
abbrev cX6_cells : ByteArray := prog_8_method_20_code
def yX6_cells : MethodName := ⟨RX6, "cells", "()I"⟩
abbrev cX6_cellsOf : ByteArray := prog_8_method_21_code
def yX6_cellsOf : MethodName := ⟨RX6, "cellsOf", "(I)I"⟩
abbrev cX6_isKept : ByteArray := prog_8_method_22_code
def yX6_isKept : MethodName := ⟨RX6, "isKept", "(I)Z"⟩
abbrev cX6_reason : ByteArray := prog_8_method_23_code
def yX6_reason : MethodName := ⟨RX6, "reason", "(II)I"⟩
abbrev cX6_open : ByteArray := prog_8_method_24_code
def yX6_open : MethodName := ⟨RX6, "open", "()I"⟩
abbrev cX6_freeNumber : ByteArray := prog_8_method_25_code
def yX6_freeNumber : MethodName := ⟨RX6, "freeNumber", "()I"⟩
abbrev cX6_mayMake : ByteArray := prog_8_method_26_code
def yX6_mayMake : MethodName := ⟨RX6, "mayMake", "(II)Z"⟩
abbrev cX6_makes : ByteArray := prog_8_method_27_code
def yX6_makes : MethodName := ⟨RX6, "makes", "(II)I"⟩
abbrev cX6_make : ByteArray := prog_8_method_28_code
def yX6_make : MethodName := ⟨RX6, "make", "(II)I"⟩
abbrev cX6_changes : ByteArray := prog_8_method_29_code
def yX6_changes : MethodName := ⟨RX6, "changes", "(III)I"⟩
abbrev cX6_link : ByteArray := prog_8_method_30_code
def yX6_link : MethodName := ⟨RX6, "link", "(III)I"⟩
abbrev cX6_root : ByteArray := prog_8_method_31_code
def yX6_root : MethodName := ⟨RX6, "root", "(IZ)I"⟩
abbrev cX6_pinned : ByteArray := prog_8_method_32_code
def yX6_pinned : MethodName := ⟨RX6, "pinned", "(I)I"⟩
abbrev cX6_pin : ByteArray := prog_8_method_33_code
def yX6_pin : MethodName := ⟨RX6, "pin", "(IZ)I"⟩
abbrev cX6_goes : ByteArray := prog_8_method_34_code
def yX6_goes : MethodName := ⟨RX6, "goes", "(I)V"⟩
abbrev cX6_frees : ByteArray := prog_8_method_35_code
def yX6_frees : MethodName := ⟨RX6, "frees", "(I)I"⟩
abbrev cX6_giveBack : ByteArray := prog_8_method_36_code
def yX6_giveBack : MethodName := ⟨RX6, "giveBack", "(II)I"⟩
abbrev cX6_close : ByteArray := prog_8_method_37_code
def yX6_close : MethodName := ⟨RX6, "close", "(I)I"⟩
abbrev cX6_set : ByteArray := prog_8_method_38_code
def yX6_set : MethodName := ⟨RX6, "set", "(II)I"⟩
abbrev cX6_append : ByteArray := prog_8_method_39_code
def yX6_append : MethodName := ⟨RX6, "append", "(I)I"⟩
abbrev cX6_clearBuffer : ByteArray := prog_8_method_40_code
def yX6_clearBuffer : MethodName := ⟨RX6, "clearBuffer", "()I"⟩
abbrev cX6_isAt : ByteArray := prog_8_method_41_code
def yX6_isAt : MethodName := ⟨RX6, "isAt", "(II)Z"⟩
abbrev cX6_stops : ByteArray := prog_8_method_42_code
def yX6_stops : MethodName := ⟨RX6, "stops", "()Z"⟩
abbrev cX6_isSign : ByteArray := prog_8_method_43_code
def yX6_isSign : MethodName := ⟨RX6, "isSign", "(I)Z"⟩
abbrev cX6_isNumber : ByteArray := prog_8_method_44_code
def yX6_isNumber : MethodName := ⟨RX6, "isNumber", "(II)Z"⟩
abbrev cX6_isPart : ByteArray := prog_8_method_45_code
def yX6_isPart : MethodName := ⟨RX6, "isPart", "()Z"⟩
abbrev cX6_isText : ByteArray := prog_8_method_46_code
def yX6_isText : MethodName := ⟨RX6, "isText", "()Z"⟩
abbrev cX6_firstError : ByteArray := prog_8_method_47_code
def yX6_firstError : MethodName := ⟨RX6, "firstError", "()I"⟩
abbrev cX6_mayCome : ByteArray := prog_8_method_48_code
def yX6_mayCome : MethodName := ⟨RX6, "mayCome", "(II)Z"⟩
abbrev cX6_makeAll : ByteArray := prog_8_method_49_code
def yX6_makeAll : MethodName := ⟨RX6, "makeAll", "(I)I"⟩
abbrev cX6_refersTo : ByteArray := prog_8_method_50_code
def yX6_refersTo : MethodName := ⟨RX6, "refersTo", "(I)I"⟩
abbrev cX6_ofObject : ByteArray := prog_8_method_51_code
def yX6_ofObject : MethodName := ⟨RX6, "ofObject", "(II)I"⟩
abbrev cX6_object : ByteArray := prog_8_method_52_code
def yX6_object : MethodName := ⟨RX6, "object", "(II)I"⟩
abbrev cX6_objectsIn : ByteArray := prog_8_method_53_code
def yX6_objectsIn : MethodName := ⟨RX6, "objectsIn", "(I)I"⟩
abbrev cX6_ofArena : ByteArray := prog_8_method_54_code
def yX6_ofArena : MethodName := ⟨RX6, "ofArena", "(II)I"⟩
abbrev cX6_arena : ByteArray := prog_8_method_55_code
def yX6_arena : MethodName := ⟨RX6, "arena", "(II)I"⟩
abbrev cX6_objectAt : ByteArray := prog_8_method_56_code
def yX6_objectAt : MethodName := ⟨RX6, "objectAt", "(II)I"⟩
abbrev cX6_at : ByteArray := prog_8_method_57_code
def yX6_at : MethodName := ⟨RX6, "at", "(II)I"⟩
abbrev cX6_references : ByteArray := prog_8_method_58_code
def yX6_references : MethodName := ⟨RX6, "references", "(Z)I"⟩
abbrev cX6_those : ByteArray := prog_8_method_59_code
def yX6_those : MethodName := ⟨RX6, "those", "(I)I"⟩
abbrev cX6_opened : ByteArray := prog_8_method_60_code
def yX6_opened : MethodName := ⟨RX6, "opened", "()I"⟩
abbrev cX6_counted : ByteArray := prog_8_method_61_code
def yX6_counted : MethodName := ⟨RX6, "counted", "(I)I"⟩
abbrev cX6_count : ByteArray := prog_8_method_62_code
def yX6_count : MethodName := ⟨RX6, "count", "(I)I"⟩
abbrev cX6_setting : ByteArray := prog_8_method_63_code
def yX6_setting : MethodName := ⟨RX6, "setting", "(I)I"⟩
abbrev cX6_whyNot : ByteArray := prog_8_method_64_code
def yX6_whyNot : MethodName := ⟨RX6, "whyNot", "(II)I"⟩
abbrev cX6_given : ByteArray := prog_8_method_65_code
def yX6_given : MethodName := ⟨RX6, "given", "(II)I"⟩
abbrev cX6_ifGiven : ByteArray := prog_8_method_66_code
def yX6_ifGiven : MethodName := ⟨RX6, "ifGiven", "(II)I"⟩
abbrev cX6_lost : ByteArray := prog_8_method_67_code
def yX6_lost : MethodName := ⟨RX6, "lost", "(I)I"⟩
abbrev cX6_ifLost : ByteArray := prog_8_method_68_code
def yX6_ifLost : MethodName := ⟨RX6, "ifLost", "(I)I"⟩
abbrev cX6_canGo : ByteArray := prog_8_method_69_code
def yX6_canGo : MethodName := ⟨RX6, "canGo", "(I)Z"⟩
abbrev cX6_bestArena : ByteArray := prog_8_method_70_code
def yX6_bestArena : MethodName := ⟨RX6, "bestArena", "()I"⟩
abbrev cX6_best : ByteArray := prog_8_method_71_code
def yX6_best : MethodName := ⟨RX6, "best", "()I"⟩
abbrev cX6_share : ByteArray := prog_8_method_72_code
def yX6_share : MethodName := ⟨RX6, "share", "()D"⟩
abbrev cX6_livingShare : ByteArray := prog_8_method_73_code
def yX6_livingShare : MethodName := ⟨RX6, "livingShare", "()D"⟩
abbrev cX6_digest : ByteArray := prog_8_method_74_code
def yX6_digest : MethodName := ⟨RX6, "digest", "()J"⟩
def RJxe99ae : String := "java/lang/Double"
def TJxe99ae : u_T := fun k => match k with
  | _ => ("", "", "", false)
def tyJxe99ae : Nat → FieldType := fun k => match k with
  | _ => .int
theorem nmJxe99ae : ∀ a, a < 0 → ∀ b, b < 0 → a ≠ b → (TJxe99ae a).2.1 ≠ (TJxe99ae b).2.1 := by decide +kernel
theorem tyJxe99ae_ok : ∀ k, k < 0 → parseFieldDescriptor (TJxe99ae k).2.2.1 = some (tyJxe99ae k) := by decide +kernel
abbrev cJxe99ae_isNaN_b9ae7 : ByteArray := prog_9_method_6_code
def yJxe99ae_isNaN_b9ae7 : MethodName := ⟨RJxe99ae, "isNaN", "(D)Z"⟩
abbrev cJxe99ae_doubleToLongBits_ccdee : ByteArray := prog_9_method_23_code
def yJxe99ae_doubleToLongBits_ccdee : MethodName := ⟨RJxe99ae, "doubleToLongBits", "(D)J"⟩
def RJ0 : String := "java/lang/String"
def TJ0 : u_T := fun k => match k with
  | _ => ("", "", "", false)
def tyJ0 : Nat → FieldType := fun k => match k with
  | _ => .int
theorem nmJ0 : ∀ a, a < 0 → ∀ b, b < 0 → a ≠ b → (TJ0 a).2.1 ≠ (TJ0 b).2.1 := by decide +kernel
theorem tyJ0_ok : ∀ k, k < 0 → parseFieldDescriptor (TJ0 k).2.2.1 = some (tyJ0 k) := by decide +kernel
def RJ10 : String := "java/lang/System"
def TJ10 : u_T := fun k => match k with
  | _ => ("", "", "", false)
def tyJ10 : Nat → FieldType := fun k => match k with
  | _ => .int
theorem nmJ10 : ∀ a, a < 0 → ∀ b, b < 0 → a ≠ b → (TJ10 a).2.1 ≠ (TJ10 b).2.1 := by decide +kernel
theorem tyJ10_ok : ∀ k, k < 0 → parseFieldDescriptor (TJ10 k).2.2.1 = some (tyJ10 k) := by decide +kernel
def RL : String := "MarkArenasLaw"
abbrev cL_open : ByteArray := method_3_code
def yL_open : MethodName := ⟨RL, "open", "(LMarkArenas;[J)I"⟩
abbrev cL_make : ByteArray := method_4_code
def yL_make : MethodName := ⟨RL, "make", "(LMarkArenas;II[J)I"⟩
abbrev cL_link : ByteArray := method_5_code
def yL_link : MethodName := ⟨RL, "link", "(LMarkArenas;III[J)I"⟩
abbrev cL_root : ByteArray := method_6_code
def yL_root : MethodName := ⟨RL, "root", "(LMarkArenas;IZ[J)I"⟩
abbrev cL_pin : ByteArray := method_7_code
def yL_pin : MethodName := ⟨RL, "pin", "(LMarkArenas;IZ[J)I"⟩
abbrev cL_giveBack : ByteArray := method_8_code
def yL_giveBack : MethodName := ⟨RL, "giveBack", "(LMarkArenas;II[J)I"⟩
abbrev cL_close : ByteArray := method_9_code
def yL_close : MethodName := ⟨RL, "close", "(LMarkArenas;I[J)I"⟩
abbrev cL_set : ByteArray := method_10_code
def yL_set : MethodName := ⟨RL, "set", "(LMarkArenas;II[J)I"⟩
abbrev cL_append : ByteArray := method_11_code
def yL_append : MethodName := ⟨RL, "append", "(LMarkArenas;I[J)I"⟩
abbrev cL_makeAll : ByteArray := method_12_code
def yL_makeAll : MethodName := ⟨RL, "makeAll", "(LMarkArenas;I[J)I"⟩
abbrev cL_undo : ByteArray := method_13_code
def yL_undo : MethodName := ⟨RL, "undo", "(LMarkArenas;[J)I"⟩
abbrev cL_object : ByteArray := method_14_code
def yL_object : MethodName := ⟨RL, "object", "(LMarkArenas;II[J)I"⟩
abbrev cL_arena : ByteArray := method_15_code
def yL_arena : MethodName := ⟨RL, "arena", "(LMarkArenas;II[J)I"⟩
abbrev cL_at : ByteArray := method_16_code
def yL_at : MethodName := ⟨RL, "at", "(LMarkArenas;II[J)I"⟩
abbrev cL_count : ByteArray := method_17_code
def yL_count : MethodName := ⟨RL, "count", "(LMarkArenas;I[J)I"⟩
abbrev cL_setting : ByteArray := method_18_code
def yL_setting : MethodName := ⟨RL, "setting", "(LMarkArenas;I[J)I"⟩
abbrev cL_whyNot : ByteArray := method_19_code
def yL_whyNot : MethodName := ⟨RL, "whyNot", "(LMarkArenas;II[J)I"⟩
abbrev cL_ifGiven : ByteArray := method_20_code
def yL_ifGiven : MethodName := ⟨RL, "ifGiven", "(LMarkArenas;II[J)I"⟩
abbrev cL_ifLost : ByteArray := method_21_code
def yL_ifLost : MethodName := ⟨RL, "ifLost", "(LMarkArenas;I[J)I"⟩
abbrev cL_law : ByteArray := code
def yL_law : MethodName := ⟨RL, "law", "([I)Z"⟩
theorem dX0_init_0 : decode cX0_init 0 = .ok (.aload_n 0, 1) := by decide +kernel
theorem dX0_init_1 : decode cX0_init 1 = .ok (.invokespecial 1, 3) := by decide +kernel
theorem dX0_init_4 : decode cX0_init 4 = .ok (.aload_n 0, 1) := by decide +kernel
theorem dX0_init_5 : decode cX0_init 5 = .ok (.bipush 6, 2) := by decide +kernel
theorem dX0_init_7 : decode cX0_init 7 = .ok (.anewarray 9, 3) := by decide +kernel
theorem dX0_init_10 : decode cX0_init 10 = .ok (.putfield 11, 3) := by decide +kernel
theorem dX0_init_13 : decode cX0_init 13 = .ok (.iconst 0, 1) := by decide +kernel
theorem dX0_init_14 : decode cX0_init 14 = .ok (.istore_n 1, 1) := by decide +kernel
theorem dX0_init_15 : decode cX0_init 15 = .ok (.iload_n 1, 1) := by decide +kernel
theorem dX0_init_16 : decode cX0_init 16 = .ok (.bipush 6, 2) := by decide +kernel
theorem dX0_init_18 : decode cX0_init 18 = .ok (.if_icmp .ge 22, 3) := by decide +kernel
theorem dX0_init_21 : decode cX0_init 21 = .ok (.aload_n 0, 1) := by decide +kernel
theorem dX0_init_22 : decode cX0_init 22 = .ok (.getfield 11, 3) := by decide +kernel
theorem dX0_init_25 : decode cX0_init 25 = .ok (.iload_n 1, 1) := by decide +kernel
theorem dX0_init_26 : decode cX0_init 26 = .ok (.new 9, 3) := by decide +kernel
theorem dX0_init_29 : decode cX0_init 29 = .ok (.dup, 1) := by decide +kernel
theorem dX0_init_30 : decode cX0_init 30 = .ok (.invokespecial 15, 3) := by decide +kernel
theorem dX0_init_33 : decode cX0_init 33 = .ok (.aastore, 1) := by decide +kernel
theorem dX0_init_34 : decode cX0_init 34 = .ok (.iinc 1 1, 3) := by decide +kernel
theorem dX0_init_37 : decode cX0_init 37 = .ok (.goto (-22), 3) := by decide +kernel
theorem dX0_init_40 : decode cX0_init 40 = .ok (.return_, 1) := by decide +kernel
theorem dX0_save_0 : decode cX0_save 0 = .ok (.aload_n 0, 1) := by decide +kernel
theorem dX0_save_1 : decode cX0_save 1 = .ok (.getfield 16, 3) := by decide +kernel
theorem dX0_save_4 : decode cX0_save 4 = .ok (.ifCond .lt 24, 3) := by decide +kernel
theorem dX0_save_7 : decode cX0_save 7 = .ok (.aload_n 0, 1) := by decide +kernel
theorem dX0_save_8 : decode cX0_save 8 = .ok (.getfield 16, 3) := by decide +kernel
theorem dX0_save_11 : decode cX0_save 11 = .ok (.bipush 6, 2) := by decide +kernel
theorem dX0_save_13 : decode cX0_save 13 = .ok (.if_icmp .ge 15, 3) := by decide +kernel
theorem dX0_save_16 : decode cX0_save 16 = .ok (.aload_n 0, 1) := by decide +kernel
theorem dX0_save_17 : decode cX0_save 17 = .ok (.getfield 11, 3) := by decide +kernel
theorem dX0_save_20 : decode cX0_save 20 = .ok (.aload_n 0, 1) := by decide +kernel
theorem dX0_save_21 : decode cX0_save 21 = .ok (.getfield 16, 3) := by decide +kernel
theorem dX0_save_24 : decode cX0_save 24 = .ok (.aaload, 1) := by decide +kernel
theorem dX0_save_25 : decode cX0_save 25 = .ok (.ifnonnull 4, 3) := by decide +kernel
theorem dX0_save_28 : decode cX0_save 28 = .ok (.return_, 1) := by decide +kernel
theorem dX0_save_29 : decode cX0_save 29 = .ok (.aload_n 0, 1) := by decide +kernel
theorem dX0_save_30 : decode cX0_save 30 = .ok (.getfield 11, 3) := by decide +kernel
theorem dX0_save_33 : decode cX0_save 33 = .ok (.aload_n 0, 1) := by decide +kernel
theorem dX0_save_34 : decode cX0_save 34 = .ok (.getfield 16, 3) := by decide +kernel
theorem dX0_save_37 : decode cX0_save 37 = .ok (.aaload, 1) := by decide +kernel
theorem dX0_save_38 : decode cX0_save 38 = .ok (.aload_n 1, 1) := by decide +kernel
theorem dX0_save_39 : decode cX0_save 39 = .ok (.invokevirtual 20, 3) := by decide +kernel
theorem dX0_save_42 : decode cX0_save 42 = .ok (.aload_n 0, 1) := by decide +kernel
theorem dX0_save_43 : decode cX0_save 43 = .ok (.aload_n 0, 1) := by decide +kernel
theorem dX0_save_44 : decode cX0_save 44 = .ok (.getfield 16, 3) := by decide +kernel
theorem dX0_save_47 : decode cX0_save 47 = .ok (.iconst 5, 1) := by decide +kernel
theorem dX0_save_48 : decode cX0_save 48 = .ok (.if_icmp .ne 7, 3) := by decide +kernel
theorem dX0_save_51 : decode cX0_save 51 = .ok (.iconst 0, 1) := by decide +kernel
theorem dX0_save_52 : decode cX0_save 52 = .ok (.goto 9, 3) := by decide +kernel
theorem dX0_save_55 : decode cX0_save 55 = .ok (.aload_n 0, 1) := by decide +kernel
theorem dX0_save_56 : decode cX0_save 56 = .ok (.getfield 16, 3) := by decide +kernel
theorem dX0_save_59 : decode cX0_save 59 = .ok (.iconst 1, 1) := by decide +kernel
theorem dX0_save_60 : decode cX0_save 60 = .ok (.iadd, 1) := by decide +kernel
theorem dX0_save_61 : decode cX0_save 61 = .ok (.putfield 16, 3) := by decide +kernel
theorem dX0_save_64 : decode cX0_save 64 = .ok (.aload_n 0, 1) := by decide +kernel
theorem dX0_save_65 : decode cX0_save 65 = .ok (.aload_n 0, 1) := by decide +kernel
theorem dX0_save_66 : decode cX0_save 66 = .ok (.getfield 24, 3) := by decide +kernel
theorem dX0_save_69 : decode cX0_save 69 = .ok (.bipush 6, 2) := by decide +kernel
theorem dX0_save_71 : decode cX0_save 71 = .ok (.if_icmp .ge 12, 3) := by decide +kernel
theorem dX0_save_74 : decode cX0_save 74 = .ok (.aload_n 0, 1) := by decide +kernel
theorem dX0_save_75 : decode cX0_save 75 = .ok (.getfield 24, 3) := by decide +kernel
theorem dX0_save_78 : decode cX0_save 78 = .ok (.iconst 1, 1) := by decide +kernel
theorem dX0_save_79 : decode cX0_save 79 = .ok (.iadd, 1) := by decide +kernel
theorem dX0_save_80 : decode cX0_save 80 = .ok (.goto 5, 3) := by decide +kernel
theorem dX0_save_83 : decode cX0_save 83 = .ok (.bipush 6, 2) := by decide +kernel
theorem dX0_save_85 : decode cX0_save 85 = .ok (.putfield 24, 3) := by decide +kernel
theorem dX0_save_88 : decode cX0_save 88 = .ok (.return_, 1) := by decide +kernel
theorem dX0_restore_0 : decode cX0_restore 0 = .ok (.aload_n 0, 1) := by decide +kernel
theorem dX0_restore_1 : decode cX0_restore 1 = .ok (.getfield 16, 3) := by decide +kernel
theorem dX0_restore_4 : decode cX0_restore 4 = .ok (.ifCond .ne 7, 3) := by decide +kernel
theorem dX0_restore_7 : decode cX0_restore 7 = .ok (.iconst 5, 1) := by decide +kernel
theorem dX0_restore_8 : decode cX0_restore 8 = .ok (.goto 9, 3) := by decide +kernel
theorem dX0_restore_11 : decode cX0_restore 11 = .ok (.aload_n 0, 1) := by decide +kernel
theorem dX0_restore_12 : decode cX0_restore 12 = .ok (.getfield 16, 3) := by decide +kernel
theorem dX0_restore_15 : decode cX0_restore 15 = .ok (.iconst 1, 1) := by decide +kernel
theorem dX0_restore_16 : decode cX0_restore 16 = .ok (.isub, 1) := by decide +kernel
theorem dX0_restore_17 : decode cX0_restore 17 = .ok (.istore_n 2, 1) := by decide +kernel
theorem dX0_restore_18 : decode cX0_restore 18 = .ok (.aload_n 0, 1) := by decide +kernel
theorem dX0_restore_19 : decode cX0_restore 19 = .ok (.getfield 24, 3) := by decide +kernel
theorem dX0_restore_22 : decode cX0_restore 22 = .ok (.ifCond .le 22, 3) := by decide +kernel
theorem dX0_restore_25 : decode cX0_restore 25 = .ok (.iload_n 2, 1) := by decide +kernel
theorem dX0_restore_26 : decode cX0_restore 26 = .ok (.ifCond .lt 18, 3) := by decide +kernel
theorem dX0_restore_29 : decode cX0_restore 29 = .ok (.iload_n 2, 1) := by decide +kernel
theorem dX0_restore_30 : decode cX0_restore 30 = .ok (.bipush 6, 2) := by decide +kernel
theorem dX0_restore_32 : decode cX0_restore 32 = .ok (.if_icmp .ge 12, 3) := by decide +kernel
theorem dX0_restore_35 : decode cX0_restore 35 = .ok (.aload_n 0, 1) := by decide +kernel
theorem dX0_restore_36 : decode cX0_restore 36 = .ok (.getfield 11, 3) := by decide +kernel
theorem dX0_restore_39 : decode cX0_restore 39 = .ok (.iload_n 2, 1) := by decide +kernel
theorem dX0_restore_40 : decode cX0_restore 40 = .ok (.aaload, 1) := by decide +kernel
theorem dX0_restore_41 : decode cX0_restore 41 = .ok (.ifnonnull 4, 3) := by decide +kernel
theorem dX0_restore_44 : decode cX0_restore 44 = .ok (.return_, 1) := by decide +kernel
theorem dX0_restore_45 : decode cX0_restore 45 = .ok (.aload_n 1, 1) := by decide +kernel
theorem dX0_restore_46 : decode cX0_restore 46 = .ok (.aload_n 0, 1) := by decide +kernel
theorem dX0_restore_47 : decode cX0_restore 47 = .ok (.getfield 11, 3) := by decide +kernel
theorem dX0_restore_50 : decode cX0_restore 50 = .ok (.iload_n 2, 1) := by decide +kernel
theorem dX0_restore_51 : decode cX0_restore 51 = .ok (.aaload, 1) := by decide +kernel
theorem dX0_restore_52 : decode cX0_restore 52 = .ok (.invokevirtual 20, 3) := by decide +kernel
theorem dX0_restore_55 : decode cX0_restore 55 = .ok (.aload_n 0, 1) := by decide +kernel
theorem dX0_restore_56 : decode cX0_restore 56 = .ok (.iload_n 2, 1) := by decide +kernel
theorem dX0_restore_57 : decode cX0_restore 57 = .ok (.putfield 16, 3) := by decide +kernel
theorem dX0_restore_60 : decode cX0_restore 60 = .ok (.aload_n 0, 1) := by decide +kernel
theorem dX0_restore_61 : decode cX0_restore 61 = .ok (.dup, 1) := by decide +kernel
theorem dX0_restore_62 : decode cX0_restore 62 = .ok (.getfield 24, 3) := by decide +kernel
theorem dX0_restore_65 : decode cX0_restore 65 = .ok (.iconst 1, 1) := by decide +kernel
theorem dX0_restore_66 : decode cX0_restore 66 = .ok (.isub, 1) := by decide +kernel
theorem dX0_restore_67 : decode cX0_restore 67 = .ok (.putfield 24, 3) := by decide +kernel
theorem dX0_restore_70 : decode cX0_restore 70 = .ok (.return_, 1) := by decide +kernel
theorem dX1_init_0 : decode cX1_init 0 = .ok (.aload_n 0, 1) := by decide +kernel
theorem dX1_init_1 : decode cX1_init 1 = .ok (.invokespecial 3, 3) := by decide +kernel
theorem dX1_init_4 : decode cX1_init 4 = .ok (.aload_n 0, 1) := by decide +kernel
theorem dX1_init_5 : decode cX1_init 5 = .ok (.bipush 24, 2) := by decide +kernel
theorem dX1_init_7 : decode cX1_init 7 = .ok (.newarray .int, 2) := by decide +kernel
theorem dX1_init_9 : decode cX1_init 9 = .ok (.putfield 9, 3) := by decide +kernel
theorem dX1_init_12 : decode cX1_init 12 = .ok (.aload_n 0, 1) := by decide +kernel
theorem dX1_init_13 : decode cX1_init 13 = .ok (.bipush 24, 2) := by decide +kernel
theorem dX1_init_15 : decode cX1_init 15 = .ok (.newarray .int, 2) := by decide +kernel
theorem dX1_init_17 : decode cX1_init 17 = .ok (.putfield 15, 3) := by decide +kernel
theorem dX1_init_20 : decode cX1_init 20 = .ok (.aload_n 0, 1) := by decide +kernel
theorem dX1_init_21 : decode cX1_init 21 = .ok (.bipush 24, 2) := by decide +kernel
theorem dX1_init_23 : decode cX1_init 23 = .ok (.newarray .int, 2) := by decide +kernel
theorem dX1_init_25 : decode cX1_init 25 = .ok (.putfield 18, 3) := by decide +kernel
theorem dX1_init_28 : decode cX1_init 28 = .ok (.return_, 1) := by decide +kernel
theorem dX1_forget_0 : decode cX1_forget 0 = .ok (.aload_n 0, 1) := by decide +kernel
theorem dX1_forget_1 : decode cX1_forget 1 = .ok (.iconst 0, 1) := by decide +kernel
theorem dX1_forget_2 : decode cX1_forget 2 = .ok (.putfield 21, 3) := by decide +kernel
theorem dX1_forget_5 : decode cX1_forget 5 = .ok (.iconst 0, 1) := by decide +kernel
theorem dX1_forget_6 : decode cX1_forget 6 = .ok (.istore_n 1, 1) := by decide +kernel
theorem dX1_forget_7 : decode cX1_forget 7 = .ok (.iload_n 1, 1) := by decide +kernel
theorem dX1_forget_8 : decode cX1_forget 8 = .ok (.bipush 24, 2) := by decide +kernel
theorem dX1_forget_10 : decode cX1_forget 10 = .ok (.if_icmp .ge 23, 3) := by decide +kernel
theorem dX1_forget_13 : decode cX1_forget 13 = .ok (.aload_n 0, 1) := by decide +kernel
theorem dX1_forget_14 : decode cX1_forget 14 = .ok (.getfield 15, 3) := by decide +kernel
theorem dX1_forget_17 : decode cX1_forget 17 = .ok (.iload_n 1, 1) := by decide +kernel
theorem dX1_forget_18 : decode cX1_forget 18 = .ok (.iconst (-1), 1) := by decide +kernel
theorem dX1_forget_19 : decode cX1_forget 19 = .ok (.iastore, 1) := by decide +kernel
theorem dX1_forget_20 : decode cX1_forget 20 = .ok (.aload_n 0, 1) := by decide +kernel
theorem dX1_forget_21 : decode cX1_forget 21 = .ok (.getfield 18, 3) := by decide +kernel
theorem dX1_forget_24 : decode cX1_forget 24 = .ok (.iload_n 1, 1) := by decide +kernel
theorem dX1_forget_25 : decode cX1_forget 25 = .ok (.iconst (-1), 1) := by decide +kernel
theorem dX1_forget_26 : decode cX1_forget 26 = .ok (.iastore, 1) := by decide +kernel
theorem dX1_forget_27 : decode cX1_forget 27 = .ok (.iinc 1 1, 3) := by decide +kernel
theorem dX1_forget_30 : decode cX1_forget 30 = .ok (.goto (-23), 3) := by decide +kernel
theorem dX1_forget_33 : decode cX1_forget 33 = .ok (.return_, 1) := by decide +kernel
theorem dX1_hasMet_0 : decode cX1_hasMet 0 = .ok (.iload_n 1, 1) := by decide +kernel
theorem dX1_hasMet_1 : decode cX1_hasMet 1 = .ok (.ifCond .lt 23, 3) := by decide +kernel
theorem dX1_hasMet_4 : decode cX1_hasMet 4 = .ok (.iload_n 1, 1) := by decide +kernel
theorem dX1_hasMet_5 : decode cX1_hasMet 5 = .ok (.bipush 24, 2) := by decide +kernel
theorem dX1_hasMet_7 : decode cX1_hasMet 7 = .ok (.if_icmp .ge 17, 3) := by decide +kernel
theorem dX1_hasMet_10 : decode cX1_hasMet 10 = .ok (.aload_n 0, 1) := by decide +kernel
theorem dX1_hasMet_11 : decode cX1_hasMet 11 = .ok (.getfield 15, 3) := by decide +kernel
theorem dX1_hasMet_14 : decode cX1_hasMet 14 = .ok (.iload_n 1, 1) := by decide +kernel
theorem dX1_hasMet_15 : decode cX1_hasMet 15 = .ok (.iaload, 1) := by decide +kernel
theorem dX1_hasMet_16 : decode cX1_hasMet 16 = .ok (.iconst (-1), 1) := by decide +kernel
theorem dX1_hasMet_17 : decode cX1_hasMet 17 = .ok (.if_icmp .eq 7, 3) := by decide +kernel
theorem dX1_hasMet_20 : decode cX1_hasMet 20 = .ok (.iconst 1, 1) := by decide +kernel
theorem dX1_hasMet_21 : decode cX1_hasMet 21 = .ok (.goto 4, 3) := by decide +kernel
theorem dX1_hasMet_24 : decode cX1_hasMet 24 = .ok (.iconst 0, 1) := by decide +kernel
theorem dX1_hasMet_25 : decode cX1_hasMet 25 = .ok (.ireturn, 1) := by decide +kernel
theorem dX1_placeOf_0 : decode cX1_placeOf 0 = .ok (.iload_n 1, 1) := by decide +kernel
theorem dX1_placeOf_1 : decode cX1_placeOf 1 = .ok (.ifCond .lt 18, 3) := by decide +kernel
theorem dX1_placeOf_4 : decode cX1_placeOf 4 = .ok (.iload_n 1, 1) := by decide +kernel
theorem dX1_placeOf_5 : decode cX1_placeOf 5 = .ok (.bipush 24, 2) := by decide +kernel
theorem dX1_placeOf_7 : decode cX1_placeOf 7 = .ok (.if_icmp .ge 12, 3) := by decide +kernel
theorem dX1_placeOf_10 : decode cX1_placeOf 10 = .ok (.aload_n 0, 1) := by decide +kernel
theorem dX1_placeOf_11 : decode cX1_placeOf 11 = .ok (.getfield 15, 3) := by decide +kernel
theorem dX1_placeOf_14 : decode cX1_placeOf 14 = .ok (.iload_n 1, 1) := by decide +kernel
theorem dX1_placeOf_15 : decode cX1_placeOf 15 = .ok (.iaload, 1) := by decide +kernel
theorem dX1_placeOf_16 : decode cX1_placeOf 16 = .ok (.goto 4, 3) := by decide +kernel
theorem dX1_placeOf_19 : decode cX1_placeOf 19 = .ok (.iconst (-1), 1) := by decide +kernel
theorem dX1_placeOf_20 : decode cX1_placeOf 20 = .ok (.ireturn, 1) := by decide +kernel
theorem dX1_stepsTo_0 : decode cX1_stepsTo 0 = .ok (.iload_n 1, 1) := by decide +kernel
theorem dX1_stepsTo_1 : decode cX1_stepsTo 1 = .ok (.ifCond .lt 18, 3) := by decide +kernel
theorem dX1_stepsTo_4 : decode cX1_stepsTo 4 = .ok (.iload_n 1, 1) := by decide +kernel
theorem dX1_stepsTo_5 : decode cX1_stepsTo 5 = .ok (.bipush 24, 2) := by decide +kernel
theorem dX1_stepsTo_7 : decode cX1_stepsTo 7 = .ok (.if_icmp .ge 12, 3) := by decide +kernel
theorem dX1_stepsTo_10 : decode cX1_stepsTo 10 = .ok (.aload_n 0, 1) := by decide +kernel
theorem dX1_stepsTo_11 : decode cX1_stepsTo 11 = .ok (.getfield 18, 3) := by decide +kernel
theorem dX1_stepsTo_14 : decode cX1_stepsTo 14 = .ok (.iload_n 1, 1) := by decide +kernel
theorem dX1_stepsTo_15 : decode cX1_stepsTo 15 = .ok (.iaload, 1) := by decide +kernel
theorem dX1_stepsTo_16 : decode cX1_stepsTo 16 = .ok (.goto 4, 3) := by decide +kernel
theorem dX1_stepsTo_19 : decode cX1_stepsTo 19 = .ok (.iconst (-1), 1) := by decide +kernel
theorem dX1_stepsTo_20 : decode cX1_stepsTo 20 = .ok (.ireturn, 1) := by decide +kernel
theorem dX1_meet_0 : decode cX1_meet 0 = .ok (.iload_n 1, 1) := by decide +kernel
theorem dX1_meet_1 : decode cX1_meet 1 = .ok (.ifCond .lt 25, 3) := by decide +kernel
theorem dX1_meet_4 : decode cX1_meet 4 = .ok (.iload_n 1, 1) := by decide +kernel
theorem dX1_meet_5 : decode cX1_meet 5 = .ok (.bipush 24, 2) := by decide +kernel
theorem dX1_meet_7 : decode cX1_meet 7 = .ok (.if_icmp .ge 19, 3) := by decide +kernel
theorem dX1_meet_10 : decode cX1_meet 10 = .ok (.aload_n 0, 1) := by decide +kernel
theorem dX1_meet_11 : decode cX1_meet 11 = .ok (.getfield 21, 3) := by decide +kernel
theorem dX1_meet_14 : decode cX1_meet 14 = .ok (.ifCond .lt 12, 3) := by decide +kernel
theorem dX1_meet_17 : decode cX1_meet 17 = .ok (.aload_n 0, 1) := by decide +kernel
theorem dX1_meet_18 : decode cX1_meet 18 = .ok (.getfield 21, 3) := by decide +kernel
theorem dX1_meet_21 : decode cX1_meet 21 = .ok (.bipush 24, 2) := by decide +kernel
theorem dX1_meet_23 : decode cX1_meet 23 = .ok (.if_icmp .lt 4, 3) := by decide +kernel
theorem dX1_meet_26 : decode cX1_meet 26 = .ok (.return_, 1) := by decide +kernel
theorem dX1_meet_27 : decode cX1_meet 27 = .ok (.aload_n 0, 1) := by decide +kernel
theorem dX1_meet_28 : decode cX1_meet 28 = .ok (.getfield 15, 3) := by decide +kernel
theorem dX1_meet_31 : decode cX1_meet 31 = .ok (.iload_n 1, 1) := by decide +kernel
theorem dX1_meet_32 : decode cX1_meet 32 = .ok (.iaload, 1) := by decide +kernel
theorem dX1_meet_33 : decode cX1_meet 33 = .ok (.iconst (-1), 1) := by decide +kernel
theorem dX1_meet_34 : decode cX1_meet 34 = .ok (.if_icmp .ne 40, 3) := by decide +kernel
theorem dX1_meet_37 : decode cX1_meet 37 = .ok (.aload_n 0, 1) := by decide +kernel
theorem dX1_meet_38 : decode cX1_meet 38 = .ok (.getfield 9, 3) := by decide +kernel
theorem dX1_meet_41 : decode cX1_meet 41 = .ok (.aload_n 0, 1) := by decide +kernel
theorem dX1_meet_42 : decode cX1_meet 42 = .ok (.getfield 21, 3) := by decide +kernel
theorem dX1_meet_45 : decode cX1_meet 45 = .ok (.iload_n 1, 1) := by decide +kernel
theorem dX1_meet_46 : decode cX1_meet 46 = .ok (.iastore, 1) := by decide +kernel
theorem dX1_meet_47 : decode cX1_meet 47 = .ok (.aload_n 0, 1) := by decide +kernel
theorem dX1_meet_48 : decode cX1_meet 48 = .ok (.getfield 15, 3) := by decide +kernel
theorem dX1_meet_51 : decode cX1_meet 51 = .ok (.iload_n 1, 1) := by decide +kernel
theorem dX1_meet_52 : decode cX1_meet 52 = .ok (.aload_n 0, 1) := by decide +kernel
theorem dX1_meet_53 : decode cX1_meet 53 = .ok (.getfield 21, 3) := by decide +kernel
theorem dX1_meet_56 : decode cX1_meet 56 = .ok (.iastore, 1) := by decide +kernel
theorem dX1_meet_57 : decode cX1_meet 57 = .ok (.aload_n 0, 1) := by decide +kernel
theorem dX1_meet_58 : decode cX1_meet 58 = .ok (.getfield 18, 3) := by decide +kernel
theorem dX1_meet_61 : decode cX1_meet 61 = .ok (.iload_n 1, 1) := by decide +kernel
theorem dX1_meet_62 : decode cX1_meet 62 = .ok (.iload_n 2, 1) := by decide +kernel
theorem dX1_meet_63 : decode cX1_meet 63 = .ok (.iastore, 1) := by decide +kernel
theorem dX1_meet_64 : decode cX1_meet 64 = .ok (.aload_n 0, 1) := by decide +kernel
theorem dX1_meet_65 : decode cX1_meet 65 = .ok (.dup, 1) := by decide +kernel
theorem dX1_meet_66 : decode cX1_meet 66 = .ok (.getfield 21, 3) := by decide +kernel
theorem dX1_meet_69 : decode cX1_meet 69 = .ok (.iconst 1, 1) := by decide +kernel
theorem dX1_meet_70 : decode cX1_meet 70 = .ok (.iadd, 1) := by decide +kernel
theorem dX1_meet_71 : decode cX1_meet 71 = .ok (.putfield 21, 3) := by decide +kernel
theorem dX1_meet_74 : decode cX1_meet 74 = .ok (.return_, 1) := by decide +kernel
theorem dX1_startAtRoots_0 : decode cX1_startAtRoots 0 = .ok (.aload_n 0, 1) := by decide +kernel
theorem dX1_startAtRoots_1 : decode cX1_startAtRoots 1 = .ok (.invokevirtual 25, 3) := by decide +kernel
theorem dX1_startAtRoots_4 : decode cX1_startAtRoots 4 = .ok (.iconst 0, 1) := by decide +kernel
theorem dX1_startAtRoots_5 : decode cX1_startAtRoots 5 = .ok (.istore_n 3, 1) := by decide +kernel
theorem dX1_startAtRoots_6 : decode cX1_startAtRoots 6 = .ok (.iload_n 3, 1) := by decide +kernel
theorem dX1_startAtRoots_7 : decode cX1_startAtRoots 7 = .ok (.bipush 24, 2) := by decide +kernel
theorem dX1_startAtRoots_9 : decode cX1_startAtRoots 9 = .ok (.if_icmp .ge 37, 3) := by decide +kernel
theorem dX1_startAtRoots_12 : decode cX1_startAtRoots 12 = .ok (.iload_n 3, 1) := by decide +kernel
theorem dX1_startAtRoots_13 : decode cX1_startAtRoots 13 = .ok (.iload_n 2, 1) := by decide +kernel
theorem dX1_startAtRoots_14 : decode cX1_startAtRoots 14 = .ok (.if_icmp .eq 26, 3) := by decide +kernel
theorem dX1_startAtRoots_17 : decode cX1_startAtRoots 17 = .ok (.aload_n 1, 1) := by decide +kernel
theorem dX1_startAtRoots_18 : decode cX1_startAtRoots 18 = .ok (.iload_n 3, 1) := by decide +kernel
theorem dX1_startAtRoots_19 : decode cX1_startAtRoots 19 = .ok (.invokevirtual 28, 3) := by decide +kernel
theorem dX1_startAtRoots_22 : decode cX1_startAtRoots 22 = .ok (.ifCond .eq 18, 3) := by decide +kernel
theorem dX1_startAtRoots_25 : decode cX1_startAtRoots 25 = .ok (.aload_n 1, 1) := by decide +kernel
theorem dX1_startAtRoots_26 : decode cX1_startAtRoots 26 = .ok (.getfield 34, 3) := by decide +kernel
theorem dX1_startAtRoots_29 : decode cX1_startAtRoots 29 = .ok (.iload_n 3, 1) := by decide +kernel
theorem dX1_startAtRoots_30 : decode cX1_startAtRoots 30 = .ok (.baload, 1) := by decide +kernel
theorem dX1_startAtRoots_31 : decode cX1_startAtRoots 31 = .ok (.ifCond .eq 9, 3) := by decide +kernel
theorem dX1_startAtRoots_34 : decode cX1_startAtRoots 34 = .ok (.aload_n 0, 1) := by decide +kernel
theorem dX1_startAtRoots_35 : decode cX1_startAtRoots 35 = .ok (.iload_n 3, 1) := by decide +kernel
theorem dX1_startAtRoots_36 : decode cX1_startAtRoots 36 = .ok (.iconst 0, 1) := by decide +kernel
theorem dX1_startAtRoots_37 : decode cX1_startAtRoots 37 = .ok (.invokevirtual 38, 3) := by decide +kernel
theorem dX1_startAtRoots_40 : decode cX1_startAtRoots 40 = .ok (.iinc 3 1, 3) := by decide +kernel
theorem dX1_startAtRoots_43 : decode cX1_startAtRoots 43 = .ok (.goto (-37), 3) := by decide +kernel
theorem dX1_startAtRoots_46 : decode cX1_startAtRoots 46 = .ok (.return_, 1) := by decide +kernel
theorem dX1_follow_0 : decode cX1_follow 0 = .ok (.iconst 0, 1) := by decide +kernel
theorem dX1_follow_1 : decode cX1_follow 1 = .ok (.istore 4, 2) := by decide +kernel
theorem dX1_follow_3 : decode cX1_follow 3 = .ok (.iload 4, 2) := by decide +kernel
theorem dX1_follow_5 : decode cX1_follow 5 = .ok (.bipush 24, 2) := by decide +kernel
theorem dX1_follow_7 : decode cX1_follow 7 = .ok (.if_icmp .ge 91, 3) := by decide +kernel
theorem dX1_follow_10 : decode cX1_follow 10 = .ok (.iload 4, 2) := by decide +kernel
theorem dX1_follow_12 : decode cX1_follow 12 = .ok (.aload_n 0, 1) := by decide +kernel
theorem dX1_follow_13 : decode cX1_follow 13 = .ok (.getfield 21, 3) := by decide +kernel
theorem dX1_follow_16 : decode cX1_follow 16 = .ok (.if_icmp .ge 82, 3) := by decide +kernel
theorem dX1_follow_19 : decode cX1_follow 19 = .ok (.aload_n 0, 1) := by decide +kernel
theorem dX1_follow_20 : decode cX1_follow 20 = .ok (.getfield 9, 3) := by decide +kernel
theorem dX1_follow_23 : decode cX1_follow 23 = .ok (.iload 4, 2) := by decide +kernel
theorem dX1_follow_25 : decode cX1_follow 25 = .ok (.iaload, 1) := by decide +kernel
theorem dX1_follow_26 : decode cX1_follow 26 = .ok (.istore 5, 2) := by decide +kernel
theorem dX1_follow_28 : decode cX1_follow 28 = .ok (.aload_n 0, 1) := by decide +kernel
theorem dX1_follow_29 : decode cX1_follow 29 = .ok (.iload 5, 2) := by decide +kernel
theorem dX1_follow_31 : decode cX1_follow 31 = .ok (.invokevirtual 42, 3) := by decide +kernel
theorem dX1_follow_34 : decode cX1_follow 34 = .ok (.iconst 1, 1) := by decide +kernel
theorem dX1_follow_35 : decode cX1_follow 35 = .ok (.iadd, 1) := by decide +kernel
theorem dX1_follow_36 : decode cX1_follow 36 = .ok (.istore 6, 2) := by decide +kernel
theorem dX1_follow_38 : decode cX1_follow 38 = .ok (.iconst 0, 1) := by decide +kernel
theorem dX1_follow_39 : decode cX1_follow 39 = .ok (.istore 7, 2) := by decide +kernel
theorem dX1_follow_41 : decode cX1_follow 41 = .ok (.iload 7, 2) := by decide +kernel
theorem dX1_follow_43 : decode cX1_follow 43 = .ok (.iconst 2, 1) := by decide +kernel
theorem dX1_follow_44 : decode cX1_follow 44 = .ok (.if_icmp .ge 48, 3) := by decide +kernel
theorem dX1_follow_47 : decode cX1_follow 47 = .ok (.aload_n 1, 1) := by decide +kernel
theorem dX1_follow_48 : decode cX1_follow 48 = .ok (.iload 5, 2) := by decide +kernel
theorem dX1_follow_50 : decode cX1_follow 50 = .ok (.iload 7, 2) := by decide +kernel
theorem dX1_follow_52 : decode cX1_follow 52 = .ok (.invokevirtual 46, 3) := by decide +kernel
theorem dX1_follow_55 : decode cX1_follow 55 = .ok (.istore 8, 2) := by decide +kernel
theorem dX1_follow_57 : decode cX1_follow 57 = .ok (.iload 8, 2) := by decide +kernel
theorem dX1_follow_59 : decode cX1_follow 59 = .ok (.iload_n 3, 1) := by decide +kernel
theorem dX1_follow_60 : decode cX1_follow 60 = .ok (.if_icmp .eq 26, 3) := by decide +kernel
theorem dX1_follow_63 : decode cX1_follow 63 = .ok (.iload_n 2, 1) := by decide +kernel
theorem dX1_follow_64 : decode cX1_follow 64 = .ok (.iconst (-1), 1) := by decide +kernel
theorem dX1_follow_65 : decode cX1_follow 65 = .ok (.if_icmp .eq 13, 3) := by decide +kernel
theorem dX1_follow_68 : decode cX1_follow 68 = .ok (.aload_n 1, 1) := by decide +kernel
theorem dX1_follow_69 : decode cX1_follow 69 = .ok (.iload 8, 2) := by decide +kernel
theorem dX1_follow_71 : decode cX1_follow 71 = .ok (.iload_n 2, 1) := by decide +kernel
theorem dX1_follow_72 : decode cX1_follow 72 = .ok (.invokevirtual 50, 3) := by decide +kernel
theorem dX1_follow_75 : decode cX1_follow 75 = .ok (.ifCond .eq 11, 3) := by decide +kernel
theorem dX1_follow_78 : decode cX1_follow 78 = .ok (.aload_n 0, 1) := by decide +kernel
theorem dX1_follow_79 : decode cX1_follow 79 = .ok (.iload 8, 2) := by decide +kernel
theorem dX1_follow_81 : decode cX1_follow 81 = .ok (.iload 6, 2) := by decide +kernel
theorem dX1_follow_83 : decode cX1_follow 83 = .ok (.invokevirtual 38, 3) := by decide +kernel
theorem dX1_follow_86 : decode cX1_follow 86 = .ok (.iinc 7 1, 3) := by decide +kernel
theorem dX1_follow_89 : decode cX1_follow 89 = .ok (.goto (-48), 3) := by decide +kernel
theorem dX1_follow_92 : decode cX1_follow 92 = .ok (.iinc 4 1, 3) := by decide +kernel
theorem dX1_follow_95 : decode cX1_follow 95 = .ok (.goto (-92), 3) := by decide +kernel
theorem dX1_follow_98 : decode cX1_follow 98 = .ok (.return_, 1) := by decide +kernel
theorem dX1_cells_0 : decode cX1_cells 0 = .ok (.iconst 0, 1) := by decide +kernel
theorem dX1_cells_1 : decode cX1_cells 1 = .ok (.istore_n 2, 1) := by decide +kernel
theorem dX1_cells_2 : decode cX1_cells 2 = .ok (.iconst 0, 1) := by decide +kernel
theorem dX1_cells_3 : decode cX1_cells 3 = .ok (.istore_n 3, 1) := by decide +kernel
theorem dX1_cells_4 : decode cX1_cells 4 = .ok (.iload_n 3, 1) := by decide +kernel
theorem dX1_cells_5 : decode cX1_cells 5 = .ok (.bipush 24, 2) := by decide +kernel
theorem dX1_cells_7 : decode cX1_cells 7 = .ok (.if_icmp .ge 26, 3) := by decide +kernel
theorem dX1_cells_10 : decode cX1_cells 10 = .ok (.aload_n 0, 1) := by decide +kernel
theorem dX1_cells_11 : decode cX1_cells 11 = .ok (.iload_n 3, 1) := by decide +kernel
theorem dX1_cells_12 : decode cX1_cells 12 = .ok (.invokevirtual 54, 3) := by decide +kernel
theorem dX1_cells_15 : decode cX1_cells 15 = .ok (.ifCond .eq 12, 3) := by decide +kernel
theorem dX1_cells_18 : decode cX1_cells 18 = .ok (.iload_n 2, 1) := by decide +kernel
theorem dX1_cells_19 : decode cX1_cells 19 = .ok (.aload_n 1, 1) := by decide +kernel
theorem dX1_cells_20 : decode cX1_cells 20 = .ok (.getfield 57, 3) := by decide +kernel
theorem dX1_cells_23 : decode cX1_cells 23 = .ok (.iload_n 3, 1) := by decide +kernel
theorem dX1_cells_24 : decode cX1_cells 24 = .ok (.iaload, 1) := by decide +kernel
theorem dX1_cells_25 : decode cX1_cells 25 = .ok (.iadd, 1) := by decide +kernel
theorem dX1_cells_26 : decode cX1_cells 26 = .ok (.istore_n 2, 1) := by decide +kernel
theorem dX1_cells_27 : decode cX1_cells 27 = .ok (.iinc 3 1, 3) := by decide +kernel
theorem dX1_cells_30 : decode cX1_cells 30 = .ok (.goto (-26), 3) := by decide +kernel
theorem dX1_cells_33 : decode cX1_cells 33 = .ok (.iload_n 2, 1) := by decide +kernel
theorem dX1_cells_34 : decode cX1_cells 34 = .ok (.ireturn, 1) := by decide +kernel
theorem dX2_init_0 : decode cX2_init 0 = .ok (.aload_n 0, 1) := by decide +kernel
theorem dX2_init_1 : decode cX2_init 1 = .ok (.invokespecial 3, 3) := by decide +kernel
theorem dX2_init_4 : decode cX2_init 4 = .ok (.aload_n 0, 1) := by decide +kernel
theorem dX2_init_5 : decode cX2_init 5 = .ok (.new 9, 3) := by decide +kernel
theorem dX2_init_8 : decode cX2_init 8 = .ok (.dup, 1) := by decide +kernel
theorem dX2_init_9 : decode cX2_init 9 = .ok (.invokespecial 11, 3) := by decide +kernel
theorem dX2_init_12 : decode cX2_init 12 = .ok (.putfield 12, 3) := by decide +kernel
theorem dX2_init_15 : decode cX2_init 15 = .ok (.aload_n 0, 1) := by decide +kernel
theorem dX2_init_16 : decode cX2_init 16 = .ok (.new 9, 3) := by decide +kernel
theorem dX2_init_19 : decode cX2_init 19 = .ok (.dup, 1) := by decide +kernel
theorem dX2_init_20 : decode cX2_init 20 = .ok (.invokespecial 11, 3) := by decide +kernel
theorem dX2_init_23 : decode cX2_init 23 = .ok (.putfield 18, 3) := by decide +kernel
theorem dX2_init_26 : decode cX2_init 26 = .ok (.aload_n 0, 1) := by decide +kernel
theorem dX2_init_27 : decode cX2_init 27 = .ok (.bipush 24, 2) := by decide +kernel
theorem dX2_init_29 : decode cX2_init 29 = .ok (.newarray .int, 2) := by decide +kernel
theorem dX2_init_31 : decode cX2_init 31 = .ok (.putfield 21, 3) := by decide +kernel
theorem dX2_init_34 : decode cX2_init 34 = .ok (.return_, 1) := by decide +kernel
theorem dX2_survey_0 : decode cX2_survey 0 = .ok (.aload_n 0, 1) := by decide +kernel
theorem dX2_survey_1 : decode cX2_survey 1 = .ok (.getfield 12, 3) := by decide +kernel
theorem dX2_survey_4 : decode cX2_survey 4 = .ok (.aload_n 1, 1) := by decide +kernel
theorem dX2_survey_5 : decode cX2_survey 5 = .ok (.iconst (-1), 1) := by decide +kernel
theorem dX2_survey_6 : decode cX2_survey 6 = .ok (.invokevirtual 25, 3) := by decide +kernel
theorem dX2_survey_9 : decode cX2_survey 9 = .ok (.aload_n 0, 1) := by decide +kernel
theorem dX2_survey_10 : decode cX2_survey 10 = .ok (.getfield 12, 3) := by decide +kernel
theorem dX2_survey_13 : decode cX2_survey 13 = .ok (.aload_n 1, 1) := by decide +kernel
theorem dX2_survey_14 : decode cX2_survey 14 = .ok (.iconst (-1), 1) := by decide +kernel
theorem dX2_survey_15 : decode cX2_survey 15 = .ok (.iconst (-1), 1) := by decide +kernel
theorem dX2_survey_16 : decode cX2_survey 16 = .ok (.invokevirtual 29, 3) := by decide +kernel
theorem dX2_survey_19 : decode cX2_survey 19 = .ok (.aload_n 0, 1) := by decide +kernel
theorem dX2_survey_20 : decode cX2_survey 20 = .ok (.getfield 18, 3) := by decide +kernel
theorem dX2_survey_23 : decode cX2_survey 23 = .ok (.invokevirtual 33, 3) := by decide +kernel
theorem dX2_survey_26 : decode cX2_survey 26 = .ok (.iconst 0, 1) := by decide +kernel
theorem dX2_survey_27 : decode cX2_survey 27 = .ok (.istore_n 3, 1) := by decide +kernel
theorem dX2_survey_28 : decode cX2_survey 28 = .ok (.iload_n 3, 1) := by decide +kernel
theorem dX2_survey_29 : decode cX2_survey 29 = .ok (.bipush 24, 2) := by decide +kernel
theorem dX2_survey_31 : decode cX2_survey 31 = .ok (.if_icmp .ge 38, 3) := by decide +kernel
theorem dX2_survey_34 : decode cX2_survey 34 = .ok (.aload_n 1, 1) := by decide +kernel
theorem dX2_survey_35 : decode cX2_survey 35 = .ok (.iload_n 3, 1) := by decide +kernel
theorem dX2_survey_36 : decode cX2_survey 36 = .ok (.iload_n 2, 1) := by decide +kernel
theorem dX2_survey_37 : decode cX2_survey 37 = .ok (.invokevirtual 36, 3) := by decide +kernel
theorem dX2_survey_40 : decode cX2_survey 40 = .ok (.ifCond .eq 23, 3) := by decide +kernel
theorem dX2_survey_43 : decode cX2_survey 43 = .ok (.aload_n 0, 1) := by decide +kernel
theorem dX2_survey_44 : decode cX2_survey 44 = .ok (.getfield 12, 3) := by decide +kernel
theorem dX2_survey_47 : decode cX2_survey 47 = .ok (.iload_n 3, 1) := by decide +kernel
theorem dX2_survey_48 : decode cX2_survey 48 = .ok (.invokevirtual 42, 3) := by decide +kernel
theorem dX2_survey_51 : decode cX2_survey 51 = .ok (.ifCond .eq 12, 3) := by decide +kernel
theorem dX2_survey_54 : decode cX2_survey 54 = .ok (.aload_n 0, 1) := by decide +kernel
theorem dX2_survey_55 : decode cX2_survey 55 = .ok (.getfield 18, 3) := by decide +kernel
theorem dX2_survey_58 : decode cX2_survey 58 = .ok (.iload_n 3, 1) := by decide +kernel
theorem dX2_survey_59 : decode cX2_survey 59 = .ok (.iconst 0, 1) := by decide +kernel
theorem dX2_survey_60 : decode cX2_survey 60 = .ok (.invokevirtual 46, 3) := by decide +kernel
theorem dX2_survey_63 : decode cX2_survey 63 = .ok (.iinc 3 1, 3) := by decide +kernel
theorem dX2_survey_66 : decode cX2_survey 66 = .ok (.goto (-38), 3) := by decide +kernel
theorem dX2_survey_69 : decode cX2_survey 69 = .ok (.aload_n 1, 1) := by decide +kernel
theorem dX2_survey_70 : decode cX2_survey 70 = .ok (.getfield 50, 3) := by decide +kernel
theorem dX2_survey_73 : decode cX2_survey 73 = .ok (.iconst 0, 1) := by decide +kernel
theorem dX2_survey_74 : decode cX2_survey 74 = .ok (.iaload, 1) := by decide +kernel
theorem dX2_survey_75 : decode cX2_survey 75 = .ok (.iconst 1, 1) := by decide +kernel
theorem dX2_survey_76 : decode cX2_survey 76 = .ok (.if_icmp .ne 9, 3) := by decide +kernel
theorem dX2_survey_79 : decode cX2_survey 79 = .ok (.aload_n 0, 1) := by decide +kernel
theorem dX2_survey_80 : decode cX2_survey 80 = .ok (.aload_n 1, 1) := by decide +kernel
theorem dX2_survey_81 : decode cX2_survey 81 = .ok (.iload_n 2, 1) := by decide +kernel
theorem dX2_survey_82 : decode cX2_survey 82 = .ok (.invokevirtual 53, 3) := by decide +kernel
theorem dX2_survey_85 : decode cX2_survey 85 = .ok (.aload_n 0, 1) := by decide +kernel
theorem dX2_survey_86 : decode cX2_survey 86 = .ok (.getfield 18, 3) := by decide +kernel
theorem dX2_survey_89 : decode cX2_survey 89 = .ok (.aload_n 1, 1) := by decide +kernel
theorem dX2_survey_90 : decode cX2_survey 90 = .ok (.iload_n 2, 1) := by decide +kernel
theorem dX2_survey_91 : decode cX2_survey 91 = .ok (.iconst (-1), 1) := by decide +kernel
theorem dX2_survey_92 : decode cX2_survey 92 = .ok (.invokevirtual 29, 3) := by decide +kernel
theorem dX2_survey_95 : decode cX2_survey 95 = .ok (.return_, 1) := by decide +kernel
theorem dX2_meetRemembered_0 : decode cX2_meetRemembered 0 = .ok (.iconst 0, 1) := by decide +kernel
theorem dX2_meetRemembered_1 : decode cX2_meetRemembered 1 = .ok (.istore_n 3, 1) := by decide +kernel
theorem dX2_meetRemembered_2 : decode cX2_meetRemembered 2 = .ok (.iload_n 3, 1) := by decide +kernel
theorem dX2_meetRemembered_3 : decode cX2_meetRemembered 3 = .ok (.bipush 24, 2) := by decide +kernel
theorem dX2_meetRemembered_5 : decode cX2_meetRemembered 5 = .ok (.if_icmp .ge 62, 3) := by decide +kernel
theorem dX2_meetRemembered_8 : decode cX2_meetRemembered 8 = .ok (.iconst 0, 1) := by decide +kernel
theorem dX2_meetRemembered_9 : decode cX2_meetRemembered 9 = .ok (.istore 4, 2) := by decide +kernel
theorem dX2_meetRemembered_11 : decode cX2_meetRemembered 11 = .ok (.iload 4, 2) := by decide +kernel
theorem dX2_meetRemembered_13 : decode cX2_meetRemembered 13 = .ok (.iconst 2, 1) := by decide +kernel
theorem dX2_meetRemembered_14 : decode cX2_meetRemembered 14 = .ok (.if_icmp .ge 47, 3) := by decide +kernel
theorem dX2_meetRemembered_17 : decode cX2_meetRemembered 17 = .ok (.aload_n 1, 1) := by decide +kernel
theorem dX2_meetRemembered_18 : decode cX2_meetRemembered 18 = .ok (.iload_n 3, 1) := by decide +kernel
theorem dX2_meetRemembered_19 : decode cX2_meetRemembered 19 = .ok (.iload_n 2, 1) := by decide +kernel
theorem dX2_meetRemembered_20 : decode cX2_meetRemembered 20 = .ok (.invokevirtual 36, 3) := by decide +kernel
theorem dX2_meetRemembered_23 : decode cX2_meetRemembered 23 = .ok (.ifCond .ne 38, 3) := by decide +kernel
theorem dX2_meetRemembered_26 : decode cX2_meetRemembered 26 = .ok (.aload_n 1, 1) := by decide +kernel
theorem dX2_meetRemembered_27 : decode cX2_meetRemembered 27 = .ok (.iload_n 3, 1) := by decide +kernel
theorem dX2_meetRemembered_28 : decode cX2_meetRemembered 28 = .ok (.iload 4, 2) := by decide +kernel
theorem dX2_meetRemembered_30 : decode cX2_meetRemembered 30 = .ok (.invokevirtual 56, 3) := by decide +kernel
theorem dX2_meetRemembered_33 : decode cX2_meetRemembered 33 = .ok (.istore 5, 2) := by decide +kernel
theorem dX2_meetRemembered_35 : decode cX2_meetRemembered 35 = .ok (.aload_n 1, 1) := by decide +kernel
theorem dX2_meetRemembered_36 : decode cX2_meetRemembered 36 = .ok (.iload 5, 2) := by decide +kernel
theorem dX2_meetRemembered_38 : decode cX2_meetRemembered 38 = .ok (.iload_n 2, 1) := by decide +kernel
theorem dX2_meetRemembered_39 : decode cX2_meetRemembered 39 = .ok (.invokevirtual 36, 3) := by decide +kernel
theorem dX2_meetRemembered_42 : decode cX2_meetRemembered 42 = .ok (.ifCond .eq 13, 3) := by decide +kernel
theorem dX2_meetRemembered_45 : decode cX2_meetRemembered 45 = .ok (.aload_n 0, 1) := by decide +kernel
theorem dX2_meetRemembered_46 : decode cX2_meetRemembered 46 = .ok (.getfield 18, 3) := by decide +kernel
theorem dX2_meetRemembered_49 : decode cX2_meetRemembered 49 = .ok (.iload 5, 2) := by decide +kernel
theorem dX2_meetRemembered_51 : decode cX2_meetRemembered 51 = .ok (.iconst 0, 1) := by decide +kernel
theorem dX2_meetRemembered_52 : decode cX2_meetRemembered 52 = .ok (.invokevirtual 46, 3) := by decide +kernel
theorem dX2_meetRemembered_55 : decode cX2_meetRemembered 55 = .ok (.iinc 4 1, 3) := by decide +kernel
theorem dX2_meetRemembered_58 : decode cX2_meetRemembered 58 = .ok (.goto (-47), 3) := by decide +kernel
theorem dX2_meetRemembered_61 : decode cX2_meetRemembered 61 = .ok (.iinc 3 1, 3) := by decide +kernel
theorem dX2_meetRemembered_64 : decode cX2_meetRemembered 64 = .ok (.goto (-62), 3) := by decide +kernel
theorem dX2_meetRemembered_67 : decode cX2_meetRemembered 67 = .ok (.return_, 1) := by decide +kernel
theorem dX2_survivingCells_0 : decode cX2_survivingCells 0 = .ok (.aload_n 0, 1) := by decide +kernel
theorem dX2_survivingCells_1 : decode cX2_survivingCells 1 = .ok (.getfield 18, 3) := by decide +kernel
theorem dX2_survivingCells_4 : decode cX2_survivingCells 4 = .ok (.aload_n 1, 1) := by decide +kernel
theorem dX2_survivingCells_5 : decode cX2_survivingCells 5 = .ok (.invokevirtual 60, 3) := by decide +kernel
theorem dX2_survivingCells_8 : decode cX2_survivingCells 8 = .ok (.ireturn, 1) := by decide +kernel
theorem dX2_deadCells_0 : decode cX2_deadCells 0 = .ok (.iload_n 2, 1) := by decide +kernel
theorem dX2_deadCells_1 : decode cX2_deadCells 1 = .ok (.invokestatic 64, 3) := by decide +kernel
theorem dX2_deadCells_4 : decode cX2_deadCells 4 = .ok (.ifCond .eq 21, 3) := by decide +kernel
theorem dX2_deadCells_7 : decode cX2_deadCells 7 = .ok (.aload_n 1, 1) := by decide +kernel
theorem dX2_deadCells_8 : decode cX2_deadCells 8 = .ok (.getfield 67, 3) := by decide +kernel
theorem dX2_deadCells_11 : decode cX2_deadCells 11 = .ok (.iload_n 2, 1) := by decide +kernel
theorem dX2_deadCells_12 : decode cX2_deadCells 12 = .ok (.iaload, 1) := by decide +kernel
theorem dX2_deadCells_13 : decode cX2_deadCells 13 = .ok (.aload_n 0, 1) := by decide +kernel
theorem dX2_deadCells_14 : decode cX2_deadCells 14 = .ok (.getfield 18, 3) := by decide +kernel
theorem dX2_deadCells_17 : decode cX2_deadCells 17 = .ok (.aload_n 1, 1) := by decide +kernel
theorem dX2_deadCells_18 : decode cX2_deadCells 18 = .ok (.invokevirtual 60, 3) := by decide +kernel
theorem dX2_deadCells_21 : decode cX2_deadCells 21 = .ok (.isub, 1) := by decide +kernel
theorem dX2_deadCells_22 : decode cX2_deadCells 22 = .ok (.goto 4, 3) := by decide +kernel
theorem dX2_deadCells_25 : decode cX2_deadCells 25 = .ok (.iconst 0, 1) := by decide +kernel
theorem dX2_deadCells_26 : decode cX2_deadCells 26 = .ok (.ireturn, 1) := by decide +kernel
theorem dX2_isKept_0 : decode cX2_isKept 0 = .ok (.iconst 0, 1) := by decide +kernel
theorem dX2_isKept_1 : decode cX2_isKept 1 = .ok (.istore_n 2, 1) := by decide +kernel
theorem dX2_isKept_2 : decode cX2_isKept 2 = .ok (.iload_n 2, 1) := by decide +kernel
theorem dX2_isKept_3 : decode cX2_isKept 3 = .ok (.bipush 24, 2) := by decide +kernel
theorem dX2_isKept_5 : decode cX2_isKept 5 = .ok (.if_icmp .ge 31, 3) := by decide +kernel
theorem dX2_isKept_8 : decode cX2_isKept 8 = .ok (.aload_n 0, 1) := by decide +kernel
theorem dX2_isKept_9 : decode cX2_isKept 9 = .ok (.getfield 18, 3) := by decide +kernel
theorem dX2_isKept_12 : decode cX2_isKept 12 = .ok (.iload_n 2, 1) := by decide +kernel
theorem dX2_isKept_13 : decode cX2_isKept 13 = .ok (.invokevirtual 42, 3) := by decide +kernel
theorem dX2_isKept_16 : decode cX2_isKept 16 = .ok (.ifCond .eq 14, 3) := by decide +kernel
theorem dX2_isKept_19 : decode cX2_isKept 19 = .ok (.aload_n 1, 1) := by decide +kernel
theorem dX2_isKept_20 : decode cX2_isKept 20 = .ok (.getfield 70, 3) := by decide +kernel
theorem dX2_isKept_23 : decode cX2_isKept 23 = .ok (.iload_n 2, 1) := by decide +kernel
theorem dX2_isKept_24 : decode cX2_isKept 24 = .ok (.baload, 1) := by decide +kernel
theorem dX2_isKept_25 : decode cX2_isKept 25 = .ok (.ifCond .eq 5, 3) := by decide +kernel
theorem dX2_isKept_28 : decode cX2_isKept 28 = .ok (.iconst 1, 1) := by decide +kernel
theorem dX2_isKept_29 : decode cX2_isKept 29 = .ok (.ireturn, 1) := by decide +kernel
theorem dX2_isKept_30 : decode cX2_isKept 30 = .ok (.iinc 2 1, 3) := by decide +kernel
theorem dX2_isKept_33 : decode cX2_isKept 33 = .ok (.goto (-31), 3) := by decide +kernel
theorem dX2_isKept_36 : decode cX2_isKept 36 = .ok (.iconst 0, 1) := by decide +kernel
theorem dX2_isKept_37 : decode cX2_isKept 37 = .ok (.ireturn, 1) := by decide +kernel
theorem dX2_reason_0 : decode cX2_reason 0 = .ok (.iload_n 2, 1) := by decide +kernel
theorem dX2_reason_1 : decode cX2_reason 1 = .ok (.iload_n 3, 1) := by decide +kernel
theorem dX2_reason_2 : decode cX2_reason 2 = .ok (.if_icmp .ne 5, 3) := by decide +kernel
theorem dX2_reason_5 : decode cX2_reason 5 = .ok (.iconst 1, 1) := by decide +kernel
theorem dX2_reason_6 : decode cX2_reason 6 = .ok (.ireturn, 1) := by decide +kernel
theorem dX2_reason_7 : decode cX2_reason 7 = .ok (.aload_n 1, 1) := by decide +kernel
theorem dX2_reason_8 : decode cX2_reason 8 = .ok (.iload_n 2, 1) := by decide +kernel
theorem dX2_reason_9 : decode cX2_reason 9 = .ok (.invokevirtual 74, 3) := by decide +kernel
theorem dX2_reason_12 : decode cX2_reason 12 = .ok (.ifCond .eq 11, 3) := by decide +kernel
theorem dX2_reason_15 : decode cX2_reason 15 = .ok (.aload_n 1, 1) := by decide +kernel
theorem dX2_reason_16 : decode cX2_reason 16 = .ok (.iload_n 3, 1) := by decide +kernel
theorem dX2_reason_17 : decode cX2_reason 17 = .ok (.invokevirtual 74, 3) := by decide +kernel
theorem dX2_reason_20 : decode cX2_reason 20 = .ok (.ifCond .ne 5, 3) := by decide +kernel
theorem dX2_reason_23 : decode cX2_reason 23 = .ok (.iconst 2, 1) := by decide +kernel
theorem dX2_reason_24 : decode cX2_reason 24 = .ok (.ireturn, 1) := by decide +kernel
theorem dX2_reason_25 : decode cX2_reason 25 = .ok (.aload_n 0, 1) := by decide +kernel
theorem dX2_reason_26 : decode cX2_reason 26 = .ok (.aload_n 1, 1) := by decide +kernel
theorem dX2_reason_27 : decode cX2_reason 27 = .ok (.iload_n 2, 1) := by decide +kernel
theorem dX2_reason_28 : decode cX2_reason 28 = .ok (.invokevirtual 77, 3) := by decide +kernel
theorem dX2_reason_31 : decode cX2_reason 31 = .ok (.aload_n 0, 1) := by decide +kernel
theorem dX2_reason_32 : decode cX2_reason 32 = .ok (.aload_n 1, 1) := by decide +kernel
theorem dX2_reason_33 : decode cX2_reason 33 = .ok (.invokevirtual 80, 3) := by decide +kernel
theorem dX2_reason_36 : decode cX2_reason 36 = .ok (.ifCond .eq 5, 3) := by decide +kernel
theorem dX2_reason_39 : decode cX2_reason 39 = .ok (.iconst 3, 1) := by decide +kernel
theorem dX2_reason_40 : decode cX2_reason 40 = .ok (.ireturn, 1) := by decide +kernel
theorem dX2_reason_41 : decode cX2_reason 41 = .ok (.aload_n 1, 1) := by decide +kernel
theorem dX2_reason_42 : decode cX2_reason 42 = .ok (.iload_n 3, 1) := by decide +kernel
theorem dX2_reason_43 : decode cX2_reason 43 = .ok (.aload_n 0, 1) := by decide +kernel
theorem dX2_reason_44 : decode cX2_reason 44 = .ok (.getfield 18, 3) := by decide +kernel
theorem dX2_reason_47 : decode cX2_reason 47 = .ok (.aload_n 1, 1) := by decide +kernel
theorem dX2_reason_48 : decode cX2_reason 48 = .ok (.invokevirtual 60, 3) := by decide +kernel
theorem dX2_reason_51 : decode cX2_reason 51 = .ok (.invokevirtual 84, 3) := by decide +kernel
theorem dX2_reason_54 : decode cX2_reason 54 = .ok (.ifCond .eq 7, 3) := by decide +kernel
theorem dX2_reason_57 : decode cX2_reason 57 = .ok (.iconst 0, 1) := by decide +kernel
theorem dX2_reason_58 : decode cX2_reason 58 = .ok (.goto 4, 3) := by decide +kernel
theorem dX2_reason_61 : decode cX2_reason 61 = .ok (.iconst 4, 1) := by decide +kernel
theorem dX2_reason_62 : decode cX2_reason 62 = .ok (.ireturn, 1) := by decide +kernel
theorem dX2_addressIfGiven_0 : decode cX2_addressIfGiven 0 = .ok (.aload_n 1, 1) := by decide +kernel
theorem dX2_addressIfGiven_1 : decode cX2_addressIfGiven 1 = .ok (.iload_n 2, 1) := by decide +kernel
theorem dX2_addressIfGiven_2 : decode cX2_addressIfGiven 2 = .ok (.invokevirtual 87, 3) := by decide +kernel
theorem dX2_addressIfGiven_5 : decode cX2_addressIfGiven 5 = .ok (.ifCond .eq 12, 3) := by decide +kernel
theorem dX2_addressIfGiven_8 : decode cX2_addressIfGiven 8 = .ok (.aload_n 1, 1) := by decide +kernel
theorem dX2_addressIfGiven_9 : decode cX2_addressIfGiven 9 = .ok (.getfield 90, 3) := by decide +kernel
theorem dX2_addressIfGiven_12 : decode cX2_addressIfGiven 12 = .ok (.iload_n 2, 1) := by decide +kernel
theorem dX2_addressIfGiven_13 : decode cX2_addressIfGiven 13 = .ok (.iaload, 1) := by decide +kernel
theorem dX2_addressIfGiven_14 : decode cX2_addressIfGiven 14 = .ok (.goto 4, 3) := by decide +kernel
theorem dX2_addressIfGiven_17 : decode cX2_addressIfGiven 17 = .ok (.iconst (-1), 1) := by decide +kernel
theorem dX2_addressIfGiven_18 : decode cX2_addressIfGiven 18 = .ok (.istore 4, 2) := by decide +kernel
theorem dX2_addressIfGiven_20 : decode cX2_addressIfGiven 20 = .ok (.aload_n 0, 1) := by decide +kernel
theorem dX2_addressIfGiven_21 : decode cX2_addressIfGiven 21 = .ok (.aload_n 1, 1) := by decide +kernel
theorem dX2_addressIfGiven_22 : decode cX2_addressIfGiven 22 = .ok (.iload 4, 2) := by decide +kernel
theorem dX2_addressIfGiven_24 : decode cX2_addressIfGiven 24 = .ok (.iload_n 3, 1) := by decide +kernel
theorem dX2_addressIfGiven_25 : decode cX2_addressIfGiven 25 = .ok (.invokevirtual 93, 3) := by decide +kernel
theorem dX2_addressIfGiven_28 : decode cX2_addressIfGiven 28 = .ok (.ifCond .ne 14, 3) := by decide +kernel
theorem dX2_addressIfGiven_31 : decode cX2_addressIfGiven 31 = .ok (.aload_n 0, 1) := by decide +kernel
theorem dX2_addressIfGiven_32 : decode cX2_addressIfGiven 32 = .ok (.getfield 18, 3) := by decide +kernel
theorem dX2_addressIfGiven_35 : decode cX2_addressIfGiven 35 = .ok (.iload_n 2, 1) := by decide +kernel
theorem dX2_addressIfGiven_36 : decode cX2_addressIfGiven 36 = .ok (.invokevirtual 42, 3) := by decide +kernel
theorem dX2_addressIfGiven_39 : decode cX2_addressIfGiven 39 = .ok (.ifCond .ne 5, 3) := by decide +kernel
theorem dX2_addressIfGiven_42 : decode cX2_addressIfGiven 42 = .ok (.iconst (-1), 1) := by decide +kernel
theorem dX2_addressIfGiven_43 : decode cX2_addressIfGiven 43 = .ok (.ireturn, 1) := by decide +kernel
theorem dX2_addressIfGiven_44 : decode cX2_addressIfGiven 44 = .ok (.aload_n 0, 1) := by decide +kernel
theorem dX2_addressIfGiven_45 : decode cX2_addressIfGiven 45 = .ok (.aload_n 1, 1) := by decide +kernel
theorem dX2_addressIfGiven_46 : decode cX2_addressIfGiven 46 = .ok (.iload_n 2, 1) := by decide +kernel
theorem dX2_addressIfGiven_47 : decode cX2_addressIfGiven 47 = .ok (.iload_n 3, 1) := by decide +kernel
theorem dX2_addressIfGiven_48 : decode cX2_addressIfGiven 48 = .ok (.invokevirtual 97, 3) := by decide +kernel
theorem dX2_addressIfGiven_51 : decode cX2_addressIfGiven 51 = .ok (.ireturn, 1) := by decide +kernel
theorem dX2_landing_0 : decode cX2_landing 0 = .ok (.iload_n 3, 1) := by decide +kernel
theorem dX2_landing_1 : decode cX2_landing 1 = .ok (.invokestatic 64, 3) := by decide +kernel
theorem dX2_landing_4 : decode cX2_landing 4 = .ok (.ifCond .eq 12, 3) := by decide +kernel
theorem dX2_landing_7 : decode cX2_landing 7 = .ok (.aload_n 1, 1) := by decide +kernel
theorem dX2_landing_8 : decode cX2_landing 8 = .ok (.getfield 67, 3) := by decide +kernel
theorem dX2_landing_11 : decode cX2_landing 11 = .ok (.iload_n 3, 1) := by decide +kernel
theorem dX2_landing_12 : decode cX2_landing 12 = .ok (.iaload, 1) := by decide +kernel
theorem dX2_landing_13 : decode cX2_landing 13 = .ok (.goto 4, 3) := by decide +kernel
theorem dX2_landing_16 : decode cX2_landing 16 = .ok (.iconst 0, 1) := by decide +kernel
theorem dX2_landing_17 : decode cX2_landing 17 = .ok (.istore 4, 2) := by decide +kernel
theorem dX2_landing_19 : decode cX2_landing 19 = .ok (.aload_n 0, 1) := by decide +kernel
theorem dX2_landing_20 : decode cX2_landing 20 = .ok (.aload_n 1, 1) := by decide +kernel
theorem dX2_landing_21 : decode cX2_landing 21 = .ok (.iload_n 2, 1) := by decide +kernel
theorem dX2_landing_22 : decode cX2_landing 22 = .ok (.invokevirtual 100, 3) := by decide +kernel
theorem dX2_landing_25 : decode cX2_landing 25 = .ok (.istore 5, 2) := by decide +kernel
theorem dX2_landing_27 : decode cX2_landing 27 = .ok (.iconst 0, 1) := by decide +kernel
theorem dX2_landing_28 : decode cX2_landing 28 = .ok (.istore 6, 2) := by decide +kernel
theorem dX2_landing_30 : decode cX2_landing 30 = .ok (.iload 6, 2) := by decide +kernel
theorem dX2_landing_32 : decode cX2_landing 32 = .ok (.bipush 24, 2) := by decide +kernel
theorem dX2_landing_34 : decode cX2_landing 34 = .ok (.if_icmp .ge 45, 3) := by decide +kernel
theorem dX2_landing_37 : decode cX2_landing 37 = .ok (.aload_n 0, 1) := by decide +kernel
theorem dX2_landing_38 : decode cX2_landing 38 = .ok (.getfield 18, 3) := by decide +kernel
theorem dX2_landing_41 : decode cX2_landing 41 = .ok (.iload 6, 2) := by decide +kernel
theorem dX2_landing_43 : decode cX2_landing 43 = .ok (.invokevirtual 42, 3) := by decide +kernel
theorem dX2_landing_46 : decode cX2_landing 46 = .ok (.ifCond .eq 27, 3) := by decide +kernel
theorem dX2_landing_49 : decode cX2_landing 49 = .ok (.aload_n 0, 1) := by decide +kernel
theorem dX2_landing_50 : decode cX2_landing 50 = .ok (.aload_n 1, 1) := by decide +kernel
theorem dX2_landing_51 : decode cX2_landing 51 = .ok (.iload 6, 2) := by decide +kernel
theorem dX2_landing_53 : decode cX2_landing 53 = .ok (.invokevirtual 100, 3) := by decide +kernel
theorem dX2_landing_56 : decode cX2_landing 56 = .ok (.iload 5, 2) := by decide +kernel
theorem dX2_landing_58 : decode cX2_landing 58 = .ok (.if_icmp .ge 15, 3) := by decide +kernel
theorem dX2_landing_61 : decode cX2_landing 61 = .ok (.iload 4, 2) := by decide +kernel
theorem dX2_landing_63 : decode cX2_landing 63 = .ok (.aload_n 1, 1) := by decide +kernel
theorem dX2_landing_64 : decode cX2_landing 64 = .ok (.getfield 104, 3) := by decide +kernel
theorem dX2_landing_67 : decode cX2_landing 67 = .ok (.iload 6, 2) := by decide +kernel
theorem dX2_landing_69 : decode cX2_landing 69 = .ok (.iaload, 1) := by decide +kernel
theorem dX2_landing_70 : decode cX2_landing 70 = .ok (.iadd, 1) := by decide +kernel
theorem dX2_landing_71 : decode cX2_landing 71 = .ok (.istore 4, 2) := by decide +kernel
theorem dX2_landing_73 : decode cX2_landing 73 = .ok (.iinc 6 1, 3) := by decide +kernel
theorem dX2_landing_76 : decode cX2_landing 76 = .ok (.goto (-46), 3) := by decide +kernel
theorem dX2_landing_79 : decode cX2_landing 79 = .ok (.iload 4, 2) := by decide +kernel
theorem dX2_landing_81 : decode cX2_landing 81 = .ok (.ireturn, 1) := by decide +kernel
theorem dX2_rank_0 : decode cX2_rank 0 = .ok (.aload_n 1, 1) := by decide +kernel
theorem dX2_rank_1 : decode cX2_rank 1 = .ok (.getfield 50, 3) := by decide +kernel
theorem dX2_rank_4 : decode cX2_rank 4 = .ok (.iconst 1, 1) := by decide +kernel
theorem dX2_rank_5 : decode cX2_rank 5 = .ok (.iaload, 1) := by decide +kernel
theorem dX2_rank_6 : decode cX2_rank 6 = .ok (.istore_n 3, 1) := by decide +kernel
theorem dX2_rank_7 : decode cX2_rank 7 = .ok (.iload_n 3, 1) := by decide +kernel
theorem dX2_rank_8 : decode cX2_rank 8 = .ok (.iconst 1, 1) := by decide +kernel
theorem dX2_rank_9 : decode cX2_rank 9 = .ok (.if_icmp .eq 10, 3) := by decide +kernel
theorem dX2_rank_12 : decode cX2_rank 12 = .ok (.iload_n 2, 1) := by decide +kernel
theorem dX2_rank_13 : decode cX2_rank 13 = .ok (.invokestatic 107, 3) := by decide +kernel
theorem dX2_rank_16 : decode cX2_rank 16 = .ok (.ifCond .ne 5, 3) := by decide +kernel
theorem dX2_rank_19 : decode cX2_rank 19 = .ok (.iload_n 2, 1) := by decide +kernel
theorem dX2_rank_20 : decode cX2_rank 20 = .ok (.ireturn, 1) := by decide +kernel
theorem dX2_rank_21 : decode cX2_rank 21 = .ok (.iload_n 3, 1) := by decide +kernel
theorem dX2_rank_22 : decode cX2_rank 22 = .ok (.iconst 2, 1) := by decide +kernel
theorem dX2_rank_23 : decode cX2_rank 23 = .ok (.if_icmp .eq 10, 3) := by decide +kernel
theorem dX2_rank_26 : decode cX2_rank 26 = .ok (.aload_n 1, 1) := by decide +kernel
theorem dX2_rank_27 : decode cX2_rank 27 = .ok (.getfield 110, 3) := by decide +kernel
theorem dX2_rank_30 : decode cX2_rank 30 = .ok (.iload_n 2, 1) := by decide +kernel
theorem dX2_rank_31 : decode cX2_rank 31 = .ok (.iaload, 1) := by decide +kernel
theorem dX2_rank_32 : decode cX2_rank 32 = .ok (.ireturn, 1) := by decide +kernel
theorem dX2_rank_33 : decode cX2_rank 33 = .ok (.aload_n 0, 1) := by decide +kernel
theorem dX2_rank_34 : decode cX2_rank 34 = .ok (.getfield 12, 3) := by decide +kernel
theorem dX2_rank_37 : decode cX2_rank 37 = .ok (.iload_n 2, 1) := by decide +kernel
theorem dX2_rank_38 : decode cX2_rank 38 = .ok (.invokevirtual 42, 3) := by decide +kernel
theorem dX2_rank_41 : decode cX2_rank 41 = .ok (.ifCond .eq 14, 3) := by decide +kernel
theorem dX2_rank_44 : decode cX2_rank 44 = .ok (.aload_n 0, 1) := by decide +kernel
theorem dX2_rank_45 : decode cX2_rank 45 = .ok (.getfield 12, 3) := by decide +kernel
theorem dX2_rank_48 : decode cX2_rank 48 = .ok (.iload_n 2, 1) := by decide +kernel
theorem dX2_rank_49 : decode cX2_rank 49 = .ok (.invokevirtual 113, 3) := by decide +kernel
theorem dX2_rank_52 : decode cX2_rank 52 = .ok (.goto 12, 3) := by decide +kernel
theorem dX2_rank_55 : decode cX2_rank 55 = .ok (.bipush 24, 2) := by decide +kernel
theorem dX2_rank_57 : decode cX2_rank 57 = .ok (.aload_n 1, 1) := by decide +kernel
theorem dX2_rank_58 : decode cX2_rank 58 = .ok (.getfield 110, 3) := by decide +kernel
theorem dX2_rank_61 : decode cX2_rank 61 = .ok (.iload_n 2, 1) := by decide +kernel
theorem dX2_rank_62 : decode cX2_rank 62 = .ok (.iaload, 1) := by decide +kernel
theorem dX2_rank_63 : decode cX2_rank 63 = .ok (.iadd, 1) := by decide +kernel
theorem dX2_rank_64 : decode cX2_rank 64 = .ok (.ireturn, 1) := by decide +kernel
theorem dX2_carryOn_0 : decode cX2_carryOn 0 = .ok (.aload_n 0, 1) := by decide +kernel
theorem dX2_carryOn_1 : decode cX2_carryOn 1 = .ok (.aload_n 1, 1) := by decide +kernel
theorem dX2_carryOn_2 : decode cX2_carryOn 2 = .ok (.iload_n 2, 1) := by decide +kernel
theorem dX2_carryOn_3 : decode cX2_carryOn 3 = .ok (.invokevirtual 77, 3) := by decide +kernel
theorem dX2_carryOn_6 : decode cX2_carryOn 6 = .ok (.iconst 0, 1) := by decide +kernel
theorem dX2_carryOn_7 : decode cX2_carryOn 7 = .ok (.istore 4, 2) := by decide +kernel
theorem dX2_carryOn_9 : decode cX2_carryOn 9 = .ok (.iload 4, 2) := by decide +kernel
theorem dX2_carryOn_11 : decode cX2_carryOn 11 = .ok (.bipush 24, 2) := by decide +kernel
theorem dX2_carryOn_13 : decode cX2_carryOn 13 = .ok (.if_icmp .ge 40, 3) := by decide +kernel
theorem dX2_carryOn_16 : decode cX2_carryOn 16 = .ok (.aload_n 0, 1) := by decide +kernel
theorem dX2_carryOn_17 : decode cX2_carryOn 17 = .ok (.getfield 21, 3) := by decide +kernel
theorem dX2_carryOn_20 : decode cX2_carryOn 20 = .ok (.iload 4, 2) := by decide +kernel
theorem dX2_carryOn_22 : decode cX2_carryOn 22 = .ok (.aload_n 0, 1) := by decide +kernel
theorem dX2_carryOn_23 : decode cX2_carryOn 23 = .ok (.getfield 18, 3) := by decide +kernel
theorem dX2_carryOn_26 : decode cX2_carryOn 26 = .ok (.iload 4, 2) := by decide +kernel
theorem dX2_carryOn_28 : decode cX2_carryOn 28 = .ok (.invokevirtual 42, 3) := by decide +kernel
theorem dX2_carryOn_31 : decode cX2_carryOn 31 = .ok (.ifCond .eq 14, 3) := by decide +kernel
theorem dX2_carryOn_34 : decode cX2_carryOn 34 = .ok (.aload_n 0, 1) := by decide +kernel
theorem dX2_carryOn_35 : decode cX2_carryOn 35 = .ok (.aload_n 1, 1) := by decide +kernel
theorem dX2_carryOn_36 : decode cX2_carryOn 36 = .ok (.iload 4, 2) := by decide +kernel
theorem dX2_carryOn_38 : decode cX2_carryOn 38 = .ok (.iload_n 3, 1) := by decide +kernel
theorem dX2_carryOn_39 : decode cX2_carryOn 39 = .ok (.invokevirtual 97, 3) := by decide +kernel
theorem dX2_carryOn_42 : decode cX2_carryOn 42 = .ok (.goto 4, 3) := by decide +kernel
theorem dX2_carryOn_45 : decode cX2_carryOn 45 = .ok (.iconst (-1), 1) := by decide +kernel
theorem dX2_carryOn_46 : decode cX2_carryOn 46 = .ok (.iastore, 1) := by decide +kernel
theorem dX2_carryOn_47 : decode cX2_carryOn 47 = .ok (.iinc 4 1, 3) := by decide +kernel
theorem dX2_carryOn_50 : decode cX2_carryOn 50 = .ok (.goto (-41), 3) := by decide +kernel
theorem dX2_carryOn_53 : decode cX2_carryOn 53 = .ok (.iconst 0, 1) := by decide +kernel
theorem dX2_carryOn_54 : decode cX2_carryOn 54 = .ok (.istore 4, 2) := by decide +kernel
theorem dX2_carryOn_56 : decode cX2_carryOn 56 = .ok (.iload 4, 2) := by decide +kernel
theorem dX2_carryOn_58 : decode cX2_carryOn 58 = .ok (.bipush 24, 2) := by decide +kernel
theorem dX2_carryOn_60 : decode cX2_carryOn 60 = .ok (.if_icmp .ge 35, 3) := by decide +kernel
theorem dX2_carryOn_63 : decode cX2_carryOn 63 = .ok (.aload_n 0, 1) := by decide +kernel
theorem dX2_carryOn_64 : decode cX2_carryOn 64 = .ok (.getfield 18, 3) := by decide +kernel
theorem dX2_carryOn_67 : decode cX2_carryOn 67 = .ok (.iload 4, 2) := by decide +kernel
theorem dX2_carryOn_69 : decode cX2_carryOn 69 = .ok (.invokevirtual 42, 3) := by decide +kernel
theorem dX2_carryOn_72 : decode cX2_carryOn 72 = .ok (.ifCond .eq 17, 3) := by decide +kernel
theorem dX2_carryOn_75 : decode cX2_carryOn 75 = .ok (.aload_n 1, 1) := by decide +kernel
theorem dX2_carryOn_76 : decode cX2_carryOn 76 = .ok (.iload 4, 2) := by decide +kernel
theorem dX2_carryOn_78 : decode cX2_carryOn 78 = .ok (.iload_n 3, 1) := by decide +kernel
theorem dX2_carryOn_79 : decode cX2_carryOn 79 = .ok (.aload_n 0, 1) := by decide +kernel
theorem dX2_carryOn_80 : decode cX2_carryOn 80 = .ok (.getfield 21, 3) := by decide +kernel
theorem dX2_carryOn_83 : decode cX2_carryOn 83 = .ok (.iload 4, 2) := by decide +kernel
theorem dX2_carryOn_85 : decode cX2_carryOn 85 = .ok (.iaload, 1) := by decide +kernel
theorem dX2_carryOn_86 : decode cX2_carryOn 86 = .ok (.invokevirtual 117, 3) := by decide +kernel
theorem dX2_carryOn_89 : decode cX2_carryOn 89 = .ok (.iinc 4 1, 3) := by decide +kernel
theorem dX2_carryOn_92 : decode cX2_carryOn 92 = .ok (.goto (-36), 3) := by decide +kernel
theorem dX2_carryOn_95 : decode cX2_carryOn 95 = .ok (.aload_n 0, 1) := by decide +kernel
theorem dX2_carryOn_96 : decode cX2_carryOn 96 = .ok (.getfield 18, 3) := by decide +kernel
theorem dX2_carryOn_99 : decode cX2_carryOn 99 = .ok (.getfield 121, 3) := by decide +kernel
theorem dX2_carryOn_102 : decode cX2_carryOn 102 = .ok (.ireturn, 1) := by decide +kernel
theorem dX3_init_0 : decode cX3_init 0 = .ok (.aload_n 0, 1) := by decide +kernel
theorem dX3_init_1 : decode cX3_init 1 = .ok (.invokespecial 3, 3) := by decide +kernel
theorem dX3_init_4 : decode cX3_init 4 = .ok (.aload_n 0, 1) := by decide +kernel
theorem dX3_init_5 : decode cX3_init 5 = .ok (.bipush 24, 2) := by decide +kernel
theorem dX3_init_7 : decode cX3_init 7 = .ok (.newarray .boolean, 2) := by decide +kernel
theorem dX3_init_9 : decode cX3_init 9 = .ok (.putfield 9, 3) := by decide +kernel
theorem dX3_init_12 : decode cX3_init 12 = .ok (.aload_n 0, 1) := by decide +kernel
theorem dX3_init_13 : decode cX3_init 13 = .ok (.bipush 24, 2) := by decide +kernel
theorem dX3_init_15 : decode cX3_init 15 = .ok (.newarray .int, 2) := by decide +kernel
theorem dX3_init_17 : decode cX3_init 17 = .ok (.putfield 15, 3) := by decide +kernel
theorem dX3_init_20 : decode cX3_init 20 = .ok (.aload_n 0, 1) := by decide +kernel
theorem dX3_init_21 : decode cX3_init 21 = .ok (.bipush 24, 2) := by decide +kernel
theorem dX3_init_23 : decode cX3_init 23 = .ok (.newarray .int, 2) := by decide +kernel
theorem dX3_init_25 : decode cX3_init 25 = .ok (.putfield 19, 3) := by decide +kernel
theorem dX3_init_28 : decode cX3_init 28 = .ok (.aload_n 0, 1) := by decide +kernel
theorem dX3_init_29 : decode cX3_init 29 = .ok (.bipush 24, 2) := by decide +kernel
theorem dX3_init_31 : decode cX3_init 31 = .ok (.newarray .int, 2) := by decide +kernel
theorem dX3_init_33 : decode cX3_init 33 = .ok (.putfield 22, 3) := by decide +kernel
theorem dX3_init_36 : decode cX3_init 36 = .ok (.aload_n 0, 1) := by decide +kernel
theorem dX3_init_37 : decode cX3_init 37 = .ok (.bipush 48, 2) := by decide +kernel
theorem dX3_init_39 : decode cX3_init 39 = .ok (.newarray .int, 2) := by decide +kernel
theorem dX3_init_41 : decode cX3_init 41 = .ok (.putfield 25, 3) := by decide +kernel
theorem dX3_init_44 : decode cX3_init 44 = .ok (.aload_n 0, 1) := by decide +kernel
theorem dX3_init_45 : decode cX3_init 45 = .ok (.bipush 24, 2) := by decide +kernel
theorem dX3_init_47 : decode cX3_init 47 = .ok (.newarray .boolean, 2) := by decide +kernel
theorem dX3_init_49 : decode cX3_init 49 = .ok (.putfield 28, 3) := by decide +kernel
theorem dX3_init_52 : decode cX3_init 52 = .ok (.aload_n 0, 1) := by decide +kernel
theorem dX3_init_53 : decode cX3_init 53 = .ok (.bipush 24, 2) := by decide +kernel
theorem dX3_init_55 : decode cX3_init 55 = .ok (.newarray .boolean, 2) := by decide +kernel
theorem dX3_init_57 : decode cX3_init 57 = .ok (.putfield 31, 3) := by decide +kernel
theorem dX3_init_60 : decode cX3_init 60 = .ok (.aload_n 0, 1) := by decide +kernel
theorem dX3_init_61 : decode cX3_init 61 = .ok (.bipush 24, 2) := by decide +kernel
theorem dX3_init_63 : decode cX3_init 63 = .ok (.newarray .int, 2) := by decide +kernel
theorem dX3_init_65 : decode cX3_init 65 = .ok (.putfield 34, 3) := by decide +kernel
theorem dX3_init_68 : decode cX3_init 68 = .ok (.aload_n 0, 1) := by decide +kernel
theorem dX3_init_69 : decode cX3_init 69 = .ok (.bipush 6, 2) := by decide +kernel
theorem dX3_init_71 : decode cX3_init 71 = .ok (.newarray .boolean, 2) := by decide +kernel
theorem dX3_init_73 : decode cX3_init 73 = .ok (.putfield 37, 3) := by decide +kernel
theorem dX3_init_76 : decode cX3_init 76 = .ok (.aload_n 0, 1) := by decide +kernel
theorem dX3_init_77 : decode cX3_init 77 = .ok (.bipush 6, 2) := by decide +kernel
theorem dX3_init_79 : decode cX3_init 79 = .ok (.newarray .int, 2) := by decide +kernel
theorem dX3_init_81 : decode cX3_init 81 = .ok (.putfield 40, 3) := by decide +kernel
theorem dX3_init_84 : decode cX3_init 84 = .ok (.aload_n 0, 1) := by decide +kernel
theorem dX3_init_85 : decode cX3_init 85 = .ok (.bipush 6, 2) := by decide +kernel
theorem dX3_init_87 : decode cX3_init 87 = .ok (.newarray .int, 2) := by decide +kernel
theorem dX3_init_89 : decode cX3_init 89 = .ok (.putfield 43, 3) := by decide +kernel
theorem dX3_init_92 : decode cX3_init 92 = .ok (.aload_n 0, 1) := by decide +kernel
theorem dX3_init_93 : decode cX3_init 93 = .ok (.iconst 2, 1) := by decide +kernel
theorem dX3_init_94 : decode cX3_init 94 = .ok (.newarray .int, 2) := by decide +kernel
theorem dX3_init_96 : decode cX3_init 96 = .ok (.putfield 46, 3) := by decide +kernel
theorem dX3_init_99 : decode cX3_init 99 = .ok (.iconst 0, 1) := by decide +kernel
theorem dX3_init_100 : decode cX3_init 100 = .ok (.istore_n 1, 1) := by decide +kernel
theorem dX3_init_101 : decode cX3_init 101 = .ok (.iload_n 1, 1) := by decide +kernel
theorem dX3_init_102 : decode cX3_init 102 = .ok (.bipush 48, 2) := by decide +kernel
theorem dX3_init_104 : decode cX3_init 104 = .ok (.if_icmp .ge 16, 3) := by decide +kernel
theorem dX3_init_107 : decode cX3_init 107 = .ok (.aload_n 0, 1) := by decide +kernel
theorem dX3_init_108 : decode cX3_init 108 = .ok (.getfield 25, 3) := by decide +kernel
theorem dX3_init_111 : decode cX3_init 111 = .ok (.iload_n 1, 1) := by decide +kernel
theorem dX3_init_112 : decode cX3_init 112 = .ok (.iconst (-1), 1) := by decide +kernel
theorem dX3_init_113 : decode cX3_init 113 = .ok (.iastore, 1) := by decide +kernel
theorem dX3_init_114 : decode cX3_init 114 = .ok (.iinc 1 1, 3) := by decide +kernel
theorem dX3_init_117 : decode cX3_init 117 = .ok (.goto (-16), 3) := by decide +kernel
theorem dX3_init_120 : decode cX3_init 120 = .ok (.return_, 1) := by decide +kernel
theorem dX3_copyFrom_0 : decode cX3_copyFrom 0 = .ok (.iconst 0, 1) := by decide +kernel
theorem dX3_copyFrom_1 : decode cX3_copyFrom 1 = .ok (.istore_n 2, 1) := by decide +kernel
theorem dX3_copyFrom_2 : decode cX3_copyFrom 2 = .ok (.iload_n 2, 1) := by decide +kernel
theorem dX3_copyFrom_3 : decode cX3_copyFrom 3 = .ok (.bipush 24, 2) := by decide +kernel
theorem dX3_copyFrom_5 : decode cX3_copyFrom 5 = .ok (.if_icmp .ge 45, 3) := by decide +kernel
theorem dX3_copyFrom_8 : decode cX3_copyFrom 8 = .ok (.aload_n 0, 1) := by decide +kernel
theorem dX3_copyFrom_9 : decode cX3_copyFrom 9 = .ok (.getfield 9, 3) := by decide +kernel
theorem dX3_copyFrom_12 : decode cX3_copyFrom 12 = .ok (.iload_n 2, 1) := by decide +kernel
theorem dX3_copyFrom_13 : decode cX3_copyFrom 13 = .ok (.aload_n 1, 1) := by decide +kernel
theorem dX3_copyFrom_14 : decode cX3_copyFrom 14 = .ok (.getfield 9, 3) := by decide +kernel
theorem dX3_copyFrom_17 : decode cX3_copyFrom 17 = .ok (.iload_n 2, 1) := by decide +kernel
theorem dX3_copyFrom_18 : decode cX3_copyFrom 18 = .ok (.baload, 1) := by decide +kernel
theorem dX3_copyFrom_19 : decode cX3_copyFrom 19 = .ok (.bastore, 1) := by decide +kernel
theorem dX3_copyFrom_20 : decode cX3_copyFrom 20 = .ok (.aload_n 0, 1) := by decide +kernel
theorem dX3_copyFrom_21 : decode cX3_copyFrom 21 = .ok (.getfield 28, 3) := by decide +kernel
theorem dX3_copyFrom_24 : decode cX3_copyFrom 24 = .ok (.iload_n 2, 1) := by decide +kernel
theorem dX3_copyFrom_25 : decode cX3_copyFrom 25 = .ok (.aload_n 1, 1) := by decide +kernel
theorem dX3_copyFrom_26 : decode cX3_copyFrom 26 = .ok (.getfield 28, 3) := by decide +kernel
theorem dX3_copyFrom_29 : decode cX3_copyFrom 29 = .ok (.iload_n 2, 1) := by decide +kernel
theorem dX3_copyFrom_30 : decode cX3_copyFrom 30 = .ok (.baload, 1) := by decide +kernel
theorem dX3_copyFrom_31 : decode cX3_copyFrom 31 = .ok (.bastore, 1) := by decide +kernel
theorem dX3_copyFrom_32 : decode cX3_copyFrom 32 = .ok (.aload_n 0, 1) := by decide +kernel
theorem dX3_copyFrom_33 : decode cX3_copyFrom 33 = .ok (.getfield 31, 3) := by decide +kernel
theorem dX3_copyFrom_36 : decode cX3_copyFrom 36 = .ok (.iload_n 2, 1) := by decide +kernel
theorem dX3_copyFrom_37 : decode cX3_copyFrom 37 = .ok (.aload_n 1, 1) := by decide +kernel
theorem dX3_copyFrom_38 : decode cX3_copyFrom 38 = .ok (.getfield 31, 3) := by decide +kernel
theorem dX3_copyFrom_41 : decode cX3_copyFrom 41 = .ok (.iload_n 2, 1) := by decide +kernel
theorem dX3_copyFrom_42 : decode cX3_copyFrom 42 = .ok (.baload, 1) := by decide +kernel
theorem dX3_copyFrom_43 : decode cX3_copyFrom 43 = .ok (.bastore, 1) := by decide +kernel
theorem dX3_copyFrom_44 : decode cX3_copyFrom 44 = .ok (.iinc 2 1, 3) := by decide +kernel
theorem dX3_copyFrom_47 : decode cX3_copyFrom 47 = .ok (.goto (-45), 3) := by decide +kernel
theorem dX3_copyFrom_50 : decode cX3_copyFrom 50 = .ok (.iconst 0, 1) := by decide +kernel
theorem dX3_copyFrom_51 : decode cX3_copyFrom 51 = .ok (.istore_n 2, 1) := by decide +kernel
theorem dX3_copyFrom_52 : decode cX3_copyFrom 52 = .ok (.iload_n 2, 1) := by decide +kernel
theorem dX3_copyFrom_53 : decode cX3_copyFrom 53 = .ok (.bipush 6, 2) := by decide +kernel
theorem dX3_copyFrom_55 : decode cX3_copyFrom 55 = .ok (.if_icmp .ge 21, 3) := by decide +kernel
theorem dX3_copyFrom_58 : decode cX3_copyFrom 58 = .ok (.aload_n 0, 1) := by decide +kernel
theorem dX3_copyFrom_59 : decode cX3_copyFrom 59 = .ok (.getfield 37, 3) := by decide +kernel
theorem dX3_copyFrom_62 : decode cX3_copyFrom 62 = .ok (.iload_n 2, 1) := by decide +kernel
theorem dX3_copyFrom_63 : decode cX3_copyFrom 63 = .ok (.aload_n 1, 1) := by decide +kernel
theorem dX3_copyFrom_64 : decode cX3_copyFrom 64 = .ok (.getfield 37, 3) := by decide +kernel
theorem dX3_copyFrom_67 : decode cX3_copyFrom 67 = .ok (.iload_n 2, 1) := by decide +kernel
theorem dX3_copyFrom_68 : decode cX3_copyFrom 68 = .ok (.baload, 1) := by decide +kernel
theorem dX3_copyFrom_69 : decode cX3_copyFrom 69 = .ok (.bastore, 1) := by decide +kernel
theorem dX3_copyFrom_70 : decode cX3_copyFrom 70 = .ok (.iinc 2 1, 3) := by decide +kernel
theorem dX3_copyFrom_73 : decode cX3_copyFrom 73 = .ok (.goto (-21), 3) := by decide +kernel
theorem dX3_copyFrom_76 : decode cX3_copyFrom 76 = .ok (.aload_n 1, 1) := by decide +kernel
theorem dX3_copyFrom_77 : decode cX3_copyFrom 77 = .ok (.getfield 15, 3) := by decide +kernel
theorem dX3_copyFrom_80 : decode cX3_copyFrom 80 = .ok (.iconst 0, 1) := by decide +kernel
theorem dX3_copyFrom_81 : decode cX3_copyFrom 81 = .ok (.aload_n 0, 1) := by decide +kernel
theorem dX3_copyFrom_82 : decode cX3_copyFrom 82 = .ok (.getfield 15, 3) := by decide +kernel
theorem dX3_copyFrom_85 : decode cX3_copyFrom 85 = .ok (.iconst 0, 1) := by decide +kernel
theorem dX3_copyFrom_86 : decode cX3_copyFrom 86 = .ok (.bipush 24, 2) := by decide +kernel
theorem dX3_copyFrom_88 : decode cX3_copyFrom 88 = .ok (.invokestatic 49, 3) := by decide +kernel
theorem dX3_copyFrom_91 : decode cX3_copyFrom 91 = .ok (.aload_n 1, 1) := by decide +kernel
theorem dX3_copyFrom_92 : decode cX3_copyFrom 92 = .ok (.getfield 19, 3) := by decide +kernel
theorem dX3_copyFrom_95 : decode cX3_copyFrom 95 = .ok (.iconst 0, 1) := by decide +kernel
theorem dX3_copyFrom_96 : decode cX3_copyFrom 96 = .ok (.aload_n 0, 1) := by decide +kernel
theorem dX3_copyFrom_97 : decode cX3_copyFrom 97 = .ok (.getfield 19, 3) := by decide +kernel
theorem dX3_copyFrom_100 : decode cX3_copyFrom 100 = .ok (.iconst 0, 1) := by decide +kernel
theorem dX3_copyFrom_101 : decode cX3_copyFrom 101 = .ok (.bipush 24, 2) := by decide +kernel
theorem dX3_copyFrom_103 : decode cX3_copyFrom 103 = .ok (.invokestatic 49, 3) := by decide +kernel
theorem dX3_copyFrom_106 : decode cX3_copyFrom 106 = .ok (.aload_n 1, 1) := by decide +kernel
theorem dX3_copyFrom_107 : decode cX3_copyFrom 107 = .ok (.getfield 22, 3) := by decide +kernel
theorem dX3_copyFrom_110 : decode cX3_copyFrom 110 = .ok (.iconst 0, 1) := by decide +kernel
theorem dX3_copyFrom_111 : decode cX3_copyFrom 111 = .ok (.aload_n 0, 1) := by decide +kernel
theorem dX3_copyFrom_112 : decode cX3_copyFrom 112 = .ok (.getfield 22, 3) := by decide +kernel
theorem dX3_copyFrom_115 : decode cX3_copyFrom 115 = .ok (.iconst 0, 1) := by decide +kernel
theorem dX3_copyFrom_116 : decode cX3_copyFrom 116 = .ok (.bipush 24, 2) := by decide +kernel
theorem dX3_copyFrom_118 : decode cX3_copyFrom 118 = .ok (.invokestatic 49, 3) := by decide +kernel
theorem dX3_copyFrom_121 : decode cX3_copyFrom 121 = .ok (.aload_n 1, 1) := by decide +kernel
theorem dX3_copyFrom_122 : decode cX3_copyFrom 122 = .ok (.getfield 25, 3) := by decide +kernel
theorem dX3_copyFrom_125 : decode cX3_copyFrom 125 = .ok (.iconst 0, 1) := by decide +kernel
theorem dX3_copyFrom_126 : decode cX3_copyFrom 126 = .ok (.aload_n 0, 1) := by decide +kernel
theorem dX3_copyFrom_127 : decode cX3_copyFrom 127 = .ok (.getfield 25, 3) := by decide +kernel
theorem dX3_copyFrom_130 : decode cX3_copyFrom 130 = .ok (.iconst 0, 1) := by decide +kernel
theorem dX3_copyFrom_131 : decode cX3_copyFrom 131 = .ok (.bipush 48, 2) := by decide +kernel
theorem dX3_copyFrom_133 : decode cX3_copyFrom 133 = .ok (.invokestatic 49, 3) := by decide +kernel
theorem dX3_copyFrom_136 : decode cX3_copyFrom 136 = .ok (.aload_n 1, 1) := by decide +kernel
theorem dX3_copyFrom_137 : decode cX3_copyFrom 137 = .ok (.getfield 34, 3) := by decide +kernel
theorem dX3_copyFrom_140 : decode cX3_copyFrom 140 = .ok (.iconst 0, 1) := by decide +kernel
theorem dX3_copyFrom_141 : decode cX3_copyFrom 141 = .ok (.aload_n 0, 1) := by decide +kernel
theorem dX3_copyFrom_142 : decode cX3_copyFrom 142 = .ok (.getfield 34, 3) := by decide +kernel
theorem dX3_copyFrom_145 : decode cX3_copyFrom 145 = .ok (.iconst 0, 1) := by decide +kernel
theorem dX3_copyFrom_146 : decode cX3_copyFrom 146 = .ok (.bipush 24, 2) := by decide +kernel
theorem dX3_copyFrom_148 : decode cX3_copyFrom 148 = .ok (.invokestatic 49, 3) := by decide +kernel
theorem dX3_copyFrom_151 : decode cX3_copyFrom 151 = .ok (.aload_n 1, 1) := by decide +kernel
theorem dX3_copyFrom_152 : decode cX3_copyFrom 152 = .ok (.getfield 40, 3) := by decide +kernel
theorem dX3_copyFrom_155 : decode cX3_copyFrom 155 = .ok (.iconst 0, 1) := by decide +kernel
theorem dX3_copyFrom_156 : decode cX3_copyFrom 156 = .ok (.aload_n 0, 1) := by decide +kernel
theorem dX3_copyFrom_157 : decode cX3_copyFrom 157 = .ok (.getfield 40, 3) := by decide +kernel
theorem dX3_copyFrom_160 : decode cX3_copyFrom 160 = .ok (.iconst 0, 1) := by decide +kernel
theorem dX3_copyFrom_161 : decode cX3_copyFrom 161 = .ok (.bipush 6, 2) := by decide +kernel
theorem dX3_copyFrom_163 : decode cX3_copyFrom 163 = .ok (.invokestatic 49, 3) := by decide +kernel
theorem dX3_copyFrom_166 : decode cX3_copyFrom 166 = .ok (.aload_n 1, 1) := by decide +kernel
theorem dX3_copyFrom_167 : decode cX3_copyFrom 167 = .ok (.getfield 43, 3) := by decide +kernel
theorem dX3_copyFrom_170 : decode cX3_copyFrom 170 = .ok (.iconst 0, 1) := by decide +kernel
theorem dX3_copyFrom_171 : decode cX3_copyFrom 171 = .ok (.aload_n 0, 1) := by decide +kernel
theorem dX3_copyFrom_172 : decode cX3_copyFrom 172 = .ok (.getfield 43, 3) := by decide +kernel
theorem dX3_copyFrom_175 : decode cX3_copyFrom 175 = .ok (.iconst 0, 1) := by decide +kernel
theorem dX3_copyFrom_176 : decode cX3_copyFrom 176 = .ok (.bipush 6, 2) := by decide +kernel
theorem dX3_copyFrom_178 : decode cX3_copyFrom 178 = .ok (.invokestatic 49, 3) := by decide +kernel
theorem dX3_copyFrom_181 : decode cX3_copyFrom 181 = .ok (.aload_n 1, 1) := by decide +kernel
theorem dX3_copyFrom_182 : decode cX3_copyFrom 182 = .ok (.getfield 46, 3) := by decide +kernel
theorem dX3_copyFrom_185 : decode cX3_copyFrom 185 = .ok (.iconst 0, 1) := by decide +kernel
theorem dX3_copyFrom_186 : decode cX3_copyFrom 186 = .ok (.aload_n 0, 1) := by decide +kernel
theorem dX3_copyFrom_187 : decode cX3_copyFrom 187 = .ok (.getfield 46, 3) := by decide +kernel
theorem dX3_copyFrom_190 : decode cX3_copyFrom 190 = .ok (.iconst 0, 1) := by decide +kernel
theorem dX3_copyFrom_191 : decode cX3_copyFrom 191 = .ok (.iconst 2, 1) := by decide +kernel
theorem dX3_copyFrom_192 : decode cX3_copyFrom 192 = .ok (.invokestatic 49, 3) := by decide +kernel
theorem dX3_copyFrom_195 : decode cX3_copyFrom 195 = .ok (.aload_n 0, 1) := by decide +kernel
theorem dX3_copyFrom_196 : decode cX3_copyFrom 196 = .ok (.aload_n 1, 1) := by decide +kernel
theorem dX3_copyFrom_197 : decode cX3_copyFrom 197 = .ok (.getfield 55, 3) := by decide +kernel
theorem dX3_copyFrom_200 : decode cX3_copyFrom 200 = .ok (.putfield 55, 3) := by decide +kernel
theorem dX3_copyFrom_203 : decode cX3_copyFrom 203 = .ok (.aload_n 0, 1) := by decide +kernel
theorem dX3_copyFrom_204 : decode cX3_copyFrom 204 = .ok (.aload_n 1, 1) := by decide +kernel
theorem dX3_copyFrom_205 : decode cX3_copyFrom 205 = .ok (.getfield 59, 3) := by decide +kernel
theorem dX3_copyFrom_208 : decode cX3_copyFrom 208 = .ok (.putfield 59, 3) := by decide +kernel
theorem dX3_copyFrom_211 : decode cX3_copyFrom 211 = .ok (.aload_n 0, 1) := by decide +kernel
theorem dX3_copyFrom_212 : decode cX3_copyFrom 212 = .ok (.aload_n 1, 1) := by decide +kernel
theorem dX3_copyFrom_213 : decode cX3_copyFrom 213 = .ok (.getfield 62, 3) := by decide +kernel
theorem dX3_copyFrom_216 : decode cX3_copyFrom 216 = .ok (.putfield 62, 3) := by decide +kernel
theorem dX3_copyFrom_219 : decode cX3_copyFrom 219 = .ok (.aload_n 0, 1) := by decide +kernel
theorem dX3_copyFrom_220 : decode cX3_copyFrom 220 = .ok (.aload_n 1, 1) := by decide +kernel
theorem dX3_copyFrom_221 : decode cX3_copyFrom 221 = .ok (.getfield 65, 3) := by decide +kernel
theorem dX3_copyFrom_224 : decode cX3_copyFrom 224 = .ok (.putfield 65, 3) := by decide +kernel
theorem dX3_copyFrom_227 : decode cX3_copyFrom 227 = .ok (.return_, 1) := by decide +kernel
theorem dX3_has_0 : decode cX3_has 0 = .ok (.iload_n 1, 1) := by decide +kernel
theorem dX3_has_1 : decode cX3_has 1 = .ok (.ifCond .lt 22, 3) := by decide +kernel
theorem dX3_has_4 : decode cX3_has 4 = .ok (.iload_n 1, 1) := by decide +kernel
theorem dX3_has_5 : decode cX3_has 5 = .ok (.bipush 24, 2) := by decide +kernel
theorem dX3_has_7 : decode cX3_has 7 = .ok (.if_icmp .ge 16, 3) := by decide +kernel
theorem dX3_has_10 : decode cX3_has 10 = .ok (.aload_n 0, 1) := by decide +kernel
theorem dX3_has_11 : decode cX3_has 11 = .ok (.getfield 9, 3) := by decide +kernel
theorem dX3_has_14 : decode cX3_has 14 = .ok (.iload_n 1, 1) := by decide +kernel
theorem dX3_has_15 : decode cX3_has 15 = .ok (.baload, 1) := by decide +kernel
theorem dX3_has_16 : decode cX3_has 16 = .ok (.ifCond .eq 7, 3) := by decide +kernel
theorem dX3_has_19 : decode cX3_has 19 = .ok (.iconst 1, 1) := by decide +kernel
theorem dX3_has_20 : decode cX3_has 20 = .ok (.goto 4, 3) := by decide +kernel
theorem dX3_has_23 : decode cX3_has 23 = .ok (.iconst 0, 1) := by decide +kernel
theorem dX3_has_24 : decode cX3_has 24 = .ok (.ireturn, 1) := by decide +kernel
theorem dX3_isIn_0 : decode cX3_isIn 0 = .ok (.iload_n 1, 1) := by decide +kernel
theorem dX3_isIn_1 : decode cX3_isIn 1 = .ok (.ifCond .lt 32, 3) := by decide +kernel
theorem dX3_isIn_4 : decode cX3_isIn 4 = .ok (.iload_n 1, 1) := by decide +kernel
theorem dX3_isIn_5 : decode cX3_isIn 5 = .ok (.bipush 24, 2) := by decide +kernel
theorem dX3_isIn_7 : decode cX3_isIn 7 = .ok (.if_icmp .ge 26, 3) := by decide +kernel
theorem dX3_isIn_10 : decode cX3_isIn 10 = .ok (.aload_n 0, 1) := by decide +kernel
theorem dX3_isIn_11 : decode cX3_isIn 11 = .ok (.getfield 9, 3) := by decide +kernel
theorem dX3_isIn_14 : decode cX3_isIn 14 = .ok (.iload_n 1, 1) := by decide +kernel
theorem dX3_isIn_15 : decode cX3_isIn 15 = .ok (.baload, 1) := by decide +kernel
theorem dX3_isIn_16 : decode cX3_isIn 16 = .ok (.ifCond .eq 17, 3) := by decide +kernel
theorem dX3_isIn_19 : decode cX3_isIn 19 = .ok (.aload_n 0, 1) := by decide +kernel
theorem dX3_isIn_20 : decode cX3_isIn 20 = .ok (.getfield 15, 3) := by decide +kernel
theorem dX3_isIn_23 : decode cX3_isIn 23 = .ok (.iload_n 1, 1) := by decide +kernel
theorem dX3_isIn_24 : decode cX3_isIn 24 = .ok (.iaload, 1) := by decide +kernel
theorem dX3_isIn_25 : decode cX3_isIn 25 = .ok (.iload_n 2, 1) := by decide +kernel
theorem dX3_isIn_26 : decode cX3_isIn 26 = .ok (.if_icmp .ne 7, 3) := by decide +kernel
theorem dX3_isIn_29 : decode cX3_isIn 29 = .ok (.iconst 1, 1) := by decide +kernel
theorem dX3_isIn_30 : decode cX3_isIn 30 = .ok (.goto 4, 3) := by decide +kernel
theorem dX3_isIn_33 : decode cX3_isIn 33 = .ok (.iconst 0, 1) := by decide +kernel
theorem dX3_isIn_34 : decode cX3_isIn 34 = .ok (.ireturn, 1) := by decide +kernel
theorem dX3_isOpen_0 : decode cX3_isOpen 0 = .ok (.iload_n 1, 1) := by decide +kernel
theorem dX3_isOpen_1 : decode cX3_isOpen 1 = .ok (.invokestatic 68, 3) := by decide +kernel
theorem dX3_isOpen_4 : decode cX3_isOpen 4 = .ok (.ifCond .eq 16, 3) := by decide +kernel
theorem dX3_isOpen_7 : decode cX3_isOpen 7 = .ok (.aload_n 0, 1) := by decide +kernel
theorem dX3_isOpen_8 : decode cX3_isOpen 8 = .ok (.getfield 37, 3) := by decide +kernel
theorem dX3_isOpen_11 : decode cX3_isOpen 11 = .ok (.iload_n 1, 1) := by decide +kernel
theorem dX3_isOpen_12 : decode cX3_isOpen 12 = .ok (.baload, 1) := by decide +kernel
theorem dX3_isOpen_13 : decode cX3_isOpen 13 = .ok (.ifCond .eq 7, 3) := by decide +kernel
theorem dX3_isOpen_16 : decode cX3_isOpen 16 = .ok (.iconst 1, 1) := by decide +kernel
theorem dX3_isOpen_17 : decode cX3_isOpen 17 = .ok (.goto 4, 3) := by decide +kernel
theorem dX3_isOpen_20 : decode cX3_isOpen 20 = .ok (.iconst 0, 1) := by decide +kernel
theorem dX3_isOpen_21 : decode cX3_isOpen 21 = .ok (.ireturn, 1) := by decide +kernel
theorem dX3_hasRoom_0 : decode cX3_hasRoom 0 = .ok (.iload_n 1, 1) := by decide +kernel
theorem dX3_hasRoom_1 : decode cX3_hasRoom 1 = .ok (.invokestatic 68, 3) := by decide +kernel
theorem dX3_hasRoom_4 : decode cX3_hasRoom 4 = .ok (.ifCond .eq 20, 3) := by decide +kernel
theorem dX3_hasRoom_7 : decode cX3_hasRoom 7 = .ok (.iload_n 2, 1) := by decide +kernel
theorem dX3_hasRoom_8 : decode cX3_hasRoom 8 = .ok (.bipush 64, 2) := by decide +kernel
theorem dX3_hasRoom_10 : decode cX3_hasRoom 10 = .ok (.aload_n 0, 1) := by decide +kernel
theorem dX3_hasRoom_11 : decode cX3_hasRoom 11 = .ok (.getfield 40, 3) := by decide +kernel
theorem dX3_hasRoom_14 : decode cX3_hasRoom 14 = .ok (.iload_n 1, 1) := by decide +kernel
theorem dX3_hasRoom_15 : decode cX3_hasRoom 15 = .ok (.iaload, 1) := by decide +kernel
theorem dX3_hasRoom_16 : decode cX3_hasRoom 16 = .ok (.isub, 1) := by decide +kernel
theorem dX3_hasRoom_17 : decode cX3_hasRoom 17 = .ok (.if_icmp .gt 7, 3) := by decide +kernel
theorem dX3_hasRoom_20 : decode cX3_hasRoom 20 = .ok (.iconst 1, 1) := by decide +kernel
theorem dX3_hasRoom_21 : decode cX3_hasRoom 21 = .ok (.goto 4, 3) := by decide +kernel
theorem dX3_hasRoom_24 : decode cX3_hasRoom 24 = .ok (.iconst 0, 1) := by decide +kernel
theorem dX3_hasRoom_25 : decode cX3_hasRoom 25 = .ok (.ireturn, 1) := by decide +kernel
theorem dX3_reference_0 : decode cX3_reference 0 = .ok (.iload_n 1, 1) := by decide +kernel
theorem dX3_reference_1 : decode cX3_reference 1 = .ok (.ifCond .lt 18, 3) := by decide +kernel
theorem dX3_reference_4 : decode cX3_reference 4 = .ok (.iload_n 1, 1) := by decide +kernel
theorem dX3_reference_5 : decode cX3_reference 5 = .ok (.bipush 24, 2) := by decide +kernel
theorem dX3_reference_7 : decode cX3_reference 7 = .ok (.if_icmp .ge 12, 3) := by decide +kernel
theorem dX3_reference_10 : decode cX3_reference 10 = .ok (.iload_n 2, 1) := by decide +kernel
theorem dX3_reference_11 : decode cX3_reference 11 = .ok (.ifCond .lt 8, 3) := by decide +kernel
theorem dX3_reference_14 : decode cX3_reference 14 = .ok (.iload_n 2, 1) := by decide +kernel
theorem dX3_reference_15 : decode cX3_reference 15 = .ok (.iconst 2, 1) := by decide +kernel
theorem dX3_reference_16 : decode cX3_reference 16 = .ok (.if_icmp .lt 5, 3) := by decide +kernel
theorem dX3_reference_19 : decode cX3_reference 19 = .ok (.iconst (-1), 1) := by decide +kernel
theorem dX3_reference_20 : decode cX3_reference 20 = .ok (.ireturn, 1) := by decide +kernel
theorem dX3_reference_21 : decode cX3_reference 21 = .ok (.aload_n 0, 1) := by decide +kernel
theorem dX3_reference_22 : decode cX3_reference 22 = .ok (.getfield 25, 3) := by decide +kernel
theorem dX3_reference_25 : decode cX3_reference 25 = .ok (.iload_n 1, 1) := by decide +kernel
theorem dX3_reference_26 : decode cX3_reference 26 = .ok (.iconst 2, 1) := by decide +kernel
theorem dX3_reference_27 : decode cX3_reference 27 = .ok (.imul, 1) := by decide +kernel
theorem dX3_reference_28 : decode cX3_reference 28 = .ok (.iload_n 2, 1) := by decide +kernel
theorem dX3_reference_29 : decode cX3_reference 29 = .ok (.iadd, 1) := by decide +kernel
theorem dX3_reference_30 : decode cX3_reference 30 = .ok (.iaload, 1) := by decide +kernel
theorem dX3_reference_31 : decode cX3_reference 31 = .ok (.ireturn, 1) := by decide +kernel
theorem dX3_refer_0 : decode cX3_refer 0 = .ok (.iload_n 1, 1) := by decide +kernel
theorem dX3_refer_1 : decode cX3_refer 1 = .ok (.invokestatic 72, 3) := by decide +kernel
theorem dX3_refer_4 : decode cX3_refer 4 = .ok (.ifCond .eq 23, 3) := by decide +kernel
theorem dX3_refer_7 : decode cX3_refer 7 = .ok (.iload_n 2, 1) := by decide +kernel
theorem dX3_refer_8 : decode cX3_refer 8 = .ok (.ifCond .lt 19, 3) := by decide +kernel
theorem dX3_refer_11 : decode cX3_refer 11 = .ok (.iload_n 2, 1) := by decide +kernel
theorem dX3_refer_12 : decode cX3_refer 12 = .ok (.iconst 2, 1) := by decide +kernel
theorem dX3_refer_13 : decode cX3_refer 13 = .ok (.if_icmp .ge 14, 3) := by decide +kernel
theorem dX3_refer_16 : decode cX3_refer 16 = .ok (.aload_n 0, 1) := by decide +kernel
theorem dX3_refer_17 : decode cX3_refer 17 = .ok (.getfield 25, 3) := by decide +kernel
theorem dX3_refer_20 : decode cX3_refer 20 = .ok (.iload_n 1, 1) := by decide +kernel
theorem dX3_refer_21 : decode cX3_refer 21 = .ok (.iconst 2, 1) := by decide +kernel
theorem dX3_refer_22 : decode cX3_refer 22 = .ok (.imul, 1) := by decide +kernel
theorem dX3_refer_23 : decode cX3_refer 23 = .ok (.iload_n 2, 1) := by decide +kernel
theorem dX3_refer_24 : decode cX3_refer 24 = .ok (.iadd, 1) := by decide +kernel
theorem dX3_refer_25 : decode cX3_refer 25 = .ok (.iload_n 3, 1) := by decide +kernel
theorem dX3_refer_26 : decode cX3_refer 26 = .ok (.iastore, 1) := by decide +kernel
theorem dX3_refer_27 : decode cX3_refer 27 = .ok (.return_, 1) := by decide +kernel
theorem dX3_lowestFreeArena_0 : decode cX3_lowestFreeArena 0 = .ok (.iconst 0, 1) := by decide +kernel
theorem dX3_lowestFreeArena_1 : decode cX3_lowestFreeArena 1 = .ok (.istore_n 1, 1) := by decide +kernel
theorem dX3_lowestFreeArena_2 : decode cX3_lowestFreeArena 2 = .ok (.iload_n 1, 1) := by decide +kernel
theorem dX3_lowestFreeArena_3 : decode cX3_lowestFreeArena 3 = .ok (.bipush 6, 2) := by decide +kernel
theorem dX3_lowestFreeArena_5 : decode cX3_lowestFreeArena 5 = .ok (.if_icmp .ge 20, 3) := by decide +kernel
theorem dX3_lowestFreeArena_8 : decode cX3_lowestFreeArena 8 = .ok (.aload_n 0, 1) := by decide +kernel
theorem dX3_lowestFreeArena_9 : decode cX3_lowestFreeArena 9 = .ok (.getfield 37, 3) := by decide +kernel
theorem dX3_lowestFreeArena_12 : decode cX3_lowestFreeArena 12 = .ok (.iload_n 1, 1) := by decide +kernel
theorem dX3_lowestFreeArena_13 : decode cX3_lowestFreeArena 13 = .ok (.baload, 1) := by decide +kernel
theorem dX3_lowestFreeArena_14 : decode cX3_lowestFreeArena 14 = .ok (.ifCond .ne 5, 3) := by decide +kernel
theorem dX3_lowestFreeArena_17 : decode cX3_lowestFreeArena 17 = .ok (.iload_n 1, 1) := by decide +kernel
theorem dX3_lowestFreeArena_18 : decode cX3_lowestFreeArena 18 = .ok (.ireturn, 1) := by decide +kernel
theorem dX3_lowestFreeArena_19 : decode cX3_lowestFreeArena 19 = .ok (.iinc 1 1, 3) := by decide +kernel
theorem dX3_lowestFreeArena_22 : decode cX3_lowestFreeArena 22 = .ok (.goto (-20), 3) := by decide +kernel
theorem dX3_lowestFreeArena_25 : decode cX3_lowestFreeArena 25 = .ok (.iconst (-1), 1) := by decide +kernel
theorem dX3_lowestFreeArena_26 : decode cX3_lowestFreeArena 26 = .ok (.ireturn, 1) := by decide +kernel
theorem dX3_lowestFreeNumber_0 : decode cX3_lowestFreeNumber 0 = .ok (.iconst 0, 1) := by decide +kernel
theorem dX3_lowestFreeNumber_1 : decode cX3_lowestFreeNumber 1 = .ok (.istore_n 1, 1) := by decide +kernel
theorem dX3_lowestFreeNumber_2 : decode cX3_lowestFreeNumber 2 = .ok (.iload_n 1, 1) := by decide +kernel
theorem dX3_lowestFreeNumber_3 : decode cX3_lowestFreeNumber 3 = .ok (.bipush 24, 2) := by decide +kernel
theorem dX3_lowestFreeNumber_5 : decode cX3_lowestFreeNumber 5 = .ok (.if_icmp .ge 20, 3) := by decide +kernel
theorem dX3_lowestFreeNumber_8 : decode cX3_lowestFreeNumber 8 = .ok (.aload_n 0, 1) := by decide +kernel
theorem dX3_lowestFreeNumber_9 : decode cX3_lowestFreeNumber 9 = .ok (.getfield 9, 3) := by decide +kernel
theorem dX3_lowestFreeNumber_12 : decode cX3_lowestFreeNumber 12 = .ok (.iload_n 1, 1) := by decide +kernel
theorem dX3_lowestFreeNumber_13 : decode cX3_lowestFreeNumber 13 = .ok (.baload, 1) := by decide +kernel
theorem dX3_lowestFreeNumber_14 : decode cX3_lowestFreeNumber 14 = .ok (.ifCond .ne 5, 3) := by decide +kernel
theorem dX3_lowestFreeNumber_17 : decode cX3_lowestFreeNumber 17 = .ok (.iload_n 1, 1) := by decide +kernel
theorem dX3_lowestFreeNumber_18 : decode cX3_lowestFreeNumber 18 = .ok (.ireturn, 1) := by decide +kernel
theorem dX3_lowestFreeNumber_19 : decode cX3_lowestFreeNumber 19 = .ok (.iinc 1 1, 3) := by decide +kernel
theorem dX3_lowestFreeNumber_22 : decode cX3_lowestFreeNumber 22 = .ok (.goto (-20), 3) := by decide +kernel
theorem dX3_lowestFreeNumber_25 : decode cX3_lowestFreeNumber 25 = .ok (.iconst (-1), 1) := by decide +kernel
theorem dX3_lowestFreeNumber_26 : decode cX3_lowestFreeNumber 26 = .ok (.ireturn, 1) := by decide +kernel
theorem dX3_handOut_0 : decode cX3_handOut 0 = .ok (.iload_n 1, 1) := by decide +kernel
theorem dX3_handOut_1 : decode cX3_handOut 1 = .ok (.invokestatic 68, 3) := by decide +kernel
theorem dX3_handOut_4 : decode cX3_handOut 4 = .ok (.ifCond .eq 20, 3) := by decide +kernel
theorem dX3_handOut_7 : decode cX3_handOut 7 = .ok (.aload_n 0, 1) := by decide +kernel
theorem dX3_handOut_8 : decode cX3_handOut 8 = .ok (.getfield 37, 3) := by decide +kernel
theorem dX3_handOut_11 : decode cX3_handOut 11 = .ok (.iload_n 1, 1) := by decide +kernel
theorem dX3_handOut_12 : decode cX3_handOut 12 = .ok (.iconst 1, 1) := by decide +kernel
theorem dX3_handOut_13 : decode cX3_handOut 13 = .ok (.bastore, 1) := by decide +kernel
theorem dX3_handOut_14 : decode cX3_handOut 14 = .ok (.aload_n 0, 1) := by decide +kernel
theorem dX3_handOut_15 : decode cX3_handOut 15 = .ok (.getfield 43, 3) := by decide +kernel
theorem dX3_handOut_18 : decode cX3_handOut 18 = .ok (.iload_n 1, 1) := by decide +kernel
theorem dX3_handOut_19 : decode cX3_handOut 19 = .ok (.dup2, 1) := by decide +kernel
theorem dX3_handOut_20 : decode cX3_handOut 20 = .ok (.iaload, 1) := by decide +kernel
theorem dX3_handOut_21 : decode cX3_handOut 21 = .ok (.iconst 1, 1) := by decide +kernel
theorem dX3_handOut_22 : decode cX3_handOut 22 = .ok (.iadd, 1) := by decide +kernel
theorem dX3_handOut_23 : decode cX3_handOut 23 = .ok (.iastore, 1) := by decide +kernel
theorem dX3_handOut_24 : decode cX3_handOut 24 = .ok (.return_, 1) := by decide +kernel
theorem dX3_add_0 : decode cX3_add 0 = .ok (.iload_n 1, 1) := by decide +kernel
theorem dX3_add_1 : decode cX3_add 1 = .ok (.invokestatic 72, 3) := by decide +kernel
theorem dX3_add_4 : decode cX3_add 4 = .ok (.ifCond .eq 10, 3) := by decide +kernel
theorem dX3_add_7 : decode cX3_add 7 = .ok (.iload_n 2, 1) := by decide +kernel
theorem dX3_add_8 : decode cX3_add 8 = .ok (.invokestatic 68, 3) := by decide +kernel
theorem dX3_add_11 : decode cX3_add 11 = .ok (.ifCond .ne 4, 3) := by decide +kernel
theorem dX3_add_14 : decode cX3_add 14 = .ok (.return_, 1) := by decide +kernel
theorem dX3_add_15 : decode cX3_add 15 = .ok (.aload_n 0, 1) := by decide +kernel
theorem dX3_add_16 : decode cX3_add 16 = .ok (.getfield 9, 3) := by decide +kernel
theorem dX3_add_19 : decode cX3_add 19 = .ok (.iload_n 1, 1) := by decide +kernel
theorem dX3_add_20 : decode cX3_add 20 = .ok (.iconst 1, 1) := by decide +kernel
theorem dX3_add_21 : decode cX3_add 21 = .ok (.bastore, 1) := by decide +kernel
theorem dX3_add_22 : decode cX3_add 22 = .ok (.aload_n 0, 1) := by decide +kernel
theorem dX3_add_23 : decode cX3_add 23 = .ok (.getfield 15, 3) := by decide +kernel
theorem dX3_add_26 : decode cX3_add 26 = .ok (.iload_n 1, 1) := by decide +kernel
theorem dX3_add_27 : decode cX3_add 27 = .ok (.iload_n 2, 1) := by decide +kernel
theorem dX3_add_28 : decode cX3_add 28 = .ok (.iastore, 1) := by decide +kernel
theorem dX3_add_29 : decode cX3_add 29 = .ok (.aload_n 0, 1) := by decide +kernel
theorem dX3_add_30 : decode cX3_add 30 = .ok (.getfield 19, 3) := by decide +kernel
theorem dX3_add_33 : decode cX3_add 33 = .ok (.iload_n 1, 1) := by decide +kernel
theorem dX3_add_34 : decode cX3_add 34 = .ok (.aload_n 0, 1) := by decide +kernel
theorem dX3_add_35 : decode cX3_add 35 = .ok (.getfield 40, 3) := by decide +kernel
theorem dX3_add_38 : decode cX3_add 38 = .ok (.iload_n 2, 1) := by decide +kernel
theorem dX3_add_39 : decode cX3_add 39 = .ok (.iaload, 1) := by decide +kernel
theorem dX3_add_40 : decode cX3_add 40 = .ok (.iastore, 1) := by decide +kernel
theorem dX3_add_41 : decode cX3_add 41 = .ok (.aload_n 0, 1) := by decide +kernel
theorem dX3_add_42 : decode cX3_add 42 = .ok (.getfield 22, 3) := by decide +kernel
theorem dX3_add_45 : decode cX3_add 45 = .ok (.iload_n 1, 1) := by decide +kernel
theorem dX3_add_46 : decode cX3_add 46 = .ok (.iload_n 3, 1) := by decide +kernel
theorem dX3_add_47 : decode cX3_add 47 = .ok (.iastore, 1) := by decide +kernel
theorem dX3_add_48 : decode cX3_add 48 = .ok (.aload_n 0, 1) := by decide +kernel
theorem dX3_add_49 : decode cX3_add 49 = .ok (.getfield 40, 3) := by decide +kernel
theorem dX3_add_52 : decode cX3_add 52 = .ok (.iload_n 2, 1) := by decide +kernel
theorem dX3_add_53 : decode cX3_add 53 = .ok (.dup2, 1) := by decide +kernel
theorem dX3_add_54 : decode cX3_add 54 = .ok (.iaload, 1) := by decide +kernel
theorem dX3_add_55 : decode cX3_add 55 = .ok (.iload_n 3, 1) := by decide +kernel
theorem dX3_add_56 : decode cX3_add 56 = .ok (.iadd, 1) := by decide +kernel
theorem dX3_add_57 : decode cX3_add 57 = .ok (.iastore, 1) := by decide +kernel
theorem dX3_add_58 : decode cX3_add 58 = .ok (.aload_n 0, 1) := by decide +kernel
theorem dX3_add_59 : decode cX3_add 59 = .ok (.dup, 1) := by decide +kernel
theorem dX3_add_60 : decode cX3_add 60 = .ok (.getfield 55, 3) := by decide +kernel
theorem dX3_add_63 : decode cX3_add 63 = .ok (.iconst 1, 1) := by decide +kernel
theorem dX3_add_64 : decode cX3_add 64 = .ok (.iadd, 1) := by decide +kernel
theorem dX3_add_65 : decode cX3_add 65 = .ok (.putfield 55, 3) := by decide +kernel
theorem dX3_add_68 : decode cX3_add 68 = .ok (.return_, 1) := by decide +kernel
theorem dX3_layAnew_0 : decode cX3_layAnew 0 = .ok (.iload_n 1, 1) := by decide +kernel
theorem dX3_layAnew_1 : decode cX3_layAnew 1 = .ok (.invokestatic 72, 3) := by decide +kernel
theorem dX3_layAnew_4 : decode cX3_layAnew 4 = .ok (.ifCond .eq 10, 3) := by decide +kernel
theorem dX3_layAnew_7 : decode cX3_layAnew 7 = .ok (.iload_n 2, 1) := by decide +kernel
theorem dX3_layAnew_8 : decode cX3_layAnew 8 = .ok (.invokestatic 68, 3) := by decide +kernel
theorem dX3_layAnew_11 : decode cX3_layAnew 11 = .ok (.ifCond .ne 4, 3) := by decide +kernel
theorem dX3_layAnew_14 : decode cX3_layAnew 14 = .ok (.return_, 1) := by decide +kernel
theorem dX3_layAnew_15 : decode cX3_layAnew 15 = .ok (.aload_n 0, 1) := by decide +kernel
theorem dX3_layAnew_16 : decode cX3_layAnew 16 = .ok (.getfield 15, 3) := by decide +kernel
theorem dX3_layAnew_19 : decode cX3_layAnew 19 = .ok (.iload_n 1, 1) := by decide +kernel
theorem dX3_layAnew_20 : decode cX3_layAnew 20 = .ok (.iload_n 2, 1) := by decide +kernel
theorem dX3_layAnew_21 : decode cX3_layAnew 21 = .ok (.iastore, 1) := by decide +kernel
theorem dX3_layAnew_22 : decode cX3_layAnew 22 = .ok (.aload_n 0, 1) := by decide +kernel
theorem dX3_layAnew_23 : decode cX3_layAnew 23 = .ok (.getfield 19, 3) := by decide +kernel
theorem dX3_layAnew_26 : decode cX3_layAnew 26 = .ok (.iload_n 1, 1) := by decide +kernel
theorem dX3_layAnew_27 : decode cX3_layAnew 27 = .ok (.iload_n 3, 1) := by decide +kernel
theorem dX3_layAnew_28 : decode cX3_layAnew 28 = .ok (.iastore, 1) := by decide +kernel
theorem dX3_layAnew_29 : decode cX3_layAnew 29 = .ok (.aload_n 0, 1) := by decide +kernel
theorem dX3_layAnew_30 : decode cX3_layAnew 30 = .ok (.getfield 34, 3) := by decide +kernel
theorem dX3_layAnew_33 : decode cX3_layAnew 33 = .ok (.iload_n 1, 1) := by decide +kernel
theorem dX3_layAnew_34 : decode cX3_layAnew 34 = .ok (.dup2, 1) := by decide +kernel
theorem dX3_layAnew_35 : decode cX3_layAnew 35 = .ok (.iaload, 1) := by decide +kernel
theorem dX3_layAnew_36 : decode cX3_layAnew 36 = .ok (.iconst 1, 1) := by decide +kernel
theorem dX3_layAnew_37 : decode cX3_layAnew 37 = .ok (.iadd, 1) := by decide +kernel
theorem dX3_layAnew_38 : decode cX3_layAnew 38 = .ok (.iastore, 1) := by decide +kernel
theorem dX3_layAnew_39 : decode cX3_layAnew 39 = .ok (.aload_n 0, 1) := by decide +kernel
theorem dX3_layAnew_40 : decode cX3_layAnew 40 = .ok (.getfield 40, 3) := by decide +kernel
theorem dX3_layAnew_43 : decode cX3_layAnew 43 = .ok (.iload_n 2, 1) := by decide +kernel
theorem dX3_layAnew_44 : decode cX3_layAnew 44 = .ok (.dup2, 1) := by decide +kernel
theorem dX3_layAnew_45 : decode cX3_layAnew 45 = .ok (.iaload, 1) := by decide +kernel
theorem dX3_layAnew_46 : decode cX3_layAnew 46 = .ok (.aload_n 0, 1) := by decide +kernel
theorem dX3_layAnew_47 : decode cX3_layAnew 47 = .ok (.getfield 22, 3) := by decide +kernel
theorem dX3_layAnew_50 : decode cX3_layAnew 50 = .ok (.iload_n 1, 1) := by decide +kernel
theorem dX3_layAnew_51 : decode cX3_layAnew 51 = .ok (.iaload, 1) := by decide +kernel
theorem dX3_layAnew_52 : decode cX3_layAnew 52 = .ok (.iadd, 1) := by decide +kernel
theorem dX3_layAnew_53 : decode cX3_layAnew 53 = .ok (.iastore, 1) := by decide +kernel
theorem dX3_layAnew_54 : decode cX3_layAnew 54 = .ok (.aload_n 0, 1) := by decide +kernel
theorem dX3_layAnew_55 : decode cX3_layAnew 55 = .ok (.dup, 1) := by decide +kernel
theorem dX3_layAnew_56 : decode cX3_layAnew 56 = .ok (.getfield 59, 3) := by decide +kernel
theorem dX3_layAnew_59 : decode cX3_layAnew 59 = .ok (.iconst 1, 1) := by decide +kernel
theorem dX3_layAnew_60 : decode cX3_layAnew 60 = .ok (.iadd, 1) := by decide +kernel
theorem dX3_layAnew_61 : decode cX3_layAnew 61 = .ok (.putfield 59, 3) := by decide +kernel
theorem dX3_layAnew_64 : decode cX3_layAnew 64 = .ok (.return_, 1) := by decide +kernel
theorem dX3_free_0 : decode cX3_free 0 = .ok (.iconst 0, 1) := by decide +kernel
theorem dX3_free_1 : decode cX3_free 1 = .ok (.istore_n 2, 1) := by decide +kernel
theorem dX3_free_2 : decode cX3_free 2 = .ok (.iconst 0, 1) := by decide +kernel
theorem dX3_free_3 : decode cX3_free 3 = .ok (.istore_n 3, 1) := by decide +kernel
theorem dX3_free_4 : decode cX3_free 4 = .ok (.iload_n 3, 1) := by decide +kernel
theorem dX3_free_5 : decode cX3_free 5 = .ok (.bipush 24, 2) := by decide +kernel
theorem dX3_free_7 : decode cX3_free 7 = .ok (.if_icmp .ge 26, 3) := by decide +kernel
theorem dX3_free_10 : decode cX3_free 10 = .ok (.aload_n 0, 1) := by decide +kernel
theorem dX3_free_11 : decode cX3_free 11 = .ok (.iload_n 3, 1) := by decide +kernel
theorem dX3_free_12 : decode cX3_free 12 = .ok (.iload_n 1, 1) := by decide +kernel
theorem dX3_free_13 : decode cX3_free 13 = .ok (.invokevirtual 75, 3) := by decide +kernel
theorem dX3_free_16 : decode cX3_free 16 = .ok (.ifCond .eq 11, 3) := by decide +kernel
theorem dX3_free_19 : decode cX3_free 19 = .ok (.aload_n 0, 1) := by decide +kernel
theorem dX3_free_20 : decode cX3_free 20 = .ok (.iload_n 3, 1) := by decide +kernel
theorem dX3_free_21 : decode cX3_free 21 = .ok (.invokevirtual 79, 3) := by decide +kernel
theorem dX3_free_24 : decode cX3_free 24 = .ok (.iinc 2 1, 3) := by decide +kernel
theorem dX3_free_27 : decode cX3_free 27 = .ok (.iinc 3 1, 3) := by decide +kernel
theorem dX3_free_30 : decode cX3_free 30 = .ok (.goto (-26), 3) := by decide +kernel
theorem dX3_free_33 : decode cX3_free 33 = .ok (.iload_n 1, 1) := by decide +kernel
theorem dX3_free_34 : decode cX3_free 34 = .ok (.invokestatic 68, 3) := by decide +kernel
theorem dX3_free_37 : decode cX3_free 37 = .ok (.ifCond .eq 17, 3) := by decide +kernel
theorem dX3_free_40 : decode cX3_free 40 = .ok (.aload_n 0, 1) := by decide +kernel
theorem dX3_free_41 : decode cX3_free 41 = .ok (.getfield 37, 3) := by decide +kernel
theorem dX3_free_44 : decode cX3_free 44 = .ok (.iload_n 1, 1) := by decide +kernel
theorem dX3_free_45 : decode cX3_free 45 = .ok (.iconst 0, 1) := by decide +kernel
theorem dX3_free_46 : decode cX3_free 46 = .ok (.bastore, 1) := by decide +kernel
theorem dX3_free_47 : decode cX3_free 47 = .ok (.aload_n 0, 1) := by decide +kernel
theorem dX3_free_48 : decode cX3_free 48 = .ok (.getfield 40, 3) := by decide +kernel
theorem dX3_free_51 : decode cX3_free 51 = .ok (.iload_n 1, 1) := by decide +kernel
theorem dX3_free_52 : decode cX3_free 52 = .ok (.iconst 0, 1) := by decide +kernel
theorem dX3_free_53 : decode cX3_free 53 = .ok (.iastore, 1) := by decide +kernel
theorem dX3_free_54 : decode cX3_free 54 = .ok (.aload_n 0, 1) := by decide +kernel
theorem dX3_free_55 : decode cX3_free 55 = .ok (.dup, 1) := by decide +kernel
theorem dX3_free_56 : decode cX3_free 56 = .ok (.getfield 62, 3) := by decide +kernel
theorem dX3_free_59 : decode cX3_free 59 = .ok (.iload_n 2, 1) := by decide +kernel
theorem dX3_free_60 : decode cX3_free 60 = .ok (.iadd, 1) := by decide +kernel
theorem dX3_free_61 : decode cX3_free 61 = .ok (.putfield 62, 3) := by decide +kernel
theorem dX3_free_64 : decode cX3_free 64 = .ok (.aload_n 0, 1) := by decide +kernel
theorem dX3_free_65 : decode cX3_free 65 = .ok (.dup, 1) := by decide +kernel
theorem dX3_free_66 : decode cX3_free 66 = .ok (.getfield 65, 3) := by decide +kernel
theorem dX3_free_69 : decode cX3_free 69 = .ok (.iconst 1, 1) := by decide +kernel
theorem dX3_free_70 : decode cX3_free 70 = .ok (.iadd, 1) := by decide +kernel
theorem dX3_free_71 : decode cX3_free 71 = .ok (.putfield 65, 3) := by decide +kernel
theorem dX3_free_74 : decode cX3_free 74 = .ok (.iload_n 2, 1) := by decide +kernel
theorem dX3_free_75 : decode cX3_free 75 = .ok (.ireturn, 1) := by decide +kernel
theorem dX3_drop_0 : decode cX3_drop 0 = .ok (.iload_n 1, 1) := by decide +kernel
theorem dX3_drop_1 : decode cX3_drop 1 = .ok (.invokestatic 72, 3) := by decide +kernel
theorem dX3_drop_4 : decode cX3_drop 4 = .ok (.ifCond .ne 4, 3) := by decide +kernel
theorem dX3_drop_7 : decode cX3_drop 7 = .ok (.return_, 1) := by decide +kernel
theorem dX3_drop_8 : decode cX3_drop 8 = .ok (.aload_n 0, 1) := by decide +kernel
theorem dX3_drop_9 : decode cX3_drop 9 = .ok (.getfield 9, 3) := by decide +kernel
theorem dX3_drop_12 : decode cX3_drop 12 = .ok (.iload_n 1, 1) := by decide +kernel
theorem dX3_drop_13 : decode cX3_drop 13 = .ok (.iconst 0, 1) := by decide +kernel
theorem dX3_drop_14 : decode cX3_drop 14 = .ok (.bastore, 1) := by decide +kernel
theorem dX3_drop_15 : decode cX3_drop 15 = .ok (.aload_n 0, 1) := by decide +kernel
theorem dX3_drop_16 : decode cX3_drop 16 = .ok (.getfield 28, 3) := by decide +kernel
theorem dX3_drop_19 : decode cX3_drop 19 = .ok (.iload_n 1, 1) := by decide +kernel
theorem dX3_drop_20 : decode cX3_drop 20 = .ok (.iconst 0, 1) := by decide +kernel
theorem dX3_drop_21 : decode cX3_drop 21 = .ok (.bastore, 1) := by decide +kernel
theorem dX3_drop_22 : decode cX3_drop 22 = .ok (.aload_n 0, 1) := by decide +kernel
theorem dX3_drop_23 : decode cX3_drop 23 = .ok (.getfield 31, 3) := by decide +kernel
theorem dX3_drop_26 : decode cX3_drop 26 = .ok (.iload_n 1, 1) := by decide +kernel
theorem dX3_drop_27 : decode cX3_drop 27 = .ok (.iconst 0, 1) := by decide +kernel
theorem dX3_drop_28 : decode cX3_drop 28 = .ok (.bastore, 1) := by decide +kernel
theorem dX3_drop_29 : decode cX3_drop 29 = .ok (.aload_n 0, 1) := by decide +kernel
theorem dX3_drop_30 : decode cX3_drop 30 = .ok (.getfield 34, 3) := by decide +kernel
theorem dX3_drop_33 : decode cX3_drop 33 = .ok (.iload_n 1, 1) := by decide +kernel
theorem dX3_drop_34 : decode cX3_drop 34 = .ok (.iconst 0, 1) := by decide +kernel
theorem dX3_drop_35 : decode cX3_drop 35 = .ok (.iastore, 1) := by decide +kernel
theorem dX3_drop_36 : decode cX3_drop 36 = .ok (.iconst 0, 1) := by decide +kernel
theorem dX3_drop_37 : decode cX3_drop 37 = .ok (.istore_n 2, 1) := by decide +kernel
theorem dX3_drop_38 : decode cX3_drop 38 = .ok (.iload_n 2, 1) := by decide +kernel
theorem dX3_drop_39 : decode cX3_drop 39 = .ok (.bipush 24, 2) := by decide +kernel
theorem dX3_drop_41 : decode cX3_drop 41 = .ok (.if_icmp .ge 44, 3) := by decide +kernel
theorem dX3_drop_44 : decode cX3_drop 44 = .ok (.iconst 0, 1) := by decide +kernel
theorem dX3_drop_45 : decode cX3_drop 45 = .ok (.istore_n 3, 1) := by decide +kernel
theorem dX3_drop_46 : decode cX3_drop 46 = .ok (.iload_n 3, 1) := by decide +kernel
theorem dX3_drop_47 : decode cX3_drop 47 = .ok (.iconst 2, 1) := by decide +kernel
theorem dX3_drop_48 : decode cX3_drop 48 = .ok (.if_icmp .ge 31, 3) := by decide +kernel
theorem dX3_drop_51 : decode cX3_drop 51 = .ok (.iload_n 2, 1) := by decide +kernel
theorem dX3_drop_52 : decode cX3_drop 52 = .ok (.iload_n 1, 1) := by decide +kernel
theorem dX3_drop_53 : decode cX3_drop 53 = .ok (.if_icmp .eq 13, 3) := by decide +kernel
theorem dX3_drop_56 : decode cX3_drop 56 = .ok (.aload_n 0, 1) := by decide +kernel
theorem dX3_drop_57 : decode cX3_drop 57 = .ok (.iload_n 2, 1) := by decide +kernel
theorem dX3_drop_58 : decode cX3_drop 58 = .ok (.iload_n 3, 1) := by decide +kernel
theorem dX3_drop_59 : decode cX3_drop 59 = .ok (.invokevirtual 83, 3) := by decide +kernel
theorem dX3_drop_62 : decode cX3_drop 62 = .ok (.iload_n 1, 1) := by decide +kernel
theorem dX3_drop_63 : decode cX3_drop 63 = .ok (.if_icmp .ne 10, 3) := by decide +kernel
theorem dX3_drop_66 : decode cX3_drop 66 = .ok (.aload_n 0, 1) := by decide +kernel
theorem dX3_drop_67 : decode cX3_drop 67 = .ok (.iload_n 2, 1) := by decide +kernel
theorem dX3_drop_68 : decode cX3_drop 68 = .ok (.iload_n 3, 1) := by decide +kernel
theorem dX3_drop_69 : decode cX3_drop 69 = .ok (.iconst (-1), 1) := by decide +kernel
theorem dX3_drop_70 : decode cX3_drop 70 = .ok (.invokevirtual 87, 3) := by decide +kernel
theorem dX3_drop_73 : decode cX3_drop 73 = .ok (.iinc 3 1, 3) := by decide +kernel
theorem dX3_drop_76 : decode cX3_drop 76 = .ok (.goto (-30), 3) := by decide +kernel
theorem dX3_drop_79 : decode cX3_drop 79 = .ok (.iinc 2 1, 3) := by decide +kernel
theorem dX3_drop_82 : decode cX3_drop 82 = .ok (.goto (-44), 3) := by decide +kernel
theorem dX3_drop_85 : decode cX3_drop 85 = .ok (.return_, 1) := by decide +kernel
theorem dX3_objectAt_0 : decode cX3_objectAt 0 = .ok (.iconst 0, 1) := by decide +kernel
theorem dX3_objectAt_1 : decode cX3_objectAt 1 = .ok (.istore_n 3, 1) := by decide +kernel
theorem dX3_objectAt_2 : decode cX3_objectAt 2 = .ok (.iload_n 3, 1) := by decide +kernel
theorem dX3_objectAt_3 : decode cX3_objectAt 3 = .ok (.bipush 24, 2) := by decide +kernel
theorem dX3_objectAt_5 : decode cX3_objectAt 5 = .ok (.if_icmp .ge 47, 3) := by decide +kernel
theorem dX3_objectAt_8 : decode cX3_objectAt 8 = .ok (.aload_n 0, 1) := by decide +kernel
theorem dX3_objectAt_9 : decode cX3_objectAt 9 = .ok (.iload_n 3, 1) := by decide +kernel
theorem dX3_objectAt_10 : decode cX3_objectAt 10 = .ok (.iload_n 1, 1) := by decide +kernel
theorem dX3_objectAt_11 : decode cX3_objectAt 11 = .ok (.invokevirtual 75, 3) := by decide +kernel
theorem dX3_objectAt_14 : decode cX3_objectAt 14 = .ok (.ifCond .eq 32, 3) := by decide +kernel
theorem dX3_objectAt_17 : decode cX3_objectAt 17 = .ok (.iload_n 2, 1) := by decide +kernel
theorem dX3_objectAt_18 : decode cX3_objectAt 18 = .ok (.aload_n 0, 1) := by decide +kernel
theorem dX3_objectAt_19 : decode cX3_objectAt 19 = .ok (.getfield 19, 3) := by decide +kernel
theorem dX3_objectAt_22 : decode cX3_objectAt 22 = .ok (.iload_n 3, 1) := by decide +kernel
theorem dX3_objectAt_23 : decode cX3_objectAt 23 = .ok (.iaload, 1) := by decide +kernel
theorem dX3_objectAt_24 : decode cX3_objectAt 24 = .ok (.if_icmp .lt 22, 3) := by decide +kernel
theorem dX3_objectAt_27 : decode cX3_objectAt 27 = .ok (.iload_n 2, 1) := by decide +kernel
theorem dX3_objectAt_28 : decode cX3_objectAt 28 = .ok (.aload_n 0, 1) := by decide +kernel
theorem dX3_objectAt_29 : decode cX3_objectAt 29 = .ok (.getfield 19, 3) := by decide +kernel
theorem dX3_objectAt_32 : decode cX3_objectAt 32 = .ok (.iload_n 3, 1) := by decide +kernel
theorem dX3_objectAt_33 : decode cX3_objectAt 33 = .ok (.iaload, 1) := by decide +kernel
theorem dX3_objectAt_34 : decode cX3_objectAt 34 = .ok (.aload_n 0, 1) := by decide +kernel
theorem dX3_objectAt_35 : decode cX3_objectAt 35 = .ok (.getfield 22, 3) := by decide +kernel
theorem dX3_objectAt_38 : decode cX3_objectAt 38 = .ok (.iload_n 3, 1) := by decide +kernel
theorem dX3_objectAt_39 : decode cX3_objectAt 39 = .ok (.iaload, 1) := by decide +kernel
theorem dX3_objectAt_40 : decode cX3_objectAt 40 = .ok (.iadd, 1) := by decide +kernel
theorem dX3_objectAt_41 : decode cX3_objectAt 41 = .ok (.if_icmp .ge 5, 3) := by decide +kernel
theorem dX3_objectAt_44 : decode cX3_objectAt 44 = .ok (.iload_n 3, 1) := by decide +kernel
theorem dX3_objectAt_45 : decode cX3_objectAt 45 = .ok (.ireturn, 1) := by decide +kernel
theorem dX3_objectAt_46 : decode cX3_objectAt 46 = .ok (.iinc 3 1, 3) := by decide +kernel
theorem dX3_objectAt_49 : decode cX3_objectAt 49 = .ok (.goto (-47), 3) := by decide +kernel
theorem dX3_objectAt_52 : decode cX3_objectAt 52 = .ok (.iconst (-1), 1) := by decide +kernel
theorem dX3_objectAt_53 : decode cX3_objectAt 53 = .ok (.ireturn, 1) := by decide +kernel
theorem dX3_objects_0 : decode cX3_objects 0 = .ok (.iconst 0, 1) := by decide +kernel
theorem dX3_objects_1 : decode cX3_objects 1 = .ok (.istore_n 1, 1) := by decide +kernel
theorem dX3_objects_2 : decode cX3_objects 2 = .ok (.iconst 0, 1) := by decide +kernel
theorem dX3_objects_3 : decode cX3_objects 3 = .ok (.istore_n 2, 1) := by decide +kernel
theorem dX3_objects_4 : decode cX3_objects 4 = .ok (.iload_n 2, 1) := by decide +kernel
theorem dX3_objects_5 : decode cX3_objects 5 = .ok (.bipush 24, 2) := by decide +kernel
theorem dX3_objects_7 : decode cX3_objects 7 = .ok (.if_icmp .ge 21, 3) := by decide +kernel
theorem dX3_objects_10 : decode cX3_objects 10 = .ok (.iload_n 1, 1) := by decide +kernel
theorem dX3_objects_11 : decode cX3_objects 11 = .ok (.aload_n 0, 1) := by decide +kernel
theorem dX3_objects_12 : decode cX3_objects 12 = .ok (.getfield 9, 3) := by decide +kernel
theorem dX3_objects_15 : decode cX3_objects 15 = .ok (.iload_n 2, 1) := by decide +kernel
theorem dX3_objects_16 : decode cX3_objects 16 = .ok (.baload, 1) := by decide +kernel
theorem dX3_objects_17 : decode cX3_objects 17 = .ok (.invokestatic 91, 3) := by decide +kernel
theorem dX3_objects_20 : decode cX3_objects 20 = .ok (.iadd, 1) := by decide +kernel
theorem dX3_objects_21 : decode cX3_objects 21 = .ok (.istore_n 1, 1) := by decide +kernel
theorem dX3_objects_22 : decode cX3_objects 22 = .ok (.iinc 2 1, 3) := by decide +kernel
theorem dX3_objects_25 : decode cX3_objects 25 = .ok (.goto (-21), 3) := by decide +kernel
theorem dX3_objects_28 : decode cX3_objects 28 = .ok (.iload_n 1, 1) := by decide +kernel
theorem dX3_objects_29 : decode cX3_objects 29 = .ok (.ireturn, 1) := by decide +kernel
theorem dX3_objectsIn_0 : decode cX3_objectsIn 0 = .ok (.iconst 0, 1) := by decide +kernel
theorem dX3_objectsIn_1 : decode cX3_objectsIn 1 = .ok (.istore_n 2, 1) := by decide +kernel
theorem dX3_objectsIn_2 : decode cX3_objectsIn 2 = .ok (.iconst 0, 1) := by decide +kernel
theorem dX3_objectsIn_3 : decode cX3_objectsIn 3 = .ok (.istore_n 3, 1) := by decide +kernel
theorem dX3_objectsIn_4 : decode cX3_objectsIn 4 = .ok (.iload_n 3, 1) := by decide +kernel
theorem dX3_objectsIn_5 : decode cX3_objectsIn 5 = .ok (.bipush 24, 2) := by decide +kernel
theorem dX3_objectsIn_7 : decode cX3_objectsIn 7 = .ok (.if_icmp .ge 21, 3) := by decide +kernel
theorem dX3_objectsIn_10 : decode cX3_objectsIn 10 = .ok (.iload_n 2, 1) := by decide +kernel
theorem dX3_objectsIn_11 : decode cX3_objectsIn 11 = .ok (.aload_n 0, 1) := by decide +kernel
theorem dX3_objectsIn_12 : decode cX3_objectsIn 12 = .ok (.iload_n 3, 1) := by decide +kernel
theorem dX3_objectsIn_13 : decode cX3_objectsIn 13 = .ok (.iload_n 1, 1) := by decide +kernel
theorem dX3_objectsIn_14 : decode cX3_objectsIn 14 = .ok (.invokevirtual 75, 3) := by decide +kernel
theorem dX3_objectsIn_17 : decode cX3_objectsIn 17 = .ok (.invokestatic 91, 3) := by decide +kernel
theorem dX3_objectsIn_20 : decode cX3_objectsIn 20 = .ok (.iadd, 1) := by decide +kernel
theorem dX3_objectsIn_21 : decode cX3_objectsIn 21 = .ok (.istore_n 2, 1) := by decide +kernel
theorem dX3_objectsIn_22 : decode cX3_objectsIn 22 = .ok (.iinc 3 1, 3) := by decide +kernel
theorem dX3_objectsIn_25 : decode cX3_objectsIn 25 = .ok (.goto (-21), 3) := by decide +kernel
theorem dX3_objectsIn_28 : decode cX3_objectsIn 28 = .ok (.iload_n 2, 1) := by decide +kernel
theorem dX3_objectsIn_29 : decode cX3_objectsIn 29 = .ok (.ireturn, 1) := by decide +kernel
theorem dX3_pinnedIn_0 : decode cX3_pinnedIn 0 = .ok (.iconst 0, 1) := by decide +kernel
theorem dX3_pinnedIn_1 : decode cX3_pinnedIn 1 = .ok (.istore_n 2, 1) := by decide +kernel
theorem dX3_pinnedIn_2 : decode cX3_pinnedIn 2 = .ok (.iconst 0, 1) := by decide +kernel
theorem dX3_pinnedIn_3 : decode cX3_pinnedIn 3 = .ok (.istore_n 3, 1) := by decide +kernel
theorem dX3_pinnedIn_4 : decode cX3_pinnedIn 4 = .ok (.iload_n 3, 1) := by decide +kernel
theorem dX3_pinnedIn_5 : decode cX3_pinnedIn 5 = .ok (.bipush 24, 2) := by decide +kernel
theorem dX3_pinnedIn_7 : decode cX3_pinnedIn 7 = .ok (.if_icmp .ge 38, 3) := by decide +kernel
theorem dX3_pinnedIn_10 : decode cX3_pinnedIn 10 = .ok (.iload_n 2, 1) := by decide +kernel
theorem dX3_pinnedIn_11 : decode cX3_pinnedIn 11 = .ok (.aload_n 0, 1) := by decide +kernel
theorem dX3_pinnedIn_12 : decode cX3_pinnedIn 12 = .ok (.iload_n 3, 1) := by decide +kernel
theorem dX3_pinnedIn_13 : decode cX3_pinnedIn 13 = .ok (.iload_n 1, 1) := by decide +kernel
theorem dX3_pinnedIn_14 : decode cX3_pinnedIn 14 = .ok (.invokevirtual 75, 3) := by decide +kernel
theorem dX3_pinnedIn_17 : decode cX3_pinnedIn 17 = .ok (.ifCond .eq 16, 3) := by decide +kernel
theorem dX3_pinnedIn_20 : decode cX3_pinnedIn 20 = .ok (.aload_n 0, 1) := by decide +kernel
theorem dX3_pinnedIn_21 : decode cX3_pinnedIn 21 = .ok (.getfield 31, 3) := by decide +kernel
theorem dX3_pinnedIn_24 : decode cX3_pinnedIn 24 = .ok (.iload_n 3, 1) := by decide +kernel
theorem dX3_pinnedIn_25 : decode cX3_pinnedIn 25 = .ok (.baload, 1) := by decide +kernel
theorem dX3_pinnedIn_26 : decode cX3_pinnedIn 26 = .ok (.ifCond .eq 7, 3) := by decide +kernel
theorem dX3_pinnedIn_29 : decode cX3_pinnedIn 29 = .ok (.iconst 1, 1) := by decide +kernel
theorem dX3_pinnedIn_30 : decode cX3_pinnedIn 30 = .ok (.goto 4, 3) := by decide +kernel
theorem dX3_pinnedIn_33 : decode cX3_pinnedIn 33 = .ok (.iconst 0, 1) := by decide +kernel
theorem dX3_pinnedIn_34 : decode cX3_pinnedIn 34 = .ok (.invokestatic 91, 3) := by decide +kernel
theorem dX3_pinnedIn_37 : decode cX3_pinnedIn 37 = .ok (.iadd, 1) := by decide +kernel
theorem dX3_pinnedIn_38 : decode cX3_pinnedIn 38 = .ok (.istore_n 2, 1) := by decide +kernel
theorem dX3_pinnedIn_39 : decode cX3_pinnedIn 39 = .ok (.iinc 3 1, 3) := by decide +kernel
theorem dX3_pinnedIn_42 : decode cX3_pinnedIn 42 = .ok (.goto (-38), 3) := by decide +kernel
theorem dX3_pinnedIn_45 : decode cX3_pinnedIn 45 = .ok (.iload_n 2, 1) := by decide +kernel
theorem dX3_pinnedIn_46 : decode cX3_pinnedIn 46 = .ok (.ireturn, 1) := by decide +kernel
theorem dX3_roots_0 : decode cX3_roots 0 = .ok (.iconst 0, 1) := by decide +kernel
theorem dX3_roots_1 : decode cX3_roots 1 = .ok (.istore_n 1, 1) := by decide +kernel
theorem dX3_roots_2 : decode cX3_roots 2 = .ok (.iconst 0, 1) := by decide +kernel
theorem dX3_roots_3 : decode cX3_roots 3 = .ok (.istore_n 2, 1) := by decide +kernel
theorem dX3_roots_4 : decode cX3_roots 4 = .ok (.iload_n 2, 1) := by decide +kernel
theorem dX3_roots_5 : decode cX3_roots 5 = .ok (.bipush 24, 2) := by decide +kernel
theorem dX3_roots_7 : decode cX3_roots 7 = .ok (.if_icmp .ge 21, 3) := by decide +kernel
theorem dX3_roots_10 : decode cX3_roots 10 = .ok (.iload_n 1, 1) := by decide +kernel
theorem dX3_roots_11 : decode cX3_roots 11 = .ok (.aload_n 0, 1) := by decide +kernel
theorem dX3_roots_12 : decode cX3_roots 12 = .ok (.getfield 28, 3) := by decide +kernel
theorem dX3_roots_15 : decode cX3_roots 15 = .ok (.iload_n 2, 1) := by decide +kernel
theorem dX3_roots_16 : decode cX3_roots 16 = .ok (.baload, 1) := by decide +kernel
theorem dX3_roots_17 : decode cX3_roots 17 = .ok (.invokestatic 91, 3) := by decide +kernel
theorem dX3_roots_20 : decode cX3_roots 20 = .ok (.iadd, 1) := by decide +kernel
theorem dX3_roots_21 : decode cX3_roots 21 = .ok (.istore_n 1, 1) := by decide +kernel
theorem dX3_roots_22 : decode cX3_roots 22 = .ok (.iinc 2 1, 3) := by decide +kernel
theorem dX3_roots_25 : decode cX3_roots 25 = .ok (.goto (-21), 3) := by decide +kernel
theorem dX3_roots_28 : decode cX3_roots 28 = .ok (.iload_n 1, 1) := by decide +kernel
theorem dX3_roots_29 : decode cX3_roots 29 = .ok (.ireturn, 1) := by decide +kernel
theorem dX3_openArenas_0 : decode cX3_openArenas 0 = .ok (.iconst 0, 1) := by decide +kernel
theorem dX3_openArenas_1 : decode cX3_openArenas 1 = .ok (.istore_n 1, 1) := by decide +kernel
theorem dX3_openArenas_2 : decode cX3_openArenas 2 = .ok (.iconst 0, 1) := by decide +kernel
theorem dX3_openArenas_3 : decode cX3_openArenas 3 = .ok (.istore_n 2, 1) := by decide +kernel
theorem dX3_openArenas_4 : decode cX3_openArenas 4 = .ok (.iload_n 2, 1) := by decide +kernel
theorem dX3_openArenas_5 : decode cX3_openArenas 5 = .ok (.bipush 6, 2) := by decide +kernel
theorem dX3_openArenas_7 : decode cX3_openArenas 7 = .ok (.if_icmp .ge 21, 3) := by decide +kernel
theorem dX3_openArenas_10 : decode cX3_openArenas 10 = .ok (.iload_n 1, 1) := by decide +kernel
theorem dX3_openArenas_11 : decode cX3_openArenas 11 = .ok (.aload_n 0, 1) := by decide +kernel
theorem dX3_openArenas_12 : decode cX3_openArenas 12 = .ok (.getfield 37, 3) := by decide +kernel
theorem dX3_openArenas_15 : decode cX3_openArenas 15 = .ok (.iload_n 2, 1) := by decide +kernel
theorem dX3_openArenas_16 : decode cX3_openArenas 16 = .ok (.baload, 1) := by decide +kernel
theorem dX3_openArenas_17 : decode cX3_openArenas 17 = .ok (.invokestatic 91, 3) := by decide +kernel
theorem dX3_openArenas_20 : decode cX3_openArenas 20 = .ok (.iadd, 1) := by decide +kernel
theorem dX3_openArenas_21 : decode cX3_openArenas 21 = .ok (.istore_n 1, 1) := by decide +kernel
theorem dX3_openArenas_22 : decode cX3_openArenas 22 = .ok (.iinc 2 1, 3) := by decide +kernel
theorem dX3_openArenas_25 : decode cX3_openArenas 25 = .ok (.goto (-21), 3) := by decide +kernel
theorem dX3_openArenas_28 : decode cX3_openArenas 28 = .ok (.iload_n 1, 1) := by decide +kernel
theorem dX3_openArenas_29 : decode cX3_openArenas 29 = .ok (.ireturn, 1) := by decide +kernel
theorem dX3_references_0 : decode cX3_references 0 = .ok (.iconst 0, 1) := by decide +kernel
theorem dX3_references_1 : decode cX3_references 1 = .ok (.istore_n 2, 1) := by decide +kernel
theorem dX3_references_2 : decode cX3_references 2 = .ok (.iconst 0, 1) := by decide +kernel
theorem dX3_references_3 : decode cX3_references 3 = .ok (.istore_n 3, 1) := by decide +kernel
theorem dX3_references_4 : decode cX3_references 4 = .ok (.iload_n 3, 1) := by decide +kernel
theorem dX3_references_5 : decode cX3_references 5 = .ok (.bipush 24, 2) := by decide +kernel
theorem dX3_references_7 : decode cX3_references 7 = .ok (.if_icmp .ge 65, 3) := by decide +kernel
theorem dX3_references_10 : decode cX3_references 10 = .ok (.iconst 0, 1) := by decide +kernel
theorem dX3_references_11 : decode cX3_references 11 = .ok (.istore 4, 2) := by decide +kernel
theorem dX3_references_13 : decode cX3_references 13 = .ok (.iload 4, 2) := by decide +kernel
theorem dX3_references_15 : decode cX3_references 15 = .ok (.iconst 2, 1) := by decide +kernel
theorem dX3_references_16 : decode cX3_references 16 = .ok (.if_icmp .ge 50, 3) := by decide +kernel
theorem dX3_references_19 : decode cX3_references 19 = .ok (.aload_n 0, 1) := by decide +kernel
theorem dX3_references_20 : decode cX3_references 20 = .ok (.iload_n 3, 1) := by decide +kernel
theorem dX3_references_21 : decode cX3_references 21 = .ok (.iload 4, 2) := by decide +kernel
theorem dX3_references_23 : decode cX3_references 23 = .ok (.invokevirtual 83, 3) := by decide +kernel
theorem dX3_references_26 : decode cX3_references 26 = .ok (.istore 5, 2) := by decide +kernel
theorem dX3_references_28 : decode cX3_references 28 = .ok (.aload_n 0, 1) := by decide +kernel
theorem dX3_references_29 : decode cX3_references 29 = .ok (.iload 5, 2) := by decide +kernel
theorem dX3_references_31 : decode cX3_references 31 = .ok (.invokevirtual 95, 3) := by decide +kernel
theorem dX3_references_34 : decode cX3_references 34 = .ok (.ifCond .eq 26, 3) := by decide +kernel
theorem dX3_references_37 : decode cX3_references 37 = .ok (.iload_n 1, 1) := by decide +kernel
theorem dX3_references_38 : decode cX3_references 38 = .ok (.ifCond .eq 19, 3) := by decide +kernel
theorem dX3_references_41 : decode cX3_references 41 = .ok (.aload_n 0, 1) := by decide +kernel
theorem dX3_references_42 : decode cX3_references 42 = .ok (.getfield 15, 3) := by decide +kernel
theorem dX3_references_45 : decode cX3_references 45 = .ok (.iload 5, 2) := by decide +kernel
theorem dX3_references_47 : decode cX3_references 47 = .ok (.iaload, 1) := by decide +kernel
theorem dX3_references_48 : decode cX3_references 48 = .ok (.aload_n 0, 1) := by decide +kernel
theorem dX3_references_49 : decode cX3_references 49 = .ok (.getfield 15, 3) := by decide +kernel
theorem dX3_references_52 : decode cX3_references 52 = .ok (.iload_n 3, 1) := by decide +kernel
theorem dX3_references_53 : decode cX3_references 53 = .ok (.iaload, 1) := by decide +kernel
theorem dX3_references_54 : decode cX3_references 54 = .ok (.if_icmp .eq 6, 3) := by decide +kernel
theorem dX3_references_57 : decode cX3_references 57 = .ok (.iinc 2 1, 3) := by decide +kernel
theorem dX3_references_60 : decode cX3_references 60 = .ok (.iinc 4 1, 3) := by decide +kernel
theorem dX3_references_63 : decode cX3_references 63 = .ok (.goto (-50), 3) := by decide +kernel
theorem dX3_references_66 : decode cX3_references 66 = .ok (.iinc 3 1, 3) := by decide +kernel
theorem dX3_references_69 : decode cX3_references 69 = .ok (.goto (-65), 3) := by decide +kernel
theorem dX3_references_72 : decode cX3_references 72 = .ok (.iload_n 2, 1) := by decide +kernel
theorem dX3_references_73 : decode cX3_references 73 = .ok (.ireturn, 1) := by decide +kernel
theorem dX3_referencesTo_0 : decode cX3_referencesTo 0 = .ok (.iconst 0, 1) := by decide +kernel
theorem dX3_referencesTo_1 : decode cX3_referencesTo 1 = .ok (.istore_n 2, 1) := by decide +kernel
theorem dX3_referencesTo_2 : decode cX3_referencesTo 2 = .ok (.iconst 0, 1) := by decide +kernel
theorem dX3_referencesTo_3 : decode cX3_referencesTo 3 = .ok (.istore_n 3, 1) := by decide +kernel
theorem dX3_referencesTo_4 : decode cX3_referencesTo 4 = .ok (.iload_n 3, 1) := by decide +kernel
theorem dX3_referencesTo_5 : decode cX3_referencesTo 5 = .ok (.bipush 24, 2) := by decide +kernel
theorem dX3_referencesTo_7 : decode cX3_referencesTo 7 = .ok (.if_icmp .ge 46, 3) := by decide +kernel
theorem dX3_referencesTo_10 : decode cX3_referencesTo 10 = .ok (.iconst 0, 1) := by decide +kernel
theorem dX3_referencesTo_11 : decode cX3_referencesTo 11 = .ok (.istore 4, 2) := by decide +kernel
theorem dX3_referencesTo_13 : decode cX3_referencesTo 13 = .ok (.iload 4, 2) := by decide +kernel
theorem dX3_referencesTo_15 : decode cX3_referencesTo 15 = .ok (.iconst 2, 1) := by decide +kernel
theorem dX3_referencesTo_16 : decode cX3_referencesTo 16 = .ok (.if_icmp .ge 31, 3) := by decide +kernel
theorem dX3_referencesTo_19 : decode cX3_referencesTo 19 = .ok (.iload_n 2, 1) := by decide +kernel
theorem dX3_referencesTo_20 : decode cX3_referencesTo 20 = .ok (.aload_n 0, 1) := by decide +kernel
theorem dX3_referencesTo_21 : decode cX3_referencesTo 21 = .ok (.iload_n 3, 1) := by decide +kernel
theorem dX3_referencesTo_22 : decode cX3_referencesTo 22 = .ok (.iload 4, 2) := by decide +kernel
theorem dX3_referencesTo_24 : decode cX3_referencesTo 24 = .ok (.invokevirtual 83, 3) := by decide +kernel
theorem dX3_referencesTo_27 : decode cX3_referencesTo 27 = .ok (.iload_n 1, 1) := by decide +kernel
theorem dX3_referencesTo_28 : decode cX3_referencesTo 28 = .ok (.if_icmp .ne 7, 3) := by decide +kernel
theorem dX3_referencesTo_31 : decode cX3_referencesTo 31 = .ok (.iconst 1, 1) := by decide +kernel
theorem dX3_referencesTo_32 : decode cX3_referencesTo 32 = .ok (.goto 4, 3) := by decide +kernel
theorem dX3_referencesTo_35 : decode cX3_referencesTo 35 = .ok (.iconst 0, 1) := by decide +kernel
theorem dX3_referencesTo_36 : decode cX3_referencesTo 36 = .ok (.invokestatic 91, 3) := by decide +kernel
theorem dX3_referencesTo_39 : decode cX3_referencesTo 39 = .ok (.iadd, 1) := by decide +kernel
theorem dX3_referencesTo_40 : decode cX3_referencesTo 40 = .ok (.istore_n 2, 1) := by decide +kernel
theorem dX3_referencesTo_41 : decode cX3_referencesTo 41 = .ok (.iinc 4 1, 3) := by decide +kernel
theorem dX3_referencesTo_44 : decode cX3_referencesTo 44 = .ok (.goto (-31), 3) := by decide +kernel
theorem dX3_referencesTo_47 : decode cX3_referencesTo 47 = .ok (.iinc 3 1, 3) := by decide +kernel
theorem dX3_referencesTo_50 : decode cX3_referencesTo 50 = .ok (.goto (-46), 3) := by decide +kernel
theorem dX3_referencesTo_53 : decode cX3_referencesTo 53 = .ok (.iload_n 2, 1) := by decide +kernel
theorem dX3_referencesTo_54 : decode cX3_referencesTo 54 = .ok (.ireturn, 1) := by decide +kernel
theorem dX4_init_0 : decode cX4_init 0 = .ok (.aload_n 0, 1) := by decide +kernel
theorem dX4_init_1 : decode cX4_init 1 = .ok (.invokespecial 3, 3) := by decide +kernel
theorem dX4_init_4 : decode cX4_init 4 = .ok (.aload_n 0, 1) := by decide +kernel
theorem dX4_init_5 : decode cX4_init 5 = .ok (.bipush 60, 2) := by decide +kernel
theorem dX4_init_7 : decode cX4_init 7 = .ok (.newarray .int, 2) := by decide +kernel
theorem dX4_init_9 : decode cX4_init 9 = .ok (.putfield 11, 3) := by decide +kernel
theorem dX4_init_12 : decode cX4_init 12 = .ok (.return_, 1) := by decide +kernel
theorem dX4_isFull_0 : decode cX4_isFull 0 = .ok (.aload_n 0, 1) := by decide +kernel
theorem dX4_isFull_1 : decode cX4_isFull 1 = .ok (.getfield 15, 3) := by decide +kernel
theorem dX4_isFull_4 : decode cX4_isFull 4 = .ok (.bipush 60, 2) := by decide +kernel
theorem dX4_isFull_6 : decode cX4_isFull 6 = .ok (.if_icmp .lt 7, 3) := by decide +kernel
theorem dX4_isFull_9 : decode cX4_isFull 9 = .ok (.iconst 1, 1) := by decide +kernel
theorem dX4_isFull_10 : decode cX4_isFull 10 = .ok (.goto 4, 3) := by decide +kernel
theorem dX4_isFull_13 : decode cX4_isFull 13 = .ok (.iconst 0, 1) := by decide +kernel
theorem dX4_isFull_14 : decode cX4_isFull 14 = .ok (.ireturn, 1) := by decide +kernel
theorem dX4_add_0 : decode cX4_add 0 = .ok (.aload_n 0, 1) := by decide +kernel
theorem dX4_add_1 : decode cX4_add 1 = .ok (.getfield 15, 3) := by decide +kernel
theorem dX4_add_4 : decode cX4_add 4 = .ok (.ifCond .lt 32, 3) := by decide +kernel
theorem dX4_add_7 : decode cX4_add 7 = .ok (.aload_n 0, 1) := by decide +kernel
theorem dX4_add_8 : decode cX4_add 8 = .ok (.getfield 15, 3) := by decide +kernel
theorem dX4_add_11 : decode cX4_add 11 = .ok (.bipush 60, 2) := by decide +kernel
theorem dX4_add_13 : decode cX4_add 13 = .ok (.if_icmp .ge 23, 3) := by decide +kernel
theorem dX4_add_16 : decode cX4_add 16 = .ok (.aload_n 0, 1) := by decide +kernel
theorem dX4_add_17 : decode cX4_add 17 = .ok (.getfield 11, 3) := by decide +kernel
theorem dX4_add_20 : decode cX4_add 20 = .ok (.aload_n 0, 1) := by decide +kernel
theorem dX4_add_21 : decode cX4_add 21 = .ok (.getfield 15, 3) := by decide +kernel
theorem dX4_add_24 : decode cX4_add 24 = .ok (.iload_n 1, 1) := by decide +kernel
theorem dX4_add_25 : decode cX4_add 25 = .ok (.iastore, 1) := by decide +kernel
theorem dX4_add_26 : decode cX4_add 26 = .ok (.aload_n 0, 1) := by decide +kernel
theorem dX4_add_27 : decode cX4_add 27 = .ok (.dup, 1) := by decide +kernel
theorem dX4_add_28 : decode cX4_add 28 = .ok (.getfield 15, 3) := by decide +kernel
theorem dX4_add_31 : decode cX4_add 31 = .ok (.iconst 1, 1) := by decide +kernel
theorem dX4_add_32 : decode cX4_add 32 = .ok (.iadd, 1) := by decide +kernel
theorem dX4_add_33 : decode cX4_add 33 = .ok (.putfield 15, 3) := by decide +kernel
theorem dX4_add_36 : decode cX4_add 36 = .ok (.return_, 1) := by decide +kernel
theorem dX4_empty_0 : decode cX4_empty 0 = .ok (.aload_n 0, 1) := by decide +kernel
theorem dX4_empty_1 : decode cX4_empty 1 = .ok (.iconst 0, 1) := by decide +kernel
theorem dX4_empty_2 : decode cX4_empty 2 = .ok (.putfield 15, 3) := by decide +kernel
theorem dX4_empty_5 : decode cX4_empty 5 = .ok (.return_, 1) := by decide +kernel
theorem dX4_errorPlace_0 : decode cX4_errorPlace 0 = .ok (.iconst 0, 1) := by decide +kernel
theorem dX4_errorPlace_1 : decode cX4_errorPlace 1 = .ok (.istore_n 1, 1) := by decide +kernel
theorem dX4_errorPlace_2 : decode cX4_errorPlace 2 = .ok (.iconst 0, 1) := by decide +kernel
theorem dX4_errorPlace_3 : decode cX4_errorPlace 3 = .ok (.istore_n 2, 1) := by decide +kernel
theorem dX4_errorPlace_4 : decode cX4_errorPlace 4 = .ok (.iload_n 2, 1) := by decide +kernel
theorem dX4_errorPlace_5 : decode cX4_errorPlace 5 = .ok (.bipush 60, 2) := by decide +kernel
theorem dX4_errorPlace_7 : decode cX4_errorPlace 7 = .ok (.if_icmp .ge 35, 3) := by decide +kernel
theorem dX4_errorPlace_10 : decode cX4_errorPlace 10 = .ok (.iload_n 2, 1) := by decide +kernel
theorem dX4_errorPlace_11 : decode cX4_errorPlace 11 = .ok (.aload_n 0, 1) := by decide +kernel
theorem dX4_errorPlace_12 : decode cX4_errorPlace 12 = .ok (.getfield 15, 3) := by decide +kernel
theorem dX4_errorPlace_15 : decode cX4_errorPlace 15 = .ok (.if_icmp .ge 27, 3) := by decide +kernel
theorem dX4_errorPlace_18 : decode cX4_errorPlace 18 = .ok (.iload_n 1, 1) := by decide +kernel
theorem dX4_errorPlace_19 : decode cX4_errorPlace 19 = .ok (.aload_n 0, 1) := by decide +kernel
theorem dX4_errorPlace_20 : decode cX4_errorPlace 20 = .ok (.getfield 11, 3) := by decide +kernel
theorem dX4_errorPlace_23 : decode cX4_errorPlace 23 = .ok (.iload_n 2, 1) := by decide +kernel
theorem dX4_errorPlace_24 : decode cX4_errorPlace 24 = .ok (.iaload, 1) := by decide +kernel
theorem dX4_errorPlace_25 : decode cX4_errorPlace 25 = .ok (.invokestatic 19, 3) := by decide +kernel
theorem dX4_errorPlace_28 : decode cX4_errorPlace 28 = .ok (.istore_n 1, 1) := by decide +kernel
theorem dX4_errorPlace_29 : decode cX4_errorPlace 29 = .ok (.iload_n 1, 1) := by decide +kernel
theorem dX4_errorPlace_30 : decode cX4_errorPlace 30 = .ok (.iconst (-1), 1) := by decide +kernel
theorem dX4_errorPlace_31 : decode cX4_errorPlace 31 = .ok (.if_icmp .ne 5, 3) := by decide +kernel
theorem dX4_errorPlace_34 : decode cX4_errorPlace 34 = .ok (.iload_n 2, 1) := by decide +kernel
theorem dX4_errorPlace_35 : decode cX4_errorPlace 35 = .ok (.ireturn, 1) := by decide +kernel
theorem dX4_errorPlace_36 : decode cX4_errorPlace 36 = .ok (.iinc 2 1, 3) := by decide +kernel
theorem dX4_errorPlace_39 : decode cX4_errorPlace 39 = .ok (.goto (-35), 3) := by decide +kernel
theorem dX4_errorPlace_42 : decode cX4_errorPlace 42 = .ok (.aload_n 0, 1) := by decide +kernel
theorem dX4_errorPlace_43 : decode cX4_errorPlace 43 = .ok (.getfield 15, 3) := by decide +kernel
theorem dX4_errorPlace_46 : decode cX4_errorPlace 46 = .ok (.ireturn, 1) := by decide +kernel
theorem dX4_isComplete_0 : decode cX4_isComplete 0 = .ok (.iconst 0, 1) := by decide +kernel
theorem dX4_isComplete_1 : decode cX4_isComplete 1 = .ok (.istore_n 1, 1) := by decide +kernel
theorem dX4_isComplete_2 : decode cX4_isComplete 2 = .ok (.iconst 0, 1) := by decide +kernel
theorem dX4_isComplete_3 : decode cX4_isComplete 3 = .ok (.istore_n 2, 1) := by decide +kernel
theorem dX4_isComplete_4 : decode cX4_isComplete 4 = .ok (.iload_n 2, 1) := by decide +kernel
theorem dX4_isComplete_5 : decode cX4_isComplete 5 = .ok (.bipush 60, 2) := by decide +kernel
theorem dX4_isComplete_7 : decode cX4_isComplete 7 = .ok (.if_icmp .ge 28, 3) := by decide +kernel
theorem dX4_isComplete_10 : decode cX4_isComplete 10 = .ok (.iload_n 2, 1) := by decide +kernel
theorem dX4_isComplete_11 : decode cX4_isComplete 11 = .ok (.aload_n 0, 1) := by decide +kernel
theorem dX4_isComplete_12 : decode cX4_isComplete 12 = .ok (.getfield 15, 3) := by decide +kernel
theorem dX4_isComplete_15 : decode cX4_isComplete 15 = .ok (.if_icmp .ge 20, 3) := by decide +kernel
theorem dX4_isComplete_18 : decode cX4_isComplete 18 = .ok (.iload_n 1, 1) := by decide +kernel
theorem dX4_isComplete_19 : decode cX4_isComplete 19 = .ok (.aload_n 0, 1) := by decide +kernel
theorem dX4_isComplete_20 : decode cX4_isComplete 20 = .ok (.getfield 11, 3) := by decide +kernel
theorem dX4_isComplete_23 : decode cX4_isComplete 23 = .ok (.iload_n 2, 1) := by decide +kernel
theorem dX4_isComplete_24 : decode cX4_isComplete 24 = .ok (.iaload, 1) := by decide +kernel
theorem dX4_isComplete_25 : decode cX4_isComplete 25 = .ok (.invokestatic 19, 3) := by decide +kernel
theorem dX4_isComplete_28 : decode cX4_isComplete 28 = .ok (.istore_n 1, 1) := by decide +kernel
theorem dX4_isComplete_29 : decode cX4_isComplete 29 = .ok (.iinc 2 1, 3) := by decide +kernel
theorem dX4_isComplete_32 : decode cX4_isComplete 32 = .ok (.goto (-28), 3) := by decide +kernel
theorem dX4_isComplete_35 : decode cX4_isComplete 35 = .ok (.iload_n 1, 1) := by decide +kernel
theorem dX4_isComplete_36 : decode cX4_isComplete 36 = .ok (.iconst (-1), 1) := by decide +kernel
theorem dX4_isComplete_37 : decode cX4_isComplete 37 = .ok (.if_icmp .eq 16, 3) := by decide +kernel
theorem dX4_isComplete_40 : decode cX4_isComplete 40 = .ok (.iload_n 1, 1) := by decide +kernel
theorem dX4_isComplete_41 : decode cX4_isComplete 41 = .ok (.ifCond .eq 12, 3) := by decide +kernel
theorem dX4_isComplete_44 : decode cX4_isComplete 44 = .ok (.iload_n 1, 1) := by decide +kernel
theorem dX4_isComplete_45 : decode cX4_isComplete 45 = .ok (.iconst 4, 1) := by decide +kernel
theorem dX4_isComplete_46 : decode cX4_isComplete 46 = .ok (.if_icmp .eq 7, 3) := by decide +kernel
theorem dX4_isComplete_49 : decode cX4_isComplete 49 = .ok (.iconst 1, 1) := by decide +kernel
theorem dX4_isComplete_50 : decode cX4_isComplete 50 = .ok (.goto 4, 3) := by decide +kernel
theorem dX4_isComplete_53 : decode cX4_isComplete 53 = .ok (.iconst 0, 1) := by decide +kernel
theorem dX4_isComplete_54 : decode cX4_isComplete 54 = .ok (.ireturn, 1) := by decide +kernel
theorem dX4_stageAfter_0 : decode cX4_stageAfter 0 = .ok (.iload_n 0, 1) := by decide +kernel
theorem dX4_stageAfter_1 : decode cX4_stageAfter 1 = .ok (.tableswitch 166 0 7 #[47, 74, 94, 99, 114, 119, 140, 161], 47) := by decide +kernel
theorem dX4_stageAfter_48 : decode cX4_stageAfter 48 = .ok (.iload_n 1, 1) := by decide +kernel
theorem dX4_stageAfter_49 : decode cX4_stageAfter 49 = .ok (.bipush 49, 2) := by decide +kernel
theorem dX4_stageAfter_51 : decode cX4_stageAfter 51 = .ok (.if_icmp .ne 7, 3) := by decide +kernel
theorem dX4_stageAfter_54 : decode cX4_stageAfter 54 = .ok (.iconst 1, 1) := by decide +kernel
theorem dX4_stageAfter_55 : decode cX4_stageAfter 55 = .ok (.goto 19, 3) := by decide +kernel
theorem dX4_stageAfter_58 : decode cX4_stageAfter 58 = .ok (.iload_n 1, 1) := by decide +kernel
theorem dX4_stageAfter_59 : decode cX4_stageAfter 59 = .ok (.bipush 50, 2) := by decide +kernel
theorem dX4_stageAfter_61 : decode cX4_stageAfter 61 = .ok (.bipush 57, 2) := by decide +kernel
theorem dX4_stageAfter_63 : decode cX4_stageAfter 63 = .ok (.invokestatic 23, 3) := by decide +kernel
theorem dX4_stageAfter_66 : decode cX4_stageAfter 66 = .ok (.ifCond .eq 7, 3) := by decide +kernel
theorem dX4_stageAfter_69 : decode cX4_stageAfter 69 = .ok (.iconst 2, 1) := by decide +kernel
theorem dX4_stageAfter_70 : decode cX4_stageAfter 70 = .ok (.goto 4, 3) := by decide +kernel
theorem dX4_stageAfter_73 : decode cX4_stageAfter 73 = .ok (.iconst (-1), 1) := by decide +kernel
theorem dX4_stageAfter_74 : decode cX4_stageAfter 74 = .ok (.ireturn, 1) := by decide +kernel
theorem dX4_stageAfter_75 : decode cX4_stageAfter 75 = .ok (.iload_n 1, 1) := by decide +kernel
theorem dX4_stageAfter_76 : decode cX4_stageAfter 76 = .ok (.bipush 48, 2) := by decide +kernel
theorem dX4_stageAfter_78 : decode cX4_stageAfter 78 = .ok (.bipush 54, 2) := by decide +kernel
theorem dX4_stageAfter_80 : decode cX4_stageAfter 80 = .ok (.invokestatic 23, 3) := by decide +kernel
theorem dX4_stageAfter_83 : decode cX4_stageAfter 83 = .ok (.ifCond .eq 7, 3) := by decide +kernel
theorem dX4_stageAfter_86 : decode cX4_stageAfter 86 = .ok (.iconst 2, 1) := by decide +kernel
theorem dX4_stageAfter_87 : decode cX4_stageAfter 87 = .ok (.goto 7, 3) := by decide +kernel
theorem dX4_stageAfter_90 : decode cX4_stageAfter 90 = .ok (.iload_n 1, 1) := by decide +kernel
theorem dX4_stageAfter_91 : decode cX4_stageAfter 91 = .ok (.invokestatic 27, 3) := by decide +kernel
theorem dX4_stageAfter_94 : decode cX4_stageAfter 94 = .ok (.ireturn, 1) := by decide +kernel
theorem dX4_stageAfter_95 : decode cX4_stageAfter 95 = .ok (.iload_n 1, 1) := by decide +kernel
theorem dX4_stageAfter_96 : decode cX4_stageAfter 96 = .ok (.invokestatic 27, 3) := by decide +kernel
theorem dX4_stageAfter_99 : decode cX4_stageAfter 99 = .ok (.ireturn, 1) := by decide +kernel
theorem dX4_stageAfter_100 : decode cX4_stageAfter 100 = .ok (.iload_n 1, 1) := by decide +kernel
theorem dX4_stageAfter_101 : decode cX4_stageAfter 101 = .ok (.bipush 60, 2) := by decide +kernel
theorem dX4_stageAfter_103 : decode cX4_stageAfter 103 = .ok (.if_icmp .ne 7, 3) := by decide +kernel
theorem dX4_stageAfter_106 : decode cX4_stageAfter 106 = .ok (.iconst 4, 1) := by decide +kernel
theorem dX4_stageAfter_107 : decode cX4_stageAfter 107 = .ok (.goto 7, 3) := by decide +kernel
theorem dX4_stageAfter_110 : decode cX4_stageAfter 110 = .ok (.iload_n 1, 1) := by decide +kernel
theorem dX4_stageAfter_111 : decode cX4_stageAfter 111 = .ok (.invokestatic 31, 3) := by decide +kernel
theorem dX4_stageAfter_114 : decode cX4_stageAfter 114 = .ok (.ireturn, 1) := by decide +kernel
theorem dX4_stageAfter_115 : decode cX4_stageAfter 115 = .ok (.iload_n 1, 1) := by decide +kernel
theorem dX4_stageAfter_116 : decode cX4_stageAfter 116 = .ok (.invokestatic 34, 3) := by decide +kernel
theorem dX4_stageAfter_119 : decode cX4_stageAfter 119 = .ok (.ireturn, 1) := by decide +kernel
theorem dX4_stageAfter_120 : decode cX4_stageAfter 120 = .ok (.iload_n 1, 1) := by decide +kernel
theorem dX4_stageAfter_121 : decode cX4_stageAfter 121 = .ok (.bipush 48, 2) := by decide +kernel
theorem dX4_stageAfter_123 : decode cX4_stageAfter 123 = .ok (.bipush 57, 2) := by decide +kernel
theorem dX4_stageAfter_125 : decode cX4_stageAfter 125 = .ok (.invokestatic 23, 3) := by decide +kernel
theorem dX4_stageAfter_128 : decode cX4_stageAfter 128 = .ok (.ifCond .eq 8, 3) := by decide +kernel
theorem dX4_stageAfter_131 : decode cX4_stageAfter 131 = .ok (.bipush 7, 2) := by decide +kernel
theorem dX4_stageAfter_133 : decode cX4_stageAfter 133 = .ok (.goto 7, 3) := by decide +kernel
theorem dX4_stageAfter_136 : decode cX4_stageAfter 136 = .ok (.iload_n 1, 1) := by decide +kernel
theorem dX4_stageAfter_137 : decode cX4_stageAfter 137 = .ok (.invokestatic 31, 3) := by decide +kernel
theorem dX4_stageAfter_140 : decode cX4_stageAfter 140 = .ok (.ireturn, 1) := by decide +kernel
theorem dX4_stageAfter_141 : decode cX4_stageAfter 141 = .ok (.iload_n 1, 1) := by decide +kernel
theorem dX4_stageAfter_142 : decode cX4_stageAfter 142 = .ok (.bipush 48, 2) := by decide +kernel
theorem dX4_stageAfter_144 : decode cX4_stageAfter 144 = .ok (.bipush 51, 2) := by decide +kernel
theorem dX4_stageAfter_146 : decode cX4_stageAfter 146 = .ok (.invokestatic 23, 3) := by decide +kernel
theorem dX4_stageAfter_149 : decode cX4_stageAfter 149 = .ok (.ifCond .eq 8, 3) := by decide +kernel
theorem dX4_stageAfter_152 : decode cX4_stageAfter 152 = .ok (.bipush 7, 2) := by decide +kernel
theorem dX4_stageAfter_154 : decode cX4_stageAfter 154 = .ok (.goto 7, 3) := by decide +kernel
theorem dX4_stageAfter_157 : decode cX4_stageAfter 157 = .ok (.iload_n 1, 1) := by decide +kernel
theorem dX4_stageAfter_158 : decode cX4_stageAfter 158 = .ok (.invokestatic 31, 3) := by decide +kernel
theorem dX4_stageAfter_161 : decode cX4_stageAfter 161 = .ok (.ireturn, 1) := by decide +kernel
theorem dX4_stageAfter_162 : decode cX4_stageAfter 162 = .ok (.iload_n 1, 1) := by decide +kernel
theorem dX4_stageAfter_163 : decode cX4_stageAfter 163 = .ok (.invokestatic 31, 3) := by decide +kernel
theorem dX4_stageAfter_166 : decode cX4_stageAfter 166 = .ok (.ireturn, 1) := by decide +kernel
theorem dX4_stageAfter_167 : decode cX4_stageAfter 167 = .ok (.iconst (-1), 1) := by decide +kernel
theorem dX4_stageAfter_168 : decode cX4_stageAfter 168 = .ok (.ireturn, 1) := by decide +kernel
theorem dX4_stageBehindSize_0 : decode cX4_stageBehindSize 0 = .ok (.iload_n 0, 1) := by decide +kernel
theorem dX4_stageBehindSize_1 : decode cX4_stageBehindSize 1 = .ok (.bipush 114, 2) := by decide +kernel
theorem dX4_stageBehindSize_3 : decode cX4_stageBehindSize 3 = .ok (.if_icmp .ne 5, 3) := by decide +kernel
theorem dX4_stageBehindSize_6 : decode cX4_stageBehindSize 6 = .ok (.iconst 3, 1) := by decide +kernel
theorem dX4_stageBehindSize_7 : decode cX4_stageBehindSize 7 = .ok (.ireturn, 1) := by decide +kernel
theorem dX4_stageBehindSize_8 : decode cX4_stageBehindSize 8 = .ok (.iload_n 0, 1) := by decide +kernel
theorem dX4_stageBehindSize_9 : decode cX4_stageBehindSize 9 = .ok (.bipush 60, 2) := by decide +kernel
theorem dX4_stageBehindSize_11 : decode cX4_stageBehindSize 11 = .ok (.if_icmp .ne 7, 3) := by decide +kernel
theorem dX4_stageBehindSize_14 : decode cX4_stageBehindSize 14 = .ok (.iconst 4, 1) := by decide +kernel
theorem dX4_stageBehindSize_15 : decode cX4_stageBehindSize 15 = .ok (.goto 7, 3) := by decide +kernel
theorem dX4_stageBehindSize_18 : decode cX4_stageBehindSize 18 = .ok (.iload_n 0, 1) := by decide +kernel
theorem dX4_stageBehindSize_19 : decode cX4_stageBehindSize 19 = .ok (.invokestatic 31, 3) := by decide +kernel
theorem dX4_stageBehindSize_22 : decode cX4_stageBehindSize 22 = .ok (.ireturn, 1) := by decide +kernel
theorem dX4_stageInHolder_0 : decode cX4_stageInHolder 0 = .ok (.iload_n 0, 1) := by decide +kernel
theorem dX4_stageInHolder_1 : decode cX4_stageInHolder 1 = .ok (.bipush 49, 2) := by decide +kernel
theorem dX4_stageInHolder_3 : decode cX4_stageInHolder 3 = .ok (.if_icmp .ne 5, 3) := by decide +kernel
theorem dX4_stageInHolder_6 : decode cX4_stageInHolder 6 = .ok (.iconst 5, 1) := by decide +kernel
theorem dX4_stageInHolder_7 : decode cX4_stageInHolder 7 = .ok (.ireturn, 1) := by decide +kernel
theorem dX4_stageInHolder_8 : decode cX4_stageInHolder 8 = .ok (.iload_n 0, 1) := by decide +kernel
theorem dX4_stageInHolder_9 : decode cX4_stageInHolder 9 = .ok (.bipush 50, 2) := by decide +kernel
theorem dX4_stageInHolder_11 : decode cX4_stageInHolder 11 = .ok (.if_icmp .ne 6, 3) := by decide +kernel
theorem dX4_stageInHolder_14 : decode cX4_stageInHolder 14 = .ok (.bipush 6, 2) := by decide +kernel
theorem dX4_stageInHolder_16 : decode cX4_stageInHolder 16 = .ok (.ireturn, 1) := by decide +kernel
theorem dX4_stageInHolder_17 : decode cX4_stageInHolder 17 = .ok (.iload_n 0, 1) := by decide +kernel
theorem dX4_stageInHolder_18 : decode cX4_stageInHolder 18 = .ok (.bipush 48, 2) := by decide +kernel
theorem dX4_stageInHolder_20 : decode cX4_stageInHolder 20 = .ok (.bipush 57, 2) := by decide +kernel
theorem dX4_stageInHolder_22 : decode cX4_stageInHolder 22 = .ok (.invokestatic 23, 3) := by decide +kernel
theorem dX4_stageInHolder_25 : decode cX4_stageInHolder 25 = .ok (.ifCond .eq 8, 3) := by decide +kernel
theorem dX4_stageInHolder_28 : decode cX4_stageInHolder 28 = .ok (.bipush 7, 2) := by decide +kernel
theorem dX4_stageInHolder_30 : decode cX4_stageInHolder 30 = .ok (.goto 4, 3) := by decide +kernel
theorem dX4_stageInHolder_33 : decode cX4_stageInHolder 33 = .ok (.iconst (-1), 1) := by decide +kernel
theorem dX4_stageInHolder_34 : decode cX4_stageInHolder 34 = .ok (.ireturn, 1) := by decide +kernel
theorem dX4_stageBehindPart_0 : decode cX4_stageBehindPart 0 = .ok (.iload_n 0, 1) := by decide +kernel
theorem dX4_stageBehindPart_1 : decode cX4_stageBehindPart 1 = .ok (.bipush 59, 2) := by decide +kernel
theorem dX4_stageBehindPart_3 : decode cX4_stageBehindPart 3 = .ok (.if_icmp .ne 7, 3) := by decide +kernel
theorem dX4_stageBehindPart_6 : decode cX4_stageBehindPart 6 = .ok (.iconst 0, 1) := by decide +kernel
theorem dX4_stageBehindPart_7 : decode cX4_stageBehindPart 7 = .ok (.goto 4, 3) := by decide +kernel
theorem dX4_stageBehindPart_10 : decode cX4_stageBehindPart 10 = .ok (.iconst (-1), 1) := by decide +kernel
theorem dX4_stageBehindPart_11 : decode cX4_stageBehindPart 11 = .ok (.ireturn, 1) := by decide +kernel
theorem dX4_isDigit_0 : decode cX4_isDigit 0 = .ok (.iload_n 0, 1) := by decide +kernel
theorem dX4_isDigit_1 : decode cX4_isDigit 1 = .ok (.iload_n 1, 1) := by decide +kernel
theorem dX4_isDigit_2 : decode cX4_isDigit 2 = .ok (.if_icmp .lt 12, 3) := by decide +kernel
theorem dX4_isDigit_5 : decode cX4_isDigit 5 = .ok (.iload_n 0, 1) := by decide +kernel
theorem dX4_isDigit_6 : decode cX4_isDigit 6 = .ok (.iload_n 2, 1) := by decide +kernel
theorem dX4_isDigit_7 : decode cX4_isDigit 7 = .ok (.if_icmp .gt 7, 3) := by decide +kernel
theorem dX4_isDigit_10 : decode cX4_isDigit 10 = .ok (.iconst 1, 1) := by decide +kernel
theorem dX4_isDigit_11 : decode cX4_isDigit 11 = .ok (.goto 4, 3) := by decide +kernel
theorem dX4_isDigit_14 : decode cX4_isDigit 14 = .ok (.iconst 0, 1) := by decide +kernel
theorem dX4_isDigit_15 : decode cX4_isDigit 15 = .ok (.ireturn, 1) := by decide +kernel
theorem dX4_readPart_0 : decode cX4_readPart 0 = .ok (.aload_n 0, 1) := by decide +kernel
theorem dX4_readPart_1 : decode cX4_readPart 1 = .ok (.iconst 0, 1) := by decide +kernel
theorem dX4_readPart_2 : decode cX4_readPart 2 = .ok (.putfield 37, 3) := by decide +kernel
theorem dX4_readPart_5 : decode cX4_readPart 5 = .ok (.aload_n 0, 1) := by decide +kernel
theorem dX4_readPart_6 : decode cX4_readPart 6 = .ok (.iconst 0, 1) := by decide +kernel
theorem dX4_readPart_7 : decode cX4_readPart 7 = .ok (.putfield 40, 3) := by decide +kernel
theorem dX4_readPart_10 : decode cX4_readPart 10 = .ok (.aload_n 0, 1) := by decide +kernel
theorem dX4_readPart_11 : decode cX4_readPart 11 = .ok (.iconst (-1), 1) := by decide +kernel
theorem dX4_readPart_12 : decode cX4_readPart 12 = .ok (.putfield 44, 3) := by decide +kernel
theorem dX4_readPart_15 : decode cX4_readPart 15 = .ok (.iload_n 1, 1) := by decide +kernel
theorem dX4_readPart_16 : decode cX4_readPart 16 = .ok (.istore_n 2, 1) := by decide +kernel
theorem dX4_readPart_17 : decode cX4_readPart 17 = .ok (.iload_n 2, 1) := by decide +kernel
theorem dX4_readPart_18 : decode cX4_readPart 18 = .ok (.ifCond .lt 111, 3) := by decide +kernel
theorem dX4_readPart_21 : decode cX4_readPart 21 = .ok (.iload_n 2, 1) := by decide +kernel
theorem dX4_readPart_22 : decode cX4_readPart 22 = .ok (.bipush 60, 2) := by decide +kernel
theorem dX4_readPart_24 : decode cX4_readPart 24 = .ok (.if_icmp .ge 105, 3) := by decide +kernel
theorem dX4_readPart_27 : decode cX4_readPart 27 = .ok (.iload_n 2, 1) := by decide +kernel
theorem dX4_readPart_28 : decode cX4_readPart 28 = .ok (.aload_n 0, 1) := by decide +kernel
theorem dX4_readPart_29 : decode cX4_readPart 29 = .ok (.getfield 15, 3) := by decide +kernel
theorem dX4_readPart_32 : decode cX4_readPart 32 = .ok (.if_icmp .ge 97, 3) := by decide +kernel
theorem dX4_readPart_35 : decode cX4_readPart 35 = .ok (.aload_n 0, 1) := by decide +kernel
theorem dX4_readPart_36 : decode cX4_readPart 36 = .ok (.getfield 11, 3) := by decide +kernel
theorem dX4_readPart_39 : decode cX4_readPart 39 = .ok (.iload_n 2, 1) := by decide +kernel
theorem dX4_readPart_40 : decode cX4_readPart 40 = .ok (.iaload, 1) := by decide +kernel
theorem dX4_readPart_41 : decode cX4_readPart 41 = .ok (.istore_n 3, 1) := by decide +kernel
theorem dX4_readPart_42 : decode cX4_readPart 42 = .ok (.iload_n 3, 1) := by decide +kernel
theorem dX4_readPart_43 : decode cX4_readPart 43 = .ok (.bipush 59, 2) := by decide +kernel
theorem dX4_readPart_45 : decode cX4_readPart 45 = .ok (.if_icmp .ne 7, 3) := by decide +kernel
theorem dX4_readPart_48 : decode cX4_readPart 48 = .ok (.iload_n 2, 1) := by decide +kernel
theorem dX4_readPart_49 : decode cX4_readPart 49 = .ok (.iconst 1, 1) := by decide +kernel
theorem dX4_readPart_50 : decode cX4_readPart 50 = .ok (.iadd, 1) := by decide +kernel
theorem dX4_readPart_51 : decode cX4_readPart 51 = .ok (.ireturn, 1) := by decide +kernel
theorem dX4_readPart_52 : decode cX4_readPart 52 = .ok (.iload_n 3, 1) := by decide +kernel
theorem dX4_readPart_53 : decode cX4_readPart 53 = .ok (.bipush 114, 2) := by decide +kernel
theorem dX4_readPart_55 : decode cX4_readPart 55 = .ok (.if_icmp .ne 11, 3) := by decide +kernel
theorem dX4_readPart_58 : decode cX4_readPart 58 = .ok (.aload_n 0, 1) := by decide +kernel
theorem dX4_readPart_59 : decode cX4_readPart 59 = .ok (.iconst 1, 1) := by decide +kernel
theorem dX4_readPart_60 : decode cX4_readPart 60 = .ok (.putfield 40, 3) := by decide +kernel
theorem dX4_readPart_63 : decode cX4_readPart 63 = .ok (.goto 60, 3) := by decide +kernel
theorem dX4_readPart_66 : decode cX4_readPart 66 = .ok (.iload_n 3, 1) := by decide +kernel
theorem dX4_readPart_67 : decode cX4_readPart 67 = .ok (.bipush 60, 2) := by decide +kernel
theorem dX4_readPart_69 : decode cX4_readPart 69 = .ok (.if_icmp .ne 11, 3) := by decide +kernel
theorem dX4_readPart_72 : decode cX4_readPart 72 = .ok (.aload_n 0, 1) := by decide +kernel
theorem dX4_readPart_73 : decode cX4_readPart 73 = .ok (.iconst 0, 1) := by decide +kernel
theorem dX4_readPart_74 : decode cX4_readPart 74 = .ok (.putfield 44, 3) := by decide +kernel
theorem dX4_readPart_77 : decode cX4_readPart 77 = .ok (.goto 46, 3) := by decide +kernel
theorem dX4_readPart_80 : decode cX4_readPart 80 = .ok (.aload_n 0, 1) := by decide +kernel
theorem dX4_readPart_81 : decode cX4_readPart 81 = .ok (.getfield 44, 3) := by decide +kernel
theorem dX4_readPart_84 : decode cX4_readPart 84 = .ok (.iconst (-1), 1) := by decide +kernel
theorem dX4_readPart_85 : decode cX4_readPart 85 = .ok (.if_icmp .ne 22, 3) := by decide +kernel
theorem dX4_readPart_88 : decode cX4_readPart 88 = .ok (.aload_n 0, 1) := by decide +kernel
theorem dX4_readPart_89 : decode cX4_readPart 89 = .ok (.aload_n 0, 1) := by decide +kernel
theorem dX4_readPart_90 : decode cX4_readPart 90 = .ok (.getfield 37, 3) := by decide +kernel
theorem dX4_readPart_93 : decode cX4_readPart 93 = .ok (.bipush 10, 2) := by decide +kernel
theorem dX4_readPart_95 : decode cX4_readPart 95 = .ok (.imul, 1) := by decide +kernel
theorem dX4_readPart_96 : decode cX4_readPart 96 = .ok (.iload_n 3, 1) := by decide +kernel
theorem dX4_readPart_97 : decode cX4_readPart 97 = .ok (.iadd, 1) := by decide +kernel
theorem dX4_readPart_98 : decode cX4_readPart 98 = .ok (.bipush 48, 2) := by decide +kernel
theorem dX4_readPart_100 : decode cX4_readPart 100 = .ok (.isub, 1) := by decide +kernel
theorem dX4_readPart_101 : decode cX4_readPart 101 = .ok (.putfield 37, 3) := by decide +kernel
theorem dX4_readPart_104 : decode cX4_readPart 104 = .ok (.goto 19, 3) := by decide +kernel
theorem dX4_readPart_107 : decode cX4_readPart 107 = .ok (.aload_n 0, 1) := by decide +kernel
theorem dX4_readPart_108 : decode cX4_readPart 108 = .ok (.aload_n 0, 1) := by decide +kernel
theorem dX4_readPart_109 : decode cX4_readPart 109 = .ok (.getfield 44, 3) := by decide +kernel
theorem dX4_readPart_112 : decode cX4_readPart 112 = .ok (.bipush 10, 2) := by decide +kernel
theorem dX4_readPart_114 : decode cX4_readPart 114 = .ok (.imul, 1) := by decide +kernel
theorem dX4_readPart_115 : decode cX4_readPart 115 = .ok (.iload_n 3, 1) := by decide +kernel
theorem dX4_readPart_116 : decode cX4_readPart 116 = .ok (.iadd, 1) := by decide +kernel
theorem dX4_readPart_117 : decode cX4_readPart 117 = .ok (.bipush 48, 2) := by decide +kernel
theorem dX4_readPart_119 : decode cX4_readPart 119 = .ok (.isub, 1) := by decide +kernel
theorem dX4_readPart_120 : decode cX4_readPart 120 = .ok (.putfield 44, 3) := by decide +kernel
theorem dX4_readPart_123 : decode cX4_readPart 123 = .ok (.iinc 2 1, 3) := by decide +kernel
theorem dX4_readPart_126 : decode cX4_readPart 126 = .ok (.goto (-109), 3) := by decide +kernel
theorem dX4_readPart_129 : decode cX4_readPart 129 = .ok (.aload_n 0, 1) := by decide +kernel
theorem dX4_readPart_130 : decode cX4_readPart 130 = .ok (.getfield 15, 3) := by decide +kernel
theorem dX4_readPart_133 : decode cX4_readPart 133 = .ok (.ireturn, 1) := by decide +kernel
theorem dX4_withCodes_0 : decode cX4_withCodes 0 = .ok (.lload_n 1, 1) := by decide +kernel
theorem dX4_withCodes_1 : decode cX4_withCodes 1 = .ok (.lstore_n 3, 1) := by decide +kernel
theorem dX4_withCodes_2 : decode cX4_withCodes 2 = .ok (.iconst 0, 1) := by decide +kernel
theorem dX4_withCodes_3 : decode cX4_withCodes 3 = .ok (.istore 5, 2) := by decide +kernel
theorem dX4_withCodes_5 : decode cX4_withCodes 5 = .ok (.iload 5, 2) := by decide +kernel
theorem dX4_withCodes_7 : decode cX4_withCodes 7 = .ok (.bipush 60, 2) := by decide +kernel
theorem dX4_withCodes_9 : decode cX4_withCodes 9 = .ok (.if_icmp .ge 33, 3) := by decide +kernel
theorem dX4_withCodes_12 : decode cX4_withCodes 12 = .ok (.iload 5, 2) := by decide +kernel
theorem dX4_withCodes_14 : decode cX4_withCodes 14 = .ok (.aload_n 0, 1) := by decide +kernel
theorem dX4_withCodes_15 : decode cX4_withCodes 15 = .ok (.getfield 15, 3) := by decide +kernel
theorem dX4_withCodes_18 : decode cX4_withCodes 18 = .ok (.if_icmp .ge 24, 3) := by decide +kernel
theorem dX4_withCodes_21 : decode cX4_withCodes 21 = .ok (.ldc2_w 47, 3) := by decide +kernel
theorem dX4_withCodes_24 : decode cX4_withCodes 24 = .ok (.lload_n 3, 1) := by decide +kernel
theorem dX4_withCodes_25 : decode cX4_withCodes 25 = .ok (.lmul, 1) := by decide +kernel
theorem dX4_withCodes_26 : decode cX4_withCodes 26 = .ok (.aload_n 0, 1) := by decide +kernel
theorem dX4_withCodes_27 : decode cX4_withCodes 27 = .ok (.getfield 11, 3) := by decide +kernel
theorem dX4_withCodes_30 : decode cX4_withCodes 30 = .ok (.iload 5, 2) := by decide +kernel
theorem dX4_withCodes_32 : decode cX4_withCodes 32 = .ok (.iaload, 1) := by decide +kernel
theorem dX4_withCodes_33 : decode cX4_withCodes 33 = .ok (.i2l, 1) := by decide +kernel
theorem dX4_withCodes_34 : decode cX4_withCodes 34 = .ok (.ladd, 1) := by decide +kernel
theorem dX4_withCodes_35 : decode cX4_withCodes 35 = .ok (.lstore_n 3, 1) := by decide +kernel
theorem dX4_withCodes_36 : decode cX4_withCodes 36 = .ok (.iinc 5 1, 3) := by decide +kernel
theorem dX4_withCodes_39 : decode cX4_withCodes 39 = .ok (.goto (-34), 3) := by decide +kernel
theorem dX4_withCodes_42 : decode cX4_withCodes 42 = .ok (.lload_n 3, 1) := by decide +kernel
theorem dX4_withCodes_43 : decode cX4_withCodes 43 = .ok (.lreturn, 1) := by decide +kernel
theorem dX5_init_0 : decode cX5_init 0 = .ok (.aload_n 0, 1) := by decide +kernel
theorem dX5_init_1 : decode cX5_init 1 = .ok (.invokespecial 1, 3) := by decide +kernel
theorem dX5_init_4 : decode cX5_init 4 = .ok (.aload_n 0, 1) := by decide +kernel
theorem dX5_init_5 : decode cX5_init 5 = .ok (.new 7, 3) := by decide +kernel
theorem dX5_init_8 : decode cX5_init 8 = .ok (.dup, 1) := by decide +kernel
theorem dX5_init_9 : decode cX5_init 9 = .ok (.invokespecial 9, 3) := by decide +kernel
theorem dX5_init_12 : decode cX5_init 12 = .ok (.putfield 10, 3) := by decide +kernel
theorem dX5_init_15 : decode cX5_init 15 = .ok (.aload_n 0, 1) := by decide +kernel
theorem dX5_init_16 : decode cX5_init 16 = .ok (.new 16, 3) := by decide +kernel
theorem dX5_init_19 : decode cX5_init 19 = .ok (.dup, 1) := by decide +kernel
theorem dX5_init_20 : decode cX5_init 20 = .ok (.invokespecial 18, 3) := by decide +kernel
theorem dX5_init_23 : decode cX5_init 23 = .ok (.putfield 19, 3) := by decide +kernel
theorem dX5_init_26 : decode cX5_init 26 = .ok (.aload_n 0, 1) := by decide +kernel
theorem dX5_init_27 : decode cX5_init 27 = .ok (.new 23, 3) := by decide +kernel
theorem dX5_init_30 : decode cX5_init 30 = .ok (.dup, 1) := by decide +kernel
theorem dX5_init_31 : decode cX5_init 31 = .ok (.invokespecial 25, 3) := by decide +kernel
theorem dX5_init_34 : decode cX5_init 34 = .ok (.putfield 26, 3) := by decide +kernel
theorem dX5_init_37 : decode cX5_init 37 = .ok (.aload_n 0, 1) := by decide +kernel
theorem dX5_init_38 : decode cX5_init 38 = .ok (.new 30, 3) := by decide +kernel
theorem dX5_init_41 : decode cX5_init 41 = .ok (.dup, 1) := by decide +kernel
theorem dX5_init_42 : decode cX5_init 42 = .ok (.invokespecial 32, 3) := by decide +kernel
theorem dX5_init_45 : decode cX5_init 45 = .ok (.putfield 33, 3) := by decide +kernel
theorem dX5_init_48 : decode cX5_init 48 = .ok (.aload_n 0, 1) := by decide +kernel
theorem dX5_init_49 : decode cX5_init 49 = .ok (.new 37, 3) := by decide +kernel
theorem dX5_init_52 : decode cX5_init 52 = .ok (.dup, 1) := by decide +kernel
theorem dX5_init_53 : decode cX5_init 53 = .ok (.invokespecial 39, 3) := by decide +kernel
theorem dX5_init_56 : decode cX5_init 56 = .ok (.putfield 40, 3) := by decide +kernel
theorem dX5_init_59 : decode cX5_init 59 = .ok (.return_, 1) := by decide +kernel
theorem dX5_open_0 : decode cX5_open 0 = .ok (.aload_n 0, 1) := by decide +kernel
theorem dX5_open_1 : decode cX5_open 1 = .ok (.getfield 10, 3) := by decide +kernel
theorem dX5_open_4 : decode cX5_open 4 = .ok (.invokevirtual 44, 3) := by decide +kernel
theorem dX5_open_7 : decode cX5_open 7 = .ok (.istore_n 1, 1) := by decide +kernel
theorem dX5_open_8 : decode cX5_open 8 = .ok (.iload_n 1, 1) := by decide +kernel
theorem dX5_open_9 : decode cX5_open 9 = .ok (.iconst (-1), 1) := by decide +kernel
theorem dX5_open_10 : decode cX5_open 10 = .ok (.if_icmp .ne 13, 3) := by decide +kernel
theorem dX5_open_13 : decode cX5_open 13 = .ok (.new 48, 3) := by decide +kernel
theorem dX5_open_16 : decode cX5_open 16 = .ok (.dup, 1) := by decide +kernel
theorem dX5_open_17 : decode cX5_open 17 = .ok (.ldc 50, 2) := by decide +kernel
theorem dX5_open_19 : decode cX5_open 19 = .ok (.invokespecial 52, 3) := by decide +kernel
theorem dX5_open_22 : decode cX5_open 22 = .ok (.athrow, 1) := by decide +kernel
theorem dX5_open_23 : decode cX5_open 23 = .ok (.aload_n 0, 1) := by decide +kernel
theorem dX5_open_24 : decode cX5_open 24 = .ok (.getfield 40, 3) := by decide +kernel
theorem dX5_open_27 : decode cX5_open 27 = .ok (.aload_n 0, 1) := by decide +kernel
theorem dX5_open_28 : decode cX5_open 28 = .ok (.getfield 10, 3) := by decide +kernel
theorem dX5_open_31 : decode cX5_open 31 = .ok (.invokevirtual 55, 3) := by decide +kernel
theorem dX5_open_34 : decode cX5_open 34 = .ok (.aload_n 0, 1) := by decide +kernel
theorem dX5_open_35 : decode cX5_open 35 = .ok (.getfield 10, 3) := by decide +kernel
theorem dX5_open_38 : decode cX5_open 38 = .ok (.iload_n 1, 1) := by decide +kernel
theorem dX5_open_39 : decode cX5_open 39 = .ok (.invokevirtual 59, 3) := by decide +kernel
theorem dX5_open_42 : decode cX5_open 42 = .ok (.iload_n 1, 1) := by decide +kernel
theorem dX5_open_43 : decode cX5_open 43 = .ok (.ireturn, 1) := by decide +kernel
theorem dX5_make_0 : decode cX5_make 0 = .ok (.iload_n 1, 1) := by decide +kernel
theorem dX5_make_1 : decode cX5_make 1 = .ok (.invokestatic 63, 3) := by decide +kernel
theorem dX5_make_4 : decode cX5_make 4 = .ok (.iload_n 2, 1) := by decide +kernel
theorem dX5_make_5 : decode cX5_make 5 = .ok (.iconst 1, 1) := by decide +kernel
theorem dX5_make_6 : decode cX5_make 6 = .ok (.if_icmp .lt 9, 3) := by decide +kernel
theorem dX5_make_9 : decode cX5_make 9 = .ok (.iload_n 2, 1) := by decide +kernel
theorem dX5_make_10 : decode cX5_make 10 = .ok (.bipush 16, 2) := by decide +kernel
theorem dX5_make_12 : decode cX5_make 12 = .ok (.if_icmp .le 13, 3) := by decide +kernel
theorem dX5_make_15 : decode cX5_make 15 = .ok (.new 66, 3) := by decide +kernel
theorem dX5_make_18 : decode cX5_make 18 = .ok (.dup, 1) := by decide +kernel
theorem dX5_make_19 : decode cX5_make 19 = .ok (.ldc 68, 2) := by decide +kernel
theorem dX5_make_21 : decode cX5_make 21 = .ok (.invokespecial 70, 3) := by decide +kernel
theorem dX5_make_24 : decode cX5_make 24 = .ok (.athrow, 1) := by decide +kernel
theorem dX5_make_25 : decode cX5_make 25 = .ok (.aload_n 0, 1) := by decide +kernel
theorem dX5_make_26 : decode cX5_make 26 = .ok (.getfield 10, 3) := by decide +kernel
theorem dX5_make_29 : decode cX5_make 29 = .ok (.invokevirtual 71, 3) := by decide +kernel
theorem dX5_make_32 : decode cX5_make 32 = .ok (.istore_n 3, 1) := by decide +kernel
theorem dX5_make_33 : decode cX5_make 33 = .ok (.aload_n 0, 1) := by decide +kernel
theorem dX5_make_34 : decode cX5_make 34 = .ok (.getfield 10, 3) := by decide +kernel
theorem dX5_make_37 : decode cX5_make 37 = .ok (.iload_n 1, 1) := by decide +kernel
theorem dX5_make_38 : decode cX5_make 38 = .ok (.invokevirtual 74, 3) := by decide +kernel
theorem dX5_make_41 : decode cX5_make 41 = .ok (.ifCond .eq 20, 3) := by decide +kernel
theorem dX5_make_44 : decode cX5_make 44 = .ok (.aload_n 0, 1) := by decide +kernel
theorem dX5_make_45 : decode cX5_make 45 = .ok (.getfield 10, 3) := by decide +kernel
theorem dX5_make_48 : decode cX5_make 48 = .ok (.iload_n 1, 1) := by decide +kernel
theorem dX5_make_49 : decode cX5_make 49 = .ok (.iload_n 2, 1) := by decide +kernel
theorem dX5_make_50 : decode cX5_make 50 = .ok (.invokevirtual 78, 3) := by decide +kernel
theorem dX5_make_53 : decode cX5_make 53 = .ok (.ifCond .eq 8, 3) := by decide +kernel
theorem dX5_make_56 : decode cX5_make 56 = .ok (.iload_n 3, 1) := by decide +kernel
theorem dX5_make_57 : decode cX5_make 57 = .ok (.iconst (-1), 1) := by decide +kernel
theorem dX5_make_58 : decode cX5_make 58 = .ok (.if_icmp .ne 13, 3) := by decide +kernel
theorem dX5_make_61 : decode cX5_make 61 = .ok (.new 48, 3) := by decide +kernel
theorem dX5_make_64 : decode cX5_make 64 = .ok (.dup, 1) := by decide +kernel
theorem dX5_make_65 : decode cX5_make 65 = .ok (.ldc 82, 2) := by decide +kernel
theorem dX5_make_67 : decode cX5_make 67 = .ok (.invokespecial 52, 3) := by decide +kernel
theorem dX5_make_70 : decode cX5_make 70 = .ok (.athrow, 1) := by decide +kernel
theorem dX5_make_71 : decode cX5_make 71 = .ok (.aload_n 0, 1) := by decide +kernel
theorem dX5_make_72 : decode cX5_make 72 = .ok (.getfield 40, 3) := by decide +kernel
theorem dX5_make_75 : decode cX5_make 75 = .ok (.aload_n 0, 1) := by decide +kernel
theorem dX5_make_76 : decode cX5_make 76 = .ok (.getfield 10, 3) := by decide +kernel
theorem dX5_make_79 : decode cX5_make 79 = .ok (.invokevirtual 55, 3) := by decide +kernel
theorem dX5_make_82 : decode cX5_make 82 = .ok (.aload_n 0, 1) := by decide +kernel
theorem dX5_make_83 : decode cX5_make 83 = .ok (.getfield 10, 3) := by decide +kernel
theorem dX5_make_86 : decode cX5_make 86 = .ok (.iload_n 3, 1) := by decide +kernel
theorem dX5_make_87 : decode cX5_make 87 = .ok (.iload_n 1, 1) := by decide +kernel
theorem dX5_make_88 : decode cX5_make 88 = .ok (.iload_n 2, 1) := by decide +kernel
theorem dX5_make_89 : decode cX5_make 89 = .ok (.invokevirtual 84, 3) := by decide +kernel
theorem dX5_make_92 : decode cX5_make 92 = .ok (.iload_n 3, 1) := by decide +kernel
theorem dX5_make_93 : decode cX5_make 93 = .ok (.ireturn, 1) := by decide +kernel
theorem dX5_link_0 : decode cX5_link 0 = .ok (.aload_n 0, 1) := by decide +kernel
theorem dX5_link_1 : decode cX5_link 1 = .ok (.iload_n 1, 1) := by decide +kernel
theorem dX5_link_2 : decode cX5_link 2 = .ok (.invokevirtual 88, 3) := by decide +kernel
theorem dX5_link_5 : decode cX5_link 5 = .ok (.iload_n 2, 1) := by decide +kernel
theorem dX5_link_6 : decode cX5_link 6 = .ok (.ifCond .lt 8, 3) := by decide +kernel
theorem dX5_link_9 : decode cX5_link 9 = .ok (.iload_n 2, 1) := by decide +kernel
theorem dX5_link_10 : decode cX5_link 10 = .ok (.iconst 2, 1) := by decide +kernel
theorem dX5_link_11 : decode cX5_link 11 = .ok (.if_icmp .lt 13, 3) := by decide +kernel
theorem dX5_link_14 : decode cX5_link 14 = .ok (.new 91, 3) := by decide +kernel
theorem dX5_link_17 : decode cX5_link 17 = .ok (.dup, 1) := by decide +kernel
theorem dX5_link_18 : decode cX5_link 18 = .ok (.ldc 93, 2) := by decide +kernel
theorem dX5_link_20 : decode cX5_link 20 = .ok (.invokespecial 95, 3) := by decide +kernel
theorem dX5_link_23 : decode cX5_link 23 = .ok (.athrow, 1) := by decide +kernel
theorem dX5_link_24 : decode cX5_link 24 = .ok (.iload_n 3, 1) := by decide +kernel
theorem dX5_link_25 : decode cX5_link 25 = .ok (.iconst (-1), 1) := by decide +kernel
theorem dX5_link_26 : decode cX5_link 26 = .ok (.if_icmp .eq 8, 3) := by decide +kernel
theorem dX5_link_29 : decode cX5_link 29 = .ok (.aload_n 0, 1) := by decide +kernel
theorem dX5_link_30 : decode cX5_link 30 = .ok (.iload_n 3, 1) := by decide +kernel
theorem dX5_link_31 : decode cX5_link 31 = .ok (.invokevirtual 88, 3) := by decide +kernel
theorem dX5_link_34 : decode cX5_link 34 = .ok (.aload_n 0, 1) := by decide +kernel
theorem dX5_link_35 : decode cX5_link 35 = .ok (.getfield 40, 3) := by decide +kernel
theorem dX5_link_38 : decode cX5_link 38 = .ok (.aload_n 0, 1) := by decide +kernel
theorem dX5_link_39 : decode cX5_link 39 = .ok (.getfield 10, 3) := by decide +kernel
theorem dX5_link_42 : decode cX5_link 42 = .ok (.invokevirtual 55, 3) := by decide +kernel
theorem dX5_link_45 : decode cX5_link 45 = .ok (.aload_n 0, 1) := by decide +kernel
theorem dX5_link_46 : decode cX5_link 46 = .ok (.getfield 10, 3) := by decide +kernel
theorem dX5_link_49 : decode cX5_link 49 = .ok (.iload_n 1, 1) := by decide +kernel
theorem dX5_link_50 : decode cX5_link 50 = .ok (.iload_n 2, 1) := by decide +kernel
theorem dX5_link_51 : decode cX5_link 51 = .ok (.invokevirtual 96, 3) := by decide +kernel
theorem dX5_link_54 : decode cX5_link 54 = .ok (.istore 4, 2) := by decide +kernel
theorem dX5_link_56 : decode cX5_link 56 = .ok (.aload_n 0, 1) := by decide +kernel
theorem dX5_link_57 : decode cX5_link 57 = .ok (.getfield 10, 3) := by decide +kernel
theorem dX5_link_60 : decode cX5_link 60 = .ok (.iload_n 1, 1) := by decide +kernel
theorem dX5_link_61 : decode cX5_link 61 = .ok (.iload_n 2, 1) := by decide +kernel
theorem dX5_link_62 : decode cX5_link 62 = .ok (.iload_n 3, 1) := by decide +kernel
theorem dX5_link_63 : decode cX5_link 63 = .ok (.invokevirtual 100, 3) := by decide +kernel
theorem dX5_link_66 : decode cX5_link 66 = .ok (.iload 4, 2) := by decide +kernel
theorem dX5_link_68 : decode cX5_link 68 = .ok (.ireturn, 1) := by decide +kernel
theorem dX5_root_0 : decode cX5_root 0 = .ok (.aload_n 0, 1) := by decide +kernel
theorem dX5_root_1 : decode cX5_root 1 = .ok (.iload_n 1, 1) := by decide +kernel
theorem dX5_root_2 : decode cX5_root 2 = .ok (.invokevirtual 88, 3) := by decide +kernel
theorem dX5_root_5 : decode cX5_root 5 = .ok (.aload_n 0, 1) := by decide +kernel
theorem dX5_root_6 : decode cX5_root 6 = .ok (.getfield 40, 3) := by decide +kernel
theorem dX5_root_9 : decode cX5_root 9 = .ok (.aload_n 0, 1) := by decide +kernel
theorem dX5_root_10 : decode cX5_root 10 = .ok (.getfield 10, 3) := by decide +kernel
theorem dX5_root_13 : decode cX5_root 13 = .ok (.invokevirtual 55, 3) := by decide +kernel
theorem dX5_root_16 : decode cX5_root 16 = .ok (.aload_n 0, 1) := by decide +kernel
theorem dX5_root_17 : decode cX5_root 17 = .ok (.getfield 10, 3) := by decide +kernel
theorem dX5_root_20 : decode cX5_root 20 = .ok (.getfield 103, 3) := by decide +kernel
theorem dX5_root_23 : decode cX5_root 23 = .ok (.iload_n 1, 1) := by decide +kernel
theorem dX5_root_24 : decode cX5_root 24 = .ok (.baload, 1) := by decide +kernel
theorem dX5_root_25 : decode cX5_root 25 = .ok (.istore_n 3, 1) := by decide +kernel
theorem dX5_root_26 : decode cX5_root 26 = .ok (.aload_n 0, 1) := by decide +kernel
theorem dX5_root_27 : decode cX5_root 27 = .ok (.getfield 10, 3) := by decide +kernel
theorem dX5_root_30 : decode cX5_root 30 = .ok (.getfield 103, 3) := by decide +kernel
theorem dX5_root_33 : decode cX5_root 33 = .ok (.iload_n 1, 1) := by decide +kernel
theorem dX5_root_34 : decode cX5_root 34 = .ok (.iload_n 2, 1) := by decide +kernel
theorem dX5_root_35 : decode cX5_root 35 = .ok (.bastore, 1) := by decide +kernel
theorem dX5_root_36 : decode cX5_root 36 = .ok (.iload_n 3, 1) := by decide +kernel
theorem dX5_root_37 : decode cX5_root 37 = .ok (.invokestatic 107, 3) := by decide +kernel
theorem dX5_root_40 : decode cX5_root 40 = .ok (.ireturn, 1) := by decide +kernel
theorem dX5_pin_0 : decode cX5_pin 0 = .ok (.aload_n 0, 1) := by decide +kernel
theorem dX5_pin_1 : decode cX5_pin 1 = .ok (.iload_n 1, 1) := by decide +kernel
theorem dX5_pin_2 : decode cX5_pin 2 = .ok (.invokevirtual 88, 3) := by decide +kernel
theorem dX5_pin_5 : decode cX5_pin 5 = .ok (.aload_n 0, 1) := by decide +kernel
theorem dX5_pin_6 : decode cX5_pin 6 = .ok (.getfield 40, 3) := by decide +kernel
theorem dX5_pin_9 : decode cX5_pin 9 = .ok (.aload_n 0, 1) := by decide +kernel
theorem dX5_pin_10 : decode cX5_pin 10 = .ok (.getfield 10, 3) := by decide +kernel
theorem dX5_pin_13 : decode cX5_pin 13 = .ok (.invokevirtual 55, 3) := by decide +kernel
theorem dX5_pin_16 : decode cX5_pin 16 = .ok (.aload_n 0, 1) := by decide +kernel
theorem dX5_pin_17 : decode cX5_pin 17 = .ok (.getfield 10, 3) := by decide +kernel
theorem dX5_pin_20 : decode cX5_pin 20 = .ok (.getfield 111, 3) := by decide +kernel
theorem dX5_pin_23 : decode cX5_pin 23 = .ok (.iload_n 1, 1) := by decide +kernel
theorem dX5_pin_24 : decode cX5_pin 24 = .ok (.iload_n 2, 1) := by decide +kernel
theorem dX5_pin_25 : decode cX5_pin 25 = .ok (.bastore, 1) := by decide +kernel
theorem dX5_pin_26 : decode cX5_pin 26 = .ok (.aload_n 0, 1) := by decide +kernel
theorem dX5_pin_27 : decode cX5_pin 27 = .ok (.getfield 10, 3) := by decide +kernel
theorem dX5_pin_30 : decode cX5_pin 30 = .ok (.aload_n 0, 1) := by decide +kernel
theorem dX5_pin_31 : decode cX5_pin 31 = .ok (.getfield 10, 3) := by decide +kernel
theorem dX5_pin_34 : decode cX5_pin 34 = .ok (.getfield 114, 3) := by decide +kernel
theorem dX5_pin_37 : decode cX5_pin 37 = .ok (.iload_n 1, 1) := by decide +kernel
theorem dX5_pin_38 : decode cX5_pin 38 = .ok (.iaload, 1) := by decide +kernel
theorem dX5_pin_39 : decode cX5_pin 39 = .ok (.invokevirtual 118, 3) := by decide +kernel
theorem dX5_pin_42 : decode cX5_pin 42 = .ok (.ireturn, 1) := by decide +kernel
theorem dX5_giveBack_0 : decode cX5_giveBack 0 = .ok (.iload_n 1, 1) := by decide +kernel
theorem dX5_giveBack_1 : decode cX5_giveBack 1 = .ok (.invokestatic 63, 3) := by decide +kernel
theorem dX5_giveBack_4 : decode cX5_giveBack 4 = .ok (.iload_n 2, 1) := by decide +kernel
theorem dX5_giveBack_5 : decode cX5_giveBack 5 = .ok (.invokestatic 63, 3) := by decide +kernel
theorem dX5_giveBack_8 : decode cX5_giveBack 8 = .ok (.iload_n 1, 1) := by decide +kernel
theorem dX5_giveBack_9 : decode cX5_giveBack 9 = .ok (.iload_n 2, 1) := by decide +kernel
theorem dX5_giveBack_10 : decode cX5_giveBack 10 = .ok (.if_icmp .ne 13, 3) := by decide +kernel
theorem dX5_giveBack_13 : decode cX5_giveBack 13 = .ok (.new 66, 3) := by decide +kernel
theorem dX5_giveBack_16 : decode cX5_giveBack 16 = .ok (.dup, 1) := by decide +kernel
theorem dX5_giveBack_17 : decode cX5_giveBack 17 = .ok (.ldc 122, 2) := by decide +kernel
theorem dX5_giveBack_19 : decode cX5_giveBack 19 = .ok (.invokespecial 70, 3) := by decide +kernel
theorem dX5_giveBack_22 : decode cX5_giveBack 22 = .ok (.athrow, 1) := by decide +kernel
theorem dX5_giveBack_23 : decode cX5_giveBack 23 = .ok (.aload_n 0, 1) := by decide +kernel
theorem dX5_giveBack_24 : decode cX5_giveBack 24 = .ok (.getfield 19, 3) := by decide +kernel
theorem dX5_giveBack_27 : decode cX5_giveBack 27 = .ok (.aload_n 0, 1) := by decide +kernel
theorem dX5_giveBack_28 : decode cX5_giveBack 28 = .ok (.getfield 10, 3) := by decide +kernel
theorem dX5_giveBack_31 : decode cX5_giveBack 31 = .ok (.iload_n 1, 1) := by decide +kernel
theorem dX5_giveBack_32 : decode cX5_giveBack 32 = .ok (.iload_n 2, 1) := by decide +kernel
theorem dX5_giveBack_33 : decode cX5_giveBack 33 = .ok (.invokevirtual 124, 3) := by decide +kernel
theorem dX5_giveBack_36 : decode cX5_giveBack 36 = .ok (.ifCond .eq 13, 3) := by decide +kernel
theorem dX5_giveBack_39 : decode cX5_giveBack 39 = .ok (.new 48, 3) := by decide +kernel
theorem dX5_giveBack_42 : decode cX5_giveBack 42 = .ok (.dup, 1) := by decide +kernel
theorem dX5_giveBack_43 : decode cX5_giveBack 43 = .ok (.ldc 128, 2) := by decide +kernel
theorem dX5_giveBack_45 : decode cX5_giveBack 45 = .ok (.invokespecial 52, 3) := by decide +kernel
theorem dX5_giveBack_48 : decode cX5_giveBack 48 = .ok (.athrow, 1) := by decide +kernel
theorem dX5_giveBack_49 : decode cX5_giveBack 49 = .ok (.aload_n 0, 1) := by decide +kernel
theorem dX5_giveBack_50 : decode cX5_giveBack 50 = .ok (.getfield 40, 3) := by decide +kernel
theorem dX5_giveBack_53 : decode cX5_giveBack 53 = .ok (.aload_n 0, 1) := by decide +kernel
theorem dX5_giveBack_54 : decode cX5_giveBack 54 = .ok (.getfield 10, 3) := by decide +kernel
theorem dX5_giveBack_57 : decode cX5_giveBack 57 = .ok (.invokevirtual 55, 3) := by decide +kernel
theorem dX5_giveBack_60 : decode cX5_giveBack 60 = .ok (.aload_n 0, 1) := by decide +kernel
theorem dX5_giveBack_61 : decode cX5_giveBack 61 = .ok (.getfield 19, 3) := by decide +kernel
theorem dX5_giveBack_64 : decode cX5_giveBack 64 = .ok (.aload_n 0, 1) := by decide +kernel
theorem dX5_giveBack_65 : decode cX5_giveBack 65 = .ok (.getfield 10, 3) := by decide +kernel
theorem dX5_giveBack_68 : decode cX5_giveBack 68 = .ok (.iload_n 1, 1) := by decide +kernel
theorem dX5_giveBack_69 : decode cX5_giveBack 69 = .ok (.iload_n 2, 1) := by decide +kernel
theorem dX5_giveBack_70 : decode cX5_giveBack 70 = .ok (.invokevirtual 130, 3) := by decide +kernel
theorem dX5_giveBack_73 : decode cX5_giveBack 73 = .ok (.istore_n 3, 1) := by decide +kernel
theorem dX5_giveBack_74 : decode cX5_giveBack 74 = .ok (.aload_n 0, 1) := by decide +kernel
theorem dX5_giveBack_75 : decode cX5_giveBack 75 = .ok (.getfield 10, 3) := by decide +kernel
theorem dX5_giveBack_78 : decode cX5_giveBack 78 = .ok (.iload_n 1, 1) := by decide +kernel
theorem dX5_giveBack_79 : decode cX5_giveBack 79 = .ok (.invokevirtual 133, 3) := by decide +kernel
theorem dX5_giveBack_82 : decode cX5_giveBack 82 = .ok (.pop, 1) := by decide +kernel
theorem dX5_giveBack_83 : decode cX5_giveBack 83 = .ok (.iload_n 3, 1) := by decide +kernel
theorem dX5_giveBack_84 : decode cX5_giveBack 84 = .ok (.ireturn, 1) := by decide +kernel
theorem dX5_close_0 : decode cX5_close 0 = .ok (.iload_n 1, 1) := by decide +kernel
theorem dX5_close_1 : decode cX5_close 1 = .ok (.invokestatic 63, 3) := by decide +kernel
theorem dX5_close_4 : decode cX5_close 4 = .ok (.aload_n 0, 1) := by decide +kernel
theorem dX5_close_5 : decode cX5_close 5 = .ok (.getfield 19, 3) := by decide +kernel
theorem dX5_close_8 : decode cX5_close 8 = .ok (.aload_n 0, 1) := by decide +kernel
theorem dX5_close_9 : decode cX5_close 9 = .ok (.getfield 10, 3) := by decide +kernel
theorem dX5_close_12 : decode cX5_close 12 = .ok (.iload_n 1, 1) := by decide +kernel
theorem dX5_close_13 : decode cX5_close 13 = .ok (.invokevirtual 136, 3) := by decide +kernel
theorem dX5_close_16 : decode cX5_close 16 = .ok (.aload_n 0, 1) := by decide +kernel
theorem dX5_close_17 : decode cX5_close 17 = .ok (.getfield 10, 3) := by decide +kernel
theorem dX5_close_20 : decode cX5_close 20 = .ok (.iload_n 1, 1) := by decide +kernel
theorem dX5_close_21 : decode cX5_close 21 = .ok (.invokevirtual 74, 3) := by decide +kernel
theorem dX5_close_24 : decode cX5_close 24 = .ok (.ifCond .eq 16, 3) := by decide +kernel
theorem dX5_close_27 : decode cX5_close 27 = .ok (.aload_n 0, 1) := by decide +kernel
theorem dX5_close_28 : decode cX5_close 28 = .ok (.getfield 19, 3) := by decide +kernel
theorem dX5_close_31 : decode cX5_close 31 = .ok (.getfield 140, 3) := by decide +kernel
theorem dX5_close_34 : decode cX5_close 34 = .ok (.getfield 143, 3) := by decide +kernel
theorem dX5_close_37 : decode cX5_close 37 = .ok (.ifCond .le 13, 3) := by decide +kernel
theorem dX5_close_40 : decode cX5_close 40 = .ok (.new 48, 3) := by decide +kernel
theorem dX5_close_43 : decode cX5_close 43 = .ok (.dup, 1) := by decide +kernel
theorem dX5_close_44 : decode cX5_close 44 = .ok (.ldc 147, 2) := by decide +kernel
theorem dX5_close_46 : decode cX5_close 46 = .ok (.invokespecial 52, 3) := by decide +kernel
theorem dX5_close_49 : decode cX5_close 49 = .ok (.athrow, 1) := by decide +kernel
theorem dX5_close_50 : decode cX5_close 50 = .ok (.aload_n 0, 1) := by decide +kernel
theorem dX5_close_51 : decode cX5_close 51 = .ok (.getfield 40, 3) := by decide +kernel
theorem dX5_close_54 : decode cX5_close 54 = .ok (.aload_n 0, 1) := by decide +kernel
theorem dX5_close_55 : decode cX5_close 55 = .ok (.getfield 10, 3) := by decide +kernel
theorem dX5_close_58 : decode cX5_close 58 = .ok (.invokevirtual 55, 3) := by decide +kernel
theorem dX5_close_61 : decode cX5_close 61 = .ok (.aload_n 0, 1) := by decide +kernel
theorem dX5_close_62 : decode cX5_close 62 = .ok (.getfield 10, 3) := by decide +kernel
theorem dX5_close_65 : decode cX5_close 65 = .ok (.iload_n 1, 1) := by decide +kernel
theorem dX5_close_66 : decode cX5_close 66 = .ok (.invokevirtual 133, 3) := by decide +kernel
theorem dX5_close_69 : decode cX5_close 69 = .ok (.ireturn, 1) := by decide +kernel
theorem dX5_set_0 : decode cX5_set 0 = .ok (.iload_n 1, 1) := by decide +kernel
theorem dX5_set_1 : decode cX5_set 1 = .ok (.invokestatic 149, 3) := by decide +kernel
theorem dX5_set_4 : decode cX5_set 4 = .ok (.iload_n 1, 1) := by decide +kernel
theorem dX5_set_5 : decode cX5_set 5 = .ok (.iconst 1, 1) := by decide +kernel
theorem dX5_set_6 : decode cX5_set 6 = .ok (.if_icmp .ne 7, 3) := by decide +kernel
theorem dX5_set_9 : decode cX5_set 9 = .ok (.iconst 2, 1) := by decide +kernel
theorem dX5_set_10 : decode cX5_set 10 = .ok (.goto 4, 3) := by decide +kernel
theorem dX5_set_13 : decode cX5_set 13 = .ok (.iconst 1, 1) := by decide +kernel
theorem dX5_set_14 : decode cX5_set 14 = .ok (.istore_n 3, 1) := by decide +kernel
theorem dX5_set_15 : decode cX5_set 15 = .ok (.iload_n 2, 1) := by decide +kernel
theorem dX5_set_16 : decode cX5_set 16 = .ok (.ifCond .lt 8, 3) := by decide +kernel
theorem dX5_set_19 : decode cX5_set 19 = .ok (.iload_n 2, 1) := by decide +kernel
theorem dX5_set_20 : decode cX5_set 20 = .ok (.iload_n 3, 1) := by decide +kernel
theorem dX5_set_21 : decode cX5_set 21 = .ok (.if_icmp .le 13, 3) := by decide +kernel
theorem dX5_set_24 : decode cX5_set 24 = .ok (.new 66, 3) := by decide +kernel
theorem dX5_set_27 : decode cX5_set 27 = .ok (.dup, 1) := by decide +kernel
theorem dX5_set_28 : decode cX5_set 28 = .ok (.ldc 152, 2) := by decide +kernel
theorem dX5_set_30 : decode cX5_set 30 = .ok (.invokespecial 70, 3) := by decide +kernel
theorem dX5_set_33 : decode cX5_set 33 = .ok (.athrow, 1) := by decide +kernel
theorem dX5_set_34 : decode cX5_set 34 = .ok (.aload_n 0, 1) := by decide +kernel
theorem dX5_set_35 : decode cX5_set 35 = .ok (.getfield 40, 3) := by decide +kernel
theorem dX5_set_38 : decode cX5_set 38 = .ok (.aload_n 0, 1) := by decide +kernel
theorem dX5_set_39 : decode cX5_set 39 = .ok (.getfield 10, 3) := by decide +kernel
theorem dX5_set_42 : decode cX5_set 42 = .ok (.invokevirtual 55, 3) := by decide +kernel
theorem dX5_set_45 : decode cX5_set 45 = .ok (.aload_n 0, 1) := by decide +kernel
theorem dX5_set_46 : decode cX5_set 46 = .ok (.getfield 10, 3) := by decide +kernel
theorem dX5_set_49 : decode cX5_set 49 = .ok (.getfield 154, 3) := by decide +kernel
theorem dX5_set_52 : decode cX5_set 52 = .ok (.iload_n 1, 1) := by decide +kernel
theorem dX5_set_53 : decode cX5_set 53 = .ok (.iaload, 1) := by decide +kernel
theorem dX5_set_54 : decode cX5_set 54 = .ok (.istore 4, 2) := by decide +kernel
theorem dX5_set_56 : decode cX5_set 56 = .ok (.aload_n 0, 1) := by decide +kernel
theorem dX5_set_57 : decode cX5_set 57 = .ok (.getfield 10, 3) := by decide +kernel
theorem dX5_set_60 : decode cX5_set 60 = .ok (.getfield 154, 3) := by decide +kernel
theorem dX5_set_63 : decode cX5_set 63 = .ok (.iload_n 1, 1) := by decide +kernel
theorem dX5_set_64 : decode cX5_set 64 = .ok (.iload_n 2, 1) := by decide +kernel
theorem dX5_set_65 : decode cX5_set 65 = .ok (.iastore, 1) := by decide +kernel
theorem dX5_set_66 : decode cX5_set 66 = .ok (.iload 4, 2) := by decide +kernel
theorem dX5_set_68 : decode cX5_set 68 = .ok (.ireturn, 1) := by decide +kernel
theorem dX5_append_0 : decode cX5_append 0 = .ok (.iload_n 1, 1) := by decide +kernel
theorem dX5_append_1 : decode cX5_append 1 = .ok (.bipush 33, 2) := by decide +kernel
theorem dX5_append_3 : decode cX5_append 3 = .ok (.if_icmp .lt 9, 3) := by decide +kernel
theorem dX5_append_6 : decode cX5_append 6 = .ok (.iload_n 1, 1) := by decide +kernel
theorem dX5_append_7 : decode cX5_append 7 = .ok (.bipush 126, 2) := by decide +kernel
theorem dX5_append_9 : decode cX5_append 9 = .ok (.if_icmp .le 13, 3) := by decide +kernel
theorem dX5_append_12 : decode cX5_append 12 = .ok (.new 66, 3) := by decide +kernel
theorem dX5_append_15 : decode cX5_append 15 = .ok (.dup, 1) := by decide +kernel
theorem dX5_append_16 : decode cX5_append 16 = .ok (.ldc 157, 2) := by decide +kernel
theorem dX5_append_18 : decode cX5_append 18 = .ok (.invokespecial 70, 3) := by decide +kernel
theorem dX5_append_21 : decode cX5_append 21 = .ok (.athrow, 1) := by decide +kernel
theorem dX5_append_22 : decode cX5_append 22 = .ok (.aload_n 0, 1) := by decide +kernel
theorem dX5_append_23 : decode cX5_append 23 = .ok (.getfield 33, 3) := by decide +kernel
theorem dX5_append_26 : decode cX5_append 26 = .ok (.invokevirtual 159, 3) := by decide +kernel
theorem dX5_append_29 : decode cX5_append 29 = .ok (.ifCond .eq 13, 3) := by decide +kernel
theorem dX5_append_32 : decode cX5_append 32 = .ok (.new 48, 3) := by decide +kernel
theorem dX5_append_35 : decode cX5_append 35 = .ok (.dup, 1) := by decide +kernel
theorem dX5_append_36 : decode cX5_append 36 = .ok (.ldc 163, 2) := by decide +kernel
theorem dX5_append_38 : decode cX5_append 38 = .ok (.invokespecial 52, 3) := by decide +kernel
theorem dX5_append_41 : decode cX5_append 41 = .ok (.athrow, 1) := by decide +kernel
theorem dX5_append_42 : decode cX5_append 42 = .ok (.aload_n 0, 1) := by decide +kernel
theorem dX5_append_43 : decode cX5_append 43 = .ok (.getfield 33, 3) := by decide +kernel
theorem dX5_append_46 : decode cX5_append 46 = .ok (.iload_n 1, 1) := by decide +kernel
theorem dX5_append_47 : decode cX5_append 47 = .ok (.invokevirtual 165, 3) := by decide +kernel
theorem dX5_append_50 : decode cX5_append 50 = .ok (.aload_n 0, 1) := by decide +kernel
theorem dX5_append_51 : decode cX5_append 51 = .ok (.getfield 33, 3) := by decide +kernel
theorem dX5_append_54 : decode cX5_append 54 = .ok (.getfield 167, 3) := by decide +kernel
theorem dX5_append_57 : decode cX5_append 57 = .ok (.ireturn, 1) := by decide +kernel
theorem dX5_clearBuffer_0 : decode cX5_clearBuffer 0 = .ok (.aload_n 0, 1) := by decide +kernel
theorem dX5_clearBuffer_1 : decode cX5_clearBuffer 1 = .ok (.getfield 33, 3) := by decide +kernel
theorem dX5_clearBuffer_4 : decode cX5_clearBuffer 4 = .ok (.getfield 167, 3) := by decide +kernel
theorem dX5_clearBuffer_7 : decode cX5_clearBuffer 7 = .ok (.istore_n 1, 1) := by decide +kernel
theorem dX5_clearBuffer_8 : decode cX5_clearBuffer 8 = .ok (.aload_n 0, 1) := by decide +kernel
theorem dX5_clearBuffer_9 : decode cX5_clearBuffer 9 = .ok (.getfield 33, 3) := by decide +kernel
theorem dX5_clearBuffer_12 : decode cX5_clearBuffer 12 = .ok (.invokevirtual 170, 3) := by decide +kernel
theorem dX5_clearBuffer_15 : decode cX5_clearBuffer 15 = .ok (.iload_n 1, 1) := by decide +kernel
theorem dX5_clearBuffer_16 : decode cX5_clearBuffer 16 = .ok (.ireturn, 1) := by decide +kernel
theorem dX5_firstError_0 : decode cX5_firstError 0 = .ok (.aload_n 0, 1) := by decide +kernel
theorem dX5_firstError_1 : decode cX5_firstError 1 = .ok (.getfield 33, 3) := by decide +kernel
theorem dX5_firstError_4 : decode cX5_firstError 4 = .ok (.invokevirtual 173, 3) := by decide +kernel
theorem dX5_firstError_7 : decode cX5_firstError 7 = .ok (.ireturn, 1) := by decide +kernel
theorem dX5_makeAll_0 : decode cX5_makeAll 0 = .ok (.iload_n 1, 1) := by decide +kernel
theorem dX5_makeAll_1 : decode cX5_makeAll 1 = .ok (.invokestatic 63, 3) := by decide +kernel
theorem dX5_makeAll_4 : decode cX5_makeAll 4 = .ok (.aload_n 0, 1) := by decide +kernel
theorem dX5_makeAll_5 : decode cX5_makeAll 5 = .ok (.getfield 33, 3) := by decide +kernel
theorem dX5_makeAll_8 : decode cX5_makeAll 8 = .ok (.invokevirtual 176, 3) := by decide +kernel
theorem dX5_makeAll_11 : decode cX5_makeAll 11 = .ok (.ifCond .ne 13, 3) := by decide +kernel
theorem dX5_makeAll_14 : decode cX5_makeAll 14 = .ok (.new 66, 3) := by decide +kernel
theorem dX5_makeAll_17 : decode cX5_makeAll 17 = .ok (.dup, 1) := by decide +kernel
theorem dX5_makeAll_18 : decode cX5_makeAll 18 = .ok (.ldc 179, 2) := by decide +kernel
theorem dX5_makeAll_20 : decode cX5_makeAll 20 = .ok (.invokespecial 70, 3) := by decide +kernel
theorem dX5_makeAll_23 : decode cX5_makeAll 23 = .ok (.athrow, 1) := by decide +kernel
theorem dX5_makeAll_24 : decode cX5_makeAll 24 = .ok (.aload_n 0, 1) := by decide +kernel
theorem dX5_makeAll_25 : decode cX5_makeAll 25 = .ok (.getfield 10, 3) := by decide +kernel
theorem dX5_makeAll_28 : decode cX5_makeAll 28 = .ok (.iload_n 1, 1) := by decide +kernel
theorem dX5_makeAll_29 : decode cX5_makeAll 29 = .ok (.invokevirtual 74, 3) := by decide +kernel
theorem dX5_makeAll_32 : decode cX5_makeAll 32 = .ok (.ifCond .ne 13, 3) := by decide +kernel
theorem dX5_makeAll_35 : decode cX5_makeAll 35 = .ok (.new 48, 3) := by decide +kernel
theorem dX5_makeAll_38 : decode cX5_makeAll 38 = .ok (.dup, 1) := by decide +kernel
theorem dX5_makeAll_39 : decode cX5_makeAll 39 = .ok (.ldc 181, 2) := by decide +kernel
theorem dX5_makeAll_41 : decode cX5_makeAll 41 = .ok (.invokespecial 52, 3) := by decide +kernel
theorem dX5_makeAll_44 : decode cX5_makeAll 44 = .ok (.athrow, 1) := by decide +kernel
theorem dX5_makeAll_45 : decode cX5_makeAll 45 = .ok (.aload_n 0, 1) := by decide +kernel
theorem dX5_makeAll_46 : decode cX5_makeAll 46 = .ok (.getfield 40, 3) := by decide +kernel
theorem dX5_makeAll_49 : decode cX5_makeAll 49 = .ok (.aload_n 0, 1) := by decide +kernel
theorem dX5_makeAll_50 : decode cX5_makeAll 50 = .ok (.getfield 10, 3) := by decide +kernel
theorem dX5_makeAll_53 : decode cX5_makeAll 53 = .ok (.invokevirtual 55, 3) := by decide +kernel
theorem dX5_makeAll_56 : decode cX5_makeAll 56 = .ok (.aload_n 0, 1) := by decide +kernel
theorem dX5_makeAll_57 : decode cX5_makeAll 57 = .ok (.iload_n 1, 1) := by decide +kernel
theorem dX5_makeAll_58 : decode cX5_makeAll 58 = .ok (.invokevirtual 183, 3) := by decide +kernel
theorem dX5_makeAll_61 : decode cX5_makeAll 61 = .ok (.istore_n 2, 1) := by decide +kernel
theorem dX5_makeAll_62 : decode cX5_makeAll 62 = .ok (.aload_n 0, 1) := by decide +kernel
theorem dX5_makeAll_63 : decode cX5_makeAll 63 = .ok (.getfield 33, 3) := by decide +kernel
theorem dX5_makeAll_66 : decode cX5_makeAll 66 = .ok (.invokevirtual 170, 3) := by decide +kernel
theorem dX5_makeAll_69 : decode cX5_makeAll 69 = .ok (.iload_n 2, 1) := by decide +kernel
theorem dX5_makeAll_70 : decode cX5_makeAll 70 = .ok (.ireturn, 1) := by decide +kernel
theorem dX5_makeParts_0 : decode cX5_makeParts 0 = .ok (.iconst 0, 1) := by decide +kernel
theorem dX5_makeParts_1 : decode cX5_makeParts 1 = .ok (.istore_n 2, 1) := by decide +kernel
theorem dX5_makeParts_2 : decode cX5_makeParts 2 = .ok (.iconst 0, 1) := by decide +kernel
theorem dX5_makeParts_3 : decode cX5_makeParts 3 = .ok (.istore_n 3, 1) := by decide +kernel
theorem dX5_makeParts_4 : decode cX5_makeParts 4 = .ok (.iconst 0, 1) := by decide +kernel
theorem dX5_makeParts_5 : decode cX5_makeParts 5 = .ok (.istore 4, 2) := by decide +kernel
theorem dX5_makeParts_7 : decode cX5_makeParts 7 = .ok (.iload 4, 2) := by decide +kernel
theorem dX5_makeParts_9 : decode cX5_makeParts 9 = .ok (.bipush 60, 2) := by decide +kernel
theorem dX5_makeParts_11 : decode cX5_makeParts 11 = .ok (.if_icmp .ge 42, 3) := by decide +kernel
theorem dX5_makeParts_14 : decode cX5_makeParts 14 = .ok (.iload_n 3, 1) := by decide +kernel
theorem dX5_makeParts_15 : decode cX5_makeParts 15 = .ok (.aload_n 0, 1) := by decide +kernel
theorem dX5_makeParts_16 : decode cX5_makeParts 16 = .ok (.getfield 33, 3) := by decide +kernel
theorem dX5_makeParts_19 : decode cX5_makeParts 19 = .ok (.getfield 167, 3) := by decide +kernel
theorem dX5_makeParts_22 : decode cX5_makeParts 22 = .ok (.if_icmp .ge 31, 3) := by decide +kernel
theorem dX5_makeParts_25 : decode cX5_makeParts 25 = .ok (.aload_n 0, 1) := by decide +kernel
theorem dX5_makeParts_26 : decode cX5_makeParts 26 = .ok (.getfield 33, 3) := by decide +kernel
theorem dX5_makeParts_29 : decode cX5_makeParts 29 = .ok (.iload_n 3, 1) := by decide +kernel
theorem dX5_makeParts_30 : decode cX5_makeParts 30 = .ok (.invokevirtual 186, 3) := by decide +kernel
theorem dX5_makeParts_33 : decode cX5_makeParts 33 = .ok (.istore_n 3, 1) := by decide +kernel
theorem dX5_makeParts_34 : decode cX5_makeParts 34 = .ok (.aload_n 0, 1) := by decide +kernel
theorem dX5_makeParts_35 : decode cX5_makeParts 35 = .ok (.iload_n 1, 1) := by decide +kernel
theorem dX5_makeParts_36 : decode cX5_makeParts 36 = .ok (.invokevirtual 189, 3) := by decide +kernel
theorem dX5_makeParts_39 : decode cX5_makeParts 39 = .ok (.ifCond .ne 5, 3) := by decide +kernel
theorem dX5_makeParts_42 : decode cX5_makeParts 42 = .ok (.iload_n 2, 1) := by decide +kernel
theorem dX5_makeParts_43 : decode cX5_makeParts 43 = .ok (.ireturn, 1) := by decide +kernel
theorem dX5_makeParts_44 : decode cX5_makeParts 44 = .ok (.iinc 2 1, 3) := by decide +kernel
theorem dX5_makeParts_47 : decode cX5_makeParts 47 = .ok (.iinc 4 1, 3) := by decide +kernel
theorem dX5_makeParts_50 : decode cX5_makeParts 50 = .ok (.goto (-43), 3) := by decide +kernel
theorem dX5_makeParts_53 : decode cX5_makeParts 53 = .ok (.iload_n 2, 1) := by decide +kernel
theorem dX5_makeParts_54 : decode cX5_makeParts 54 = .ok (.ireturn, 1) := by decide +kernel
theorem dX5_makePart_0 : decode cX5_makePart 0 = .ok (.aload_n 0, 1) := by decide +kernel
theorem dX5_makePart_1 : decode cX5_makePart 1 = .ok (.getfield 10, 3) := by decide +kernel
theorem dX5_makePart_4 : decode cX5_makePart 4 = .ok (.invokevirtual 71, 3) := by decide +kernel
theorem dX5_makePart_7 : decode cX5_makePart 7 = .ok (.istore_n 2, 1) := by decide +kernel
theorem dX5_makePart_8 : decode cX5_makePart 8 = .ok (.iload_n 2, 1) := by decide +kernel
theorem dX5_makePart_9 : decode cX5_makePart 9 = .ok (.iconst (-1), 1) := by decide +kernel
theorem dX5_makePart_10 : decode cX5_makePart 10 = .ok (.if_icmp .eq 21, 3) := by decide +kernel
theorem dX5_makePart_13 : decode cX5_makePart 13 = .ok (.aload_n 0, 1) := by decide +kernel
theorem dX5_makePart_14 : decode cX5_makePart 14 = .ok (.getfield 10, 3) := by decide +kernel
theorem dX5_makePart_17 : decode cX5_makePart 17 = .ok (.iload_n 1, 1) := by decide +kernel
theorem dX5_makePart_18 : decode cX5_makePart 18 = .ok (.aload_n 0, 1) := by decide +kernel
theorem dX5_makePart_19 : decode cX5_makePart 19 = .ok (.getfield 33, 3) := by decide +kernel
theorem dX5_makePart_22 : decode cX5_makePart 22 = .ok (.getfield 192, 3) := by decide +kernel
theorem dX5_makePart_25 : decode cX5_makePart 25 = .ok (.invokevirtual 78, 3) := by decide +kernel
theorem dX5_makePart_28 : decode cX5_makePart 28 = .ok (.ifCond .ne 5, 3) := by decide +kernel
theorem dX5_makePart_31 : decode cX5_makePart 31 = .ok (.iconst 0, 1) := by decide +kernel
theorem dX5_makePart_32 : decode cX5_makePart 32 = .ok (.ireturn, 1) := by decide +kernel
theorem dX5_makePart_33 : decode cX5_makePart 33 = .ok (.aload_n 0, 1) := by decide +kernel
theorem dX5_makePart_34 : decode cX5_makePart 34 = .ok (.getfield 33, 3) := by decide +kernel
theorem dX5_makePart_37 : decode cX5_makePart 37 = .ok (.getfield 195, 3) := by decide +kernel
theorem dX5_makePart_40 : decode cX5_makePart 40 = .ok (.istore_n 3, 1) := by decide +kernel
theorem dX5_makePart_41 : decode cX5_makePart 41 = .ok (.iload_n 3, 1) := by decide +kernel
theorem dX5_makePart_42 : decode cX5_makePart 42 = .ok (.iconst (-1), 1) := by decide +kernel
theorem dX5_makePart_43 : decode cX5_makePart 43 = .ok (.if_icmp .eq 21, 3) := by decide +kernel
theorem dX5_makePart_46 : decode cX5_makePart 46 = .ok (.iload_n 3, 1) := by decide +kernel
theorem dX5_makePart_47 : decode cX5_makePart 47 = .ok (.iload_n 2, 1) := by decide +kernel
theorem dX5_makePart_48 : decode cX5_makePart 48 = .ok (.if_icmp .eq 16, 3) := by decide +kernel
theorem dX5_makePart_51 : decode cX5_makePart 51 = .ok (.aload_n 0, 1) := by decide +kernel
theorem dX5_makePart_52 : decode cX5_makePart 52 = .ok (.getfield 10, 3) := by decide +kernel
theorem dX5_makePart_55 : decode cX5_makePart 55 = .ok (.iload_n 3, 1) := by decide +kernel
theorem dX5_makePart_56 : decode cX5_makePart 56 = .ok (.invokevirtual 198, 3) := by decide +kernel
theorem dX5_makePart_59 : decode cX5_makePart 59 = .ok (.ifCond .ne 5, 3) := by decide +kernel
theorem dX5_makePart_62 : decode cX5_makePart 62 = .ok (.iconst 0, 1) := by decide +kernel
theorem dX5_makePart_63 : decode cX5_makePart 63 = .ok (.ireturn, 1) := by decide +kernel
theorem dX5_makePart_64 : decode cX5_makePart 64 = .ok (.aload_n 0, 1) := by decide +kernel
theorem dX5_makePart_65 : decode cX5_makePart 65 = .ok (.getfield 10, 3) := by decide +kernel
theorem dX5_makePart_68 : decode cX5_makePart 68 = .ok (.iload_n 2, 1) := by decide +kernel
theorem dX5_makePart_69 : decode cX5_makePart 69 = .ok (.iload_n 1, 1) := by decide +kernel
theorem dX5_makePart_70 : decode cX5_makePart 70 = .ok (.aload_n 0, 1) := by decide +kernel
theorem dX5_makePart_71 : decode cX5_makePart 71 = .ok (.getfield 33, 3) := by decide +kernel
theorem dX5_makePart_74 : decode cX5_makePart 74 = .ok (.getfield 192, 3) := by decide +kernel
theorem dX5_makePart_77 : decode cX5_makePart 77 = .ok (.invokevirtual 84, 3) := by decide +kernel
theorem dX5_makePart_80 : decode cX5_makePart 80 = .ok (.aload_n 0, 1) := by decide +kernel
theorem dX5_makePart_81 : decode cX5_makePart 81 = .ok (.getfield 10, 3) := by decide +kernel
theorem dX5_makePart_84 : decode cX5_makePart 84 = .ok (.getfield 103, 3) := by decide +kernel
theorem dX5_makePart_87 : decode cX5_makePart 87 = .ok (.iload_n 2, 1) := by decide +kernel
theorem dX5_makePart_88 : decode cX5_makePart 88 = .ok (.aload_n 0, 1) := by decide +kernel
theorem dX5_makePart_89 : decode cX5_makePart 89 = .ok (.getfield 33, 3) := by decide +kernel
theorem dX5_makePart_92 : decode cX5_makePart 92 = .ok (.getfield 201, 3) := by decide +kernel
theorem dX5_makePart_95 : decode cX5_makePart 95 = .ok (.bastore, 1) := by decide +kernel
theorem dX5_makePart_96 : decode cX5_makePart 96 = .ok (.iload_n 3, 1) := by decide +kernel
theorem dX5_makePart_97 : decode cX5_makePart 97 = .ok (.iconst (-1), 1) := by decide +kernel
theorem dX5_makePart_98 : decode cX5_makePart 98 = .ok (.if_icmp .eq 13, 3) := by decide +kernel
theorem dX5_makePart_101 : decode cX5_makePart 101 = .ok (.aload_n 0, 1) := by decide +kernel
theorem dX5_makePart_102 : decode cX5_makePart 102 = .ok (.getfield 10, 3) := by decide +kernel
theorem dX5_makePart_105 : decode cX5_makePart 105 = .ok (.iload_n 3, 1) := by decide +kernel
theorem dX5_makePart_106 : decode cX5_makePart 106 = .ok (.iconst 0, 1) := by decide +kernel
theorem dX5_makePart_107 : decode cX5_makePart 107 = .ok (.iload_n 2, 1) := by decide +kernel
theorem dX5_makePart_108 : decode cX5_makePart 108 = .ok (.invokevirtual 100, 3) := by decide +kernel
theorem dX5_makePart_111 : decode cX5_makePart 111 = .ok (.iconst 1, 1) := by decide +kernel
theorem dX5_makePart_112 : decode cX5_makePart 112 = .ok (.ireturn, 1) := by decide +kernel
theorem dX5_undo_0 : decode cX5_undo 0 = .ok (.aload_n 0, 1) := by decide +kernel
theorem dX5_undo_1 : decode cX5_undo 1 = .ok (.getfield 40, 3) := by decide +kernel
theorem dX5_undo_4 : decode cX5_undo 4 = .ok (.getfield 205, 3) := by decide +kernel
theorem dX5_undo_7 : decode cX5_undo 7 = .ok (.ifCond .ne 13, 3) := by decide +kernel
theorem dX5_undo_10 : decode cX5_undo 10 = .ok (.new 48, 3) := by decide +kernel
theorem dX5_undo_13 : decode cX5_undo 13 = .ok (.dup, 1) := by decide +kernel
theorem dX5_undo_14 : decode cX5_undo 14 = .ok (.ldc 208, 2) := by decide +kernel
theorem dX5_undo_16 : decode cX5_undo 16 = .ok (.invokespecial 52, 3) := by decide +kernel
theorem dX5_undo_19 : decode cX5_undo 19 = .ok (.athrow, 1) := by decide +kernel
theorem dX5_undo_20 : decode cX5_undo 20 = .ok (.aload_n 0, 1) := by decide +kernel
theorem dX5_undo_21 : decode cX5_undo 21 = .ok (.getfield 40, 3) := by decide +kernel
theorem dX5_undo_24 : decode cX5_undo 24 = .ok (.aload_n 0, 1) := by decide +kernel
theorem dX5_undo_25 : decode cX5_undo 25 = .ok (.getfield 10, 3) := by decide +kernel
theorem dX5_undo_28 : decode cX5_undo 28 = .ok (.invokevirtual 210, 3) := by decide +kernel
theorem dX5_undo_31 : decode cX5_undo 31 = .ok (.aload_n 0, 1) := by decide +kernel
theorem dX5_undo_32 : decode cX5_undo 32 = .ok (.getfield 40, 3) := by decide +kernel
theorem dX5_undo_35 : decode cX5_undo 35 = .ok (.getfield 205, 3) := by decide +kernel
theorem dX5_undo_38 : decode cX5_undo 38 = .ok (.ireturn, 1) := by decide +kernel
theorem dX5_object_0 : decode cX5_object 0 = .ok (.aload_n 0, 1) := by decide +kernel
theorem dX5_object_1 : decode cX5_object 1 = .ok (.iload_n 1, 1) := by decide +kernel
theorem dX5_object_2 : decode cX5_object 2 = .ok (.invokevirtual 88, 3) := by decide +kernel
theorem dX5_object_5 : decode cX5_object 5 = .ok (.iload_n 2, 1) := by decide +kernel
theorem dX5_object_6 : decode cX5_object 6 = .ok (.ifCond .lt 9, 3) := by decide +kernel
theorem dX5_object_9 : decode cX5_object 9 = .ok (.iload_n 2, 1) := by decide +kernel
theorem dX5_object_10 : decode cX5_object 10 = .ok (.bipush 12, 2) := by decide +kernel
theorem dX5_object_12 : decode cX5_object 12 = .ok (.if_icmp .lt 13, 3) := by decide +kernel
theorem dX5_object_15 : decode cX5_object 15 = .ok (.new 66, 3) := by decide +kernel
theorem dX5_object_18 : decode cX5_object 18 = .ok (.dup, 1) := by decide +kernel
theorem dX5_object_19 : decode cX5_object 19 = .ok (.ldc 213, 2) := by decide +kernel
theorem dX5_object_21 : decode cX5_object 21 = .ok (.invokespecial 70, 3) := by decide +kernel
theorem dX5_object_24 : decode cX5_object 24 = .ok (.athrow, 1) := by decide +kernel
theorem dX5_object_25 : decode cX5_object 25 = .ok (.aload_n 0, 1) := by decide +kernel
theorem dX5_object_26 : decode cX5_object 26 = .ok (.iload_n 1, 1) := by decide +kernel
theorem dX5_object_27 : decode cX5_object 27 = .ok (.iload_n 2, 1) := by decide +kernel
theorem dX5_object_28 : decode cX5_object 28 = .ok (.invokevirtual 215, 3) := by decide +kernel
theorem dX5_object_31 : decode cX5_object 31 = .ok (.ireturn, 1) := by decide +kernel
theorem dX5_objectProperty_0 : decode cX5_objectProperty 0 = .ok (.iload_n 2, 1) := by decide +kernel
theorem dX5_objectProperty_1 : decode cX5_objectProperty 1 = .ok (.tableswitch 189 0 10 #[59, 69, 79, 89, 99, 109, 122, 189, 135, 170, 180], 59) := by decide +kernel
theorem dX5_objectProperty_60 : decode cX5_objectProperty 60 = .ok (.aload_n 0, 1) := by decide +kernel
theorem dX5_objectProperty_61 : decode cX5_objectProperty 61 = .ok (.getfield 10, 3) := by decide +kernel
theorem dX5_objectProperty_64 : decode cX5_objectProperty 64 = .ok (.getfield 114, 3) := by decide +kernel
theorem dX5_objectProperty_67 : decode cX5_objectProperty 67 = .ok (.iload_n 1, 1) := by decide +kernel
theorem dX5_objectProperty_68 : decode cX5_objectProperty 68 = .ok (.iaload, 1) := by decide +kernel
theorem dX5_objectProperty_69 : decode cX5_objectProperty 69 = .ok (.ireturn, 1) := by decide +kernel
theorem dX5_objectProperty_70 : decode cX5_objectProperty 70 = .ok (.aload_n 0, 1) := by decide +kernel
theorem dX5_objectProperty_71 : decode cX5_objectProperty 71 = .ok (.getfield 10, 3) := by decide +kernel
theorem dX5_objectProperty_74 : decode cX5_objectProperty 74 = .ok (.getfield 218, 3) := by decide +kernel
theorem dX5_objectProperty_77 : decode cX5_objectProperty 77 = .ok (.iload_n 1, 1) := by decide +kernel
theorem dX5_objectProperty_78 : decode cX5_objectProperty 78 = .ok (.iaload, 1) := by decide +kernel
theorem dX5_objectProperty_79 : decode cX5_objectProperty 79 = .ok (.ireturn, 1) := by decide +kernel
theorem dX5_objectProperty_80 : decode cX5_objectProperty 80 = .ok (.aload_n 0, 1) := by decide +kernel
theorem dX5_objectProperty_81 : decode cX5_objectProperty 81 = .ok (.getfield 10, 3) := by decide +kernel
theorem dX5_objectProperty_84 : decode cX5_objectProperty 84 = .ok (.getfield 221, 3) := by decide +kernel
theorem dX5_objectProperty_87 : decode cX5_objectProperty 87 = .ok (.iload_n 1, 1) := by decide +kernel
theorem dX5_objectProperty_88 : decode cX5_objectProperty 88 = .ok (.iaload, 1) := by decide +kernel
theorem dX5_objectProperty_89 : decode cX5_objectProperty 89 = .ok (.ireturn, 1) := by decide +kernel
theorem dX5_objectProperty_90 : decode cX5_objectProperty 90 = .ok (.aload_n 0, 1) := by decide +kernel
theorem dX5_objectProperty_91 : decode cX5_objectProperty 91 = .ok (.getfield 10, 3) := by decide +kernel
theorem dX5_objectProperty_94 : decode cX5_objectProperty 94 = .ok (.iload_n 1, 1) := by decide +kernel
theorem dX5_objectProperty_95 : decode cX5_objectProperty 95 = .ok (.iconst 0, 1) := by decide +kernel
theorem dX5_objectProperty_96 : decode cX5_objectProperty 96 = .ok (.invokevirtual 96, 3) := by decide +kernel
theorem dX5_objectProperty_99 : decode cX5_objectProperty 99 = .ok (.ireturn, 1) := by decide +kernel
theorem dX5_objectProperty_100 : decode cX5_objectProperty 100 = .ok (.aload_n 0, 1) := by decide +kernel
theorem dX5_objectProperty_101 : decode cX5_objectProperty 101 = .ok (.getfield 10, 3) := by decide +kernel
theorem dX5_objectProperty_104 : decode cX5_objectProperty 104 = .ok (.iload_n 1, 1) := by decide +kernel
theorem dX5_objectProperty_105 : decode cX5_objectProperty 105 = .ok (.iconst 1, 1) := by decide +kernel
theorem dX5_objectProperty_106 : decode cX5_objectProperty 106 = .ok (.invokevirtual 96, 3) := by decide +kernel
theorem dX5_objectProperty_109 : decode cX5_objectProperty 109 = .ok (.ireturn, 1) := by decide +kernel
theorem dX5_objectProperty_110 : decode cX5_objectProperty 110 = .ok (.aload_n 0, 1) := by decide +kernel
theorem dX5_objectProperty_111 : decode cX5_objectProperty 111 = .ok (.getfield 10, 3) := by decide +kernel
theorem dX5_objectProperty_114 : decode cX5_objectProperty 114 = .ok (.getfield 103, 3) := by decide +kernel
theorem dX5_objectProperty_117 : decode cX5_objectProperty 117 = .ok (.iload_n 1, 1) := by decide +kernel
theorem dX5_objectProperty_118 : decode cX5_objectProperty 118 = .ok (.baload, 1) := by decide +kernel
theorem dX5_objectProperty_119 : decode cX5_objectProperty 119 = .ok (.invokestatic 107, 3) := by decide +kernel
theorem dX5_objectProperty_122 : decode cX5_objectProperty 122 = .ok (.ireturn, 1) := by decide +kernel
theorem dX5_objectProperty_123 : decode cX5_objectProperty 123 = .ok (.aload_n 0, 1) := by decide +kernel
theorem dX5_objectProperty_124 : decode cX5_objectProperty 124 = .ok (.getfield 10, 3) := by decide +kernel
theorem dX5_objectProperty_127 : decode cX5_objectProperty 127 = .ok (.getfield 111, 3) := by decide +kernel
theorem dX5_objectProperty_130 : decode cX5_objectProperty 130 = .ok (.iload_n 1, 1) := by decide +kernel
theorem dX5_objectProperty_131 : decode cX5_objectProperty 131 = .ok (.baload, 1) := by decide +kernel
theorem dX5_objectProperty_132 : decode cX5_objectProperty 132 = .ok (.invokestatic 107, 3) := by decide +kernel
theorem dX5_objectProperty_135 : decode cX5_objectProperty 135 = .ok (.ireturn, 1) := by decide +kernel
theorem dX5_objectProperty_136 : decode cX5_objectProperty 136 = .ok (.aload_n 0, 1) := by decide +kernel
theorem dX5_objectProperty_137 : decode cX5_objectProperty 137 = .ok (.getfield 19, 3) := by decide +kernel
theorem dX5_objectProperty_140 : decode cX5_objectProperty 140 = .ok (.aload_n 0, 1) := by decide +kernel
theorem dX5_objectProperty_141 : decode cX5_objectProperty 141 = .ok (.getfield 10, 3) := by decide +kernel
theorem dX5_objectProperty_144 : decode cX5_objectProperty 144 = .ok (.aload_n 0, 1) := by decide +kernel
theorem dX5_objectProperty_145 : decode cX5_objectProperty 145 = .ok (.getfield 10, 3) := by decide +kernel
theorem dX5_objectProperty_148 : decode cX5_objectProperty 148 = .ok (.getfield 114, 3) := by decide +kernel
theorem dX5_objectProperty_151 : decode cX5_objectProperty 151 = .ok (.iload_n 1, 1) := by decide +kernel
theorem dX5_objectProperty_152 : decode cX5_objectProperty 152 = .ok (.iaload, 1) := by decide +kernel
theorem dX5_objectProperty_153 : decode cX5_objectProperty 153 = .ok (.invokevirtual 136, 3) := by decide +kernel
theorem dX5_objectProperty_156 : decode cX5_objectProperty 156 = .ok (.aload_n 0, 1) := by decide +kernel
theorem dX5_objectProperty_157 : decode cX5_objectProperty 157 = .ok (.getfield 19, 3) := by decide +kernel
theorem dX5_objectProperty_160 : decode cX5_objectProperty 160 = .ok (.getfield 140, 3) := by decide +kernel
theorem dX5_objectProperty_163 : decode cX5_objectProperty 163 = .ok (.iload_n 1, 1) := by decide +kernel
theorem dX5_objectProperty_164 : decode cX5_objectProperty 164 = .ok (.invokevirtual 224, 3) := by decide +kernel
theorem dX5_objectProperty_167 : decode cX5_objectProperty 167 = .ok (.invokestatic 107, 3) := by decide +kernel
theorem dX5_objectProperty_170 : decode cX5_objectProperty 170 = .ok (.ireturn, 1) := by decide +kernel
theorem dX5_objectProperty_171 : decode cX5_objectProperty 171 = .ok (.aload_n 0, 1) := by decide +kernel
theorem dX5_objectProperty_172 : decode cX5_objectProperty 172 = .ok (.getfield 10, 3) := by decide +kernel
theorem dX5_objectProperty_175 : decode cX5_objectProperty 175 = .ok (.getfield 227, 3) := by decide +kernel
theorem dX5_objectProperty_178 : decode cX5_objectProperty 178 = .ok (.iload_n 1, 1) := by decide +kernel
theorem dX5_objectProperty_179 : decode cX5_objectProperty 179 = .ok (.iaload, 1) := by decide +kernel
theorem dX5_objectProperty_180 : decode cX5_objectProperty 180 = .ok (.ireturn, 1) := by decide +kernel
theorem dX5_objectProperty_181 : decode cX5_objectProperty 181 = .ok (.aload_n 0, 1) := by decide +kernel
theorem dX5_objectProperty_182 : decode cX5_objectProperty 182 = .ok (.getfield 10, 3) := by decide +kernel
theorem dX5_objectProperty_185 : decode cX5_objectProperty 185 = .ok (.iload_n 1, 1) := by decide +kernel
theorem dX5_objectProperty_186 : decode cX5_objectProperty 186 = .ok (.invokevirtual 230, 3) := by decide +kernel
theorem dX5_objectProperty_189 : decode cX5_objectProperty 189 = .ok (.ireturn, 1) := by decide +kernel
theorem dX5_objectProperty_190 : decode cX5_objectProperty 190 = .ok (.aload_n 0, 1) := by decide +kernel
theorem dX5_objectProperty_191 : decode cX5_objectProperty 191 = .ok (.iconst (-1), 1) := by decide +kernel
theorem dX5_objectProperty_192 : decode cX5_objectProperty 192 = .ok (.invokevirtual 233, 3) := by decide +kernel
theorem dX5_objectProperty_195 : decode cX5_objectProperty 195 = .ok (.iload_n 2, 1) := by decide +kernel
theorem dX5_objectProperty_196 : decode cX5_objectProperty 196 = .ok (.bipush 7, 2) := by decide +kernel
theorem dX5_objectProperty_198 : decode cX5_objectProperty 198 = .ok (.if_icmp .ne 17, 3) := by decide +kernel
theorem dX5_objectProperty_201 : decode cX5_objectProperty 201 = .ok (.aload_n 0, 1) := by decide +kernel
theorem dX5_objectProperty_202 : decode cX5_objectProperty 202 = .ok (.getfield 26, 3) := by decide +kernel
theorem dX5_objectProperty_205 : decode cX5_objectProperty 205 = .ok (.iload_n 1, 1) := by decide +kernel
theorem dX5_objectProperty_206 : decode cX5_objectProperty 206 = .ok (.invokevirtual 224, 3) := by decide +kernel
theorem dX5_objectProperty_209 : decode cX5_objectProperty 209 = .ok (.invokestatic 107, 3) := by decide +kernel
theorem dX5_objectProperty_212 : decode cX5_objectProperty 212 = .ok (.goto 11, 3) := by decide +kernel
theorem dX5_objectProperty_215 : decode cX5_objectProperty 215 = .ok (.aload_n 0, 1) := by decide +kernel
theorem dX5_objectProperty_216 : decode cX5_objectProperty 216 = .ok (.getfield 26, 3) := by decide +kernel
theorem dX5_objectProperty_219 : decode cX5_objectProperty 219 = .ok (.iload_n 1, 1) := by decide +kernel
theorem dX5_objectProperty_220 : decode cX5_objectProperty 220 = .ok (.invokevirtual 236, 3) := by decide +kernel
theorem dX5_objectProperty_223 : decode cX5_objectProperty 223 = .ok (.ireturn, 1) := by decide +kernel
theorem dX5_arena_0 : decode cX5_arena 0 = .ok (.iload_n 1, 1) := by decide +kernel
theorem dX5_arena_1 : decode cX5_arena 1 = .ok (.invokestatic 63, 3) := by decide +kernel
theorem dX5_arena_4 : decode cX5_arena 4 = .ok (.iload_n 2, 1) := by decide +kernel
theorem dX5_arena_5 : decode cX5_arena 5 = .ok (.ifCond .lt 9, 3) := by decide +kernel
theorem dX5_arena_8 : decode cX5_arena 8 = .ok (.iload_n 2, 1) := by decide +kernel
theorem dX5_arena_9 : decode cX5_arena 9 = .ok (.bipush 8, 2) := by decide +kernel
theorem dX5_arena_11 : decode cX5_arena 11 = .ok (.if_icmp .lt 13, 3) := by decide +kernel
theorem dX5_arena_14 : decode cX5_arena 14 = .ok (.new 66, 3) := by decide +kernel
theorem dX5_arena_17 : decode cX5_arena 17 = .ok (.dup, 1) := by decide +kernel
theorem dX5_arena_18 : decode cX5_arena 18 = .ok (.ldc 213, 2) := by decide +kernel
theorem dX5_arena_20 : decode cX5_arena 20 = .ok (.invokespecial 70, 3) := by decide +kernel
theorem dX5_arena_23 : decode cX5_arena 23 = .ok (.athrow, 1) := by decide +kernel
theorem dX5_arena_24 : decode cX5_arena 24 = .ok (.aload_n 0, 1) := by decide +kernel
theorem dX5_arena_25 : decode cX5_arena 25 = .ok (.iload_n 1, 1) := by decide +kernel
theorem dX5_arena_26 : decode cX5_arena 26 = .ok (.iload_n 2, 1) := by decide +kernel
theorem dX5_arena_27 : decode cX5_arena 27 = .ok (.invokevirtual 239, 3) := by decide +kernel
theorem dX5_arena_30 : decode cX5_arena 30 = .ok (.ireturn, 1) := by decide +kernel
theorem dX5_arenaProperty_0 : decode cX5_arenaProperty 0 = .ok (.iload_n 2, 1) := by decide +kernel
theorem dX5_arenaProperty_1 : decode cX5_arenaProperty 1 = .ok (.tableswitch 159 0 6 #[43, 55, 65, 74, 98, 123, 132], 43) := by decide +kernel
theorem dX5_arenaProperty_44 : decode cX5_arenaProperty 44 = .ok (.aload_n 0, 1) := by decide +kernel
theorem dX5_arenaProperty_45 : decode cX5_arenaProperty 45 = .ok (.getfield 10, 3) := by decide +kernel
theorem dX5_arenaProperty_48 : decode cX5_arenaProperty 48 = .ok (.iload_n 1, 1) := by decide +kernel
theorem dX5_arenaProperty_49 : decode cX5_arenaProperty 49 = .ok (.invokevirtual 74, 3) := by decide +kernel
theorem dX5_arenaProperty_52 : decode cX5_arenaProperty 52 = .ok (.invokestatic 107, 3) := by decide +kernel
theorem dX5_arenaProperty_55 : decode cX5_arenaProperty 55 = .ok (.ireturn, 1) := by decide +kernel
theorem dX5_arenaProperty_56 : decode cX5_arenaProperty 56 = .ok (.aload_n 0, 1) := by decide +kernel
theorem dX5_arenaProperty_57 : decode cX5_arenaProperty 57 = .ok (.getfield 10, 3) := by decide +kernel
theorem dX5_arenaProperty_60 : decode cX5_arenaProperty 60 = .ok (.getfield 242, 3) := by decide +kernel
theorem dX5_arenaProperty_63 : decode cX5_arenaProperty 63 = .ok (.iload_n 1, 1) := by decide +kernel
theorem dX5_arenaProperty_64 : decode cX5_arenaProperty 64 = .ok (.iaload, 1) := by decide +kernel
theorem dX5_arenaProperty_65 : decode cX5_arenaProperty 65 = .ok (.ireturn, 1) := by decide +kernel
theorem dX5_arenaProperty_66 : decode cX5_arenaProperty 66 = .ok (.aload_n 0, 1) := by decide +kernel
theorem dX5_arenaProperty_67 : decode cX5_arenaProperty 67 = .ok (.getfield 10, 3) := by decide +kernel
theorem dX5_arenaProperty_70 : decode cX5_arenaProperty 70 = .ok (.iload_n 1, 1) := by decide +kernel
theorem dX5_arenaProperty_71 : decode cX5_arenaProperty 71 = .ok (.invokevirtual 245, 3) := by decide +kernel
theorem dX5_arenaProperty_74 : decode cX5_arenaProperty 74 = .ok (.ireturn, 1) := by decide +kernel
theorem dX5_arenaProperty_75 : decode cX5_arenaProperty 75 = .ok (.aload_n 0, 1) := by decide +kernel
theorem dX5_arenaProperty_76 : decode cX5_arenaProperty 76 = .ok (.getfield 19, 3) := by decide +kernel
theorem dX5_arenaProperty_79 : decode cX5_arenaProperty 79 = .ok (.aload_n 0, 1) := by decide +kernel
theorem dX5_arenaProperty_80 : decode cX5_arenaProperty 80 = .ok (.getfield 10, 3) := by decide +kernel
theorem dX5_arenaProperty_83 : decode cX5_arenaProperty 83 = .ok (.iload_n 1, 1) := by decide +kernel
theorem dX5_arenaProperty_84 : decode cX5_arenaProperty 84 = .ok (.invokevirtual 136, 3) := by decide +kernel
theorem dX5_arenaProperty_87 : decode cX5_arenaProperty 87 = .ok (.aload_n 0, 1) := by decide +kernel
theorem dX5_arenaProperty_88 : decode cX5_arenaProperty 88 = .ok (.getfield 19, 3) := by decide +kernel
theorem dX5_arenaProperty_91 : decode cX5_arenaProperty 91 = .ok (.aload_n 0, 1) := by decide +kernel
theorem dX5_arenaProperty_92 : decode cX5_arenaProperty 92 = .ok (.getfield 10, 3) := by decide +kernel
theorem dX5_arenaProperty_95 : decode cX5_arenaProperty 95 = .ok (.invokevirtual 248, 3) := by decide +kernel
theorem dX5_arenaProperty_98 : decode cX5_arenaProperty 98 = .ok (.ireturn, 1) := by decide +kernel
theorem dX5_arenaProperty_99 : decode cX5_arenaProperty 99 = .ok (.aload_n 0, 1) := by decide +kernel
theorem dX5_arenaProperty_100 : decode cX5_arenaProperty 100 = .ok (.getfield 19, 3) := by decide +kernel
theorem dX5_arenaProperty_103 : decode cX5_arenaProperty 103 = .ok (.aload_n 0, 1) := by decide +kernel
theorem dX5_arenaProperty_104 : decode cX5_arenaProperty 104 = .ok (.getfield 10, 3) := by decide +kernel
theorem dX5_arenaProperty_107 : decode cX5_arenaProperty 107 = .ok (.iload_n 1, 1) := by decide +kernel
theorem dX5_arenaProperty_108 : decode cX5_arenaProperty 108 = .ok (.invokevirtual 136, 3) := by decide +kernel
theorem dX5_arenaProperty_111 : decode cX5_arenaProperty 111 = .ok (.aload_n 0, 1) := by decide +kernel
theorem dX5_arenaProperty_112 : decode cX5_arenaProperty 112 = .ok (.getfield 19, 3) := by decide +kernel
theorem dX5_arenaProperty_115 : decode cX5_arenaProperty 115 = .ok (.aload_n 0, 1) := by decide +kernel
theorem dX5_arenaProperty_116 : decode cX5_arenaProperty 116 = .ok (.getfield 10, 3) := by decide +kernel
theorem dX5_arenaProperty_119 : decode cX5_arenaProperty 119 = .ok (.iload_n 1, 1) := by decide +kernel
theorem dX5_arenaProperty_120 : decode cX5_arenaProperty 120 = .ok (.invokevirtual 252, 3) := by decide +kernel
theorem dX5_arenaProperty_123 : decode cX5_arenaProperty 123 = .ok (.ireturn, 1) := by decide +kernel
theorem dX5_arenaProperty_124 : decode cX5_arenaProperty 124 = .ok (.aload_n 0, 1) := by decide +kernel
theorem dX5_arenaProperty_125 : decode cX5_arenaProperty 125 = .ok (.getfield 10, 3) := by decide +kernel
theorem dX5_arenaProperty_128 : decode cX5_arenaProperty 128 = .ok (.iload_n 1, 1) := by decide +kernel
theorem dX5_arenaProperty_129 : decode cX5_arenaProperty 129 = .ok (.invokevirtual 118, 3) := by decide +kernel
theorem dX5_arenaProperty_132 : decode cX5_arenaProperty 132 = .ok (.ireturn, 1) := by decide +kernel
theorem dX5_arenaProperty_133 : decode cX5_arenaProperty 133 = .ok (.aload_n 0, 1) := by decide +kernel
theorem dX5_arenaProperty_134 : decode cX5_arenaProperty 134 = .ok (.getfield 19, 3) := by decide +kernel
theorem dX5_arenaProperty_137 : decode cX5_arenaProperty 137 = .ok (.aload_n 0, 1) := by decide +kernel
theorem dX5_arenaProperty_138 : decode cX5_arenaProperty 138 = .ok (.getfield 10, 3) := by decide +kernel
theorem dX5_arenaProperty_141 : decode cX5_arenaProperty 141 = .ok (.iload_n 1, 1) := by decide +kernel
theorem dX5_arenaProperty_142 : decode cX5_arenaProperty 142 = .ok (.invokevirtual 136, 3) := by decide +kernel
theorem dX5_arenaProperty_145 : decode cX5_arenaProperty 145 = .ok (.aload_n 0, 1) := by decide +kernel
theorem dX5_arenaProperty_146 : decode cX5_arenaProperty 146 = .ok (.getfield 19, 3) := by decide +kernel
theorem dX5_arenaProperty_149 : decode cX5_arenaProperty 149 = .ok (.aload_n 0, 1) := by decide +kernel
theorem dX5_arenaProperty_150 : decode cX5_arenaProperty 150 = .ok (.getfield 10, 3) := by decide +kernel
theorem dX5_arenaProperty_153 : decode cX5_arenaProperty 153 = .ok (.invokevirtual 256, 3) := by decide +kernel
theorem dX5_arenaProperty_156 : decode cX5_arenaProperty 156 = .ok (.invokestatic 107, 3) := by decide +kernel
theorem dX5_arenaProperty_159 : decode cX5_arenaProperty 159 = .ok (.ireturn, 1) := by decide +kernel
theorem dX5_arenaProperty_160 : decode cX5_arenaProperty 160 = .ok (.aload_n 0, 1) := by decide +kernel
theorem dX5_arenaProperty_161 : decode cX5_arenaProperty 161 = .ok (.getfield 10, 3) := by decide +kernel
theorem dX5_arenaProperty_164 : decode cX5_arenaProperty 164 = .ok (.getfield 260, 3) := by decide +kernel
theorem dX5_arenaProperty_167 : decode cX5_arenaProperty 167 = .ok (.iload_n 1, 1) := by decide +kernel
theorem dX5_arenaProperty_168 : decode cX5_arenaProperty 168 = .ok (.iaload, 1) := by decide +kernel
theorem dX5_arenaProperty_169 : decode cX5_arenaProperty 169 = .ok (.ireturn, 1) := by decide +kernel
theorem dX5_at_0 : decode cX5_at 0 = .ok (.iload_n 1, 1) := by decide +kernel
theorem dX5_at_1 : decode cX5_at 1 = .ok (.invokestatic 63, 3) := by decide +kernel
theorem dX5_at_4 : decode cX5_at 4 = .ok (.iload_n 2, 1) := by decide +kernel
theorem dX5_at_5 : decode cX5_at 5 = .ok (.ifCond .lt 9, 3) := by decide +kernel
theorem dX5_at_8 : decode cX5_at 8 = .ok (.iload_n 2, 1) := by decide +kernel
theorem dX5_at_9 : decode cX5_at 9 = .ok (.bipush 64, 2) := by decide +kernel
theorem dX5_at_11 : decode cX5_at 11 = .ok (.if_icmp .lt 14, 3) := by decide +kernel
theorem dX5_at_14 : decode cX5_at 14 = .ok (.new 91, 3) := by decide +kernel
theorem dX5_at_17 : decode cX5_at 17 = .ok (.dup, 1) := by decide +kernel
theorem dX5_at_18 : decode cX5_at 18 = .ok (.ldc_w 263, 3) := by decide +kernel
theorem dX5_at_21 : decode cX5_at 21 = .ok (.invokespecial 95, 3) := by decide +kernel
theorem dX5_at_24 : decode cX5_at 24 = .ok (.athrow, 1) := by decide +kernel
theorem dX5_at_25 : decode cX5_at 25 = .ok (.aload_n 0, 1) := by decide +kernel
theorem dX5_at_26 : decode cX5_at 26 = .ok (.getfield 10, 3) := by decide +kernel
theorem dX5_at_29 : decode cX5_at 29 = .ok (.iload_n 1, 1) := by decide +kernel
theorem dX5_at_30 : decode cX5_at 30 = .ok (.iload_n 2, 1) := by decide +kernel
theorem dX5_at_31 : decode cX5_at 31 = .ok (.invokevirtual 265, 3) := by decide +kernel
theorem dX5_at_34 : decode cX5_at 34 = .ok (.ireturn, 1) := by decide +kernel
theorem dX5_count_0 : decode cX5_count 0 = .ok (.iload_n 1, 1) := by decide +kernel
theorem dX5_count_1 : decode cX5_count 1 = .ok (.ifCond .lt 9, 3) := by decide +kernel
theorem dX5_count_4 : decode cX5_count 4 = .ok (.iload_n 1, 1) := by decide +kernel
theorem dX5_count_5 : decode cX5_count 5 = .ok (.bipush 11, 2) := by decide +kernel
theorem dX5_count_7 : decode cX5_count 7 = .ok (.if_icmp .lt 14, 3) := by decide +kernel
theorem dX5_count_10 : decode cX5_count 10 = .ok (.new 66, 3) := by decide +kernel
theorem dX5_count_13 : decode cX5_count 13 = .ok (.dup, 1) := by decide +kernel
theorem dX5_count_14 : decode cX5_count 14 = .ok (.ldc_w 268, 3) := by decide +kernel
theorem dX5_count_17 : decode cX5_count 17 = .ok (.invokespecial 70, 3) := by decide +kernel
theorem dX5_count_20 : decode cX5_count 20 = .ok (.athrow, 1) := by decide +kernel
theorem dX5_count_21 : decode cX5_count 21 = .ok (.aload_n 0, 1) := by decide +kernel
theorem dX5_count_22 : decode cX5_count 22 = .ok (.iload_n 1, 1) := by decide +kernel
theorem dX5_count_23 : decode cX5_count 23 = .ok (.invokevirtual 270, 3) := by decide +kernel
theorem dX5_count_26 : decode cX5_count 26 = .ok (.ireturn, 1) := by decide +kernel
theorem dX5_number_0 : decode cX5_number 0 = .ok (.iload_n 1, 1) := by decide +kernel
theorem dX5_number_1 : decode cX5_number 1 = .ok (.tableswitch 142 0 9 #[55, 63, 76, 84, 92, 101, 110, 118, 126, 134], 55) := by decide +kernel
theorem dX5_number_56 : decode cX5_number 56 = .ok (.aload_n 0, 1) := by decide +kernel
theorem dX5_number_57 : decode cX5_number 57 = .ok (.getfield 10, 3) := by decide +kernel
theorem dX5_number_60 : decode cX5_number 60 = .ok (.invokevirtual 273, 3) := by decide +kernel
theorem dX5_number_63 : decode cX5_number 63 = .ok (.ireturn, 1) := by decide +kernel
theorem dX5_number_64 : decode cX5_number 64 = .ok (.aload_n 0, 1) := by decide +kernel
theorem dX5_number_65 : decode cX5_number 65 = .ok (.iconst (-1), 1) := by decide +kernel
theorem dX5_number_66 : decode cX5_number 66 = .ok (.invokevirtual 233, 3) := by decide +kernel
theorem dX5_number_69 : decode cX5_number 69 = .ok (.aload_n 0, 1) := by decide +kernel
theorem dX5_number_70 : decode cX5_number 70 = .ok (.getfield 26, 3) := by decide +kernel
theorem dX5_number_73 : decode cX5_number 73 = .ok (.getfield 143, 3) := by decide +kernel
theorem dX5_number_76 : decode cX5_number 76 = .ok (.ireturn, 1) := by decide +kernel
theorem dX5_number_77 : decode cX5_number 77 = .ok (.aload_n 0, 1) := by decide +kernel
theorem dX5_number_78 : decode cX5_number 78 = .ok (.getfield 10, 3) := by decide +kernel
theorem dX5_number_81 : decode cX5_number 81 = .ok (.invokevirtual 276, 3) := by decide +kernel
theorem dX5_number_84 : decode cX5_number 84 = .ok (.ireturn, 1) := by decide +kernel
theorem dX5_number_85 : decode cX5_number 85 = .ok (.aload_n 0, 1) := by decide +kernel
theorem dX5_number_86 : decode cX5_number 86 = .ok (.getfield 10, 3) := by decide +kernel
theorem dX5_number_89 : decode cX5_number 89 = .ok (.invokevirtual 279, 3) := by decide +kernel
theorem dX5_number_92 : decode cX5_number 92 = .ok (.ireturn, 1) := by decide +kernel
theorem dX5_number_93 : decode cX5_number 93 = .ok (.aload_n 0, 1) := by decide +kernel
theorem dX5_number_94 : decode cX5_number 94 = .ok (.getfield 10, 3) := by decide +kernel
theorem dX5_number_97 : decode cX5_number 97 = .ok (.iconst 0, 1) := by decide +kernel
theorem dX5_number_98 : decode cX5_number 98 = .ok (.invokevirtual 282, 3) := by decide +kernel
theorem dX5_number_101 : decode cX5_number 101 = .ok (.ireturn, 1) := by decide +kernel
theorem dX5_number_102 : decode cX5_number 102 = .ok (.aload_n 0, 1) := by decide +kernel
theorem dX5_number_103 : decode cX5_number 103 = .ok (.getfield 10, 3) := by decide +kernel
theorem dX5_number_106 : decode cX5_number 106 = .ok (.iconst 1, 1) := by decide +kernel
theorem dX5_number_107 : decode cX5_number 107 = .ok (.invokevirtual 282, 3) := by decide +kernel
theorem dX5_number_110 : decode cX5_number 110 = .ok (.ireturn, 1) := by decide +kernel
theorem dX5_number_111 : decode cX5_number 111 = .ok (.aload_n 0, 1) := by decide +kernel
theorem dX5_number_112 : decode cX5_number 112 = .ok (.getfield 10, 3) := by decide +kernel
theorem dX5_number_115 : decode cX5_number 115 = .ok (.getfield 285, 3) := by decide +kernel
theorem dX5_number_118 : decode cX5_number 118 = .ok (.ireturn, 1) := by decide +kernel
theorem dX5_number_119 : decode cX5_number 119 = .ok (.aload_n 0, 1) := by decide +kernel
theorem dX5_number_120 : decode cX5_number 120 = .ok (.getfield 10, 3) := by decide +kernel
theorem dX5_number_123 : decode cX5_number 123 = .ok (.getfield 288, 3) := by decide +kernel
theorem dX5_number_126 : decode cX5_number 126 = .ok (.ireturn, 1) := by decide +kernel
theorem dX5_number_127 : decode cX5_number 127 = .ok (.aload_n 0, 1) := by decide +kernel
theorem dX5_number_128 : decode cX5_number 128 = .ok (.getfield 10, 3) := by decide +kernel
theorem dX5_number_131 : decode cX5_number 131 = .ok (.getfield 291, 3) := by decide +kernel
theorem dX5_number_134 : decode cX5_number 134 = .ok (.ireturn, 1) := by decide +kernel
theorem dX5_number_135 : decode cX5_number 135 = .ok (.aload_n 0, 1) := by decide +kernel
theorem dX5_number_136 : decode cX5_number 136 = .ok (.getfield 10, 3) := by decide +kernel
theorem dX5_number_139 : decode cX5_number 139 = .ok (.getfield 294, 3) := by decide +kernel
theorem dX5_number_142 : decode cX5_number 142 = .ok (.ireturn, 1) := by decide +kernel
theorem dX5_number_143 : decode cX5_number 143 = .ok (.aload_n 0, 1) := by decide +kernel
theorem dX5_number_144 : decode cX5_number 144 = .ok (.getfield 40, 3) := by decide +kernel
theorem dX5_number_147 : decode cX5_number 147 = .ok (.getfield 205, 3) := by decide +kernel
theorem dX5_number_150 : decode cX5_number 150 = .ok (.ireturn, 1) := by decide +kernel
theorem dX5_setting_0 : decode cX5_setting 0 = .ok (.iload_n 1, 1) := by decide +kernel
theorem dX5_setting_1 : decode cX5_setting 1 = .ok (.invokestatic 149, 3) := by decide +kernel
theorem dX5_setting_4 : decode cX5_setting 4 = .ok (.aload_n 0, 1) := by decide +kernel
theorem dX5_setting_5 : decode cX5_setting 5 = .ok (.getfield 10, 3) := by decide +kernel
theorem dX5_setting_8 : decode cX5_setting 8 = .ok (.getfield 154, 3) := by decide +kernel
theorem dX5_setting_11 : decode cX5_setting 11 = .ok (.iload_n 1, 1) := by decide +kernel
theorem dX5_setting_12 : decode cX5_setting 12 = .ok (.iaload, 1) := by decide +kernel
theorem dX5_setting_13 : decode cX5_setting 13 = .ok (.ireturn, 1) := by decide +kernel
theorem dX5_whyNot_0 : decode cX5_whyNot 0 = .ok (.iload_n 1, 1) := by decide +kernel
theorem dX5_whyNot_1 : decode cX5_whyNot 1 = .ok (.invokestatic 63, 3) := by decide +kernel
theorem dX5_whyNot_4 : decode cX5_whyNot 4 = .ok (.iload_n 2, 1) := by decide +kernel
theorem dX5_whyNot_5 : decode cX5_whyNot 5 = .ok (.invokestatic 63, 3) := by decide +kernel
theorem dX5_whyNot_8 : decode cX5_whyNot 8 = .ok (.aload_n 0, 1) := by decide +kernel
theorem dX5_whyNot_9 : decode cX5_whyNot 9 = .ok (.getfield 19, 3) := by decide +kernel
theorem dX5_whyNot_12 : decode cX5_whyNot 12 = .ok (.aload_n 0, 1) := by decide +kernel
theorem dX5_whyNot_13 : decode cX5_whyNot 13 = .ok (.getfield 10, 3) := by decide +kernel
theorem dX5_whyNot_16 : decode cX5_whyNot 16 = .ok (.iload_n 1, 1) := by decide +kernel
theorem dX5_whyNot_17 : decode cX5_whyNot 17 = .ok (.iload_n 2, 1) := by decide +kernel
theorem dX5_whyNot_18 : decode cX5_whyNot 18 = .ok (.invokevirtual 124, 3) := by decide +kernel
theorem dX5_whyNot_21 : decode cX5_whyNot 21 = .ok (.ireturn, 1) := by decide +kernel
theorem dX5_ifGiven_0 : decode cX5_ifGiven 0 = .ok (.aload_n 0, 1) := by decide +kernel
theorem dX5_ifGiven_1 : decode cX5_ifGiven 1 = .ok (.iload_n 1, 1) := by decide +kernel
theorem dX5_ifGiven_2 : decode cX5_ifGiven 2 = .ok (.invokevirtual 88, 3) := by decide +kernel
theorem dX5_ifGiven_5 : decode cX5_ifGiven 5 = .ok (.iload_n 2, 1) := by decide +kernel
theorem dX5_ifGiven_6 : decode cX5_ifGiven 6 = .ok (.invokestatic 63, 3) := by decide +kernel
theorem dX5_ifGiven_9 : decode cX5_ifGiven 9 = .ok (.aload_n 0, 1) := by decide +kernel
theorem dX5_ifGiven_10 : decode cX5_ifGiven 10 = .ok (.getfield 19, 3) := by decide +kernel
theorem dX5_ifGiven_13 : decode cX5_ifGiven 13 = .ok (.aload_n 0, 1) := by decide +kernel
theorem dX5_ifGiven_14 : decode cX5_ifGiven 14 = .ok (.getfield 10, 3) := by decide +kernel
theorem dX5_ifGiven_17 : decode cX5_ifGiven 17 = .ok (.iload_n 1, 1) := by decide +kernel
theorem dX5_ifGiven_18 : decode cX5_ifGiven 18 = .ok (.iload_n 2, 1) := by decide +kernel
theorem dX5_ifGiven_19 : decode cX5_ifGiven 19 = .ok (.invokevirtual 297, 3) := by decide +kernel
theorem dX5_ifGiven_22 : decode cX5_ifGiven 22 = .ok (.ireturn, 1) := by decide +kernel
theorem dX5_ifLost_0 : decode cX5_ifLost 0 = .ok (.aload_n 0, 1) := by decide +kernel
theorem dX5_ifLost_1 : decode cX5_ifLost 1 = .ok (.iload_n 1, 1) := by decide +kernel
theorem dX5_ifLost_2 : decode cX5_ifLost 2 = .ok (.invokevirtual 88, 3) := by decide +kernel
theorem dX5_ifLost_5 : decode cX5_ifLost 5 = .ok (.aload_n 0, 1) := by decide +kernel
theorem dX5_ifLost_6 : decode cX5_ifLost 6 = .ok (.iload_n 1, 1) := by decide +kernel
theorem dX5_ifLost_7 : decode cX5_ifLost 7 = .ok (.invokevirtual 300, 3) := by decide +kernel
theorem dX5_ifLost_10 : decode cX5_ifLost 10 = .ok (.ireturn, 1) := by decide +kernel
theorem dX5_lostWith_0 : decode cX5_lostWith 0 = .ok (.aload_n 0, 1) := by decide +kernel
theorem dX5_lostWith_1 : decode cX5_lostWith 1 = .ok (.iconst (-1), 1) := by decide +kernel
theorem dX5_lostWith_2 : decode cX5_lostWith 2 = .ok (.invokevirtual 233, 3) := by decide +kernel
theorem dX5_lostWith_5 : decode cX5_lostWith 5 = .ok (.aload_n 0, 1) := by decide +kernel
theorem dX5_lostWith_6 : decode cX5_lostWith 6 = .ok (.getfield 26, 3) := by decide +kernel
theorem dX5_lostWith_9 : decode cX5_lostWith 9 = .ok (.getfield 143, 3) := by decide +kernel
theorem dX5_lostWith_12 : decode cX5_lostWith 12 = .ok (.istore_n 2, 1) := by decide +kernel
theorem dX5_lostWith_13 : decode cX5_lostWith 13 = .ok (.aload_n 0, 1) := by decide +kernel
theorem dX5_lostWith_14 : decode cX5_lostWith 14 = .ok (.iload_n 1, 1) := by decide +kernel
theorem dX5_lostWith_15 : decode cX5_lostWith 15 = .ok (.invokevirtual 233, 3) := by decide +kernel
theorem dX5_lostWith_18 : decode cX5_lostWith 18 = .ok (.iload_n 2, 1) := by decide +kernel
theorem dX5_lostWith_19 : decode cX5_lostWith 19 = .ok (.aload_n 0, 1) := by decide +kernel
theorem dX5_lostWith_20 : decode cX5_lostWith 20 = .ok (.getfield 26, 3) := by decide +kernel
theorem dX5_lostWith_23 : decode cX5_lostWith 23 = .ok (.getfield 143, 3) := by decide +kernel
theorem dX5_lostWith_26 : decode cX5_lostWith 26 = .ok (.isub, 1) := by decide +kernel
theorem dX5_lostWith_27 : decode cX5_lostWith 27 = .ok (.ireturn, 1) := by decide +kernel
theorem dX5_traceRoots_0 : decode cX5_traceRoots 0 = .ok (.aload_n 0, 1) := by decide +kernel
theorem dX5_traceRoots_1 : decode cX5_traceRoots 1 = .ok (.getfield 26, 3) := by decide +kernel
theorem dX5_traceRoots_4 : decode cX5_traceRoots 4 = .ok (.aload_n 0, 1) := by decide +kernel
theorem dX5_traceRoots_5 : decode cX5_traceRoots 5 = .ok (.getfield 10, 3) := by decide +kernel
theorem dX5_traceRoots_8 : decode cX5_traceRoots 8 = .ok (.iload_n 1, 1) := by decide +kernel
theorem dX5_traceRoots_9 : decode cX5_traceRoots 9 = .ok (.invokevirtual 303, 3) := by decide +kernel
theorem dX5_traceRoots_12 : decode cX5_traceRoots 12 = .ok (.aload_n 0, 1) := by decide +kernel
theorem dX5_traceRoots_13 : decode cX5_traceRoots 13 = .ok (.getfield 26, 3) := by decide +kernel
theorem dX5_traceRoots_16 : decode cX5_traceRoots 16 = .ok (.aload_n 0, 1) := by decide +kernel
theorem dX5_traceRoots_17 : decode cX5_traceRoots 17 = .ok (.getfield 10, 3) := by decide +kernel
theorem dX5_traceRoots_20 : decode cX5_traceRoots 20 = .ok (.iconst (-1), 1) := by decide +kernel
theorem dX5_traceRoots_21 : decode cX5_traceRoots 21 = .ok (.iload_n 1, 1) := by decide +kernel
theorem dX5_traceRoots_22 : decode cX5_traceRoots 22 = .ok (.invokevirtual 306, 3) := by decide +kernel
theorem dX5_traceRoots_25 : decode cX5_traceRoots 25 = .ok (.return_, 1) := by decide +kernel
theorem dX5_best_0 : decode cX5_best 0 = .ok (.iconst (-1), 1) := by decide +kernel
theorem dX5_best_1 : decode cX5_best 1 = .ok (.istore_n 1, 1) := by decide +kernel
theorem dX5_best_2 : decode cX5_best 2 = .ok (.iconst (-1), 1) := by decide +kernel
theorem dX5_best_3 : decode cX5_best 3 = .ok (.istore_n 2, 1) := by decide +kernel
theorem dX5_best_4 : decode cX5_best 4 = .ok (.iconst 0, 1) := by decide +kernel
theorem dX5_best_5 : decode cX5_best 5 = .ok (.istore_n 3, 1) := by decide +kernel
theorem dX5_best_6 : decode cX5_best 6 = .ok (.iload_n 3, 1) := by decide +kernel
theorem dX5_best_7 : decode cX5_best 7 = .ok (.bipush 6, 2) := by decide +kernel
theorem dX5_best_9 : decode cX5_best 9 = .ok (.if_icmp .ge 81, 3) := by decide +kernel
theorem dX5_best_12 : decode cX5_best 12 = .ok (.iconst 0, 1) := by decide +kernel
theorem dX5_best_13 : decode cX5_best 13 = .ok (.istore 4, 2) := by decide +kernel
theorem dX5_best_15 : decode cX5_best 15 = .ok (.iload 4, 2) := by decide +kernel
theorem dX5_best_17 : decode cX5_best 17 = .ok (.bipush 6, 2) := by decide +kernel
theorem dX5_best_19 : decode cX5_best 19 = .ok (.if_icmp .ge 65, 3) := by decide +kernel
theorem dX5_best_22 : decode cX5_best 22 = .ok (.aload_n 0, 1) := by decide +kernel
theorem dX5_best_23 : decode cX5_best 23 = .ok (.getfield 19, 3) := by decide +kernel
theorem dX5_best_26 : decode cX5_best 26 = .ok (.aload_n 0, 1) := by decide +kernel
theorem dX5_best_27 : decode cX5_best 27 = .ok (.getfield 10, 3) := by decide +kernel
theorem dX5_best_30 : decode cX5_best 30 = .ok (.iload_n 3, 1) := by decide +kernel
theorem dX5_best_31 : decode cX5_best 31 = .ok (.iload 4, 2) := by decide +kernel
theorem dX5_best_33 : decode cX5_best 33 = .ok (.invokevirtual 124, 3) := by decide +kernel
theorem dX5_best_36 : decode cX5_best 36 = .ok (.ifCond .ne 42, 3) := by decide +kernel
theorem dX5_best_39 : decode cX5_best 39 = .ok (.aload_n 0, 1) := by decide +kernel
theorem dX5_best_40 : decode cX5_best 40 = .ok (.getfield 19, 3) := by decide +kernel
theorem dX5_best_43 : decode cX5_best 43 = .ok (.aload_n 0, 1) := by decide +kernel
theorem dX5_best_44 : decode cX5_best 44 = .ok (.getfield 10, 3) := by decide +kernel
theorem dX5_best_47 : decode cX5_best 47 = .ok (.iload_n 3, 1) := by decide +kernel
theorem dX5_best_48 : decode cX5_best 48 = .ok (.invokevirtual 252, 3) := by decide +kernel
theorem dX5_best_51 : decode cX5_best 51 = .ok (.istore 5, 2) := by decide +kernel
theorem dX5_best_53 : decode cX5_best 53 = .ok (.iload 5, 2) := by decide +kernel
theorem dX5_best_55 : decode cX5_best 55 = .ok (.iload_n 2, 1) := by decide +kernel
theorem dX5_best_56 : decode cX5_best 56 = .ok (.if_icmp .le 7, 3) := by decide +kernel
theorem dX5_best_59 : decode cX5_best 59 = .ok (.iload_n 3, 1) := by decide +kernel
theorem dX5_best_60 : decode cX5_best 60 = .ok (.goto 4, 3) := by decide +kernel
theorem dX5_best_63 : decode cX5_best 63 = .ok (.iload_n 1, 1) := by decide +kernel
theorem dX5_best_64 : decode cX5_best 64 = .ok (.istore_n 1, 1) := by decide +kernel
theorem dX5_best_65 : decode cX5_best 65 = .ok (.iload 5, 2) := by decide +kernel
theorem dX5_best_67 : decode cX5_best 67 = .ok (.iload_n 2, 1) := by decide +kernel
theorem dX5_best_68 : decode cX5_best 68 = .ok (.if_icmp .le 8, 3) := by decide +kernel
theorem dX5_best_71 : decode cX5_best 71 = .ok (.iload 5, 2) := by decide +kernel
theorem dX5_best_73 : decode cX5_best 73 = .ok (.goto 4, 3) := by decide +kernel
theorem dX5_best_76 : decode cX5_best 76 = .ok (.iload_n 2, 1) := by decide +kernel
theorem dX5_best_77 : decode cX5_best 77 = .ok (.istore_n 2, 1) := by decide +kernel
theorem dX5_best_78 : decode cX5_best 78 = .ok (.iinc 4 1, 3) := by decide +kernel
theorem dX5_best_81 : decode cX5_best 81 = .ok (.goto (-66), 3) := by decide +kernel
theorem dX5_best_84 : decode cX5_best 84 = .ok (.iinc 3 1, 3) := by decide +kernel
theorem dX5_best_87 : decode cX5_best 87 = .ok (.goto (-81), 3) := by decide +kernel
theorem dX5_best_90 : decode cX5_best 90 = .ok (.iload_n 1, 1) := by decide +kernel
theorem dX5_best_91 : decode cX5_best 91 = .ok (.ireturn, 1) := by decide +kernel
theorem dX5_livingShare_0 : decode cX5_livingShare 0 = .ok (.iconst 0, 1) := by decide +kernel
theorem dX5_livingShare_1 : decode cX5_livingShare 1 = .ok (.istore_n 1, 1) := by decide +kernel
theorem dX5_livingShare_2 : decode cX5_livingShare 2 = .ok (.iconst 0, 1) := by decide +kernel
theorem dX5_livingShare_3 : decode cX5_livingShare 3 = .ok (.istore_n 2, 1) := by decide +kernel
theorem dX5_livingShare_4 : decode cX5_livingShare 4 = .ok (.iload_n 2, 1) := by decide +kernel
theorem dX5_livingShare_5 : decode cX5_livingShare 5 = .ok (.bipush 6, 2) := by decide +kernel
theorem dX5_livingShare_7 : decode cX5_livingShare 7 = .ok (.if_icmp .ge 21, 3) := by decide +kernel
theorem dX5_livingShare_10 : decode cX5_livingShare 10 = .ok (.iload_n 1, 1) := by decide +kernel
theorem dX5_livingShare_11 : decode cX5_livingShare 11 = .ok (.aload_n 0, 1) := by decide +kernel
theorem dX5_livingShare_12 : decode cX5_livingShare 12 = .ok (.getfield 10, 3) := by decide +kernel
theorem dX5_livingShare_15 : decode cX5_livingShare 15 = .ok (.getfield 242, 3) := by decide +kernel
theorem dX5_livingShare_18 : decode cX5_livingShare 18 = .ok (.iload_n 2, 1) := by decide +kernel
theorem dX5_livingShare_19 : decode cX5_livingShare 19 = .ok (.iaload, 1) := by decide +kernel
theorem dX5_livingShare_20 : decode cX5_livingShare 20 = .ok (.iadd, 1) := by decide +kernel
theorem dX5_livingShare_21 : decode cX5_livingShare 21 = .ok (.istore_n 1, 1) := by decide +kernel
theorem dX5_livingShare_22 : decode cX5_livingShare 22 = .ok (.iinc 2 1, 3) := by decide +kernel
theorem dX5_livingShare_25 : decode cX5_livingShare 25 = .ok (.goto (-21), 3) := by decide +kernel
theorem dX5_livingShare_28 : decode cX5_livingShare 28 = .ok (.iload_n 1, 1) := by decide +kernel
theorem dX5_livingShare_29 : decode cX5_livingShare 29 = .ok (.ifCond .gt 5, 3) := by decide +kernel
theorem dX5_livingShare_32 : decode cX5_livingShare 32 = .ok (.dconst 1, 1) := by decide +kernel
theorem dX5_livingShare_33 : decode cX5_livingShare 33 = .ok (.dreturn, 1) := by decide +kernel
theorem dX5_livingShare_34 : decode cX5_livingShare 34 = .ok (.aload_n 0, 1) := by decide +kernel
theorem dX5_livingShare_35 : decode cX5_livingShare 35 = .ok (.iconst (-1), 1) := by decide +kernel
theorem dX5_livingShare_36 : decode cX5_livingShare 36 = .ok (.invokevirtual 233, 3) := by decide +kernel
theorem dX5_livingShare_39 : decode cX5_livingShare 39 = .ok (.aload_n 0, 1) := by decide +kernel
theorem dX5_livingShare_40 : decode cX5_livingShare 40 = .ok (.getfield 26, 3) := by decide +kernel
theorem dX5_livingShare_43 : decode cX5_livingShare 43 = .ok (.aload_n 0, 1) := by decide +kernel
theorem dX5_livingShare_44 : decode cX5_livingShare 44 = .ok (.getfield 10, 3) := by decide +kernel
theorem dX5_livingShare_47 : decode cX5_livingShare 47 = .ok (.invokevirtual 310, 3) := by decide +kernel
theorem dX5_livingShare_50 : decode cX5_livingShare 50 = .ok (.i2d, 1) := by decide +kernel
theorem dX5_livingShare_51 : decode cX5_livingShare 51 = .ok (.iload_n 1, 1) := by decide +kernel
theorem dX5_livingShare_52 : decode cX5_livingShare 52 = .ok (.i2d, 1) := by decide +kernel
theorem dX5_livingShare_53 : decode cX5_livingShare 53 = .ok (.ddiv, 1) := by decide +kernel
theorem dX5_livingShare_54 : decode cX5_livingShare 54 = .ok (.dreturn, 1) := by decide +kernel
theorem dX5_digest_0 : decode cX5_digest 0 = .ok (.ldc2_w 313, 3) := by decide +kernel
theorem dX5_digest_3 : decode cX5_digest 3 = .ok (.lstore_n 1, 1) := by decide +kernel
theorem dX5_digest_4 : decode cX5_digest 4 = .ok (.iconst 0, 1) := by decide +kernel
theorem dX5_digest_5 : decode cX5_digest 5 = .ok (.istore_n 3, 1) := by decide +kernel
theorem dX5_digest_6 : decode cX5_digest 6 = .ok (.iload_n 3, 1) := by decide +kernel
theorem dX5_digest_7 : decode cX5_digest 7 = .ok (.bipush 11, 2) := by decide +kernel
theorem dX5_digest_9 : decode cX5_digest 9 = .ok (.if_icmp .ge 22, 3) := by decide +kernel
theorem dX5_digest_12 : decode cX5_digest 12 = .ok (.ldc2_w 315, 3) := by decide +kernel
theorem dX5_digest_15 : decode cX5_digest 15 = .ok (.lload_n 1, 1) := by decide +kernel
theorem dX5_digest_16 : decode cX5_digest 16 = .ok (.lmul, 1) := by decide +kernel
theorem dX5_digest_17 : decode cX5_digest 17 = .ok (.aload_n 0, 1) := by decide +kernel
theorem dX5_digest_18 : decode cX5_digest 18 = .ok (.iload_n 3, 1) := by decide +kernel
theorem dX5_digest_19 : decode cX5_digest 19 = .ok (.invokevirtual 270, 3) := by decide +kernel
theorem dX5_digest_22 : decode cX5_digest 22 = .ok (.i2l, 1) := by decide +kernel
theorem dX5_digest_23 : decode cX5_digest 23 = .ok (.ladd, 1) := by decide +kernel
theorem dX5_digest_24 : decode cX5_digest 24 = .ok (.lstore_n 1, 1) := by decide +kernel
theorem dX5_digest_25 : decode cX5_digest 25 = .ok (.iinc 3 1, 3) := by decide +kernel
theorem dX5_digest_28 : decode cX5_digest 28 = .ok (.goto (-22), 3) := by decide +kernel
theorem dX5_digest_31 : decode cX5_digest 31 = .ok (.iconst 0, 1) := by decide +kernel
theorem dX5_digest_32 : decode cX5_digest 32 = .ok (.istore_n 3, 1) := by decide +kernel
theorem dX5_digest_33 : decode cX5_digest 33 = .ok (.iload_n 3, 1) := by decide +kernel
theorem dX5_digest_34 : decode cX5_digest 34 = .ok (.iconst 2, 1) := by decide +kernel
theorem dX5_digest_35 : decode cX5_digest 35 = .ok (.if_icmp .ge 26, 3) := by decide +kernel
theorem dX5_digest_38 : decode cX5_digest 38 = .ok (.ldc2_w 315, 3) := by decide +kernel
theorem dX5_digest_41 : decode cX5_digest 41 = .ok (.lload_n 1, 1) := by decide +kernel
theorem dX5_digest_42 : decode cX5_digest 42 = .ok (.lmul, 1) := by decide +kernel
theorem dX5_digest_43 : decode cX5_digest 43 = .ok (.aload_n 0, 1) := by decide +kernel
theorem dX5_digest_44 : decode cX5_digest 44 = .ok (.getfield 10, 3) := by decide +kernel
theorem dX5_digest_47 : decode cX5_digest 47 = .ok (.getfield 154, 3) := by decide +kernel
theorem dX5_digest_50 : decode cX5_digest 50 = .ok (.iload_n 3, 1) := by decide +kernel
theorem dX5_digest_51 : decode cX5_digest 51 = .ok (.iaload, 1) := by decide +kernel
theorem dX5_digest_52 : decode cX5_digest 52 = .ok (.i2l, 1) := by decide +kernel
theorem dX5_digest_53 : decode cX5_digest 53 = .ok (.ladd, 1) := by decide +kernel
theorem dX5_digest_54 : decode cX5_digest 54 = .ok (.lstore_n 1, 1) := by decide +kernel
theorem dX5_digest_55 : decode cX5_digest 55 = .ok (.iinc 3 1, 3) := by decide +kernel
theorem dX5_digest_58 : decode cX5_digest 58 = .ok (.goto (-25), 3) := by decide +kernel
theorem dX5_digest_61 : decode cX5_digest 61 = .ok (.iconst 0, 1) := by decide +kernel
theorem dX5_digest_62 : decode cX5_digest 62 = .ok (.istore_n 3, 1) := by decide +kernel
theorem dX5_digest_63 : decode cX5_digest 63 = .ok (.iload_n 3, 1) := by decide +kernel
theorem dX5_digest_64 : decode cX5_digest 64 = .ok (.bipush 24, 2) := by decide +kernel
theorem dX5_digest_66 : decode cX5_digest 66 = .ok (.if_icmp .ge 27, 3) := by decide +kernel
theorem dX5_digest_69 : decode cX5_digest 69 = .ok (.aload_n 0, 1) := by decide +kernel
theorem dX5_digest_70 : decode cX5_digest 70 = .ok (.getfield 10, 3) := by decide +kernel
theorem dX5_digest_73 : decode cX5_digest 73 = .ok (.iload_n 3, 1) := by decide +kernel
theorem dX5_digest_74 : decode cX5_digest 74 = .ok (.invokevirtual 198, 3) := by decide +kernel
theorem dX5_digest_77 : decode cX5_digest 77 = .ok (.ifCond .eq 10, 3) := by decide +kernel
theorem dX5_digest_80 : decode cX5_digest 80 = .ok (.aload_n 0, 1) := by decide +kernel
theorem dX5_digest_81 : decode cX5_digest 81 = .ok (.lload_n 1, 1) := by decide +kernel
theorem dX5_digest_82 : decode cX5_digest 82 = .ok (.iload_n 3, 1) := by decide +kernel
theorem dX5_digest_83 : decode cX5_digest 83 = .ok (.invokevirtual 317, 3) := by decide +kernel
theorem dX5_digest_86 : decode cX5_digest 86 = .ok (.lstore_n 1, 1) := by decide +kernel
theorem dX5_digest_87 : decode cX5_digest 87 = .ok (.iinc 3 1, 3) := by decide +kernel
theorem dX5_digest_90 : decode cX5_digest 90 = .ok (.goto (-27), 3) := by decide +kernel
theorem dX5_digest_93 : decode cX5_digest 93 = .ok (.iconst 0, 1) := by decide +kernel
theorem dX5_digest_94 : decode cX5_digest 94 = .ok (.istore_n 3, 1) := by decide +kernel
theorem dX5_digest_95 : decode cX5_digest 95 = .ok (.iload_n 3, 1) := by decide +kernel
theorem dX5_digest_96 : decode cX5_digest 96 = .ok (.bipush 6, 2) := by decide +kernel
theorem dX5_digest_98 : decode cX5_digest 98 = .ok (.if_icmp .ge 16, 3) := by decide +kernel
theorem dX5_digest_101 : decode cX5_digest 101 = .ok (.aload_n 0, 1) := by decide +kernel
theorem dX5_digest_102 : decode cX5_digest 102 = .ok (.lload_n 1, 1) := by decide +kernel
theorem dX5_digest_103 : decode cX5_digest 103 = .ok (.iload_n 3, 1) := by decide +kernel
theorem dX5_digest_104 : decode cX5_digest 104 = .ok (.invokevirtual 321, 3) := by decide +kernel
theorem dX5_digest_107 : decode cX5_digest 107 = .ok (.lstore_n 1, 1) := by decide +kernel
theorem dX5_digest_108 : decode cX5_digest 108 = .ok (.iinc 3 1, 3) := by decide +kernel
theorem dX5_digest_111 : decode cX5_digest 111 = .ok (.goto (-16), 3) := by decide +kernel
theorem dX5_digest_114 : decode cX5_digest 114 = .ok (.ldc2_w 315, 3) := by decide +kernel
theorem dX5_digest_117 : decode cX5_digest 117 = .ok (.lload_n 1, 1) := by decide +kernel
theorem dX5_digest_118 : decode cX5_digest 118 = .ok (.lmul, 1) := by decide +kernel
theorem dX5_digest_119 : decode cX5_digest 119 = .ok (.aload_n 0, 1) := by decide +kernel
theorem dX5_digest_120 : decode cX5_digest 120 = .ok (.invokevirtual 324, 3) := by decide +kernel
theorem dX5_digest_123 : decode cX5_digest 123 = .ok (.i2l, 1) := by decide +kernel
theorem dX5_digest_124 : decode cX5_digest 124 = .ok (.ladd, 1) := by decide +kernel
theorem dX5_digest_125 : decode cX5_digest 125 = .ok (.lstore_n 1, 1) := by decide +kernel
theorem dX5_digest_126 : decode cX5_digest 126 = .ok (.ldc2_w 315, 3) := by decide +kernel
theorem dX5_digest_129 : decode cX5_digest 129 = .ok (.lload_n 1, 1) := by decide +kernel
theorem dX5_digest_130 : decode cX5_digest 130 = .ok (.lmul, 1) := by decide +kernel
theorem dX5_digest_131 : decode cX5_digest 131 = .ok (.aload_n 0, 1) := by decide +kernel
theorem dX5_digest_132 : decode cX5_digest 132 = .ok (.invokevirtual 327, 3) := by decide +kernel
theorem dX5_digest_135 : decode cX5_digest 135 = .ok (.invokestatic 331, 3) := by decide +kernel
theorem dX5_digest_138 : decode cX5_digest 138 = .ok (.ladd, 1) := by decide +kernel
theorem dX5_digest_139 : decode cX5_digest 139 = .ok (.lstore_n 1, 1) := by decide +kernel
theorem dX5_digest_140 : decode cX5_digest 140 = .ok (.aload_n 0, 1) := by decide +kernel
theorem dX5_digest_141 : decode cX5_digest 141 = .ok (.getfield 33, 3) := by decide +kernel
theorem dX5_digest_144 : decode cX5_digest 144 = .ok (.ldc2_w 315, 3) := by decide +kernel
theorem dX5_digest_147 : decode cX5_digest 147 = .ok (.lload_n 1, 1) := by decide +kernel
theorem dX5_digest_148 : decode cX5_digest 148 = .ok (.lmul, 1) := by decide +kernel
theorem dX5_digest_149 : decode cX5_digest 149 = .ok (.aload_n 0, 1) := by decide +kernel
theorem dX5_digest_150 : decode cX5_digest 150 = .ok (.getfield 33, 3) := by decide +kernel
theorem dX5_digest_153 : decode cX5_digest 153 = .ok (.getfield 167, 3) := by decide +kernel
theorem dX5_digest_156 : decode cX5_digest 156 = .ok (.i2l, 1) := by decide +kernel
theorem dX5_digest_157 : decode cX5_digest 157 = .ok (.ladd, 1) := by decide +kernel
theorem dX5_digest_158 : decode cX5_digest 158 = .ok (.invokevirtual 335, 3) := by decide +kernel
theorem dX5_digest_161 : decode cX5_digest 161 = .ok (.lreturn, 1) := by decide +kernel
theorem dX5_withObject_0 : decode cX5_withObject 0 = .ok (.ldc2_w 315, 3) := by decide +kernel
theorem dX5_withObject_3 : decode cX5_withObject 3 = .ok (.lload_n 1, 1) := by decide +kernel
theorem dX5_withObject_4 : decode cX5_withObject 4 = .ok (.lmul, 1) := by decide +kernel
theorem dX5_withObject_5 : decode cX5_withObject 5 = .ok (.iload_n 3, 1) := by decide +kernel
theorem dX5_withObject_6 : decode cX5_withObject 6 = .ok (.i2l, 1) := by decide +kernel
theorem dX5_withObject_7 : decode cX5_withObject 7 = .ok (.ladd, 1) := by decide +kernel
theorem dX5_withObject_8 : decode cX5_withObject 8 = .ok (.lstore 4, 2) := by decide +kernel
theorem dX5_withObject_10 : decode cX5_withObject 10 = .ok (.iconst 0, 1) := by decide +kernel
theorem dX5_withObject_11 : decode cX5_withObject 11 = .ok (.istore 6, 2) := by decide +kernel
theorem dX5_withObject_13 : decode cX5_withObject 13 = .ok (.iload 6, 2) := by decide +kernel
theorem dX5_withObject_15 : decode cX5_withObject 15 = .ok (.bipush 12, 2) := by decide +kernel
theorem dX5_withObject_17 : decode cX5_withObject 17 = .ok (.if_icmp .ge 26, 3) := by decide +kernel
theorem dX5_withObject_20 : decode cX5_withObject 20 = .ok (.ldc2_w 315, 3) := by decide +kernel
theorem dX5_withObject_23 : decode cX5_withObject 23 = .ok (.lload 4, 2) := by decide +kernel
theorem dX5_withObject_25 : decode cX5_withObject 25 = .ok (.lmul, 1) := by decide +kernel
theorem dX5_withObject_26 : decode cX5_withObject 26 = .ok (.aload_n 0, 1) := by decide +kernel
theorem dX5_withObject_27 : decode cX5_withObject 27 = .ok (.iload_n 3, 1) := by decide +kernel
theorem dX5_withObject_28 : decode cX5_withObject 28 = .ok (.iload 6, 2) := by decide +kernel
theorem dX5_withObject_30 : decode cX5_withObject 30 = .ok (.invokevirtual 215, 3) := by decide +kernel
theorem dX5_withObject_33 : decode cX5_withObject 33 = .ok (.i2l, 1) := by decide +kernel
theorem dX5_withObject_34 : decode cX5_withObject 34 = .ok (.ladd, 1) := by decide +kernel
theorem dX5_withObject_35 : decode cX5_withObject 35 = .ok (.lstore 4, 2) := by decide +kernel
theorem dX5_withObject_37 : decode cX5_withObject 37 = .ok (.iinc 6 1, 3) := by decide +kernel
theorem dX5_withObject_40 : decode cX5_withObject 40 = .ok (.goto (-27), 3) := by decide +kernel
theorem dX5_withObject_43 : decode cX5_withObject 43 = .ok (.ldc2_w 315, 3) := by decide +kernel
theorem dX5_withObject_46 : decode cX5_withObject 46 = .ok (.lload 4, 2) := by decide +kernel
theorem dX5_withObject_48 : decode cX5_withObject 48 = .ok (.lmul, 1) := by decide +kernel
theorem dX5_withObject_49 : decode cX5_withObject 49 = .ok (.aload_n 0, 1) := by decide +kernel
theorem dX5_withObject_50 : decode cX5_withObject 50 = .ok (.getfield 19, 3) := by decide +kernel
theorem dX5_withObject_53 : decode cX5_withObject 53 = .ok (.aload_n 0, 1) := by decide +kernel
theorem dX5_withObject_54 : decode cX5_withObject 54 = .ok (.getfield 10, 3) := by decide +kernel
theorem dX5_withObject_57 : decode cX5_withObject 57 = .ok (.iload_n 3, 1) := by decide +kernel
theorem dX5_withObject_58 : decode cX5_withObject 58 = .ok (.iconst 0, 1) := by decide +kernel
theorem dX5_withObject_59 : decode cX5_withObject 59 = .ok (.invokevirtual 297, 3) := by decide +kernel
theorem dX5_withObject_62 : decode cX5_withObject 62 = .ok (.i2l, 1) := by decide +kernel
theorem dX5_withObject_63 : decode cX5_withObject 63 = .ok (.ladd, 1) := by decide +kernel
theorem dX5_withObject_64 : decode cX5_withObject 64 = .ok (.lstore 4, 2) := by decide +kernel
theorem dX5_withObject_66 : decode cX5_withObject 66 = .ok (.ldc2_w 315, 3) := by decide +kernel
theorem dX5_withObject_69 : decode cX5_withObject 69 = .ok (.lload 4, 2) := by decide +kernel
theorem dX5_withObject_71 : decode cX5_withObject 71 = .ok (.lmul, 1) := by decide +kernel
theorem dX5_withObject_72 : decode cX5_withObject 72 = .ok (.aload_n 0, 1) := by decide +kernel
theorem dX5_withObject_73 : decode cX5_withObject 73 = .ok (.iload_n 3, 1) := by decide +kernel
theorem dX5_withObject_74 : decode cX5_withObject 74 = .ok (.invokevirtual 300, 3) := by decide +kernel
theorem dX5_withObject_77 : decode cX5_withObject 77 = .ok (.i2l, 1) := by decide +kernel
theorem dX5_withObject_78 : decode cX5_withObject 78 = .ok (.ladd, 1) := by decide +kernel
theorem dX5_withObject_79 : decode cX5_withObject 79 = .ok (.lreturn, 1) := by decide +kernel
theorem dX5_withArena_0 : decode cX5_withArena 0 = .ok (.lload_n 1, 1) := by decide +kernel
theorem dX5_withArena_1 : decode cX5_withArena 1 = .ok (.lstore 4, 2) := by decide +kernel
theorem dX5_withArena_3 : decode cX5_withArena 3 = .ok (.iconst 0, 1) := by decide +kernel
theorem dX5_withArena_4 : decode cX5_withArena 4 = .ok (.istore 6, 2) := by decide +kernel
theorem dX5_withArena_6 : decode cX5_withArena 6 = .ok (.iload 6, 2) := by decide +kernel
theorem dX5_withArena_8 : decode cX5_withArena 8 = .ok (.bipush 8, 2) := by decide +kernel
theorem dX5_withArena_10 : decode cX5_withArena 10 = .ok (.if_icmp .ge 26, 3) := by decide +kernel
theorem dX5_withArena_13 : decode cX5_withArena 13 = .ok (.ldc2_w 315, 3) := by decide +kernel
theorem dX5_withArena_16 : decode cX5_withArena 16 = .ok (.lload 4, 2) := by decide +kernel
theorem dX5_withArena_18 : decode cX5_withArena 18 = .ok (.lmul, 1) := by decide +kernel
theorem dX5_withArena_19 : decode cX5_withArena 19 = .ok (.aload_n 0, 1) := by decide +kernel
theorem dX5_withArena_20 : decode cX5_withArena 20 = .ok (.iload_n 3, 1) := by decide +kernel
theorem dX5_withArena_21 : decode cX5_withArena 21 = .ok (.iload 6, 2) := by decide +kernel
theorem dX5_withArena_23 : decode cX5_withArena 23 = .ok (.invokevirtual 239, 3) := by decide +kernel
theorem dX5_withArena_26 : decode cX5_withArena 26 = .ok (.i2l, 1) := by decide +kernel
theorem dX5_withArena_27 : decode cX5_withArena 27 = .ok (.ladd, 1) := by decide +kernel
theorem dX5_withArena_28 : decode cX5_withArena 28 = .ok (.lstore 4, 2) := by decide +kernel
theorem dX5_withArena_30 : decode cX5_withArena 30 = .ok (.iinc 6 1, 3) := by decide +kernel
theorem dX5_withArena_33 : decode cX5_withArena 33 = .ok (.goto (-27), 3) := by decide +kernel
theorem dX5_withArena_36 : decode cX5_withArena 36 = .ok (.ldc2_w 315, 3) := by decide +kernel
theorem dX5_withArena_39 : decode cX5_withArena 39 = .ok (.lload 4, 2) := by decide +kernel
theorem dX5_withArena_41 : decode cX5_withArena 41 = .ok (.lmul, 1) := by decide +kernel
theorem dX5_withArena_42 : decode cX5_withArena 42 = .ok (.aload_n 0, 1) := by decide +kernel
theorem dX5_withArena_43 : decode cX5_withArena 43 = .ok (.getfield 19, 3) := by decide +kernel
theorem dX5_withArena_46 : decode cX5_withArena 46 = .ok (.aload_n 0, 1) := by decide +kernel
theorem dX5_withArena_47 : decode cX5_withArena 47 = .ok (.getfield 10, 3) := by decide +kernel
theorem dX5_withArena_50 : decode cX5_withArena 50 = .ok (.iload_n 3, 1) := by decide +kernel
theorem dX5_withArena_51 : decode cX5_withArena 51 = .ok (.iconst 1, 1) := by decide +kernel
theorem dX5_withArena_52 : decode cX5_withArena 52 = .ok (.invokevirtual 124, 3) := by decide +kernel
theorem dX5_withArena_55 : decode cX5_withArena 55 = .ok (.i2l, 1) := by decide +kernel
theorem dX5_withArena_56 : decode cX5_withArena 56 = .ok (.ladd, 1) := by decide +kernel
theorem dX5_withArena_57 : decode cX5_withArena 57 = .ok (.lreturn, 1) := by decide +kernel
theorem dX5_bitsOf_0 : decode cX5_bitsOf 0 = .ok (.dload_n 0, 1) := by decide +kernel
theorem dX5_bitsOf_1 : decode cX5_bitsOf 1 = .ok (.dconst 0, 1) := by decide +kernel
theorem dX5_bitsOf_2 : decode cX5_bitsOf 2 = .ok (.dcmp .g, 1) := by decide +kernel
theorem dX5_bitsOf_3 : decode cX5_bitsOf 3 = .ok (.ifCond .gt 5, 3) := by decide +kernel
theorem dX5_bitsOf_6 : decode cX5_bitsOf 6 = .ok (.lconst 0, 1) := by decide +kernel
theorem dX5_bitsOf_7 : decode cX5_bitsOf 7 = .ok (.lreturn, 1) := by decide +kernel
theorem dX5_bitsOf_8 : decode cX5_bitsOf 8 = .ok (.dload_n 0, 1) := by decide +kernel
theorem dX5_bitsOf_9 : decode cX5_bitsOf 9 = .ok (.dstore_n 2, 1) := by decide +kernel
theorem dX5_bitsOf_10 : decode cX5_bitsOf 10 = .ok (.ldc2_w 339, 3) := by decide +kernel
theorem dX5_bitsOf_13 : decode cX5_bitsOf 13 = .ok (.lstore 4, 2) := by decide +kernel
theorem dX5_bitsOf_15 : decode cX5_bitsOf 15 = .ok (.iconst 1, 1) := by decide +kernel
theorem dX5_bitsOf_16 : decode cX5_bitsOf 16 = .ok (.istore 6, 2) := by decide +kernel
theorem dX5_bitsOf_18 : decode cX5_bitsOf 18 = .ok (.iload 6, 2) := by decide +kernel
theorem dX5_bitsOf_20 : decode cX5_bitsOf 20 = .ok (.sipush 1023, 3) := by decide +kernel
theorem dX5_bitsOf_23 : decode cX5_bitsOf 23 = .ok (.if_icmp .ge 27, 3) := by decide +kernel
theorem dX5_bitsOf_26 : decode cX5_bitsOf 26 = .ok (.dload_n 2, 1) := by decide +kernel
theorem dX5_bitsOf_27 : decode cX5_bitsOf 27 = .ok (.dconst 1, 1) := by decide +kernel
theorem dX5_bitsOf_28 : decode cX5_bitsOf 28 = .ok (.dcmp .g, 1) := by decide +kernel
theorem dX5_bitsOf_29 : decode cX5_bitsOf 29 = .ok (.ifCond .ge 21, 3) := by decide +kernel
theorem dX5_bitsOf_32 : decode cX5_bitsOf 32 = .ok (.dload_n 2, 1) := by decide +kernel
theorem dX5_bitsOf_33 : decode cX5_bitsOf 33 = .ok (.ldc2_w 341, 3) := by decide +kernel
theorem dX5_bitsOf_36 : decode cX5_bitsOf 36 = .ok (.dmul, 1) := by decide +kernel
theorem dX5_bitsOf_37 : decode cX5_bitsOf 37 = .ok (.dstore_n 2, 1) := by decide +kernel
theorem dX5_bitsOf_38 : decode cX5_bitsOf 38 = .ok (.lload 4, 2) := by decide +kernel
theorem dX5_bitsOf_40 : decode cX5_bitsOf 40 = .ok (.lconst 1, 1) := by decide +kernel
theorem dX5_bitsOf_41 : decode cX5_bitsOf 41 = .ok (.lsub, 1) := by decide +kernel
theorem dX5_bitsOf_42 : decode cX5_bitsOf 42 = .ok (.lstore 4, 2) := by decide +kernel
theorem dX5_bitsOf_44 : decode cX5_bitsOf 44 = .ok (.iinc 6 1, 3) := by decide +kernel
theorem dX5_bitsOf_47 : decode cX5_bitsOf 47 = .ok (.goto (-29), 3) := by decide +kernel
theorem dX5_bitsOf_50 : decode cX5_bitsOf 50 = .ok (.lload 4, 2) := by decide +kernel
theorem dX5_bitsOf_52 : decode cX5_bitsOf 52 = .ok (.bipush 52, 2) := by decide +kernel
theorem dX5_bitsOf_54 : decode cX5_bitsOf 54 = .ok (.lshl, 1) := by decide +kernel
theorem dX5_bitsOf_55 : decode cX5_bitsOf 55 = .ok (.dload_n 2, 1) := by decide +kernel
theorem dX5_bitsOf_56 : decode cX5_bitsOf 56 = .ok (.dconst 1, 1) := by decide +kernel
theorem dX5_bitsOf_57 : decode cX5_bitsOf 57 = .ok (.dsub, 1) := by decide +kernel
theorem dX5_bitsOf_58 : decode cX5_bitsOf 58 = .ok (.ldc2_w 343, 3) := by decide +kernel
theorem dX5_bitsOf_61 : decode cX5_bitsOf 61 = .ok (.dmul, 1) := by decide +kernel
theorem dX5_bitsOf_62 : decode cX5_bitsOf 62 = .ok (.d2l, 1) := by decide +kernel
theorem dX5_bitsOf_63 : decode cX5_bitsOf 63 = .ok (.ladd, 1) := by decide +kernel
theorem dX5_bitsOf_64 : decode cX5_bitsOf 64 = .ok (.lreturn, 1) := by decide +kernel
theorem dX5_oneIf_0 : decode cX5_oneIf 0 = .ok (.iload_n 0, 1) := by decide +kernel
theorem dX5_oneIf_1 : decode cX5_oneIf 1 = .ok (.ifCond .eq 7, 3) := by decide +kernel
theorem dX5_oneIf_4 : decode cX5_oneIf 4 = .ok (.iconst 1, 1) := by decide +kernel
theorem dX5_oneIf_5 : decode cX5_oneIf 5 = .ok (.goto 4, 3) := by decide +kernel
theorem dX5_oneIf_8 : decode cX5_oneIf 8 = .ok (.iconst 0, 1) := by decide +kernel
theorem dX5_oneIf_9 : decode cX5_oneIf 9 = .ok (.ireturn, 1) := by decide +kernel
theorem dX5_isArena_0 : decode cX5_isArena 0 = .ok (.iload_n 0, 1) := by decide +kernel
theorem dX5_isArena_1 : decode cX5_isArena 1 = .ok (.ifCond .lt 13, 3) := by decide +kernel
theorem dX5_isArena_4 : decode cX5_isArena 4 = .ok (.iload_n 0, 1) := by decide +kernel
theorem dX5_isArena_5 : decode cX5_isArena 5 = .ok (.bipush 6, 2) := by decide +kernel
theorem dX5_isArena_7 : decode cX5_isArena 7 = .ok (.if_icmp .ge 7, 3) := by decide +kernel
theorem dX5_isArena_10 : decode cX5_isArena 10 = .ok (.iconst 1, 1) := by decide +kernel
theorem dX5_isArena_11 : decode cX5_isArena 11 = .ok (.goto 4, 3) := by decide +kernel
theorem dX5_isArena_14 : decode cX5_isArena 14 = .ok (.iconst 0, 1) := by decide +kernel
theorem dX5_isArena_15 : decode cX5_isArena 15 = .ok (.ireturn, 1) := by decide +kernel
theorem dX5_isNumber_0 : decode cX5_isNumber 0 = .ok (.iload_n 0, 1) := by decide +kernel
theorem dX5_isNumber_1 : decode cX5_isNumber 1 = .ok (.ifCond .lt 13, 3) := by decide +kernel
theorem dX5_isNumber_4 : decode cX5_isNumber 4 = .ok (.iload_n 0, 1) := by decide +kernel
theorem dX5_isNumber_5 : decode cX5_isNumber 5 = .ok (.bipush 24, 2) := by decide +kernel
theorem dX5_isNumber_7 : decode cX5_isNumber 7 = .ok (.if_icmp .ge 7, 3) := by decide +kernel
theorem dX5_isNumber_10 : decode cX5_isNumber 10 = .ok (.iconst 1, 1) := by decide +kernel
theorem dX5_isNumber_11 : decode cX5_isNumber 11 = .ok (.goto 4, 3) := by decide +kernel
theorem dX5_isNumber_14 : decode cX5_isNumber 14 = .ok (.iconst 0, 1) := by decide +kernel
theorem dX5_isNumber_15 : decode cX5_isNumber 15 = .ok (.ireturn, 1) := by decide +kernel
theorem dX5_refuseNoArena_0 : decode cX5_refuseNoArena 0 = .ok (.iload_n 0, 1) := by decide +kernel
theorem dX5_refuseNoArena_1 : decode cX5_refuseNoArena 1 = .ok (.invokestatic 345, 3) := by decide +kernel
theorem dX5_refuseNoArena_4 : decode cX5_refuseNoArena 4 = .ok (.ifCond .ne 14, 3) := by decide +kernel
theorem dX5_refuseNoArena_7 : decode cX5_refuseNoArena 7 = .ok (.new 91, 3) := by decide +kernel
theorem dX5_refuseNoArena_10 : decode cX5_refuseNoArena 10 = .ok (.dup, 1) := by decide +kernel
theorem dX5_refuseNoArena_11 : decode cX5_refuseNoArena 11 = .ok (.ldc_w 348, 3) := by decide +kernel
theorem dX5_refuseNoArena_14 : decode cX5_refuseNoArena 14 = .ok (.invokespecial 95, 3) := by decide +kernel
theorem dX5_refuseNoArena_17 : decode cX5_refuseNoArena 17 = .ok (.athrow, 1) := by decide +kernel
theorem dX5_refuseNoArena_18 : decode cX5_refuseNoArena 18 = .ok (.return_, 1) := by decide +kernel
theorem dX5_refuseNoObject_0 : decode cX5_refuseNoObject 0 = .ok (.aload_n 0, 1) := by decide +kernel
theorem dX5_refuseNoObject_1 : decode cX5_refuseNoObject 1 = .ok (.getfield 10, 3) := by decide +kernel
theorem dX5_refuseNoObject_4 : decode cX5_refuseNoObject 4 = .ok (.iload_n 1, 1) := by decide +kernel
theorem dX5_refuseNoObject_5 : decode cX5_refuseNoObject 5 = .ok (.invokevirtual 198, 3) := by decide +kernel
theorem dX5_refuseNoObject_8 : decode cX5_refuseNoObject 8 = .ok (.ifCond .ne 14, 3) := by decide +kernel
theorem dX5_refuseNoObject_11 : decode cX5_refuseNoObject 11 = .ok (.new 91, 3) := by decide +kernel
theorem dX5_refuseNoObject_14 : decode cX5_refuseNoObject 14 = .ok (.dup, 1) := by decide +kernel
theorem dX5_refuseNoObject_15 : decode cX5_refuseNoObject 15 = .ok (.ldc_w 350, 3) := by decide +kernel
theorem dX5_refuseNoObject_18 : decode cX5_refuseNoObject 18 = .ok (.invokespecial 95, 3) := by decide +kernel
theorem dX5_refuseNoObject_21 : decode cX5_refuseNoObject 21 = .ok (.athrow, 1) := by decide +kernel
theorem dX5_refuseNoObject_22 : decode cX5_refuseNoObject 22 = .ok (.return_, 1) := by decide +kernel
theorem dX5_refuseNoSetting_0 : decode cX5_refuseNoSetting 0 = .ok (.iload_n 0, 1) := by decide +kernel
theorem dX5_refuseNoSetting_1 : decode cX5_refuseNoSetting 1 = .ok (.ifCond .lt 8, 3) := by decide +kernel
theorem dX5_refuseNoSetting_4 : decode cX5_refuseNoSetting 4 = .ok (.iload_n 0, 1) := by decide +kernel
theorem dX5_refuseNoSetting_5 : decode cX5_refuseNoSetting 5 = .ok (.iconst 2, 1) := by decide +kernel
theorem dX5_refuseNoSetting_6 : decode cX5_refuseNoSetting 6 = .ok (.if_icmp .lt 14, 3) := by decide +kernel
theorem dX5_refuseNoSetting_9 : decode cX5_refuseNoSetting 9 = .ok (.new 91, 3) := by decide +kernel
theorem dX5_refuseNoSetting_12 : decode cX5_refuseNoSetting 12 = .ok (.dup, 1) := by decide +kernel
theorem dX5_refuseNoSetting_13 : decode cX5_refuseNoSetting 13 = .ok (.ldc_w 352, 3) := by decide +kernel
theorem dX5_refuseNoSetting_16 : decode cX5_refuseNoSetting 16 = .ok (.invokespecial 95, 3) := by decide +kernel
theorem dX5_refuseNoSetting_19 : decode cX5_refuseNoSetting 19 = .ok (.athrow, 1) := by decide +kernel
theorem dX5_refuseNoSetting_20 : decode cX5_refuseNoSetting 20 = .ok (.return_, 1) := by decide +kernel
theorem dX6_init_0 : decode cX6_init 0 = .ok (.aload_n 0, 1) := by decide +kernel
theorem dX6_init_1 : decode cX6_init 1 = .ok (.invokespecial 1, 3) := by decide +kernel
theorem dX6_init_4 : decode cX6_init 4 = .ok (.aload_n 0, 1) := by decide +kernel
theorem dX6_init_5 : decode cX6_init 5 = .ok (.sipush 240, 3) := by decide +kernel
theorem dX6_init_8 : decode cX6_init 8 = .ok (.newarray .int, 2) := by decide +kernel
theorem dX6_init_10 : decode cX6_init 10 = .ok (.putfield 7, 3) := by decide +kernel
theorem dX6_init_13 : decode cX6_init 13 = .ok (.aload_n 0, 1) := by decide +kernel
theorem dX6_init_14 : decode cX6_init 14 = .ok (.sipush 1440, 3) := by decide +kernel
theorem dX6_init_17 : decode cX6_init 17 = .ok (.newarray .int, 2) := by decide +kernel
theorem dX6_init_19 : decode cX6_init 19 = .ok (.putfield 13, 3) := by decide +kernel
theorem dX6_init_22 : decode cX6_init 22 = .ok (.aload_n 0, 1) := by decide +kernel
theorem dX6_init_23 : decode cX6_init 23 = .ok (.bipush 60, 2) := by decide +kernel
theorem dX6_init_25 : decode cX6_init 25 = .ok (.newarray .int, 2) := by decide +kernel
theorem dX6_init_27 : decode cX6_init 27 = .ok (.putfield 16, 3) := by decide +kernel
theorem dX6_init_30 : decode cX6_init 30 = .ok (.aload_n 0, 1) := by decide +kernel
theorem dX6_init_31 : decode cX6_init 31 = .ok (.bipush 93, 2) := by decide +kernel
theorem dX6_init_33 : decode cX6_init 33 = .ok (.newarray .int, 2) := by decide +kernel
theorem dX6_init_35 : decode cX6_init 35 = .ok (.putfield 19, 3) := by decide +kernel
theorem dX6_init_38 : decode cX6_init 38 = .ok (.aload_n 0, 1) := by decide +kernel
theorem dX6_init_39 : decode cX6_init 39 = .ok (.bipush 24, 2) := by decide +kernel
theorem dX6_init_41 : decode cX6_init 41 = .ok (.newarray .int, 2) := by decide +kernel
theorem dX6_init_43 : decode cX6_init 43 = .ok (.putfield 22, 3) := by decide +kernel
theorem dX6_init_46 : decode cX6_init 46 = .ok (.aload_n 0, 1) := by decide +kernel
theorem dX6_init_47 : decode cX6_init 47 = .ok (.bipush 24, 2) := by decide +kernel
theorem dX6_init_49 : decode cX6_init 49 = .ok (.newarray .int, 2) := by decide +kernel
theorem dX6_init_51 : decode cX6_init 51 = .ok (.putfield 25, 3) := by decide +kernel
theorem dX6_init_54 : decode cX6_init 54 = .ok (.aload_n 0, 1) := by decide +kernel
theorem dX6_init_55 : decode cX6_init 55 = .ok (.bipush 24, 2) := by decide +kernel
theorem dX6_init_57 : decode cX6_init 57 = .ok (.newarray .boolean, 2) := by decide +kernel
theorem dX6_init_59 : decode cX6_init 59 = .ok (.putfield 28, 3) := by decide +kernel
theorem dX6_init_62 : decode cX6_init 62 = .ok (.aload_n 0, 1) := by decide +kernel
theorem dX6_init_63 : decode cX6_init 63 = .ok (.bipush 24, 2) := by decide +kernel
theorem dX6_init_65 : decode cX6_init 65 = .ok (.newarray .int, 2) := by decide +kernel
theorem dX6_init_67 : decode cX6_init 67 = .ok (.putfield 32, 3) := by decide +kernel
theorem dX6_init_70 : decode cX6_init 70 = .ok (.return_, 1) := by decide +kernel
theorem dX6_thrown_0 : decode cX6_thrown 0 = .ok (.aload_n 0, 1) := by decide +kernel
theorem dX6_thrown_1 : decode cX6_thrown 1 = .ok (.getfield 35, 3) := by decide +kernel
theorem dX6_thrown_4 : decode cX6_thrown 4 = .ok (.ireturn, 1) := by decide +kernel
theorem dX6_fails_0 : decode cX6_fails 0 = .ok (.aload_n 0, 1) := by decide +kernel
theorem dX6_fails_1 : decode cX6_fails 1 = .ok (.iload_n 1, 1) := by decide +kernel
theorem dX6_fails_2 : decode cX6_fails 2 = .ok (.putfield 35, 3) := by decide +kernel
theorem dX6_fails_5 : decode cX6_fails 5 = .ok (.iconst 0, 1) := by decide +kernel
theorem dX6_fails_6 : decode cX6_fails 6 = .ok (.ireturn, 1) := by decide +kernel
theorem dX6_in_0 : decode cX6_in 0 = .ok (.iload_n 0, 1) := by decide +kernel
theorem dX6_in_1 : decode cX6_in 1 = .ok (.iload_n 1, 1) := by decide +kernel
theorem dX6_in_2 : decode cX6_in 2 = .ok (.if_icmp .lt 12, 3) := by decide +kernel
theorem dX6_in_5 : decode cX6_in 5 = .ok (.iload_n 0, 1) := by decide +kernel
theorem dX6_in_6 : decode cX6_in 6 = .ok (.iload_n 2, 1) := by decide +kernel
theorem dX6_in_7 : decode cX6_in 7 = .ok (.if_icmp .gt 7, 3) := by decide +kernel
theorem dX6_in_10 : decode cX6_in 10 = .ok (.iconst 1, 1) := by decide +kernel
theorem dX6_in_11 : decode cX6_in 11 = .ok (.goto 4, 3) := by decide +kernel
theorem dX6_in_14 : decode cX6_in 14 = .ok (.iconst 0, 1) := by decide +kernel
theorem dX6_in_15 : decode cX6_in 15 = .ok (.ireturn, 1) := by decide +kernel
theorem dX6_isArena_0 : decode cX6_isArena 0 = .ok (.iload_n 0, 1) := by decide +kernel
theorem dX6_isArena_1 : decode cX6_isArena 1 = .ok (.iconst 0, 1) := by decide +kernel
theorem dX6_isArena_2 : decode cX6_isArena 2 = .ok (.iconst 5, 1) := by decide +kernel
theorem dX6_isArena_3 : decode cX6_isArena 3 = .ok (.invokestatic 39, 3) := by decide +kernel
theorem dX6_isArena_6 : decode cX6_isArena 6 = .ok (.ireturn, 1) := by decide +kernel
theorem dX6_of_0 : decode cX6_of 0 = .ok (.aload_n 0, 1) := by decide +kernel
theorem dX6_of_1 : decode cX6_of 1 = .ok (.getfield 7, 3) := by decide +kernel
theorem dX6_of_4 : decode cX6_of 4 = .ok (.bipush 24, 2) := by decide +kernel
theorem dX6_of_6 : decode cX6_of 6 = .ok (.bipush 9, 2) := by decide +kernel
theorem dX6_of_8 : decode cX6_of 8 = .ok (.iload_n 1, 1) := by decide +kernel
theorem dX6_of_9 : decode cX6_of 9 = .ok (.imul, 1) := by decide +kernel
theorem dX6_of_10 : decode cX6_of 10 = .ok (.iadd, 1) := by decide +kernel
theorem dX6_of_11 : decode cX6_of 11 = .ok (.iload_n 2, 1) := by decide +kernel
theorem dX6_of_12 : decode cX6_of 12 = .ok (.iadd, 1) := by decide +kernel
theorem dX6_of_13 : decode cX6_of 13 = .ok (.iaload, 1) := by decide +kernel
theorem dX6_of_14 : decode cX6_of 14 = .ok (.ireturn, 1) := by decide +kernel
theorem dX6_isObject_0 : decode cX6_isObject 0 = .ok (.iload_n 1, 1) := by decide +kernel
theorem dX6_isObject_1 : decode cX6_isObject 1 = .ok (.iconst 0, 1) := by decide +kernel
theorem dX6_isObject_2 : decode cX6_isObject 2 = .ok (.bipush 23, 2) := by decide +kernel
theorem dX6_isObject_4 : decode cX6_isObject 4 = .ok (.invokestatic 39, 3) := by decide +kernel
theorem dX6_isObject_7 : decode cX6_isObject 7 = .ok (.ifCond .eq 17, 3) := by decide +kernel
theorem dX6_isObject_10 : decode cX6_isObject 10 = .ok (.aload_n 0, 1) := by decide +kernel
theorem dX6_isObject_11 : decode cX6_isObject 11 = .ok (.iload_n 1, 1) := by decide +kernel
theorem dX6_isObject_12 : decode cX6_isObject 12 = .ok (.iconst 0, 1) := by decide +kernel
theorem dX6_isObject_13 : decode cX6_isObject 13 = .ok (.invokevirtual 43, 3) := by decide +kernel
theorem dX6_isObject_16 : decode cX6_isObject 16 = .ok (.iconst 1, 1) := by decide +kernel
theorem dX6_isObject_17 : decode cX6_isObject 17 = .ok (.if_icmp .ne 7, 3) := by decide +kernel
theorem dX6_isObject_20 : decode cX6_isObject 20 = .ok (.iconst 1, 1) := by decide +kernel
theorem dX6_isObject_21 : decode cX6_isObject 21 = .ok (.goto 4, 3) := by decide +kernel
theorem dX6_isObject_24 : decode cX6_isObject 24 = .ok (.iconst 0, 1) := by decide +kernel
theorem dX6_isObject_25 : decode cX6_isObject 25 = .ok (.ireturn, 1) := by decide +kernel
theorem dX6_isIn_0 : decode cX6_isIn 0 = .ok (.aload_n 0, 1) := by decide +kernel
theorem dX6_isIn_1 : decode cX6_isIn 1 = .ok (.iload_n 1, 1) := by decide +kernel
theorem dX6_isIn_2 : decode cX6_isIn 2 = .ok (.iconst 0, 1) := by decide +kernel
theorem dX6_isIn_3 : decode cX6_isIn 3 = .ok (.invokevirtual 43, 3) := by decide +kernel
theorem dX6_isIn_6 : decode cX6_isIn 6 = .ok (.iconst 1, 1) := by decide +kernel
theorem dX6_isIn_7 : decode cX6_isIn 7 = .ok (.if_icmp .ne 17, 3) := by decide +kernel
theorem dX6_isIn_10 : decode cX6_isIn 10 = .ok (.aload_n 0, 1) := by decide +kernel
theorem dX6_isIn_11 : decode cX6_isIn 11 = .ok (.iload_n 1, 1) := by decide +kernel
theorem dX6_isIn_12 : decode cX6_isIn 12 = .ok (.iconst 1, 1) := by decide +kernel
theorem dX6_isIn_13 : decode cX6_isIn 13 = .ok (.invokevirtual 43, 3) := by decide +kernel
theorem dX6_isIn_16 : decode cX6_isIn 16 = .ok (.iload_n 2, 1) := by decide +kernel
theorem dX6_isIn_17 : decode cX6_isIn 17 = .ok (.if_icmp .ne 7, 3) := by decide +kernel
theorem dX6_isIn_20 : decode cX6_isIn 20 = .ok (.iconst 1, 1) := by decide +kernel
theorem dX6_isIn_21 : decode cX6_isIn 21 = .ok (.goto 4, 3) := by decide +kernel
theorem dX6_isIn_24 : decode cX6_isIn 24 = .ok (.iconst 0, 1) := by decide +kernel
theorem dX6_isIn_25 : decode cX6_isIn 25 = .ok (.ireturn, 1) := by decide +kernel
theorem dX6_isOpen_0 : decode cX6_isOpen 0 = .ok (.aload_n 0, 1) := by decide +kernel
theorem dX6_isOpen_1 : decode cX6_isOpen 1 = .ok (.getfield 7, 3) := by decide +kernel
theorem dX6_isOpen_4 : decode cX6_isOpen 4 = .ok (.bipush 6, 2) := by decide +kernel
theorem dX6_isOpen_6 : decode cX6_isOpen 6 = .ok (.iconst 3, 1) := by decide +kernel
theorem dX6_isOpen_7 : decode cX6_isOpen 7 = .ok (.iload_n 1, 1) := by decide +kernel
theorem dX6_isOpen_8 : decode cX6_isOpen 8 = .ok (.imul, 1) := by decide +kernel
theorem dX6_isOpen_9 : decode cX6_isOpen 9 = .ok (.iadd, 1) := by decide +kernel
theorem dX6_isOpen_10 : decode cX6_isOpen 10 = .ok (.iaload, 1) := by decide +kernel
theorem dX6_isOpen_11 : decode cX6_isOpen 11 = .ok (.iconst 1, 1) := by decide +kernel
theorem dX6_isOpen_12 : decode cX6_isOpen 12 = .ok (.if_icmp .ne 7, 3) := by decide +kernel
theorem dX6_isOpen_15 : decode cX6_isOpen 15 = .ok (.iconst 1, 1) := by decide +kernel
theorem dX6_isOpen_16 : decode cX6_isOpen 16 = .ok (.goto 4, 3) := by decide +kernel
theorem dX6_isOpen_19 : decode cX6_isOpen 19 = .ok (.iconst 0, 1) := by decide +kernel
theorem dX6_isOpen_20 : decode cX6_isOpen 20 = .ok (.ireturn, 1) := by decide +kernel
theorem dX6_mark_0 : decode cX6_mark 0 = .ok (.aload_n 0, 1) := by decide +kernel
theorem dX6_mark_1 : decode cX6_mark 1 = .ok (.getfield 7, 3) := by decide +kernel
theorem dX6_mark_4 : decode cX6_mark 4 = .ok (.bipush 6, 2) := by decide +kernel
theorem dX6_mark_6 : decode cX6_mark 6 = .ok (.iconst 3, 1) := by decide +kernel
theorem dX6_mark_7 : decode cX6_mark 7 = .ok (.iload_n 1, 1) := by decide +kernel
theorem dX6_mark_8 : decode cX6_mark 8 = .ok (.imul, 1) := by decide +kernel
theorem dX6_mark_9 : decode cX6_mark 9 = .ok (.iadd, 1) := by decide +kernel
theorem dX6_mark_10 : decode cX6_mark 10 = .ok (.iconst 1, 1) := by decide +kernel
theorem dX6_mark_11 : decode cX6_mark 11 = .ok (.iadd, 1) := by decide +kernel
theorem dX6_mark_12 : decode cX6_mark 12 = .ok (.iaload, 1) := by decide +kernel
theorem dX6_mark_13 : decode cX6_mark 13 = .ok (.ireturn, 1) := by decide +kernel
theorem dX6_saves_0 : decode cX6_saves 0 = .ok (.aload_n 0, 1) := by decide +kernel
theorem dX6_saves_1 : decode cX6_saves 1 = .ok (.getfield 47, 3) := by decide +kernel
theorem dX6_saves_4 : decode cX6_saves 4 = .ok (.bipush 6, 2) := by decide +kernel
theorem dX6_saves_6 : decode cX6_saves 6 = .ok (.if_icmp .ne 44, 3) := by decide +kernel
theorem dX6_saves_9 : decode cX6_saves 9 = .ok (.iconst 0, 1) := by decide +kernel
theorem dX6_saves_10 : decode cX6_saves 10 = .ok (.istore_n 1, 1) := by decide +kernel
theorem dX6_saves_11 : decode cX6_saves 11 = .ok (.iload_n 1, 1) := by decide +kernel
theorem dX6_saves_12 : decode cX6_saves 12 = .ok (.sipush 1200, 3) := by decide +kernel
theorem dX6_saves_15 : decode cX6_saves 15 = .ok (.if_icmp .ge 25, 3) := by decide +kernel
theorem dX6_saves_18 : decode cX6_saves 18 = .ok (.aload_n 0, 1) := by decide +kernel
theorem dX6_saves_19 : decode cX6_saves 19 = .ok (.getfield 13, 3) := by decide +kernel
theorem dX6_saves_22 : decode cX6_saves 22 = .ok (.iload_n 1, 1) := by decide +kernel
theorem dX6_saves_23 : decode cX6_saves 23 = .ok (.aload_n 0, 1) := by decide +kernel
theorem dX6_saves_24 : decode cX6_saves 24 = .ok (.getfield 13, 3) := by decide +kernel
theorem dX6_saves_27 : decode cX6_saves 27 = .ok (.iload_n 1, 1) := by decide +kernel
theorem dX6_saves_28 : decode cX6_saves 28 = .ok (.sipush 240, 3) := by decide +kernel
theorem dX6_saves_31 : decode cX6_saves 31 = .ok (.iadd, 1) := by decide +kernel
theorem dX6_saves_32 : decode cX6_saves 32 = .ok (.iaload, 1) := by decide +kernel
theorem dX6_saves_33 : decode cX6_saves 33 = .ok (.iastore, 1) := by decide +kernel
theorem dX6_saves_34 : decode cX6_saves 34 = .ok (.iinc 1 1, 3) := by decide +kernel
theorem dX6_saves_37 : decode cX6_saves 37 = .ok (.goto (-26), 3) := by decide +kernel
theorem dX6_saves_40 : decode cX6_saves 40 = .ok (.aload_n 0, 1) := by decide +kernel
theorem dX6_saves_41 : decode cX6_saves 41 = .ok (.dup, 1) := by decide +kernel
theorem dX6_saves_42 : decode cX6_saves 42 = .ok (.getfield 47, 3) := by decide +kernel
theorem dX6_saves_45 : decode cX6_saves 45 = .ok (.iconst 1, 1) := by decide +kernel
theorem dX6_saves_46 : decode cX6_saves 46 = .ok (.isub, 1) := by decide +kernel
theorem dX6_saves_47 : decode cX6_saves 47 = .ok (.putfield 47, 3) := by decide +kernel
theorem dX6_saves_50 : decode cX6_saves 50 = .ok (.iconst 0, 1) := by decide +kernel
theorem dX6_saves_51 : decode cX6_saves 51 = .ok (.istore_n 1, 1) := by decide +kernel
theorem dX6_saves_52 : decode cX6_saves 52 = .ok (.iload_n 1, 1) := by decide +kernel
theorem dX6_saves_53 : decode cX6_saves 53 = .ok (.sipush 240, 3) := by decide +kernel
theorem dX6_saves_56 : decode cX6_saves 56 = .ok (.if_icmp .ge 30, 3) := by decide +kernel
theorem dX6_saves_59 : decode cX6_saves 59 = .ok (.aload_n 0, 1) := by decide +kernel
theorem dX6_saves_60 : decode cX6_saves 60 = .ok (.getfield 13, 3) := by decide +kernel
theorem dX6_saves_63 : decode cX6_saves 63 = .ok (.sipush 240, 3) := by decide +kernel
theorem dX6_saves_66 : decode cX6_saves 66 = .ok (.aload_n 0, 1) := by decide +kernel
theorem dX6_saves_67 : decode cX6_saves 67 = .ok (.getfield 47, 3) := by decide +kernel
theorem dX6_saves_70 : decode cX6_saves 70 = .ok (.imul, 1) := by decide +kernel
theorem dX6_saves_71 : decode cX6_saves 71 = .ok (.iload_n 1, 1) := by decide +kernel
theorem dX6_saves_72 : decode cX6_saves 72 = .ok (.iadd, 1) := by decide +kernel
theorem dX6_saves_73 : decode cX6_saves 73 = .ok (.aload_n 0, 1) := by decide +kernel
theorem dX6_saves_74 : decode cX6_saves 74 = .ok (.getfield 7, 3) := by decide +kernel
theorem dX6_saves_77 : decode cX6_saves 77 = .ok (.iload_n 1, 1) := by decide +kernel
theorem dX6_saves_78 : decode cX6_saves 78 = .ok (.iaload, 1) := by decide +kernel
theorem dX6_saves_79 : decode cX6_saves 79 = .ok (.iastore, 1) := by decide +kernel
theorem dX6_saves_80 : decode cX6_saves 80 = .ok (.iinc 1 1, 3) := by decide +kernel
theorem dX6_saves_83 : decode cX6_saves 83 = .ok (.goto (-31), 3) := by decide +kernel
theorem dX6_saves_86 : decode cX6_saves 86 = .ok (.aload_n 0, 1) := by decide +kernel
theorem dX6_saves_87 : decode cX6_saves 87 = .ok (.dup, 1) := by decide +kernel
theorem dX6_saves_88 : decode cX6_saves 88 = .ok (.getfield 47, 3) := by decide +kernel
theorem dX6_saves_91 : decode cX6_saves 91 = .ok (.iconst 1, 1) := by decide +kernel
theorem dX6_saves_92 : decode cX6_saves 92 = .ok (.iadd, 1) := by decide +kernel
theorem dX6_saves_93 : decode cX6_saves 93 = .ok (.putfield 47, 3) := by decide +kernel
theorem dX6_saves_96 : decode cX6_saves 96 = .ok (.return_, 1) := by decide +kernel
theorem dX6_undo_0 : decode cX6_undo 0 = .ok (.aload_n 0, 1) := by decide +kernel
theorem dX6_undo_1 : decode cX6_undo 1 = .ok (.iconst 0, 1) := by decide +kernel
theorem dX6_undo_2 : decode cX6_undo 2 = .ok (.putfield 35, 3) := by decide +kernel
theorem dX6_undo_5 : decode cX6_undo 5 = .ok (.aload_n 0, 1) := by decide +kernel
theorem dX6_undo_6 : decode cX6_undo 6 = .ok (.getfield 47, 3) := by decide +kernel
theorem dX6_undo_9 : decode cX6_undo 9 = .ok (.ifCond .ne 9, 3) := by decide +kernel
theorem dX6_undo_12 : decode cX6_undo 12 = .ok (.aload_n 0, 1) := by decide +kernel
theorem dX6_undo_13 : decode cX6_undo 13 = .ok (.iconst 1, 1) := by decide +kernel
theorem dX6_undo_14 : decode cX6_undo 14 = .ok (.invokevirtual 50, 3) := by decide +kernel
theorem dX6_undo_17 : decode cX6_undo 17 = .ok (.ireturn, 1) := by decide +kernel
theorem dX6_undo_18 : decode cX6_undo 18 = .ok (.aload_n 0, 1) := by decide +kernel
theorem dX6_undo_19 : decode cX6_undo 19 = .ok (.dup, 1) := by decide +kernel
theorem dX6_undo_20 : decode cX6_undo 20 = .ok (.getfield 47, 3) := by decide +kernel
theorem dX6_undo_23 : decode cX6_undo 23 = .ok (.iconst 1, 1) := by decide +kernel
theorem dX6_undo_24 : decode cX6_undo 24 = .ok (.isub, 1) := by decide +kernel
theorem dX6_undo_25 : decode cX6_undo 25 = .ok (.putfield 47, 3) := by decide +kernel
theorem dX6_undo_28 : decode cX6_undo 28 = .ok (.iconst 0, 1) := by decide +kernel
theorem dX6_undo_29 : decode cX6_undo 29 = .ok (.istore_n 1, 1) := by decide +kernel
theorem dX6_undo_30 : decode cX6_undo 30 = .ok (.iload_n 1, 1) := by decide +kernel
theorem dX6_undo_31 : decode cX6_undo 31 = .ok (.sipush 240, 3) := by decide +kernel
theorem dX6_undo_34 : decode cX6_undo 34 = .ok (.if_icmp .ge 30, 3) := by decide +kernel
theorem dX6_undo_37 : decode cX6_undo 37 = .ok (.aload_n 0, 1) := by decide +kernel
theorem dX6_undo_38 : decode cX6_undo 38 = .ok (.getfield 7, 3) := by decide +kernel
theorem dX6_undo_41 : decode cX6_undo 41 = .ok (.iload_n 1, 1) := by decide +kernel
theorem dX6_undo_42 : decode cX6_undo 42 = .ok (.aload_n 0, 1) := by decide +kernel
theorem dX6_undo_43 : decode cX6_undo 43 = .ok (.getfield 13, 3) := by decide +kernel
theorem dX6_undo_46 : decode cX6_undo 46 = .ok (.sipush 240, 3) := by decide +kernel
theorem dX6_undo_49 : decode cX6_undo 49 = .ok (.aload_n 0, 1) := by decide +kernel
theorem dX6_undo_50 : decode cX6_undo 50 = .ok (.getfield 47, 3) := by decide +kernel
theorem dX6_undo_53 : decode cX6_undo 53 = .ok (.imul, 1) := by decide +kernel
theorem dX6_undo_54 : decode cX6_undo 54 = .ok (.iload_n 1, 1) := by decide +kernel
theorem dX6_undo_55 : decode cX6_undo 55 = .ok (.iadd, 1) := by decide +kernel
theorem dX6_undo_56 : decode cX6_undo 56 = .ok (.iaload, 1) := by decide +kernel
theorem dX6_undo_57 : decode cX6_undo 57 = .ok (.iastore, 1) := by decide +kernel
theorem dX6_undo_58 : decode cX6_undo 58 = .ok (.iinc 1 1, 3) := by decide +kernel
theorem dX6_undo_61 : decode cX6_undo 61 = .ok (.goto (-31), 3) := by decide +kernel
theorem dX6_undo_64 : decode cX6_undo 64 = .ok (.aload_n 0, 1) := by decide +kernel
theorem dX6_undo_65 : decode cX6_undo 65 = .ok (.getfield 47, 3) := by decide +kernel
theorem dX6_undo_68 : decode cX6_undo 68 = .ok (.ireturn, 1) := by decide +kernel
theorem dX6_meets_0 : decode cX6_meets 0 = .ok (.aload_n 0, 1) := by decide +kernel
theorem dX6_meets_1 : decode cX6_meets 1 = .ok (.getfield 22, 3) := by decide +kernel
theorem dX6_meets_4 : decode cX6_meets 4 = .ok (.iload_n 1, 1) := by decide +kernel
theorem dX6_meets_5 : decode cX6_meets 5 = .ok (.iload_n 2, 1) := by decide +kernel
theorem dX6_meets_6 : decode cX6_meets 6 = .ok (.iastore, 1) := by decide +kernel
theorem dX6_meets_7 : decode cX6_meets 7 = .ok (.aload_n 0, 1) := by decide +kernel
theorem dX6_meets_8 : decode cX6_meets 8 = .ok (.getfield 25, 3) := by decide +kernel
theorem dX6_meets_11 : decode cX6_meets 11 = .ok (.aload_n 0, 1) := by decide +kernel
theorem dX6_meets_12 : decode cX6_meets 12 = .ok (.getfield 54, 3) := by decide +kernel
theorem dX6_meets_15 : decode cX6_meets 15 = .ok (.iload_n 1, 1) := by decide +kernel
theorem dX6_meets_16 : decode cX6_meets 16 = .ok (.iastore, 1) := by decide +kernel
theorem dX6_meets_17 : decode cX6_meets 17 = .ok (.aload_n 0, 1) := by decide +kernel
theorem dX6_meets_18 : decode cX6_meets 18 = .ok (.dup, 1) := by decide +kernel
theorem dX6_meets_19 : decode cX6_meets 19 = .ok (.getfield 54, 3) := by decide +kernel
theorem dX6_meets_22 : decode cX6_meets 22 = .ok (.iconst 1, 1) := by decide +kernel
theorem dX6_meets_23 : decode cX6_meets 23 = .ok (.iadd, 1) := by decide +kernel
theorem dX6_meets_24 : decode cX6_meets 24 = .ok (.putfield 54, 3) := by decide +kernel
theorem dX6_meets_27 : decode cX6_meets 27 = .ok (.return_, 1) := by decide +kernel
theorem dX6_meetsAll_0 : decode cX6_meetsAll 0 = .ok (.aload_n 0, 1) := by decide +kernel
theorem dX6_meetsAll_1 : decode cX6_meetsAll 1 = .ok (.iconst 0, 1) := by decide +kernel
theorem dX6_meetsAll_2 : decode cX6_meetsAll 2 = .ok (.putfield 54, 3) := by decide +kernel
theorem dX6_meetsAll_5 : decode cX6_meetsAll 5 = .ok (.iconst 0, 1) := by decide +kernel
theorem dX6_meetsAll_6 : decode cX6_meetsAll 6 = .ok (.istore_n 2, 1) := by decide +kernel
theorem dX6_meetsAll_7 : decode cX6_meetsAll 7 = .ok (.iload_n 2, 1) := by decide +kernel
theorem dX6_meetsAll_8 : decode cX6_meetsAll 8 = .ok (.bipush 24, 2) := by decide +kernel
theorem dX6_meetsAll_10 : decode cX6_meetsAll 10 = .ok (.if_icmp .ge 16, 3) := by decide +kernel
theorem dX6_meetsAll_13 : decode cX6_meetsAll 13 = .ok (.aload_n 0, 1) := by decide +kernel
theorem dX6_meetsAll_14 : decode cX6_meetsAll 14 = .ok (.getfield 22, 3) := by decide +kernel
theorem dX6_meetsAll_17 : decode cX6_meetsAll 17 = .ok (.iload_n 2, 1) := by decide +kernel
theorem dX6_meetsAll_18 : decode cX6_meetsAll 18 = .ok (.iconst (-1), 1) := by decide +kernel
theorem dX6_meetsAll_19 : decode cX6_meetsAll 19 = .ok (.iastore, 1) := by decide +kernel
theorem dX6_meetsAll_20 : decode cX6_meetsAll 20 = .ok (.iinc 2 1, 3) := by decide +kernel
theorem dX6_meetsAll_23 : decode cX6_meetsAll 23 = .ok (.goto (-16), 3) := by decide +kernel
theorem dX6_meetsAll_26 : decode cX6_meetsAll 26 = .ok (.iconst 0, 1) := by decide +kernel
theorem dX6_meetsAll_27 : decode cX6_meetsAll 27 = .ok (.istore_n 2, 1) := by decide +kernel
theorem dX6_meetsAll_28 : decode cX6_meetsAll 28 = .ok (.iload_n 2, 1) := by decide +kernel
theorem dX6_meetsAll_29 : decode cX6_meetsAll 29 = .ok (.bipush 24, 2) := by decide +kernel
theorem dX6_meetsAll_31 : decode cX6_meetsAll 31 = .ok (.if_icmp .ge 41, 3) := by decide +kernel
theorem dX6_meetsAll_34 : decode cX6_meetsAll 34 = .ok (.aload_n 0, 1) := by decide +kernel
theorem dX6_meetsAll_35 : decode cX6_meetsAll 35 = .ok (.iload_n 2, 1) := by decide +kernel
theorem dX6_meetsAll_36 : decode cX6_meetsAll 36 = .ok (.iconst 0, 1) := by decide +kernel
theorem dX6_meetsAll_37 : decode cX6_meetsAll 37 = .ok (.invokevirtual 43, 3) := by decide +kernel
theorem dX6_meetsAll_40 : decode cX6_meetsAll 40 = .ok (.iconst 1, 1) := by decide +kernel
theorem dX6_meetsAll_41 : decode cX6_meetsAll 41 = .ok (.if_icmp .ne 25, 3) := by decide +kernel
theorem dX6_meetsAll_44 : decode cX6_meetsAll 44 = .ok (.aload_n 0, 1) := by decide +kernel
theorem dX6_meetsAll_45 : decode cX6_meetsAll 45 = .ok (.iload_n 2, 1) := by decide +kernel
theorem dX6_meetsAll_46 : decode cX6_meetsAll 46 = .ok (.bipush 6, 2) := by decide +kernel
theorem dX6_meetsAll_48 : decode cX6_meetsAll 48 = .ok (.invokevirtual 43, 3) := by decide +kernel
theorem dX6_meetsAll_51 : decode cX6_meetsAll 51 = .ok (.iconst 1, 1) := by decide +kernel
theorem dX6_meetsAll_52 : decode cX6_meetsAll 52 = .ok (.if_icmp .ne 14, 3) := by decide +kernel
theorem dX6_meetsAll_55 : decode cX6_meetsAll 55 = .ok (.iload_n 2, 1) := by decide +kernel
theorem dX6_meetsAll_56 : decode cX6_meetsAll 56 = .ok (.iload_n 1, 1) := by decide +kernel
theorem dX6_meetsAll_57 : decode cX6_meetsAll 57 = .ok (.if_icmp .eq 9, 3) := by decide +kernel
theorem dX6_meetsAll_60 : decode cX6_meetsAll 60 = .ok (.aload_n 0, 1) := by decide +kernel
theorem dX6_meetsAll_61 : decode cX6_meetsAll 61 = .ok (.iload_n 2, 1) := by decide +kernel
theorem dX6_meetsAll_62 : decode cX6_meetsAll 62 = .ok (.iconst 0, 1) := by decide +kernel
theorem dX6_meetsAll_63 : decode cX6_meetsAll 63 = .ok (.invokevirtual 57, 3) := by decide +kernel
theorem dX6_meetsAll_66 : decode cX6_meetsAll 66 = .ok (.iinc 2 1, 3) := by decide +kernel
theorem dX6_meetsAll_69 : decode cX6_meetsAll 69 = .ok (.goto (-41), 3) := by decide +kernel
theorem dX6_meetsAll_72 : decode cX6_meetsAll 72 = .ok (.iconst 0, 1) := by decide +kernel
theorem dX6_meetsAll_73 : decode cX6_meetsAll 73 = .ok (.istore_n 2, 1) := by decide +kernel
theorem dX6_meetsAll_74 : decode cX6_meetsAll 74 = .ok (.iload_n 2, 1) := by decide +kernel
theorem dX6_meetsAll_75 : decode cX6_meetsAll 75 = .ok (.aload_n 0, 1) := by decide +kernel
theorem dX6_meetsAll_76 : decode cX6_meetsAll 76 = .ok (.getfield 54, 3) := by decide +kernel
theorem dX6_meetsAll_79 : decode cX6_meetsAll 79 = .ok (.if_icmp .ge 79, 3) := by decide +kernel
theorem dX6_meetsAll_82 : decode cX6_meetsAll 82 = .ok (.iconst 0, 1) := by decide +kernel
theorem dX6_meetsAll_83 : decode cX6_meetsAll 83 = .ok (.istore_n 3, 1) := by decide +kernel
theorem dX6_meetsAll_84 : decode cX6_meetsAll 84 = .ok (.iload_n 3, 1) := by decide +kernel
theorem dX6_meetsAll_85 : decode cX6_meetsAll 85 = .ok (.iconst 2, 1) := by decide +kernel
theorem dX6_meetsAll_86 : decode cX6_meetsAll 86 = .ok (.if_icmp .ge 66, 3) := by decide +kernel
theorem dX6_meetsAll_89 : decode cX6_meetsAll 89 = .ok (.aload_n 0, 1) := by decide +kernel
theorem dX6_meetsAll_90 : decode cX6_meetsAll 90 = .ok (.aload_n 0, 1) := by decide +kernel
theorem dX6_meetsAll_91 : decode cX6_meetsAll 91 = .ok (.getfield 25, 3) := by decide +kernel
theorem dX6_meetsAll_94 : decode cX6_meetsAll 94 = .ok (.iload_n 2, 1) := by decide +kernel
theorem dX6_meetsAll_95 : decode cX6_meetsAll 95 = .ok (.iaload, 1) := by decide +kernel
theorem dX6_meetsAll_96 : decode cX6_meetsAll 96 = .ok (.iconst 4, 1) := by decide +kernel
theorem dX6_meetsAll_97 : decode cX6_meetsAll 97 = .ok (.iload_n 3, 1) := by decide +kernel
theorem dX6_meetsAll_98 : decode cX6_meetsAll 98 = .ok (.iadd, 1) := by decide +kernel
theorem dX6_meetsAll_99 : decode cX6_meetsAll 99 = .ok (.invokevirtual 43, 3) := by decide +kernel
theorem dX6_meetsAll_102 : decode cX6_meetsAll 102 = .ok (.istore 4, 2) := by decide +kernel
theorem dX6_meetsAll_104 : decode cX6_meetsAll 104 = .ok (.iload 4, 2) := by decide +kernel
theorem dX6_meetsAll_106 : decode cX6_meetsAll 106 = .ok (.iconst (-1), 1) := by decide +kernel
theorem dX6_meetsAll_107 : decode cX6_meetsAll 107 = .ok (.if_icmp .eq 39, 3) := by decide +kernel
theorem dX6_meetsAll_110 : decode cX6_meetsAll 110 = .ok (.aload_n 0, 1) := by decide +kernel
theorem dX6_meetsAll_111 : decode cX6_meetsAll 111 = .ok (.getfield 22, 3) := by decide +kernel
theorem dX6_meetsAll_114 : decode cX6_meetsAll 114 = .ok (.iload 4, 2) := by decide +kernel
theorem dX6_meetsAll_116 : decode cX6_meetsAll 116 = .ok (.iaload, 1) := by decide +kernel
theorem dX6_meetsAll_117 : decode cX6_meetsAll 117 = .ok (.iconst (-1), 1) := by decide +kernel
theorem dX6_meetsAll_118 : decode cX6_meetsAll 118 = .ok (.if_icmp .ne 28, 3) := by decide +kernel
theorem dX6_meetsAll_121 : decode cX6_meetsAll 121 = .ok (.iload 4, 2) := by decide +kernel
theorem dX6_meetsAll_123 : decode cX6_meetsAll 123 = .ok (.iload_n 1, 1) := by decide +kernel
theorem dX6_meetsAll_124 : decode cX6_meetsAll 124 = .ok (.if_icmp .eq 22, 3) := by decide +kernel
theorem dX6_meetsAll_127 : decode cX6_meetsAll 127 = .ok (.aload_n 0, 1) := by decide +kernel
theorem dX6_meetsAll_128 : decode cX6_meetsAll 128 = .ok (.iload 4, 2) := by decide +kernel
theorem dX6_meetsAll_130 : decode cX6_meetsAll 130 = .ok (.aload_n 0, 1) := by decide +kernel
theorem dX6_meetsAll_131 : decode cX6_meetsAll 131 = .ok (.getfield 22, 3) := by decide +kernel
theorem dX6_meetsAll_134 : decode cX6_meetsAll 134 = .ok (.aload_n 0, 1) := by decide +kernel
theorem dX6_meetsAll_135 : decode cX6_meetsAll 135 = .ok (.getfield 25, 3) := by decide +kernel
theorem dX6_meetsAll_138 : decode cX6_meetsAll 138 = .ok (.iload_n 2, 1) := by decide +kernel
theorem dX6_meetsAll_139 : decode cX6_meetsAll 139 = .ok (.iaload, 1) := by decide +kernel
theorem dX6_meetsAll_140 : decode cX6_meetsAll 140 = .ok (.iaload, 1) := by decide +kernel
theorem dX6_meetsAll_141 : decode cX6_meetsAll 141 = .ok (.iconst 1, 1) := by decide +kernel
theorem dX6_meetsAll_142 : decode cX6_meetsAll 142 = .ok (.iadd, 1) := by decide +kernel
theorem dX6_meetsAll_143 : decode cX6_meetsAll 143 = .ok (.invokevirtual 57, 3) := by decide +kernel
theorem dX6_meetsAll_146 : decode cX6_meetsAll 146 = .ok (.iinc 3 1, 3) := by decide +kernel
theorem dX6_meetsAll_149 : decode cX6_meetsAll 149 = .ok (.goto (-65), 3) := by decide +kernel
theorem dX6_meetsAll_152 : decode cX6_meetsAll 152 = .ok (.iinc 2 1, 3) := by decide +kernel
theorem dX6_meetsAll_155 : decode cX6_meetsAll 155 = .ok (.goto (-81), 3) := by decide +kernel
theorem dX6_meetsAll_158 : decode cX6_meetsAll 158 = .ok (.return_, 1) := by decide +kernel
theorem dX6_isRemembered_0 : decode cX6_isRemembered 0 = .ok (.iconst 0, 1) := by decide +kernel
theorem dX6_isRemembered_1 : decode cX6_isRemembered 1 = .ok (.istore_n 2, 1) := by decide +kernel
theorem dX6_isRemembered_2 : decode cX6_isRemembered 2 = .ok (.iload_n 2, 1) := by decide +kernel
theorem dX6_isRemembered_3 : decode cX6_isRemembered 3 = .ok (.bipush 24, 2) := by decide +kernel
theorem dX6_isRemembered_5 : decode cX6_isRemembered 5 = .ok (.if_icmp .ge 75, 3) := by decide +kernel
theorem dX6_isRemembered_8 : decode cX6_isRemembered 8 = .ok (.aload_n 0, 1) := by decide +kernel
theorem dX6_isRemembered_9 : decode cX6_isRemembered 9 = .ok (.iload_n 2, 1) := by decide +kernel
theorem dX6_isRemembered_10 : decode cX6_isRemembered 10 = .ok (.iconst 0, 1) := by decide +kernel
theorem dX6_isRemembered_11 : decode cX6_isRemembered 11 = .ok (.invokevirtual 43, 3) := by decide +kernel
theorem dX6_isRemembered_14 : decode cX6_isRemembered 14 = .ok (.iconst 1, 1) := by decide +kernel
theorem dX6_isRemembered_15 : decode cX6_isRemembered 15 = .ok (.if_icmp .ne 27, 3) := by decide +kernel
theorem dX6_isRemembered_18 : decode cX6_isRemembered 18 = .ok (.aload_n 0, 1) := by decide +kernel
theorem dX6_isRemembered_19 : decode cX6_isRemembered 19 = .ok (.iload_n 2, 1) := by decide +kernel
theorem dX6_isRemembered_20 : decode cX6_isRemembered 20 = .ok (.iconst 4, 1) := by decide +kernel
theorem dX6_isRemembered_21 : decode cX6_isRemembered 21 = .ok (.invokevirtual 43, 3) := by decide +kernel
theorem dX6_isRemembered_24 : decode cX6_isRemembered 24 = .ok (.iload_n 1, 1) := by decide +kernel
theorem dX6_isRemembered_25 : decode cX6_isRemembered 25 = .ok (.if_icmp .eq 13, 3) := by decide +kernel
theorem dX6_isRemembered_28 : decode cX6_isRemembered 28 = .ok (.aload_n 0, 1) := by decide +kernel
theorem dX6_isRemembered_29 : decode cX6_isRemembered 29 = .ok (.iload_n 2, 1) := by decide +kernel
theorem dX6_isRemembered_30 : decode cX6_isRemembered 30 = .ok (.iconst 5, 1) := by decide +kernel
theorem dX6_isRemembered_31 : decode cX6_isRemembered 31 = .ok (.invokevirtual 43, 3) := by decide +kernel
theorem dX6_isRemembered_34 : decode cX6_isRemembered 34 = .ok (.iload_n 1, 1) := by decide +kernel
theorem dX6_isRemembered_35 : decode cX6_isRemembered 35 = .ok (.if_icmp .ne 7, 3) := by decide +kernel
theorem dX6_isRemembered_38 : decode cX6_isRemembered 38 = .ok (.iconst 1, 1) := by decide +kernel
theorem dX6_isRemembered_39 : decode cX6_isRemembered 39 = .ok (.goto 4, 3) := by decide +kernel
theorem dX6_isRemembered_42 : decode cX6_isRemembered 42 = .ok (.iconst 0, 1) := by decide +kernel
theorem dX6_isRemembered_43 : decode cX6_isRemembered 43 = .ok (.istore_n 3, 1) := by decide +kernel
theorem dX6_isRemembered_44 : decode cX6_isRemembered 44 = .ok (.iload_n 3, 1) := by decide +kernel
theorem dX6_isRemembered_45 : decode cX6_isRemembered 45 = .ok (.ifCond .eq 29, 3) := by decide +kernel
theorem dX6_isRemembered_48 : decode cX6_isRemembered 48 = .ok (.aload_n 0, 1) := by decide +kernel
theorem dX6_isRemembered_49 : decode cX6_isRemembered 49 = .ok (.iload_n 2, 1) := by decide +kernel
theorem dX6_isRemembered_50 : decode cX6_isRemembered 50 = .ok (.iconst 1, 1) := by decide +kernel
theorem dX6_isRemembered_51 : decode cX6_isRemembered 51 = .ok (.invokevirtual 43, 3) := by decide +kernel
theorem dX6_isRemembered_54 : decode cX6_isRemembered 54 = .ok (.aload_n 0, 1) := by decide +kernel
theorem dX6_isRemembered_55 : decode cX6_isRemembered 55 = .ok (.iload_n 1, 1) := by decide +kernel
theorem dX6_isRemembered_56 : decode cX6_isRemembered 56 = .ok (.iconst 1, 1) := by decide +kernel
theorem dX6_isRemembered_57 : decode cX6_isRemembered 57 = .ok (.invokevirtual 43, 3) := by decide +kernel
theorem dX6_isRemembered_60 : decode cX6_isRemembered 60 = .ok (.if_icmp .ne 12, 3) := by decide +kernel
theorem dX6_isRemembered_63 : decode cX6_isRemembered 63 = .ok (.aload_n 0, 1) := by decide +kernel
theorem dX6_isRemembered_64 : decode cX6_isRemembered 64 = .ok (.getfield 28, 3) := by decide +kernel
theorem dX6_isRemembered_67 : decode cX6_isRemembered 67 = .ok (.iload_n 2, 1) := by decide +kernel
theorem dX6_isRemembered_68 : decode cX6_isRemembered 68 = .ok (.baload, 1) := by decide +kernel
theorem dX6_isRemembered_69 : decode cX6_isRemembered 69 = .ok (.ifCond .eq 5, 3) := by decide +kernel
theorem dX6_isRemembered_72 : decode cX6_isRemembered 72 = .ok (.iconst 1, 1) := by decide +kernel
theorem dX6_isRemembered_73 : decode cX6_isRemembered 73 = .ok (.ireturn, 1) := by decide +kernel
theorem dX6_isRemembered_74 : decode cX6_isRemembered 74 = .ok (.iinc 2 1, 3) := by decide +kernel
theorem dX6_isRemembered_77 : decode cX6_isRemembered 77 = .ok (.goto (-75), 3) := by decide +kernel
theorem dX6_isRemembered_80 : decode cX6_isRemembered 80 = .ok (.iconst 0, 1) := by decide +kernel
theorem dX6_isRemembered_81 : decode cX6_isRemembered 81 = .ok (.ireturn, 1) := by decide +kernel
theorem dX6_survives_0 : decode cX6_survives 0 = .ok (.aload_n 0, 1) := by decide +kernel
theorem dX6_survives_1 : decode cX6_survives 1 = .ok (.iconst (-1), 1) := by decide +kernel
theorem dX6_survives_2 : decode cX6_survives 2 = .ok (.invokevirtual 60, 3) := by decide +kernel
theorem dX6_survives_5 : decode cX6_survives 5 = .ok (.iconst 0, 1) := by decide +kernel
theorem dX6_survives_6 : decode cX6_survives 6 = .ok (.istore_n 2, 1) := by decide +kernel
theorem dX6_survives_7 : decode cX6_survives 7 = .ok (.iload_n 2, 1) := by decide +kernel
theorem dX6_survives_8 : decode cX6_survives 8 = .ok (.bipush 24, 2) := by decide +kernel
theorem dX6_survives_10 : decode cX6_survives 10 = .ok (.if_icmp .ge 39, 3) := by decide +kernel
theorem dX6_survives_13 : decode cX6_survives 13 = .ok (.aload_n 0, 1) := by decide +kernel
theorem dX6_survives_14 : decode cX6_survives 14 = .ok (.getfield 28, 3) := by decide +kernel
theorem dX6_survives_17 : decode cX6_survives 17 = .ok (.iload_n 2, 1) := by decide +kernel
theorem dX6_survives_18 : decode cX6_survives 18 = .ok (.aload_n 0, 1) := by decide +kernel
theorem dX6_survives_19 : decode cX6_survives 19 = .ok (.iload_n 2, 1) := by decide +kernel
theorem dX6_survives_20 : decode cX6_survives 20 = .ok (.iload_n 1, 1) := by decide +kernel
theorem dX6_survives_21 : decode cX6_survives 21 = .ok (.invokevirtual 64, 3) := by decide +kernel
theorem dX6_survives_24 : decode cX6_survives 24 = .ok (.ifCond .eq 17, 3) := by decide +kernel
theorem dX6_survives_27 : decode cX6_survives 27 = .ok (.aload_n 0, 1) := by decide +kernel
theorem dX6_survives_28 : decode cX6_survives 28 = .ok (.getfield 22, 3) := by decide +kernel
theorem dX6_survives_31 : decode cX6_survives 31 = .ok (.iload_n 2, 1) := by decide +kernel
theorem dX6_survives_32 : decode cX6_survives 32 = .ok (.iaload, 1) := by decide +kernel
theorem dX6_survives_33 : decode cX6_survives 33 = .ok (.iconst (-1), 1) := by decide +kernel
theorem dX6_survives_34 : decode cX6_survives 34 = .ok (.if_icmp .eq 7, 3) := by decide +kernel
theorem dX6_survives_37 : decode cX6_survives 37 = .ok (.iconst 1, 1) := by decide +kernel
theorem dX6_survives_38 : decode cX6_survives 38 = .ok (.goto 4, 3) := by decide +kernel
theorem dX6_survives_41 : decode cX6_survives 41 = .ok (.iconst 0, 1) := by decide +kernel
theorem dX6_survives_42 : decode cX6_survives 42 = .ok (.bastore, 1) := by decide +kernel
theorem dX6_survives_43 : decode cX6_survives 43 = .ok (.iinc 2 1, 3) := by decide +kernel
theorem dX6_survives_46 : decode cX6_survives 46 = .ok (.goto (-39), 3) := by decide +kernel
theorem dX6_survives_49 : decode cX6_survives 49 = .ok (.aload_n 0, 1) := by decide +kernel
theorem dX6_survives_50 : decode cX6_survives 50 = .ok (.getfield 7, 3) := by decide +kernel
theorem dX6_survives_53 : decode cX6_survives 53 = .ok (.iconst 0, 1) := by decide +kernel
theorem dX6_survives_54 : decode cX6_survives 54 = .ok (.iaload, 1) := by decide +kernel
theorem dX6_survives_55 : decode cX6_survives 55 = .ok (.iconst 1, 1) := by decide +kernel
theorem dX6_survives_56 : decode cX6_survives 56 = .ok (.if_icmp .ne 7, 3) := by decide +kernel
theorem dX6_survives_59 : decode cX6_survives 59 = .ok (.iconst 1, 1) := by decide +kernel
theorem dX6_survives_60 : decode cX6_survives 60 = .ok (.goto 4, 3) := by decide +kernel
theorem dX6_survives_63 : decode cX6_survives 63 = .ok (.iconst 0, 1) := by decide +kernel
theorem dX6_survives_64 : decode cX6_survives 64 = .ok (.istore_n 2, 1) := by decide +kernel
theorem dX6_survives_65 : decode cX6_survives 65 = .ok (.iload_n 2, 1) := by decide +kernel
theorem dX6_survives_66 : decode cX6_survives 66 = .ok (.ifCond .eq 57, 3) := by decide +kernel
theorem dX6_survives_69 : decode cX6_survives 69 = .ok (.iconst 0, 1) := by decide +kernel
theorem dX6_survives_70 : decode cX6_survives 70 = .ok (.istore_n 2, 1) := by decide +kernel
theorem dX6_survives_71 : decode cX6_survives 71 = .ok (.iconst 0, 1) := by decide +kernel
theorem dX6_survives_72 : decode cX6_survives 72 = .ok (.istore_n 3, 1) := by decide +kernel
theorem dX6_survives_73 : decode cX6_survives 73 = .ok (.iload_n 3, 1) := by decide +kernel
theorem dX6_survives_74 : decode cX6_survives 74 = .ok (.bipush 24, 2) := by decide +kernel
theorem dX6_survives_76 : decode cX6_survives 76 = .ok (.if_icmp .ge 44, 3) := by decide +kernel
theorem dX6_survives_79 : decode cX6_survives 79 = .ok (.aload_n 0, 1) := by decide +kernel
theorem dX6_survives_80 : decode cX6_survives 80 = .ok (.iload_n 3, 1) := by decide +kernel
theorem dX6_survives_81 : decode cX6_survives 81 = .ok (.iload_n 1, 1) := by decide +kernel
theorem dX6_survives_82 : decode cX6_survives 82 = .ok (.invokevirtual 64, 3) := by decide +kernel
theorem dX6_survives_85 : decode cX6_survives 85 = .ok (.ifCond .eq 29, 3) := by decide +kernel
theorem dX6_survives_88 : decode cX6_survives 88 = .ok (.aload_n 0, 1) := by decide +kernel
theorem dX6_survives_89 : decode cX6_survives 89 = .ok (.getfield 28, 3) := by decide +kernel
theorem dX6_survives_92 : decode cX6_survives 92 = .ok (.iload_n 3, 1) := by decide +kernel
theorem dX6_survives_93 : decode cX6_survives 93 = .ok (.baload, 1) := by decide +kernel
theorem dX6_survives_94 : decode cX6_survives 94 = .ok (.ifCond .ne 20, 3) := by decide +kernel
theorem dX6_survives_97 : decode cX6_survives 97 = .ok (.aload_n 0, 1) := by decide +kernel
theorem dX6_survives_98 : decode cX6_survives 98 = .ok (.iload_n 3, 1) := by decide +kernel
theorem dX6_survives_99 : decode cX6_survives 99 = .ok (.invokevirtual 68, 3) := by decide +kernel
theorem dX6_survives_102 : decode cX6_survives 102 = .ok (.ifCond .eq 12, 3) := by decide +kernel
theorem dX6_survives_105 : decode cX6_survives 105 = .ok (.aload_n 0, 1) := by decide +kernel
theorem dX6_survives_106 : decode cX6_survives 106 = .ok (.getfield 28, 3) := by decide +kernel
theorem dX6_survives_109 : decode cX6_survives 109 = .ok (.iload_n 3, 1) := by decide +kernel
theorem dX6_survives_110 : decode cX6_survives 110 = .ok (.iconst 1, 1) := by decide +kernel
theorem dX6_survives_111 : decode cX6_survives 111 = .ok (.bastore, 1) := by decide +kernel
theorem dX6_survives_112 : decode cX6_survives 112 = .ok (.iconst 1, 1) := by decide +kernel
theorem dX6_survives_113 : decode cX6_survives 113 = .ok (.istore_n 2, 1) := by decide +kernel
theorem dX6_survives_114 : decode cX6_survives 114 = .ok (.iinc 3 1, 3) := by decide +kernel
theorem dX6_survives_117 : decode cX6_survives 117 = .ok (.goto (-44), 3) := by decide +kernel
theorem dX6_survives_120 : decode cX6_survives 120 = .ok (.goto (-55), 3) := by decide +kernel
theorem dX6_survives_123 : decode cX6_survives 123 = .ok (.return_, 1) := by decide +kernel
theorem dX6_isAhead_0 : decode cX6_isAhead 0 = .ok (.aload_n 0, 1) := by decide +kernel
theorem dX6_isAhead_1 : decode cX6_isAhead 1 = .ok (.getfield 7, 3) := by decide +kernel
theorem dX6_isAhead_4 : decode cX6_isAhead 4 = .ok (.iconst 1, 1) := by decide +kernel
theorem dX6_isAhead_5 : decode cX6_isAhead 5 = .ok (.iaload, 1) := by decide +kernel
theorem dX6_isAhead_6 : decode cX6_isAhead 6 = .ok (.iconst 1, 1) := by decide +kernel
theorem dX6_isAhead_7 : decode cX6_isAhead 7 = .ok (.if_icmp .ne 14, 3) := by decide +kernel
theorem dX6_isAhead_10 : decode cX6_isAhead 10 = .ok (.iload_n 1, 1) := by decide +kernel
theorem dX6_isAhead_11 : decode cX6_isAhead 11 = .ok (.iload_n 2, 1) := by decide +kernel
theorem dX6_isAhead_12 : decode cX6_isAhead 12 = .ok (.if_icmp .ge 7, 3) := by decide +kernel
theorem dX6_isAhead_15 : decode cX6_isAhead 15 = .ok (.iconst 1, 1) := by decide +kernel
theorem dX6_isAhead_16 : decode cX6_isAhead 16 = .ok (.goto 4, 3) := by decide +kernel
theorem dX6_isAhead_19 : decode cX6_isAhead 19 = .ok (.iconst 0, 1) := by decide +kernel
theorem dX6_isAhead_20 : decode cX6_isAhead 20 = .ok (.ireturn, 1) := by decide +kernel
theorem dX6_isAhead_21 : decode cX6_isAhead 21 = .ok (.aload_n 0, 1) := by decide +kernel
theorem dX6_isAhead_22 : decode cX6_isAhead 22 = .ok (.getfield 7, 3) := by decide +kernel
theorem dX6_isAhead_25 : decode cX6_isAhead 25 = .ok (.iconst 1, 1) := by decide +kernel
theorem dX6_isAhead_26 : decode cX6_isAhead 26 = .ok (.iaload, 1) := by decide +kernel
theorem dX6_isAhead_27 : decode cX6_isAhead 27 = .ok (.iconst 2, 1) := by decide +kernel
theorem dX6_isAhead_28 : decode cX6_isAhead 28 = .ok (.if_icmp .ne 42, 3) := by decide +kernel
theorem dX6_isAhead_31 : decode cX6_isAhead 31 = .ok (.aload_n 0, 1) := by decide +kernel
theorem dX6_isAhead_32 : decode cX6_isAhead 32 = .ok (.getfield 22, 3) := by decide +kernel
theorem dX6_isAhead_35 : decode cX6_isAhead 35 = .ok (.iload_n 1, 1) := by decide +kernel
theorem dX6_isAhead_36 : decode cX6_isAhead 36 = .ok (.iaload, 1) := by decide +kernel
theorem dX6_isAhead_37 : decode cX6_isAhead 37 = .ok (.iconst (-1), 1) := by decide +kernel
theorem dX6_isAhead_38 : decode cX6_isAhead 38 = .ok (.if_icmp .ne 13, 3) := by decide +kernel
theorem dX6_isAhead_41 : decode cX6_isAhead 41 = .ok (.aload_n 0, 1) := by decide +kernel
theorem dX6_isAhead_42 : decode cX6_isAhead 42 = .ok (.getfield 22, 3) := by decide +kernel
theorem dX6_isAhead_45 : decode cX6_isAhead 45 = .ok (.iload_n 2, 1) := by decide +kernel
theorem dX6_isAhead_46 : decode cX6_isAhead 46 = .ok (.iaload, 1) := by decide +kernel
theorem dX6_isAhead_47 : decode cX6_isAhead 47 = .ok (.iconst (-1), 1) := by decide +kernel
theorem dX6_isAhead_48 : decode cX6_isAhead 48 = .ok (.if_icmp .eq 22, 3) := by decide +kernel
theorem dX6_isAhead_51 : decode cX6_isAhead 51 = .ok (.aload_n 0, 1) := by decide +kernel
theorem dX6_isAhead_52 : decode cX6_isAhead 52 = .ok (.iload_n 1, 1) := by decide +kernel
theorem dX6_isAhead_53 : decode cX6_isAhead 53 = .ok (.invokevirtual 72, 3) := by decide +kernel
theorem dX6_isAhead_56 : decode cX6_isAhead 56 = .ok (.aload_n 0, 1) := by decide +kernel
theorem dX6_isAhead_57 : decode cX6_isAhead 57 = .ok (.iload_n 2, 1) := by decide +kernel
theorem dX6_isAhead_58 : decode cX6_isAhead 58 = .ok (.invokevirtual 72, 3) := by decide +kernel
theorem dX6_isAhead_61 : decode cX6_isAhead 61 = .ok (.if_icmp .ge 7, 3) := by decide +kernel
theorem dX6_isAhead_64 : decode cX6_isAhead 64 = .ok (.iconst 1, 1) := by decide +kernel
theorem dX6_isAhead_65 : decode cX6_isAhead 65 = .ok (.goto 4, 3) := by decide +kernel
theorem dX6_isAhead_68 : decode cX6_isAhead 68 = .ok (.iconst 0, 1) := by decide +kernel
theorem dX6_isAhead_69 : decode cX6_isAhead 69 = .ok (.ireturn, 1) := by decide +kernel
theorem dX6_isAhead_70 : decode cX6_isAhead 70 = .ok (.aload_n 0, 1) := by decide +kernel
theorem dX6_isAhead_71 : decode cX6_isAhead 71 = .ok (.iload_n 1, 1) := by decide +kernel
theorem dX6_isAhead_72 : decode cX6_isAhead 72 = .ok (.iconst 2, 1) := by decide +kernel
theorem dX6_isAhead_73 : decode cX6_isAhead 73 = .ok (.invokevirtual 43, 3) := by decide +kernel
theorem dX6_isAhead_76 : decode cX6_isAhead 76 = .ok (.aload_n 0, 1) := by decide +kernel
theorem dX6_isAhead_77 : decode cX6_isAhead 77 = .ok (.iload_n 2, 1) := by decide +kernel
theorem dX6_isAhead_78 : decode cX6_isAhead 78 = .ok (.iconst 2, 1) := by decide +kernel
theorem dX6_isAhead_79 : decode cX6_isAhead 79 = .ok (.invokevirtual 43, 3) := by decide +kernel
theorem dX6_isAhead_82 : decode cX6_isAhead 82 = .ok (.if_icmp .ge 7, 3) := by decide +kernel
theorem dX6_isAhead_85 : decode cX6_isAhead 85 = .ok (.iconst 1, 1) := by decide +kernel
theorem dX6_isAhead_86 : decode cX6_isAhead 86 = .ok (.goto 4, 3) := by decide +kernel
theorem dX6_isAhead_89 : decode cX6_isAhead 89 = .ok (.iconst 0, 1) := by decide +kernel
theorem dX6_isAhead_90 : decode cX6_isAhead 90 = .ok (.ireturn, 1) := by decide +kernel
theorem dX6_place_0 : decode cX6_place 0 = .ok (.iconst 0, 1) := by decide +kernel
theorem dX6_place_1 : decode cX6_place 1 = .ok (.istore_n 2, 1) := by decide +kernel
theorem dX6_place_2 : decode cX6_place 2 = .ok (.iload_n 2, 1) := by decide +kernel
theorem dX6_place_3 : decode cX6_place 3 = .ok (.aload_n 0, 1) := by decide +kernel
theorem dX6_place_4 : decode cX6_place 4 = .ok (.getfield 54, 3) := by decide +kernel
theorem dX6_place_7 : decode cX6_place 7 = .ok (.if_icmp .ge 19, 3) := by decide +kernel
theorem dX6_place_10 : decode cX6_place 10 = .ok (.aload_n 0, 1) := by decide +kernel
theorem dX6_place_11 : decode cX6_place 11 = .ok (.getfield 25, 3) := by decide +kernel
theorem dX6_place_14 : decode cX6_place 14 = .ok (.iload_n 2, 1) := by decide +kernel
theorem dX6_place_15 : decode cX6_place 15 = .ok (.iaload, 1) := by decide +kernel
theorem dX6_place_16 : decode cX6_place 16 = .ok (.iload_n 1, 1) := by decide +kernel
theorem dX6_place_17 : decode cX6_place 17 = .ok (.if_icmp .eq 9, 3) := by decide +kernel
theorem dX6_place_20 : decode cX6_place 20 = .ok (.iinc 2 1, 3) := by decide +kernel
theorem dX6_place_23 : decode cX6_place 23 = .ok (.goto (-21), 3) := by decide +kernel
theorem dX6_place_26 : decode cX6_place 26 = .ok (.iload_n 2, 1) := by decide +kernel
theorem dX6_place_27 : decode cX6_place 27 = .ok (.ireturn, 1) := by decide +kernel
theorem dX6_orders_0 : decode cX6_orders 0 = .ok (.aload_n 0, 1) := by decide +kernel
theorem dX6_orders_1 : decode cX6_orders 1 = .ok (.iload_n 1, 1) := by decide +kernel
theorem dX6_orders_2 : decode cX6_orders 2 = .ok (.invokevirtual 75, 3) := by decide +kernel
theorem dX6_orders_5 : decode cX6_orders 5 = .ok (.aload_n 0, 1) := by decide +kernel
theorem dX6_orders_6 : decode cX6_orders 6 = .ok (.iconst 0, 1) := by decide +kernel
theorem dX6_orders_7 : decode cX6_orders 7 = .ok (.putfield 78, 3) := by decide +kernel
theorem dX6_orders_10 : decode cX6_orders 10 = .ok (.iconst 0, 1) := by decide +kernel
theorem dX6_orders_11 : decode cX6_orders 11 = .ok (.istore_n 2, 1) := by decide +kernel
theorem dX6_orders_12 : decode cX6_orders 12 = .ok (.iload_n 2, 1) := by decide +kernel
theorem dX6_orders_13 : decode cX6_orders 13 = .ok (.bipush 24, 2) := by decide +kernel
theorem dX6_orders_15 : decode cX6_orders 15 = .ok (.if_icmp .ge 80, 3) := by decide +kernel
theorem dX6_orders_18 : decode cX6_orders 18 = .ok (.aload_n 0, 1) := by decide +kernel
theorem dX6_orders_19 : decode cX6_orders 19 = .ok (.getfield 28, 3) := by decide +kernel
theorem dX6_orders_22 : decode cX6_orders 22 = .ok (.iload_n 2, 1) := by decide +kernel
theorem dX6_orders_23 : decode cX6_orders 23 = .ok (.baload, 1) := by decide +kernel
theorem dX6_orders_24 : decode cX6_orders 24 = .ok (.ifCond .eq 65, 3) := by decide +kernel
theorem dX6_orders_27 : decode cX6_orders 27 = .ok (.aload_n 0, 1) := by decide +kernel
theorem dX6_orders_28 : decode cX6_orders 28 = .ok (.getfield 78, 3) := by decide +kernel
theorem dX6_orders_31 : decode cX6_orders 31 = .ok (.istore_n 3, 1) := by decide +kernel
theorem dX6_orders_32 : decode cX6_orders 32 = .ok (.iload_n 3, 1) := by decide +kernel
theorem dX6_orders_33 : decode cX6_orders 33 = .ok (.ifCond .le 39, 3) := by decide +kernel
theorem dX6_orders_36 : decode cX6_orders 36 = .ok (.aload_n 0, 1) := by decide +kernel
theorem dX6_orders_37 : decode cX6_orders 37 = .ok (.iload_n 2, 1) := by decide +kernel
theorem dX6_orders_38 : decode cX6_orders 38 = .ok (.aload_n 0, 1) := by decide +kernel
theorem dX6_orders_39 : decode cX6_orders 39 = .ok (.getfield 32, 3) := by decide +kernel
theorem dX6_orders_42 : decode cX6_orders 42 = .ok (.iload_n 3, 1) := by decide +kernel
theorem dX6_orders_43 : decode cX6_orders 43 = .ok (.iconst 1, 1) := by decide +kernel
theorem dX6_orders_44 : decode cX6_orders 44 = .ok (.isub, 1) := by decide +kernel
theorem dX6_orders_45 : decode cX6_orders 45 = .ok (.iaload, 1) := by decide +kernel
theorem dX6_orders_46 : decode cX6_orders 46 = .ok (.invokevirtual 81, 3) := by decide +kernel
theorem dX6_orders_49 : decode cX6_orders 49 = .ok (.ifCond .eq 23, 3) := by decide +kernel
theorem dX6_orders_52 : decode cX6_orders 52 = .ok (.aload_n 0, 1) := by decide +kernel
theorem dX6_orders_53 : decode cX6_orders 53 = .ok (.getfield 32, 3) := by decide +kernel
theorem dX6_orders_56 : decode cX6_orders 56 = .ok (.iload_n 3, 1) := by decide +kernel
theorem dX6_orders_57 : decode cX6_orders 57 = .ok (.aload_n 0, 1) := by decide +kernel
theorem dX6_orders_58 : decode cX6_orders 58 = .ok (.getfield 32, 3) := by decide +kernel
theorem dX6_orders_61 : decode cX6_orders 61 = .ok (.iload_n 3, 1) := by decide +kernel
theorem dX6_orders_62 : decode cX6_orders 62 = .ok (.iconst 1, 1) := by decide +kernel
theorem dX6_orders_63 : decode cX6_orders 63 = .ok (.isub, 1) := by decide +kernel
theorem dX6_orders_64 : decode cX6_orders 64 = .ok (.iaload, 1) := by decide +kernel
theorem dX6_orders_65 : decode cX6_orders 65 = .ok (.iastore, 1) := by decide +kernel
theorem dX6_orders_66 : decode cX6_orders 66 = .ok (.iinc 3 (-1), 3) := by decide +kernel
theorem dX6_orders_69 : decode cX6_orders 69 = .ok (.goto (-37), 3) := by decide +kernel
theorem dX6_orders_72 : decode cX6_orders 72 = .ok (.aload_n 0, 1) := by decide +kernel
theorem dX6_orders_73 : decode cX6_orders 73 = .ok (.getfield 32, 3) := by decide +kernel
theorem dX6_orders_76 : decode cX6_orders 76 = .ok (.iload_n 3, 1) := by decide +kernel
theorem dX6_orders_77 : decode cX6_orders 77 = .ok (.iload_n 2, 1) := by decide +kernel
theorem dX6_orders_78 : decode cX6_orders 78 = .ok (.iastore, 1) := by decide +kernel
theorem dX6_orders_79 : decode cX6_orders 79 = .ok (.aload_n 0, 1) := by decide +kernel
theorem dX6_orders_80 : decode cX6_orders 80 = .ok (.dup, 1) := by decide +kernel
theorem dX6_orders_81 : decode cX6_orders 81 = .ok (.getfield 78, 3) := by decide +kernel
theorem dX6_orders_84 : decode cX6_orders 84 = .ok (.iconst 1, 1) := by decide +kernel
theorem dX6_orders_85 : decode cX6_orders 85 = .ok (.iadd, 1) := by decide +kernel
theorem dX6_orders_86 : decode cX6_orders 86 = .ok (.putfield 78, 3) := by decide +kernel
theorem dX6_orders_89 : decode cX6_orders 89 = .ok (.iinc 2 1, 3) := by decide +kernel
theorem dX6_orders_92 : decode cX6_orders 92 = .ok (.goto (-80), 3) := by decide +kernel
theorem dX6_orders_95 : decode cX6_orders 95 = .ok (.return_, 1) := by decide +kernel
theorem dX6_cells_0 : decode cX6_cells 0 = .ok (.iconst 0, 1) := by decide +kernel
theorem dX6_cells_1 : decode cX6_cells 1 = .ok (.istore_n 1, 1) := by decide +kernel
theorem dX6_cells_2 : decode cX6_cells 2 = .ok (.iconst 0, 1) := by decide +kernel
theorem dX6_cells_3 : decode cX6_cells 3 = .ok (.istore_n 2, 1) := by decide +kernel
theorem dX6_cells_4 : decode cX6_cells 4 = .ok (.iload_n 2, 1) := by decide +kernel
theorem dX6_cells_5 : decode cX6_cells 5 = .ok (.bipush 24, 2) := by decide +kernel
theorem dX6_cells_7 : decode cX6_cells 7 = .ok (.if_icmp .ge 31, 3) := by decide +kernel
theorem dX6_cells_10 : decode cX6_cells 10 = .ok (.iload_n 1, 1) := by decide +kernel
theorem dX6_cells_11 : decode cX6_cells 11 = .ok (.aload_n 0, 1) := by decide +kernel
theorem dX6_cells_12 : decode cX6_cells 12 = .ok (.getfield 28, 3) := by decide +kernel
theorem dX6_cells_15 : decode cX6_cells 15 = .ok (.iload_n 2, 1) := by decide +kernel
theorem dX6_cells_16 : decode cX6_cells 16 = .ok (.baload, 1) := by decide +kernel
theorem dX6_cells_17 : decode cX6_cells 17 = .ok (.ifCond .eq 12, 3) := by decide +kernel
theorem dX6_cells_20 : decode cX6_cells 20 = .ok (.aload_n 0, 1) := by decide +kernel
theorem dX6_cells_21 : decode cX6_cells 21 = .ok (.iload_n 2, 1) := by decide +kernel
theorem dX6_cells_22 : decode cX6_cells 22 = .ok (.iconst 3, 1) := by decide +kernel
theorem dX6_cells_23 : decode cX6_cells 23 = .ok (.invokevirtual 43, 3) := by decide +kernel
theorem dX6_cells_26 : decode cX6_cells 26 = .ok (.goto 4, 3) := by decide +kernel
theorem dX6_cells_29 : decode cX6_cells 29 = .ok (.iconst 0, 1) := by decide +kernel
theorem dX6_cells_30 : decode cX6_cells 30 = .ok (.iadd, 1) := by decide +kernel
theorem dX6_cells_31 : decode cX6_cells 31 = .ok (.istore_n 1, 1) := by decide +kernel
theorem dX6_cells_32 : decode cX6_cells 32 = .ok (.iinc 2 1, 3) := by decide +kernel
theorem dX6_cells_35 : decode cX6_cells 35 = .ok (.goto (-31), 3) := by decide +kernel
theorem dX6_cells_38 : decode cX6_cells 38 = .ok (.iload_n 1, 1) := by decide +kernel
theorem dX6_cells_39 : decode cX6_cells 39 = .ok (.ireturn, 1) := by decide +kernel
theorem dX6_cellsOf_0 : decode cX6_cellsOf 0 = .ok (.aload_n 0, 1) := by decide +kernel
theorem dX6_cellsOf_1 : decode cX6_cellsOf 1 = .ok (.iload_n 1, 1) := by decide +kernel
theorem dX6_cellsOf_2 : decode cX6_cellsOf 2 = .ok (.invokevirtual 75, 3) := by decide +kernel
theorem dX6_cellsOf_5 : decode cX6_cellsOf 5 = .ok (.aload_n 0, 1) := by decide +kernel
theorem dX6_cellsOf_6 : decode cX6_cellsOf 6 = .ok (.invokevirtual 84, 3) := by decide +kernel
theorem dX6_cellsOf_9 : decode cX6_cellsOf 9 = .ok (.ireturn, 1) := by decide +kernel
theorem dX6_isKept_0 : decode cX6_isKept 0 = .ok (.aload_n 0, 1) := by decide +kernel
theorem dX6_isKept_1 : decode cX6_isKept 1 = .ok (.iload_n 1, 1) := by decide +kernel
theorem dX6_isKept_2 : decode cX6_isKept 2 = .ok (.invokevirtual 75, 3) := by decide +kernel
theorem dX6_isKept_5 : decode cX6_isKept 5 = .ok (.iconst 0, 1) := by decide +kernel
theorem dX6_isKept_6 : decode cX6_isKept 6 = .ok (.istore_n 2, 1) := by decide +kernel
theorem dX6_isKept_7 : decode cX6_isKept 7 = .ok (.iconst 0, 1) := by decide +kernel
theorem dX6_isKept_8 : decode cX6_isKept 8 = .ok (.istore_n 3, 1) := by decide +kernel
theorem dX6_isKept_9 : decode cX6_isKept 9 = .ok (.iload_n 3, 1) := by decide +kernel
theorem dX6_isKept_10 : decode cX6_isKept 10 = .ok (.bipush 24, 2) := by decide +kernel
theorem dX6_isKept_12 : decode cX6_isKept 12 = .ok (.if_icmp .ge 39, 3) := by decide +kernel
theorem dX6_isKept_15 : decode cX6_isKept 15 = .ok (.iload_n 2, 1) := by decide +kernel
theorem dX6_isKept_16 : decode cX6_isKept 16 = .ok (.ifCond .ne 23, 3) := by decide +kernel
theorem dX6_isKept_19 : decode cX6_isKept 19 = .ok (.aload_n 0, 1) := by decide +kernel
theorem dX6_isKept_20 : decode cX6_isKept 20 = .ok (.getfield 28, 3) := by decide +kernel
theorem dX6_isKept_23 : decode cX6_isKept 23 = .ok (.iload_n 3, 1) := by decide +kernel
theorem dX6_isKept_24 : decode cX6_isKept 24 = .ok (.baload, 1) := by decide +kernel
theorem dX6_isKept_25 : decode cX6_isKept 25 = .ok (.ifCond .eq 18, 3) := by decide +kernel
theorem dX6_isKept_28 : decode cX6_isKept 28 = .ok (.aload_n 0, 1) := by decide +kernel
theorem dX6_isKept_29 : decode cX6_isKept 29 = .ok (.iload_n 3, 1) := by decide +kernel
theorem dX6_isKept_30 : decode cX6_isKept 30 = .ok (.bipush 7, 2) := by decide +kernel
theorem dX6_isKept_32 : decode cX6_isKept 32 = .ok (.invokevirtual 43, 3) := by decide +kernel
theorem dX6_isKept_35 : decode cX6_isKept 35 = .ok (.iconst 1, 1) := by decide +kernel
theorem dX6_isKept_36 : decode cX6_isKept 36 = .ok (.if_icmp .ne 7, 3) := by decide +kernel
theorem dX6_isKept_39 : decode cX6_isKept 39 = .ok (.iconst 1, 1) := by decide +kernel
theorem dX6_isKept_40 : decode cX6_isKept 40 = .ok (.goto 4, 3) := by decide +kernel
theorem dX6_isKept_43 : decode cX6_isKept 43 = .ok (.iconst 0, 1) := by decide +kernel
theorem dX6_isKept_44 : decode cX6_isKept 44 = .ok (.istore_n 2, 1) := by decide +kernel
theorem dX6_isKept_45 : decode cX6_isKept 45 = .ok (.iinc 3 1, 3) := by decide +kernel
theorem dX6_isKept_48 : decode cX6_isKept 48 = .ok (.goto (-39), 3) := by decide +kernel
theorem dX6_isKept_51 : decode cX6_isKept 51 = .ok (.iload_n 2, 1) := by decide +kernel
theorem dX6_isKept_52 : decode cX6_isKept 52 = .ok (.ireturn, 1) := by decide +kernel
theorem dX6_reason_0 : decode cX6_reason 0 = .ok (.iload_n 1, 1) := by decide +kernel
theorem dX6_reason_1 : decode cX6_reason 1 = .ok (.iload_n 2, 1) := by decide +kernel
theorem dX6_reason_2 : decode cX6_reason 2 = .ok (.if_icmp .ne 5, 3) := by decide +kernel
theorem dX6_reason_5 : decode cX6_reason 5 = .ok (.iconst 1, 1) := by decide +kernel
theorem dX6_reason_6 : decode cX6_reason 6 = .ok (.ireturn, 1) := by decide +kernel
theorem dX6_reason_7 : decode cX6_reason 7 = .ok (.aload_n 0, 1) := by decide +kernel
theorem dX6_reason_8 : decode cX6_reason 8 = .ok (.iload_n 1, 1) := by decide +kernel
theorem dX6_reason_9 : decode cX6_reason 9 = .ok (.invokevirtual 88, 3) := by decide +kernel
theorem dX6_reason_12 : decode cX6_reason 12 = .ok (.ifCond .eq 11, 3) := by decide +kernel
theorem dX6_reason_15 : decode cX6_reason 15 = .ok (.aload_n 0, 1) := by decide +kernel
theorem dX6_reason_16 : decode cX6_reason 16 = .ok (.iload_n 2, 1) := by decide +kernel
theorem dX6_reason_17 : decode cX6_reason 17 = .ok (.invokevirtual 88, 3) := by decide +kernel
theorem dX6_reason_20 : decode cX6_reason 20 = .ok (.ifCond .ne 5, 3) := by decide +kernel
theorem dX6_reason_23 : decode cX6_reason 23 = .ok (.iconst 2, 1) := by decide +kernel
theorem dX6_reason_24 : decode cX6_reason 24 = .ok (.ireturn, 1) := by decide +kernel
theorem dX6_reason_25 : decode cX6_reason 25 = .ok (.aload_n 0, 1) := by decide +kernel
theorem dX6_reason_26 : decode cX6_reason 26 = .ok (.iload_n 1, 1) := by decide +kernel
theorem dX6_reason_27 : decode cX6_reason 27 = .ok (.invokevirtual 91, 3) := by decide +kernel
theorem dX6_reason_30 : decode cX6_reason 30 = .ok (.ifCond .eq 7, 3) := by decide +kernel
theorem dX6_reason_33 : decode cX6_reason 33 = .ok (.iconst 3, 1) := by decide +kernel
theorem dX6_reason_34 : decode cX6_reason 34 = .ok (.goto 23, 3) := by decide +kernel
theorem dX6_reason_37 : decode cX6_reason 37 = .ok (.aload_n 0, 1) := by decide +kernel
theorem dX6_reason_38 : decode cX6_reason 38 = .ok (.iload_n 2, 1) := by decide +kernel
theorem dX6_reason_39 : decode cX6_reason 39 = .ok (.invokevirtual 94, 3) := by decide +kernel
theorem dX6_reason_42 : decode cX6_reason 42 = .ok (.aload_n 0, 1) := by decide +kernel
theorem dX6_reason_43 : decode cX6_reason 43 = .ok (.invokevirtual 84, 3) := by decide +kernel
theorem dX6_reason_46 : decode cX6_reason 46 = .ok (.iadd, 1) := by decide +kernel
theorem dX6_reason_47 : decode cX6_reason 47 = .ok (.bipush 64, 2) := by decide +kernel
theorem dX6_reason_49 : decode cX6_reason 49 = .ok (.if_icmp .le 7, 3) := by decide +kernel
theorem dX6_reason_52 : decode cX6_reason 52 = .ok (.iconst 4, 1) := by decide +kernel
theorem dX6_reason_53 : decode cX6_reason 53 = .ok (.goto 4, 3) := by decide +kernel
theorem dX6_reason_56 : decode cX6_reason 56 = .ok (.iconst 0, 1) := by decide +kernel
theorem dX6_reason_57 : decode cX6_reason 57 = .ok (.ireturn, 1) := by decide +kernel
theorem dX6_open_0 : decode cX6_open 0 = .ok (.aload_n 0, 1) := by decide +kernel
theorem dX6_open_1 : decode cX6_open 1 = .ok (.iconst 0, 1) := by decide +kernel
theorem dX6_open_2 : decode cX6_open 2 = .ok (.putfield 35, 3) := by decide +kernel
theorem dX6_open_5 : decode cX6_open 5 = .ok (.iconst 0, 1) := by decide +kernel
theorem dX6_open_6 : decode cX6_open 6 = .ok (.istore_n 1, 1) := by decide +kernel
theorem dX6_open_7 : decode cX6_open 7 = .ok (.iload_n 1, 1) := by decide +kernel
theorem dX6_open_8 : decode cX6_open 8 = .ok (.bipush 6, 2) := by decide +kernel
theorem dX6_open_10 : decode cX6_open 10 = .ok (.if_icmp .ge 17, 3) := by decide +kernel
theorem dX6_open_13 : decode cX6_open 13 = .ok (.aload_n 0, 1) := by decide +kernel
theorem dX6_open_14 : decode cX6_open 14 = .ok (.iload_n 1, 1) := by decide +kernel
theorem dX6_open_15 : decode cX6_open 15 = .ok (.invokevirtual 88, 3) := by decide +kernel
theorem dX6_open_18 : decode cX6_open 18 = .ok (.ifCond .eq 9, 3) := by decide +kernel
theorem dX6_open_21 : decode cX6_open 21 = .ok (.iinc 1 1, 3) := by decide +kernel
theorem dX6_open_24 : decode cX6_open 24 = .ok (.goto (-17), 3) := by decide +kernel
theorem dX6_open_27 : decode cX6_open 27 = .ok (.iload_n 1, 1) := by decide +kernel
theorem dX6_open_28 : decode cX6_open 28 = .ok (.bipush 6, 2) := by decide +kernel
theorem dX6_open_30 : decode cX6_open 30 = .ok (.if_icmp .ne 9, 3) := by decide +kernel
theorem dX6_open_33 : decode cX6_open 33 = .ok (.aload_n 0, 1) := by decide +kernel
theorem dX6_open_34 : decode cX6_open 34 = .ok (.iconst 1, 1) := by decide +kernel
theorem dX6_open_35 : decode cX6_open 35 = .ok (.invokevirtual 50, 3) := by decide +kernel
theorem dX6_open_38 : decode cX6_open 38 = .ok (.ireturn, 1) := by decide +kernel
theorem dX6_open_39 : decode cX6_open 39 = .ok (.aload_n 0, 1) := by decide +kernel
theorem dX6_open_40 : decode cX6_open 40 = .ok (.invokevirtual 97, 3) := by decide +kernel
theorem dX6_open_43 : decode cX6_open 43 = .ok (.aload_n 0, 1) := by decide +kernel
theorem dX6_open_44 : decode cX6_open 44 = .ok (.getfield 7, 3) := by decide +kernel
theorem dX6_open_47 : decode cX6_open 47 = .ok (.bipush 6, 2) := by decide +kernel
theorem dX6_open_49 : decode cX6_open 49 = .ok (.iconst 3, 1) := by decide +kernel
theorem dX6_open_50 : decode cX6_open 50 = .ok (.iload_n 1, 1) := by decide +kernel
theorem dX6_open_51 : decode cX6_open 51 = .ok (.imul, 1) := by decide +kernel
theorem dX6_open_52 : decode cX6_open 52 = .ok (.iadd, 1) := by decide +kernel
theorem dX6_open_53 : decode cX6_open 53 = .ok (.iconst 1, 1) := by decide +kernel
theorem dX6_open_54 : decode cX6_open 54 = .ok (.iastore, 1) := by decide +kernel
theorem dX6_open_55 : decode cX6_open 55 = .ok (.aload_n 0, 1) := by decide +kernel
theorem dX6_open_56 : decode cX6_open 56 = .ok (.getfield 7, 3) := by decide +kernel
theorem dX6_open_59 : decode cX6_open 59 = .ok (.bipush 6, 2) := by decide +kernel
theorem dX6_open_61 : decode cX6_open 61 = .ok (.iconst 3, 1) := by decide +kernel
theorem dX6_open_62 : decode cX6_open 62 = .ok (.iload_n 1, 1) := by decide +kernel
theorem dX6_open_63 : decode cX6_open 63 = .ok (.imul, 1) := by decide +kernel
theorem dX6_open_64 : decode cX6_open 64 = .ok (.iadd, 1) := by decide +kernel
theorem dX6_open_65 : decode cX6_open 65 = .ok (.iconst 2, 1) := by decide +kernel
theorem dX6_open_66 : decode cX6_open 66 = .ok (.iadd, 1) := by decide +kernel
theorem dX6_open_67 : decode cX6_open 67 = .ok (.dup2, 1) := by decide +kernel
theorem dX6_open_68 : decode cX6_open 68 = .ok (.iaload, 1) := by decide +kernel
theorem dX6_open_69 : decode cX6_open 69 = .ok (.iconst 1, 1) := by decide +kernel
theorem dX6_open_70 : decode cX6_open 70 = .ok (.iadd, 1) := by decide +kernel
theorem dX6_open_71 : decode cX6_open 71 = .ok (.iastore, 1) := by decide +kernel
theorem dX6_open_72 : decode cX6_open 72 = .ok (.iload_n 1, 1) := by decide +kernel
theorem dX6_open_73 : decode cX6_open 73 = .ok (.ireturn, 1) := by decide +kernel
theorem dX6_freeNumber_0 : decode cX6_freeNumber 0 = .ok (.iconst 0, 1) := by decide +kernel
theorem dX6_freeNumber_1 : decode cX6_freeNumber 1 = .ok (.istore_n 1, 1) := by decide +kernel
theorem dX6_freeNumber_2 : decode cX6_freeNumber 2 = .ok (.iload_n 1, 1) := by decide +kernel
theorem dX6_freeNumber_3 : decode cX6_freeNumber 3 = .ok (.bipush 24, 2) := by decide +kernel
theorem dX6_freeNumber_5 : decode cX6_freeNumber 5 = .ok (.if_icmp .ge 19, 3) := by decide +kernel
theorem dX6_freeNumber_8 : decode cX6_freeNumber 8 = .ok (.aload_n 0, 1) := by decide +kernel
theorem dX6_freeNumber_9 : decode cX6_freeNumber 9 = .ok (.iload_n 1, 1) := by decide +kernel
theorem dX6_freeNumber_10 : decode cX6_freeNumber 10 = .ok (.iconst 0, 1) := by decide +kernel
theorem dX6_freeNumber_11 : decode cX6_freeNumber 11 = .ok (.invokevirtual 43, 3) := by decide +kernel
theorem dX6_freeNumber_14 : decode cX6_freeNumber 14 = .ok (.iconst 1, 1) := by decide +kernel
theorem dX6_freeNumber_15 : decode cX6_freeNumber 15 = .ok (.if_icmp .ne 9, 3) := by decide +kernel
theorem dX6_freeNumber_18 : decode cX6_freeNumber 18 = .ok (.iinc 1 1, 3) := by decide +kernel
theorem dX6_freeNumber_21 : decode cX6_freeNumber 21 = .ok (.goto (-19), 3) := by decide +kernel
theorem dX6_freeNumber_24 : decode cX6_freeNumber 24 = .ok (.iload_n 1, 1) := by decide +kernel
theorem dX6_freeNumber_25 : decode cX6_freeNumber 25 = .ok (.ireturn, 1) := by decide +kernel
theorem dX6_mayMake_0 : decode cX6_mayMake 0 = .ok (.aload_n 0, 1) := by decide +kernel
theorem dX6_mayMake_1 : decode cX6_mayMake 1 = .ok (.iload_n 1, 1) := by decide +kernel
theorem dX6_mayMake_2 : decode cX6_mayMake 2 = .ok (.invokevirtual 88, 3) := by decide +kernel
theorem dX6_mayMake_5 : decode cX6_mayMake 5 = .ok (.ifCond .eq 28, 3) := by decide +kernel
theorem dX6_mayMake_8 : decode cX6_mayMake 8 = .ok (.aload_n 0, 1) := by decide +kernel
theorem dX6_mayMake_9 : decode cX6_mayMake 9 = .ok (.iload_n 1, 1) := by decide +kernel
theorem dX6_mayMake_10 : decode cX6_mayMake 10 = .ok (.invokevirtual 94, 3) := by decide +kernel
theorem dX6_mayMake_13 : decode cX6_mayMake 13 = .ok (.iload_n 2, 1) := by decide +kernel
theorem dX6_mayMake_14 : decode cX6_mayMake 14 = .ok (.iadd, 1) := by decide +kernel
theorem dX6_mayMake_15 : decode cX6_mayMake 15 = .ok (.bipush 64, 2) := by decide +kernel
theorem dX6_mayMake_17 : decode cX6_mayMake 17 = .ok (.if_icmp .gt 16, 3) := by decide +kernel
theorem dX6_mayMake_20 : decode cX6_mayMake 20 = .ok (.aload_n 0, 1) := by decide +kernel
theorem dX6_mayMake_21 : decode cX6_mayMake 21 = .ok (.invokevirtual 100, 3) := by decide +kernel
theorem dX6_mayMake_24 : decode cX6_mayMake 24 = .ok (.bipush 24, 2) := by decide +kernel
theorem dX6_mayMake_26 : decode cX6_mayMake 26 = .ok (.if_icmp .ge 7, 3) := by decide +kernel
theorem dX6_mayMake_29 : decode cX6_mayMake 29 = .ok (.iconst 1, 1) := by decide +kernel
theorem dX6_mayMake_30 : decode cX6_mayMake 30 = .ok (.goto 4, 3) := by decide +kernel
theorem dX6_mayMake_33 : decode cX6_mayMake 33 = .ok (.iconst 0, 1) := by decide +kernel
theorem dX6_mayMake_34 : decode cX6_mayMake 34 = .ok (.ireturn, 1) := by decide +kernel
theorem dX6_makes_0 : decode cX6_makes 0 = .ok (.aload_n 0, 1) := by decide +kernel
theorem dX6_makes_1 : decode cX6_makes 1 = .ok (.invokevirtual 100, 3) := by decide +kernel
theorem dX6_makes_4 : decode cX6_makes 4 = .ok (.istore_n 3, 1) := by decide +kernel
theorem dX6_makes_5 : decode cX6_makes 5 = .ok (.bipush 24, 2) := by decide +kernel
theorem dX6_makes_7 : decode cX6_makes 7 = .ok (.bipush 9, 2) := by decide +kernel
theorem dX6_makes_9 : decode cX6_makes 9 = .ok (.iload_n 3, 1) := by decide +kernel
theorem dX6_makes_10 : decode cX6_makes 10 = .ok (.imul, 1) := by decide +kernel
theorem dX6_makes_11 : decode cX6_makes 11 = .ok (.iadd, 1) := by decide +kernel
theorem dX6_makes_12 : decode cX6_makes 12 = .ok (.istore 4, 2) := by decide +kernel
theorem dX6_makes_14 : decode cX6_makes 14 = .ok (.aload_n 0, 1) := by decide +kernel
theorem dX6_makes_15 : decode cX6_makes 15 = .ok (.getfield 7, 3) := by decide +kernel
theorem dX6_makes_18 : decode cX6_makes 18 = .ok (.iload 4, 2) := by decide +kernel
theorem dX6_makes_20 : decode cX6_makes 20 = .ok (.iconst 1, 1) := by decide +kernel
theorem dX6_makes_21 : decode cX6_makes 21 = .ok (.iastore, 1) := by decide +kernel
theorem dX6_makes_22 : decode cX6_makes 22 = .ok (.aload_n 0, 1) := by decide +kernel
theorem dX6_makes_23 : decode cX6_makes 23 = .ok (.getfield 7, 3) := by decide +kernel
theorem dX6_makes_26 : decode cX6_makes 26 = .ok (.iload 4, 2) := by decide +kernel
theorem dX6_makes_28 : decode cX6_makes 28 = .ok (.iconst 1, 1) := by decide +kernel
theorem dX6_makes_29 : decode cX6_makes 29 = .ok (.iadd, 1) := by decide +kernel
theorem dX6_makes_30 : decode cX6_makes 30 = .ok (.iload_n 1, 1) := by decide +kernel
theorem dX6_makes_31 : decode cX6_makes 31 = .ok (.iastore, 1) := by decide +kernel
theorem dX6_makes_32 : decode cX6_makes 32 = .ok (.aload_n 0, 1) := by decide +kernel
theorem dX6_makes_33 : decode cX6_makes 33 = .ok (.getfield 7, 3) := by decide +kernel
theorem dX6_makes_36 : decode cX6_makes 36 = .ok (.iload 4, 2) := by decide +kernel
theorem dX6_makes_38 : decode cX6_makes 38 = .ok (.iconst 2, 1) := by decide +kernel
theorem dX6_makes_39 : decode cX6_makes 39 = .ok (.iadd, 1) := by decide +kernel
theorem dX6_makes_40 : decode cX6_makes 40 = .ok (.aload_n 0, 1) := by decide +kernel
theorem dX6_makes_41 : decode cX6_makes 41 = .ok (.iload_n 1, 1) := by decide +kernel
theorem dX6_makes_42 : decode cX6_makes 42 = .ok (.invokevirtual 94, 3) := by decide +kernel
theorem dX6_makes_45 : decode cX6_makes 45 = .ok (.iastore, 1) := by decide +kernel
theorem dX6_makes_46 : decode cX6_makes 46 = .ok (.aload_n 0, 1) := by decide +kernel
theorem dX6_makes_47 : decode cX6_makes 47 = .ok (.getfield 7, 3) := by decide +kernel
theorem dX6_makes_50 : decode cX6_makes 50 = .ok (.iload 4, 2) := by decide +kernel
theorem dX6_makes_52 : decode cX6_makes 52 = .ok (.iconst 3, 1) := by decide +kernel
theorem dX6_makes_53 : decode cX6_makes 53 = .ok (.iadd, 1) := by decide +kernel
theorem dX6_makes_54 : decode cX6_makes 54 = .ok (.iload_n 2, 1) := by decide +kernel
theorem dX6_makes_55 : decode cX6_makes 55 = .ok (.iastore, 1) := by decide +kernel
theorem dX6_makes_56 : decode cX6_makes 56 = .ok (.aload_n 0, 1) := by decide +kernel
theorem dX6_makes_57 : decode cX6_makes 57 = .ok (.getfield 7, 3) := by decide +kernel
theorem dX6_makes_60 : decode cX6_makes 60 = .ok (.iload 4, 2) := by decide +kernel
theorem dX6_makes_62 : decode cX6_makes 62 = .ok (.iconst 4, 1) := by decide +kernel
theorem dX6_makes_63 : decode cX6_makes 63 = .ok (.iadd, 1) := by decide +kernel
theorem dX6_makes_64 : decode cX6_makes 64 = .ok (.iconst (-1), 1) := by decide +kernel
theorem dX6_makes_65 : decode cX6_makes 65 = .ok (.iastore, 1) := by decide +kernel
theorem dX6_makes_66 : decode cX6_makes 66 = .ok (.aload_n 0, 1) := by decide +kernel
theorem dX6_makes_67 : decode cX6_makes 67 = .ok (.getfield 7, 3) := by decide +kernel
theorem dX6_makes_70 : decode cX6_makes 70 = .ok (.iload 4, 2) := by decide +kernel
theorem dX6_makes_72 : decode cX6_makes 72 = .ok (.iconst 4, 1) := by decide +kernel
theorem dX6_makes_73 : decode cX6_makes 73 = .ok (.iadd, 1) := by decide +kernel
theorem dX6_makes_74 : decode cX6_makes 74 = .ok (.iconst 1, 1) := by decide +kernel
theorem dX6_makes_75 : decode cX6_makes 75 = .ok (.iadd, 1) := by decide +kernel
theorem dX6_makes_76 : decode cX6_makes 76 = .ok (.iconst (-1), 1) := by decide +kernel
theorem dX6_makes_77 : decode cX6_makes 77 = .ok (.iastore, 1) := by decide +kernel
theorem dX6_makes_78 : decode cX6_makes 78 = .ok (.aload_n 0, 1) := by decide +kernel
theorem dX6_makes_79 : decode cX6_makes 79 = .ok (.getfield 7, 3) := by decide +kernel
theorem dX6_makes_82 : decode cX6_makes 82 = .ok (.iload 4, 2) := by decide +kernel
theorem dX6_makes_84 : decode cX6_makes 84 = .ok (.bipush 6, 2) := by decide +kernel
theorem dX6_makes_86 : decode cX6_makes 86 = .ok (.iadd, 1) := by decide +kernel
theorem dX6_makes_87 : decode cX6_makes 87 = .ok (.iconst 0, 1) := by decide +kernel
theorem dX6_makes_88 : decode cX6_makes 88 = .ok (.iastore, 1) := by decide +kernel
theorem dX6_makes_89 : decode cX6_makes 89 = .ok (.aload_n 0, 1) := by decide +kernel
theorem dX6_makes_90 : decode cX6_makes 90 = .ok (.getfield 7, 3) := by decide +kernel
theorem dX6_makes_93 : decode cX6_makes 93 = .ok (.iload 4, 2) := by decide +kernel
theorem dX6_makes_95 : decode cX6_makes 95 = .ok (.bipush 7, 2) := by decide +kernel
theorem dX6_makes_97 : decode cX6_makes 97 = .ok (.iadd, 1) := by decide +kernel
theorem dX6_makes_98 : decode cX6_makes 98 = .ok (.iconst 0, 1) := by decide +kernel
theorem dX6_makes_99 : decode cX6_makes 99 = .ok (.iastore, 1) := by decide +kernel
theorem dX6_makes_100 : decode cX6_makes 100 = .ok (.aload_n 0, 1) := by decide +kernel
theorem dX6_makes_101 : decode cX6_makes 101 = .ok (.getfield 7, 3) := by decide +kernel
theorem dX6_makes_104 : decode cX6_makes 104 = .ok (.iload 4, 2) := by decide +kernel
theorem dX6_makes_106 : decode cX6_makes 106 = .ok (.bipush 8, 2) := by decide +kernel
theorem dX6_makes_108 : decode cX6_makes 108 = .ok (.iadd, 1) := by decide +kernel
theorem dX6_makes_109 : decode cX6_makes 109 = .ok (.iconst 0, 1) := by decide +kernel
theorem dX6_makes_110 : decode cX6_makes 110 = .ok (.iastore, 1) := by decide +kernel
theorem dX6_makes_111 : decode cX6_makes 111 = .ok (.aload_n 0, 1) := by decide +kernel
theorem dX6_makes_112 : decode cX6_makes 112 = .ok (.getfield 7, 3) := by decide +kernel
theorem dX6_makes_115 : decode cX6_makes 115 = .ok (.bipush 6, 2) := by decide +kernel
theorem dX6_makes_117 : decode cX6_makes 117 = .ok (.iconst 3, 1) := by decide +kernel
theorem dX6_makes_118 : decode cX6_makes 118 = .ok (.iload_n 1, 1) := by decide +kernel
theorem dX6_makes_119 : decode cX6_makes 119 = .ok (.imul, 1) := by decide +kernel
theorem dX6_makes_120 : decode cX6_makes 120 = .ok (.iadd, 1) := by decide +kernel
theorem dX6_makes_121 : decode cX6_makes 121 = .ok (.iconst 1, 1) := by decide +kernel
theorem dX6_makes_122 : decode cX6_makes 122 = .ok (.iadd, 1) := by decide +kernel
theorem dX6_makes_123 : decode cX6_makes 123 = .ok (.dup2, 1) := by decide +kernel
theorem dX6_makes_124 : decode cX6_makes 124 = .ok (.iaload, 1) := by decide +kernel
theorem dX6_makes_125 : decode cX6_makes 125 = .ok (.iload_n 2, 1) := by decide +kernel
theorem dX6_makes_126 : decode cX6_makes 126 = .ok (.iadd, 1) := by decide +kernel
theorem dX6_makes_127 : decode cX6_makes 127 = .ok (.iastore, 1) := by decide +kernel
theorem dX6_makes_128 : decode cX6_makes 128 = .ok (.aload_n 0, 1) := by decide +kernel
theorem dX6_makes_129 : decode cX6_makes 129 = .ok (.getfield 7, 3) := by decide +kernel
theorem dX6_makes_132 : decode cX6_makes 132 = .ok (.iconst 2, 1) := by decide +kernel
theorem dX6_makes_133 : decode cX6_makes 133 = .ok (.dup2, 1) := by decide +kernel
theorem dX6_makes_134 : decode cX6_makes 134 = .ok (.iaload, 1) := by decide +kernel
theorem dX6_makes_135 : decode cX6_makes 135 = .ok (.iconst 1, 1) := by decide +kernel
theorem dX6_makes_136 : decode cX6_makes 136 = .ok (.iadd, 1) := by decide +kernel
theorem dX6_makes_137 : decode cX6_makes 137 = .ok (.iastore, 1) := by decide +kernel
theorem dX6_makes_138 : decode cX6_makes 138 = .ok (.iload_n 3, 1) := by decide +kernel
theorem dX6_makes_139 : decode cX6_makes 139 = .ok (.ireturn, 1) := by decide +kernel
theorem dX6_make_0 : decode cX6_make 0 = .ok (.aload_n 0, 1) := by decide +kernel
theorem dX6_make_1 : decode cX6_make 1 = .ok (.iconst 0, 1) := by decide +kernel
theorem dX6_make_2 : decode cX6_make 2 = .ok (.putfield 35, 3) := by decide +kernel
theorem dX6_make_5 : decode cX6_make 5 = .ok (.iload_n 1, 1) := by decide +kernel
theorem dX6_make_6 : decode cX6_make 6 = .ok (.invokestatic 103, 3) := by decide +kernel
theorem dX6_make_9 : decode cX6_make 9 = .ok (.ifCond .ne 9, 3) := by decide +kernel
theorem dX6_make_12 : decode cX6_make 12 = .ok (.aload_n 0, 1) := by decide +kernel
theorem dX6_make_13 : decode cX6_make 13 = .ok (.iconst 1, 1) := by decide +kernel
theorem dX6_make_14 : decode cX6_make 14 = .ok (.invokevirtual 50, 3) := by decide +kernel
theorem dX6_make_17 : decode cX6_make 17 = .ok (.ireturn, 1) := by decide +kernel
theorem dX6_make_18 : decode cX6_make 18 = .ok (.iload_n 2, 1) := by decide +kernel
theorem dX6_make_19 : decode cX6_make 19 = .ok (.iconst 1, 1) := by decide +kernel
theorem dX6_make_20 : decode cX6_make 20 = .ok (.bipush 16, 2) := by decide +kernel
theorem dX6_make_22 : decode cX6_make 22 = .ok (.invokestatic 39, 3) := by decide +kernel
theorem dX6_make_25 : decode cX6_make 25 = .ok (.ifCond .ne 9, 3) := by decide +kernel
theorem dX6_make_28 : decode cX6_make 28 = .ok (.aload_n 0, 1) := by decide +kernel
theorem dX6_make_29 : decode cX6_make 29 = .ok (.iconst 2, 1) := by decide +kernel
theorem dX6_make_30 : decode cX6_make 30 = .ok (.invokevirtual 50, 3) := by decide +kernel
theorem dX6_make_33 : decode cX6_make 33 = .ok (.ireturn, 1) := by decide +kernel
theorem dX6_make_34 : decode cX6_make 34 = .ok (.aload_n 0, 1) := by decide +kernel
theorem dX6_make_35 : decode cX6_make 35 = .ok (.iload_n 1, 1) := by decide +kernel
theorem dX6_make_36 : decode cX6_make 36 = .ok (.iload_n 2, 1) := by decide +kernel
theorem dX6_make_37 : decode cX6_make 37 = .ok (.invokevirtual 106, 3) := by decide +kernel
theorem dX6_make_40 : decode cX6_make 40 = .ok (.ifCond .ne 9, 3) := by decide +kernel
theorem dX6_make_43 : decode cX6_make 43 = .ok (.aload_n 0, 1) := by decide +kernel
theorem dX6_make_44 : decode cX6_make 44 = .ok (.iconst 3, 1) := by decide +kernel
theorem dX6_make_45 : decode cX6_make 45 = .ok (.invokevirtual 50, 3) := by decide +kernel
theorem dX6_make_48 : decode cX6_make 48 = .ok (.ireturn, 1) := by decide +kernel
theorem dX6_make_49 : decode cX6_make 49 = .ok (.aload_n 0, 1) := by decide +kernel
theorem dX6_make_50 : decode cX6_make 50 = .ok (.invokevirtual 97, 3) := by decide +kernel
theorem dX6_make_53 : decode cX6_make 53 = .ok (.aload_n 0, 1) := by decide +kernel
theorem dX6_make_54 : decode cX6_make 54 = .ok (.iload_n 1, 1) := by decide +kernel
theorem dX6_make_55 : decode cX6_make 55 = .ok (.iload_n 2, 1) := by decide +kernel
theorem dX6_make_56 : decode cX6_make 56 = .ok (.invokevirtual 109, 3) := by decide +kernel
theorem dX6_make_59 : decode cX6_make 59 = .ok (.ireturn, 1) := by decide +kernel
theorem dX6_changes_0 : decode cX6_changes 0 = .ok (.aload_n 0, 1) := by decide +kernel
theorem dX6_changes_1 : decode cX6_changes 1 = .ok (.iload_n 1, 1) := by decide +kernel
theorem dX6_changes_2 : decode cX6_changes 2 = .ok (.iload_n 2, 1) := by decide +kernel
theorem dX6_changes_3 : decode cX6_changes 3 = .ok (.invokevirtual 43, 3) := by decide +kernel
theorem dX6_changes_6 : decode cX6_changes 6 = .ok (.istore 4, 2) := by decide +kernel
theorem dX6_changes_8 : decode cX6_changes 8 = .ok (.aload_n 0, 1) := by decide +kernel
theorem dX6_changes_9 : decode cX6_changes 9 = .ok (.getfield 7, 3) := by decide +kernel
theorem dX6_changes_12 : decode cX6_changes 12 = .ok (.bipush 24, 2) := by decide +kernel
theorem dX6_changes_14 : decode cX6_changes 14 = .ok (.bipush 9, 2) := by decide +kernel
theorem dX6_changes_16 : decode cX6_changes 16 = .ok (.iload_n 1, 1) := by decide +kernel
theorem dX6_changes_17 : decode cX6_changes 17 = .ok (.imul, 1) := by decide +kernel
theorem dX6_changes_18 : decode cX6_changes 18 = .ok (.iadd, 1) := by decide +kernel
theorem dX6_changes_19 : decode cX6_changes 19 = .ok (.iload_n 2, 1) := by decide +kernel
theorem dX6_changes_20 : decode cX6_changes 20 = .ok (.iadd, 1) := by decide +kernel
theorem dX6_changes_21 : decode cX6_changes 21 = .ok (.iload_n 3, 1) := by decide +kernel
theorem dX6_changes_22 : decode cX6_changes 22 = .ok (.iastore, 1) := by decide +kernel
theorem dX6_changes_23 : decode cX6_changes 23 = .ok (.iload 4, 2) := by decide +kernel
theorem dX6_changes_25 : decode cX6_changes 25 = .ok (.ireturn, 1) := by decide +kernel
theorem dX6_link_0 : decode cX6_link 0 = .ok (.aload_n 0, 1) := by decide +kernel
theorem dX6_link_1 : decode cX6_link 1 = .ok (.iconst 0, 1) := by decide +kernel
theorem dX6_link_2 : decode cX6_link 2 = .ok (.putfield 35, 3) := by decide +kernel
theorem dX6_link_5 : decode cX6_link 5 = .ok (.aload_n 0, 1) := by decide +kernel
theorem dX6_link_6 : decode cX6_link 6 = .ok (.iload_n 1, 1) := by decide +kernel
theorem dX6_link_7 : decode cX6_link 7 = .ok (.invokevirtual 112, 3) := by decide +kernel
theorem dX6_link_10 : decode cX6_link 10 = .ok (.ifCond .eq 25, 3) := by decide +kernel
theorem dX6_link_13 : decode cX6_link 13 = .ok (.iload_n 2, 1) := by decide +kernel
theorem dX6_link_14 : decode cX6_link 14 = .ok (.iconst 0, 1) := by decide +kernel
theorem dX6_link_15 : decode cX6_link 15 = .ok (.iconst 1, 1) := by decide +kernel
theorem dX6_link_16 : decode cX6_link 16 = .ok (.invokestatic 39, 3) := by decide +kernel
theorem dX6_link_19 : decode cX6_link 19 = .ok (.ifCond .eq 16, 3) := by decide +kernel
theorem dX6_link_22 : decode cX6_link 22 = .ok (.iload_n 3, 1) := by decide +kernel
theorem dX6_link_23 : decode cX6_link 23 = .ok (.iconst (-1), 1) := by decide +kernel
theorem dX6_link_24 : decode cX6_link 24 = .ok (.if_icmp .eq 17, 3) := by decide +kernel
theorem dX6_link_27 : decode cX6_link 27 = .ok (.aload_n 0, 1) := by decide +kernel
theorem dX6_link_28 : decode cX6_link 28 = .ok (.iload_n 3, 1) := by decide +kernel
theorem dX6_link_29 : decode cX6_link 29 = .ok (.invokevirtual 112, 3) := by decide +kernel
theorem dX6_link_32 : decode cX6_link 32 = .ok (.ifCond .ne 9, 3) := by decide +kernel
theorem dX6_link_35 : decode cX6_link 35 = .ok (.aload_n 0, 1) := by decide +kernel
theorem dX6_link_36 : decode cX6_link 36 = .ok (.iconst 1, 1) := by decide +kernel
theorem dX6_link_37 : decode cX6_link 37 = .ok (.invokevirtual 50, 3) := by decide +kernel
theorem dX6_link_40 : decode cX6_link 40 = .ok (.ireturn, 1) := by decide +kernel
theorem dX6_link_41 : decode cX6_link 41 = .ok (.aload_n 0, 1) := by decide +kernel
theorem dX6_link_42 : decode cX6_link 42 = .ok (.invokevirtual 97, 3) := by decide +kernel
theorem dX6_link_45 : decode cX6_link 45 = .ok (.aload_n 0, 1) := by decide +kernel
theorem dX6_link_46 : decode cX6_link 46 = .ok (.iload_n 1, 1) := by decide +kernel
theorem dX6_link_47 : decode cX6_link 47 = .ok (.iconst 4, 1) := by decide +kernel
theorem dX6_link_48 : decode cX6_link 48 = .ok (.iload_n 2, 1) := by decide +kernel
theorem dX6_link_49 : decode cX6_link 49 = .ok (.iadd, 1) := by decide +kernel
theorem dX6_link_50 : decode cX6_link 50 = .ok (.iload_n 3, 1) := by decide +kernel
theorem dX6_link_51 : decode cX6_link 51 = .ok (.invokevirtual 115, 3) := by decide +kernel
theorem dX6_link_54 : decode cX6_link 54 = .ok (.ireturn, 1) := by decide +kernel
theorem dX6_root_0 : decode cX6_root 0 = .ok (.aload_n 0, 1) := by decide +kernel
theorem dX6_root_1 : decode cX6_root 1 = .ok (.iconst 0, 1) := by decide +kernel
theorem dX6_root_2 : decode cX6_root 2 = .ok (.putfield 35, 3) := by decide +kernel
theorem dX6_root_5 : decode cX6_root 5 = .ok (.aload_n 0, 1) := by decide +kernel
theorem dX6_root_6 : decode cX6_root 6 = .ok (.iload_n 1, 1) := by decide +kernel
theorem dX6_root_7 : decode cX6_root 7 = .ok (.invokevirtual 112, 3) := by decide +kernel
theorem dX6_root_10 : decode cX6_root 10 = .ok (.ifCond .ne 9, 3) := by decide +kernel
theorem dX6_root_13 : decode cX6_root 13 = .ok (.aload_n 0, 1) := by decide +kernel
theorem dX6_root_14 : decode cX6_root 14 = .ok (.iconst 1, 1) := by decide +kernel
theorem dX6_root_15 : decode cX6_root 15 = .ok (.invokevirtual 50, 3) := by decide +kernel
theorem dX6_root_18 : decode cX6_root 18 = .ok (.ireturn, 1) := by decide +kernel
theorem dX6_root_19 : decode cX6_root 19 = .ok (.aload_n 0, 1) := by decide +kernel
theorem dX6_root_20 : decode cX6_root 20 = .ok (.invokevirtual 97, 3) := by decide +kernel
theorem dX6_root_23 : decode cX6_root 23 = .ok (.aload_n 0, 1) := by decide +kernel
theorem dX6_root_24 : decode cX6_root 24 = .ok (.iload_n 1, 1) := by decide +kernel
theorem dX6_root_25 : decode cX6_root 25 = .ok (.bipush 6, 2) := by decide +kernel
theorem dX6_root_27 : decode cX6_root 27 = .ok (.iload_n 2, 1) := by decide +kernel
theorem dX6_root_28 : decode cX6_root 28 = .ok (.ifCond .eq 7, 3) := by decide +kernel
theorem dX6_root_31 : decode cX6_root 31 = .ok (.iconst 1, 1) := by decide +kernel
theorem dX6_root_32 : decode cX6_root 32 = .ok (.goto 4, 3) := by decide +kernel
theorem dX6_root_35 : decode cX6_root 35 = .ok (.iconst 0, 1) := by decide +kernel
theorem dX6_root_36 : decode cX6_root 36 = .ok (.invokevirtual 115, 3) := by decide +kernel
theorem dX6_root_39 : decode cX6_root 39 = .ok (.ireturn, 1) := by decide +kernel
theorem dX6_pinned_0 : decode cX6_pinned 0 = .ok (.iconst 0, 1) := by decide +kernel
theorem dX6_pinned_1 : decode cX6_pinned 1 = .ok (.istore_n 2, 1) := by decide +kernel
theorem dX6_pinned_2 : decode cX6_pinned 2 = .ok (.iconst 0, 1) := by decide +kernel
theorem dX6_pinned_3 : decode cX6_pinned 3 = .ok (.istore_n 3, 1) := by decide +kernel
theorem dX6_pinned_4 : decode cX6_pinned 4 = .ok (.iload_n 3, 1) := by decide +kernel
theorem dX6_pinned_5 : decode cX6_pinned 5 = .ok (.bipush 24, 2) := by decide +kernel
theorem dX6_pinned_7 : decode cX6_pinned 7 = .ok (.if_icmp .ge 32, 3) := by decide +kernel
theorem dX6_pinned_10 : decode cX6_pinned 10 = .ok (.iload_n 2, 1) := by decide +kernel
theorem dX6_pinned_11 : decode cX6_pinned 11 = .ok (.aload_n 0, 1) := by decide +kernel
theorem dX6_pinned_12 : decode cX6_pinned 12 = .ok (.iload_n 3, 1) := by decide +kernel
theorem dX6_pinned_13 : decode cX6_pinned 13 = .ok (.iload_n 1, 1) := by decide +kernel
theorem dX6_pinned_14 : decode cX6_pinned 14 = .ok (.invokevirtual 64, 3) := by decide +kernel
theorem dX6_pinned_17 : decode cX6_pinned 17 = .ok (.ifCond .eq 13, 3) := by decide +kernel
theorem dX6_pinned_20 : decode cX6_pinned 20 = .ok (.aload_n 0, 1) := by decide +kernel
theorem dX6_pinned_21 : decode cX6_pinned 21 = .ok (.iload_n 3, 1) := by decide +kernel
theorem dX6_pinned_22 : decode cX6_pinned 22 = .ok (.bipush 7, 2) := by decide +kernel
theorem dX6_pinned_24 : decode cX6_pinned 24 = .ok (.invokevirtual 43, 3) := by decide +kernel
theorem dX6_pinned_27 : decode cX6_pinned 27 = .ok (.goto 4, 3) := by decide +kernel
theorem dX6_pinned_30 : decode cX6_pinned 30 = .ok (.iconst 0, 1) := by decide +kernel
theorem dX6_pinned_31 : decode cX6_pinned 31 = .ok (.iadd, 1) := by decide +kernel
theorem dX6_pinned_32 : decode cX6_pinned 32 = .ok (.istore_n 2, 1) := by decide +kernel
theorem dX6_pinned_33 : decode cX6_pinned 33 = .ok (.iinc 3 1, 3) := by decide +kernel
theorem dX6_pinned_36 : decode cX6_pinned 36 = .ok (.goto (-32), 3) := by decide +kernel
theorem dX6_pinned_39 : decode cX6_pinned 39 = .ok (.iload_n 2, 1) := by decide +kernel
theorem dX6_pinned_40 : decode cX6_pinned 40 = .ok (.ireturn, 1) := by decide +kernel
theorem dX6_pin_0 : decode cX6_pin 0 = .ok (.aload_n 0, 1) := by decide +kernel
theorem dX6_pin_1 : decode cX6_pin 1 = .ok (.iconst 0, 1) := by decide +kernel
theorem dX6_pin_2 : decode cX6_pin 2 = .ok (.putfield 35, 3) := by decide +kernel
theorem dX6_pin_5 : decode cX6_pin 5 = .ok (.aload_n 0, 1) := by decide +kernel
theorem dX6_pin_6 : decode cX6_pin 6 = .ok (.iload_n 1, 1) := by decide +kernel
theorem dX6_pin_7 : decode cX6_pin 7 = .ok (.invokevirtual 112, 3) := by decide +kernel
theorem dX6_pin_10 : decode cX6_pin 10 = .ok (.ifCond .ne 9, 3) := by decide +kernel
theorem dX6_pin_13 : decode cX6_pin 13 = .ok (.aload_n 0, 1) := by decide +kernel
theorem dX6_pin_14 : decode cX6_pin 14 = .ok (.iconst 1, 1) := by decide +kernel
theorem dX6_pin_15 : decode cX6_pin 15 = .ok (.invokevirtual 50, 3) := by decide +kernel
theorem dX6_pin_18 : decode cX6_pin 18 = .ok (.ireturn, 1) := by decide +kernel
theorem dX6_pin_19 : decode cX6_pin 19 = .ok (.aload_n 0, 1) := by decide +kernel
theorem dX6_pin_20 : decode cX6_pin 20 = .ok (.invokevirtual 97, 3) := by decide +kernel
theorem dX6_pin_23 : decode cX6_pin 23 = .ok (.aload_n 0, 1) := by decide +kernel
theorem dX6_pin_24 : decode cX6_pin 24 = .ok (.iload_n 1, 1) := by decide +kernel
theorem dX6_pin_25 : decode cX6_pin 25 = .ok (.bipush 7, 2) := by decide +kernel
theorem dX6_pin_27 : decode cX6_pin 27 = .ok (.iload_n 2, 1) := by decide +kernel
theorem dX6_pin_28 : decode cX6_pin 28 = .ok (.ifCond .eq 7, 3) := by decide +kernel
theorem dX6_pin_31 : decode cX6_pin 31 = .ok (.iconst 1, 1) := by decide +kernel
theorem dX6_pin_32 : decode cX6_pin 32 = .ok (.goto 4, 3) := by decide +kernel
theorem dX6_pin_35 : decode cX6_pin 35 = .ok (.iconst 0, 1) := by decide +kernel
theorem dX6_pin_36 : decode cX6_pin 36 = .ok (.invokevirtual 115, 3) := by decide +kernel
theorem dX6_pin_39 : decode cX6_pin 39 = .ok (.pop, 1) := by decide +kernel
theorem dX6_pin_40 : decode cX6_pin 40 = .ok (.aload_n 0, 1) := by decide +kernel
theorem dX6_pin_41 : decode cX6_pin 41 = .ok (.aload_n 0, 1) := by decide +kernel
theorem dX6_pin_42 : decode cX6_pin 42 = .ok (.iload_n 1, 1) := by decide +kernel
theorem dX6_pin_43 : decode cX6_pin 43 = .ok (.iconst 1, 1) := by decide +kernel
theorem dX6_pin_44 : decode cX6_pin 44 = .ok (.invokevirtual 43, 3) := by decide +kernel
theorem dX6_pin_47 : decode cX6_pin 47 = .ok (.invokevirtual 119, 3) := by decide +kernel
theorem dX6_pin_50 : decode cX6_pin 50 = .ok (.ireturn, 1) := by decide +kernel
theorem dX6_goes_0 : decode cX6_goes 0 = .ok (.aload_n 0, 1) := by decide +kernel
theorem dX6_goes_1 : decode cX6_goes 1 = .ok (.getfield 7, 3) := by decide +kernel
theorem dX6_goes_4 : decode cX6_goes 4 = .ok (.bipush 24, 2) := by decide +kernel
theorem dX6_goes_6 : decode cX6_goes 6 = .ok (.bipush 9, 2) := by decide +kernel
theorem dX6_goes_8 : decode cX6_goes 8 = .ok (.iload_n 1, 1) := by decide +kernel
theorem dX6_goes_9 : decode cX6_goes 9 = .ok (.imul, 1) := by decide +kernel
theorem dX6_goes_10 : decode cX6_goes 10 = .ok (.iadd, 1) := by decide +kernel
theorem dX6_goes_11 : decode cX6_goes 11 = .ok (.iconst 0, 1) := by decide +kernel
theorem dX6_goes_12 : decode cX6_goes 12 = .ok (.iastore, 1) := by decide +kernel
theorem dX6_goes_13 : decode cX6_goes 13 = .ok (.aload_n 0, 1) := by decide +kernel
theorem dX6_goes_14 : decode cX6_goes 14 = .ok (.getfield 7, 3) := by decide +kernel
theorem dX6_goes_17 : decode cX6_goes 17 = .ok (.iconst 4, 1) := by decide +kernel
theorem dX6_goes_18 : decode cX6_goes 18 = .ok (.dup2, 1) := by decide +kernel
theorem dX6_goes_19 : decode cX6_goes 19 = .ok (.iaload, 1) := by decide +kernel
theorem dX6_goes_20 : decode cX6_goes 20 = .ok (.iconst 1, 1) := by decide +kernel
theorem dX6_goes_21 : decode cX6_goes 21 = .ok (.iadd, 1) := by decide +kernel
theorem dX6_goes_22 : decode cX6_goes 22 = .ok (.iastore, 1) := by decide +kernel
theorem dX6_goes_23 : decode cX6_goes 23 = .ok (.iconst 0, 1) := by decide +kernel
theorem dX6_goes_24 : decode cX6_goes 24 = .ok (.istore_n 2, 1) := by decide +kernel
theorem dX6_goes_25 : decode cX6_goes 25 = .ok (.iload_n 2, 1) := by decide +kernel
theorem dX6_goes_26 : decode cX6_goes 26 = .ok (.bipush 24, 2) := by decide +kernel
theorem dX6_goes_28 : decode cX6_goes 28 = .ok (.if_icmp .ge 48, 3) := by decide +kernel
theorem dX6_goes_31 : decode cX6_goes 31 = .ok (.iconst 4, 1) := by decide +kernel
theorem dX6_goes_32 : decode cX6_goes 32 = .ok (.istore_n 3, 1) := by decide +kernel
theorem dX6_goes_33 : decode cX6_goes 33 = .ok (.iload_n 3, 1) := by decide +kernel
theorem dX6_goes_34 : decode cX6_goes 34 = .ok (.bipush 6, 2) := by decide +kernel
theorem dX6_goes_36 : decode cX6_goes 36 = .ok (.if_icmp .ge 34, 3) := by decide +kernel
theorem dX6_goes_39 : decode cX6_goes 39 = .ok (.aload_n 0, 1) := by decide +kernel
theorem dX6_goes_40 : decode cX6_goes 40 = .ok (.iload_n 2, 1) := by decide +kernel
theorem dX6_goes_41 : decode cX6_goes 41 = .ok (.iload_n 3, 1) := by decide +kernel
theorem dX6_goes_42 : decode cX6_goes 42 = .ok (.invokevirtual 43, 3) := by decide +kernel
theorem dX6_goes_45 : decode cX6_goes 45 = .ok (.iload_n 1, 1) := by decide +kernel
theorem dX6_goes_46 : decode cX6_goes 46 = .ok (.if_icmp .ne 18, 3) := by decide +kernel
theorem dX6_goes_49 : decode cX6_goes 49 = .ok (.aload_n 0, 1) := by decide +kernel
theorem dX6_goes_50 : decode cX6_goes 50 = .ok (.getfield 7, 3) := by decide +kernel
theorem dX6_goes_53 : decode cX6_goes 53 = .ok (.bipush 24, 2) := by decide +kernel
theorem dX6_goes_55 : decode cX6_goes 55 = .ok (.bipush 9, 2) := by decide +kernel
theorem dX6_goes_57 : decode cX6_goes 57 = .ok (.iload_n 2, 1) := by decide +kernel
theorem dX6_goes_58 : decode cX6_goes 58 = .ok (.imul, 1) := by decide +kernel
theorem dX6_goes_59 : decode cX6_goes 59 = .ok (.iadd, 1) := by decide +kernel
theorem dX6_goes_60 : decode cX6_goes 60 = .ok (.iload_n 3, 1) := by decide +kernel
theorem dX6_goes_61 : decode cX6_goes 61 = .ok (.iadd, 1) := by decide +kernel
theorem dX6_goes_62 : decode cX6_goes 62 = .ok (.iconst (-1), 1) := by decide +kernel
theorem dX6_goes_63 : decode cX6_goes 63 = .ok (.iastore, 1) := by decide +kernel
theorem dX6_goes_64 : decode cX6_goes 64 = .ok (.iinc 3 1, 3) := by decide +kernel
theorem dX6_goes_67 : decode cX6_goes 67 = .ok (.goto (-34), 3) := by decide +kernel
theorem dX6_goes_70 : decode cX6_goes 70 = .ok (.iinc 2 1, 3) := by decide +kernel
theorem dX6_goes_73 : decode cX6_goes 73 = .ok (.goto (-48), 3) := by decide +kernel
theorem dX6_goes_76 : decode cX6_goes 76 = .ok (.return_, 1) := by decide +kernel
theorem dX6_frees_0 : decode cX6_frees 0 = .ok (.iconst 0, 1) := by decide +kernel
theorem dX6_frees_1 : decode cX6_frees 1 = .ok (.istore_n 2, 1) := by decide +kernel
theorem dX6_frees_2 : decode cX6_frees 2 = .ok (.iconst 0, 1) := by decide +kernel
theorem dX6_frees_3 : decode cX6_frees 3 = .ok (.istore_n 3, 1) := by decide +kernel
theorem dX6_frees_4 : decode cX6_frees 4 = .ok (.iload_n 3, 1) := by decide +kernel
theorem dX6_frees_5 : decode cX6_frees 5 = .ok (.bipush 24, 2) := by decide +kernel
theorem dX6_frees_7 : decode cX6_frees 7 = .ok (.if_icmp .ge 26, 3) := by decide +kernel
theorem dX6_frees_10 : decode cX6_frees 10 = .ok (.aload_n 0, 1) := by decide +kernel
theorem dX6_frees_11 : decode cX6_frees 11 = .ok (.iload_n 3, 1) := by decide +kernel
theorem dX6_frees_12 : decode cX6_frees 12 = .ok (.iload_n 1, 1) := by decide +kernel
theorem dX6_frees_13 : decode cX6_frees 13 = .ok (.invokevirtual 64, 3) := by decide +kernel
theorem dX6_frees_16 : decode cX6_frees 16 = .ok (.ifCond .eq 11, 3) := by decide +kernel
theorem dX6_frees_19 : decode cX6_frees 19 = .ok (.aload_n 0, 1) := by decide +kernel
theorem dX6_frees_20 : decode cX6_frees 20 = .ok (.iload_n 3, 1) := by decide +kernel
theorem dX6_frees_21 : decode cX6_frees 21 = .ok (.invokevirtual 122, 3) := by decide +kernel
theorem dX6_frees_24 : decode cX6_frees 24 = .ok (.iinc 2 1, 3) := by decide +kernel
theorem dX6_frees_27 : decode cX6_frees 27 = .ok (.iinc 3 1, 3) := by decide +kernel
theorem dX6_frees_30 : decode cX6_frees 30 = .ok (.goto (-26), 3) := by decide +kernel
theorem dX6_frees_33 : decode cX6_frees 33 = .ok (.aload_n 0, 1) := by decide +kernel
theorem dX6_frees_34 : decode cX6_frees 34 = .ok (.getfield 7, 3) := by decide +kernel
theorem dX6_frees_37 : decode cX6_frees 37 = .ok (.bipush 6, 2) := by decide +kernel
theorem dX6_frees_39 : decode cX6_frees 39 = .ok (.iconst 3, 1) := by decide +kernel
theorem dX6_frees_40 : decode cX6_frees 40 = .ok (.iload_n 1, 1) := by decide +kernel
theorem dX6_frees_41 : decode cX6_frees 41 = .ok (.imul, 1) := by decide +kernel
theorem dX6_frees_42 : decode cX6_frees 42 = .ok (.iadd, 1) := by decide +kernel
theorem dX6_frees_43 : decode cX6_frees 43 = .ok (.iconst 0, 1) := by decide +kernel
theorem dX6_frees_44 : decode cX6_frees 44 = .ok (.iastore, 1) := by decide +kernel
theorem dX6_frees_45 : decode cX6_frees 45 = .ok (.aload_n 0, 1) := by decide +kernel
theorem dX6_frees_46 : decode cX6_frees 46 = .ok (.getfield 7, 3) := by decide +kernel
theorem dX6_frees_49 : decode cX6_frees 49 = .ok (.bipush 6, 2) := by decide +kernel
theorem dX6_frees_51 : decode cX6_frees 51 = .ok (.iconst 3, 1) := by decide +kernel
theorem dX6_frees_52 : decode cX6_frees 52 = .ok (.iload_n 1, 1) := by decide +kernel
theorem dX6_frees_53 : decode cX6_frees 53 = .ok (.imul, 1) := by decide +kernel
theorem dX6_frees_54 : decode cX6_frees 54 = .ok (.iadd, 1) := by decide +kernel
theorem dX6_frees_55 : decode cX6_frees 55 = .ok (.iconst 1, 1) := by decide +kernel
theorem dX6_frees_56 : decode cX6_frees 56 = .ok (.iadd, 1) := by decide +kernel
theorem dX6_frees_57 : decode cX6_frees 57 = .ok (.iconst 0, 1) := by decide +kernel
theorem dX6_frees_58 : decode cX6_frees 58 = .ok (.iastore, 1) := by decide +kernel
theorem dX6_frees_59 : decode cX6_frees 59 = .ok (.aload_n 0, 1) := by decide +kernel
theorem dX6_frees_60 : decode cX6_frees 60 = .ok (.getfield 7, 3) := by decide +kernel
theorem dX6_frees_63 : decode cX6_frees 63 = .ok (.iconst 5, 1) := by decide +kernel
theorem dX6_frees_64 : decode cX6_frees 64 = .ok (.dup2, 1) := by decide +kernel
theorem dX6_frees_65 : decode cX6_frees 65 = .ok (.iaload, 1) := by decide +kernel
theorem dX6_frees_66 : decode cX6_frees 66 = .ok (.iconst 1, 1) := by decide +kernel
theorem dX6_frees_67 : decode cX6_frees 67 = .ok (.iadd, 1) := by decide +kernel
theorem dX6_frees_68 : decode cX6_frees 68 = .ok (.iastore, 1) := by decide +kernel
theorem dX6_frees_69 : decode cX6_frees 69 = .ok (.iload_n 2, 1) := by decide +kernel
theorem dX6_frees_70 : decode cX6_frees 70 = .ok (.ireturn, 1) := by decide +kernel
theorem dX6_giveBack_0 : decode cX6_giveBack 0 = .ok (.aload_n 0, 1) := by decide +kernel
theorem dX6_giveBack_1 : decode cX6_giveBack 1 = .ok (.iconst 0, 1) := by decide +kernel
theorem dX6_giveBack_2 : decode cX6_giveBack 2 = .ok (.putfield 35, 3) := by decide +kernel
theorem dX6_giveBack_5 : decode cX6_giveBack 5 = .ok (.iload_n 1, 1) := by decide +kernel
theorem dX6_giveBack_6 : decode cX6_giveBack 6 = .ok (.invokestatic 103, 3) := by decide +kernel
theorem dX6_giveBack_9 : decode cX6_giveBack 9 = .ok (.ifCond .eq 10, 3) := by decide +kernel
theorem dX6_giveBack_12 : decode cX6_giveBack 12 = .ok (.iload_n 2, 1) := by decide +kernel
theorem dX6_giveBack_13 : decode cX6_giveBack 13 = .ok (.invokestatic 103, 3) := by decide +kernel
theorem dX6_giveBack_16 : decode cX6_giveBack 16 = .ok (.ifCond .ne 9, 3) := by decide +kernel
theorem dX6_giveBack_19 : decode cX6_giveBack 19 = .ok (.aload_n 0, 1) := by decide +kernel
theorem dX6_giveBack_20 : decode cX6_giveBack 20 = .ok (.iconst 1, 1) := by decide +kernel
theorem dX6_giveBack_21 : decode cX6_giveBack 21 = .ok (.invokevirtual 50, 3) := by decide +kernel
theorem dX6_giveBack_24 : decode cX6_giveBack 24 = .ok (.ireturn, 1) := by decide +kernel
theorem dX6_giveBack_25 : decode cX6_giveBack 25 = .ok (.aload_n 0, 1) := by decide +kernel
theorem dX6_giveBack_26 : decode cX6_giveBack 26 = .ok (.iload_n 1, 1) := by decide +kernel
theorem dX6_giveBack_27 : decode cX6_giveBack 27 = .ok (.iload_n 2, 1) := by decide +kernel
theorem dX6_giveBack_28 : decode cX6_giveBack 28 = .ok (.invokevirtual 125, 3) := by decide +kernel
theorem dX6_giveBack_31 : decode cX6_giveBack 31 = .ok (.istore_n 3, 1) := by decide +kernel
theorem dX6_giveBack_32 : decode cX6_giveBack 32 = .ok (.iload_n 3, 1) := by decide +kernel
theorem dX6_giveBack_33 : decode cX6_giveBack 33 = .ok (.ifCond .le 18, 3) := by decide +kernel
theorem dX6_giveBack_36 : decode cX6_giveBack 36 = .ok (.aload_n 0, 1) := by decide +kernel
theorem dX6_giveBack_37 : decode cX6_giveBack 37 = .ok (.iload_n 3, 1) := by decide +kernel
theorem dX6_giveBack_38 : decode cX6_giveBack 38 = .ok (.iconst 1, 1) := by decide +kernel
theorem dX6_giveBack_39 : decode cX6_giveBack 39 = .ok (.if_icmp .ne 7, 3) := by decide +kernel
theorem dX6_giveBack_42 : decode cX6_giveBack 42 = .ok (.iconst 2, 1) := by decide +kernel
theorem dX6_giveBack_43 : decode cX6_giveBack 43 = .ok (.goto 4, 3) := by decide +kernel
theorem dX6_giveBack_46 : decode cX6_giveBack 46 = .ok (.iconst 3, 1) := by decide +kernel
theorem dX6_giveBack_47 : decode cX6_giveBack 47 = .ok (.invokevirtual 50, 3) := by decide +kernel
theorem dX6_giveBack_50 : decode cX6_giveBack 50 = .ok (.ireturn, 1) := by decide +kernel
theorem dX6_giveBack_51 : decode cX6_giveBack 51 = .ok (.aload_n 0, 1) := by decide +kernel
theorem dX6_giveBack_52 : decode cX6_giveBack 52 = .ok (.invokevirtual 97, 3) := by decide +kernel
theorem dX6_giveBack_55 : decode cX6_giveBack 55 = .ok (.aload_n 0, 1) := by decide +kernel
theorem dX6_giveBack_56 : decode cX6_giveBack 56 = .ok (.iload_n 1, 1) := by decide +kernel
theorem dX6_giveBack_57 : decode cX6_giveBack 57 = .ok (.invokevirtual 128, 3) := by decide +kernel
theorem dX6_giveBack_60 : decode cX6_giveBack 60 = .ok (.iconst 0, 1) := by decide +kernel
theorem dX6_giveBack_61 : decode cX6_giveBack 61 = .ok (.istore 4, 2) := by decide +kernel
theorem dX6_giveBack_63 : decode cX6_giveBack 63 = .ok (.iload 4, 2) := by decide +kernel
theorem dX6_giveBack_65 : decode cX6_giveBack 65 = .ok (.aload_n 0, 1) := by decide +kernel
theorem dX6_giveBack_66 : decode cX6_giveBack 66 = .ok (.getfield 78, 3) := by decide +kernel
theorem dX6_giveBack_69 : decode cX6_giveBack 69 = .ok (.if_icmp .ge 92, 3) := by decide +kernel
theorem dX6_giveBack_72 : decode cX6_giveBack 72 = .ok (.aload_n 0, 1) := by decide +kernel
theorem dX6_giveBack_73 : decode cX6_giveBack 73 = .ok (.getfield 32, 3) := by decide +kernel
theorem dX6_giveBack_76 : decode cX6_giveBack 76 = .ok (.iload 4, 2) := by decide +kernel
theorem dX6_giveBack_78 : decode cX6_giveBack 78 = .ok (.iaload, 1) := by decide +kernel
theorem dX6_giveBack_79 : decode cX6_giveBack 79 = .ok (.istore 5, 2) := by decide +kernel
theorem dX6_giveBack_81 : decode cX6_giveBack 81 = .ok (.aload_n 0, 1) := by decide +kernel
theorem dX6_giveBack_82 : decode cX6_giveBack 82 = .ok (.iload 5, 2) := by decide +kernel
theorem dX6_giveBack_84 : decode cX6_giveBack 84 = .ok (.iconst 1, 1) := by decide +kernel
theorem dX6_giveBack_85 : decode cX6_giveBack 85 = .ok (.iload_n 2, 1) := by decide +kernel
theorem dX6_giveBack_86 : decode cX6_giveBack 86 = .ok (.invokevirtual 115, 3) := by decide +kernel
theorem dX6_giveBack_89 : decode cX6_giveBack 89 = .ok (.pop, 1) := by decide +kernel
theorem dX6_giveBack_90 : decode cX6_giveBack 90 = .ok (.aload_n 0, 1) := by decide +kernel
theorem dX6_giveBack_91 : decode cX6_giveBack 91 = .ok (.iload 5, 2) := by decide +kernel
theorem dX6_giveBack_93 : decode cX6_giveBack 93 = .ok (.iconst 2, 1) := by decide +kernel
theorem dX6_giveBack_94 : decode cX6_giveBack 94 = .ok (.aload_n 0, 1) := by decide +kernel
theorem dX6_giveBack_95 : decode cX6_giveBack 95 = .ok (.iload_n 2, 1) := by decide +kernel
theorem dX6_giveBack_96 : decode cX6_giveBack 96 = .ok (.invokevirtual 94, 3) := by decide +kernel
theorem dX6_giveBack_99 : decode cX6_giveBack 99 = .ok (.invokevirtual 115, 3) := by decide +kernel
theorem dX6_giveBack_102 : decode cX6_giveBack 102 = .ok (.pop, 1) := by decide +kernel
theorem dX6_giveBack_103 : decode cX6_giveBack 103 = .ok (.aload_n 0, 1) := by decide +kernel
theorem dX6_giveBack_104 : decode cX6_giveBack 104 = .ok (.iload 5, 2) := by decide +kernel
theorem dX6_giveBack_106 : decode cX6_giveBack 106 = .ok (.bipush 8, 2) := by decide +kernel
theorem dX6_giveBack_108 : decode cX6_giveBack 108 = .ok (.aload_n 0, 1) := by decide +kernel
theorem dX6_giveBack_109 : decode cX6_giveBack 109 = .ok (.iload 5, 2) := by decide +kernel
theorem dX6_giveBack_111 : decode cX6_giveBack 111 = .ok (.bipush 8, 2) := by decide +kernel
theorem dX6_giveBack_113 : decode cX6_giveBack 113 = .ok (.invokevirtual 43, 3) := by decide +kernel
theorem dX6_giveBack_116 : decode cX6_giveBack 116 = .ok (.iconst 1, 1) := by decide +kernel
theorem dX6_giveBack_117 : decode cX6_giveBack 117 = .ok (.iadd, 1) := by decide +kernel
theorem dX6_giveBack_118 : decode cX6_giveBack 118 = .ok (.invokevirtual 115, 3) := by decide +kernel
theorem dX6_giveBack_121 : decode cX6_giveBack 121 = .ok (.pop, 1) := by decide +kernel
theorem dX6_giveBack_122 : decode cX6_giveBack 122 = .ok (.aload_n 0, 1) := by decide +kernel
theorem dX6_giveBack_123 : decode cX6_giveBack 123 = .ok (.getfield 7, 3) := by decide +kernel
theorem dX6_giveBack_126 : decode cX6_giveBack 126 = .ok (.bipush 6, 2) := by decide +kernel
theorem dX6_giveBack_128 : decode cX6_giveBack 128 = .ok (.iconst 3, 1) := by decide +kernel
theorem dX6_giveBack_129 : decode cX6_giveBack 129 = .ok (.iload_n 2, 1) := by decide +kernel
theorem dX6_giveBack_130 : decode cX6_giveBack 130 = .ok (.imul, 1) := by decide +kernel
theorem dX6_giveBack_131 : decode cX6_giveBack 131 = .ok (.iadd, 1) := by decide +kernel
theorem dX6_giveBack_132 : decode cX6_giveBack 132 = .ok (.iconst 1, 1) := by decide +kernel
theorem dX6_giveBack_133 : decode cX6_giveBack 133 = .ok (.iadd, 1) := by decide +kernel
theorem dX6_giveBack_134 : decode cX6_giveBack 134 = .ok (.dup2, 1) := by decide +kernel
theorem dX6_giveBack_135 : decode cX6_giveBack 135 = .ok (.iaload, 1) := by decide +kernel
theorem dX6_giveBack_136 : decode cX6_giveBack 136 = .ok (.aload_n 0, 1) := by decide +kernel
theorem dX6_giveBack_137 : decode cX6_giveBack 137 = .ok (.iload 5, 2) := by decide +kernel
theorem dX6_giveBack_139 : decode cX6_giveBack 139 = .ok (.iconst 3, 1) := by decide +kernel
theorem dX6_giveBack_140 : decode cX6_giveBack 140 = .ok (.invokevirtual 43, 3) := by decide +kernel
theorem dX6_giveBack_143 : decode cX6_giveBack 143 = .ok (.iadd, 1) := by decide +kernel
theorem dX6_giveBack_144 : decode cX6_giveBack 144 = .ok (.iastore, 1) := by decide +kernel
theorem dX6_giveBack_145 : decode cX6_giveBack 145 = .ok (.aload_n 0, 1) := by decide +kernel
theorem dX6_giveBack_146 : decode cX6_giveBack 146 = .ok (.getfield 7, 3) := by decide +kernel
theorem dX6_giveBack_149 : decode cX6_giveBack 149 = .ok (.iconst 3, 1) := by decide +kernel
theorem dX6_giveBack_150 : decode cX6_giveBack 150 = .ok (.dup2, 1) := by decide +kernel
theorem dX6_giveBack_151 : decode cX6_giveBack 151 = .ok (.iaload, 1) := by decide +kernel
theorem dX6_giveBack_152 : decode cX6_giveBack 152 = .ok (.iconst 1, 1) := by decide +kernel
theorem dX6_giveBack_153 : decode cX6_giveBack 153 = .ok (.iadd, 1) := by decide +kernel
theorem dX6_giveBack_154 : decode cX6_giveBack 154 = .ok (.iastore, 1) := by decide +kernel
theorem dX6_giveBack_155 : decode cX6_giveBack 155 = .ok (.iinc 4 1, 3) := by decide +kernel
theorem dX6_giveBack_158 : decode cX6_giveBack 158 = .ok (.goto (-95), 3) := by decide +kernel
theorem dX6_giveBack_161 : decode cX6_giveBack 161 = .ok (.aload_n 0, 1) := by decide +kernel
theorem dX6_giveBack_162 : decode cX6_giveBack 162 = .ok (.iload_n 1, 1) := by decide +kernel
theorem dX6_giveBack_163 : decode cX6_giveBack 163 = .ok (.invokevirtual 131, 3) := by decide +kernel
theorem dX6_giveBack_166 : decode cX6_giveBack 166 = .ok (.pop, 1) := by decide +kernel
theorem dX6_giveBack_167 : decode cX6_giveBack 167 = .ok (.aload_n 0, 1) := by decide +kernel
theorem dX6_giveBack_168 : decode cX6_giveBack 168 = .ok (.getfield 78, 3) := by decide +kernel
theorem dX6_giveBack_171 : decode cX6_giveBack 171 = .ok (.ireturn, 1) := by decide +kernel
theorem dX6_close_0 : decode cX6_close 0 = .ok (.aload_n 0, 1) := by decide +kernel
theorem dX6_close_1 : decode cX6_close 1 = .ok (.iconst 0, 1) := by decide +kernel
theorem dX6_close_2 : decode cX6_close 2 = .ok (.putfield 35, 3) := by decide +kernel
theorem dX6_close_5 : decode cX6_close 5 = .ok (.iload_n 1, 1) := by decide +kernel
theorem dX6_close_6 : decode cX6_close 6 = .ok (.invokestatic 103, 3) := by decide +kernel
theorem dX6_close_9 : decode cX6_close 9 = .ok (.ifCond .ne 9, 3) := by decide +kernel
theorem dX6_close_12 : decode cX6_close 12 = .ok (.aload_n 0, 1) := by decide +kernel
theorem dX6_close_13 : decode cX6_close 13 = .ok (.iconst 1, 1) := by decide +kernel
theorem dX6_close_14 : decode cX6_close 14 = .ok (.invokevirtual 50, 3) := by decide +kernel
theorem dX6_close_17 : decode cX6_close 17 = .ok (.ireturn, 1) := by decide +kernel
theorem dX6_close_18 : decode cX6_close 18 = .ok (.aload_n 0, 1) := by decide +kernel
theorem dX6_close_19 : decode cX6_close 19 = .ok (.iload_n 1, 1) := by decide +kernel
theorem dX6_close_20 : decode cX6_close 20 = .ok (.invokevirtual 88, 3) := by decide +kernel
theorem dX6_close_23 : decode cX6_close 23 = .ok (.ifCond .eq 11, 3) := by decide +kernel
theorem dX6_close_26 : decode cX6_close 26 = .ok (.aload_n 0, 1) := by decide +kernel
theorem dX6_close_27 : decode cX6_close 27 = .ok (.iload_n 1, 1) := by decide +kernel
theorem dX6_close_28 : decode cX6_close 28 = .ok (.invokevirtual 134, 3) := by decide +kernel
theorem dX6_close_31 : decode cX6_close 31 = .ok (.ifCond .le 9, 3) := by decide +kernel
theorem dX6_close_34 : decode cX6_close 34 = .ok (.aload_n 0, 1) := by decide +kernel
theorem dX6_close_35 : decode cX6_close 35 = .ok (.iconst 2, 1) := by decide +kernel
theorem dX6_close_36 : decode cX6_close 36 = .ok (.invokevirtual 50, 3) := by decide +kernel
theorem dX6_close_39 : decode cX6_close 39 = .ok (.ireturn, 1) := by decide +kernel
theorem dX6_close_40 : decode cX6_close 40 = .ok (.aload_n 0, 1) := by decide +kernel
theorem dX6_close_41 : decode cX6_close 41 = .ok (.invokevirtual 97, 3) := by decide +kernel
theorem dX6_close_44 : decode cX6_close 44 = .ok (.aload_n 0, 1) := by decide +kernel
theorem dX6_close_45 : decode cX6_close 45 = .ok (.iload_n 1, 1) := by decide +kernel
theorem dX6_close_46 : decode cX6_close 46 = .ok (.invokevirtual 131, 3) := by decide +kernel
theorem dX6_close_49 : decode cX6_close 49 = .ok (.ireturn, 1) := by decide +kernel
theorem dX6_set_0 : decode cX6_set 0 = .ok (.aload_n 0, 1) := by decide +kernel
theorem dX6_set_1 : decode cX6_set 1 = .ok (.iconst 0, 1) := by decide +kernel
theorem dX6_set_2 : decode cX6_set 2 = .ok (.putfield 35, 3) := by decide +kernel
theorem dX6_set_5 : decode cX6_set 5 = .ok (.iload_n 1, 1) := by decide +kernel
theorem dX6_set_6 : decode cX6_set 6 = .ok (.iconst 0, 1) := by decide +kernel
theorem dX6_set_7 : decode cX6_set 7 = .ok (.iconst 1, 1) := by decide +kernel
theorem dX6_set_8 : decode cX6_set 8 = .ok (.invokestatic 39, 3) := by decide +kernel
theorem dX6_set_11 : decode cX6_set 11 = .ok (.ifCond .ne 9, 3) := by decide +kernel
theorem dX6_set_14 : decode cX6_set 14 = .ok (.aload_n 0, 1) := by decide +kernel
theorem dX6_set_15 : decode cX6_set 15 = .ok (.iconst 1, 1) := by decide +kernel
theorem dX6_set_16 : decode cX6_set 16 = .ok (.invokevirtual 50, 3) := by decide +kernel
theorem dX6_set_19 : decode cX6_set 19 = .ok (.ireturn, 1) := by decide +kernel
theorem dX6_set_20 : decode cX6_set 20 = .ok (.iload_n 2, 1) := by decide +kernel
theorem dX6_set_21 : decode cX6_set 21 = .ok (.iconst 0, 1) := by decide +kernel
theorem dX6_set_22 : decode cX6_set 22 = .ok (.iconst 1, 1) := by decide +kernel
theorem dX6_set_23 : decode cX6_set 23 = .ok (.iload_n 1, 1) := by decide +kernel
theorem dX6_set_24 : decode cX6_set 24 = .ok (.iadd, 1) := by decide +kernel
theorem dX6_set_25 : decode cX6_set 25 = .ok (.invokestatic 39, 3) := by decide +kernel
theorem dX6_set_28 : decode cX6_set 28 = .ok (.ifCond .ne 9, 3) := by decide +kernel
theorem dX6_set_31 : decode cX6_set 31 = .ok (.aload_n 0, 1) := by decide +kernel
theorem dX6_set_32 : decode cX6_set 32 = .ok (.iconst 2, 1) := by decide +kernel
theorem dX6_set_33 : decode cX6_set 33 = .ok (.invokevirtual 50, 3) := by decide +kernel
theorem dX6_set_36 : decode cX6_set 36 = .ok (.ireturn, 1) := by decide +kernel
theorem dX6_set_37 : decode cX6_set 37 = .ok (.aload_n 0, 1) := by decide +kernel
theorem dX6_set_38 : decode cX6_set 38 = .ok (.invokevirtual 97, 3) := by decide +kernel
theorem dX6_set_41 : decode cX6_set 41 = .ok (.aload_n 0, 1) := by decide +kernel
theorem dX6_set_42 : decode cX6_set 42 = .ok (.getfield 7, 3) := by decide +kernel
theorem dX6_set_45 : decode cX6_set 45 = .ok (.iconst 0, 1) := by decide +kernel
theorem dX6_set_46 : decode cX6_set 46 = .ok (.iload_n 1, 1) := by decide +kernel
theorem dX6_set_47 : decode cX6_set 47 = .ok (.iadd, 1) := by decide +kernel
theorem dX6_set_48 : decode cX6_set 48 = .ok (.iaload, 1) := by decide +kernel
theorem dX6_set_49 : decode cX6_set 49 = .ok (.istore_n 3, 1) := by decide +kernel
theorem dX6_set_50 : decode cX6_set 50 = .ok (.aload_n 0, 1) := by decide +kernel
theorem dX6_set_51 : decode cX6_set 51 = .ok (.getfield 7, 3) := by decide +kernel
theorem dX6_set_54 : decode cX6_set 54 = .ok (.iconst 0, 1) := by decide +kernel
theorem dX6_set_55 : decode cX6_set 55 = .ok (.iload_n 1, 1) := by decide +kernel
theorem dX6_set_56 : decode cX6_set 56 = .ok (.iadd, 1) := by decide +kernel
theorem dX6_set_57 : decode cX6_set 57 = .ok (.iload_n 2, 1) := by decide +kernel
theorem dX6_set_58 : decode cX6_set 58 = .ok (.iastore, 1) := by decide +kernel
theorem dX6_set_59 : decode cX6_set 59 = .ok (.iload_n 3, 1) := by decide +kernel
theorem dX6_set_60 : decode cX6_set 60 = .ok (.ireturn, 1) := by decide +kernel
theorem dX6_append_0 : decode cX6_append 0 = .ok (.aload_n 0, 1) := by decide +kernel
theorem dX6_append_1 : decode cX6_append 1 = .ok (.iconst 0, 1) := by decide +kernel
theorem dX6_append_2 : decode cX6_append 2 = .ok (.putfield 35, 3) := by decide +kernel
theorem dX6_append_5 : decode cX6_append 5 = .ok (.iload_n 1, 1) := by decide +kernel
theorem dX6_append_6 : decode cX6_append 6 = .ok (.bipush 33, 2) := by decide +kernel
theorem dX6_append_8 : decode cX6_append 8 = .ok (.bipush 126, 2) := by decide +kernel
theorem dX6_append_10 : decode cX6_append 10 = .ok (.invokestatic 39, 3) := by decide +kernel
theorem dX6_append_13 : decode cX6_append 13 = .ok (.ifCond .ne 9, 3) := by decide +kernel
theorem dX6_append_16 : decode cX6_append 16 = .ok (.aload_n 0, 1) := by decide +kernel
theorem dX6_append_17 : decode cX6_append 17 = .ok (.iconst 1, 1) := by decide +kernel
theorem dX6_append_18 : decode cX6_append 18 = .ok (.invokevirtual 50, 3) := by decide +kernel
theorem dX6_append_21 : decode cX6_append 21 = .ok (.ireturn, 1) := by decide +kernel
theorem dX6_append_22 : decode cX6_append 22 = .ok (.aload_n 0, 1) := by decide +kernel
theorem dX6_append_23 : decode cX6_append 23 = .ok (.getfield 137, 3) := by decide +kernel
theorem dX6_append_26 : decode cX6_append 26 = .ok (.bipush 60, 2) := by decide +kernel
theorem dX6_append_28 : decode cX6_append 28 = .ok (.if_icmp .ne 9, 3) := by decide +kernel
theorem dX6_append_31 : decode cX6_append 31 = .ok (.aload_n 0, 1) := by decide +kernel
theorem dX6_append_32 : decode cX6_append 32 = .ok (.iconst 2, 1) := by decide +kernel
theorem dX6_append_33 : decode cX6_append 33 = .ok (.invokevirtual 50, 3) := by decide +kernel
theorem dX6_append_36 : decode cX6_append 36 = .ok (.ireturn, 1) := by decide +kernel
theorem dX6_append_37 : decode cX6_append 37 = .ok (.aload_n 0, 1) := by decide +kernel
theorem dX6_append_38 : decode cX6_append 38 = .ok (.getfield 16, 3) := by decide +kernel
theorem dX6_append_41 : decode cX6_append 41 = .ok (.aload_n 0, 1) := by decide +kernel
theorem dX6_append_42 : decode cX6_append 42 = .ok (.getfield 137, 3) := by decide +kernel
theorem dX6_append_45 : decode cX6_append 45 = .ok (.iload_n 1, 1) := by decide +kernel
theorem dX6_append_46 : decode cX6_append 46 = .ok (.iastore, 1) := by decide +kernel
theorem dX6_append_47 : decode cX6_append 47 = .ok (.aload_n 0, 1) := by decide +kernel
theorem dX6_append_48 : decode cX6_append 48 = .ok (.dup, 1) := by decide +kernel
theorem dX6_append_49 : decode cX6_append 49 = .ok (.getfield 137, 3) := by decide +kernel
theorem dX6_append_52 : decode cX6_append 52 = .ok (.iconst 1, 1) := by decide +kernel
theorem dX6_append_53 : decode cX6_append 53 = .ok (.iadd, 1) := by decide +kernel
theorem dX6_append_54 : decode cX6_append 54 = .ok (.putfield 137, 3) := by decide +kernel
theorem dX6_append_57 : decode cX6_append 57 = .ok (.aload_n 0, 1) := by decide +kernel
theorem dX6_append_58 : decode cX6_append 58 = .ok (.getfield 137, 3) := by decide +kernel
theorem dX6_append_61 : decode cX6_append 61 = .ok (.ireturn, 1) := by decide +kernel
theorem dX6_clearBuffer_0 : decode cX6_clearBuffer 0 = .ok (.aload_n 0, 1) := by decide +kernel
theorem dX6_clearBuffer_1 : decode cX6_clearBuffer 1 = .ok (.iconst 0, 1) := by decide +kernel
theorem dX6_clearBuffer_2 : decode cX6_clearBuffer 2 = .ok (.putfield 35, 3) := by decide +kernel
theorem dX6_clearBuffer_5 : decode cX6_clearBuffer 5 = .ok (.aload_n 0, 1) := by decide +kernel
theorem dX6_clearBuffer_6 : decode cX6_clearBuffer 6 = .ok (.getfield 137, 3) := by decide +kernel
theorem dX6_clearBuffer_9 : decode cX6_clearBuffer 9 = .ok (.istore_n 1, 1) := by decide +kernel
theorem dX6_clearBuffer_10 : decode cX6_clearBuffer 10 = .ok (.aload_n 0, 1) := by decide +kernel
theorem dX6_clearBuffer_11 : decode cX6_clearBuffer 11 = .ok (.iconst 0, 1) := by decide +kernel
theorem dX6_clearBuffer_12 : decode cX6_clearBuffer 12 = .ok (.putfield 137, 3) := by decide +kernel
theorem dX6_clearBuffer_15 : decode cX6_clearBuffer 15 = .ok (.iload_n 1, 1) := by decide +kernel
theorem dX6_clearBuffer_16 : decode cX6_clearBuffer 16 = .ok (.ireturn, 1) := by decide +kernel
theorem dX6_isAt_0 : decode cX6_isAt 0 = .ok (.aload_n 0, 1) := by decide +kernel
theorem dX6_isAt_1 : decode cX6_isAt 1 = .ok (.getfield 140, 3) := by decide +kernel
theorem dX6_isAt_4 : decode cX6_isAt 4 = .ok (.aload_n 0, 1) := by decide +kernel
theorem dX6_isAt_5 : decode cX6_isAt 5 = .ok (.getfield 137, 3) := by decide +kernel
theorem dX6_isAt_8 : decode cX6_isAt 8 = .ok (.if_icmp .ge 24, 3) := by decide +kernel
theorem dX6_isAt_11 : decode cX6_isAt 11 = .ok (.aload_n 0, 1) := by decide +kernel
theorem dX6_isAt_12 : decode cX6_isAt 12 = .ok (.getfield 16, 3) := by decide +kernel
theorem dX6_isAt_15 : decode cX6_isAt 15 = .ok (.aload_n 0, 1) := by decide +kernel
theorem dX6_isAt_16 : decode cX6_isAt 16 = .ok (.getfield 140, 3) := by decide +kernel
theorem dX6_isAt_19 : decode cX6_isAt 19 = .ok (.iaload, 1) := by decide +kernel
theorem dX6_isAt_20 : decode cX6_isAt 20 = .ok (.iload_n 1, 1) := by decide +kernel
theorem dX6_isAt_21 : decode cX6_isAt 21 = .ok (.iload_n 2, 1) := by decide +kernel
theorem dX6_isAt_22 : decode cX6_isAt 22 = .ok (.invokestatic 39, 3) := by decide +kernel
theorem dX6_isAt_25 : decode cX6_isAt 25 = .ok (.ifCond .eq 7, 3) := by decide +kernel
theorem dX6_isAt_28 : decode cX6_isAt 28 = .ok (.iconst 1, 1) := by decide +kernel
theorem dX6_isAt_29 : decode cX6_isAt 29 = .ok (.goto 4, 3) := by decide +kernel
theorem dX6_isAt_32 : decode cX6_isAt 32 = .ok (.iconst 0, 1) := by decide +kernel
theorem dX6_isAt_33 : decode cX6_isAt 33 = .ok (.ireturn, 1) := by decide +kernel
theorem dX6_stops_0 : decode cX6_stops 0 = .ok (.aload_n 0, 1) := by decide +kernel
theorem dX6_stops_1 : decode cX6_stops 1 = .ok (.aload_n 0, 1) := by decide +kernel
theorem dX6_stops_2 : decode cX6_stops 2 = .ok (.getfield 140, 3) := by decide +kernel
theorem dX6_stops_5 : decode cX6_stops 5 = .ok (.aload_n 0, 1) := by decide +kernel
theorem dX6_stops_6 : decode cX6_stops 6 = .ok (.getfield 137, 3) := by decide +kernel
theorem dX6_stops_9 : decode cX6_stops 9 = .ok (.if_icmp .ge 7, 3) := by decide +kernel
theorem dX6_stops_12 : decode cX6_stops 12 = .ok (.iconst 1, 1) := by decide +kernel
theorem dX6_stops_13 : decode cX6_stops 13 = .ok (.goto 4, 3) := by decide +kernel
theorem dX6_stops_16 : decode cX6_stops 16 = .ok (.iconst 0, 1) := by decide +kernel
theorem dX6_stops_17 : decode cX6_stops 17 = .ok (.putfield 143, 3) := by decide +kernel
theorem dX6_stops_20 : decode cX6_stops 20 = .ok (.iconst 0, 1) := by decide +kernel
theorem dX6_stops_21 : decode cX6_stops 21 = .ok (.ireturn, 1) := by decide +kernel
theorem dX6_isSign_0 : decode cX6_isSign 0 = .ok (.aload_n 0, 1) := by decide +kernel
theorem dX6_isSign_1 : decode cX6_isSign 1 = .ok (.iload_n 1, 1) := by decide +kernel
theorem dX6_isSign_2 : decode cX6_isSign 2 = .ok (.iload_n 1, 1) := by decide +kernel
theorem dX6_isSign_3 : decode cX6_isSign 3 = .ok (.invokevirtual 147, 3) := by decide +kernel
theorem dX6_isSign_6 : decode cX6_isSign 6 = .ok (.istore_n 2, 1) := by decide +kernel
theorem dX6_isSign_7 : decode cX6_isSign 7 = .ok (.aload_n 0, 1) := by decide +kernel
theorem dX6_isSign_8 : decode cX6_isSign 8 = .ok (.dup, 1) := by decide +kernel
theorem dX6_isSign_9 : decode cX6_isSign 9 = .ok (.getfield 140, 3) := by decide +kernel
theorem dX6_isSign_12 : decode cX6_isSign 12 = .ok (.iload_n 2, 1) := by decide +kernel
theorem dX6_isSign_13 : decode cX6_isSign 13 = .ok (.ifCond .eq 7, 3) := by decide +kernel
theorem dX6_isSign_16 : decode cX6_isSign 16 = .ok (.iconst 1, 1) := by decide +kernel
theorem dX6_isSign_17 : decode cX6_isSign 17 = .ok (.goto 4, 3) := by decide +kernel
theorem dX6_isSign_20 : decode cX6_isSign 20 = .ok (.iconst 0, 1) := by decide +kernel
theorem dX6_isSign_21 : decode cX6_isSign 21 = .ok (.iadd, 1) := by decide +kernel
theorem dX6_isSign_22 : decode cX6_isSign 22 = .ok (.putfield 140, 3) := by decide +kernel
theorem dX6_isSign_25 : decode cX6_isSign 25 = .ok (.iload_n 2, 1) := by decide +kernel
theorem dX6_isSign_26 : decode cX6_isSign 26 = .ok (.ireturn, 1) := by decide +kernel
theorem dX6_isNumber_0 : decode cX6_isNumber 0 = .ok (.aload_n 0, 1) := by decide +kernel
theorem dX6_isNumber_1 : decode cX6_isNumber 1 = .ok (.iload_n 1, 1) := by decide +kernel
theorem dX6_isNumber_2 : decode cX6_isNumber 2 = .ok (.bipush 57, 2) := by decide +kernel
theorem dX6_isNumber_4 : decode cX6_isNumber 4 = .ok (.invokevirtual 147, 3) := by decide +kernel
theorem dX6_isNumber_7 : decode cX6_isNumber 7 = .ok (.ifCond .ne 8, 3) := by decide +kernel
theorem dX6_isNumber_10 : decode cX6_isNumber 10 = .ok (.aload_n 0, 1) := by decide +kernel
theorem dX6_isNumber_11 : decode cX6_isNumber 11 = .ok (.invokevirtual 150, 3) := by decide +kernel
theorem dX6_isNumber_14 : decode cX6_isNumber 14 = .ok (.ireturn, 1) := by decide +kernel
theorem dX6_isNumber_15 : decode cX6_isNumber 15 = .ok (.aload_n 0, 1) := by decide +kernel
theorem dX6_isNumber_16 : decode cX6_isNumber 16 = .ok (.aload_n 0, 1) := by decide +kernel
theorem dX6_isNumber_17 : decode cX6_isNumber 17 = .ok (.getfield 16, 3) := by decide +kernel
theorem dX6_isNumber_20 : decode cX6_isNumber 20 = .ok (.aload_n 0, 1) := by decide +kernel
theorem dX6_isNumber_21 : decode cX6_isNumber 21 = .ok (.getfield 140, 3) := by decide +kernel
theorem dX6_isNumber_24 : decode cX6_isNumber 24 = .ok (.iaload, 1) := by decide +kernel
theorem dX6_isNumber_25 : decode cX6_isNumber 25 = .ok (.bipush 48, 2) := by decide +kernel
theorem dX6_isNumber_27 : decode cX6_isNumber 27 = .ok (.isub, 1) := by decide +kernel
theorem dX6_isNumber_28 : decode cX6_isNumber 28 = .ok (.putfield 154, 3) := by decide +kernel
theorem dX6_isNumber_31 : decode cX6_isNumber 31 = .ok (.aload_n 0, 1) := by decide +kernel
theorem dX6_isNumber_32 : decode cX6_isNumber 32 = .ok (.dup, 1) := by decide +kernel
theorem dX6_isNumber_33 : decode cX6_isNumber 33 = .ok (.getfield 140, 3) := by decide +kernel
theorem dX6_isNumber_36 : decode cX6_isNumber 36 = .ok (.iconst 1, 1) := by decide +kernel
theorem dX6_isNumber_37 : decode cX6_isNumber 37 = .ok (.iadd, 1) := by decide +kernel
theorem dX6_isNumber_38 : decode cX6_isNumber 38 = .ok (.putfield 140, 3) := by decide +kernel
theorem dX6_isNumber_41 : decode cX6_isNumber 41 = .ok (.aload_n 0, 1) := by decide +kernel
theorem dX6_isNumber_42 : decode cX6_isNumber 42 = .ok (.getfield 154, 3) := by decide +kernel
theorem dX6_isNumber_45 : decode cX6_isNumber 45 = .ok (.ifCond .le 72, 3) := by decide +kernel
theorem dX6_isNumber_48 : decode cX6_isNumber 48 = .ok (.aload_n 0, 1) := by decide +kernel
theorem dX6_isNumber_49 : decode cX6_isNumber 49 = .ok (.bipush 48, 2) := by decide +kernel
theorem dX6_isNumber_51 : decode cX6_isNumber 51 = .ok (.bipush 57, 2) := by decide +kernel
theorem dX6_isNumber_53 : decode cX6_isNumber 53 = .ok (.invokevirtual 147, 3) := by decide +kernel
theorem dX6_isNumber_56 : decode cX6_isNumber 56 = .ok (.ifCond .eq 61, 3) := by decide +kernel
theorem dX6_isNumber_59 : decode cX6_isNumber 59 = .ok (.bipush 10, 2) := by decide +kernel
theorem dX6_isNumber_61 : decode cX6_isNumber 61 = .ok (.aload_n 0, 1) := by decide +kernel
theorem dX6_isNumber_62 : decode cX6_isNumber 62 = .ok (.getfield 154, 3) := by decide +kernel
theorem dX6_isNumber_65 : decode cX6_isNumber 65 = .ok (.imul, 1) := by decide +kernel
theorem dX6_isNumber_66 : decode cX6_isNumber 66 = .ok (.aload_n 0, 1) := by decide +kernel
theorem dX6_isNumber_67 : decode cX6_isNumber 67 = .ok (.getfield 16, 3) := by decide +kernel
theorem dX6_isNumber_70 : decode cX6_isNumber 70 = .ok (.aload_n 0, 1) := by decide +kernel
theorem dX6_isNumber_71 : decode cX6_isNumber 71 = .ok (.getfield 140, 3) := by decide +kernel
theorem dX6_isNumber_74 : decode cX6_isNumber 74 = .ok (.iaload, 1) := by decide +kernel
theorem dX6_isNumber_75 : decode cX6_isNumber 75 = .ok (.iadd, 1) := by decide +kernel
theorem dX6_isNumber_76 : decode cX6_isNumber 76 = .ok (.bipush 48, 2) := by decide +kernel
theorem dX6_isNumber_78 : decode cX6_isNumber 78 = .ok (.isub, 1) := by decide +kernel
theorem dX6_isNumber_79 : decode cX6_isNumber 79 = .ok (.iload_n 2, 1) := by decide +kernel
theorem dX6_isNumber_80 : decode cX6_isNumber 80 = .ok (.if_icmp .gt 37, 3) := by decide +kernel
theorem dX6_isNumber_83 : decode cX6_isNumber 83 = .ok (.aload_n 0, 1) := by decide +kernel
theorem dX6_isNumber_84 : decode cX6_isNumber 84 = .ok (.bipush 10, 2) := by decide +kernel
theorem dX6_isNumber_86 : decode cX6_isNumber 86 = .ok (.aload_n 0, 1) := by decide +kernel
theorem dX6_isNumber_87 : decode cX6_isNumber 87 = .ok (.getfield 154, 3) := by decide +kernel
theorem dX6_isNumber_90 : decode cX6_isNumber 90 = .ok (.imul, 1) := by decide +kernel
theorem dX6_isNumber_91 : decode cX6_isNumber 91 = .ok (.aload_n 0, 1) := by decide +kernel
theorem dX6_isNumber_92 : decode cX6_isNumber 92 = .ok (.getfield 16, 3) := by decide +kernel
theorem dX6_isNumber_95 : decode cX6_isNumber 95 = .ok (.aload_n 0, 1) := by decide +kernel
theorem dX6_isNumber_96 : decode cX6_isNumber 96 = .ok (.getfield 140, 3) := by decide +kernel
theorem dX6_isNumber_99 : decode cX6_isNumber 99 = .ok (.iaload, 1) := by decide +kernel
theorem dX6_isNumber_100 : decode cX6_isNumber 100 = .ok (.iadd, 1) := by decide +kernel
theorem dX6_isNumber_101 : decode cX6_isNumber 101 = .ok (.bipush 48, 2) := by decide +kernel
theorem dX6_isNumber_103 : decode cX6_isNumber 103 = .ok (.isub, 1) := by decide +kernel
theorem dX6_isNumber_104 : decode cX6_isNumber 104 = .ok (.putfield 154, 3) := by decide +kernel
theorem dX6_isNumber_107 : decode cX6_isNumber 107 = .ok (.aload_n 0, 1) := by decide +kernel
theorem dX6_isNumber_108 : decode cX6_isNumber 108 = .ok (.dup, 1) := by decide +kernel
theorem dX6_isNumber_109 : decode cX6_isNumber 109 = .ok (.getfield 140, 3) := by decide +kernel
theorem dX6_isNumber_112 : decode cX6_isNumber 112 = .ok (.iconst 1, 1) := by decide +kernel
theorem dX6_isNumber_113 : decode cX6_isNumber 113 = .ok (.iadd, 1) := by decide +kernel
theorem dX6_isNumber_114 : decode cX6_isNumber 114 = .ok (.putfield 140, 3) := by decide +kernel
theorem dX6_isNumber_117 : decode cX6_isNumber 117 = .ok (.iconst 1, 1) := by decide +kernel
theorem dX6_isNumber_118 : decode cX6_isNumber 118 = .ok (.ireturn, 1) := by decide +kernel
theorem dX6_isPart_0 : decode cX6_isPart 0 = .ok (.aload_n 0, 1) := by decide +kernel
theorem dX6_isPart_1 : decode cX6_isPart 1 = .ok (.bipush 49, 2) := by decide +kernel
theorem dX6_isPart_3 : decode cX6_isPart 3 = .ok (.bipush 16, 2) := by decide +kernel
theorem dX6_isPart_5 : decode cX6_isPart 5 = .ok (.invokevirtual 157, 3) := by decide +kernel
theorem dX6_isPart_8 : decode cX6_isPart 8 = .ok (.ifCond .ne 5, 3) := by decide +kernel
theorem dX6_isPart_11 : decode cX6_isPart 11 = .ok (.iconst 0, 1) := by decide +kernel
theorem dX6_isPart_12 : decode cX6_isPart 12 = .ok (.ireturn, 1) := by decide +kernel
theorem dX6_isPart_13 : decode cX6_isPart 13 = .ok (.aload_n 0, 1) := by decide +kernel
theorem dX6_isPart_14 : decode cX6_isPart 14 = .ok (.getfield 19, 3) := by decide +kernel
theorem dX6_isPart_17 : decode cX6_isPart 17 = .ok (.iconst 3, 1) := by decide +kernel
theorem dX6_isPart_18 : decode cX6_isPart 18 = .ok (.aload_n 0, 1) := by decide +kernel
theorem dX6_isPart_19 : decode cX6_isPart 19 = .ok (.getfield 160, 3) := by decide +kernel
theorem dX6_isPart_22 : decode cX6_isPart 22 = .ok (.imul, 1) := by decide +kernel
theorem dX6_isPart_23 : decode cX6_isPart 23 = .ok (.aload_n 0, 1) := by decide +kernel
theorem dX6_isPart_24 : decode cX6_isPart 24 = .ok (.getfield 154, 3) := by decide +kernel
theorem dX6_isPart_27 : decode cX6_isPart 27 = .ok (.iastore, 1) := by decide +kernel
theorem dX6_isPart_28 : decode cX6_isPart 28 = .ok (.aload_n 0, 1) := by decide +kernel
theorem dX6_isPart_29 : decode cX6_isPart 29 = .ok (.getfield 19, 3) := by decide +kernel
theorem dX6_isPart_32 : decode cX6_isPart 32 = .ok (.iconst 3, 1) := by decide +kernel
theorem dX6_isPart_33 : decode cX6_isPart 33 = .ok (.aload_n 0, 1) := by decide +kernel
theorem dX6_isPart_34 : decode cX6_isPart 34 = .ok (.getfield 160, 3) := by decide +kernel
theorem dX6_isPart_37 : decode cX6_isPart 37 = .ok (.imul, 1) := by decide +kernel
theorem dX6_isPart_38 : decode cX6_isPart 38 = .ok (.iconst 1, 1) := by decide +kernel
theorem dX6_isPart_39 : decode cX6_isPart 39 = .ok (.iadd, 1) := by decide +kernel
theorem dX6_isPart_40 : decode cX6_isPart 40 = .ok (.aload_n 0, 1) := by decide +kernel
theorem dX6_isPart_41 : decode cX6_isPart 41 = .ok (.bipush 114, 2) := by decide +kernel
theorem dX6_isPart_43 : decode cX6_isPart 43 = .ok (.invokevirtual 163, 3) := by decide +kernel
theorem dX6_isPart_46 : decode cX6_isPart 46 = .ok (.ifCond .eq 7, 3) := by decide +kernel
theorem dX6_isPart_49 : decode cX6_isPart 49 = .ok (.iconst 1, 1) := by decide +kernel
theorem dX6_isPart_50 : decode cX6_isPart 50 = .ok (.goto 4, 3) := by decide +kernel
theorem dX6_isPart_53 : decode cX6_isPart 53 = .ok (.iconst 0, 1) := by decide +kernel
theorem dX6_isPart_54 : decode cX6_isPart 54 = .ok (.iastore, 1) := by decide +kernel
theorem dX6_isPart_55 : decode cX6_isPart 55 = .ok (.aload_n 0, 1) := by decide +kernel
theorem dX6_isPart_56 : decode cX6_isPart 56 = .ok (.getfield 19, 3) := by decide +kernel
theorem dX6_isPart_59 : decode cX6_isPart 59 = .ok (.iconst 3, 1) := by decide +kernel
theorem dX6_isPart_60 : decode cX6_isPart 60 = .ok (.aload_n 0, 1) := by decide +kernel
theorem dX6_isPart_61 : decode cX6_isPart 61 = .ok (.getfield 160, 3) := by decide +kernel
theorem dX6_isPart_64 : decode cX6_isPart 64 = .ok (.imul, 1) := by decide +kernel
theorem dX6_isPart_65 : decode cX6_isPart 65 = .ok (.iconst 2, 1) := by decide +kernel
theorem dX6_isPart_66 : decode cX6_isPart 66 = .ok (.iadd, 1) := by decide +kernel
theorem dX6_isPart_67 : decode cX6_isPart 67 = .ok (.iconst (-1), 1) := by decide +kernel
theorem dX6_isPart_68 : decode cX6_isPart 68 = .ok (.iastore, 1) := by decide +kernel
theorem dX6_isPart_69 : decode cX6_isPart 69 = .ok (.aload_n 0, 1) := by decide +kernel
theorem dX6_isPart_70 : decode cX6_isPart 70 = .ok (.bipush 60, 2) := by decide +kernel
theorem dX6_isPart_72 : decode cX6_isPart 72 = .ok (.invokevirtual 163, 3) := by decide +kernel
theorem dX6_isPart_75 : decode cX6_isPart 75 = .ok (.ifCond .ne 5, 3) := by decide +kernel
theorem dX6_isPart_78 : decode cX6_isPart 78 = .ok (.iconst 1, 1) := by decide +kernel
theorem dX6_isPart_79 : decode cX6_isPart 79 = .ok (.ireturn, 1) := by decide +kernel
theorem dX6_isPart_80 : decode cX6_isPart 80 = .ok (.aload_n 0, 1) := by decide +kernel
theorem dX6_isPart_81 : decode cX6_isPart 81 = .ok (.bipush 48, 2) := by decide +kernel
theorem dX6_isPart_83 : decode cX6_isPart 83 = .ok (.bipush 23, 2) := by decide +kernel
theorem dX6_isPart_85 : decode cX6_isPart 85 = .ok (.invokevirtual 157, 3) := by decide +kernel
theorem dX6_isPart_88 : decode cX6_isPart 88 = .ok (.istore_n 1, 1) := by decide +kernel
theorem dX6_isPart_89 : decode cX6_isPart 89 = .ok (.aload_n 0, 1) := by decide +kernel
theorem dX6_isPart_90 : decode cX6_isPart 90 = .ok (.getfield 19, 3) := by decide +kernel
theorem dX6_isPart_93 : decode cX6_isPart 93 = .ok (.iconst 3, 1) := by decide +kernel
theorem dX6_isPart_94 : decode cX6_isPart 94 = .ok (.aload_n 0, 1) := by decide +kernel
theorem dX6_isPart_95 : decode cX6_isPart 95 = .ok (.getfield 160, 3) := by decide +kernel
theorem dX6_isPart_98 : decode cX6_isPart 98 = .ok (.imul, 1) := by decide +kernel
theorem dX6_isPart_99 : decode cX6_isPart 99 = .ok (.iconst 2, 1) := by decide +kernel
theorem dX6_isPart_100 : decode cX6_isPart 100 = .ok (.iadd, 1) := by decide +kernel
theorem dX6_isPart_101 : decode cX6_isPart 101 = .ok (.aload_n 0, 1) := by decide +kernel
theorem dX6_isPart_102 : decode cX6_isPart 102 = .ok (.getfield 154, 3) := by decide +kernel
theorem dX6_isPart_105 : decode cX6_isPart 105 = .ok (.iastore, 1) := by decide +kernel
theorem dX6_isPart_106 : decode cX6_isPart 106 = .ok (.iload_n 1, 1) := by decide +kernel
theorem dX6_isPart_107 : decode cX6_isPart 107 = .ok (.ireturn, 1) := by decide +kernel
theorem dX6_isText_0 : decode cX6_isText 0 = .ok (.aload_n 0, 1) := by decide +kernel
theorem dX6_isText_1 : decode cX6_isText 1 = .ok (.iconst 0, 1) := by decide +kernel
theorem dX6_isText_2 : decode cX6_isText 2 = .ok (.putfield 140, 3) := by decide +kernel
theorem dX6_isText_5 : decode cX6_isText 5 = .ok (.aload_n 0, 1) := by decide +kernel
theorem dX6_isText_6 : decode cX6_isText 6 = .ok (.iconst 0, 1) := by decide +kernel
theorem dX6_isText_7 : decode cX6_isText 7 = .ok (.putfield 160, 3) := by decide +kernel
theorem dX6_isText_10 : decode cX6_isText 10 = .ok (.aload_n 0, 1) := by decide +kernel
theorem dX6_isText_11 : decode cX6_isText 11 = .ok (.iconst 0, 1) := by decide +kernel
theorem dX6_isText_12 : decode cX6_isText 12 = .ok (.putfield 143, 3) := by decide +kernel
theorem dX6_isText_15 : decode cX6_isText 15 = .ok (.iconst 1, 1) := by decide +kernel
theorem dX6_isText_16 : decode cX6_isText 16 = .ok (.istore_n 1, 1) := by decide +kernel
theorem dX6_isText_17 : decode cX6_isText 17 = .ok (.iload_n 1, 1) := by decide +kernel
theorem dX6_isText_18 : decode cX6_isText 18 = .ok (.ifCond .eq 32, 3) := by decide +kernel
theorem dX6_isText_21 : decode cX6_isText 21 = .ok (.aload_n 0, 1) := by decide +kernel
theorem dX6_isText_22 : decode cX6_isText 22 = .ok (.invokevirtual 166, 3) := by decide +kernel
theorem dX6_isText_25 : decode cX6_isText 25 = .ok (.ifCond .ne 5, 3) := by decide +kernel
theorem dX6_isText_28 : decode cX6_isText 28 = .ok (.iconst 0, 1) := by decide +kernel
theorem dX6_isText_29 : decode cX6_isText 29 = .ok (.ireturn, 1) := by decide +kernel
theorem dX6_isText_30 : decode cX6_isText 30 = .ok (.aload_n 0, 1) := by decide +kernel
theorem dX6_isText_31 : decode cX6_isText 31 = .ok (.dup, 1) := by decide +kernel
theorem dX6_isText_32 : decode cX6_isText 32 = .ok (.getfield 160, 3) := by decide +kernel
theorem dX6_isText_35 : decode cX6_isText 35 = .ok (.iconst 1, 1) := by decide +kernel
theorem dX6_isText_36 : decode cX6_isText 36 = .ok (.iadd, 1) := by decide +kernel
theorem dX6_isText_37 : decode cX6_isText 37 = .ok (.putfield 160, 3) := by decide +kernel
theorem dX6_isText_40 : decode cX6_isText 40 = .ok (.aload_n 0, 1) := by decide +kernel
theorem dX6_isText_41 : decode cX6_isText 41 = .ok (.bipush 59, 2) := by decide +kernel
theorem dX6_isText_43 : decode cX6_isText 43 = .ok (.invokevirtual 163, 3) := by decide +kernel
theorem dX6_isText_46 : decode cX6_isText 46 = .ok (.istore_n 1, 1) := by decide +kernel
theorem dX6_isText_47 : decode cX6_isText 47 = .ok (.goto (-30), 3) := by decide +kernel
theorem dX6_isText_50 : decode cX6_isText 50 = .ok (.aload_n 0, 1) := by decide +kernel
theorem dX6_isText_51 : decode cX6_isText 51 = .ok (.aload_n 0, 1) := by decide +kernel
theorem dX6_isText_52 : decode cX6_isText 52 = .ok (.getfield 140, 3) := by decide +kernel
theorem dX6_isText_55 : decode cX6_isText 55 = .ok (.aload_n 0, 1) := by decide +kernel
theorem dX6_isText_56 : decode cX6_isText 56 = .ok (.getfield 137, 3) := by decide +kernel
theorem dX6_isText_59 : decode cX6_isText 59 = .ok (.if_icmp .ge 7, 3) := by decide +kernel
theorem dX6_isText_62 : decode cX6_isText 62 = .ok (.iconst 1, 1) := by decide +kernel
theorem dX6_isText_63 : decode cX6_isText 63 = .ok (.goto 4, 3) := by decide +kernel
theorem dX6_isText_66 : decode cX6_isText 66 = .ok (.iconst 0, 1) := by decide +kernel
theorem dX6_isText_67 : decode cX6_isText 67 = .ok (.putfield 143, 3) := by decide +kernel
theorem dX6_isText_70 : decode cX6_isText 70 = .ok (.aload_n 0, 1) := by decide +kernel
theorem dX6_isText_71 : decode cX6_isText 71 = .ok (.getfield 140, 3) := by decide +kernel
theorem dX6_isText_74 : decode cX6_isText 74 = .ok (.aload_n 0, 1) := by decide +kernel
theorem dX6_isText_75 : decode cX6_isText 75 = .ok (.getfield 137, 3) := by decide +kernel
theorem dX6_isText_78 : decode cX6_isText 78 = .ok (.if_icmp .ne 7, 3) := by decide +kernel
theorem dX6_isText_81 : decode cX6_isText 81 = .ok (.iconst 1, 1) := by decide +kernel
theorem dX6_isText_82 : decode cX6_isText 82 = .ok (.goto 4, 3) := by decide +kernel
theorem dX6_isText_85 : decode cX6_isText 85 = .ok (.iconst 0, 1) := by decide +kernel
theorem dX6_isText_86 : decode cX6_isText 86 = .ok (.ireturn, 1) := by decide +kernel
theorem dX6_firstError_0 : decode cX6_firstError 0 = .ok (.aload_n 0, 1) := by decide +kernel
theorem dX6_firstError_1 : decode cX6_firstError 1 = .ok (.iconst 0, 1) := by decide +kernel
theorem dX6_firstError_2 : decode cX6_firstError 2 = .ok (.putfield 35, 3) := by decide +kernel
theorem dX6_firstError_5 : decode cX6_firstError 5 = .ok (.aload_n 0, 1) := by decide +kernel
theorem dX6_firstError_6 : decode cX6_firstError 6 = .ok (.invokevirtual 169, 3) := by decide +kernel
theorem dX6_firstError_9 : decode cX6_firstError 9 = .ok (.istore_n 1, 1) := by decide +kernel
theorem dX6_firstError_10 : decode cX6_firstError 10 = .ok (.iload_n 1, 1) := by decide +kernel
theorem dX6_firstError_11 : decode cX6_firstError 11 = .ok (.ifCond .ne 17, 3) := by decide +kernel
theorem dX6_firstError_14 : decode cX6_firstError 14 = .ok (.aload_n 0, 1) := by decide +kernel
theorem dX6_firstError_15 : decode cX6_firstError 15 = .ok (.getfield 143, 3) := by decide +kernel
theorem dX6_firstError_18 : decode cX6_firstError 18 = .ok (.ifCond .eq 10, 3) := by decide +kernel
theorem dX6_firstError_21 : decode cX6_firstError 21 = .ok (.aload_n 0, 1) := by decide +kernel
theorem dX6_firstError_22 : decode cX6_firstError 22 = .ok (.getfield 140, 3) := by decide +kernel
theorem dX6_firstError_25 : decode cX6_firstError 25 = .ok (.goto 7, 3) := by decide +kernel
theorem dX6_firstError_28 : decode cX6_firstError 28 = .ok (.aload_n 0, 1) := by decide +kernel
theorem dX6_firstError_29 : decode cX6_firstError 29 = .ok (.getfield 137, 3) := by decide +kernel
theorem dX6_firstError_32 : decode cX6_firstError 32 = .ok (.ireturn, 1) := by decide +kernel
theorem dX6_mayCome_0 : decode cX6_mayCome 0 = .ok (.aload_n 0, 1) := by decide +kernel
theorem dX6_mayCome_1 : decode cX6_mayCome 1 = .ok (.getfield 19, 3) := by decide +kernel
theorem dX6_mayCome_4 : decode cX6_mayCome 4 = .ok (.iconst 3, 1) := by decide +kernel
theorem dX6_mayCome_5 : decode cX6_mayCome 5 = .ok (.iload_n 2, 1) := by decide +kernel
theorem dX6_mayCome_6 : decode cX6_mayCome 6 = .ok (.imul, 1) := by decide +kernel
theorem dX6_mayCome_7 : decode cX6_mayCome 7 = .ok (.iconst 2, 1) := by decide +kernel
theorem dX6_mayCome_8 : decode cX6_mayCome 8 = .ok (.iadd, 1) := by decide +kernel
theorem dX6_mayCome_9 : decode cX6_mayCome 9 = .ok (.iaload, 1) := by decide +kernel
theorem dX6_mayCome_10 : decode cX6_mayCome 10 = .ok (.istore_n 3, 1) := by decide +kernel
theorem dX6_mayCome_11 : decode cX6_mayCome 11 = .ok (.aload_n 0, 1) := by decide +kernel
theorem dX6_mayCome_12 : decode cX6_mayCome 12 = .ok (.iload_n 1, 1) := by decide +kernel
theorem dX6_mayCome_13 : decode cX6_mayCome 13 = .ok (.aload_n 0, 1) := by decide +kernel
theorem dX6_mayCome_14 : decode cX6_mayCome 14 = .ok (.getfield 19, 3) := by decide +kernel
theorem dX6_mayCome_17 : decode cX6_mayCome 17 = .ok (.iconst 3, 1) := by decide +kernel
theorem dX6_mayCome_18 : decode cX6_mayCome 18 = .ok (.iload_n 2, 1) := by decide +kernel
theorem dX6_mayCome_19 : decode cX6_mayCome 19 = .ok (.imul, 1) := by decide +kernel
theorem dX6_mayCome_20 : decode cX6_mayCome 20 = .ok (.iaload, 1) := by decide +kernel
theorem dX6_mayCome_21 : decode cX6_mayCome 21 = .ok (.invokevirtual 106, 3) := by decide +kernel
theorem dX6_mayCome_24 : decode cX6_mayCome 24 = .ok (.ifCond .eq 28, 3) := by decide +kernel
theorem dX6_mayCome_27 : decode cX6_mayCome 27 = .ok (.iload_n 3, 1) := by decide +kernel
theorem dX6_mayCome_28 : decode cX6_mayCome 28 = .ok (.iconst (-1), 1) := by decide +kernel
theorem dX6_mayCome_29 : decode cX6_mayCome 29 = .ok (.if_icmp .eq 19, 3) := by decide +kernel
theorem dX6_mayCome_32 : decode cX6_mayCome 32 = .ok (.iload_n 3, 1) := by decide +kernel
theorem dX6_mayCome_33 : decode cX6_mayCome 33 = .ok (.aload_n 0, 1) := by decide +kernel
theorem dX6_mayCome_34 : decode cX6_mayCome 34 = .ok (.invokevirtual 100, 3) := by decide +kernel
theorem dX6_mayCome_37 : decode cX6_mayCome 37 = .ok (.if_icmp .eq 11, 3) := by decide +kernel
theorem dX6_mayCome_40 : decode cX6_mayCome 40 = .ok (.aload_n 0, 1) := by decide +kernel
theorem dX6_mayCome_41 : decode cX6_mayCome 41 = .ok (.iload_n 3, 1) := by decide +kernel
theorem dX6_mayCome_42 : decode cX6_mayCome 42 = .ok (.invokevirtual 112, 3) := by decide +kernel
theorem dX6_mayCome_45 : decode cX6_mayCome 45 = .ok (.ifCond .eq 7, 3) := by decide +kernel
theorem dX6_mayCome_48 : decode cX6_mayCome 48 = .ok (.iconst 1, 1) := by decide +kernel
theorem dX6_mayCome_49 : decode cX6_mayCome 49 = .ok (.goto 4, 3) := by decide +kernel
theorem dX6_mayCome_52 : decode cX6_mayCome 52 = .ok (.iconst 0, 1) := by decide +kernel
theorem dX6_mayCome_53 : decode cX6_mayCome 53 = .ok (.ireturn, 1) := by decide +kernel
theorem dX6_makeAll_0 : decode cX6_makeAll 0 = .ok (.aload_n 0, 1) := by decide +kernel
theorem dX6_makeAll_1 : decode cX6_makeAll 1 = .ok (.iconst 0, 1) := by decide +kernel
theorem dX6_makeAll_2 : decode cX6_makeAll 2 = .ok (.putfield 35, 3) := by decide +kernel
theorem dX6_makeAll_5 : decode cX6_makeAll 5 = .ok (.iload_n 1, 1) := by decide +kernel
theorem dX6_makeAll_6 : decode cX6_makeAll 6 = .ok (.invokestatic 103, 3) := by decide +kernel
theorem dX6_makeAll_9 : decode cX6_makeAll 9 = .ok (.ifCond .ne 9, 3) := by decide +kernel
theorem dX6_makeAll_12 : decode cX6_makeAll 12 = .ok (.aload_n 0, 1) := by decide +kernel
theorem dX6_makeAll_13 : decode cX6_makeAll 13 = .ok (.iconst 1, 1) := by decide +kernel
theorem dX6_makeAll_14 : decode cX6_makeAll 14 = .ok (.invokevirtual 50, 3) := by decide +kernel
theorem dX6_makeAll_17 : decode cX6_makeAll 17 = .ok (.ireturn, 1) := by decide +kernel
theorem dX6_makeAll_18 : decode cX6_makeAll 18 = .ok (.aload_n 0, 1) := by decide +kernel
theorem dX6_makeAll_19 : decode cX6_makeAll 19 = .ok (.invokevirtual 169, 3) := by decide +kernel
theorem dX6_makeAll_22 : decode cX6_makeAll 22 = .ok (.ifCond .ne 9, 3) := by decide +kernel
theorem dX6_makeAll_25 : decode cX6_makeAll 25 = .ok (.aload_n 0, 1) := by decide +kernel
theorem dX6_makeAll_26 : decode cX6_makeAll 26 = .ok (.iconst 2, 1) := by decide +kernel
theorem dX6_makeAll_27 : decode cX6_makeAll 27 = .ok (.invokevirtual 50, 3) := by decide +kernel
theorem dX6_makeAll_30 : decode cX6_makeAll 30 = .ok (.ireturn, 1) := by decide +kernel
theorem dX6_makeAll_31 : decode cX6_makeAll 31 = .ok (.aload_n 0, 1) := by decide +kernel
theorem dX6_makeAll_32 : decode cX6_makeAll 32 = .ok (.iload_n 1, 1) := by decide +kernel
theorem dX6_makeAll_33 : decode cX6_makeAll 33 = .ok (.invokevirtual 88, 3) := by decide +kernel
theorem dX6_makeAll_36 : decode cX6_makeAll 36 = .ok (.ifCond .ne 9, 3) := by decide +kernel
theorem dX6_makeAll_39 : decode cX6_makeAll 39 = .ok (.aload_n 0, 1) := by decide +kernel
theorem dX6_makeAll_40 : decode cX6_makeAll 40 = .ok (.iconst 3, 1) := by decide +kernel
theorem dX6_makeAll_41 : decode cX6_makeAll 41 = .ok (.invokevirtual 50, 3) := by decide +kernel
theorem dX6_makeAll_44 : decode cX6_makeAll 44 = .ok (.ireturn, 1) := by decide +kernel
theorem dX6_makeAll_45 : decode cX6_makeAll 45 = .ok (.aload_n 0, 1) := by decide +kernel
theorem dX6_makeAll_46 : decode cX6_makeAll 46 = .ok (.invokevirtual 97, 3) := by decide +kernel
theorem dX6_makeAll_49 : decode cX6_makeAll 49 = .ok (.aload_n 0, 1) := by decide +kernel
theorem dX6_makeAll_50 : decode cX6_makeAll 50 = .ok (.iconst 0, 1) := by decide +kernel
theorem dX6_makeAll_51 : decode cX6_makeAll 51 = .ok (.putfield 137, 3) := by decide +kernel
theorem dX6_makeAll_54 : decode cX6_makeAll 54 = .ok (.iconst 0, 1) := by decide +kernel
theorem dX6_makeAll_55 : decode cX6_makeAll 55 = .ok (.istore_n 2, 1) := by decide +kernel
theorem dX6_makeAll_56 : decode cX6_makeAll 56 = .ok (.iload_n 2, 1) := by decide +kernel
theorem dX6_makeAll_57 : decode cX6_makeAll 57 = .ok (.aload_n 0, 1) := by decide +kernel
theorem dX6_makeAll_58 : decode cX6_makeAll 58 = .ok (.getfield 160, 3) := by decide +kernel
theorem dX6_makeAll_61 : decode cX6_makeAll 61 = .ok (.if_icmp .ge 81, 3) := by decide +kernel
theorem dX6_makeAll_64 : decode cX6_makeAll 64 = .ok (.aload_n 0, 1) := by decide +kernel
theorem dX6_makeAll_65 : decode cX6_makeAll 65 = .ok (.iload_n 1, 1) := by decide +kernel
theorem dX6_makeAll_66 : decode cX6_makeAll 66 = .ok (.iload_n 2, 1) := by decide +kernel
theorem dX6_makeAll_67 : decode cX6_makeAll 67 = .ok (.invokevirtual 172, 3) := by decide +kernel
theorem dX6_makeAll_70 : decode cX6_makeAll 70 = .ok (.ifCond .eq 72, 3) := by decide +kernel
theorem dX6_makeAll_73 : decode cX6_makeAll 73 = .ok (.aload_n 0, 1) := by decide +kernel
theorem dX6_makeAll_74 : decode cX6_makeAll 74 = .ok (.iload_n 1, 1) := by decide +kernel
theorem dX6_makeAll_75 : decode cX6_makeAll 75 = .ok (.aload_n 0, 1) := by decide +kernel
theorem dX6_makeAll_76 : decode cX6_makeAll 76 = .ok (.getfield 19, 3) := by decide +kernel
theorem dX6_makeAll_79 : decode cX6_makeAll 79 = .ok (.iconst 3, 1) := by decide +kernel
theorem dX6_makeAll_80 : decode cX6_makeAll 80 = .ok (.iload_n 2, 1) := by decide +kernel
theorem dX6_makeAll_81 : decode cX6_makeAll 81 = .ok (.imul, 1) := by decide +kernel
theorem dX6_makeAll_82 : decode cX6_makeAll 82 = .ok (.iaload, 1) := by decide +kernel
theorem dX6_makeAll_83 : decode cX6_makeAll 83 = .ok (.invokevirtual 109, 3) := by decide +kernel
theorem dX6_makeAll_86 : decode cX6_makeAll 86 = .ok (.istore_n 3, 1) := by decide +kernel
theorem dX6_makeAll_87 : decode cX6_makeAll 87 = .ok (.aload_n 0, 1) := by decide +kernel
theorem dX6_makeAll_88 : decode cX6_makeAll 88 = .ok (.iload_n 3, 1) := by decide +kernel
theorem dX6_makeAll_89 : decode cX6_makeAll 89 = .ok (.bipush 6, 2) := by decide +kernel
theorem dX6_makeAll_91 : decode cX6_makeAll 91 = .ok (.aload_n 0, 1) := by decide +kernel
theorem dX6_makeAll_92 : decode cX6_makeAll 92 = .ok (.getfield 19, 3) := by decide +kernel
theorem dX6_makeAll_95 : decode cX6_makeAll 95 = .ok (.iconst 3, 1) := by decide +kernel
theorem dX6_makeAll_96 : decode cX6_makeAll 96 = .ok (.iload_n 2, 1) := by decide +kernel
theorem dX6_makeAll_97 : decode cX6_makeAll 97 = .ok (.imul, 1) := by decide +kernel
theorem dX6_makeAll_98 : decode cX6_makeAll 98 = .ok (.iconst 1, 1) := by decide +kernel
theorem dX6_makeAll_99 : decode cX6_makeAll 99 = .ok (.iadd, 1) := by decide +kernel
theorem dX6_makeAll_100 : decode cX6_makeAll 100 = .ok (.iaload, 1) := by decide +kernel
theorem dX6_makeAll_101 : decode cX6_makeAll 101 = .ok (.invokevirtual 115, 3) := by decide +kernel
theorem dX6_makeAll_104 : decode cX6_makeAll 104 = .ok (.pop, 1) := by decide +kernel
theorem dX6_makeAll_105 : decode cX6_makeAll 105 = .ok (.aload_n 0, 1) := by decide +kernel
theorem dX6_makeAll_106 : decode cX6_makeAll 106 = .ok (.getfield 19, 3) := by decide +kernel
theorem dX6_makeAll_109 : decode cX6_makeAll 109 = .ok (.iconst 3, 1) := by decide +kernel
theorem dX6_makeAll_110 : decode cX6_makeAll 110 = .ok (.iload_n 2, 1) := by decide +kernel
theorem dX6_makeAll_111 : decode cX6_makeAll 111 = .ok (.imul, 1) := by decide +kernel
theorem dX6_makeAll_112 : decode cX6_makeAll 112 = .ok (.iconst 2, 1) := by decide +kernel
theorem dX6_makeAll_113 : decode cX6_makeAll 113 = .ok (.iadd, 1) := by decide +kernel
theorem dX6_makeAll_114 : decode cX6_makeAll 114 = .ok (.iaload, 1) := by decide +kernel
theorem dX6_makeAll_115 : decode cX6_makeAll 115 = .ok (.iconst (-1), 1) := by decide +kernel
theorem dX6_makeAll_116 : decode cX6_makeAll 116 = .ok (.if_icmp .eq 20, 3) := by decide +kernel
theorem dX6_makeAll_119 : decode cX6_makeAll 119 = .ok (.aload_n 0, 1) := by decide +kernel
theorem dX6_makeAll_120 : decode cX6_makeAll 120 = .ok (.aload_n 0, 1) := by decide +kernel
theorem dX6_makeAll_121 : decode cX6_makeAll 121 = .ok (.getfield 19, 3) := by decide +kernel
theorem dX6_makeAll_124 : decode cX6_makeAll 124 = .ok (.iconst 3, 1) := by decide +kernel
theorem dX6_makeAll_125 : decode cX6_makeAll 125 = .ok (.iload_n 2, 1) := by decide +kernel
theorem dX6_makeAll_126 : decode cX6_makeAll 126 = .ok (.imul, 1) := by decide +kernel
theorem dX6_makeAll_127 : decode cX6_makeAll 127 = .ok (.iconst 2, 1) := by decide +kernel
theorem dX6_makeAll_128 : decode cX6_makeAll 128 = .ok (.iadd, 1) := by decide +kernel
theorem dX6_makeAll_129 : decode cX6_makeAll 129 = .ok (.iaload, 1) := by decide +kernel
theorem dX6_makeAll_130 : decode cX6_makeAll 130 = .ok (.iconst 4, 1) := by decide +kernel
theorem dX6_makeAll_131 : decode cX6_makeAll 131 = .ok (.iload_n 3, 1) := by decide +kernel
theorem dX6_makeAll_132 : decode cX6_makeAll 132 = .ok (.invokevirtual 115, 3) := by decide +kernel
theorem dX6_makeAll_135 : decode cX6_makeAll 135 = .ok (.pop, 1) := by decide +kernel
theorem dX6_makeAll_136 : decode cX6_makeAll 136 = .ok (.iinc 2 1, 3) := by decide +kernel
theorem dX6_makeAll_139 : decode cX6_makeAll 139 = .ok (.goto (-83), 3) := by decide +kernel
theorem dX6_makeAll_142 : decode cX6_makeAll 142 = .ok (.iload_n 2, 1) := by decide +kernel
theorem dX6_makeAll_143 : decode cX6_makeAll 143 = .ok (.ireturn, 1) := by decide +kernel
theorem dX6_refersTo_0 : decode cX6_refersTo 0 = .ok (.iconst 0, 1) := by decide +kernel
theorem dX6_refersTo_1 : decode cX6_refersTo 1 = .ok (.istore_n 2, 1) := by decide +kernel
theorem dX6_refersTo_2 : decode cX6_refersTo 2 = .ok (.iconst 0, 1) := by decide +kernel
theorem dX6_refersTo_3 : decode cX6_refersTo 3 = .ok (.istore_n 3, 1) := by decide +kernel
theorem dX6_refersTo_4 : decode cX6_refersTo 4 = .ok (.iload_n 3, 1) := by decide +kernel
theorem dX6_refersTo_5 : decode cX6_refersTo 5 = .ok (.bipush 24, 2) := by decide +kernel
theorem dX6_refersTo_7 : decode cX6_refersTo 7 = .ok (.if_icmp .ge 65, 3) := by decide +kernel
theorem dX6_refersTo_10 : decode cX6_refersTo 10 = .ok (.iload_n 2, 1) := by decide +kernel
theorem dX6_refersTo_11 : decode cX6_refersTo 11 = .ok (.aload_n 0, 1) := by decide +kernel
theorem dX6_refersTo_12 : decode cX6_refersTo 12 = .ok (.iload_n 3, 1) := by decide +kernel
theorem dX6_refersTo_13 : decode cX6_refersTo 13 = .ok (.iconst 0, 1) := by decide +kernel
theorem dX6_refersTo_14 : decode cX6_refersTo 14 = .ok (.invokevirtual 43, 3) := by decide +kernel
theorem dX6_refersTo_17 : decode cX6_refersTo 17 = .ok (.iconst 1, 1) := by decide +kernel
theorem dX6_refersTo_18 : decode cX6_refersTo 18 = .ok (.if_icmp .ne 17, 3) := by decide +kernel
theorem dX6_refersTo_21 : decode cX6_refersTo 21 = .ok (.aload_n 0, 1) := by decide +kernel
theorem dX6_refersTo_22 : decode cX6_refersTo 22 = .ok (.iload_n 3, 1) := by decide +kernel
theorem dX6_refersTo_23 : decode cX6_refersTo 23 = .ok (.iconst 4, 1) := by decide +kernel
theorem dX6_refersTo_24 : decode cX6_refersTo 24 = .ok (.invokevirtual 43, 3) := by decide +kernel
theorem dX6_refersTo_27 : decode cX6_refersTo 27 = .ok (.iload_n 1, 1) := by decide +kernel
theorem dX6_refersTo_28 : decode cX6_refersTo 28 = .ok (.if_icmp .ne 7, 3) := by decide +kernel
theorem dX6_refersTo_31 : decode cX6_refersTo 31 = .ok (.iconst 1, 1) := by decide +kernel
theorem dX6_refersTo_32 : decode cX6_refersTo 32 = .ok (.goto 4, 3) := by decide +kernel
theorem dX6_refersTo_35 : decode cX6_refersTo 35 = .ok (.iconst 0, 1) := by decide +kernel
theorem dX6_refersTo_36 : decode cX6_refersTo 36 = .ok (.iadd, 1) := by decide +kernel
theorem dX6_refersTo_37 : decode cX6_refersTo 37 = .ok (.istore_n 2, 1) := by decide +kernel
theorem dX6_refersTo_38 : decode cX6_refersTo 38 = .ok (.iload_n 2, 1) := by decide +kernel
theorem dX6_refersTo_39 : decode cX6_refersTo 39 = .ok (.aload_n 0, 1) := by decide +kernel
theorem dX6_refersTo_40 : decode cX6_refersTo 40 = .ok (.iload_n 3, 1) := by decide +kernel
theorem dX6_refersTo_41 : decode cX6_refersTo 41 = .ok (.iconst 0, 1) := by decide +kernel
theorem dX6_refersTo_42 : decode cX6_refersTo 42 = .ok (.invokevirtual 43, 3) := by decide +kernel
theorem dX6_refersTo_45 : decode cX6_refersTo 45 = .ok (.iconst 1, 1) := by decide +kernel
theorem dX6_refersTo_46 : decode cX6_refersTo 46 = .ok (.if_icmp .ne 17, 3) := by decide +kernel
theorem dX6_refersTo_49 : decode cX6_refersTo 49 = .ok (.aload_n 0, 1) := by decide +kernel
theorem dX6_refersTo_50 : decode cX6_refersTo 50 = .ok (.iload_n 3, 1) := by decide +kernel
theorem dX6_refersTo_51 : decode cX6_refersTo 51 = .ok (.iconst 5, 1) := by decide +kernel
theorem dX6_refersTo_52 : decode cX6_refersTo 52 = .ok (.invokevirtual 43, 3) := by decide +kernel
theorem dX6_refersTo_55 : decode cX6_refersTo 55 = .ok (.iload_n 1, 1) := by decide +kernel
theorem dX6_refersTo_56 : decode cX6_refersTo 56 = .ok (.if_icmp .ne 7, 3) := by decide +kernel
theorem dX6_refersTo_59 : decode cX6_refersTo 59 = .ok (.iconst 1, 1) := by decide +kernel
theorem dX6_refersTo_60 : decode cX6_refersTo 60 = .ok (.goto 4, 3) := by decide +kernel
theorem dX6_refersTo_63 : decode cX6_refersTo 63 = .ok (.iconst 0, 1) := by decide +kernel
theorem dX6_refersTo_64 : decode cX6_refersTo 64 = .ok (.iadd, 1) := by decide +kernel
theorem dX6_refersTo_65 : decode cX6_refersTo 65 = .ok (.istore_n 2, 1) := by decide +kernel
theorem dX6_refersTo_66 : decode cX6_refersTo 66 = .ok (.iinc 3 1, 3) := by decide +kernel
theorem dX6_refersTo_69 : decode cX6_refersTo 69 = .ok (.goto (-65), 3) := by decide +kernel
theorem dX6_refersTo_72 : decode cX6_refersTo 72 = .ok (.iload_n 2, 1) := by decide +kernel
theorem dX6_refersTo_73 : decode cX6_refersTo 73 = .ok (.ireturn, 1) := by decide +kernel
theorem dX6_ofObject_0 : decode cX6_ofObject 0 = .ok (.iload_n 2, 1) := by decide +kernel
theorem dX6_ofObject_1 : decode cX6_ofObject 1 = .ok (.bipush 7, 2) := by decide +kernel
theorem dX6_ofObject_3 : decode cX6_ofObject 3 = .ok (.if_icmp .ge 12, 3) := by decide +kernel
theorem dX6_ofObject_6 : decode cX6_ofObject 6 = .ok (.aload_n 0, 1) := by decide +kernel
theorem dX6_ofObject_7 : decode cX6_ofObject 7 = .ok (.iload_n 1, 1) := by decide +kernel
theorem dX6_ofObject_8 : decode cX6_ofObject 8 = .ok (.iload_n 2, 1) := by decide +kernel
theorem dX6_ofObject_9 : decode cX6_ofObject 9 = .ok (.iconst 1, 1) := by decide +kernel
theorem dX6_ofObject_10 : decode cX6_ofObject 10 = .ok (.iadd, 1) := by decide +kernel
theorem dX6_ofObject_11 : decode cX6_ofObject 11 = .ok (.invokevirtual 43, 3) := by decide +kernel
theorem dX6_ofObject_14 : decode cX6_ofObject 14 = .ok (.ireturn, 1) := by decide +kernel
theorem dX6_ofObject_15 : decode cX6_ofObject 15 = .ok (.iload_n 2, 1) := by decide +kernel
theorem dX6_ofObject_16 : decode cX6_ofObject 16 = .ok (.bipush 8, 2) := by decide +kernel
theorem dX6_ofObject_18 : decode cX6_ofObject 18 = .ok (.if_icmp .ne 28, 3) := by decide +kernel
theorem dX6_ofObject_21 : decode cX6_ofObject 21 = .ok (.aload_n 0, 1) := by decide +kernel
theorem dX6_ofObject_22 : decode cX6_ofObject 22 = .ok (.aload_n 0, 1) := by decide +kernel
theorem dX6_ofObject_23 : decode cX6_ofObject 23 = .ok (.iload_n 1, 1) := by decide +kernel
theorem dX6_ofObject_24 : decode cX6_ofObject 24 = .ok (.iconst 1, 1) := by decide +kernel
theorem dX6_ofObject_25 : decode cX6_ofObject 25 = .ok (.invokevirtual 43, 3) := by decide +kernel
theorem dX6_ofObject_28 : decode cX6_ofObject 28 = .ok (.invokevirtual 75, 3) := by decide +kernel
theorem dX6_ofObject_31 : decode cX6_ofObject 31 = .ok (.aload_n 0, 1) := by decide +kernel
theorem dX6_ofObject_32 : decode cX6_ofObject 32 = .ok (.getfield 28, 3) := by decide +kernel
theorem dX6_ofObject_35 : decode cX6_ofObject 35 = .ok (.iload_n 1, 1) := by decide +kernel
theorem dX6_ofObject_36 : decode cX6_ofObject 36 = .ok (.baload, 1) := by decide +kernel
theorem dX6_ofObject_37 : decode cX6_ofObject 37 = .ok (.ifCond .eq 7, 3) := by decide +kernel
theorem dX6_ofObject_40 : decode cX6_ofObject 40 = .ok (.iconst 1, 1) := by decide +kernel
theorem dX6_ofObject_41 : decode cX6_ofObject 41 = .ok (.goto 4, 3) := by decide +kernel
theorem dX6_ofObject_44 : decode cX6_ofObject 44 = .ok (.iconst 0, 1) := by decide +kernel
theorem dX6_ofObject_45 : decode cX6_ofObject 45 = .ok (.ireturn, 1) := by decide +kernel
theorem dX6_ofObject_46 : decode cX6_ofObject 46 = .ok (.aload_n 0, 1) := by decide +kernel
theorem dX6_ofObject_47 : decode cX6_ofObject 47 = .ok (.iconst (-1), 1) := by decide +kernel
theorem dX6_ofObject_48 : decode cX6_ofObject 48 = .ok (.invokevirtual 60, 3) := by decide +kernel
theorem dX6_ofObject_51 : decode cX6_ofObject 51 = .ok (.iload_n 2, 1) := by decide +kernel
theorem dX6_ofObject_52 : decode cX6_ofObject 52 = .ok (.bipush 7, 2) := by decide +kernel
theorem dX6_ofObject_54 : decode cX6_ofObject 54 = .ok (.if_icmp .ne 21, 3) := by decide +kernel
theorem dX6_ofObject_57 : decode cX6_ofObject 57 = .ok (.aload_n 0, 1) := by decide +kernel
theorem dX6_ofObject_58 : decode cX6_ofObject 58 = .ok (.getfield 22, 3) := by decide +kernel
theorem dX6_ofObject_61 : decode cX6_ofObject 61 = .ok (.iload_n 1, 1) := by decide +kernel
theorem dX6_ofObject_62 : decode cX6_ofObject 62 = .ok (.iaload, 1) := by decide +kernel
theorem dX6_ofObject_63 : decode cX6_ofObject 63 = .ok (.iconst (-1), 1) := by decide +kernel
theorem dX6_ofObject_64 : decode cX6_ofObject 64 = .ok (.if_icmp .ne 7, 3) := by decide +kernel
theorem dX6_ofObject_67 : decode cX6_ofObject 67 = .ok (.iconst 0, 1) := by decide +kernel
theorem dX6_ofObject_68 : decode cX6_ofObject 68 = .ok (.goto 43, 3) := by decide +kernel
theorem dX6_ofObject_71 : decode cX6_ofObject 71 = .ok (.iconst 1, 1) := by decide +kernel
theorem dX6_ofObject_72 : decode cX6_ofObject 72 = .ok (.goto 39, 3) := by decide +kernel
theorem dX6_ofObject_75 : decode cX6_ofObject 75 = .ok (.iload_n 2, 1) := by decide +kernel
theorem dX6_ofObject_76 : decode cX6_ofObject 76 = .ok (.bipush 9, 2) := by decide +kernel
theorem dX6_ofObject_78 : decode cX6_ofObject 78 = .ok (.if_icmp .ne 13, 3) := by decide +kernel
theorem dX6_ofObject_81 : decode cX6_ofObject 81 = .ok (.aload_n 0, 1) := by decide +kernel
theorem dX6_ofObject_82 : decode cX6_ofObject 82 = .ok (.iload_n 1, 1) := by decide +kernel
theorem dX6_ofObject_83 : decode cX6_ofObject 83 = .ok (.bipush 8, 2) := by decide +kernel
theorem dX6_ofObject_85 : decode cX6_ofObject 85 = .ok (.invokevirtual 43, 3) := by decide +kernel
theorem dX6_ofObject_88 : decode cX6_ofObject 88 = .ok (.goto 23, 3) := by decide +kernel
theorem dX6_ofObject_91 : decode cX6_ofObject 91 = .ok (.iload_n 2, 1) := by decide +kernel
theorem dX6_ofObject_92 : decode cX6_ofObject 92 = .ok (.bipush 10, 2) := by decide +kernel
theorem dX6_ofObject_94 : decode cX6_ofObject 94 = .ok (.if_icmp .ne 11, 3) := by decide +kernel
theorem dX6_ofObject_97 : decode cX6_ofObject 97 = .ok (.aload_n 0, 1) := by decide +kernel
theorem dX6_ofObject_98 : decode cX6_ofObject 98 = .ok (.iload_n 1, 1) := by decide +kernel
theorem dX6_ofObject_99 : decode cX6_ofObject 99 = .ok (.invokevirtual 175, 3) := by decide +kernel
theorem dX6_ofObject_102 : decode cX6_ofObject 102 = .ok (.goto 9, 3) := by decide +kernel
theorem dX6_ofObject_105 : decode cX6_ofObject 105 = .ok (.aload_n 0, 1) := by decide +kernel
theorem dX6_ofObject_106 : decode cX6_ofObject 106 = .ok (.getfield 22, 3) := by decide +kernel
theorem dX6_ofObject_109 : decode cX6_ofObject 109 = .ok (.iload_n 1, 1) := by decide +kernel
theorem dX6_ofObject_110 : decode cX6_ofObject 110 = .ok (.iaload, 1) := by decide +kernel
theorem dX6_ofObject_111 : decode cX6_ofObject 111 = .ok (.ireturn, 1) := by decide +kernel
theorem dX6_object_0 : decode cX6_object 0 = .ok (.aload_n 0, 1) := by decide +kernel
theorem dX6_object_1 : decode cX6_object 1 = .ok (.iconst 0, 1) := by decide +kernel
theorem dX6_object_2 : decode cX6_object 2 = .ok (.putfield 35, 3) := by decide +kernel
theorem dX6_object_5 : decode cX6_object 5 = .ok (.aload_n 0, 1) := by decide +kernel
theorem dX6_object_6 : decode cX6_object 6 = .ok (.iload_n 1, 1) := by decide +kernel
theorem dX6_object_7 : decode cX6_object 7 = .ok (.invokevirtual 112, 3) := by decide +kernel
theorem dX6_object_10 : decode cX6_object 10 = .ok (.ifCond .ne 9, 3) := by decide +kernel
theorem dX6_object_13 : decode cX6_object 13 = .ok (.aload_n 0, 1) := by decide +kernel
theorem dX6_object_14 : decode cX6_object 14 = .ok (.iconst 1, 1) := by decide +kernel
theorem dX6_object_15 : decode cX6_object 15 = .ok (.invokevirtual 50, 3) := by decide +kernel
theorem dX6_object_18 : decode cX6_object 18 = .ok (.ireturn, 1) := by decide +kernel
theorem dX6_object_19 : decode cX6_object 19 = .ok (.iload_n 2, 1) := by decide +kernel
theorem dX6_object_20 : decode cX6_object 20 = .ok (.iconst 0, 1) := by decide +kernel
theorem dX6_object_21 : decode cX6_object 21 = .ok (.bipush 11, 2) := by decide +kernel
theorem dX6_object_23 : decode cX6_object 23 = .ok (.invokestatic 39, 3) := by decide +kernel
theorem dX6_object_26 : decode cX6_object 26 = .ok (.ifCond .eq 12, 3) := by decide +kernel
theorem dX6_object_29 : decode cX6_object 29 = .ok (.aload_n 0, 1) := by decide +kernel
theorem dX6_object_30 : decode cX6_object 30 = .ok (.iload_n 1, 1) := by decide +kernel
theorem dX6_object_31 : decode cX6_object 31 = .ok (.iload_n 2, 1) := by decide +kernel
theorem dX6_object_32 : decode cX6_object 32 = .ok (.invokevirtual 178, 3) := by decide +kernel
theorem dX6_object_35 : decode cX6_object 35 = .ok (.goto 8, 3) := by decide +kernel
theorem dX6_object_38 : decode cX6_object 38 = .ok (.aload_n 0, 1) := by decide +kernel
theorem dX6_object_39 : decode cX6_object 39 = .ok (.iconst 2, 1) := by decide +kernel
theorem dX6_object_40 : decode cX6_object 40 = .ok (.invokevirtual 50, 3) := by decide +kernel
theorem dX6_object_43 : decode cX6_object 43 = .ok (.ireturn, 1) := by decide +kernel
theorem dX6_objectsIn_0 : decode cX6_objectsIn 0 = .ok (.iconst 0, 1) := by decide +kernel
theorem dX6_objectsIn_1 : decode cX6_objectsIn 1 = .ok (.istore_n 2, 1) := by decide +kernel
theorem dX6_objectsIn_2 : decode cX6_objectsIn 2 = .ok (.iconst 0, 1) := by decide +kernel
theorem dX6_objectsIn_3 : decode cX6_objectsIn 3 = .ok (.istore_n 3, 1) := by decide +kernel
theorem dX6_objectsIn_4 : decode cX6_objectsIn 4 = .ok (.iload_n 3, 1) := by decide +kernel
theorem dX6_objectsIn_5 : decode cX6_objectsIn 5 = .ok (.bipush 24, 2) := by decide +kernel
theorem dX6_objectsIn_7 : decode cX6_objectsIn 7 = .ok (.if_icmp .ge 26, 3) := by decide +kernel
theorem dX6_objectsIn_10 : decode cX6_objectsIn 10 = .ok (.iload_n 2, 1) := by decide +kernel
theorem dX6_objectsIn_11 : decode cX6_objectsIn 11 = .ok (.aload_n 0, 1) := by decide +kernel
theorem dX6_objectsIn_12 : decode cX6_objectsIn 12 = .ok (.iload_n 3, 1) := by decide +kernel
theorem dX6_objectsIn_13 : decode cX6_objectsIn 13 = .ok (.iload_n 1, 1) := by decide +kernel
theorem dX6_objectsIn_14 : decode cX6_objectsIn 14 = .ok (.invokevirtual 64, 3) := by decide +kernel
theorem dX6_objectsIn_17 : decode cX6_objectsIn 17 = .ok (.ifCond .eq 7, 3) := by decide +kernel
theorem dX6_objectsIn_20 : decode cX6_objectsIn 20 = .ok (.iconst 1, 1) := by decide +kernel
theorem dX6_objectsIn_21 : decode cX6_objectsIn 21 = .ok (.goto 4, 3) := by decide +kernel
theorem dX6_objectsIn_24 : decode cX6_objectsIn 24 = .ok (.iconst 0, 1) := by decide +kernel
theorem dX6_objectsIn_25 : decode cX6_objectsIn 25 = .ok (.iadd, 1) := by decide +kernel
theorem dX6_objectsIn_26 : decode cX6_objectsIn 26 = .ok (.istore_n 2, 1) := by decide +kernel
theorem dX6_objectsIn_27 : decode cX6_objectsIn 27 = .ok (.iinc 3 1, 3) := by decide +kernel
theorem dX6_objectsIn_30 : decode cX6_objectsIn 30 = .ok (.goto (-26), 3) := by decide +kernel
theorem dX6_objectsIn_33 : decode cX6_objectsIn 33 = .ok (.iload_n 2, 1) := by decide +kernel
theorem dX6_objectsIn_34 : decode cX6_objectsIn 34 = .ok (.ireturn, 1) := by decide +kernel
theorem dX6_ofArena_0 : decode cX6_ofArena 0 = .ok (.iload_n 2, 1) := by decide +kernel
theorem dX6_ofArena_1 : decode cX6_ofArena 1 = .ok (.tableswitch 105 0 6 #[43, 55, 61, 67, 73, 85, 91], 43) := by decide +kernel
theorem dX6_ofArena_44 : decode cX6_ofArena 44 = .ok (.aload_n 0, 1) := by decide +kernel
theorem dX6_ofArena_45 : decode cX6_ofArena 45 = .ok (.getfield 7, 3) := by decide +kernel
theorem dX6_ofArena_48 : decode cX6_ofArena 48 = .ok (.bipush 6, 2) := by decide +kernel
theorem dX6_ofArena_50 : decode cX6_ofArena 50 = .ok (.iconst 3, 1) := by decide +kernel
theorem dX6_ofArena_51 : decode cX6_ofArena 51 = .ok (.iload_n 1, 1) := by decide +kernel
theorem dX6_ofArena_52 : decode cX6_ofArena 52 = .ok (.imul, 1) := by decide +kernel
theorem dX6_ofArena_53 : decode cX6_ofArena 53 = .ok (.iadd, 1) := by decide +kernel
theorem dX6_ofArena_54 : decode cX6_ofArena 54 = .ok (.iaload, 1) := by decide +kernel
theorem dX6_ofArena_55 : decode cX6_ofArena 55 = .ok (.ireturn, 1) := by decide +kernel
theorem dX6_ofArena_56 : decode cX6_ofArena 56 = .ok (.aload_n 0, 1) := by decide +kernel
theorem dX6_ofArena_57 : decode cX6_ofArena 57 = .ok (.iload_n 1, 1) := by decide +kernel
theorem dX6_ofArena_58 : decode cX6_ofArena 58 = .ok (.invokevirtual 94, 3) := by decide +kernel
theorem dX6_ofArena_61 : decode cX6_ofArena 61 = .ok (.ireturn, 1) := by decide +kernel
theorem dX6_ofArena_62 : decode cX6_ofArena 62 = .ok (.aload_n 0, 1) := by decide +kernel
theorem dX6_ofArena_63 : decode cX6_ofArena 63 = .ok (.iload_n 1, 1) := by decide +kernel
theorem dX6_ofArena_64 : decode cX6_ofArena 64 = .ok (.invokevirtual 181, 3) := by decide +kernel
theorem dX6_ofArena_67 : decode cX6_ofArena 67 = .ok (.ireturn, 1) := by decide +kernel
theorem dX6_ofArena_68 : decode cX6_ofArena 68 = .ok (.aload_n 0, 1) := by decide +kernel
theorem dX6_ofArena_69 : decode cX6_ofArena 69 = .ok (.iload_n 1, 1) := by decide +kernel
theorem dX6_ofArena_70 : decode cX6_ofArena 70 = .ok (.invokevirtual 134, 3) := by decide +kernel
theorem dX6_ofArena_73 : decode cX6_ofArena 73 = .ok (.ireturn, 1) := by decide +kernel
theorem dX6_ofArena_74 : decode cX6_ofArena 74 = .ok (.aload_n 0, 1) := by decide +kernel
theorem dX6_ofArena_75 : decode cX6_ofArena 75 = .ok (.iload_n 1, 1) := by decide +kernel
theorem dX6_ofArena_76 : decode cX6_ofArena 76 = .ok (.invokevirtual 94, 3) := by decide +kernel
theorem dX6_ofArena_79 : decode cX6_ofArena 79 = .ok (.aload_n 0, 1) := by decide +kernel
theorem dX6_ofArena_80 : decode cX6_ofArena 80 = .ok (.iload_n 1, 1) := by decide +kernel
theorem dX6_ofArena_81 : decode cX6_ofArena 81 = .ok (.invokevirtual 134, 3) := by decide +kernel
theorem dX6_ofArena_84 : decode cX6_ofArena 84 = .ok (.isub, 1) := by decide +kernel
theorem dX6_ofArena_85 : decode cX6_ofArena 85 = .ok (.ireturn, 1) := by decide +kernel
theorem dX6_ofArena_86 : decode cX6_ofArena 86 = .ok (.aload_n 0, 1) := by decide +kernel
theorem dX6_ofArena_87 : decode cX6_ofArena 87 = .ok (.iload_n 1, 1) := by decide +kernel
theorem dX6_ofArena_88 : decode cX6_ofArena 88 = .ok (.invokevirtual 119, 3) := by decide +kernel
theorem dX6_ofArena_91 : decode cX6_ofArena 91 = .ok (.ireturn, 1) := by decide +kernel
theorem dX6_ofArena_92 : decode cX6_ofArena 92 = .ok (.aload_n 0, 1) := by decide +kernel
theorem dX6_ofArena_93 : decode cX6_ofArena 93 = .ok (.iload_n 1, 1) := by decide +kernel
theorem dX6_ofArena_94 : decode cX6_ofArena 94 = .ok (.invokevirtual 91, 3) := by decide +kernel
theorem dX6_ofArena_97 : decode cX6_ofArena 97 = .ok (.ifCond .eq 7, 3) := by decide +kernel
theorem dX6_ofArena_100 : decode cX6_ofArena 100 = .ok (.iconst 1, 1) := by decide +kernel
theorem dX6_ofArena_101 : decode cX6_ofArena 101 = .ok (.goto 4, 3) := by decide +kernel
theorem dX6_ofArena_104 : decode cX6_ofArena 104 = .ok (.iconst 0, 1) := by decide +kernel
theorem dX6_ofArena_105 : decode cX6_ofArena 105 = .ok (.ireturn, 1) := by decide +kernel
theorem dX6_ofArena_106 : decode cX6_ofArena 106 = .ok (.aload_n 0, 1) := by decide +kernel
theorem dX6_ofArena_107 : decode cX6_ofArena 107 = .ok (.getfield 7, 3) := by decide +kernel
theorem dX6_ofArena_110 : decode cX6_ofArena 110 = .ok (.bipush 6, 2) := by decide +kernel
theorem dX6_ofArena_112 : decode cX6_ofArena 112 = .ok (.iconst 3, 1) := by decide +kernel
theorem dX6_ofArena_113 : decode cX6_ofArena 113 = .ok (.iload_n 1, 1) := by decide +kernel
theorem dX6_ofArena_114 : decode cX6_ofArena 114 = .ok (.imul, 1) := by decide +kernel
theorem dX6_ofArena_115 : decode cX6_ofArena 115 = .ok (.iadd, 1) := by decide +kernel
theorem dX6_ofArena_116 : decode cX6_ofArena 116 = .ok (.iconst 2, 1) := by decide +kernel
theorem dX6_ofArena_117 : decode cX6_ofArena 117 = .ok (.iadd, 1) := by decide +kernel
theorem dX6_ofArena_118 : decode cX6_ofArena 118 = .ok (.iaload, 1) := by decide +kernel
theorem dX6_ofArena_119 : decode cX6_ofArena 119 = .ok (.ireturn, 1) := by decide +kernel
theorem dX6_arena_0 : decode cX6_arena 0 = .ok (.aload_n 0, 1) := by decide +kernel
theorem dX6_arena_1 : decode cX6_arena 1 = .ok (.iconst 0, 1) := by decide +kernel
theorem dX6_arena_2 : decode cX6_arena 2 = .ok (.putfield 35, 3) := by decide +kernel
theorem dX6_arena_5 : decode cX6_arena 5 = .ok (.iload_n 1, 1) := by decide +kernel
theorem dX6_arena_6 : decode cX6_arena 6 = .ok (.invokestatic 103, 3) := by decide +kernel
theorem dX6_arena_9 : decode cX6_arena 9 = .ok (.ifCond .ne 9, 3) := by decide +kernel
theorem dX6_arena_12 : decode cX6_arena 12 = .ok (.aload_n 0, 1) := by decide +kernel
theorem dX6_arena_13 : decode cX6_arena 13 = .ok (.iconst 1, 1) := by decide +kernel
theorem dX6_arena_14 : decode cX6_arena 14 = .ok (.invokevirtual 50, 3) := by decide +kernel
theorem dX6_arena_17 : decode cX6_arena 17 = .ok (.ireturn, 1) := by decide +kernel
theorem dX6_arena_18 : decode cX6_arena 18 = .ok (.iload_n 2, 1) := by decide +kernel
theorem dX6_arena_19 : decode cX6_arena 19 = .ok (.iconst 0, 1) := by decide +kernel
theorem dX6_arena_20 : decode cX6_arena 20 = .ok (.bipush 7, 2) := by decide +kernel
theorem dX6_arena_22 : decode cX6_arena 22 = .ok (.invokestatic 39, 3) := by decide +kernel
theorem dX6_arena_25 : decode cX6_arena 25 = .ok (.ifCond .eq 12, 3) := by decide +kernel
theorem dX6_arena_28 : decode cX6_arena 28 = .ok (.aload_n 0, 1) := by decide +kernel
theorem dX6_arena_29 : decode cX6_arena 29 = .ok (.iload_n 1, 1) := by decide +kernel
theorem dX6_arena_30 : decode cX6_arena 30 = .ok (.iload_n 2, 1) := by decide +kernel
theorem dX6_arena_31 : decode cX6_arena 31 = .ok (.invokevirtual 184, 3) := by decide +kernel
theorem dX6_arena_34 : decode cX6_arena 34 = .ok (.goto 8, 3) := by decide +kernel
theorem dX6_arena_37 : decode cX6_arena 37 = .ok (.aload_n 0, 1) := by decide +kernel
theorem dX6_arena_38 : decode cX6_arena 38 = .ok (.iconst 2, 1) := by decide +kernel
theorem dX6_arena_39 : decode cX6_arena 39 = .ok (.invokevirtual 50, 3) := by decide +kernel
theorem dX6_arena_42 : decode cX6_arena 42 = .ok (.ireturn, 1) := by decide +kernel
theorem dX6_objectAt_0 : decode cX6_objectAt 0 = .ok (.iconst 0, 1) := by decide +kernel
theorem dX6_objectAt_1 : decode cX6_objectAt 1 = .ok (.istore_n 3, 1) := by decide +kernel
theorem dX6_objectAt_2 : decode cX6_objectAt 2 = .ok (.iload_n 3, 1) := by decide +kernel
theorem dX6_objectAt_3 : decode cX6_objectAt 3 = .ok (.bipush 24, 2) := by decide +kernel
theorem dX6_objectAt_5 : decode cX6_objectAt 5 = .ok (.if_icmp .ge 48, 3) := by decide +kernel
theorem dX6_objectAt_8 : decode cX6_objectAt 8 = .ok (.aload_n 0, 1) := by decide +kernel
theorem dX6_objectAt_9 : decode cX6_objectAt 9 = .ok (.iload_n 3, 1) := by decide +kernel
theorem dX6_objectAt_10 : decode cX6_objectAt 10 = .ok (.iload_n 1, 1) := by decide +kernel
theorem dX6_objectAt_11 : decode cX6_objectAt 11 = .ok (.invokevirtual 64, 3) := by decide +kernel
theorem dX6_objectAt_14 : decode cX6_objectAt 14 = .ok (.ifCond .eq 33, 3) := by decide +kernel
theorem dX6_objectAt_17 : decode cX6_objectAt 17 = .ok (.iload_n 2, 1) := by decide +kernel
theorem dX6_objectAt_18 : decode cX6_objectAt 18 = .ok (.aload_n 0, 1) := by decide +kernel
theorem dX6_objectAt_19 : decode cX6_objectAt 19 = .ok (.iload_n 3, 1) := by decide +kernel
theorem dX6_objectAt_20 : decode cX6_objectAt 20 = .ok (.iconst 2, 1) := by decide +kernel
theorem dX6_objectAt_21 : decode cX6_objectAt 21 = .ok (.invokevirtual 43, 3) := by decide +kernel
theorem dX6_objectAt_24 : decode cX6_objectAt 24 = .ok (.aload_n 0, 1) := by decide +kernel
theorem dX6_objectAt_25 : decode cX6_objectAt 25 = .ok (.iload_n 3, 1) := by decide +kernel
theorem dX6_objectAt_26 : decode cX6_objectAt 26 = .ok (.iconst 2, 1) := by decide +kernel
theorem dX6_objectAt_27 : decode cX6_objectAt 27 = .ok (.invokevirtual 43, 3) := by decide +kernel
theorem dX6_objectAt_30 : decode cX6_objectAt 30 = .ok (.aload_n 0, 1) := by decide +kernel
theorem dX6_objectAt_31 : decode cX6_objectAt 31 = .ok (.iload_n 3, 1) := by decide +kernel
theorem dX6_objectAt_32 : decode cX6_objectAt 32 = .ok (.iconst 3, 1) := by decide +kernel
theorem dX6_objectAt_33 : decode cX6_objectAt 33 = .ok (.invokevirtual 43, 3) := by decide +kernel
theorem dX6_objectAt_36 : decode cX6_objectAt 36 = .ok (.iadd, 1) := by decide +kernel
theorem dX6_objectAt_37 : decode cX6_objectAt 37 = .ok (.iconst 1, 1) := by decide +kernel
theorem dX6_objectAt_38 : decode cX6_objectAt 38 = .ok (.isub, 1) := by decide +kernel
theorem dX6_objectAt_39 : decode cX6_objectAt 39 = .ok (.invokestatic 39, 3) := by decide +kernel
theorem dX6_objectAt_42 : decode cX6_objectAt 42 = .ok (.ifCond .eq 5, 3) := by decide +kernel
theorem dX6_objectAt_45 : decode cX6_objectAt 45 = .ok (.iload_n 3, 1) := by decide +kernel
theorem dX6_objectAt_46 : decode cX6_objectAt 46 = .ok (.ireturn, 1) := by decide +kernel
theorem dX6_objectAt_47 : decode cX6_objectAt 47 = .ok (.iinc 3 1, 3) := by decide +kernel
theorem dX6_objectAt_50 : decode cX6_objectAt 50 = .ok (.goto (-48), 3) := by decide +kernel
theorem dX6_objectAt_53 : decode cX6_objectAt 53 = .ok (.iconst (-1), 1) := by decide +kernel
theorem dX6_objectAt_54 : decode cX6_objectAt 54 = .ok (.ireturn, 1) := by decide +kernel
theorem dX6_at_0 : decode cX6_at 0 = .ok (.aload_n 0, 1) := by decide +kernel
theorem dX6_at_1 : decode cX6_at 1 = .ok (.iconst 0, 1) := by decide +kernel
theorem dX6_at_2 : decode cX6_at 2 = .ok (.putfield 35, 3) := by decide +kernel
theorem dX6_at_5 : decode cX6_at 5 = .ok (.iload_n 1, 1) := by decide +kernel
theorem dX6_at_6 : decode cX6_at 6 = .ok (.invokestatic 103, 3) := by decide +kernel
theorem dX6_at_9 : decode cX6_at 9 = .ok (.ifCond .eq 22, 3) := by decide +kernel
theorem dX6_at_12 : decode cX6_at 12 = .ok (.iload_n 2, 1) := by decide +kernel
theorem dX6_at_13 : decode cX6_at 13 = .ok (.iconst 0, 1) := by decide +kernel
theorem dX6_at_14 : decode cX6_at 14 = .ok (.bipush 63, 2) := by decide +kernel
theorem dX6_at_16 : decode cX6_at 16 = .ok (.invokestatic 39, 3) := by decide +kernel
theorem dX6_at_19 : decode cX6_at 19 = .ok (.ifCond .eq 12, 3) := by decide +kernel
theorem dX6_at_22 : decode cX6_at 22 = .ok (.aload_n 0, 1) := by decide +kernel
theorem dX6_at_23 : decode cX6_at 23 = .ok (.iload_n 1, 1) := by decide +kernel
theorem dX6_at_24 : decode cX6_at 24 = .ok (.iload_n 2, 1) := by decide +kernel
theorem dX6_at_25 : decode cX6_at 25 = .ok (.invokevirtual 187, 3) := by decide +kernel
theorem dX6_at_28 : decode cX6_at 28 = .ok (.goto 8, 3) := by decide +kernel
theorem dX6_at_31 : decode cX6_at 31 = .ok (.aload_n 0, 1) := by decide +kernel
theorem dX6_at_32 : decode cX6_at 32 = .ok (.iconst 1, 1) := by decide +kernel
theorem dX6_at_33 : decode cX6_at 33 = .ok (.invokevirtual 50, 3) := by decide +kernel
theorem dX6_at_36 : decode cX6_at 36 = .ok (.ireturn, 1) := by decide +kernel
theorem dX6_references_0 : decode cX6_references 0 = .ok (.iconst 0, 1) := by decide +kernel
theorem dX6_references_1 : decode cX6_references 1 = .ok (.istore_n 2, 1) := by decide +kernel
theorem dX6_references_2 : decode cX6_references 2 = .ok (.iconst 0, 1) := by decide +kernel
theorem dX6_references_3 : decode cX6_references 3 = .ok (.istore_n 3, 1) := by decide +kernel
theorem dX6_references_4 : decode cX6_references 4 = .ok (.iload_n 3, 1) := by decide +kernel
theorem dX6_references_5 : decode cX6_references 5 = .ok (.bipush 24, 2) := by decide +kernel
theorem dX6_references_7 : decode cX6_references 7 = .ok (.if_icmp .ge 91, 3) := by decide +kernel
theorem dX6_references_10 : decode cX6_references 10 = .ok (.iconst 4, 1) := by decide +kernel
theorem dX6_references_11 : decode cX6_references 11 = .ok (.istore 4, 2) := by decide +kernel
theorem dX6_references_13 : decode cX6_references 13 = .ok (.iload 4, 2) := by decide +kernel
theorem dX6_references_15 : decode cX6_references 15 = .ok (.bipush 6, 2) := by decide +kernel
theorem dX6_references_17 : decode cX6_references 17 = .ok (.if_icmp .ge 75, 3) := by decide +kernel
theorem dX6_references_20 : decode cX6_references 20 = .ok (.aload_n 0, 1) := by decide +kernel
theorem dX6_references_21 : decode cX6_references 21 = .ok (.iload_n 3, 1) := by decide +kernel
theorem dX6_references_22 : decode cX6_references 22 = .ok (.iconst 0, 1) := by decide +kernel
theorem dX6_references_23 : decode cX6_references 23 = .ok (.invokevirtual 43, 3) := by decide +kernel
theorem dX6_references_26 : decode cX6_references 26 = .ok (.iconst 1, 1) := by decide +kernel
theorem dX6_references_27 : decode cX6_references 27 = .ok (.if_icmp .ne 18, 3) := by decide +kernel
theorem dX6_references_30 : decode cX6_references 30 = .ok (.aload_n 0, 1) := by decide +kernel
theorem dX6_references_31 : decode cX6_references 31 = .ok (.iload_n 3, 1) := by decide +kernel
theorem dX6_references_32 : decode cX6_references 32 = .ok (.iload 4, 2) := by decide +kernel
theorem dX6_references_34 : decode cX6_references 34 = .ok (.invokevirtual 43, 3) := by decide +kernel
theorem dX6_references_37 : decode cX6_references 37 = .ok (.iconst (-1), 1) := by decide +kernel
theorem dX6_references_38 : decode cX6_references 38 = .ok (.if_icmp .eq 7, 3) := by decide +kernel
theorem dX6_references_41 : decode cX6_references 41 = .ok (.iconst 1, 1) := by decide +kernel
theorem dX6_references_42 : decode cX6_references 42 = .ok (.goto 4, 3) := by decide +kernel
theorem dX6_references_45 : decode cX6_references 45 = .ok (.iconst 0, 1) := by decide +kernel
theorem dX6_references_46 : decode cX6_references 46 = .ok (.istore 5, 2) := by decide +kernel
theorem dX6_references_48 : decode cX6_references 48 = .ok (.iload_n 2, 1) := by decide +kernel
theorem dX6_references_49 : decode cX6_references 49 = .ok (.iload 5, 2) := by decide +kernel
theorem dX6_references_51 : decode cX6_references 51 = .ok (.ifCond .eq 32, 3) := by decide +kernel
theorem dX6_references_54 : decode cX6_references 54 = .ok (.iload_n 1, 1) := by decide +kernel
theorem dX6_references_55 : decode cX6_references 55 = .ok (.ifCond .eq 24, 3) := by decide +kernel
theorem dX6_references_58 : decode cX6_references 58 = .ok (.aload_n 0, 1) := by decide +kernel
theorem dX6_references_59 : decode cX6_references 59 = .ok (.aload_n 0, 1) := by decide +kernel
theorem dX6_references_60 : decode cX6_references 60 = .ok (.iload_n 3, 1) := by decide +kernel
theorem dX6_references_61 : decode cX6_references 61 = .ok (.iload 4, 2) := by decide +kernel
theorem dX6_references_63 : decode cX6_references 63 = .ok (.invokevirtual 43, 3) := by decide +kernel
theorem dX6_references_66 : decode cX6_references 66 = .ok (.iconst 1, 1) := by decide +kernel
theorem dX6_references_67 : decode cX6_references 67 = .ok (.invokevirtual 43, 3) := by decide +kernel
theorem dX6_references_70 : decode cX6_references 70 = .ok (.aload_n 0, 1) := by decide +kernel
theorem dX6_references_71 : decode cX6_references 71 = .ok (.iload_n 3, 1) := by decide +kernel
theorem dX6_references_72 : decode cX6_references 72 = .ok (.iconst 1, 1) := by decide +kernel
theorem dX6_references_73 : decode cX6_references 73 = .ok (.invokevirtual 43, 3) := by decide +kernel
theorem dX6_references_76 : decode cX6_references 76 = .ok (.if_icmp .eq 7, 3) := by decide +kernel
theorem dX6_references_79 : decode cX6_references 79 = .ok (.iconst 1, 1) := by decide +kernel
theorem dX6_references_80 : decode cX6_references 80 = .ok (.goto 4, 3) := by decide +kernel
theorem dX6_references_83 : decode cX6_references 83 = .ok (.iconst 0, 1) := by decide +kernel
theorem dX6_references_84 : decode cX6_references 84 = .ok (.iadd, 1) := by decide +kernel
theorem dX6_references_85 : decode cX6_references 85 = .ok (.istore_n 2, 1) := by decide +kernel
theorem dX6_references_86 : decode cX6_references 86 = .ok (.iinc 4 1, 3) := by decide +kernel
theorem dX6_references_89 : decode cX6_references 89 = .ok (.goto (-76), 3) := by decide +kernel
theorem dX6_references_92 : decode cX6_references 92 = .ok (.iinc 3 1, 3) := by decide +kernel
theorem dX6_references_95 : decode cX6_references 95 = .ok (.goto (-91), 3) := by decide +kernel
theorem dX6_references_98 : decode cX6_references 98 = .ok (.iload_n 2, 1) := by decide +kernel
theorem dX6_references_99 : decode cX6_references 99 = .ok (.ireturn, 1) := by decide +kernel
theorem dX6_those_0 : decode cX6_those 0 = .ok (.iconst 0, 1) := by decide +kernel
theorem dX6_those_1 : decode cX6_those 1 = .ok (.istore_n 2, 1) := by decide +kernel
theorem dX6_those_2 : decode cX6_those 2 = .ok (.iconst 0, 1) := by decide +kernel
theorem dX6_those_3 : decode cX6_those 3 = .ok (.istore_n 3, 1) := by decide +kernel
theorem dX6_those_4 : decode cX6_those 4 = .ok (.iload_n 3, 1) := by decide +kernel
theorem dX6_those_5 : decode cX6_those 5 = .ok (.bipush 24, 2) := by decide +kernel
theorem dX6_those_7 : decode cX6_those 7 = .ok (.if_icmp .ge 41, 3) := by decide +kernel
theorem dX6_those_10 : decode cX6_those 10 = .ok (.iload_n 2, 1) := by decide +kernel
theorem dX6_those_11 : decode cX6_those 11 = .ok (.aload_n 0, 1) := by decide +kernel
theorem dX6_those_12 : decode cX6_those 12 = .ok (.iload_n 3, 1) := by decide +kernel
theorem dX6_those_13 : decode cX6_those 13 = .ok (.iconst 0, 1) := by decide +kernel
theorem dX6_those_14 : decode cX6_those 14 = .ok (.invokevirtual 43, 3) := by decide +kernel
theorem dX6_those_17 : decode cX6_those 17 = .ok (.iconst 1, 1) := by decide +kernel
theorem dX6_those_18 : decode cX6_those 18 = .ok (.if_icmp .ne 21, 3) := by decide +kernel
theorem dX6_those_21 : decode cX6_those 21 = .ok (.iload_n 1, 1) := by decide +kernel
theorem dX6_those_22 : decode cX6_those 22 = .ok (.ifCond .eq 13, 3) := by decide +kernel
theorem dX6_those_25 : decode cX6_those 25 = .ok (.aload_n 0, 1) := by decide +kernel
theorem dX6_those_26 : decode cX6_those 26 = .ok (.iload_n 3, 1) := by decide +kernel
theorem dX6_those_27 : decode cX6_those 27 = .ok (.iload_n 1, 1) := by decide +kernel
theorem dX6_those_28 : decode cX6_those 28 = .ok (.invokevirtual 43, 3) := by decide +kernel
theorem dX6_those_31 : decode cX6_those 31 = .ok (.iconst 1, 1) := by decide +kernel
theorem dX6_those_32 : decode cX6_those 32 = .ok (.if_icmp .ne 7, 3) := by decide +kernel
theorem dX6_those_35 : decode cX6_those 35 = .ok (.iconst 1, 1) := by decide +kernel
theorem dX6_those_36 : decode cX6_those 36 = .ok (.goto 4, 3) := by decide +kernel
theorem dX6_those_39 : decode cX6_those 39 = .ok (.iconst 0, 1) := by decide +kernel
theorem dX6_those_40 : decode cX6_those 40 = .ok (.iadd, 1) := by decide +kernel
theorem dX6_those_41 : decode cX6_those 41 = .ok (.istore_n 2, 1) := by decide +kernel
theorem dX6_those_42 : decode cX6_those 42 = .ok (.iinc 3 1, 3) := by decide +kernel
theorem dX6_those_45 : decode cX6_those 45 = .ok (.goto (-41), 3) := by decide +kernel
theorem dX6_those_48 : decode cX6_those 48 = .ok (.iload_n 2, 1) := by decide +kernel
theorem dX6_those_49 : decode cX6_those 49 = .ok (.ireturn, 1) := by decide +kernel
theorem dX6_opened_0 : decode cX6_opened 0 = .ok (.iconst 0, 1) := by decide +kernel
theorem dX6_opened_1 : decode cX6_opened 1 = .ok (.istore_n 1, 1) := by decide +kernel
theorem dX6_opened_2 : decode cX6_opened 2 = .ok (.iconst 0, 1) := by decide +kernel
theorem dX6_opened_3 : decode cX6_opened 3 = .ok (.istore_n 2, 1) := by decide +kernel
theorem dX6_opened_4 : decode cX6_opened 4 = .ok (.iload_n 2, 1) := by decide +kernel
theorem dX6_opened_5 : decode cX6_opened 5 = .ok (.bipush 6, 2) := by decide +kernel
theorem dX6_opened_7 : decode cX6_opened 7 = .ok (.if_icmp .ge 25, 3) := by decide +kernel
theorem dX6_opened_10 : decode cX6_opened 10 = .ok (.iload_n 1, 1) := by decide +kernel
theorem dX6_opened_11 : decode cX6_opened 11 = .ok (.aload_n 0, 1) := by decide +kernel
theorem dX6_opened_12 : decode cX6_opened 12 = .ok (.iload_n 2, 1) := by decide +kernel
theorem dX6_opened_13 : decode cX6_opened 13 = .ok (.invokevirtual 88, 3) := by decide +kernel
theorem dX6_opened_16 : decode cX6_opened 16 = .ok (.ifCond .eq 7, 3) := by decide +kernel
theorem dX6_opened_19 : decode cX6_opened 19 = .ok (.iconst 1, 1) := by decide +kernel
theorem dX6_opened_20 : decode cX6_opened 20 = .ok (.goto 4, 3) := by decide +kernel
theorem dX6_opened_23 : decode cX6_opened 23 = .ok (.iconst 0, 1) := by decide +kernel
theorem dX6_opened_24 : decode cX6_opened 24 = .ok (.iadd, 1) := by decide +kernel
theorem dX6_opened_25 : decode cX6_opened 25 = .ok (.istore_n 1, 1) := by decide +kernel
theorem dX6_opened_26 : decode cX6_opened 26 = .ok (.iinc 2 1, 3) := by decide +kernel
theorem dX6_opened_29 : decode cX6_opened 29 = .ok (.goto (-25), 3) := by decide +kernel
theorem dX6_opened_32 : decode cX6_opened 32 = .ok (.iload_n 1, 1) := by decide +kernel
theorem dX6_opened_33 : decode cX6_opened 33 = .ok (.ireturn, 1) := by decide +kernel
theorem dX6_counted_0 : decode cX6_counted 0 = .ok (.iload_n 1, 1) := by decide +kernel
theorem dX6_counted_1 : decode cX6_counted 1 = .ok (.iconst 1, 1) := by decide +kernel
theorem dX6_counted_2 : decode cX6_counted 2 = .ok (.if_icmp .ne 13, 3) := by decide +kernel
theorem dX6_counted_5 : decode cX6_counted 5 = .ok (.aload_n 0, 1) := by decide +kernel
theorem dX6_counted_6 : decode cX6_counted 6 = .ok (.iconst (-1), 1) := by decide +kernel
theorem dX6_counted_7 : decode cX6_counted 7 = .ok (.invokevirtual 60, 3) := by decide +kernel
theorem dX6_counted_10 : decode cX6_counted 10 = .ok (.aload_n 0, 1) := by decide +kernel
theorem dX6_counted_11 : decode cX6_counted 11 = .ok (.getfield 54, 3) := by decide +kernel
theorem dX6_counted_14 : decode cX6_counted 14 = .ok (.ireturn, 1) := by decide +kernel
theorem dX6_counted_15 : decode cX6_counted 15 = .ok (.iload_n 1, 1) := by decide +kernel
theorem dX6_counted_16 : decode cX6_counted 16 = .ok (.iconst 4, 1) := by decide +kernel
theorem dX6_counted_17 : decode cX6_counted 17 = .ok (.if_icmp .ge 34, 3) := by decide +kernel
theorem dX6_counted_20 : decode cX6_counted 20 = .ok (.iload_n 1, 1) := by decide +kernel
theorem dX6_counted_21 : decode cX6_counted 21 = .ok (.ifCond .ne 11, 3) := by decide +kernel
theorem dX6_counted_24 : decode cX6_counted 24 = .ok (.aload_n 0, 1) := by decide +kernel
theorem dX6_counted_25 : decode cX6_counted 25 = .ok (.iconst 0, 1) := by decide +kernel
theorem dX6_counted_26 : decode cX6_counted 26 = .ok (.invokevirtual 190, 3) := by decide +kernel
theorem dX6_counted_29 : decode cX6_counted 29 = .ok (.goto 21, 3) := by decide +kernel
theorem dX6_counted_32 : decode cX6_counted 32 = .ok (.iload_n 1, 1) := by decide +kernel
theorem dX6_counted_33 : decode cX6_counted 33 = .ok (.iconst 2, 1) := by decide +kernel
theorem dX6_counted_34 : decode cX6_counted 34 = .ok (.if_icmp .ne 10, 3) := by decide +kernel
theorem dX6_counted_37 : decode cX6_counted 37 = .ok (.aload_n 0, 1) := by decide +kernel
theorem dX6_counted_38 : decode cX6_counted 38 = .ok (.invokevirtual 193, 3) := by decide +kernel
theorem dX6_counted_41 : decode cX6_counted 41 = .ok (.goto 9, 3) := by decide +kernel
theorem dX6_counted_44 : decode cX6_counted 44 = .ok (.aload_n 0, 1) := by decide +kernel
theorem dX6_counted_45 : decode cX6_counted 45 = .ok (.bipush 6, 2) := by decide +kernel
theorem dX6_counted_47 : decode cX6_counted 47 = .ok (.invokevirtual 190, 3) := by decide +kernel
theorem dX6_counted_50 : decode cX6_counted 50 = .ok (.ireturn, 1) := by decide +kernel
theorem dX6_counted_51 : decode cX6_counted 51 = .ok (.iload_n 1, 1) := by decide +kernel
theorem dX6_counted_52 : decode cX6_counted 52 = .ok (.bipush 6, 2) := by decide +kernel
theorem dX6_counted_54 : decode cX6_counted 54 = .ok (.if_icmp .ge 20, 3) := by decide +kernel
theorem dX6_counted_57 : decode cX6_counted 57 = .ok (.aload_n 0, 1) := by decide +kernel
theorem dX6_counted_58 : decode cX6_counted 58 = .ok (.iload_n 1, 1) := by decide +kernel
theorem dX6_counted_59 : decode cX6_counted 59 = .ok (.iconst 5, 1) := by decide +kernel
theorem dX6_counted_60 : decode cX6_counted 60 = .ok (.if_icmp .ne 7, 3) := by decide +kernel
theorem dX6_counted_63 : decode cX6_counted 63 = .ok (.iconst 1, 1) := by decide +kernel
theorem dX6_counted_64 : decode cX6_counted 64 = .ok (.goto 4, 3) := by decide +kernel
theorem dX6_counted_67 : decode cX6_counted 67 = .ok (.iconst 0, 1) := by decide +kernel
theorem dX6_counted_68 : decode cX6_counted 68 = .ok (.invokevirtual 196, 3) := by decide +kernel
theorem dX6_counted_71 : decode cX6_counted 71 = .ok (.goto 27, 3) := by decide +kernel
theorem dX6_counted_74 : decode cX6_counted 74 = .ok (.iload_n 1, 1) := by decide +kernel
theorem dX6_counted_75 : decode cX6_counted 75 = .ok (.bipush 10, 2) := by decide +kernel
theorem dX6_counted_77 : decode cX6_counted 77 = .ok (.if_icmp .ge 17, 3) := by decide +kernel
theorem dX6_counted_80 : decode cX6_counted 80 = .ok (.aload_n 0, 1) := by decide +kernel
theorem dX6_counted_81 : decode cX6_counted 81 = .ok (.getfield 7, 3) := by decide +kernel
theorem dX6_counted_84 : decode cX6_counted 84 = .ok (.iconst 2, 1) := by decide +kernel
theorem dX6_counted_85 : decode cX6_counted 85 = .ok (.iload_n 1, 1) := by decide +kernel
theorem dX6_counted_86 : decode cX6_counted 86 = .ok (.iadd, 1) := by decide +kernel
theorem dX6_counted_87 : decode cX6_counted 87 = .ok (.bipush 6, 2) := by decide +kernel
theorem dX6_counted_89 : decode cX6_counted 89 = .ok (.isub, 1) := by decide +kernel
theorem dX6_counted_90 : decode cX6_counted 90 = .ok (.iaload, 1) := by decide +kernel
theorem dX6_counted_91 : decode cX6_counted 91 = .ok (.goto 7, 3) := by decide +kernel
theorem dX6_counted_94 : decode cX6_counted 94 = .ok (.aload_n 0, 1) := by decide +kernel
theorem dX6_counted_95 : decode cX6_counted 95 = .ok (.getfield 47, 3) := by decide +kernel
theorem dX6_counted_98 : decode cX6_counted 98 = .ok (.ireturn, 1) := by decide +kernel
theorem dX6_count_0 : decode cX6_count 0 = .ok (.aload_n 0, 1) := by decide +kernel
theorem dX6_count_1 : decode cX6_count 1 = .ok (.iconst 0, 1) := by decide +kernel
theorem dX6_count_2 : decode cX6_count 2 = .ok (.putfield 35, 3) := by decide +kernel
theorem dX6_count_5 : decode cX6_count 5 = .ok (.iload_n 1, 1) := by decide +kernel
theorem dX6_count_6 : decode cX6_count 6 = .ok (.iconst 0, 1) := by decide +kernel
theorem dX6_count_7 : decode cX6_count 7 = .ok (.bipush 10, 2) := by decide +kernel
theorem dX6_count_9 : decode cX6_count 9 = .ok (.invokestatic 39, 3) := by decide +kernel
theorem dX6_count_12 : decode cX6_count 12 = .ok (.ifCond .eq 11, 3) := by decide +kernel
theorem dX6_count_15 : decode cX6_count 15 = .ok (.aload_n 0, 1) := by decide +kernel
theorem dX6_count_16 : decode cX6_count 16 = .ok (.iload_n 1, 1) := by decide +kernel
theorem dX6_count_17 : decode cX6_count 17 = .ok (.invokevirtual 200, 3) := by decide +kernel
theorem dX6_count_20 : decode cX6_count 20 = .ok (.goto 8, 3) := by decide +kernel
theorem dX6_count_23 : decode cX6_count 23 = .ok (.aload_n 0, 1) := by decide +kernel
theorem dX6_count_24 : decode cX6_count 24 = .ok (.iconst 1, 1) := by decide +kernel
theorem dX6_count_25 : decode cX6_count 25 = .ok (.invokevirtual 50, 3) := by decide +kernel
theorem dX6_count_28 : decode cX6_count 28 = .ok (.ireturn, 1) := by decide +kernel
theorem dX6_setting_0 : decode cX6_setting 0 = .ok (.aload_n 0, 1) := by decide +kernel
theorem dX6_setting_1 : decode cX6_setting 1 = .ok (.iconst 0, 1) := by decide +kernel
theorem dX6_setting_2 : decode cX6_setting 2 = .ok (.putfield 35, 3) := by decide +kernel
theorem dX6_setting_5 : decode cX6_setting 5 = .ok (.iload_n 1, 1) := by decide +kernel
theorem dX6_setting_6 : decode cX6_setting 6 = .ok (.iconst 0, 1) := by decide +kernel
theorem dX6_setting_7 : decode cX6_setting 7 = .ok (.iconst 1, 1) := by decide +kernel
theorem dX6_setting_8 : decode cX6_setting 8 = .ok (.invokestatic 39, 3) := by decide +kernel
theorem dX6_setting_11 : decode cX6_setting 11 = .ok (.ifCond .eq 14, 3) := by decide +kernel
theorem dX6_setting_14 : decode cX6_setting 14 = .ok (.aload_n 0, 1) := by decide +kernel
theorem dX6_setting_15 : decode cX6_setting 15 = .ok (.getfield 7, 3) := by decide +kernel
theorem dX6_setting_18 : decode cX6_setting 18 = .ok (.iconst 0, 1) := by decide +kernel
theorem dX6_setting_19 : decode cX6_setting 19 = .ok (.iload_n 1, 1) := by decide +kernel
theorem dX6_setting_20 : decode cX6_setting 20 = .ok (.iadd, 1) := by decide +kernel
theorem dX6_setting_21 : decode cX6_setting 21 = .ok (.iaload, 1) := by decide +kernel
theorem dX6_setting_22 : decode cX6_setting 22 = .ok (.goto 8, 3) := by decide +kernel
theorem dX6_setting_25 : decode cX6_setting 25 = .ok (.aload_n 0, 1) := by decide +kernel
theorem dX6_setting_26 : decode cX6_setting 26 = .ok (.iconst 1, 1) := by decide +kernel
theorem dX6_setting_27 : decode cX6_setting 27 = .ok (.invokevirtual 50, 3) := by decide +kernel
theorem dX6_setting_30 : decode cX6_setting 30 = .ok (.ireturn, 1) := by decide +kernel
theorem dX6_whyNot_0 : decode cX6_whyNot 0 = .ok (.aload_n 0, 1) := by decide +kernel
theorem dX6_whyNot_1 : decode cX6_whyNot 1 = .ok (.iconst 0, 1) := by decide +kernel
theorem dX6_whyNot_2 : decode cX6_whyNot 2 = .ok (.putfield 35, 3) := by decide +kernel
theorem dX6_whyNot_5 : decode cX6_whyNot 5 = .ok (.iload_n 1, 1) := by decide +kernel
theorem dX6_whyNot_6 : decode cX6_whyNot 6 = .ok (.invokestatic 103, 3) := by decide +kernel
theorem dX6_whyNot_9 : decode cX6_whyNot 9 = .ok (.ifCond .eq 19, 3) := by decide +kernel
theorem dX6_whyNot_12 : decode cX6_whyNot 12 = .ok (.iload_n 2, 1) := by decide +kernel
theorem dX6_whyNot_13 : decode cX6_whyNot 13 = .ok (.invokestatic 103, 3) := by decide +kernel
theorem dX6_whyNot_16 : decode cX6_whyNot 16 = .ok (.ifCond .eq 12, 3) := by decide +kernel
theorem dX6_whyNot_19 : decode cX6_whyNot 19 = .ok (.aload_n 0, 1) := by decide +kernel
theorem dX6_whyNot_20 : decode cX6_whyNot 20 = .ok (.iload_n 1, 1) := by decide +kernel
theorem dX6_whyNot_21 : decode cX6_whyNot 21 = .ok (.iload_n 2, 1) := by decide +kernel
theorem dX6_whyNot_22 : decode cX6_whyNot 22 = .ok (.invokevirtual 125, 3) := by decide +kernel
theorem dX6_whyNot_25 : decode cX6_whyNot 25 = .ok (.goto 8, 3) := by decide +kernel
theorem dX6_whyNot_28 : decode cX6_whyNot 28 = .ok (.aload_n 0, 1) := by decide +kernel
theorem dX6_whyNot_29 : decode cX6_whyNot 29 = .ok (.iconst 1, 1) := by decide +kernel
theorem dX6_whyNot_30 : decode cX6_whyNot 30 = .ok (.invokevirtual 50, 3) := by decide +kernel
theorem dX6_whyNot_33 : decode cX6_whyNot 33 = .ok (.ireturn, 1) := by decide +kernel
theorem dX6_given_0 : decode cX6_given 0 = .ok (.aload_n 0, 1) := by decide +kernel
theorem dX6_given_1 : decode cX6_given 1 = .ok (.aload_n 0, 1) := by decide +kernel
theorem dX6_given_2 : decode cX6_given 2 = .ok (.iload_n 1, 1) := by decide +kernel
theorem dX6_given_3 : decode cX6_given 3 = .ok (.iconst 1, 1) := by decide +kernel
theorem dX6_given_4 : decode cX6_given 4 = .ok (.invokevirtual 43, 3) := by decide +kernel
theorem dX6_given_7 : decode cX6_given 7 = .ok (.iload_n 2, 1) := by decide +kernel
theorem dX6_given_8 : decode cX6_given 8 = .ok (.invokevirtual 125, 3) := by decide +kernel
theorem dX6_given_11 : decode cX6_given 11 = .ok (.ifCond .le 5, 3) := by decide +kernel
theorem dX6_given_14 : decode cX6_given 14 = .ok (.iconst (-1), 1) := by decide +kernel
theorem dX6_given_15 : decode cX6_given 15 = .ok (.ireturn, 1) := by decide +kernel
theorem dX6_given_16 : decode cX6_given 16 = .ok (.aload_n 0, 1) := by decide +kernel
theorem dX6_given_17 : decode cX6_given 17 = .ok (.aload_n 0, 1) := by decide +kernel
theorem dX6_given_18 : decode cX6_given 18 = .ok (.iload_n 1, 1) := by decide +kernel
theorem dX6_given_19 : decode cX6_given 19 = .ok (.iconst 1, 1) := by decide +kernel
theorem dX6_given_20 : decode cX6_given 20 = .ok (.invokevirtual 43, 3) := by decide +kernel
theorem dX6_given_23 : decode cX6_given 23 = .ok (.invokevirtual 128, 3) := by decide +kernel
theorem dX6_given_26 : decode cX6_given 26 = .ok (.aload_n 0, 1) := by decide +kernel
theorem dX6_given_27 : decode cX6_given 27 = .ok (.iload_n 2, 1) := by decide +kernel
theorem dX6_given_28 : decode cX6_given 28 = .ok (.invokevirtual 94, 3) := by decide +kernel
theorem dX6_given_31 : decode cX6_given 31 = .ok (.istore_n 3, 1) := by decide +kernel
theorem dX6_given_32 : decode cX6_given 32 = .ok (.iconst 0, 1) := by decide +kernel
theorem dX6_given_33 : decode cX6_given 33 = .ok (.istore 4, 2) := by decide +kernel
theorem dX6_given_35 : decode cX6_given 35 = .ok (.iload 4, 2) := by decide +kernel
theorem dX6_given_37 : decode cX6_given 37 = .ok (.aload_n 0, 1) := by decide +kernel
theorem dX6_given_38 : decode cX6_given 38 = .ok (.getfield 78, 3) := by decide +kernel
theorem dX6_given_41 : decode cX6_given 41 = .ok (.if_icmp .ge 37, 3) := by decide +kernel
theorem dX6_given_44 : decode cX6_given 44 = .ok (.aload_n 0, 1) := by decide +kernel
theorem dX6_given_45 : decode cX6_given 45 = .ok (.getfield 32, 3) := by decide +kernel
theorem dX6_given_48 : decode cX6_given 48 = .ok (.iload 4, 2) := by decide +kernel
theorem dX6_given_50 : decode cX6_given 50 = .ok (.iaload, 1) := by decide +kernel
theorem dX6_given_51 : decode cX6_given 51 = .ok (.iload_n 1, 1) := by decide +kernel
theorem dX6_given_52 : decode cX6_given 52 = .ok (.if_icmp .ne 5, 3) := by decide +kernel
theorem dX6_given_55 : decode cX6_given 55 = .ok (.iload_n 3, 1) := by decide +kernel
theorem dX6_given_56 : decode cX6_given 56 = .ok (.ireturn, 1) := by decide +kernel
theorem dX6_given_57 : decode cX6_given 57 = .ok (.iload_n 3, 1) := by decide +kernel
theorem dX6_given_58 : decode cX6_given 58 = .ok (.aload_n 0, 1) := by decide +kernel
theorem dX6_given_59 : decode cX6_given 59 = .ok (.aload_n 0, 1) := by decide +kernel
theorem dX6_given_60 : decode cX6_given 60 = .ok (.getfield 32, 3) := by decide +kernel
theorem dX6_given_63 : decode cX6_given 63 = .ok (.iload 4, 2) := by decide +kernel
theorem dX6_given_65 : decode cX6_given 65 = .ok (.iaload, 1) := by decide +kernel
theorem dX6_given_66 : decode cX6_given 66 = .ok (.iconst 3, 1) := by decide +kernel
theorem dX6_given_67 : decode cX6_given 67 = .ok (.invokevirtual 43, 3) := by decide +kernel
theorem dX6_given_70 : decode cX6_given 70 = .ok (.iadd, 1) := by decide +kernel
theorem dX6_given_71 : decode cX6_given 71 = .ok (.istore_n 3, 1) := by decide +kernel
theorem dX6_given_72 : decode cX6_given 72 = .ok (.iinc 4 1, 3) := by decide +kernel
theorem dX6_given_75 : decode cX6_given 75 = .ok (.goto (-40), 3) := by decide +kernel
theorem dX6_given_78 : decode cX6_given 78 = .ok (.iconst (-1), 1) := by decide +kernel
theorem dX6_given_79 : decode cX6_given 79 = .ok (.ireturn, 1) := by decide +kernel
theorem dX6_ifGiven_0 : decode cX6_ifGiven 0 = .ok (.aload_n 0, 1) := by decide +kernel
theorem dX6_ifGiven_1 : decode cX6_ifGiven 1 = .ok (.iconst 0, 1) := by decide +kernel
theorem dX6_ifGiven_2 : decode cX6_ifGiven 2 = .ok (.putfield 35, 3) := by decide +kernel
theorem dX6_ifGiven_5 : decode cX6_ifGiven 5 = .ok (.aload_n 0, 1) := by decide +kernel
theorem dX6_ifGiven_6 : decode cX6_ifGiven 6 = .ok (.iload_n 1, 1) := by decide +kernel
theorem dX6_ifGiven_7 : decode cX6_ifGiven 7 = .ok (.invokevirtual 112, 3) := by decide +kernel
theorem dX6_ifGiven_10 : decode cX6_ifGiven 10 = .ok (.ifCond .eq 19, 3) := by decide +kernel
theorem dX6_ifGiven_13 : decode cX6_ifGiven 13 = .ok (.iload_n 2, 1) := by decide +kernel
theorem dX6_ifGiven_14 : decode cX6_ifGiven 14 = .ok (.invokestatic 103, 3) := by decide +kernel
theorem dX6_ifGiven_17 : decode cX6_ifGiven 17 = .ok (.ifCond .eq 12, 3) := by decide +kernel
theorem dX6_ifGiven_20 : decode cX6_ifGiven 20 = .ok (.aload_n 0, 1) := by decide +kernel
theorem dX6_ifGiven_21 : decode cX6_ifGiven 21 = .ok (.iload_n 1, 1) := by decide +kernel
theorem dX6_ifGiven_22 : decode cX6_ifGiven 22 = .ok (.iload_n 2, 1) := by decide +kernel
theorem dX6_ifGiven_23 : decode cX6_ifGiven 23 = .ok (.invokevirtual 203, 3) := by decide +kernel
theorem dX6_ifGiven_26 : decode cX6_ifGiven 26 = .ok (.goto 8, 3) := by decide +kernel
theorem dX6_ifGiven_29 : decode cX6_ifGiven 29 = .ok (.aload_n 0, 1) := by decide +kernel
theorem dX6_ifGiven_30 : decode cX6_ifGiven 30 = .ok (.iconst 1, 1) := by decide +kernel
theorem dX6_ifGiven_31 : decode cX6_ifGiven 31 = .ok (.invokevirtual 50, 3) := by decide +kernel
theorem dX6_ifGiven_34 : decode cX6_ifGiven 34 = .ok (.ireturn, 1) := by decide +kernel
theorem dX6_lost_0 : decode cX6_lost 0 = .ok (.aload_n 0, 1) := by decide +kernel
theorem dX6_lost_1 : decode cX6_lost 1 = .ok (.iconst (-1), 1) := by decide +kernel
theorem dX6_lost_2 : decode cX6_lost 2 = .ok (.invokevirtual 60, 3) := by decide +kernel
theorem dX6_lost_5 : decode cX6_lost 5 = .ok (.aload_n 0, 1) := by decide +kernel
theorem dX6_lost_6 : decode cX6_lost 6 = .ok (.getfield 54, 3) := by decide +kernel
theorem dX6_lost_9 : decode cX6_lost 9 = .ok (.istore_n 2, 1) := by decide +kernel
theorem dX6_lost_10 : decode cX6_lost 10 = .ok (.aload_n 0, 1) := by decide +kernel
theorem dX6_lost_11 : decode cX6_lost 11 = .ok (.iload_n 1, 1) := by decide +kernel
theorem dX6_lost_12 : decode cX6_lost 12 = .ok (.invokevirtual 60, 3) := by decide +kernel
theorem dX6_lost_15 : decode cX6_lost 15 = .ok (.iload_n 2, 1) := by decide +kernel
theorem dX6_lost_16 : decode cX6_lost 16 = .ok (.aload_n 0, 1) := by decide +kernel
theorem dX6_lost_17 : decode cX6_lost 17 = .ok (.getfield 54, 3) := by decide +kernel
theorem dX6_lost_20 : decode cX6_lost 20 = .ok (.isub, 1) := by decide +kernel
theorem dX6_lost_21 : decode cX6_lost 21 = .ok (.ireturn, 1) := by decide +kernel
theorem dX6_ifLost_0 : decode cX6_ifLost 0 = .ok (.aload_n 0, 1) := by decide +kernel
theorem dX6_ifLost_1 : decode cX6_ifLost 1 = .ok (.iconst 0, 1) := by decide +kernel
theorem dX6_ifLost_2 : decode cX6_ifLost 2 = .ok (.putfield 35, 3) := by decide +kernel
theorem dX6_ifLost_5 : decode cX6_ifLost 5 = .ok (.aload_n 0, 1) := by decide +kernel
theorem dX6_ifLost_6 : decode cX6_ifLost 6 = .ok (.iload_n 1, 1) := by decide +kernel
theorem dX6_ifLost_7 : decode cX6_ifLost 7 = .ok (.invokevirtual 112, 3) := by decide +kernel
theorem dX6_ifLost_10 : decode cX6_ifLost 10 = .ok (.ifCond .eq 11, 3) := by decide +kernel
theorem dX6_ifLost_13 : decode cX6_ifLost 13 = .ok (.aload_n 0, 1) := by decide +kernel
theorem dX6_ifLost_14 : decode cX6_ifLost 14 = .ok (.iload_n 1, 1) := by decide +kernel
theorem dX6_ifLost_15 : decode cX6_ifLost 15 = .ok (.invokevirtual 206, 3) := by decide +kernel
theorem dX6_ifLost_18 : decode cX6_ifLost 18 = .ok (.goto 8, 3) := by decide +kernel
theorem dX6_ifLost_21 : decode cX6_ifLost 21 = .ok (.aload_n 0, 1) := by decide +kernel
theorem dX6_ifLost_22 : decode cX6_ifLost 22 = .ok (.iconst 1, 1) := by decide +kernel
theorem dX6_ifLost_23 : decode cX6_ifLost 23 = .ok (.invokevirtual 50, 3) := by decide +kernel
theorem dX6_ifLost_26 : decode cX6_ifLost 26 = .ok (.ireturn, 1) := by decide +kernel
theorem dX6_canGo_0 : decode cX6_canGo 0 = .ok (.iconst 0, 1) := by decide +kernel
theorem dX6_canGo_1 : decode cX6_canGo 1 = .ok (.istore_n 2, 1) := by decide +kernel
theorem dX6_canGo_2 : decode cX6_canGo 2 = .ok (.iload_n 2, 1) := by decide +kernel
theorem dX6_canGo_3 : decode cX6_canGo 3 = .ok (.bipush 6, 2) := by decide +kernel
theorem dX6_canGo_5 : decode cX6_canGo 5 = .ok (.if_icmp .ge 20, 3) := by decide +kernel
theorem dX6_canGo_8 : decode cX6_canGo 8 = .ok (.aload_n 0, 1) := by decide +kernel
theorem dX6_canGo_9 : decode cX6_canGo 9 = .ok (.iload_n 1, 1) := by decide +kernel
theorem dX6_canGo_10 : decode cX6_canGo 10 = .ok (.iload_n 2, 1) := by decide +kernel
theorem dX6_canGo_11 : decode cX6_canGo 11 = .ok (.invokevirtual 125, 3) := by decide +kernel
theorem dX6_canGo_14 : decode cX6_canGo 14 = .ok (.ifCond .ne 5, 3) := by decide +kernel
theorem dX6_canGo_17 : decode cX6_canGo 17 = .ok (.iconst 1, 1) := by decide +kernel
theorem dX6_canGo_18 : decode cX6_canGo 18 = .ok (.ireturn, 1) := by decide +kernel
theorem dX6_canGo_19 : decode cX6_canGo 19 = .ok (.iinc 2 1, 3) := by decide +kernel
theorem dX6_canGo_22 : decode cX6_canGo 22 = .ok (.goto (-20), 3) := by decide +kernel
theorem dX6_canGo_25 : decode cX6_canGo 25 = .ok (.iconst 0, 1) := by decide +kernel
theorem dX6_canGo_26 : decode cX6_canGo 26 = .ok (.ireturn, 1) := by decide +kernel
theorem dX6_bestArena_0 : decode cX6_bestArena 0 = .ok (.iconst (-1), 1) := by decide +kernel
theorem dX6_bestArena_1 : decode cX6_bestArena 1 = .ok (.istore_n 1, 1) := by decide +kernel
theorem dX6_bestArena_2 : decode cX6_bestArena 2 = .ok (.iconst 0, 1) := by decide +kernel
theorem dX6_bestArena_3 : decode cX6_bestArena 3 = .ok (.istore_n 2, 1) := by decide +kernel
theorem dX6_bestArena_4 : decode cX6_bestArena 4 = .ok (.iconst 0, 1) := by decide +kernel
theorem dX6_bestArena_5 : decode cX6_bestArena 5 = .ok (.istore_n 3, 1) := by decide +kernel
theorem dX6_bestArena_6 : decode cX6_bestArena 6 = .ok (.iload_n 3, 1) := by decide +kernel
theorem dX6_bestArena_7 : decode cX6_bestArena 7 = .ok (.bipush 6, 2) := by decide +kernel
theorem dX6_bestArena_9 : decode cX6_bestArena 9 = .ok (.if_icmp .ge 59, 3) := by decide +kernel
theorem dX6_bestArena_12 : decode cX6_bestArena 12 = .ok (.aload_n 0, 1) := by decide +kernel
theorem dX6_bestArena_13 : decode cX6_bestArena 13 = .ok (.iload_n 3, 1) := by decide +kernel
theorem dX6_bestArena_14 : decode cX6_bestArena 14 = .ok (.invokevirtual 209, 3) := by decide +kernel
theorem dX6_bestArena_17 : decode cX6_bestArena 17 = .ok (.ifCond .eq 45, 3) := by decide +kernel
theorem dX6_bestArena_20 : decode cX6_bestArena 20 = .ok (.aload_n 0, 1) := by decide +kernel
theorem dX6_bestArena_21 : decode cX6_bestArena 21 = .ok (.iload_n 3, 1) := by decide +kernel
theorem dX6_bestArena_22 : decode cX6_bestArena 22 = .ok (.invokevirtual 94, 3) := by decide +kernel
theorem dX6_bestArena_25 : decode cX6_bestArena 25 = .ok (.aload_n 0, 1) := by decide +kernel
theorem dX6_bestArena_26 : decode cX6_bestArena 26 = .ok (.iload_n 3, 1) := by decide +kernel
theorem dX6_bestArena_27 : decode cX6_bestArena 27 = .ok (.invokevirtual 134, 3) := by decide +kernel
theorem dX6_bestArena_30 : decode cX6_bestArena 30 = .ok (.isub, 1) := by decide +kernel
theorem dX6_bestArena_31 : decode cX6_bestArena 31 = .ok (.istore 4, 2) := by decide +kernel
theorem dX6_bestArena_33 : decode cX6_bestArena 33 = .ok (.iload_n 1, 1) := by decide +kernel
theorem dX6_bestArena_34 : decode cX6_bestArena 34 = .ok (.iconst (-1), 1) := by decide +kernel
theorem dX6_bestArena_35 : decode cX6_bestArena 35 = .ok (.if_icmp .eq 9, 3) := by decide +kernel
theorem dX6_bestArena_38 : decode cX6_bestArena 38 = .ok (.iload 4, 2) := by decide +kernel
theorem dX6_bestArena_40 : decode cX6_bestArena 40 = .ok (.iload_n 2, 1) := by decide +kernel
theorem dX6_bestArena_41 : decode cX6_bestArena 41 = .ok (.if_icmp .le 7, 3) := by decide +kernel
theorem dX6_bestArena_44 : decode cX6_bestArena 44 = .ok (.iload_n 3, 1) := by decide +kernel
theorem dX6_bestArena_45 : decode cX6_bestArena 45 = .ok (.goto 4, 3) := by decide +kernel
theorem dX6_bestArena_48 : decode cX6_bestArena 48 = .ok (.iload_n 1, 1) := by decide +kernel
theorem dX6_bestArena_49 : decode cX6_bestArena 49 = .ok (.istore_n 1, 1) := by decide +kernel
theorem dX6_bestArena_50 : decode cX6_bestArena 50 = .ok (.iload_n 1, 1) := by decide +kernel
theorem dX6_bestArena_51 : decode cX6_bestArena 51 = .ok (.iload_n 3, 1) := by decide +kernel
theorem dX6_bestArena_52 : decode cX6_bestArena 52 = .ok (.if_icmp .ne 8, 3) := by decide +kernel
theorem dX6_bestArena_55 : decode cX6_bestArena 55 = .ok (.iload 4, 2) := by decide +kernel
theorem dX6_bestArena_57 : decode cX6_bestArena 57 = .ok (.goto 4, 3) := by decide +kernel
theorem dX6_bestArena_60 : decode cX6_bestArena 60 = .ok (.iload_n 2, 1) := by decide +kernel
theorem dX6_bestArena_61 : decode cX6_bestArena 61 = .ok (.istore_n 2, 1) := by decide +kernel
theorem dX6_bestArena_62 : decode cX6_bestArena 62 = .ok (.iinc 3 1, 3) := by decide +kernel
theorem dX6_bestArena_65 : decode cX6_bestArena 65 = .ok (.goto (-59), 3) := by decide +kernel
theorem dX6_bestArena_68 : decode cX6_bestArena 68 = .ok (.iload_n 1, 1) := by decide +kernel
theorem dX6_bestArena_69 : decode cX6_bestArena 69 = .ok (.ireturn, 1) := by decide +kernel
theorem dX6_best_0 : decode cX6_best 0 = .ok (.aload_n 0, 1) := by decide +kernel
theorem dX6_best_1 : decode cX6_best 1 = .ok (.iconst 0, 1) := by decide +kernel
theorem dX6_best_2 : decode cX6_best 2 = .ok (.putfield 35, 3) := by decide +kernel
theorem dX6_best_5 : decode cX6_best 5 = .ok (.aload_n 0, 1) := by decide +kernel
theorem dX6_best_6 : decode cX6_best 6 = .ok (.invokevirtual 212, 3) := by decide +kernel
theorem dX6_best_9 : decode cX6_best 9 = .ok (.ireturn, 1) := by decide +kernel
theorem dX6_share_0 : decode cX6_share 0 = .ok (.aload_n 0, 1) := by decide +kernel
theorem dX6_share_1 : decode cX6_share 1 = .ok (.iconst (-1), 1) := by decide +kernel
theorem dX6_share_2 : decode cX6_share 2 = .ok (.invokevirtual 60, 3) := by decide +kernel
theorem dX6_share_5 : decode cX6_share 5 = .ok (.iconst 0, 1) := by decide +kernel
theorem dX6_share_6 : decode cX6_share 6 = .ok (.istore_n 1, 1) := by decide +kernel
theorem dX6_share_7 : decode cX6_share 7 = .ok (.iconst 0, 1) := by decide +kernel
theorem dX6_share_8 : decode cX6_share 8 = .ok (.istore_n 2, 1) := by decide +kernel
theorem dX6_share_9 : decode cX6_share 9 = .ok (.iconst 0, 1) := by decide +kernel
theorem dX6_share_10 : decode cX6_share 10 = .ok (.istore_n 3, 1) := by decide +kernel
theorem dX6_share_11 : decode cX6_share 11 = .ok (.iload_n 3, 1) := by decide +kernel
theorem dX6_share_12 : decode cX6_share 12 = .ok (.aload_n 0, 1) := by decide +kernel
theorem dX6_share_13 : decode cX6_share 13 = .ok (.getfield 54, 3) := by decide +kernel
theorem dX6_share_16 : decode cX6_share 16 = .ok (.if_icmp .ge 23, 3) := by decide +kernel
theorem dX6_share_19 : decode cX6_share 19 = .ok (.iload_n 1, 1) := by decide +kernel
theorem dX6_share_20 : decode cX6_share 20 = .ok (.aload_n 0, 1) := by decide +kernel
theorem dX6_share_21 : decode cX6_share 21 = .ok (.aload_n 0, 1) := by decide +kernel
theorem dX6_share_22 : decode cX6_share 22 = .ok (.getfield 25, 3) := by decide +kernel
theorem dX6_share_25 : decode cX6_share 25 = .ok (.iload_n 3, 1) := by decide +kernel
theorem dX6_share_26 : decode cX6_share 26 = .ok (.iaload, 1) := by decide +kernel
theorem dX6_share_27 : decode cX6_share 27 = .ok (.iconst 3, 1) := by decide +kernel
theorem dX6_share_28 : decode cX6_share 28 = .ok (.invokevirtual 43, 3) := by decide +kernel
theorem dX6_share_31 : decode cX6_share 31 = .ok (.iadd, 1) := by decide +kernel
theorem dX6_share_32 : decode cX6_share 32 = .ok (.istore_n 1, 1) := by decide +kernel
theorem dX6_share_33 : decode cX6_share 33 = .ok (.iinc 3 1, 3) := by decide +kernel
theorem dX6_share_36 : decode cX6_share 36 = .ok (.goto (-25), 3) := by decide +kernel
theorem dX6_share_39 : decode cX6_share 39 = .ok (.iconst 0, 1) := by decide +kernel
theorem dX6_share_40 : decode cX6_share 40 = .ok (.istore_n 3, 1) := by decide +kernel
theorem dX6_share_41 : decode cX6_share 41 = .ok (.iload_n 3, 1) := by decide +kernel
theorem dX6_share_42 : decode cX6_share 42 = .ok (.bipush 6, 2) := by decide +kernel
theorem dX6_share_44 : decode cX6_share 44 = .ok (.if_icmp .ge 17, 3) := by decide +kernel
theorem dX6_share_47 : decode cX6_share 47 = .ok (.iload_n 2, 1) := by decide +kernel
theorem dX6_share_48 : decode cX6_share 48 = .ok (.aload_n 0, 1) := by decide +kernel
theorem dX6_share_49 : decode cX6_share 49 = .ok (.iload_n 3, 1) := by decide +kernel
theorem dX6_share_50 : decode cX6_share 50 = .ok (.invokevirtual 94, 3) := by decide +kernel
theorem dX6_share_53 : decode cX6_share 53 = .ok (.iadd, 1) := by decide +kernel
theorem dX6_share_54 : decode cX6_share 54 = .ok (.istore_n 2, 1) := by decide +kernel
theorem dX6_share_55 : decode cX6_share 55 = .ok (.iinc 3 1, 3) := by decide +kernel
theorem dX6_share_58 : decode cX6_share 58 = .ok (.goto (-17), 3) := by decide +kernel
theorem dX6_share_61 : decode cX6_share 61 = .ok (.iload_n 2, 1) := by decide +kernel
theorem dX6_share_62 : decode cX6_share 62 = .ok (.ifCond .ne 7, 3) := by decide +kernel
theorem dX6_share_65 : decode cX6_share 65 = .ok (.dconst 1, 1) := by decide +kernel
theorem dX6_share_66 : decode cX6_share 66 = .ok (.goto 8, 3) := by decide +kernel
theorem dX6_share_69 : decode cX6_share 69 = .ok (.iload_n 1, 1) := by decide +kernel
theorem dX6_share_70 : decode cX6_share 70 = .ok (.i2d, 1) := by decide +kernel
theorem dX6_share_71 : decode cX6_share 71 = .ok (.iload_n 2, 1) := by decide +kernel
theorem dX6_share_72 : decode cX6_share 72 = .ok (.i2d, 1) := by decide +kernel
theorem dX6_share_73 : decode cX6_share 73 = .ok (.ddiv, 1) := by decide +kernel
theorem dX6_share_74 : decode cX6_share 74 = .ok (.dreturn, 1) := by decide +kernel
theorem dX6_livingShare_0 : decode cX6_livingShare 0 = .ok (.aload_n 0, 1) := by decide +kernel
theorem dX6_livingShare_1 : decode cX6_livingShare 1 = .ok (.iconst 0, 1) := by decide +kernel
theorem dX6_livingShare_2 : decode cX6_livingShare 2 = .ok (.putfield 35, 3) := by decide +kernel
theorem dX6_livingShare_5 : decode cX6_livingShare 5 = .ok (.aload_n 0, 1) := by decide +kernel
theorem dX6_livingShare_6 : decode cX6_livingShare 6 = .ok (.invokevirtual 215, 3) := by decide +kernel
theorem dX6_livingShare_9 : decode cX6_livingShare 9 = .ok (.dreturn, 1) := by decide +kernel
theorem dX6_digest_0 : decode cX6_digest 0 = .ok (.aload_n 0, 1) := by decide +kernel
theorem dX6_digest_1 : decode cX6_digest 1 = .ok (.iconst 0, 1) := by decide +kernel
theorem dX6_digest_2 : decode cX6_digest 2 = .ok (.putfield 35, 3) := by decide +kernel
theorem dX6_digest_5 : decode cX6_digest 5 = .ok (.ldc2_w 219, 3) := by decide +kernel
theorem dX6_digest_8 : decode cX6_digest 8 = .ok (.lstore_n 1, 1) := by decide +kernel
theorem dX6_digest_9 : decode cX6_digest 9 = .ok (.iconst 0, 1) := by decide +kernel
theorem dX6_digest_10 : decode cX6_digest 10 = .ok (.istore_n 3, 1) := by decide +kernel
theorem dX6_digest_11 : decode cX6_digest 11 = .ok (.iload_n 3, 1) := by decide +kernel
theorem dX6_digest_12 : decode cX6_digest 12 = .ok (.bipush 11, 2) := by decide +kernel
theorem dX6_digest_14 : decode cX6_digest 14 = .ok (.if_icmp .ge 22, 3) := by decide +kernel
theorem dX6_digest_17 : decode cX6_digest 17 = .ok (.ldc2_w 221, 3) := by decide +kernel
theorem dX6_digest_20 : decode cX6_digest 20 = .ok (.lload_n 1, 1) := by decide +kernel
theorem dX6_digest_21 : decode cX6_digest 21 = .ok (.lmul, 1) := by decide +kernel
theorem dX6_digest_22 : decode cX6_digest 22 = .ok (.aload_n 0, 1) := by decide +kernel
theorem dX6_digest_23 : decode cX6_digest 23 = .ok (.iload_n 3, 1) := by decide +kernel
theorem dX6_digest_24 : decode cX6_digest 24 = .ok (.invokevirtual 200, 3) := by decide +kernel
theorem dX6_digest_27 : decode cX6_digest 27 = .ok (.i2l, 1) := by decide +kernel
theorem dX6_digest_28 : decode cX6_digest 28 = .ok (.ladd, 1) := by decide +kernel
theorem dX6_digest_29 : decode cX6_digest 29 = .ok (.lstore_n 1, 1) := by decide +kernel
theorem dX6_digest_30 : decode cX6_digest 30 = .ok (.iinc 3 1, 3) := by decide +kernel
theorem dX6_digest_33 : decode cX6_digest 33 = .ok (.goto (-22), 3) := by decide +kernel
theorem dX6_digest_36 : decode cX6_digest 36 = .ok (.ldc2_w 221, 3) := by decide +kernel
theorem dX6_digest_39 : decode cX6_digest 39 = .ok (.ldc2_w 221, 3) := by decide +kernel
theorem dX6_digest_42 : decode cX6_digest 42 = .ok (.lload_n 1, 1) := by decide +kernel
theorem dX6_digest_43 : decode cX6_digest 43 = .ok (.lmul, 1) := by decide +kernel
theorem dX6_digest_44 : decode cX6_digest 44 = .ok (.aload_n 0, 1) := by decide +kernel
theorem dX6_digest_45 : decode cX6_digest 45 = .ok (.getfield 7, 3) := by decide +kernel
theorem dX6_digest_48 : decode cX6_digest 48 = .ok (.iconst 0, 1) := by decide +kernel
theorem dX6_digest_49 : decode cX6_digest 49 = .ok (.iaload, 1) := by decide +kernel
theorem dX6_digest_50 : decode cX6_digest 50 = .ok (.i2l, 1) := by decide +kernel
theorem dX6_digest_51 : decode cX6_digest 51 = .ok (.ladd, 1) := by decide +kernel
theorem dX6_digest_52 : decode cX6_digest 52 = .ok (.lmul, 1) := by decide +kernel
theorem dX6_digest_53 : decode cX6_digest 53 = .ok (.aload_n 0, 1) := by decide +kernel
theorem dX6_digest_54 : decode cX6_digest 54 = .ok (.getfield 7, 3) := by decide +kernel
theorem dX6_digest_57 : decode cX6_digest 57 = .ok (.iconst 1, 1) := by decide +kernel
theorem dX6_digest_58 : decode cX6_digest 58 = .ok (.iaload, 1) := by decide +kernel
theorem dX6_digest_59 : decode cX6_digest 59 = .ok (.i2l, 1) := by decide +kernel
theorem dX6_digest_60 : decode cX6_digest 60 = .ok (.ladd, 1) := by decide +kernel
theorem dX6_digest_61 : decode cX6_digest 61 = .ok (.lstore_n 1, 1) := by decide +kernel
theorem dX6_digest_62 : decode cX6_digest 62 = .ok (.iconst 0, 1) := by decide +kernel
theorem dX6_digest_63 : decode cX6_digest 63 = .ok (.istore_n 3, 1) := by decide +kernel
theorem dX6_digest_64 : decode cX6_digest 64 = .ok (.iload_n 3, 1) := by decide +kernel
theorem dX6_digest_65 : decode cX6_digest 65 = .ok (.bipush 24, 2) := by decide +kernel
theorem dX6_digest_67 : decode cX6_digest 67 = .ok (.if_icmp .ge 84, 3) := by decide +kernel
theorem dX6_digest_70 : decode cX6_digest 70 = .ok (.aload_n 0, 1) := by decide +kernel
theorem dX6_digest_71 : decode cX6_digest 71 = .ok (.iload_n 3, 1) := by decide +kernel
theorem dX6_digest_72 : decode cX6_digest 72 = .ok (.iconst 0, 1) := by decide +kernel
theorem dX6_digest_73 : decode cX6_digest 73 = .ok (.invokevirtual 43, 3) := by decide +kernel
theorem dX6_digest_76 : decode cX6_digest 76 = .ok (.iconst 1, 1) := by decide +kernel
theorem dX6_digest_77 : decode cX6_digest 77 = .ok (.if_icmp .ne 68, 3) := by decide +kernel
theorem dX6_digest_80 : decode cX6_digest 80 = .ok (.ldc2_w 221, 3) := by decide +kernel
theorem dX6_digest_83 : decode cX6_digest 83 = .ok (.lload_n 1, 1) := by decide +kernel
theorem dX6_digest_84 : decode cX6_digest 84 = .ok (.lmul, 1) := by decide +kernel
theorem dX6_digest_85 : decode cX6_digest 85 = .ok (.iload_n 3, 1) := by decide +kernel
theorem dX6_digest_86 : decode cX6_digest 86 = .ok (.i2l, 1) := by decide +kernel
theorem dX6_digest_87 : decode cX6_digest 87 = .ok (.ladd, 1) := by decide +kernel
theorem dX6_digest_88 : decode cX6_digest 88 = .ok (.lstore_n 1, 1) := by decide +kernel
theorem dX6_digest_89 : decode cX6_digest 89 = .ok (.iconst 0, 1) := by decide +kernel
theorem dX6_digest_90 : decode cX6_digest 90 = .ok (.istore 4, 2) := by decide +kernel
theorem dX6_digest_92 : decode cX6_digest 92 = .ok (.iload 4, 2) := by decide +kernel
theorem dX6_digest_94 : decode cX6_digest 94 = .ok (.bipush 12, 2) := by decide +kernel
theorem dX6_digest_96 : decode cX6_digest 96 = .ok (.if_icmp .ge 24, 3) := by decide +kernel
theorem dX6_digest_99 : decode cX6_digest 99 = .ok (.ldc2_w 221, 3) := by decide +kernel
theorem dX6_digest_102 : decode cX6_digest 102 = .ok (.lload_n 1, 1) := by decide +kernel
theorem dX6_digest_103 : decode cX6_digest 103 = .ok (.lmul, 1) := by decide +kernel
theorem dX6_digest_104 : decode cX6_digest 104 = .ok (.aload_n 0, 1) := by decide +kernel
theorem dX6_digest_105 : decode cX6_digest 105 = .ok (.iload_n 3, 1) := by decide +kernel
theorem dX6_digest_106 : decode cX6_digest 106 = .ok (.iload 4, 2) := by decide +kernel
theorem dX6_digest_108 : decode cX6_digest 108 = .ok (.invokevirtual 178, 3) := by decide +kernel
theorem dX6_digest_111 : decode cX6_digest 111 = .ok (.i2l, 1) := by decide +kernel
theorem dX6_digest_112 : decode cX6_digest 112 = .ok (.ladd, 1) := by decide +kernel
theorem dX6_digest_113 : decode cX6_digest 113 = .ok (.lstore_n 1, 1) := by decide +kernel
theorem dX6_digest_114 : decode cX6_digest 114 = .ok (.iinc 4 1, 3) := by decide +kernel
theorem dX6_digest_117 : decode cX6_digest 117 = .ok (.goto (-25), 3) := by decide +kernel
theorem dX6_digest_120 : decode cX6_digest 120 = .ok (.ldc2_w 221, 3) := by decide +kernel
theorem dX6_digest_123 : decode cX6_digest 123 = .ok (.ldc2_w 221, 3) := by decide +kernel
theorem dX6_digest_126 : decode cX6_digest 126 = .ok (.lload_n 1, 1) := by decide +kernel
theorem dX6_digest_127 : decode cX6_digest 127 = .ok (.lmul, 1) := by decide +kernel
theorem dX6_digest_128 : decode cX6_digest 128 = .ok (.aload_n 0, 1) := by decide +kernel
theorem dX6_digest_129 : decode cX6_digest 129 = .ok (.iload_n 3, 1) := by decide +kernel
theorem dX6_digest_130 : decode cX6_digest 130 = .ok (.iconst 0, 1) := by decide +kernel
theorem dX6_digest_131 : decode cX6_digest 131 = .ok (.invokevirtual 203, 3) := by decide +kernel
theorem dX6_digest_134 : decode cX6_digest 134 = .ok (.i2l, 1) := by decide +kernel
theorem dX6_digest_135 : decode cX6_digest 135 = .ok (.ladd, 1) := by decide +kernel
theorem dX6_digest_136 : decode cX6_digest 136 = .ok (.lmul, 1) := by decide +kernel
theorem dX6_digest_137 : decode cX6_digest 137 = .ok (.aload_n 0, 1) := by decide +kernel
theorem dX6_digest_138 : decode cX6_digest 138 = .ok (.iload_n 3, 1) := by decide +kernel
theorem dX6_digest_139 : decode cX6_digest 139 = .ok (.invokevirtual 206, 3) := by decide +kernel
theorem dX6_digest_142 : decode cX6_digest 142 = .ok (.i2l, 1) := by decide +kernel
theorem dX6_digest_143 : decode cX6_digest 143 = .ok (.ladd, 1) := by decide +kernel
theorem dX6_digest_144 : decode cX6_digest 144 = .ok (.lstore_n 1, 1) := by decide +kernel
theorem dX6_digest_145 : decode cX6_digest 145 = .ok (.iinc 3 1, 3) := by decide +kernel
theorem dX6_digest_148 : decode cX6_digest 148 = .ok (.goto (-84), 3) := by decide +kernel
theorem dX6_digest_151 : decode cX6_digest 151 = .ok (.iconst 0, 1) := by decide +kernel
theorem dX6_digest_152 : decode cX6_digest 152 = .ok (.istore_n 3, 1) := by decide +kernel
theorem dX6_digest_153 : decode cX6_digest 153 = .ok (.iload_n 3, 1) := by decide +kernel
theorem dX6_digest_154 : decode cX6_digest 154 = .ok (.bipush 6, 2) := by decide +kernel
theorem dX6_digest_156 : decode cX6_digest 156 = .ok (.if_icmp .ge 54, 3) := by decide +kernel
theorem dX6_digest_159 : decode cX6_digest 159 = .ok (.iconst 0, 1) := by decide +kernel
theorem dX6_digest_160 : decode cX6_digest 160 = .ok (.istore 4, 2) := by decide +kernel
theorem dX6_digest_162 : decode cX6_digest 162 = .ok (.iload 4, 2) := by decide +kernel
theorem dX6_digest_164 : decode cX6_digest 164 = .ok (.bipush 8, 2) := by decide +kernel
theorem dX6_digest_166 : decode cX6_digest 166 = .ok (.if_icmp .ge 24, 3) := by decide +kernel
theorem dX6_digest_169 : decode cX6_digest 169 = .ok (.ldc2_w 221, 3) := by decide +kernel
theorem dX6_digest_172 : decode cX6_digest 172 = .ok (.lload_n 1, 1) := by decide +kernel
theorem dX6_digest_173 : decode cX6_digest 173 = .ok (.lmul, 1) := by decide +kernel
theorem dX6_digest_174 : decode cX6_digest 174 = .ok (.aload_n 0, 1) := by decide +kernel
theorem dX6_digest_175 : decode cX6_digest 175 = .ok (.iload_n 3, 1) := by decide +kernel
theorem dX6_digest_176 : decode cX6_digest 176 = .ok (.iload 4, 2) := by decide +kernel
theorem dX6_digest_178 : decode cX6_digest 178 = .ok (.invokevirtual 184, 3) := by decide +kernel
theorem dX6_digest_181 : decode cX6_digest 181 = .ok (.i2l, 1) := by decide +kernel
theorem dX6_digest_182 : decode cX6_digest 182 = .ok (.ladd, 1) := by decide +kernel
theorem dX6_digest_183 : decode cX6_digest 183 = .ok (.lstore_n 1, 1) := by decide +kernel
theorem dX6_digest_184 : decode cX6_digest 184 = .ok (.iinc 4 1, 3) := by decide +kernel
theorem dX6_digest_187 : decode cX6_digest 187 = .ok (.goto (-25), 3) := by decide +kernel
theorem dX6_digest_190 : decode cX6_digest 190 = .ok (.ldc2_w 221, 3) := by decide +kernel
theorem dX6_digest_193 : decode cX6_digest 193 = .ok (.lload_n 1, 1) := by decide +kernel
theorem dX6_digest_194 : decode cX6_digest 194 = .ok (.lmul, 1) := by decide +kernel
theorem dX6_digest_195 : decode cX6_digest 195 = .ok (.aload_n 0, 1) := by decide +kernel
theorem dX6_digest_196 : decode cX6_digest 196 = .ok (.iload_n 3, 1) := by decide +kernel
theorem dX6_digest_197 : decode cX6_digest 197 = .ok (.iconst 1, 1) := by decide +kernel
theorem dX6_digest_198 : decode cX6_digest 198 = .ok (.invokevirtual 125, 3) := by decide +kernel
theorem dX6_digest_201 : decode cX6_digest 201 = .ok (.i2l, 1) := by decide +kernel
theorem dX6_digest_202 : decode cX6_digest 202 = .ok (.ladd, 1) := by decide +kernel
theorem dX6_digest_203 : decode cX6_digest 203 = .ok (.lstore_n 1, 1) := by decide +kernel
theorem dX6_digest_204 : decode cX6_digest 204 = .ok (.iinc 3 1, 3) := by decide +kernel
theorem dX6_digest_207 : decode cX6_digest 207 = .ok (.goto (-54), 3) := by decide +kernel
theorem dX6_digest_210 : decode cX6_digest 210 = .ok (.ldc2_w 221, 3) := by decide +kernel
theorem dX6_digest_213 : decode cX6_digest 213 = .ok (.lload_n 1, 1) := by decide +kernel
theorem dX6_digest_214 : decode cX6_digest 214 = .ok (.lmul, 1) := by decide +kernel
theorem dX6_digest_215 : decode cX6_digest 215 = .ok (.aload_n 0, 1) := by decide +kernel
theorem dX6_digest_216 : decode cX6_digest 216 = .ok (.invokevirtual 212, 3) := by decide +kernel
theorem dX6_digest_219 : decode cX6_digest 219 = .ok (.i2l, 1) := by decide +kernel
theorem dX6_digest_220 : decode cX6_digest 220 = .ok (.ladd, 1) := by decide +kernel
theorem dX6_digest_221 : decode cX6_digest 221 = .ok (.lstore_n 1, 1) := by decide +kernel
theorem dX6_digest_222 : decode cX6_digest 222 = .ok (.ldc2_w 221, 3) := by decide +kernel
theorem dX6_digest_225 : decode cX6_digest 225 = .ok (.ldc2_w 221, 3) := by decide +kernel
theorem dX6_digest_228 : decode cX6_digest 228 = .ok (.lload_n 1, 1) := by decide +kernel
theorem dX6_digest_229 : decode cX6_digest 229 = .ok (.lmul, 1) := by decide +kernel
theorem dX6_digest_230 : decode cX6_digest 230 = .ok (.aload_n 0, 1) := by decide +kernel
theorem dX6_digest_231 : decode cX6_digest 231 = .ok (.invokevirtual 215, 3) := by decide +kernel
theorem dX6_digest_234 : decode cX6_digest 234 = .ok (.invokestatic 223, 3) := by decide +kernel
theorem dX6_digest_237 : decode cX6_digest 237 = .ok (.ladd, 1) := by decide +kernel
theorem dX6_digest_238 : decode cX6_digest 238 = .ok (.lmul, 1) := by decide +kernel
theorem dX6_digest_239 : decode cX6_digest 239 = .ok (.aload_n 0, 1) := by decide +kernel
theorem dX6_digest_240 : decode cX6_digest 240 = .ok (.getfield 137, 3) := by decide +kernel
theorem dX6_digest_243 : decode cX6_digest 243 = .ok (.i2l, 1) := by decide +kernel
theorem dX6_digest_244 : decode cX6_digest 244 = .ok (.ladd, 1) := by decide +kernel
theorem dX6_digest_245 : decode cX6_digest 245 = .ok (.lstore_n 1, 1) := by decide +kernel
theorem dX6_digest_246 : decode cX6_digest 246 = .ok (.iconst 0, 1) := by decide +kernel
theorem dX6_digest_247 : decode cX6_digest 247 = .ok (.istore_n 3, 1) := by decide +kernel
theorem dX6_digest_248 : decode cX6_digest 248 = .ok (.iload_n 3, 1) := by decide +kernel
theorem dX6_digest_249 : decode cX6_digest 249 = .ok (.aload_n 0, 1) := by decide +kernel
theorem dX6_digest_250 : decode cX6_digest 250 = .ok (.getfield 137, 3) := by decide +kernel
theorem dX6_digest_253 : decode cX6_digest 253 = .ok (.if_icmp .ge 23, 3) := by decide +kernel
theorem dX6_digest_256 : decode cX6_digest 256 = .ok (.ldc2_w 221, 3) := by decide +kernel
theorem dX6_digest_259 : decode cX6_digest 259 = .ok (.lload_n 1, 1) := by decide +kernel
theorem dX6_digest_260 : decode cX6_digest 260 = .ok (.lmul, 1) := by decide +kernel
theorem dX6_digest_261 : decode cX6_digest 261 = .ok (.aload_n 0, 1) := by decide +kernel
theorem dX6_digest_262 : decode cX6_digest 262 = .ok (.getfield 16, 3) := by decide +kernel
theorem dX6_digest_265 : decode cX6_digest 265 = .ok (.iload_n 3, 1) := by decide +kernel
theorem dX6_digest_266 : decode cX6_digest 266 = .ok (.iaload, 1) := by decide +kernel
theorem dX6_digest_267 : decode cX6_digest 267 = .ok (.i2l, 1) := by decide +kernel
theorem dX6_digest_268 : decode cX6_digest 268 = .ok (.ladd, 1) := by decide +kernel
theorem dX6_digest_269 : decode cX6_digest 269 = .ok (.lstore_n 1, 1) := by decide +kernel
theorem dX6_digest_270 : decode cX6_digest 270 = .ok (.iinc 3 1, 3) := by decide +kernel
theorem dX6_digest_273 : decode cX6_digest 273 = .ok (.goto (-25), 3) := by decide +kernel
theorem dX6_digest_276 : decode cX6_digest 276 = .ok (.lload_n 1, 1) := by decide +kernel
theorem dX6_digest_277 : decode cX6_digest 277 = .ok (.lreturn, 1) := by decide +kernel
theorem dJxe99ae_isNaN_b9ae7_0 : decode cJxe99ae_isNaN_b9ae7 0 = .ok (.dload_n 0, 1) := by decide +kernel
theorem dJxe99ae_isNaN_b9ae7_1 : decode cJxe99ae_isNaN_b9ae7 1 = .ok (.dload_n 0, 1) := by decide +kernel
theorem dJxe99ae_isNaN_b9ae7_2 : decode cJxe99ae_isNaN_b9ae7 2 = .ok (.dcmp .l, 1) := by decide +kernel
theorem dJxe99ae_isNaN_b9ae7_3 : decode cJxe99ae_isNaN_b9ae7 3 = .ok (.ifCond .eq 7, 3) := by decide +kernel
theorem dJxe99ae_isNaN_b9ae7_6 : decode cJxe99ae_isNaN_b9ae7 6 = .ok (.iconst 1, 1) := by decide +kernel
theorem dJxe99ae_isNaN_b9ae7_7 : decode cJxe99ae_isNaN_b9ae7 7 = .ok (.goto 4, 3) := by decide +kernel
theorem dJxe99ae_isNaN_b9ae7_10 : decode cJxe99ae_isNaN_b9ae7 10 = .ok (.iconst 0, 1) := by decide +kernel
theorem dJxe99ae_isNaN_b9ae7_11 : decode cJxe99ae_isNaN_b9ae7 11 = .ok (.ireturn, 1) := by decide +kernel
theorem dJxe99ae_doubleToLongBits_ccdee_0 : decode cJxe99ae_doubleToLongBits_ccdee 0 = .ok (.dload_n 0, 1) := by decide +kernel
theorem dJxe99ae_doubleToLongBits_ccdee_1 : decode cJxe99ae_doubleToLongBits_ccdee 1 = .ok (.invokestatic 122, 3) := by decide +kernel
theorem dJxe99ae_doubleToLongBits_ccdee_4 : decode cJxe99ae_doubleToLongBits_ccdee 4 = .ok (.ifCond .ne 8, 3) := by decide +kernel
theorem dJxe99ae_doubleToLongBits_ccdee_7 : decode cJxe99ae_doubleToLongBits_ccdee 7 = .ok (.dload_n 0, 1) := by decide +kernel
theorem dJxe99ae_doubleToLongBits_ccdee_8 : decode cJxe99ae_doubleToLongBits_ccdee 8 = .ok (.invokestatic 134, 3) := by decide +kernel
theorem dJxe99ae_doubleToLongBits_ccdee_11 : decode cJxe99ae_doubleToLongBits_ccdee 11 = .ok (.lreturn, 1) := by decide +kernel
theorem dJxe99ae_doubleToLongBits_ccdee_12 : decode cJxe99ae_doubleToLongBits_ccdee 12 = .ok (.ldc2_w 137, 3) := by decide +kernel
theorem dJxe99ae_doubleToLongBits_ccdee_15 : decode cJxe99ae_doubleToLongBits_ccdee 15 = .ok (.lreturn, 1) := by decide +kernel
theorem dL_open_0 : decode cL_open 0 = .ok (.aload_n 1, 1) := by decide +kernel
theorem dL_open_1 : decode cL_open 1 = .ok (.iconst 0, 1) := by decide +kernel
theorem dL_open_2 : decode cL_open 2 = .ok (.aload_n 0, 1) := by decide +kernel
theorem dL_open_3 : decode cL_open 3 = .ok (.invokevirtual 7, 3) := by decide +kernel
theorem dL_open_6 : decode cL_open 6 = .ok (.i2l, 1) := by decide +kernel
theorem dL_open_7 : decode cL_open 7 = .ok (.lastore, 1) := by decide +kernel
theorem dL_open_8 : decode cL_open 8 = .ok (.goto 6, 3) := by decide +kernel
theorem dL_open_11 : decode cL_open 11 = .ok (.astore_n 2, 1) := by decide +kernel
theorem dL_open_12 : decode cL_open 12 = .ok (.iconst 1, 1) := by decide +kernel
theorem dL_open_13 : decode cL_open 13 = .ok (.ireturn, 1) := by decide +kernel
theorem dL_open_14 : decode cL_open 14 = .ok (.iconst 0, 1) := by decide +kernel
theorem dL_open_15 : decode cL_open 15 = .ok (.ireturn, 1) := by decide +kernel
theorem dL_make_0 : decode cL_make 0 = .ok (.aload_n 3, 1) := by decide +kernel
theorem dL_make_1 : decode cL_make 1 = .ok (.iconst 0, 1) := by decide +kernel
theorem dL_make_2 : decode cL_make 2 = .ok (.aload_n 0, 1) := by decide +kernel
theorem dL_make_3 : decode cL_make 3 = .ok (.iload_n 1, 1) := by decide +kernel
theorem dL_make_4 : decode cL_make 4 = .ok (.iload_n 2, 1) := by decide +kernel
theorem dL_make_5 : decode cL_make 5 = .ok (.invokevirtual 15, 3) := by decide +kernel
theorem dL_make_8 : decode cL_make 8 = .ok (.i2l, 1) := by decide +kernel
theorem dL_make_9 : decode cL_make 9 = .ok (.lastore, 1) := by decide +kernel
theorem dL_make_10 : decode cL_make 10 = .ok (.goto 15, 3) := by decide +kernel
theorem dL_make_13 : decode cL_make 13 = .ok (.astore 4, 2) := by decide +kernel
theorem dL_make_15 : decode cL_make 15 = .ok (.iconst 1, 1) := by decide +kernel
theorem dL_make_16 : decode cL_make 16 = .ok (.ireturn, 1) := by decide +kernel
theorem dL_make_17 : decode cL_make 17 = .ok (.astore 4, 2) := by decide +kernel
theorem dL_make_19 : decode cL_make 19 = .ok (.iconst 2, 1) := by decide +kernel
theorem dL_make_20 : decode cL_make 20 = .ok (.ireturn, 1) := by decide +kernel
theorem dL_make_21 : decode cL_make 21 = .ok (.astore 4, 2) := by decide +kernel
theorem dL_make_23 : decode cL_make 23 = .ok (.iconst 3, 1) := by decide +kernel
theorem dL_make_24 : decode cL_make 24 = .ok (.ireturn, 1) := by decide +kernel
theorem dL_make_25 : decode cL_make 25 = .ok (.iconst 0, 1) := by decide +kernel
theorem dL_make_26 : decode cL_make 26 = .ok (.ireturn, 1) := by decide +kernel
theorem dL_link_0 : decode cL_link 0 = .ok (.aload 4, 2) := by decide +kernel
theorem dL_link_2 : decode cL_link 2 = .ok (.iconst 0, 1) := by decide +kernel
theorem dL_link_3 : decode cL_link 3 = .ok (.aload_n 0, 1) := by decide +kernel
theorem dL_link_4 : decode cL_link 4 = .ok (.iload_n 1, 1) := by decide +kernel
theorem dL_link_5 : decode cL_link 5 = .ok (.iload_n 2, 1) := by decide +kernel
theorem dL_link_6 : decode cL_link 6 = .ok (.iload_n 3, 1) := by decide +kernel
theorem dL_link_7 : decode cL_link 7 = .ok (.invokevirtual 23, 3) := by decide +kernel
theorem dL_link_10 : decode cL_link 10 = .ok (.i2l, 1) := by decide +kernel
theorem dL_link_11 : decode cL_link 11 = .ok (.lastore, 1) := by decide +kernel
theorem dL_link_12 : decode cL_link 12 = .ok (.goto 7, 3) := by decide +kernel
theorem dL_link_15 : decode cL_link 15 = .ok (.astore 5, 2) := by decide +kernel
theorem dL_link_17 : decode cL_link 17 = .ok (.iconst 1, 1) := by decide +kernel
theorem dL_link_18 : decode cL_link 18 = .ok (.ireturn, 1) := by decide +kernel
theorem dL_link_19 : decode cL_link 19 = .ok (.iconst 0, 1) := by decide +kernel
theorem dL_link_20 : decode cL_link 20 = .ok (.ireturn, 1) := by decide +kernel
theorem dL_root_0 : decode cL_root 0 = .ok (.aload_n 3, 1) := by decide +kernel
theorem dL_root_1 : decode cL_root 1 = .ok (.iconst 0, 1) := by decide +kernel
theorem dL_root_2 : decode cL_root 2 = .ok (.aload_n 0, 1) := by decide +kernel
theorem dL_root_3 : decode cL_root 3 = .ok (.iload_n 1, 1) := by decide +kernel
theorem dL_root_4 : decode cL_root 4 = .ok (.iload_n 2, 1) := by decide +kernel
theorem dL_root_5 : decode cL_root 5 = .ok (.invokevirtual 27, 3) := by decide +kernel
theorem dL_root_8 : decode cL_root 8 = .ok (.i2l, 1) := by decide +kernel
theorem dL_root_9 : decode cL_root 9 = .ok (.lastore, 1) := by decide +kernel
theorem dL_root_10 : decode cL_root 10 = .ok (.goto 7, 3) := by decide +kernel
theorem dL_root_13 : decode cL_root 13 = .ok (.astore 4, 2) := by decide +kernel
theorem dL_root_15 : decode cL_root 15 = .ok (.iconst 1, 1) := by decide +kernel
theorem dL_root_16 : decode cL_root 16 = .ok (.ireturn, 1) := by decide +kernel
theorem dL_root_17 : decode cL_root 17 = .ok (.iconst 0, 1) := by decide +kernel
theorem dL_root_18 : decode cL_root 18 = .ok (.ireturn, 1) := by decide +kernel
theorem dL_pin_0 : decode cL_pin 0 = .ok (.aload_n 3, 1) := by decide +kernel
theorem dL_pin_1 : decode cL_pin 1 = .ok (.iconst 0, 1) := by decide +kernel
theorem dL_pin_2 : decode cL_pin 2 = .ok (.aload_n 0, 1) := by decide +kernel
theorem dL_pin_3 : decode cL_pin 3 = .ok (.iload_n 1, 1) := by decide +kernel
theorem dL_pin_4 : decode cL_pin 4 = .ok (.iload_n 2, 1) := by decide +kernel
theorem dL_pin_5 : decode cL_pin 5 = .ok (.invokevirtual 31, 3) := by decide +kernel
theorem dL_pin_8 : decode cL_pin 8 = .ok (.i2l, 1) := by decide +kernel
theorem dL_pin_9 : decode cL_pin 9 = .ok (.lastore, 1) := by decide +kernel
theorem dL_pin_10 : decode cL_pin 10 = .ok (.goto 7, 3) := by decide +kernel
theorem dL_pin_13 : decode cL_pin 13 = .ok (.astore 4, 2) := by decide +kernel
theorem dL_pin_15 : decode cL_pin 15 = .ok (.iconst 1, 1) := by decide +kernel
theorem dL_pin_16 : decode cL_pin 16 = .ok (.ireturn, 1) := by decide +kernel
theorem dL_pin_17 : decode cL_pin 17 = .ok (.iconst 0, 1) := by decide +kernel
theorem dL_pin_18 : decode cL_pin 18 = .ok (.ireturn, 1) := by decide +kernel
theorem dL_giveBack_0 : decode cL_giveBack 0 = .ok (.aload_n 3, 1) := by decide +kernel
theorem dL_giveBack_1 : decode cL_giveBack 1 = .ok (.iconst 0, 1) := by decide +kernel
theorem dL_giveBack_2 : decode cL_giveBack 2 = .ok (.aload_n 0, 1) := by decide +kernel
theorem dL_giveBack_3 : decode cL_giveBack 3 = .ok (.iload_n 1, 1) := by decide +kernel
theorem dL_giveBack_4 : decode cL_giveBack 4 = .ok (.iload_n 2, 1) := by decide +kernel
theorem dL_giveBack_5 : decode cL_giveBack 5 = .ok (.invokevirtual 34, 3) := by decide +kernel
theorem dL_giveBack_8 : decode cL_giveBack 8 = .ok (.i2l, 1) := by decide +kernel
theorem dL_giveBack_9 : decode cL_giveBack 9 = .ok (.lastore, 1) := by decide +kernel
theorem dL_giveBack_10 : decode cL_giveBack 10 = .ok (.goto 15, 3) := by decide +kernel
theorem dL_giveBack_13 : decode cL_giveBack 13 = .ok (.astore 4, 2) := by decide +kernel
theorem dL_giveBack_15 : decode cL_giveBack 15 = .ok (.iconst 1, 1) := by decide +kernel
theorem dL_giveBack_16 : decode cL_giveBack 16 = .ok (.ireturn, 1) := by decide +kernel
theorem dL_giveBack_17 : decode cL_giveBack 17 = .ok (.astore 4, 2) := by decide +kernel
theorem dL_giveBack_19 : decode cL_giveBack 19 = .ok (.iconst 2, 1) := by decide +kernel
theorem dL_giveBack_20 : decode cL_giveBack 20 = .ok (.ireturn, 1) := by decide +kernel
theorem dL_giveBack_21 : decode cL_giveBack 21 = .ok (.astore 4, 2) := by decide +kernel
theorem dL_giveBack_23 : decode cL_giveBack 23 = .ok (.iconst 3, 1) := by decide +kernel
theorem dL_giveBack_24 : decode cL_giveBack 24 = .ok (.ireturn, 1) := by decide +kernel
theorem dL_giveBack_25 : decode cL_giveBack 25 = .ok (.iconst 0, 1) := by decide +kernel
theorem dL_giveBack_26 : decode cL_giveBack 26 = .ok (.ireturn, 1) := by decide +kernel
theorem dL_close_0 : decode cL_close 0 = .ok (.aload_n 2, 1) := by decide +kernel
theorem dL_close_1 : decode cL_close 1 = .ok (.iconst 0, 1) := by decide +kernel
theorem dL_close_2 : decode cL_close 2 = .ok (.aload_n 0, 1) := by decide +kernel
theorem dL_close_3 : decode cL_close 3 = .ok (.iload_n 1, 1) := by decide +kernel
theorem dL_close_4 : decode cL_close 4 = .ok (.invokevirtual 37, 3) := by decide +kernel
theorem dL_close_7 : decode cL_close 7 = .ok (.i2l, 1) := by decide +kernel
theorem dL_close_8 : decode cL_close 8 = .ok (.lastore, 1) := by decide +kernel
theorem dL_close_9 : decode cL_close 9 = .ok (.goto 9, 3) := by decide +kernel
theorem dL_close_12 : decode cL_close 12 = .ok (.astore_n 3, 1) := by decide +kernel
theorem dL_close_13 : decode cL_close 13 = .ok (.iconst 1, 1) := by decide +kernel
theorem dL_close_14 : decode cL_close 14 = .ok (.ireturn, 1) := by decide +kernel
theorem dL_close_15 : decode cL_close 15 = .ok (.astore_n 3, 1) := by decide +kernel
theorem dL_close_16 : decode cL_close 16 = .ok (.iconst 2, 1) := by decide +kernel
theorem dL_close_17 : decode cL_close 17 = .ok (.ireturn, 1) := by decide +kernel
theorem dL_close_18 : decode cL_close 18 = .ok (.iconst 0, 1) := by decide +kernel
theorem dL_close_19 : decode cL_close 19 = .ok (.ireturn, 1) := by decide +kernel
theorem dL_set_0 : decode cL_set 0 = .ok (.aload_n 3, 1) := by decide +kernel
theorem dL_set_1 : decode cL_set 1 = .ok (.iconst 0, 1) := by decide +kernel
theorem dL_set_2 : decode cL_set 2 = .ok (.aload_n 0, 1) := by decide +kernel
theorem dL_set_3 : decode cL_set 3 = .ok (.iload_n 1, 1) := by decide +kernel
theorem dL_set_4 : decode cL_set 4 = .ok (.iload_n 2, 1) := by decide +kernel
theorem dL_set_5 : decode cL_set 5 = .ok (.invokevirtual 41, 3) := by decide +kernel
theorem dL_set_8 : decode cL_set 8 = .ok (.i2l, 1) := by decide +kernel
theorem dL_set_9 : decode cL_set 9 = .ok (.lastore, 1) := by decide +kernel
theorem dL_set_10 : decode cL_set 10 = .ok (.goto 11, 3) := by decide +kernel
theorem dL_set_13 : decode cL_set 13 = .ok (.astore 4, 2) := by decide +kernel
theorem dL_set_15 : decode cL_set 15 = .ok (.iconst 1, 1) := by decide +kernel
theorem dL_set_16 : decode cL_set 16 = .ok (.ireturn, 1) := by decide +kernel
theorem dL_set_17 : decode cL_set 17 = .ok (.astore 4, 2) := by decide +kernel
theorem dL_set_19 : decode cL_set 19 = .ok (.iconst 2, 1) := by decide +kernel
theorem dL_set_20 : decode cL_set 20 = .ok (.ireturn, 1) := by decide +kernel
theorem dL_set_21 : decode cL_set 21 = .ok (.iconst 0, 1) := by decide +kernel
theorem dL_set_22 : decode cL_set 22 = .ok (.ireturn, 1) := by decide +kernel
theorem dL_append_0 : decode cL_append 0 = .ok (.aload_n 2, 1) := by decide +kernel
theorem dL_append_1 : decode cL_append 1 = .ok (.iconst 0, 1) := by decide +kernel
theorem dL_append_2 : decode cL_append 2 = .ok (.aload_n 0, 1) := by decide +kernel
theorem dL_append_3 : decode cL_append 3 = .ok (.iload_n 1, 1) := by decide +kernel
theorem dL_append_4 : decode cL_append 4 = .ok (.invokevirtual 44, 3) := by decide +kernel
theorem dL_append_7 : decode cL_append 7 = .ok (.i2l, 1) := by decide +kernel
theorem dL_append_8 : decode cL_append 8 = .ok (.lastore, 1) := by decide +kernel
theorem dL_append_9 : decode cL_append 9 = .ok (.goto 9, 3) := by decide +kernel
theorem dL_append_12 : decode cL_append 12 = .ok (.astore_n 3, 1) := by decide +kernel
theorem dL_append_13 : decode cL_append 13 = .ok (.iconst 1, 1) := by decide +kernel
theorem dL_append_14 : decode cL_append 14 = .ok (.ireturn, 1) := by decide +kernel
theorem dL_append_15 : decode cL_append 15 = .ok (.astore_n 3, 1) := by decide +kernel
theorem dL_append_16 : decode cL_append 16 = .ok (.iconst 2, 1) := by decide +kernel
theorem dL_append_17 : decode cL_append 17 = .ok (.ireturn, 1) := by decide +kernel
theorem dL_append_18 : decode cL_append 18 = .ok (.iconst 0, 1) := by decide +kernel
theorem dL_append_19 : decode cL_append 19 = .ok (.ireturn, 1) := by decide +kernel
theorem dL_makeAll_0 : decode cL_makeAll 0 = .ok (.aload_n 2, 1) := by decide +kernel
theorem dL_makeAll_1 : decode cL_makeAll 1 = .ok (.iconst 0, 1) := by decide +kernel
theorem dL_makeAll_2 : decode cL_makeAll 2 = .ok (.aload_n 0, 1) := by decide +kernel
theorem dL_makeAll_3 : decode cL_makeAll 3 = .ok (.iload_n 1, 1) := by decide +kernel
theorem dL_makeAll_4 : decode cL_makeAll 4 = .ok (.invokevirtual 47, 3) := by decide +kernel
theorem dL_makeAll_7 : decode cL_makeAll 7 = .ok (.i2l, 1) := by decide +kernel
theorem dL_makeAll_8 : decode cL_makeAll 8 = .ok (.lastore, 1) := by decide +kernel
theorem dL_makeAll_9 : decode cL_makeAll 9 = .ok (.goto 12, 3) := by decide +kernel
theorem dL_makeAll_12 : decode cL_makeAll 12 = .ok (.astore_n 3, 1) := by decide +kernel
theorem dL_makeAll_13 : decode cL_makeAll 13 = .ok (.iconst 1, 1) := by decide +kernel
theorem dL_makeAll_14 : decode cL_makeAll 14 = .ok (.ireturn, 1) := by decide +kernel
theorem dL_makeAll_15 : decode cL_makeAll 15 = .ok (.astore_n 3, 1) := by decide +kernel
theorem dL_makeAll_16 : decode cL_makeAll 16 = .ok (.iconst 2, 1) := by decide +kernel
theorem dL_makeAll_17 : decode cL_makeAll 17 = .ok (.ireturn, 1) := by decide +kernel
theorem dL_makeAll_18 : decode cL_makeAll 18 = .ok (.astore_n 3, 1) := by decide +kernel
theorem dL_makeAll_19 : decode cL_makeAll 19 = .ok (.iconst 3, 1) := by decide +kernel
theorem dL_makeAll_20 : decode cL_makeAll 20 = .ok (.ireturn, 1) := by decide +kernel
theorem dL_makeAll_21 : decode cL_makeAll 21 = .ok (.iconst 0, 1) := by decide +kernel
theorem dL_makeAll_22 : decode cL_makeAll 22 = .ok (.ireturn, 1) := by decide +kernel
theorem dL_undo_0 : decode cL_undo 0 = .ok (.aload_n 1, 1) := by decide +kernel
theorem dL_undo_1 : decode cL_undo 1 = .ok (.iconst 0, 1) := by decide +kernel
theorem dL_undo_2 : decode cL_undo 2 = .ok (.aload_n 0, 1) := by decide +kernel
theorem dL_undo_3 : decode cL_undo 3 = .ok (.invokevirtual 50, 3) := by decide +kernel
theorem dL_undo_6 : decode cL_undo 6 = .ok (.i2l, 1) := by decide +kernel
theorem dL_undo_7 : decode cL_undo 7 = .ok (.lastore, 1) := by decide +kernel
theorem dL_undo_8 : decode cL_undo 8 = .ok (.goto 6, 3) := by decide +kernel
theorem dL_undo_11 : decode cL_undo 11 = .ok (.astore_n 2, 1) := by decide +kernel
theorem dL_undo_12 : decode cL_undo 12 = .ok (.iconst 1, 1) := by decide +kernel
theorem dL_undo_13 : decode cL_undo 13 = .ok (.ireturn, 1) := by decide +kernel
theorem dL_undo_14 : decode cL_undo 14 = .ok (.iconst 0, 1) := by decide +kernel
theorem dL_undo_15 : decode cL_undo 15 = .ok (.ireturn, 1) := by decide +kernel
theorem dL_object_0 : decode cL_object 0 = .ok (.aload_n 3, 1) := by decide +kernel
theorem dL_object_1 : decode cL_object 1 = .ok (.iconst 0, 1) := by decide +kernel
theorem dL_object_2 : decode cL_object 2 = .ok (.aload_n 0, 1) := by decide +kernel
theorem dL_object_3 : decode cL_object 3 = .ok (.iload_n 1, 1) := by decide +kernel
theorem dL_object_4 : decode cL_object 4 = .ok (.iload_n 2, 1) := by decide +kernel
theorem dL_object_5 : decode cL_object 5 = .ok (.invokevirtual 53, 3) := by decide +kernel
theorem dL_object_8 : decode cL_object 8 = .ok (.i2l, 1) := by decide +kernel
theorem dL_object_9 : decode cL_object 9 = .ok (.lastore, 1) := by decide +kernel
theorem dL_object_10 : decode cL_object 10 = .ok (.goto 11, 3) := by decide +kernel
theorem dL_object_13 : decode cL_object 13 = .ok (.astore 4, 2) := by decide +kernel
theorem dL_object_15 : decode cL_object 15 = .ok (.iconst 1, 1) := by decide +kernel
theorem dL_object_16 : decode cL_object 16 = .ok (.ireturn, 1) := by decide +kernel
theorem dL_object_17 : decode cL_object 17 = .ok (.astore 4, 2) := by decide +kernel
theorem dL_object_19 : decode cL_object 19 = .ok (.iconst 2, 1) := by decide +kernel
theorem dL_object_20 : decode cL_object 20 = .ok (.ireturn, 1) := by decide +kernel
theorem dL_object_21 : decode cL_object 21 = .ok (.iconst 0, 1) := by decide +kernel
theorem dL_object_22 : decode cL_object 22 = .ok (.ireturn, 1) := by decide +kernel
theorem dL_arena_0 : decode cL_arena 0 = .ok (.aload_n 3, 1) := by decide +kernel
theorem dL_arena_1 : decode cL_arena 1 = .ok (.iconst 0, 1) := by decide +kernel
theorem dL_arena_2 : decode cL_arena 2 = .ok (.aload_n 0, 1) := by decide +kernel
theorem dL_arena_3 : decode cL_arena 3 = .ok (.iload_n 1, 1) := by decide +kernel
theorem dL_arena_4 : decode cL_arena 4 = .ok (.iload_n 2, 1) := by decide +kernel
theorem dL_arena_5 : decode cL_arena 5 = .ok (.invokevirtual 56, 3) := by decide +kernel
theorem dL_arena_8 : decode cL_arena 8 = .ok (.i2l, 1) := by decide +kernel
theorem dL_arena_9 : decode cL_arena 9 = .ok (.lastore, 1) := by decide +kernel
theorem dL_arena_10 : decode cL_arena 10 = .ok (.goto 11, 3) := by decide +kernel
theorem dL_arena_13 : decode cL_arena 13 = .ok (.astore 4, 2) := by decide +kernel
theorem dL_arena_15 : decode cL_arena 15 = .ok (.iconst 1, 1) := by decide +kernel
theorem dL_arena_16 : decode cL_arena 16 = .ok (.ireturn, 1) := by decide +kernel
theorem dL_arena_17 : decode cL_arena 17 = .ok (.astore 4, 2) := by decide +kernel
theorem dL_arena_19 : decode cL_arena 19 = .ok (.iconst 2, 1) := by decide +kernel
theorem dL_arena_20 : decode cL_arena 20 = .ok (.ireturn, 1) := by decide +kernel
theorem dL_arena_21 : decode cL_arena 21 = .ok (.iconst 0, 1) := by decide +kernel
theorem dL_arena_22 : decode cL_arena 22 = .ok (.ireturn, 1) := by decide +kernel
theorem dL_at_0 : decode cL_at 0 = .ok (.aload_n 3, 1) := by decide +kernel
theorem dL_at_1 : decode cL_at 1 = .ok (.iconst 0, 1) := by decide +kernel
theorem dL_at_2 : decode cL_at 2 = .ok (.aload_n 0, 1) := by decide +kernel
theorem dL_at_3 : decode cL_at 3 = .ok (.iload_n 1, 1) := by decide +kernel
theorem dL_at_4 : decode cL_at 4 = .ok (.iload_n 2, 1) := by decide +kernel
theorem dL_at_5 : decode cL_at 5 = .ok (.invokevirtual 59, 3) := by decide +kernel
theorem dL_at_8 : decode cL_at 8 = .ok (.i2l, 1) := by decide +kernel
theorem dL_at_9 : decode cL_at 9 = .ok (.lastore, 1) := by decide +kernel
theorem dL_at_10 : decode cL_at 10 = .ok (.goto 7, 3) := by decide +kernel
theorem dL_at_13 : decode cL_at 13 = .ok (.astore 4, 2) := by decide +kernel
theorem dL_at_15 : decode cL_at 15 = .ok (.iconst 1, 1) := by decide +kernel
theorem dL_at_16 : decode cL_at 16 = .ok (.ireturn, 1) := by decide +kernel
theorem dL_at_17 : decode cL_at 17 = .ok (.iconst 0, 1) := by decide +kernel
theorem dL_at_18 : decode cL_at 18 = .ok (.ireturn, 1) := by decide +kernel
theorem dL_count_0 : decode cL_count 0 = .ok (.aload_n 2, 1) := by decide +kernel
theorem dL_count_1 : decode cL_count 1 = .ok (.iconst 0, 1) := by decide +kernel
theorem dL_count_2 : decode cL_count 2 = .ok (.aload_n 0, 1) := by decide +kernel
theorem dL_count_3 : decode cL_count 3 = .ok (.iload_n 1, 1) := by decide +kernel
theorem dL_count_4 : decode cL_count 4 = .ok (.invokevirtual 62, 3) := by decide +kernel
theorem dL_count_7 : decode cL_count 7 = .ok (.i2l, 1) := by decide +kernel
theorem dL_count_8 : decode cL_count 8 = .ok (.lastore, 1) := by decide +kernel
theorem dL_count_9 : decode cL_count 9 = .ok (.goto 6, 3) := by decide +kernel
theorem dL_count_12 : decode cL_count 12 = .ok (.astore_n 3, 1) := by decide +kernel
theorem dL_count_13 : decode cL_count 13 = .ok (.iconst 1, 1) := by decide +kernel
theorem dL_count_14 : decode cL_count 14 = .ok (.ireturn, 1) := by decide +kernel
theorem dL_count_15 : decode cL_count 15 = .ok (.iconst 0, 1) := by decide +kernel
theorem dL_count_16 : decode cL_count 16 = .ok (.ireturn, 1) := by decide +kernel
theorem dL_setting_0 : decode cL_setting 0 = .ok (.aload_n 2, 1) := by decide +kernel
theorem dL_setting_1 : decode cL_setting 1 = .ok (.iconst 0, 1) := by decide +kernel
theorem dL_setting_2 : decode cL_setting 2 = .ok (.aload_n 0, 1) := by decide +kernel
theorem dL_setting_3 : decode cL_setting 3 = .ok (.iload_n 1, 1) := by decide +kernel
theorem dL_setting_4 : decode cL_setting 4 = .ok (.invokevirtual 65, 3) := by decide +kernel
theorem dL_setting_7 : decode cL_setting 7 = .ok (.i2l, 1) := by decide +kernel
theorem dL_setting_8 : decode cL_setting 8 = .ok (.lastore, 1) := by decide +kernel
theorem dL_setting_9 : decode cL_setting 9 = .ok (.goto 6, 3) := by decide +kernel
theorem dL_setting_12 : decode cL_setting 12 = .ok (.astore_n 3, 1) := by decide +kernel
theorem dL_setting_13 : decode cL_setting 13 = .ok (.iconst 1, 1) := by decide +kernel
theorem dL_setting_14 : decode cL_setting 14 = .ok (.ireturn, 1) := by decide +kernel
theorem dL_setting_15 : decode cL_setting 15 = .ok (.iconst 0, 1) := by decide +kernel
theorem dL_setting_16 : decode cL_setting 16 = .ok (.ireturn, 1) := by decide +kernel
theorem dL_whyNot_0 : decode cL_whyNot 0 = .ok (.aload_n 3, 1) := by decide +kernel
theorem dL_whyNot_1 : decode cL_whyNot 1 = .ok (.iconst 0, 1) := by decide +kernel
theorem dL_whyNot_2 : decode cL_whyNot 2 = .ok (.aload_n 0, 1) := by decide +kernel
theorem dL_whyNot_3 : decode cL_whyNot 3 = .ok (.iload_n 1, 1) := by decide +kernel
theorem dL_whyNot_4 : decode cL_whyNot 4 = .ok (.iload_n 2, 1) := by decide +kernel
theorem dL_whyNot_5 : decode cL_whyNot 5 = .ok (.invokevirtual 68, 3) := by decide +kernel
theorem dL_whyNot_8 : decode cL_whyNot 8 = .ok (.i2l, 1) := by decide +kernel
theorem dL_whyNot_9 : decode cL_whyNot 9 = .ok (.lastore, 1) := by decide +kernel
theorem dL_whyNot_10 : decode cL_whyNot 10 = .ok (.goto 7, 3) := by decide +kernel
theorem dL_whyNot_13 : decode cL_whyNot 13 = .ok (.astore 4, 2) := by decide +kernel
theorem dL_whyNot_15 : decode cL_whyNot 15 = .ok (.iconst 1, 1) := by decide +kernel
theorem dL_whyNot_16 : decode cL_whyNot 16 = .ok (.ireturn, 1) := by decide +kernel
theorem dL_whyNot_17 : decode cL_whyNot 17 = .ok (.iconst 0, 1) := by decide +kernel
theorem dL_whyNot_18 : decode cL_whyNot 18 = .ok (.ireturn, 1) := by decide +kernel
theorem dL_ifGiven_0 : decode cL_ifGiven 0 = .ok (.aload_n 3, 1) := by decide +kernel
theorem dL_ifGiven_1 : decode cL_ifGiven 1 = .ok (.iconst 0, 1) := by decide +kernel
theorem dL_ifGiven_2 : decode cL_ifGiven 2 = .ok (.aload_n 0, 1) := by decide +kernel
theorem dL_ifGiven_3 : decode cL_ifGiven 3 = .ok (.iload_n 1, 1) := by decide +kernel
theorem dL_ifGiven_4 : decode cL_ifGiven 4 = .ok (.iload_n 2, 1) := by decide +kernel
theorem dL_ifGiven_5 : decode cL_ifGiven 5 = .ok (.invokevirtual 71, 3) := by decide +kernel
theorem dL_ifGiven_8 : decode cL_ifGiven 8 = .ok (.i2l, 1) := by decide +kernel
theorem dL_ifGiven_9 : decode cL_ifGiven 9 = .ok (.lastore, 1) := by decide +kernel
theorem dL_ifGiven_10 : decode cL_ifGiven 10 = .ok (.goto 7, 3) := by decide +kernel
theorem dL_ifGiven_13 : decode cL_ifGiven 13 = .ok (.astore 4, 2) := by decide +kernel
theorem dL_ifGiven_15 : decode cL_ifGiven 15 = .ok (.iconst 1, 1) := by decide +kernel
theorem dL_ifGiven_16 : decode cL_ifGiven 16 = .ok (.ireturn, 1) := by decide +kernel
theorem dL_ifGiven_17 : decode cL_ifGiven 17 = .ok (.iconst 0, 1) := by decide +kernel
theorem dL_ifGiven_18 : decode cL_ifGiven 18 = .ok (.ireturn, 1) := by decide +kernel
theorem dL_ifLost_0 : decode cL_ifLost 0 = .ok (.aload_n 2, 1) := by decide +kernel
theorem dL_ifLost_1 : decode cL_ifLost 1 = .ok (.iconst 0, 1) := by decide +kernel
theorem dL_ifLost_2 : decode cL_ifLost 2 = .ok (.aload_n 0, 1) := by decide +kernel
theorem dL_ifLost_3 : decode cL_ifLost 3 = .ok (.iload_n 1, 1) := by decide +kernel
theorem dL_ifLost_4 : decode cL_ifLost 4 = .ok (.invokevirtual 74, 3) := by decide +kernel
theorem dL_ifLost_7 : decode cL_ifLost 7 = .ok (.i2l, 1) := by decide +kernel
theorem dL_ifLost_8 : decode cL_ifLost 8 = .ok (.lastore, 1) := by decide +kernel
theorem dL_ifLost_9 : decode cL_ifLost 9 = .ok (.goto 6, 3) := by decide +kernel
theorem dL_ifLost_12 : decode cL_ifLost 12 = .ok (.astore_n 3, 1) := by decide +kernel
theorem dL_ifLost_13 : decode cL_ifLost 13 = .ok (.iconst 1, 1) := by decide +kernel
theorem dL_ifLost_14 : decode cL_ifLost 14 = .ok (.ireturn, 1) := by decide +kernel
theorem dL_ifLost_15 : decode cL_ifLost 15 = .ok (.iconst 0, 1) := by decide +kernel
theorem dL_ifLost_16 : decode cL_ifLost 16 = .ok (.ireturn, 1) := by decide +kernel
theorem dL_law_0 : decode cL_law 0 = .ok (.new 8, 3) := by decide +kernel
theorem dL_law_3 : decode cL_law 3 = .ok (.dup, 1) := by decide +kernel
theorem dL_law_4 : decode cL_law 4 = .ok (.invokespecial 77, 3) := by decide +kernel
theorem dL_law_7 : decode cL_law 7 = .ok (.astore_n 1, 1) := by decide +kernel
theorem dL_law_8 : decode cL_law 8 = .ok (.new 78, 3) := by decide +kernel
theorem dL_law_11 : decode cL_law 11 = .ok (.dup, 1) := by decide +kernel
theorem dL_law_12 : decode cL_law 12 = .ok (.invokespecial 80, 3) := by decide +kernel
theorem dL_law_15 : decode cL_law 15 = .ok (.astore_n 2, 1) := by decide +kernel
theorem dL_law_16 : decode cL_law 16 = .ok (.iconst 1, 1) := by decide +kernel
theorem dL_law_17 : decode cL_law 17 = .ok (.newarray .long, 2) := by decide +kernel
theorem dL_law_19 : decode cL_law 19 = .ok (.astore_n 3, 1) := by decide +kernel
theorem dL_law_20 : decode cL_law 20 = .ok (.iconst 0, 1) := by decide +kernel
theorem dL_law_21 : decode cL_law 21 = .ok (.istore 4, 2) := by decide +kernel
theorem dL_law_23 : decode cL_law 23 = .ok (.iload 4, 2) := by decide +kernel
theorem dL_law_25 : decode cL_law 25 = .ok (.aload_n 0, 1) := by decide +kernel
theorem dL_law_26 : decode cL_law 26 = .ok (.arraylength, 1) := by decide +kernel
theorem dL_law_27 : decode cL_law 27 = .ok (.iconst 4, 1) := by decide +kernel
theorem dL_law_28 : decode cL_law 28 = .ok (.isub, 1) := by decide +kernel
theorem dL_law_29 : decode cL_law 29 = .ok (.if_icmp .gt 1435, 3) := by decide +kernel
theorem dL_law_32 : decode cL_law 32 = .ok (.aload_n 0, 1) := by decide +kernel
theorem dL_law_33 : decode cL_law 33 = .ok (.iload 4, 2) := by decide +kernel
theorem dL_law_35 : decode cL_law 35 = .ok (.iaload, 1) := by decide +kernel
theorem dL_law_36 : decode cL_law 36 = .ok (.bipush 31, 2) := by decide +kernel
theorem dL_law_38 : decode cL_law 38 = .ok (.iand, 1) := by decide +kernel
theorem dL_law_39 : decode cL_law 39 = .ok (.tableswitch 1419 0 23 #[109, 153, 221, 301, 385, 469, 537, 593, 661, 717, 730, 743, 799, 843, 911, 979, 1047, 1103, 1159, 1227, 1295, 1351, 1364, 1405], 109) := by decide +kernel
theorem dL_law_148 : decode cL_law 148 = .ok (.aload_n 1, 1) := by decide +kernel
theorem dL_law_149 : decode cL_law 149 = .ok (.aload_n 3, 1) := by decide +kernel
theorem dL_law_150 : decode cL_law 150 = .ok (.invokestatic 81, 3) := by decide +kernel
theorem dL_law_153 : decode cL_law 153 = .ok (.istore 5, 2) := by decide +kernel
theorem dL_law_155 : decode cL_law 155 = .ok (.aload_n 2, 1) := by decide +kernel
theorem dL_law_156 : decode cL_law 156 = .ok (.invokevirtual 86, 3) := by decide +kernel
theorem dL_law_159 : decode cL_law 159 = .ok (.istore 6, 2) := by decide +kernel
theorem dL_law_161 : decode cL_law 161 = .ok (.aload_n 2, 1) := by decide +kernel
theorem dL_law_162 : decode cL_law 162 = .ok (.invokevirtual 87, 3) := by decide +kernel
theorem dL_law_165 : decode cL_law 165 = .ok (.iload 5, 2) := by decide +kernel
theorem dL_law_167 : decode cL_law 167 = .ok (.if_icmp .eq 5, 3) := by decide +kernel
theorem dL_law_170 : decode cL_law 170 = .ok (.iconst 0, 1) := by decide +kernel
theorem dL_law_171 : decode cL_law 171 = .ok (.ireturn, 1) := by decide +kernel
theorem dL_law_172 : decode cL_law 172 = .ok (.iload 5, 2) := by decide +kernel
theorem dL_law_174 : decode cL_law 174 = .ok (.ifCond .ne 15, 3) := by decide +kernel
theorem dL_law_177 : decode cL_law 177 = .ok (.aload_n 3, 1) := by decide +kernel
theorem dL_law_178 : decode cL_law 178 = .ok (.iconst 0, 1) := by decide +kernel
theorem dL_law_179 : decode cL_law 179 = .ok (.laload, 1) := by decide +kernel
theorem dL_law_180 : decode cL_law 180 = .ok (.iload 6, 2) := by decide +kernel
theorem dL_law_182 : decode cL_law 182 = .ok (.i2l, 1) := by decide +kernel
theorem dL_law_183 : decode cL_law 183 = .ok (.lcmp, 1) := by decide +kernel
theorem dL_law_184 : decode cL_law 184 = .ok (.ifCond .eq 5, 3) := by decide +kernel
theorem dL_law_187 : decode cL_law 187 = .ok (.iconst 0, 1) := by decide +kernel
theorem dL_law_188 : decode cL_law 188 = .ok (.ireturn, 1) := by decide +kernel
theorem dL_law_189 : decode cL_law 189 = .ok (.goto 1269, 3) := by decide +kernel
theorem dL_law_192 : decode cL_law 192 = .ok (.aload_n 1, 1) := by decide +kernel
theorem dL_law_193 : decode cL_law 193 = .ok (.aload_n 0, 1) := by decide +kernel
theorem dL_law_194 : decode cL_law 194 = .ok (.iload 4, 2) := by decide +kernel
theorem dL_law_196 : decode cL_law 196 = .ok (.iconst 1, 1) := by decide +kernel
theorem dL_law_197 : decode cL_law 197 = .ok (.iadd, 1) := by decide +kernel
theorem dL_law_198 : decode cL_law 198 = .ok (.iaload, 1) := by decide +kernel
theorem dL_law_199 : decode cL_law 199 = .ok (.aload_n 0, 1) := by decide +kernel
theorem dL_law_200 : decode cL_law 200 = .ok (.iload 4, 2) := by decide +kernel
theorem dL_law_202 : decode cL_law 202 = .ok (.iconst 2, 1) := by decide +kernel
theorem dL_law_203 : decode cL_law 203 = .ok (.iadd, 1) := by decide +kernel
theorem dL_law_204 : decode cL_law 204 = .ok (.iaload, 1) := by decide +kernel
theorem dL_law_205 : decode cL_law 205 = .ok (.aload_n 3, 1) := by decide +kernel
theorem dL_law_206 : decode cL_law 206 = .ok (.invokestatic 90, 3) := by decide +kernel
theorem dL_law_209 : decode cL_law 209 = .ok (.istore 5, 2) := by decide +kernel
theorem dL_law_211 : decode cL_law 211 = .ok (.aload_n 2, 1) := by decide +kernel
theorem dL_law_212 : decode cL_law 212 = .ok (.aload_n 0, 1) := by decide +kernel
theorem dL_law_213 : decode cL_law 213 = .ok (.iload 4, 2) := by decide +kernel
theorem dL_law_215 : decode cL_law 215 = .ok (.iconst 1, 1) := by decide +kernel
theorem dL_law_216 : decode cL_law 216 = .ok (.iadd, 1) := by decide +kernel
theorem dL_law_217 : decode cL_law 217 = .ok (.iaload, 1) := by decide +kernel
theorem dL_law_218 : decode cL_law 218 = .ok (.aload_n 0, 1) := by decide +kernel
theorem dL_law_219 : decode cL_law 219 = .ok (.iload 4, 2) := by decide +kernel
theorem dL_law_221 : decode cL_law 221 = .ok (.iconst 2, 1) := by decide +kernel
theorem dL_law_222 : decode cL_law 222 = .ok (.iadd, 1) := by decide +kernel
theorem dL_law_223 : decode cL_law 223 = .ok (.iaload, 1) := by decide +kernel
theorem dL_law_224 : decode cL_law 224 = .ok (.invokevirtual 93, 3) := by decide +kernel
theorem dL_law_227 : decode cL_law 227 = .ok (.istore 6, 2) := by decide +kernel
theorem dL_law_229 : decode cL_law 229 = .ok (.aload_n 2, 1) := by decide +kernel
theorem dL_law_230 : decode cL_law 230 = .ok (.invokevirtual 87, 3) := by decide +kernel
theorem dL_law_233 : decode cL_law 233 = .ok (.iload 5, 2) := by decide +kernel
theorem dL_law_235 : decode cL_law 235 = .ok (.if_icmp .eq 5, 3) := by decide +kernel
theorem dL_law_238 : decode cL_law 238 = .ok (.iconst 0, 1) := by decide +kernel
theorem dL_law_239 : decode cL_law 239 = .ok (.ireturn, 1) := by decide +kernel
theorem dL_law_240 : decode cL_law 240 = .ok (.iload 5, 2) := by decide +kernel
theorem dL_law_242 : decode cL_law 242 = .ok (.ifCond .ne 15, 3) := by decide +kernel
theorem dL_law_245 : decode cL_law 245 = .ok (.aload_n 3, 1) := by decide +kernel
theorem dL_law_246 : decode cL_law 246 = .ok (.iconst 0, 1) := by decide +kernel
theorem dL_law_247 : decode cL_law 247 = .ok (.laload, 1) := by decide +kernel
theorem dL_law_248 : decode cL_law 248 = .ok (.iload 6, 2) := by decide +kernel
theorem dL_law_250 : decode cL_law 250 = .ok (.i2l, 1) := by decide +kernel
theorem dL_law_251 : decode cL_law 251 = .ok (.lcmp, 1) := by decide +kernel
theorem dL_law_252 : decode cL_law 252 = .ok (.ifCond .eq 5, 3) := by decide +kernel
theorem dL_law_255 : decode cL_law 255 = .ok (.iconst 0, 1) := by decide +kernel
theorem dL_law_256 : decode cL_law 256 = .ok (.ireturn, 1) := by decide +kernel
theorem dL_law_257 : decode cL_law 257 = .ok (.goto 1201, 3) := by decide +kernel
theorem dL_law_260 : decode cL_law 260 = .ok (.aload_n 1, 1) := by decide +kernel
theorem dL_law_261 : decode cL_law 261 = .ok (.aload_n 0, 1) := by decide +kernel
theorem dL_law_262 : decode cL_law 262 = .ok (.iload 4, 2) := by decide +kernel
theorem dL_law_264 : decode cL_law 264 = .ok (.iconst 1, 1) := by decide +kernel
theorem dL_law_265 : decode cL_law 265 = .ok (.iadd, 1) := by decide +kernel
theorem dL_law_266 : decode cL_law 266 = .ok (.iaload, 1) := by decide +kernel
theorem dL_law_267 : decode cL_law 267 = .ok (.aload_n 0, 1) := by decide +kernel
theorem dL_law_268 : decode cL_law 268 = .ok (.iload 4, 2) := by decide +kernel
theorem dL_law_270 : decode cL_law 270 = .ok (.iconst 2, 1) := by decide +kernel
theorem dL_law_271 : decode cL_law 271 = .ok (.iadd, 1) := by decide +kernel
theorem dL_law_272 : decode cL_law 272 = .ok (.iaload, 1) := by decide +kernel
theorem dL_law_273 : decode cL_law 273 = .ok (.aload_n 0, 1) := by decide +kernel
theorem dL_law_274 : decode cL_law 274 = .ok (.iload 4, 2) := by decide +kernel
theorem dL_law_276 : decode cL_law 276 = .ok (.iconst 3, 1) := by decide +kernel
theorem dL_law_277 : decode cL_law 277 = .ok (.iadd, 1) := by decide +kernel
theorem dL_law_278 : decode cL_law 278 = .ok (.iaload, 1) := by decide +kernel
theorem dL_law_279 : decode cL_law 279 = .ok (.aload_n 3, 1) := by decide +kernel
theorem dL_law_280 : decode cL_law 280 = .ok (.invokestatic 94, 3) := by decide +kernel
theorem dL_law_283 : decode cL_law 283 = .ok (.istore 5, 2) := by decide +kernel
theorem dL_law_285 : decode cL_law 285 = .ok (.aload_n 2, 1) := by decide +kernel
theorem dL_law_286 : decode cL_law 286 = .ok (.aload_n 0, 1) := by decide +kernel
theorem dL_law_287 : decode cL_law 287 = .ok (.iload 4, 2) := by decide +kernel
theorem dL_law_289 : decode cL_law 289 = .ok (.iconst 1, 1) := by decide +kernel
theorem dL_law_290 : decode cL_law 290 = .ok (.iadd, 1) := by decide +kernel
theorem dL_law_291 : decode cL_law 291 = .ok (.iaload, 1) := by decide +kernel
theorem dL_law_292 : decode cL_law 292 = .ok (.aload_n 0, 1) := by decide +kernel
theorem dL_law_293 : decode cL_law 293 = .ok (.iload 4, 2) := by decide +kernel
theorem dL_law_295 : decode cL_law 295 = .ok (.iconst 2, 1) := by decide +kernel
theorem dL_law_296 : decode cL_law 296 = .ok (.iadd, 1) := by decide +kernel
theorem dL_law_297 : decode cL_law 297 = .ok (.iaload, 1) := by decide +kernel
theorem dL_law_298 : decode cL_law 298 = .ok (.aload_n 0, 1) := by decide +kernel
theorem dL_law_299 : decode cL_law 299 = .ok (.iload 4, 2) := by decide +kernel
theorem dL_law_301 : decode cL_law 301 = .ok (.iconst 3, 1) := by decide +kernel
theorem dL_law_302 : decode cL_law 302 = .ok (.iadd, 1) := by decide +kernel
theorem dL_law_303 : decode cL_law 303 = .ok (.iaload, 1) := by decide +kernel
theorem dL_law_304 : decode cL_law 304 = .ok (.invokevirtual 97, 3) := by decide +kernel
theorem dL_law_307 : decode cL_law 307 = .ok (.istore 6, 2) := by decide +kernel
theorem dL_law_309 : decode cL_law 309 = .ok (.aload_n 2, 1) := by decide +kernel
theorem dL_law_310 : decode cL_law 310 = .ok (.invokevirtual 87, 3) := by decide +kernel
theorem dL_law_313 : decode cL_law 313 = .ok (.iload 5, 2) := by decide +kernel
theorem dL_law_315 : decode cL_law 315 = .ok (.if_icmp .eq 5, 3) := by decide +kernel
theorem dL_law_318 : decode cL_law 318 = .ok (.iconst 0, 1) := by decide +kernel
theorem dL_law_319 : decode cL_law 319 = .ok (.ireturn, 1) := by decide +kernel
theorem dL_law_320 : decode cL_law 320 = .ok (.iload 5, 2) := by decide +kernel
theorem dL_law_322 : decode cL_law 322 = .ok (.ifCond .ne 15, 3) := by decide +kernel
theorem dL_law_325 : decode cL_law 325 = .ok (.aload_n 3, 1) := by decide +kernel
theorem dL_law_326 : decode cL_law 326 = .ok (.iconst 0, 1) := by decide +kernel
theorem dL_law_327 : decode cL_law 327 = .ok (.laload, 1) := by decide +kernel
theorem dL_law_328 : decode cL_law 328 = .ok (.iload 6, 2) := by decide +kernel
theorem dL_law_330 : decode cL_law 330 = .ok (.i2l, 1) := by decide +kernel
theorem dL_law_331 : decode cL_law 331 = .ok (.lcmp, 1) := by decide +kernel
theorem dL_law_332 : decode cL_law 332 = .ok (.ifCond .eq 5, 3) := by decide +kernel
theorem dL_law_335 : decode cL_law 335 = .ok (.iconst 0, 1) := by decide +kernel
theorem dL_law_336 : decode cL_law 336 = .ok (.ireturn, 1) := by decide +kernel
theorem dL_law_337 : decode cL_law 337 = .ok (.goto 1121, 3) := by decide +kernel
theorem dL_law_340 : decode cL_law 340 = .ok (.aload_n 1, 1) := by decide +kernel
theorem dL_law_341 : decode cL_law 341 = .ok (.aload_n 0, 1) := by decide +kernel
theorem dL_law_342 : decode cL_law 342 = .ok (.iload 4, 2) := by decide +kernel
theorem dL_law_344 : decode cL_law 344 = .ok (.iconst 1, 1) := by decide +kernel
theorem dL_law_345 : decode cL_law 345 = .ok (.iadd, 1) := by decide +kernel
theorem dL_law_346 : decode cL_law 346 = .ok (.iaload, 1) := by decide +kernel
theorem dL_law_347 : decode cL_law 347 = .ok (.aload_n 0, 1) := by decide +kernel
theorem dL_law_348 : decode cL_law 348 = .ok (.iload 4, 2) := by decide +kernel
theorem dL_law_350 : decode cL_law 350 = .ok (.iconst 2, 1) := by decide +kernel
theorem dL_law_351 : decode cL_law 351 = .ok (.iadd, 1) := by decide +kernel
theorem dL_law_352 : decode cL_law 352 = .ok (.iaload, 1) := by decide +kernel
theorem dL_law_353 : decode cL_law 353 = .ok (.ifCond .eq 7, 3) := by decide +kernel
theorem dL_law_356 : decode cL_law 356 = .ok (.iconst 1, 1) := by decide +kernel
theorem dL_law_357 : decode cL_law 357 = .ok (.goto 4, 3) := by decide +kernel
theorem dL_law_360 : decode cL_law 360 = .ok (.iconst 0, 1) := by decide +kernel
theorem dL_law_361 : decode cL_law 361 = .ok (.aload_n 3, 1) := by decide +kernel
theorem dL_law_362 : decode cL_law 362 = .ok (.invokestatic 98, 3) := by decide +kernel
theorem dL_law_365 : decode cL_law 365 = .ok (.istore 5, 2) := by decide +kernel
theorem dL_law_367 : decode cL_law 367 = .ok (.aload_n 2, 1) := by decide +kernel
theorem dL_law_368 : decode cL_law 368 = .ok (.aload_n 0, 1) := by decide +kernel
theorem dL_law_369 : decode cL_law 369 = .ok (.iload 4, 2) := by decide +kernel
theorem dL_law_371 : decode cL_law 371 = .ok (.iconst 1, 1) := by decide +kernel
theorem dL_law_372 : decode cL_law 372 = .ok (.iadd, 1) := by decide +kernel
theorem dL_law_373 : decode cL_law 373 = .ok (.iaload, 1) := by decide +kernel
theorem dL_law_374 : decode cL_law 374 = .ok (.aload_n 0, 1) := by decide +kernel
theorem dL_law_375 : decode cL_law 375 = .ok (.iload 4, 2) := by decide +kernel
theorem dL_law_377 : decode cL_law 377 = .ok (.iconst 2, 1) := by decide +kernel
theorem dL_law_378 : decode cL_law 378 = .ok (.iadd, 1) := by decide +kernel
theorem dL_law_379 : decode cL_law 379 = .ok (.iaload, 1) := by decide +kernel
theorem dL_law_380 : decode cL_law 380 = .ok (.ifCond .eq 7, 3) := by decide +kernel
theorem dL_law_383 : decode cL_law 383 = .ok (.iconst 1, 1) := by decide +kernel
theorem dL_law_384 : decode cL_law 384 = .ok (.goto 4, 3) := by decide +kernel
theorem dL_law_387 : decode cL_law 387 = .ok (.iconst 0, 1) := by decide +kernel
theorem dL_law_388 : decode cL_law 388 = .ok (.invokevirtual 101, 3) := by decide +kernel
theorem dL_law_391 : decode cL_law 391 = .ok (.istore 6, 2) := by decide +kernel
theorem dL_law_393 : decode cL_law 393 = .ok (.aload_n 2, 1) := by decide +kernel
theorem dL_law_394 : decode cL_law 394 = .ok (.invokevirtual 87, 3) := by decide +kernel
theorem dL_law_397 : decode cL_law 397 = .ok (.iload 5, 2) := by decide +kernel
theorem dL_law_399 : decode cL_law 399 = .ok (.if_icmp .eq 5, 3) := by decide +kernel
theorem dL_law_402 : decode cL_law 402 = .ok (.iconst 0, 1) := by decide +kernel
theorem dL_law_403 : decode cL_law 403 = .ok (.ireturn, 1) := by decide +kernel
theorem dL_law_404 : decode cL_law 404 = .ok (.iload 5, 2) := by decide +kernel
theorem dL_law_406 : decode cL_law 406 = .ok (.ifCond .ne 15, 3) := by decide +kernel
theorem dL_law_409 : decode cL_law 409 = .ok (.aload_n 3, 1) := by decide +kernel
theorem dL_law_410 : decode cL_law 410 = .ok (.iconst 0, 1) := by decide +kernel
theorem dL_law_411 : decode cL_law 411 = .ok (.laload, 1) := by decide +kernel
theorem dL_law_412 : decode cL_law 412 = .ok (.iload 6, 2) := by decide +kernel
theorem dL_law_414 : decode cL_law 414 = .ok (.i2l, 1) := by decide +kernel
theorem dL_law_415 : decode cL_law 415 = .ok (.lcmp, 1) := by decide +kernel
theorem dL_law_416 : decode cL_law 416 = .ok (.ifCond .eq 5, 3) := by decide +kernel
theorem dL_law_419 : decode cL_law 419 = .ok (.iconst 0, 1) := by decide +kernel
theorem dL_law_420 : decode cL_law 420 = .ok (.ireturn, 1) := by decide +kernel
theorem dL_law_421 : decode cL_law 421 = .ok (.goto 1037, 3) := by decide +kernel
theorem dL_law_424 : decode cL_law 424 = .ok (.aload_n 1, 1) := by decide +kernel
theorem dL_law_425 : decode cL_law 425 = .ok (.aload_n 0, 1) := by decide +kernel
theorem dL_law_426 : decode cL_law 426 = .ok (.iload 4, 2) := by decide +kernel
theorem dL_law_428 : decode cL_law 428 = .ok (.iconst 1, 1) := by decide +kernel
theorem dL_law_429 : decode cL_law 429 = .ok (.iadd, 1) := by decide +kernel
theorem dL_law_430 : decode cL_law 430 = .ok (.iaload, 1) := by decide +kernel
theorem dL_law_431 : decode cL_law 431 = .ok (.aload_n 0, 1) := by decide +kernel
theorem dL_law_432 : decode cL_law 432 = .ok (.iload 4, 2) := by decide +kernel
theorem dL_law_434 : decode cL_law 434 = .ok (.iconst 2, 1) := by decide +kernel
theorem dL_law_435 : decode cL_law 435 = .ok (.iadd, 1) := by decide +kernel
theorem dL_law_436 : decode cL_law 436 = .ok (.iaload, 1) := by decide +kernel
theorem dL_law_437 : decode cL_law 437 = .ok (.ifCond .eq 7, 3) := by decide +kernel
theorem dL_law_440 : decode cL_law 440 = .ok (.iconst 1, 1) := by decide +kernel
theorem dL_law_441 : decode cL_law 441 = .ok (.goto 4, 3) := by decide +kernel
theorem dL_law_444 : decode cL_law 444 = .ok (.iconst 0, 1) := by decide +kernel
theorem dL_law_445 : decode cL_law 445 = .ok (.aload_n 3, 1) := by decide +kernel
theorem dL_law_446 : decode cL_law 446 = .ok (.invokestatic 102, 3) := by decide +kernel
theorem dL_law_449 : decode cL_law 449 = .ok (.istore 5, 2) := by decide +kernel
theorem dL_law_451 : decode cL_law 451 = .ok (.aload_n 2, 1) := by decide +kernel
theorem dL_law_452 : decode cL_law 452 = .ok (.aload_n 0, 1) := by decide +kernel
theorem dL_law_453 : decode cL_law 453 = .ok (.iload 4, 2) := by decide +kernel
theorem dL_law_455 : decode cL_law 455 = .ok (.iconst 1, 1) := by decide +kernel
theorem dL_law_456 : decode cL_law 456 = .ok (.iadd, 1) := by decide +kernel
theorem dL_law_457 : decode cL_law 457 = .ok (.iaload, 1) := by decide +kernel
theorem dL_law_458 : decode cL_law 458 = .ok (.aload_n 0, 1) := by decide +kernel
theorem dL_law_459 : decode cL_law 459 = .ok (.iload 4, 2) := by decide +kernel
theorem dL_law_461 : decode cL_law 461 = .ok (.iconst 2, 1) := by decide +kernel
theorem dL_law_462 : decode cL_law 462 = .ok (.iadd, 1) := by decide +kernel
theorem dL_law_463 : decode cL_law 463 = .ok (.iaload, 1) := by decide +kernel
theorem dL_law_464 : decode cL_law 464 = .ok (.ifCond .eq 7, 3) := by decide +kernel
theorem dL_law_467 : decode cL_law 467 = .ok (.iconst 1, 1) := by decide +kernel
theorem dL_law_468 : decode cL_law 468 = .ok (.goto 4, 3) := by decide +kernel
theorem dL_law_471 : decode cL_law 471 = .ok (.iconst 0, 1) := by decide +kernel
theorem dL_law_472 : decode cL_law 472 = .ok (.invokevirtual 104, 3) := by decide +kernel
theorem dL_law_475 : decode cL_law 475 = .ok (.istore 6, 2) := by decide +kernel
theorem dL_law_477 : decode cL_law 477 = .ok (.aload_n 2, 1) := by decide +kernel
theorem dL_law_478 : decode cL_law 478 = .ok (.invokevirtual 87, 3) := by decide +kernel
theorem dL_law_481 : decode cL_law 481 = .ok (.iload 5, 2) := by decide +kernel
theorem dL_law_483 : decode cL_law 483 = .ok (.if_icmp .eq 5, 3) := by decide +kernel
theorem dL_law_486 : decode cL_law 486 = .ok (.iconst 0, 1) := by decide +kernel
theorem dL_law_487 : decode cL_law 487 = .ok (.ireturn, 1) := by decide +kernel
theorem dL_law_488 : decode cL_law 488 = .ok (.iload 5, 2) := by decide +kernel
theorem dL_law_490 : decode cL_law 490 = .ok (.ifCond .ne 15, 3) := by decide +kernel
theorem dL_law_493 : decode cL_law 493 = .ok (.aload_n 3, 1) := by decide +kernel
theorem dL_law_494 : decode cL_law 494 = .ok (.iconst 0, 1) := by decide +kernel
theorem dL_law_495 : decode cL_law 495 = .ok (.laload, 1) := by decide +kernel
theorem dL_law_496 : decode cL_law 496 = .ok (.iload 6, 2) := by decide +kernel
theorem dL_law_498 : decode cL_law 498 = .ok (.i2l, 1) := by decide +kernel
theorem dL_law_499 : decode cL_law 499 = .ok (.lcmp, 1) := by decide +kernel
theorem dL_law_500 : decode cL_law 500 = .ok (.ifCond .eq 5, 3) := by decide +kernel
theorem dL_law_503 : decode cL_law 503 = .ok (.iconst 0, 1) := by decide +kernel
theorem dL_law_504 : decode cL_law 504 = .ok (.ireturn, 1) := by decide +kernel
theorem dL_law_505 : decode cL_law 505 = .ok (.goto 953, 3) := by decide +kernel
theorem dL_law_508 : decode cL_law 508 = .ok (.aload_n 1, 1) := by decide +kernel
theorem dL_law_509 : decode cL_law 509 = .ok (.aload_n 0, 1) := by decide +kernel
theorem dL_law_510 : decode cL_law 510 = .ok (.iload 4, 2) := by decide +kernel
theorem dL_law_512 : decode cL_law 512 = .ok (.iconst 1, 1) := by decide +kernel
theorem dL_law_513 : decode cL_law 513 = .ok (.iadd, 1) := by decide +kernel
theorem dL_law_514 : decode cL_law 514 = .ok (.iaload, 1) := by decide +kernel
theorem dL_law_515 : decode cL_law 515 = .ok (.aload_n 0, 1) := by decide +kernel
theorem dL_law_516 : decode cL_law 516 = .ok (.iload 4, 2) := by decide +kernel
theorem dL_law_518 : decode cL_law 518 = .ok (.iconst 2, 1) := by decide +kernel
theorem dL_law_519 : decode cL_law 519 = .ok (.iadd, 1) := by decide +kernel
theorem dL_law_520 : decode cL_law 520 = .ok (.iaload, 1) := by decide +kernel
theorem dL_law_521 : decode cL_law 521 = .ok (.aload_n 3, 1) := by decide +kernel
theorem dL_law_522 : decode cL_law 522 = .ok (.invokestatic 105, 3) := by decide +kernel
theorem dL_law_525 : decode cL_law 525 = .ok (.istore 5, 2) := by decide +kernel
theorem dL_law_527 : decode cL_law 527 = .ok (.aload_n 2, 1) := by decide +kernel
theorem dL_law_528 : decode cL_law 528 = .ok (.aload_n 0, 1) := by decide +kernel
theorem dL_law_529 : decode cL_law 529 = .ok (.iload 4, 2) := by decide +kernel
theorem dL_law_531 : decode cL_law 531 = .ok (.iconst 1, 1) := by decide +kernel
theorem dL_law_532 : decode cL_law 532 = .ok (.iadd, 1) := by decide +kernel
theorem dL_law_533 : decode cL_law 533 = .ok (.iaload, 1) := by decide +kernel
theorem dL_law_534 : decode cL_law 534 = .ok (.aload_n 0, 1) := by decide +kernel
theorem dL_law_535 : decode cL_law 535 = .ok (.iload 4, 2) := by decide +kernel
theorem dL_law_537 : decode cL_law 537 = .ok (.iconst 2, 1) := by decide +kernel
theorem dL_law_538 : decode cL_law 538 = .ok (.iadd, 1) := by decide +kernel
theorem dL_law_539 : decode cL_law 539 = .ok (.iaload, 1) := by decide +kernel
theorem dL_law_540 : decode cL_law 540 = .ok (.invokevirtual 107, 3) := by decide +kernel
theorem dL_law_543 : decode cL_law 543 = .ok (.istore 6, 2) := by decide +kernel
theorem dL_law_545 : decode cL_law 545 = .ok (.aload_n 2, 1) := by decide +kernel
theorem dL_law_546 : decode cL_law 546 = .ok (.invokevirtual 87, 3) := by decide +kernel
theorem dL_law_549 : decode cL_law 549 = .ok (.iload 5, 2) := by decide +kernel
theorem dL_law_551 : decode cL_law 551 = .ok (.if_icmp .eq 5, 3) := by decide +kernel
theorem dL_law_554 : decode cL_law 554 = .ok (.iconst 0, 1) := by decide +kernel
theorem dL_law_555 : decode cL_law 555 = .ok (.ireturn, 1) := by decide +kernel
theorem dL_law_556 : decode cL_law 556 = .ok (.iload 5, 2) := by decide +kernel
theorem dL_law_558 : decode cL_law 558 = .ok (.ifCond .ne 15, 3) := by decide +kernel
theorem dL_law_561 : decode cL_law 561 = .ok (.aload_n 3, 1) := by decide +kernel
theorem dL_law_562 : decode cL_law 562 = .ok (.iconst 0, 1) := by decide +kernel
theorem dL_law_563 : decode cL_law 563 = .ok (.laload, 1) := by decide +kernel
theorem dL_law_564 : decode cL_law 564 = .ok (.iload 6, 2) := by decide +kernel
theorem dL_law_566 : decode cL_law 566 = .ok (.i2l, 1) := by decide +kernel
theorem dL_law_567 : decode cL_law 567 = .ok (.lcmp, 1) := by decide +kernel
theorem dL_law_568 : decode cL_law 568 = .ok (.ifCond .eq 5, 3) := by decide +kernel
theorem dL_law_571 : decode cL_law 571 = .ok (.iconst 0, 1) := by decide +kernel
theorem dL_law_572 : decode cL_law 572 = .ok (.ireturn, 1) := by decide +kernel
theorem dL_law_573 : decode cL_law 573 = .ok (.goto 885, 3) := by decide +kernel
theorem dL_law_576 : decode cL_law 576 = .ok (.aload_n 1, 1) := by decide +kernel
theorem dL_law_577 : decode cL_law 577 = .ok (.aload_n 0, 1) := by decide +kernel
theorem dL_law_578 : decode cL_law 578 = .ok (.iload 4, 2) := by decide +kernel
theorem dL_law_580 : decode cL_law 580 = .ok (.iconst 1, 1) := by decide +kernel
theorem dL_law_581 : decode cL_law 581 = .ok (.iadd, 1) := by decide +kernel
theorem dL_law_582 : decode cL_law 582 = .ok (.iaload, 1) := by decide +kernel
theorem dL_law_583 : decode cL_law 583 = .ok (.aload_n 3, 1) := by decide +kernel
theorem dL_law_584 : decode cL_law 584 = .ok (.invokestatic 108, 3) := by decide +kernel
theorem dL_law_587 : decode cL_law 587 = .ok (.istore 5, 2) := by decide +kernel
theorem dL_law_589 : decode cL_law 589 = .ok (.aload_n 2, 1) := by decide +kernel
theorem dL_law_590 : decode cL_law 590 = .ok (.aload_n 0, 1) := by decide +kernel
theorem dL_law_591 : decode cL_law 591 = .ok (.iload 4, 2) := by decide +kernel
theorem dL_law_593 : decode cL_law 593 = .ok (.iconst 1, 1) := by decide +kernel
theorem dL_law_594 : decode cL_law 594 = .ok (.iadd, 1) := by decide +kernel
theorem dL_law_595 : decode cL_law 595 = .ok (.iaload, 1) := by decide +kernel
theorem dL_law_596 : decode cL_law 596 = .ok (.invokevirtual 111, 3) := by decide +kernel
theorem dL_law_599 : decode cL_law 599 = .ok (.istore 6, 2) := by decide +kernel
theorem dL_law_601 : decode cL_law 601 = .ok (.aload_n 2, 1) := by decide +kernel
theorem dL_law_602 : decode cL_law 602 = .ok (.invokevirtual 87, 3) := by decide +kernel
theorem dL_law_605 : decode cL_law 605 = .ok (.iload 5, 2) := by decide +kernel
theorem dL_law_607 : decode cL_law 607 = .ok (.if_icmp .eq 5, 3) := by decide +kernel
theorem dL_law_610 : decode cL_law 610 = .ok (.iconst 0, 1) := by decide +kernel
theorem dL_law_611 : decode cL_law 611 = .ok (.ireturn, 1) := by decide +kernel
theorem dL_law_612 : decode cL_law 612 = .ok (.iload 5, 2) := by decide +kernel
theorem dL_law_614 : decode cL_law 614 = .ok (.ifCond .ne 15, 3) := by decide +kernel
theorem dL_law_617 : decode cL_law 617 = .ok (.aload_n 3, 1) := by decide +kernel
theorem dL_law_618 : decode cL_law 618 = .ok (.iconst 0, 1) := by decide +kernel
theorem dL_law_619 : decode cL_law 619 = .ok (.laload, 1) := by decide +kernel
theorem dL_law_620 : decode cL_law 620 = .ok (.iload 6, 2) := by decide +kernel
theorem dL_law_622 : decode cL_law 622 = .ok (.i2l, 1) := by decide +kernel
theorem dL_law_623 : decode cL_law 623 = .ok (.lcmp, 1) := by decide +kernel
theorem dL_law_624 : decode cL_law 624 = .ok (.ifCond .eq 5, 3) := by decide +kernel
theorem dL_law_627 : decode cL_law 627 = .ok (.iconst 0, 1) := by decide +kernel
theorem dL_law_628 : decode cL_law 628 = .ok (.ireturn, 1) := by decide +kernel
theorem dL_law_629 : decode cL_law 629 = .ok (.goto 829, 3) := by decide +kernel
theorem dL_law_632 : decode cL_law 632 = .ok (.aload_n 1, 1) := by decide +kernel
theorem dL_law_633 : decode cL_law 633 = .ok (.aload_n 0, 1) := by decide +kernel
theorem dL_law_634 : decode cL_law 634 = .ok (.iload 4, 2) := by decide +kernel
theorem dL_law_636 : decode cL_law 636 = .ok (.iconst 1, 1) := by decide +kernel
theorem dL_law_637 : decode cL_law 637 = .ok (.iadd, 1) := by decide +kernel
theorem dL_law_638 : decode cL_law 638 = .ok (.iaload, 1) := by decide +kernel
theorem dL_law_639 : decode cL_law 639 = .ok (.aload_n 0, 1) := by decide +kernel
theorem dL_law_640 : decode cL_law 640 = .ok (.iload 4, 2) := by decide +kernel
theorem dL_law_642 : decode cL_law 642 = .ok (.iconst 2, 1) := by decide +kernel
theorem dL_law_643 : decode cL_law 643 = .ok (.iadd, 1) := by decide +kernel
theorem dL_law_644 : decode cL_law 644 = .ok (.iaload, 1) := by decide +kernel
theorem dL_law_645 : decode cL_law 645 = .ok (.aload_n 3, 1) := by decide +kernel
theorem dL_law_646 : decode cL_law 646 = .ok (.invokestatic 112, 3) := by decide +kernel
theorem dL_law_649 : decode cL_law 649 = .ok (.istore 5, 2) := by decide +kernel
theorem dL_law_651 : decode cL_law 651 = .ok (.aload_n 2, 1) := by decide +kernel
theorem dL_law_652 : decode cL_law 652 = .ok (.aload_n 0, 1) := by decide +kernel
theorem dL_law_653 : decode cL_law 653 = .ok (.iload 4, 2) := by decide +kernel
theorem dL_law_655 : decode cL_law 655 = .ok (.iconst 1, 1) := by decide +kernel
theorem dL_law_656 : decode cL_law 656 = .ok (.iadd, 1) := by decide +kernel
theorem dL_law_657 : decode cL_law 657 = .ok (.iaload, 1) := by decide +kernel
theorem dL_law_658 : decode cL_law 658 = .ok (.aload_n 0, 1) := by decide +kernel
theorem dL_law_659 : decode cL_law 659 = .ok (.iload 4, 2) := by decide +kernel
theorem dL_law_661 : decode cL_law 661 = .ok (.iconst 2, 1) := by decide +kernel
theorem dL_law_662 : decode cL_law 662 = .ok (.iadd, 1) := by decide +kernel
theorem dL_law_663 : decode cL_law 663 = .ok (.iaload, 1) := by decide +kernel
theorem dL_law_664 : decode cL_law 664 = .ok (.invokevirtual 114, 3) := by decide +kernel
theorem dL_law_667 : decode cL_law 667 = .ok (.istore 6, 2) := by decide +kernel
theorem dL_law_669 : decode cL_law 669 = .ok (.aload_n 2, 1) := by decide +kernel
theorem dL_law_670 : decode cL_law 670 = .ok (.invokevirtual 87, 3) := by decide +kernel
theorem dL_law_673 : decode cL_law 673 = .ok (.iload 5, 2) := by decide +kernel
theorem dL_law_675 : decode cL_law 675 = .ok (.if_icmp .eq 5, 3) := by decide +kernel
theorem dL_law_678 : decode cL_law 678 = .ok (.iconst 0, 1) := by decide +kernel
theorem dL_law_679 : decode cL_law 679 = .ok (.ireturn, 1) := by decide +kernel
theorem dL_law_680 : decode cL_law 680 = .ok (.iload 5, 2) := by decide +kernel
theorem dL_law_682 : decode cL_law 682 = .ok (.ifCond .ne 15, 3) := by decide +kernel
theorem dL_law_685 : decode cL_law 685 = .ok (.aload_n 3, 1) := by decide +kernel
theorem dL_law_686 : decode cL_law 686 = .ok (.iconst 0, 1) := by decide +kernel
theorem dL_law_687 : decode cL_law 687 = .ok (.laload, 1) := by decide +kernel
theorem dL_law_688 : decode cL_law 688 = .ok (.iload 6, 2) := by decide +kernel
theorem dL_law_690 : decode cL_law 690 = .ok (.i2l, 1) := by decide +kernel
theorem dL_law_691 : decode cL_law 691 = .ok (.lcmp, 1) := by decide +kernel
theorem dL_law_692 : decode cL_law 692 = .ok (.ifCond .eq 5, 3) := by decide +kernel
theorem dL_law_695 : decode cL_law 695 = .ok (.iconst 0, 1) := by decide +kernel
theorem dL_law_696 : decode cL_law 696 = .ok (.ireturn, 1) := by decide +kernel
theorem dL_law_697 : decode cL_law 697 = .ok (.goto 761, 3) := by decide +kernel
theorem dL_law_700 : decode cL_law 700 = .ok (.aload_n 1, 1) := by decide +kernel
theorem dL_law_701 : decode cL_law 701 = .ok (.aload_n 0, 1) := by decide +kernel
theorem dL_law_702 : decode cL_law 702 = .ok (.iload 4, 2) := by decide +kernel
theorem dL_law_704 : decode cL_law 704 = .ok (.iconst 1, 1) := by decide +kernel
theorem dL_law_705 : decode cL_law 705 = .ok (.iadd, 1) := by decide +kernel
theorem dL_law_706 : decode cL_law 706 = .ok (.iaload, 1) := by decide +kernel
theorem dL_law_707 : decode cL_law 707 = .ok (.aload_n 3, 1) := by decide +kernel
theorem dL_law_708 : decode cL_law 708 = .ok (.invokestatic 115, 3) := by decide +kernel
theorem dL_law_711 : decode cL_law 711 = .ok (.istore 5, 2) := by decide +kernel
theorem dL_law_713 : decode cL_law 713 = .ok (.aload_n 2, 1) := by decide +kernel
theorem dL_law_714 : decode cL_law 714 = .ok (.aload_n 0, 1) := by decide +kernel
theorem dL_law_715 : decode cL_law 715 = .ok (.iload 4, 2) := by decide +kernel
theorem dL_law_717 : decode cL_law 717 = .ok (.iconst 1, 1) := by decide +kernel
theorem dL_law_718 : decode cL_law 718 = .ok (.iadd, 1) := by decide +kernel
theorem dL_law_719 : decode cL_law 719 = .ok (.iaload, 1) := by decide +kernel
theorem dL_law_720 : decode cL_law 720 = .ok (.invokevirtual 117, 3) := by decide +kernel
theorem dL_law_723 : decode cL_law 723 = .ok (.istore 6, 2) := by decide +kernel
theorem dL_law_725 : decode cL_law 725 = .ok (.aload_n 2, 1) := by decide +kernel
theorem dL_law_726 : decode cL_law 726 = .ok (.invokevirtual 87, 3) := by decide +kernel
theorem dL_law_729 : decode cL_law 729 = .ok (.iload 5, 2) := by decide +kernel
theorem dL_law_731 : decode cL_law 731 = .ok (.if_icmp .eq 5, 3) := by decide +kernel
theorem dL_law_734 : decode cL_law 734 = .ok (.iconst 0, 1) := by decide +kernel
theorem dL_law_735 : decode cL_law 735 = .ok (.ireturn, 1) := by decide +kernel
theorem dL_law_736 : decode cL_law 736 = .ok (.iload 5, 2) := by decide +kernel
theorem dL_law_738 : decode cL_law 738 = .ok (.ifCond .ne 15, 3) := by decide +kernel
theorem dL_law_741 : decode cL_law 741 = .ok (.aload_n 3, 1) := by decide +kernel
theorem dL_law_742 : decode cL_law 742 = .ok (.iconst 0, 1) := by decide +kernel
theorem dL_law_743 : decode cL_law 743 = .ok (.laload, 1) := by decide +kernel
theorem dL_law_744 : decode cL_law 744 = .ok (.iload 6, 2) := by decide +kernel
theorem dL_law_746 : decode cL_law 746 = .ok (.i2l, 1) := by decide +kernel
theorem dL_law_747 : decode cL_law 747 = .ok (.lcmp, 1) := by decide +kernel
theorem dL_law_748 : decode cL_law 748 = .ok (.ifCond .eq 5, 3) := by decide +kernel
theorem dL_law_751 : decode cL_law 751 = .ok (.iconst 0, 1) := by decide +kernel
theorem dL_law_752 : decode cL_law 752 = .ok (.ireturn, 1) := by decide +kernel
theorem dL_law_753 : decode cL_law 753 = .ok (.goto 705, 3) := by decide +kernel
theorem dL_law_756 : decode cL_law 756 = .ok (.aload_n 1, 1) := by decide +kernel
theorem dL_law_757 : decode cL_law 757 = .ok (.invokevirtual 118, 3) := by decide +kernel
theorem dL_law_760 : decode cL_law 760 = .ok (.aload_n 2, 1) := by decide +kernel
theorem dL_law_761 : decode cL_law 761 = .ok (.invokevirtual 121, 3) := by decide +kernel
theorem dL_law_764 : decode cL_law 764 = .ok (.if_icmp .eq 694, 3) := by decide +kernel
theorem dL_law_767 : decode cL_law 767 = .ok (.iconst 0, 1) := by decide +kernel
theorem dL_law_768 : decode cL_law 768 = .ok (.ireturn, 1) := by decide +kernel
theorem dL_law_769 : decode cL_law 769 = .ok (.aload_n 1, 1) := by decide +kernel
theorem dL_law_770 : decode cL_law 770 = .ok (.invokevirtual 122, 3) := by decide +kernel
theorem dL_law_773 : decode cL_law 773 = .ok (.aload_n 2, 1) := by decide +kernel
theorem dL_law_774 : decode cL_law 774 = .ok (.invokevirtual 125, 3) := by decide +kernel
theorem dL_law_777 : decode cL_law 777 = .ok (.if_icmp .eq 681, 3) := by decide +kernel
theorem dL_law_780 : decode cL_law 780 = .ok (.iconst 0, 1) := by decide +kernel
theorem dL_law_781 : decode cL_law 781 = .ok (.ireturn, 1) := by decide +kernel
theorem dL_law_782 : decode cL_law 782 = .ok (.aload_n 1, 1) := by decide +kernel
theorem dL_law_783 : decode cL_law 783 = .ok (.aload_n 0, 1) := by decide +kernel
theorem dL_law_784 : decode cL_law 784 = .ok (.iload 4, 2) := by decide +kernel
theorem dL_law_786 : decode cL_law 786 = .ok (.iconst 1, 1) := by decide +kernel
theorem dL_law_787 : decode cL_law 787 = .ok (.iadd, 1) := by decide +kernel
theorem dL_law_788 : decode cL_law 788 = .ok (.iaload, 1) := by decide +kernel
theorem dL_law_789 : decode cL_law 789 = .ok (.aload_n 3, 1) := by decide +kernel
theorem dL_law_790 : decode cL_law 790 = .ok (.invokestatic 126, 3) := by decide +kernel
theorem dL_law_793 : decode cL_law 793 = .ok (.istore 5, 2) := by decide +kernel
theorem dL_law_795 : decode cL_law 795 = .ok (.aload_n 2, 1) := by decide +kernel
theorem dL_law_796 : decode cL_law 796 = .ok (.aload_n 0, 1) := by decide +kernel
theorem dL_law_797 : decode cL_law 797 = .ok (.iload 4, 2) := by decide +kernel
theorem dL_law_799 : decode cL_law 799 = .ok (.iconst 1, 1) := by decide +kernel
theorem dL_law_800 : decode cL_law 800 = .ok (.iadd, 1) := by decide +kernel
theorem dL_law_801 : decode cL_law 801 = .ok (.iaload, 1) := by decide +kernel
theorem dL_law_802 : decode cL_law 802 = .ok (.invokevirtual 128, 3) := by decide +kernel
theorem dL_law_805 : decode cL_law 805 = .ok (.istore 6, 2) := by decide +kernel
theorem dL_law_807 : decode cL_law 807 = .ok (.aload_n 2, 1) := by decide +kernel
theorem dL_law_808 : decode cL_law 808 = .ok (.invokevirtual 87, 3) := by decide +kernel
theorem dL_law_811 : decode cL_law 811 = .ok (.iload 5, 2) := by decide +kernel
theorem dL_law_813 : decode cL_law 813 = .ok (.if_icmp .eq 5, 3) := by decide +kernel
theorem dL_law_816 : decode cL_law 816 = .ok (.iconst 0, 1) := by decide +kernel
theorem dL_law_817 : decode cL_law 817 = .ok (.ireturn, 1) := by decide +kernel
theorem dL_law_818 : decode cL_law 818 = .ok (.iload 5, 2) := by decide +kernel
theorem dL_law_820 : decode cL_law 820 = .ok (.ifCond .ne 15, 3) := by decide +kernel
theorem dL_law_823 : decode cL_law 823 = .ok (.aload_n 3, 1) := by decide +kernel
theorem dL_law_824 : decode cL_law 824 = .ok (.iconst 0, 1) := by decide +kernel
theorem dL_law_825 : decode cL_law 825 = .ok (.laload, 1) := by decide +kernel
theorem dL_law_826 : decode cL_law 826 = .ok (.iload 6, 2) := by decide +kernel
theorem dL_law_828 : decode cL_law 828 = .ok (.i2l, 1) := by decide +kernel
theorem dL_law_829 : decode cL_law 829 = .ok (.lcmp, 1) := by decide +kernel
theorem dL_law_830 : decode cL_law 830 = .ok (.ifCond .eq 5, 3) := by decide +kernel
theorem dL_law_833 : decode cL_law 833 = .ok (.iconst 0, 1) := by decide +kernel
theorem dL_law_834 : decode cL_law 834 = .ok (.ireturn, 1) := by decide +kernel
theorem dL_law_835 : decode cL_law 835 = .ok (.goto 623, 3) := by decide +kernel
theorem dL_law_838 : decode cL_law 838 = .ok (.aload_n 1, 1) := by decide +kernel
theorem dL_law_839 : decode cL_law 839 = .ok (.aload_n 3, 1) := by decide +kernel
theorem dL_law_840 : decode cL_law 840 = .ok (.invokestatic 129, 3) := by decide +kernel
theorem dL_law_843 : decode cL_law 843 = .ok (.istore 5, 2) := by decide +kernel
theorem dL_law_845 : decode cL_law 845 = .ok (.aload_n 2, 1) := by decide +kernel
theorem dL_law_846 : decode cL_law 846 = .ok (.invokevirtual 131, 3) := by decide +kernel
theorem dL_law_849 : decode cL_law 849 = .ok (.istore 6, 2) := by decide +kernel
theorem dL_law_851 : decode cL_law 851 = .ok (.aload_n 2, 1) := by decide +kernel
theorem dL_law_852 : decode cL_law 852 = .ok (.invokevirtual 87, 3) := by decide +kernel
theorem dL_law_855 : decode cL_law 855 = .ok (.iload 5, 2) := by decide +kernel
theorem dL_law_857 : decode cL_law 857 = .ok (.if_icmp .eq 5, 3) := by decide +kernel
theorem dL_law_860 : decode cL_law 860 = .ok (.iconst 0, 1) := by decide +kernel
theorem dL_law_861 : decode cL_law 861 = .ok (.ireturn, 1) := by decide +kernel
theorem dL_law_862 : decode cL_law 862 = .ok (.iload 5, 2) := by decide +kernel
theorem dL_law_864 : decode cL_law 864 = .ok (.ifCond .ne 15, 3) := by decide +kernel
theorem dL_law_867 : decode cL_law 867 = .ok (.aload_n 3, 1) := by decide +kernel
theorem dL_law_868 : decode cL_law 868 = .ok (.iconst 0, 1) := by decide +kernel
theorem dL_law_869 : decode cL_law 869 = .ok (.laload, 1) := by decide +kernel
theorem dL_law_870 : decode cL_law 870 = .ok (.iload 6, 2) := by decide +kernel
theorem dL_law_872 : decode cL_law 872 = .ok (.i2l, 1) := by decide +kernel
theorem dL_law_873 : decode cL_law 873 = .ok (.lcmp, 1) := by decide +kernel
theorem dL_law_874 : decode cL_law 874 = .ok (.ifCond .eq 5, 3) := by decide +kernel
theorem dL_law_877 : decode cL_law 877 = .ok (.iconst 0, 1) := by decide +kernel
theorem dL_law_878 : decode cL_law 878 = .ok (.ireturn, 1) := by decide +kernel
theorem dL_law_879 : decode cL_law 879 = .ok (.goto 579, 3) := by decide +kernel
theorem dL_law_882 : decode cL_law 882 = .ok (.aload_n 1, 1) := by decide +kernel
theorem dL_law_883 : decode cL_law 883 = .ok (.aload_n 0, 1) := by decide +kernel
theorem dL_law_884 : decode cL_law 884 = .ok (.iload 4, 2) := by decide +kernel
theorem dL_law_886 : decode cL_law 886 = .ok (.iconst 1, 1) := by decide +kernel
theorem dL_law_887 : decode cL_law 887 = .ok (.iadd, 1) := by decide +kernel
theorem dL_law_888 : decode cL_law 888 = .ok (.iaload, 1) := by decide +kernel
theorem dL_law_889 : decode cL_law 889 = .ok (.aload_n 0, 1) := by decide +kernel
theorem dL_law_890 : decode cL_law 890 = .ok (.iload 4, 2) := by decide +kernel
theorem dL_law_892 : decode cL_law 892 = .ok (.iconst 2, 1) := by decide +kernel
theorem dL_law_893 : decode cL_law 893 = .ok (.iadd, 1) := by decide +kernel
theorem dL_law_894 : decode cL_law 894 = .ok (.iaload, 1) := by decide +kernel
theorem dL_law_895 : decode cL_law 895 = .ok (.aload_n 3, 1) := by decide +kernel
theorem dL_law_896 : decode cL_law 896 = .ok (.invokestatic 132, 3) := by decide +kernel
theorem dL_law_899 : decode cL_law 899 = .ok (.istore 5, 2) := by decide +kernel
theorem dL_law_901 : decode cL_law 901 = .ok (.aload_n 2, 1) := by decide +kernel
theorem dL_law_902 : decode cL_law 902 = .ok (.aload_n 0, 1) := by decide +kernel
theorem dL_law_903 : decode cL_law 903 = .ok (.iload 4, 2) := by decide +kernel
theorem dL_law_905 : decode cL_law 905 = .ok (.iconst 1, 1) := by decide +kernel
theorem dL_law_906 : decode cL_law 906 = .ok (.iadd, 1) := by decide +kernel
theorem dL_law_907 : decode cL_law 907 = .ok (.iaload, 1) := by decide +kernel
theorem dL_law_908 : decode cL_law 908 = .ok (.aload_n 0, 1) := by decide +kernel
theorem dL_law_909 : decode cL_law 909 = .ok (.iload 4, 2) := by decide +kernel
theorem dL_law_911 : decode cL_law 911 = .ok (.iconst 2, 1) := by decide +kernel
theorem dL_law_912 : decode cL_law 912 = .ok (.iadd, 1) := by decide +kernel
theorem dL_law_913 : decode cL_law 913 = .ok (.iaload, 1) := by decide +kernel
theorem dL_law_914 : decode cL_law 914 = .ok (.invokevirtual 134, 3) := by decide +kernel
theorem dL_law_917 : decode cL_law 917 = .ok (.istore 6, 2) := by decide +kernel
theorem dL_law_919 : decode cL_law 919 = .ok (.aload_n 2, 1) := by decide +kernel
theorem dL_law_920 : decode cL_law 920 = .ok (.invokevirtual 87, 3) := by decide +kernel
theorem dL_law_923 : decode cL_law 923 = .ok (.iload 5, 2) := by decide +kernel
theorem dL_law_925 : decode cL_law 925 = .ok (.if_icmp .eq 5, 3) := by decide +kernel
theorem dL_law_928 : decode cL_law 928 = .ok (.iconst 0, 1) := by decide +kernel
theorem dL_law_929 : decode cL_law 929 = .ok (.ireturn, 1) := by decide +kernel
theorem dL_law_930 : decode cL_law 930 = .ok (.iload 5, 2) := by decide +kernel
theorem dL_law_932 : decode cL_law 932 = .ok (.ifCond .ne 15, 3) := by decide +kernel
theorem dL_law_935 : decode cL_law 935 = .ok (.aload_n 3, 1) := by decide +kernel
theorem dL_law_936 : decode cL_law 936 = .ok (.iconst 0, 1) := by decide +kernel
theorem dL_law_937 : decode cL_law 937 = .ok (.laload, 1) := by decide +kernel
theorem dL_law_938 : decode cL_law 938 = .ok (.iload 6, 2) := by decide +kernel
theorem dL_law_940 : decode cL_law 940 = .ok (.i2l, 1) := by decide +kernel
theorem dL_law_941 : decode cL_law 941 = .ok (.lcmp, 1) := by decide +kernel
theorem dL_law_942 : decode cL_law 942 = .ok (.ifCond .eq 5, 3) := by decide +kernel
theorem dL_law_945 : decode cL_law 945 = .ok (.iconst 0, 1) := by decide +kernel
theorem dL_law_946 : decode cL_law 946 = .ok (.ireturn, 1) := by decide +kernel
theorem dL_law_947 : decode cL_law 947 = .ok (.goto 511, 3) := by decide +kernel
theorem dL_law_950 : decode cL_law 950 = .ok (.aload_n 1, 1) := by decide +kernel
theorem dL_law_951 : decode cL_law 951 = .ok (.aload_n 0, 1) := by decide +kernel
theorem dL_law_952 : decode cL_law 952 = .ok (.iload 4, 2) := by decide +kernel
theorem dL_law_954 : decode cL_law 954 = .ok (.iconst 1, 1) := by decide +kernel
theorem dL_law_955 : decode cL_law 955 = .ok (.iadd, 1) := by decide +kernel
theorem dL_law_956 : decode cL_law 956 = .ok (.iaload, 1) := by decide +kernel
theorem dL_law_957 : decode cL_law 957 = .ok (.aload_n 0, 1) := by decide +kernel
theorem dL_law_958 : decode cL_law 958 = .ok (.iload 4, 2) := by decide +kernel
theorem dL_law_960 : decode cL_law 960 = .ok (.iconst 2, 1) := by decide +kernel
theorem dL_law_961 : decode cL_law 961 = .ok (.iadd, 1) := by decide +kernel
theorem dL_law_962 : decode cL_law 962 = .ok (.iaload, 1) := by decide +kernel
theorem dL_law_963 : decode cL_law 963 = .ok (.aload_n 3, 1) := by decide +kernel
theorem dL_law_964 : decode cL_law 964 = .ok (.invokestatic 135, 3) := by decide +kernel
theorem dL_law_967 : decode cL_law 967 = .ok (.istore 5, 2) := by decide +kernel
theorem dL_law_969 : decode cL_law 969 = .ok (.aload_n 2, 1) := by decide +kernel
theorem dL_law_970 : decode cL_law 970 = .ok (.aload_n 0, 1) := by decide +kernel
theorem dL_law_971 : decode cL_law 971 = .ok (.iload 4, 2) := by decide +kernel
theorem dL_law_973 : decode cL_law 973 = .ok (.iconst 1, 1) := by decide +kernel
theorem dL_law_974 : decode cL_law 974 = .ok (.iadd, 1) := by decide +kernel
theorem dL_law_975 : decode cL_law 975 = .ok (.iaload, 1) := by decide +kernel
theorem dL_law_976 : decode cL_law 976 = .ok (.aload_n 0, 1) := by decide +kernel
theorem dL_law_977 : decode cL_law 977 = .ok (.iload 4, 2) := by decide +kernel
theorem dL_law_979 : decode cL_law 979 = .ok (.iconst 2, 1) := by decide +kernel
theorem dL_law_980 : decode cL_law 980 = .ok (.iadd, 1) := by decide +kernel
theorem dL_law_981 : decode cL_law 981 = .ok (.iaload, 1) := by decide +kernel
theorem dL_law_982 : decode cL_law 982 = .ok (.invokevirtual 137, 3) := by decide +kernel
theorem dL_law_985 : decode cL_law 985 = .ok (.istore 6, 2) := by decide +kernel
theorem dL_law_987 : decode cL_law 987 = .ok (.aload_n 2, 1) := by decide +kernel
theorem dL_law_988 : decode cL_law 988 = .ok (.invokevirtual 87, 3) := by decide +kernel
theorem dL_law_991 : decode cL_law 991 = .ok (.iload 5, 2) := by decide +kernel
theorem dL_law_993 : decode cL_law 993 = .ok (.if_icmp .eq 5, 3) := by decide +kernel
theorem dL_law_996 : decode cL_law 996 = .ok (.iconst 0, 1) := by decide +kernel
theorem dL_law_997 : decode cL_law 997 = .ok (.ireturn, 1) := by decide +kernel
theorem dL_law_998 : decode cL_law 998 = .ok (.iload 5, 2) := by decide +kernel
theorem dL_law_1000 : decode cL_law 1000 = .ok (.ifCond .ne 15, 3) := by decide +kernel
theorem dL_law_1003 : decode cL_law 1003 = .ok (.aload_n 3, 1) := by decide +kernel
theorem dL_law_1004 : decode cL_law 1004 = .ok (.iconst 0, 1) := by decide +kernel
theorem dL_law_1005 : decode cL_law 1005 = .ok (.laload, 1) := by decide +kernel
theorem dL_law_1006 : decode cL_law 1006 = .ok (.iload 6, 2) := by decide +kernel
theorem dL_law_1008 : decode cL_law 1008 = .ok (.i2l, 1) := by decide +kernel
theorem dL_law_1009 : decode cL_law 1009 = .ok (.lcmp, 1) := by decide +kernel
theorem dL_law_1010 : decode cL_law 1010 = .ok (.ifCond .eq 5, 3) := by decide +kernel
theorem dL_law_1013 : decode cL_law 1013 = .ok (.iconst 0, 1) := by decide +kernel
theorem dL_law_1014 : decode cL_law 1014 = .ok (.ireturn, 1) := by decide +kernel
theorem dL_law_1015 : decode cL_law 1015 = .ok (.goto 443, 3) := by decide +kernel
theorem dL_law_1018 : decode cL_law 1018 = .ok (.aload_n 1, 1) := by decide +kernel
theorem dL_law_1019 : decode cL_law 1019 = .ok (.aload_n 0, 1) := by decide +kernel
theorem dL_law_1020 : decode cL_law 1020 = .ok (.iload 4, 2) := by decide +kernel
theorem dL_law_1022 : decode cL_law 1022 = .ok (.iconst 1, 1) := by decide +kernel
theorem dL_law_1023 : decode cL_law 1023 = .ok (.iadd, 1) := by decide +kernel
theorem dL_law_1024 : decode cL_law 1024 = .ok (.iaload, 1) := by decide +kernel
theorem dL_law_1025 : decode cL_law 1025 = .ok (.aload_n 0, 1) := by decide +kernel
theorem dL_law_1026 : decode cL_law 1026 = .ok (.iload 4, 2) := by decide +kernel
theorem dL_law_1028 : decode cL_law 1028 = .ok (.iconst 2, 1) := by decide +kernel
theorem dL_law_1029 : decode cL_law 1029 = .ok (.iadd, 1) := by decide +kernel
theorem dL_law_1030 : decode cL_law 1030 = .ok (.iaload, 1) := by decide +kernel
theorem dL_law_1031 : decode cL_law 1031 = .ok (.aload_n 3, 1) := by decide +kernel
theorem dL_law_1032 : decode cL_law 1032 = .ok (.invokestatic 138, 3) := by decide +kernel
theorem dL_law_1035 : decode cL_law 1035 = .ok (.istore 5, 2) := by decide +kernel
theorem dL_law_1037 : decode cL_law 1037 = .ok (.aload_n 2, 1) := by decide +kernel
theorem dL_law_1038 : decode cL_law 1038 = .ok (.aload_n 0, 1) := by decide +kernel
theorem dL_law_1039 : decode cL_law 1039 = .ok (.iload 4, 2) := by decide +kernel
theorem dL_law_1041 : decode cL_law 1041 = .ok (.iconst 1, 1) := by decide +kernel
theorem dL_law_1042 : decode cL_law 1042 = .ok (.iadd, 1) := by decide +kernel
theorem dL_law_1043 : decode cL_law 1043 = .ok (.iaload, 1) := by decide +kernel
theorem dL_law_1044 : decode cL_law 1044 = .ok (.aload_n 0, 1) := by decide +kernel
theorem dL_law_1045 : decode cL_law 1045 = .ok (.iload 4, 2) := by decide +kernel
theorem dL_law_1047 : decode cL_law 1047 = .ok (.iconst 2, 1) := by decide +kernel
theorem dL_law_1048 : decode cL_law 1048 = .ok (.iadd, 1) := by decide +kernel
theorem dL_law_1049 : decode cL_law 1049 = .ok (.iaload, 1) := by decide +kernel
theorem dL_law_1050 : decode cL_law 1050 = .ok (.invokevirtual 140, 3) := by decide +kernel
theorem dL_law_1053 : decode cL_law 1053 = .ok (.istore 6, 2) := by decide +kernel
theorem dL_law_1055 : decode cL_law 1055 = .ok (.aload_n 2, 1) := by decide +kernel
theorem dL_law_1056 : decode cL_law 1056 = .ok (.invokevirtual 87, 3) := by decide +kernel
theorem dL_law_1059 : decode cL_law 1059 = .ok (.iload 5, 2) := by decide +kernel
theorem dL_law_1061 : decode cL_law 1061 = .ok (.if_icmp .eq 5, 3) := by decide +kernel
theorem dL_law_1064 : decode cL_law 1064 = .ok (.iconst 0, 1) := by decide +kernel
theorem dL_law_1065 : decode cL_law 1065 = .ok (.ireturn, 1) := by decide +kernel
theorem dL_law_1066 : decode cL_law 1066 = .ok (.iload 5, 2) := by decide +kernel
theorem dL_law_1068 : decode cL_law 1068 = .ok (.ifCond .ne 15, 3) := by decide +kernel
theorem dL_law_1071 : decode cL_law 1071 = .ok (.aload_n 3, 1) := by decide +kernel
theorem dL_law_1072 : decode cL_law 1072 = .ok (.iconst 0, 1) := by decide +kernel
theorem dL_law_1073 : decode cL_law 1073 = .ok (.laload, 1) := by decide +kernel
theorem dL_law_1074 : decode cL_law 1074 = .ok (.iload 6, 2) := by decide +kernel
theorem dL_law_1076 : decode cL_law 1076 = .ok (.i2l, 1) := by decide +kernel
theorem dL_law_1077 : decode cL_law 1077 = .ok (.lcmp, 1) := by decide +kernel
theorem dL_law_1078 : decode cL_law 1078 = .ok (.ifCond .eq 5, 3) := by decide +kernel
theorem dL_law_1081 : decode cL_law 1081 = .ok (.iconst 0, 1) := by decide +kernel
theorem dL_law_1082 : decode cL_law 1082 = .ok (.ireturn, 1) := by decide +kernel
theorem dL_law_1083 : decode cL_law 1083 = .ok (.goto 375, 3) := by decide +kernel
theorem dL_law_1086 : decode cL_law 1086 = .ok (.aload_n 1, 1) := by decide +kernel
theorem dL_law_1087 : decode cL_law 1087 = .ok (.aload_n 0, 1) := by decide +kernel
theorem dL_law_1088 : decode cL_law 1088 = .ok (.iload 4, 2) := by decide +kernel
theorem dL_law_1090 : decode cL_law 1090 = .ok (.iconst 1, 1) := by decide +kernel
theorem dL_law_1091 : decode cL_law 1091 = .ok (.iadd, 1) := by decide +kernel
theorem dL_law_1092 : decode cL_law 1092 = .ok (.iaload, 1) := by decide +kernel
theorem dL_law_1093 : decode cL_law 1093 = .ok (.aload_n 3, 1) := by decide +kernel
theorem dL_law_1094 : decode cL_law 1094 = .ok (.invokestatic 141, 3) := by decide +kernel
theorem dL_law_1097 : decode cL_law 1097 = .ok (.istore 5, 2) := by decide +kernel
theorem dL_law_1099 : decode cL_law 1099 = .ok (.aload_n 2, 1) := by decide +kernel
theorem dL_law_1100 : decode cL_law 1100 = .ok (.aload_n 0, 1) := by decide +kernel
theorem dL_law_1101 : decode cL_law 1101 = .ok (.iload 4, 2) := by decide +kernel
theorem dL_law_1103 : decode cL_law 1103 = .ok (.iconst 1, 1) := by decide +kernel
theorem dL_law_1104 : decode cL_law 1104 = .ok (.iadd, 1) := by decide +kernel
theorem dL_law_1105 : decode cL_law 1105 = .ok (.iaload, 1) := by decide +kernel
theorem dL_law_1106 : decode cL_law 1106 = .ok (.invokevirtual 143, 3) := by decide +kernel
theorem dL_law_1109 : decode cL_law 1109 = .ok (.istore 6, 2) := by decide +kernel
theorem dL_law_1111 : decode cL_law 1111 = .ok (.aload_n 2, 1) := by decide +kernel
theorem dL_law_1112 : decode cL_law 1112 = .ok (.invokevirtual 87, 3) := by decide +kernel
theorem dL_law_1115 : decode cL_law 1115 = .ok (.iload 5, 2) := by decide +kernel
theorem dL_law_1117 : decode cL_law 1117 = .ok (.if_icmp .eq 5, 3) := by decide +kernel
theorem dL_law_1120 : decode cL_law 1120 = .ok (.iconst 0, 1) := by decide +kernel
theorem dL_law_1121 : decode cL_law 1121 = .ok (.ireturn, 1) := by decide +kernel
theorem dL_law_1122 : decode cL_law 1122 = .ok (.iload 5, 2) := by decide +kernel
theorem dL_law_1124 : decode cL_law 1124 = .ok (.ifCond .ne 15, 3) := by decide +kernel
theorem dL_law_1127 : decode cL_law 1127 = .ok (.aload_n 3, 1) := by decide +kernel
theorem dL_law_1128 : decode cL_law 1128 = .ok (.iconst 0, 1) := by decide +kernel
theorem dL_law_1129 : decode cL_law 1129 = .ok (.laload, 1) := by decide +kernel
theorem dL_law_1130 : decode cL_law 1130 = .ok (.iload 6, 2) := by decide +kernel
theorem dL_law_1132 : decode cL_law 1132 = .ok (.i2l, 1) := by decide +kernel
theorem dL_law_1133 : decode cL_law 1133 = .ok (.lcmp, 1) := by decide +kernel
theorem dL_law_1134 : decode cL_law 1134 = .ok (.ifCond .eq 5, 3) := by decide +kernel
theorem dL_law_1137 : decode cL_law 1137 = .ok (.iconst 0, 1) := by decide +kernel
theorem dL_law_1138 : decode cL_law 1138 = .ok (.ireturn, 1) := by decide +kernel
theorem dL_law_1139 : decode cL_law 1139 = .ok (.goto 319, 3) := by decide +kernel
theorem dL_law_1142 : decode cL_law 1142 = .ok (.aload_n 1, 1) := by decide +kernel
theorem dL_law_1143 : decode cL_law 1143 = .ok (.aload_n 0, 1) := by decide +kernel
theorem dL_law_1144 : decode cL_law 1144 = .ok (.iload 4, 2) := by decide +kernel
theorem dL_law_1146 : decode cL_law 1146 = .ok (.iconst 1, 1) := by decide +kernel
theorem dL_law_1147 : decode cL_law 1147 = .ok (.iadd, 1) := by decide +kernel
theorem dL_law_1148 : decode cL_law 1148 = .ok (.iaload, 1) := by decide +kernel
theorem dL_law_1149 : decode cL_law 1149 = .ok (.aload_n 3, 1) := by decide +kernel
theorem dL_law_1150 : decode cL_law 1150 = .ok (.invokestatic 144, 3) := by decide +kernel
theorem dL_law_1153 : decode cL_law 1153 = .ok (.istore 5, 2) := by decide +kernel
theorem dL_law_1155 : decode cL_law 1155 = .ok (.aload_n 2, 1) := by decide +kernel
theorem dL_law_1156 : decode cL_law 1156 = .ok (.aload_n 0, 1) := by decide +kernel
theorem dL_law_1157 : decode cL_law 1157 = .ok (.iload 4, 2) := by decide +kernel
theorem dL_law_1159 : decode cL_law 1159 = .ok (.iconst 1, 1) := by decide +kernel
theorem dL_law_1160 : decode cL_law 1160 = .ok (.iadd, 1) := by decide +kernel
theorem dL_law_1161 : decode cL_law 1161 = .ok (.iaload, 1) := by decide +kernel
theorem dL_law_1162 : decode cL_law 1162 = .ok (.invokevirtual 146, 3) := by decide +kernel
theorem dL_law_1165 : decode cL_law 1165 = .ok (.istore 6, 2) := by decide +kernel
theorem dL_law_1167 : decode cL_law 1167 = .ok (.aload_n 2, 1) := by decide +kernel
theorem dL_law_1168 : decode cL_law 1168 = .ok (.invokevirtual 87, 3) := by decide +kernel
theorem dL_law_1171 : decode cL_law 1171 = .ok (.iload 5, 2) := by decide +kernel
theorem dL_law_1173 : decode cL_law 1173 = .ok (.if_icmp .eq 5, 3) := by decide +kernel
theorem dL_law_1176 : decode cL_law 1176 = .ok (.iconst 0, 1) := by decide +kernel
theorem dL_law_1177 : decode cL_law 1177 = .ok (.ireturn, 1) := by decide +kernel
theorem dL_law_1178 : decode cL_law 1178 = .ok (.iload 5, 2) := by decide +kernel
theorem dL_law_1180 : decode cL_law 1180 = .ok (.ifCond .ne 15, 3) := by decide +kernel
theorem dL_law_1183 : decode cL_law 1183 = .ok (.aload_n 3, 1) := by decide +kernel
theorem dL_law_1184 : decode cL_law 1184 = .ok (.iconst 0, 1) := by decide +kernel
theorem dL_law_1185 : decode cL_law 1185 = .ok (.laload, 1) := by decide +kernel
theorem dL_law_1186 : decode cL_law 1186 = .ok (.iload 6, 2) := by decide +kernel
theorem dL_law_1188 : decode cL_law 1188 = .ok (.i2l, 1) := by decide +kernel
theorem dL_law_1189 : decode cL_law 1189 = .ok (.lcmp, 1) := by decide +kernel
theorem dL_law_1190 : decode cL_law 1190 = .ok (.ifCond .eq 5, 3) := by decide +kernel
theorem dL_law_1193 : decode cL_law 1193 = .ok (.iconst 0, 1) := by decide +kernel
theorem dL_law_1194 : decode cL_law 1194 = .ok (.ireturn, 1) := by decide +kernel
theorem dL_law_1195 : decode cL_law 1195 = .ok (.goto 263, 3) := by decide +kernel
theorem dL_law_1198 : decode cL_law 1198 = .ok (.aload_n 1, 1) := by decide +kernel
theorem dL_law_1199 : decode cL_law 1199 = .ok (.aload_n 0, 1) := by decide +kernel
theorem dL_law_1200 : decode cL_law 1200 = .ok (.iload 4, 2) := by decide +kernel
theorem dL_law_1202 : decode cL_law 1202 = .ok (.iconst 1, 1) := by decide +kernel
theorem dL_law_1203 : decode cL_law 1203 = .ok (.iadd, 1) := by decide +kernel
theorem dL_law_1204 : decode cL_law 1204 = .ok (.iaload, 1) := by decide +kernel
theorem dL_law_1205 : decode cL_law 1205 = .ok (.aload_n 0, 1) := by decide +kernel
theorem dL_law_1206 : decode cL_law 1206 = .ok (.iload 4, 2) := by decide +kernel
theorem dL_law_1208 : decode cL_law 1208 = .ok (.iconst 2, 1) := by decide +kernel
theorem dL_law_1209 : decode cL_law 1209 = .ok (.iadd, 1) := by decide +kernel
theorem dL_law_1210 : decode cL_law 1210 = .ok (.iaload, 1) := by decide +kernel
theorem dL_law_1211 : decode cL_law 1211 = .ok (.aload_n 3, 1) := by decide +kernel
theorem dL_law_1212 : decode cL_law 1212 = .ok (.invokestatic 147, 3) := by decide +kernel
theorem dL_law_1215 : decode cL_law 1215 = .ok (.istore 5, 2) := by decide +kernel
theorem dL_law_1217 : decode cL_law 1217 = .ok (.aload_n 2, 1) := by decide +kernel
theorem dL_law_1218 : decode cL_law 1218 = .ok (.aload_n 0, 1) := by decide +kernel
theorem dL_law_1219 : decode cL_law 1219 = .ok (.iload 4, 2) := by decide +kernel
theorem dL_law_1221 : decode cL_law 1221 = .ok (.iconst 1, 1) := by decide +kernel
theorem dL_law_1222 : decode cL_law 1222 = .ok (.iadd, 1) := by decide +kernel
theorem dL_law_1223 : decode cL_law 1223 = .ok (.iaload, 1) := by decide +kernel
theorem dL_law_1224 : decode cL_law 1224 = .ok (.aload_n 0, 1) := by decide +kernel
theorem dL_law_1225 : decode cL_law 1225 = .ok (.iload 4, 2) := by decide +kernel
theorem dL_law_1227 : decode cL_law 1227 = .ok (.iconst 2, 1) := by decide +kernel
theorem dL_law_1228 : decode cL_law 1228 = .ok (.iadd, 1) := by decide +kernel
theorem dL_law_1229 : decode cL_law 1229 = .ok (.iaload, 1) := by decide +kernel
theorem dL_law_1230 : decode cL_law 1230 = .ok (.invokevirtual 149, 3) := by decide +kernel
theorem dL_law_1233 : decode cL_law 1233 = .ok (.istore 6, 2) := by decide +kernel
theorem dL_law_1235 : decode cL_law 1235 = .ok (.aload_n 2, 1) := by decide +kernel
theorem dL_law_1236 : decode cL_law 1236 = .ok (.invokevirtual 87, 3) := by decide +kernel
theorem dL_law_1239 : decode cL_law 1239 = .ok (.iload 5, 2) := by decide +kernel
theorem dL_law_1241 : decode cL_law 1241 = .ok (.if_icmp .eq 5, 3) := by decide +kernel
theorem dL_law_1244 : decode cL_law 1244 = .ok (.iconst 0, 1) := by decide +kernel
theorem dL_law_1245 : decode cL_law 1245 = .ok (.ireturn, 1) := by decide +kernel
theorem dL_law_1246 : decode cL_law 1246 = .ok (.iload 5, 2) := by decide +kernel
theorem dL_law_1248 : decode cL_law 1248 = .ok (.ifCond .ne 15, 3) := by decide +kernel
theorem dL_law_1251 : decode cL_law 1251 = .ok (.aload_n 3, 1) := by decide +kernel
theorem dL_law_1252 : decode cL_law 1252 = .ok (.iconst 0, 1) := by decide +kernel
theorem dL_law_1253 : decode cL_law 1253 = .ok (.laload, 1) := by decide +kernel
theorem dL_law_1254 : decode cL_law 1254 = .ok (.iload 6, 2) := by decide +kernel
theorem dL_law_1256 : decode cL_law 1256 = .ok (.i2l, 1) := by decide +kernel
theorem dL_law_1257 : decode cL_law 1257 = .ok (.lcmp, 1) := by decide +kernel
theorem dL_law_1258 : decode cL_law 1258 = .ok (.ifCond .eq 5, 3) := by decide +kernel
theorem dL_law_1261 : decode cL_law 1261 = .ok (.iconst 0, 1) := by decide +kernel
theorem dL_law_1262 : decode cL_law 1262 = .ok (.ireturn, 1) := by decide +kernel
theorem dL_law_1263 : decode cL_law 1263 = .ok (.goto 195, 3) := by decide +kernel
theorem dL_law_1266 : decode cL_law 1266 = .ok (.aload_n 1, 1) := by decide +kernel
theorem dL_law_1267 : decode cL_law 1267 = .ok (.aload_n 0, 1) := by decide +kernel
theorem dL_law_1268 : decode cL_law 1268 = .ok (.iload 4, 2) := by decide +kernel
theorem dL_law_1270 : decode cL_law 1270 = .ok (.iconst 1, 1) := by decide +kernel
theorem dL_law_1271 : decode cL_law 1271 = .ok (.iadd, 1) := by decide +kernel
theorem dL_law_1272 : decode cL_law 1272 = .ok (.iaload, 1) := by decide +kernel
theorem dL_law_1273 : decode cL_law 1273 = .ok (.aload_n 0, 1) := by decide +kernel
theorem dL_law_1274 : decode cL_law 1274 = .ok (.iload 4, 2) := by decide +kernel
theorem dL_law_1276 : decode cL_law 1276 = .ok (.iconst 2, 1) := by decide +kernel
theorem dL_law_1277 : decode cL_law 1277 = .ok (.iadd, 1) := by decide +kernel
theorem dL_law_1278 : decode cL_law 1278 = .ok (.iaload, 1) := by decide +kernel
theorem dL_law_1279 : decode cL_law 1279 = .ok (.aload_n 3, 1) := by decide +kernel
theorem dL_law_1280 : decode cL_law 1280 = .ok (.invokestatic 150, 3) := by decide +kernel
theorem dL_law_1283 : decode cL_law 1283 = .ok (.istore 5, 2) := by decide +kernel
theorem dL_law_1285 : decode cL_law 1285 = .ok (.aload_n 2, 1) := by decide +kernel
theorem dL_law_1286 : decode cL_law 1286 = .ok (.aload_n 0, 1) := by decide +kernel
theorem dL_law_1287 : decode cL_law 1287 = .ok (.iload 4, 2) := by decide +kernel
theorem dL_law_1289 : decode cL_law 1289 = .ok (.iconst 1, 1) := by decide +kernel
theorem dL_law_1290 : decode cL_law 1290 = .ok (.iadd, 1) := by decide +kernel
theorem dL_law_1291 : decode cL_law 1291 = .ok (.iaload, 1) := by decide +kernel
theorem dL_law_1292 : decode cL_law 1292 = .ok (.aload_n 0, 1) := by decide +kernel
theorem dL_law_1293 : decode cL_law 1293 = .ok (.iload 4, 2) := by decide +kernel
theorem dL_law_1295 : decode cL_law 1295 = .ok (.iconst 2, 1) := by decide +kernel
theorem dL_law_1296 : decode cL_law 1296 = .ok (.iadd, 1) := by decide +kernel
theorem dL_law_1297 : decode cL_law 1297 = .ok (.iaload, 1) := by decide +kernel
theorem dL_law_1298 : decode cL_law 1298 = .ok (.invokevirtual 152, 3) := by decide +kernel
theorem dL_law_1301 : decode cL_law 1301 = .ok (.istore 6, 2) := by decide +kernel
theorem dL_law_1303 : decode cL_law 1303 = .ok (.aload_n 2, 1) := by decide +kernel
theorem dL_law_1304 : decode cL_law 1304 = .ok (.invokevirtual 87, 3) := by decide +kernel
theorem dL_law_1307 : decode cL_law 1307 = .ok (.iload 5, 2) := by decide +kernel
theorem dL_law_1309 : decode cL_law 1309 = .ok (.if_icmp .eq 5, 3) := by decide +kernel
theorem dL_law_1312 : decode cL_law 1312 = .ok (.iconst 0, 1) := by decide +kernel
theorem dL_law_1313 : decode cL_law 1313 = .ok (.ireturn, 1) := by decide +kernel
theorem dL_law_1314 : decode cL_law 1314 = .ok (.iload 5, 2) := by decide +kernel
theorem dL_law_1316 : decode cL_law 1316 = .ok (.ifCond .ne 15, 3) := by decide +kernel
theorem dL_law_1319 : decode cL_law 1319 = .ok (.aload_n 3, 1) := by decide +kernel
theorem dL_law_1320 : decode cL_law 1320 = .ok (.iconst 0, 1) := by decide +kernel
theorem dL_law_1321 : decode cL_law 1321 = .ok (.laload, 1) := by decide +kernel
theorem dL_law_1322 : decode cL_law 1322 = .ok (.iload 6, 2) := by decide +kernel
theorem dL_law_1324 : decode cL_law 1324 = .ok (.i2l, 1) := by decide +kernel
theorem dL_law_1325 : decode cL_law 1325 = .ok (.lcmp, 1) := by decide +kernel
theorem dL_law_1326 : decode cL_law 1326 = .ok (.ifCond .eq 5, 3) := by decide +kernel
theorem dL_law_1329 : decode cL_law 1329 = .ok (.iconst 0, 1) := by decide +kernel
theorem dL_law_1330 : decode cL_law 1330 = .ok (.ireturn, 1) := by decide +kernel
theorem dL_law_1331 : decode cL_law 1331 = .ok (.goto 127, 3) := by decide +kernel
theorem dL_law_1334 : decode cL_law 1334 = .ok (.aload_n 1, 1) := by decide +kernel
theorem dL_law_1335 : decode cL_law 1335 = .ok (.aload_n 0, 1) := by decide +kernel
theorem dL_law_1336 : decode cL_law 1336 = .ok (.iload 4, 2) := by decide +kernel
theorem dL_law_1338 : decode cL_law 1338 = .ok (.iconst 1, 1) := by decide +kernel
theorem dL_law_1339 : decode cL_law 1339 = .ok (.iadd, 1) := by decide +kernel
theorem dL_law_1340 : decode cL_law 1340 = .ok (.iaload, 1) := by decide +kernel
theorem dL_law_1341 : decode cL_law 1341 = .ok (.aload_n 3, 1) := by decide +kernel
theorem dL_law_1342 : decode cL_law 1342 = .ok (.invokestatic 153, 3) := by decide +kernel
theorem dL_law_1345 : decode cL_law 1345 = .ok (.istore 5, 2) := by decide +kernel
theorem dL_law_1347 : decode cL_law 1347 = .ok (.aload_n 2, 1) := by decide +kernel
theorem dL_law_1348 : decode cL_law 1348 = .ok (.aload_n 0, 1) := by decide +kernel
theorem dL_law_1349 : decode cL_law 1349 = .ok (.iload 4, 2) := by decide +kernel
theorem dL_law_1351 : decode cL_law 1351 = .ok (.iconst 1, 1) := by decide +kernel
theorem dL_law_1352 : decode cL_law 1352 = .ok (.iadd, 1) := by decide +kernel
theorem dL_law_1353 : decode cL_law 1353 = .ok (.iaload, 1) := by decide +kernel
theorem dL_law_1354 : decode cL_law 1354 = .ok (.invokevirtual 155, 3) := by decide +kernel
theorem dL_law_1357 : decode cL_law 1357 = .ok (.istore 6, 2) := by decide +kernel
theorem dL_law_1359 : decode cL_law 1359 = .ok (.aload_n 2, 1) := by decide +kernel
theorem dL_law_1360 : decode cL_law 1360 = .ok (.invokevirtual 87, 3) := by decide +kernel
theorem dL_law_1363 : decode cL_law 1363 = .ok (.iload 5, 2) := by decide +kernel
theorem dL_law_1365 : decode cL_law 1365 = .ok (.if_icmp .eq 5, 3) := by decide +kernel
theorem dL_law_1368 : decode cL_law 1368 = .ok (.iconst 0, 1) := by decide +kernel
theorem dL_law_1369 : decode cL_law 1369 = .ok (.ireturn, 1) := by decide +kernel
theorem dL_law_1370 : decode cL_law 1370 = .ok (.iload 5, 2) := by decide +kernel
theorem dL_law_1372 : decode cL_law 1372 = .ok (.ifCond .ne 15, 3) := by decide +kernel
theorem dL_law_1375 : decode cL_law 1375 = .ok (.aload_n 3, 1) := by decide +kernel
theorem dL_law_1376 : decode cL_law 1376 = .ok (.iconst 0, 1) := by decide +kernel
theorem dL_law_1377 : decode cL_law 1377 = .ok (.laload, 1) := by decide +kernel
theorem dL_law_1378 : decode cL_law 1378 = .ok (.iload 6, 2) := by decide +kernel
theorem dL_law_1380 : decode cL_law 1380 = .ok (.i2l, 1) := by decide +kernel
theorem dL_law_1381 : decode cL_law 1381 = .ok (.lcmp, 1) := by decide +kernel
theorem dL_law_1382 : decode cL_law 1382 = .ok (.ifCond .eq 5, 3) := by decide +kernel
theorem dL_law_1385 : decode cL_law 1385 = .ok (.iconst 0, 1) := by decide +kernel
theorem dL_law_1386 : decode cL_law 1386 = .ok (.ireturn, 1) := by decide +kernel
theorem dL_law_1387 : decode cL_law 1387 = .ok (.goto 71, 3) := by decide +kernel
theorem dL_law_1390 : decode cL_law 1390 = .ok (.aload_n 1, 1) := by decide +kernel
theorem dL_law_1391 : decode cL_law 1391 = .ok (.invokevirtual 156, 3) := by decide +kernel
theorem dL_law_1394 : decode cL_law 1394 = .ok (.aload_n 2, 1) := by decide +kernel
theorem dL_law_1395 : decode cL_law 1395 = .ok (.invokevirtual 159, 3) := by decide +kernel
theorem dL_law_1398 : decode cL_law 1398 = .ok (.if_icmp .eq 60, 3) := by decide +kernel
theorem dL_law_1401 : decode cL_law 1401 = .ok (.iconst 0, 1) := by decide +kernel
theorem dL_law_1402 : decode cL_law 1402 = .ok (.ireturn, 1) := by decide +kernel
theorem dL_law_1403 : decode cL_law 1403 = .ok (.aload_n 1, 1) := by decide +kernel
theorem dL_law_1404 : decode cL_law 1404 = .ok (.invokevirtual 160, 3) := by decide +kernel
theorem dL_law_1407 : decode cL_law 1407 = .ok (.dstore 5, 2) := by decide +kernel
theorem dL_law_1409 : decode cL_law 1409 = .ok (.aload_n 2, 1) := by decide +kernel
theorem dL_law_1410 : decode cL_law 1410 = .ok (.invokevirtual 164, 3) := by decide +kernel
theorem dL_law_1413 : decode cL_law 1413 = .ok (.dstore 7, 2) := by decide +kernel
theorem dL_law_1415 : decode cL_law 1415 = .ok (.dload 5, 2) := by decide +kernel
theorem dL_law_1417 : decode cL_law 1417 = .ok (.dload 7, 2) := by decide +kernel
theorem dL_law_1419 : decode cL_law 1419 = .ok (.dcmp .l, 1) := by decide +kernel
theorem dL_law_1420 : decode cL_law 1420 = .ok (.ifCond .eq 21, 3) := by decide +kernel
theorem dL_law_1423 : decode cL_law 1423 = .ok (.dload 5, 2) := by decide +kernel
theorem dL_law_1425 : decode cL_law 1425 = .ok (.dload 5, 2) := by decide +kernel
theorem dL_law_1427 : decode cL_law 1427 = .ok (.dcmp .l, 1) := by decide +kernel
theorem dL_law_1428 : decode cL_law 1428 = .ok (.ifCond .eq 11, 3) := by decide +kernel
theorem dL_law_1431 : decode cL_law 1431 = .ok (.dload 7, 2) := by decide +kernel
theorem dL_law_1433 : decode cL_law 1433 = .ok (.dload 7, 2) := by decide +kernel
theorem dL_law_1435 : decode cL_law 1435 = .ok (.dcmp .l, 1) := by decide +kernel
theorem dL_law_1436 : decode cL_law 1436 = .ok (.ifCond .ne 5, 3) := by decide +kernel
theorem dL_law_1439 : decode cL_law 1439 = .ok (.iconst 0, 1) := by decide +kernel
theorem dL_law_1440 : decode cL_law 1440 = .ok (.ireturn, 1) := by decide +kernel
theorem dL_law_1441 : decode cL_law 1441 = .ok (.goto 17, 3) := by decide +kernel
theorem dL_law_1444 : decode cL_law 1444 = .ok (.aload_n 1, 1) := by decide +kernel
theorem dL_law_1445 : decode cL_law 1445 = .ok (.invokevirtual 165, 3) := by decide +kernel
theorem dL_law_1448 : decode cL_law 1448 = .ok (.aload_n 2, 1) := by decide +kernel
theorem dL_law_1449 : decode cL_law 1449 = .ok (.invokevirtual 169, 3) := by decide +kernel
theorem dL_law_1452 : decode cL_law 1452 = .ok (.lcmp, 1) := by decide +kernel
theorem dL_law_1453 : decode cL_law 1453 = .ok (.ifCond .eq 5, 3) := by decide +kernel
theorem dL_law_1456 : decode cL_law 1456 = .ok (.iconst 0, 1) := by decide +kernel
theorem dL_law_1457 : decode cL_law 1457 = .ok (.ireturn, 1) := by decide +kernel
theorem dL_law_1458 : decode cL_law 1458 = .ok (.iinc 4 4, 3) := by decide +kernel
theorem dL_law_1461 : decode cL_law 1461 = .ok (.goto (-1438), 3) := by decide +kernel
theorem dL_law_1464 : decode cL_law 1464 = .ok (.iconst 1, 1) := by decide +kernel
theorem dL_law_1465 : decode cL_law 1465 = .ok (.ireturn, 1) := by decide +kernel
abbrev vwCl : List vw_C := [(RX0, TX0, 3), (RX1, TX1, 4), (RX2, TX2, 3), (RX3, TX3, 16), (RX4, TX4, 5), (RX5, TX5, 5), (RX6, TX6, 17)]
