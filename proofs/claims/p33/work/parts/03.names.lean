def RX0 : String := "TileFactory$1"
def TX0 : u_T := fun k => match k with
  | _ => ("", "", "", false)
def tyX0 : Nat → FieldType := fun k => match k with
  | _ => .int
abbrev wsX00 : List Cond := u_ws RX0 TX0 0
theorem nmX0 : ∀ a, a < 0 → ∀ b, b < 0 → a ≠ b → (TX0 a).2.1 ≠ (TX0 b).2.1 := by decide +kernel
theorem tyX0_ok : ∀ k, k < 0 → parseFieldDescriptor (TX0 k).2.2.1 = some (tyX0 k) := by decide +kernel
def RX1 : String := "TileFactory$Delivery"
def TX1 : u_T := fun k => match k with
  | 0 => ("TileFactory$Delivery", "lot", "I", false)
  | 1 => ("TileFactory$Delivery", "boxes", "I", false)
  | 2 => ("TileFactory$Delivery", "out", "I", false)
  | 3 => ("TileFactory$Delivery", "complaints", "I", false)
  | _ => ("TileFactory$Delivery", "value", "J", false)
def tyX1 : Nat → FieldType := fun k => match k with
  | 0 => .int
  | 1 => .int
  | 2 => .int
  | 3 => .int
  | _ => .long
abbrev wsX10 : List Cond := u_ws RX1 TX1 5
theorem nmX1 : ∀ a, a < 5 → ∀ b, b < 5 → a ≠ b → (TX1 a).2.1 ≠ (TX1 b).2.1 := by decide +kernel
theorem tyX1_ok : ∀ k, k < 5 → parseFieldDescriptor (TX1 k).2.2.1 = some (tyX1 k) := by decide +kernel
abbrev cX1_init : ByteArray := prog_3_method_1_code
def yX1_init : MethodName := ⟨RX1, "<init>", "()V"⟩
abbrev cX1_property : ByteArray := prog_3_method_2_code
def yX1_property : MethodName := ⟨RX1, "property", "(I)J"⟩
abbrev cX1_copyFrom : ByteArray := prog_3_method_3_code
def yX1_copyFrom : MethodName := ⟨RX1, "copyFrom", "(LTileFactory$Delivery;)V"⟩
def RX2 : String := "TileFactory$EventLog"
def TX2 : u_T := fun k => match k with
  | 0 => ("TileFactory$EventLog", "kinds", "[I", true)
  | 1 => ("TileFactory$EventLog", "numbers", "[I", true)
  | _ => ("TileFactory$EventLog", "count", "I", false)
def tyX2 : Nat → FieldType := fun k => match k with
  | 0 => .array .int
  | 1 => .array .int
  | _ => .int
abbrev wsX20 : List Cond := u_ws RX2 TX2 3
theorem nmX2 : ∀ a, a < 3 → ∀ b, b < 3 → a ≠ b → (TX2 a).2.1 ≠ (TX2 b).2.1 := by decide +kernel
theorem tyX2_ok : ∀ k, k < 3 → parseFieldDescriptor (TX2 k).2.2.1 = some (tyX2 k) := by decide +kernel
abbrev cX2_init : ByteArray := prog_4_method_1_code
def yX2_init : MethodName := ⟨RX2, "<init>", "()V"⟩
abbrev cX2_add : ByteArray := prog_4_method_2_code
def yX2_add : MethodName := ⟨RX2, "add", "(II)V"⟩
abbrev cX2_kindOf : ByteArray := prog_4_method_3_code
def yX2_kindOf : MethodName := ⟨RX2, "kindOf", "(I)I"⟩
abbrev cX2_numberOf : ByteArray := prog_4_method_4_code
def yX2_numberOf : MethodName := ⟨RX2, "numberOf", "(I)I"⟩
abbrev cX2_has : ByteArray := prog_4_method_5_code
def yX2_has : MethodName := ⟨RX2, "has", "(I)Z"⟩
abbrev cX2_copyFrom : ByteArray := prog_4_method_6_code
def yX2_copyFrom : MethodName := ⟨RX2, "copyFrom", "(LTileFactory$EventLog;)V"⟩
def RX3 : String := "TileFactory$Fault"
def TX3 : u_T := fun k => match k with
  | _ => ("", "", "", false)
def tyX3 : Nat → FieldType := fun k => match k with
  | _ => .int
abbrev wsX30 : List Cond := u_ws RX3 TX3 0
theorem nmX3 : ∀ a, a < 0 → ∀ b, b < 0 → a ≠ b → (TX3 a).2.1 ≠ (TX3 b).2.1 := by decide +kernel
theorem tyX3_ok : ∀ k, k < 0 → parseFieldDescriptor (TX3 k).2.2.1 = some (tyX3 k) := by decide +kernel
def RX4 : String := "TileFactory$Glaze"
def TX4 : u_T := fun k => match k with
  | 0 => ("TileFactory$Glaze", "base", "I", false)
  | 1 => ("TileFactory$Glaze", "sensitivity", "I", false)
  | 2 => ("TileFactory$Glaze", "defects", "I", false)
  | _ => ("TileFactory$Glaze", "price", "I", false)
def tyX4 : Nat → FieldType := fun k => match k with
  | 0 => .int
  | 1 => .int
  | 2 => .int
  | _ => .int
abbrev wsX40 : List Cond := u_ws RX4 TX4 4
theorem nmX4 : ∀ a, a < 4 → ∀ b, b < 4 → a ≠ b → (TX4 a).2.1 ≠ (TX4 b).2.1 := by decide +kernel
theorem tyX4_ok : ∀ k, k < 4 → parseFieldDescriptor (TX4 k).2.2.1 = some (tyX4 k) := by decide +kernel
abbrev cX4_init : ByteArray := prog_6_method_1_code
def yX4_init : MethodName := ⟨RX4, "<init>", "()V"⟩
abbrev cX4_shadeFrom : ByteArray := prog_6_method_2_code
def yX4_shadeFrom : MethodName := ⟨RX4, "shadeFrom", "(I)I"⟩
abbrev cX4_tileValue : ByteArray := prog_6_method_3_code
def yX4_tileValue : MethodName := ⟨RX4, "tileValue", "(I)I"⟩
abbrev cX4_copyFrom : ByteArray := prog_6_method_5_code
def yX4_copyFrom : MethodName := ⟨RX4, "copyFrom", "(LTileFactory$Glaze;)V"⟩
def RX5 : String := "TileFactory$History"
def TX5 : u_T := fun k => match k with
  | 0 => ("TileFactory$History", "saved", "[LTileFactory$State;", true)
  | _ => ("TileFactory$History", "count", "I", false)
def tyX5 : Nat → FieldType := fun k => match k with
  | 0 => .array (.object "TileFactory$State")
  | _ => .int
abbrev wsX50 : List Cond := u_ws RX5 TX5 2
theorem nmX5 : ∀ a, a < 2 → ∀ b, b < 2 → a ≠ b → (TX5 a).2.1 ≠ (TX5 b).2.1 := by decide +kernel
theorem tyX5_ok : ∀ k, k < 2 → parseFieldDescriptor (TX5 k).2.2.1 = some (tyX5 k) := by decide +kernel
abbrev cX5_init : ByteArray := prog_7_method_1_code
def yX5_init : MethodName := ⟨RX5, "<init>", "()V"⟩
abbrev cX5_save : ByteArray := prog_7_method_2_code
def yX5_save : MethodName := ⟨RX5, "save", "(LTileFactory$State;)V"⟩
abbrev cX5_moveOldestToEnd : ByteArray := prog_7_method_3_code
def yX5_moveOldestToEnd : MethodName := ⟨RX5, "moveOldestToEnd", "()V"⟩
abbrev cX5_restore : ByteArray := prog_7_method_4_code
def yX5_restore : MethodName := ⟨RX5, "restore", "(LTileFactory$State;)V"⟩
def RX6 : String := "TileFactory$Lot"
def TX6 : u_T := fun k => match k with
  | 0 => ("TileFactory$Lot", "glaze", "I", false)
  | 1 => ("TileFactory$Lot", "shade", "I", false)
  | 2 => ("TileFactory$Lot", "grade", "I", false)
  | 3 => ("TileFactory$Lot", "loose", "I", false)
  | 4 => ("TileFactory$Lot", "boxes", "I", false)
  | _ => ("TileFactory$Lot", "hidden", "I", false)
def tyX6 : Nat → FieldType := fun k => match k with
  | 0 => .int
  | 1 => .int
  | 2 => .int
  | 3 => .int
  | 4 => .int
  | _ => .int
abbrev wsX60 : List Cond := u_ws RX6 TX6 6
theorem nmX6 : ∀ a, a < 6 → ∀ b, b < 6 → a ≠ b → (TX6 a).2.1 ≠ (TX6 b).2.1 := by decide +kernel
theorem tyX6_ok : ∀ k, k < 6 → parseFieldDescriptor (TX6 k).2.2.1 = some (tyX6 k) := by decide +kernel
abbrev cX6_init : ByteArray := prog_8_method_1_code
def yX6_init : MethodName := ⟨RX6, "<init>", "()V"⟩
abbrev cX6_isOf : ByteArray := prog_8_method_2_code
def yX6_isOf : MethodName := ⟨RX6, "isOf", "(II)Z"⟩
abbrev cX6_content : ByteArray := prog_8_method_3_code
def yX6_content : MethodName := ⟨RX6, "content", "(I)I"⟩
abbrev cX6_limitHidden : ByteArray := prog_8_method_4_code
def yX6_limitHidden : MethodName := ⟨RX6, "limitHidden", "(I)V"⟩
abbrev cX6_fillBoxes : ByteArray := prog_8_method_5_code
def yX6_fillBoxes : MethodName := ⟨RX6, "fillBoxes", "(I)I"⟩
abbrev cX6_giveBoxes : ByteArray := prog_8_method_6_code
def yX6_giveBoxes : MethodName := ⟨RX6, "giveBoxes", "(II)I"⟩
abbrev cX6_property : ByteArray := prog_8_method_7_code
def yX6_property : MethodName := ⟨RX6, "property", "(I)I"⟩
abbrev cX6_begin : ByteArray := prog_8_method_8_code
def yX6_begin : MethodName := ⟨RX6, "begin", "(III)V"⟩
abbrev cX6_copyFrom : ByteArray := prog_8_method_9_code
def yX6_copyFrom : MethodName := ⟨RX6, "copyFrom", "(LTileFactory$Lot;)V"⟩
def RX7 : String := "TileFactory$Pile"
def TX7 : u_T := fun k => match k with
  | 0 => ("TileFactory$Pile", "glaze", "I", false)
  | 1 => ("TileFactory$Pile", "shade", "I", false)
  | 2 => ("TileFactory$Pile", "tiles", "I", false)
  | _ => ("TileFactory$Pile", "hidden", "I", false)
def tyX7 : Nat → FieldType := fun k => match k with
  | 0 => .int
  | 1 => .int
  | 2 => .int
  | _ => .int
abbrev wsX70 : List Cond := u_ws RX7 TX7 4
theorem nmX7 : ∀ a, a < 4 → ∀ b, b < 4 → a ≠ b → (TX7 a).2.1 ≠ (TX7 b).2.1 := by decide +kernel
theorem tyX7_ok : ∀ k, k < 4 → parseFieldDescriptor (TX7 k).2.2.1 = some (tyX7 k) := by decide +kernel
abbrev cX7_init : ByteArray := prog_9_method_1_code
def yX7_init : MethodName := ⟨RX7, "<init>", "()V"⟩
abbrev cX7_isOf : ByteArray := prog_9_method_2_code
def yX7_isOf : MethodName := ⟨RX7, "isOf", "(II)Z"⟩
abbrev cX7_foundBy : ByteArray := prog_9_method_3_code
def yX7_foundBy : MethodName := ⟨RX7, "foundBy", "(II)I"⟩
abbrev cX7_begin : ByteArray := prog_9_method_5_code
def yX7_begin : MethodName := ⟨RX7, "begin", "(II)V"⟩
abbrev cX7_copyFrom : ByteArray := prog_9_method_6_code
def yX7_copyFrom : MethodName := ⟨RX7, "copyFrom", "(LTileFactory$Pile;)V"⟩
def RX8 : String := "TileFactory$Position"
def TX8 : u_T := fun k => match k with
  | 0 => ("TileFactory$Position", "slope", "I", true)
  | 1 => ("TileFactory$Position", "offset", "I", false)
  | 2 => ("TileFactory$Position", "breakage", "I", false)
  | _ => ("TileFactory$Position", "broken", "I", false)
def tyX8 : Nat → FieldType := fun k => match k with
  | 0 => .int
  | 1 => .int
  | 2 => .int
  | _ => .int
abbrev wsX80 : List Cond := u_ws RX8 TX8 4
theorem nmX8 : ∀ a, a < 4 → ∀ b, b < 4 → a ≠ b → (TX8 a).2.1 ≠ (TX8 b).2.1 := by decide +kernel
theorem tyX8_ok : ∀ k, k < 4 → parseFieldDescriptor (TX8 k).2.2.1 = some (tyX8 k) := by decide +kernel
abbrev cX8_init : ByteArray := prog_10_method_1_code
def yX8_init : MethodName := ⟨RX8, "<init>", "(I)V"⟩
abbrev cX8_temperature : ByteArray := prog_10_method_2_code
def yX8_temperature : MethodName := ⟨RX8, "temperature", "(I)I"⟩
abbrev cX8_breakSome : ByteArray := prog_10_method_3_code
def yX8_breakSome : MethodName := ⟨RX8, "breakSome", "(I)I"⟩
abbrev cX8_copyFrom : ByteArray := prog_10_method_5_code
def yX8_copyFrom : MethodName := ⟨RX8, "copyFrom", "(LTileFactory$Position;)V"⟩
def RX9 : String := "TileFactory$Script"
def TX9 : u_T := fun k => match k with
  | 0 => ("TileFactory$Script", "signs", "[C", true)
  | 1 => ("TileFactory$Script", "length", "I", false)
  | 2 => ("TileFactory$Script", "next", "I", false)
  | 3 => ("TileFactory$Script", "words", "I", false)
  | 4 => ("TileFactory$Script", "hasOnlyNumbers", "Z", false)
  | 5 => ("TileFactory$Script", "arguments", "[I", true)
  | _ => ("TileFactory$Script", "verb", "LTileFactory$Verb;", false)
def tyX9 : Nat → FieldType := fun k => match k with
  | 0 => .array .char
  | 1 => .int
  | 2 => .int
  | 3 => .int
  | 4 => .boolean
  | 5 => .array .int
  | _ => .object "TileFactory$Verb"
abbrev wsX90 : List Cond := u_ws RX9 TX9 7
theorem nmX9 : ∀ a, a < 7 → ∀ b, b < 7 → a ≠ b → (TX9 a).2.1 ≠ (TX9 b).2.1 := by decide +kernel
theorem tyX9_ok : ∀ k, k < 7 → parseFieldDescriptor (TX9 k).2.2.1 = some (tyX9 k) := by decide +kernel
abbrev cX9_init : ByteArray := prog_11_method_1_code
def yX9_init : MethodName := ⟨RX9, "<init>", "()V"⟩
abbrev cX9_countCommands : ByteArray := prog_11_method_3_code
def yX9_countCommands : MethodName := ⟨RX9, "countCommands", "()I"⟩
abbrev cX9_findError : ByteArray := prog_11_method_4_code
def yX9_findError : MethodName := ⟨RX9, "findError", "()I"⟩
abbrev cX9_rewind : ByteArray := prog_11_method_5_code
def yX9_rewind : MethodName := ⟨RX9, "rewind", "()V"⟩
abbrev cX9_readCommand : ByteArray := prog_11_method_6_code
def yX9_readCommand : MethodName := ⟨RX9, "readCommand", "()V"⟩
abbrev cX9_endOfCommand : ByteArray := prog_11_method_7_code
def yX9_endOfCommand : MethodName := ⟨RX9, "endOfCommand", "()I"⟩
abbrev cX9_readWord : ByteArray := prog_11_method_8_code
def yX9_readWord : MethodName := ⟨RX9, "readWord", "(II)V"⟩
abbrev cX9_verbAt : ByteArray := prog_11_method_9_code
def yX9_verbAt : MethodName := ⟨RX9, "verbAt", "(II)LTileFactory$Verb;"⟩
abbrev cX9_isWord : ByteArray := prog_11_method_10_code
def yX9_isWord : MethodName := ⟨RX9, "isWord", "(Ljava/lang/String;II)Z"⟩
abbrev cX9_readArgument : ByteArray := prog_11_method_11_code
def yX9_readArgument : MethodName := ⟨RX9, "readArgument", "(II)V"⟩
abbrev cX9_numberAt : ByteArray := prog_11_method_13_code
def yX9_numberAt : MethodName := ⟨RX9, "numberAt", "(II)I"⟩
abbrev cX9_kindOfError : ByteArray := prog_11_method_14_code
def yX9_kindOfError : MethodName := ⟨RX9, "kindOfError", "()I"⟩
def RX10 : String := "TileFactory$State"
def TX10 : u_T := fun k => match k with
  | 0 => ("TileFactory$State", "glazes", "[LTileFactory$Glaze;", true)
  | 1 => ("TileFactory$State", "positions", "[LTileFactory$Position;", true)
  | 2 => ("TileFactory$State", "piles", "[LTileFactory$Pile;", true)
  | 3 => ("TileFactory$State", "lots", "[LTileFactory$Lot;", true)
  | 4 => ("TileFactory$State", "deliveries", "[LTileFactory$Delivery;", true)
  | 5 => ("TileFactory$State", "events", "LTileFactory$EventLog;", true)
  | 6 => ("TileFactory$State", "sharpness", "I", false)
  | 7 => ("TileFactory$State", "boxSize", "I", false)
  | 8 => ("TileFactory$State", "pileCount", "I", false)
  | 9 => ("TileFactory$State", "lotCount", "I", false)
  | 10 => ("TileFactory$State", "deliveryCount", "I", false)
  | 11 => ("TileFactory$State", "firings", "I", false)
  | 12 => ("TileFactory$State", "fired", "I", false)
  | _ => ("TileFactory$State", "broken", "I", false)
def tyX10 : Nat → FieldType := fun k => match k with
  | 0 => .array (.object "TileFactory$Glaze")
  | 1 => .array (.object "TileFactory$Position")
  | 2 => .array (.object "TileFactory$Pile")
  | 3 => .array (.object "TileFactory$Lot")
  | 4 => .array (.object "TileFactory$Delivery")
  | 5 => .object "TileFactory$EventLog"
  | 6 => .int
  | 7 => .int
  | 8 => .int
  | 9 => .int
  | 10 => .int
  | 11 => .int
  | 12 => .int
  | _ => .int
abbrev wsX100 : List Cond := u_ws RX10 TX10 14
theorem nmX10 : ∀ a, a < 14 → ∀ b, b < 14 → a ≠ b → (TX10 a).2.1 ≠ (TX10 b).2.1 := by decide +kernel
theorem tyX10_ok : ∀ k, k < 14 → parseFieldDescriptor (TX10 k).2.2.1 = some (tyX10 k) := by decide +kernel
abbrev cX10_init : ByteArray := prog_12_method_1_code
def yX10_init : MethodName := ⟨RX10, "<init>", "()V"⟩
abbrev cX10_copyFrom : ByteArray := prog_12_method_2_code
def yX10_copyFrom : MethodName := ⟨RX10, "copyFrom", "(LTileFactory$State;)V"⟩
abbrev cX10_faultOfFiring : ByteArray := prog_12_method_3_code
def yX10_faultOfFiring : MethodName := ⟨RX10, "faultOfFiring", "(IIII)LTileFactory$Fault;"⟩
abbrev cX10_makeFiring : ByteArray := prog_12_method_4_code
def yX10_makeFiring : MethodName := ⟨RX10, "makeFiring", "(IIII)I"⟩
abbrev cX10_addToBench : ByteArray := prog_12_method_5_code
def yX10_addToBench : MethodName := ⟨RX10, "addToBench", "(IIII)V"⟩
abbrev cX10_indexOfPile : ByteArray := prog_12_method_6_code
def yX10_indexOfPile : MethodName := ⟨RX10, "indexOfPile", "(II)I"⟩
abbrev cX10_hasPile : ByteArray := prog_12_method_7_code
def yX10_hasPile : MethodName := ⟨RX10, "hasPile", "(I)Z"⟩
abbrev cX10_positionsWithShade : ByteArray := prog_12_method_8_code
def yX10_positionsWithShade : MethodName := ⟨RX10, "positionsWithShade", "(IIII)I"⟩
abbrev cX10_faultOfGrading : ByteArray := prog_12_method_9_code
def yX10_faultOfGrading : MethodName := ⟨RX10, "faultOfGrading", "(I)LTileFactory$Fault;"⟩
abbrev cX10_gradeBench : ByteArray := prog_12_method_10_code
def yX10_gradeBench : MethodName := ⟨RX10, "gradeBench", "(I)I"⟩
abbrev cX10_hiddenAfter : ByteArray := prog_12_method_11_code
def yX10_hiddenAfter : MethodName := ⟨RX10, "hiddenAfter", "(I)I"⟩
abbrev cX10_addLoose : ByteArray := prog_12_method_12_code
def yX10_addLoose : MethodName := ⟨RX10, "addLoose", "(IIIII)V"⟩
abbrev cX10_indexOfLot : ByteArray := prog_12_method_13_code
def yX10_indexOfLot : MethodName := ⟨RX10, "indexOfLot", "(III)I"⟩
abbrev cX10_hasLot : ByteArray := prog_12_method_14_code
def yX10_hasLot : MethodName := ⟨RX10, "hasLot", "(I)Z"⟩
abbrev cX10_contentOf : ByteArray := prog_12_method_16_code
def yX10_contentOf : MethodName := ⟨RX10, "contentOf", "(II)I"⟩
abbrev cX10_packLots : ByteArray := prog_12_method_17_code
def yX10_packLots : MethodName := ⟨RX10, "packLots", "()I"⟩
abbrev cX10_fullestLots : ByteArray := prog_12_method_18_code
def yX10_fullestLots : MethodName := ⟨RX10, "fullestLots", "(II)[I"⟩
abbrev cX10_insert : ByteArray := prog_12_method_19_code
def yX10_insert : MethodName := ⟨RX10, "insert", "([II)V"⟩
abbrev cX10_hasDelivery : ByteArray := prog_12_method_20_code
def yX10_hasDelivery : MethodName := ⟨RX10, "hasDelivery", "(I)Z"⟩
abbrev cX10_faultOfDelivery : ByteArray := prog_12_method_21_code
def yX10_faultOfDelivery : MethodName := ⟨RX10, "faultOfDelivery", "(III)LTileFactory$Fault;"⟩
abbrev cX10_lotToDeliver : ByteArray := prog_12_method_22_code
def yX10_lotToDeliver : MethodName := ⟨RX10, "lotToDeliver", "(III)I"⟩
abbrev cX10_isBetter : ByteArray := prog_12_method_23_code
def yX10_isBetter : MethodName := ⟨RX10, "isBetter", "(LTileFactory$Lot;LTileFactory$Lot;)Z"⟩
abbrev cX10_makeDelivery : ByteArray := prog_12_method_24_code
def yX10_makeDelivery : MethodName := ⟨RX10, "makeDelivery", "(III)I"⟩
abbrev cX10_faultOfDropping : ByteArray := prog_12_method_25_code
def yX10_faultOfDropping : MethodName := ⟨RX10, "faultOfDropping", "(IIII)LTileFactory$Fault;"⟩
abbrev cX10_dropBox : ByteArray := prog_12_method_26_code
def yX10_dropBox : MethodName := ⟨RX10, "dropBox", "(IIII)I"⟩
abbrev cX10_breakOtherwise : ByteArray := prog_12_method_27_code
def yX10_breakOtherwise : MethodName := ⟨RX10, "breakOtherwise", "(I)V"⟩
abbrev cX10_faultOfReturn : ByteArray := prog_12_method_28_code
def yX10_faultOfReturn : MethodName := ⟨RX10, "faultOfReturn", "(III)LTileFactory$Fault;"⟩
abbrev cX10_openReturned : ByteArray := prog_12_method_29_code
def yX10_openReturned : MethodName := ⟨RX10, "openReturned", "(III)I"⟩
abbrev cX10_faultOfReplacing : ByteArray := prog_12_method_30_code
def yX10_faultOfReplacing : MethodName := ⟨RX10, "faultOfReplacing", "(I)LTileFactory$Fault;"⟩
abbrev cX10_replaceComplaints : ByteArray := prog_12_method_31_code
def yX10_replaceComplaints : MethodName := ⟨RX10, "replaceComplaints", "(I)I"⟩
abbrev cX10_sum : ByteArray := prog_12_method_32_code
def yX10_sum : MethodName := ⟨RX10, "sum", "(I)J"⟩
abbrev cX10_tilesOnBench : ByteArray := prog_12_method_33_code
def yX10_tilesOnBench : MethodName := ⟨RX10, "tilesOnBench", "()I"⟩
abbrev cX10_looseTiles : ByteArray := prog_12_method_34_code
def yX10_looseTiles : MethodName := ⟨RX10, "looseTiles", "()I"⟩
abbrev cX10_boxesInLots : ByteArray := prog_12_method_35_code
def yX10_boxesInLots : MethodName := ⟨RX10, "boxesInLots", "()I"⟩
abbrev cX10_boxesOut : ByteArray := prog_12_method_36_code
def yX10_boxesOut : MethodName := ⟨RX10, "boxesOut", "()I"⟩
abbrev cX10_presentValue : ByteArray := prog_12_method_37_code
def yX10_presentValue : MethodName := ⟨RX10, "presentValue", "()J"⟩
abbrev cX10_deliveredValue : ByteArray := prog_12_method_38_code
def yX10_deliveredValue : MethodName := ⟨RX10, "deliveredValue", "()J"⟩
def RX11 : String := "TileFactory$Verb"
def TX11 : u_T := fun k => match k with
  | _ => ("", "", "", false)
def tyX11 : Nat → FieldType := fun k => match k with
  | _ => .int
abbrev wsX110 : List Cond := u_ws RX11 TX11 0
theorem nmX11 : ∀ a, a < 0 → ∀ b, b < 0 → a ≠ b → (TX11 a).2.1 ≠ (TX11 b).2.1 := by decide +kernel
theorem tyX11_ok : ∀ k, k < 0 → parseFieldDescriptor (TX11 k).2.2.1 = some (tyX11 k) := by decide +kernel
def RX12 : String := "TileFactory"
def TX12 : u_T := fun k => match k with
  | 0 => ("TileFactory", "state", "LTileFactory$State;", true)
  | 1 => ("TileFactory", "history", "LTileFactory$History;", true)
  | _ => ("TileFactory", "script", "LTileFactory$Script;", true)
def tyX12 : Nat → FieldType := fun k => match k with
  | 0 => .object "TileFactory$State"
  | 1 => .object "TileFactory$History"
  | _ => .object "TileFactory$Script"
abbrev wsX120 : List Cond := u_ws RX12 TX12 3
theorem nmX12 : ∀ a, a < 3 → ∀ b, b < 3 → a ≠ b → (TX12 a).2.1 ≠ (TX12 b).2.1 := by decide +kernel
theorem tyX12_ok : ∀ k, k < 3 → parseFieldDescriptor (TX12 k).2.2.1 = some (tyX12 k) := by decide +kernel
abbrev cX12_init : ByteArray := prog_1_method_1_code
def yX12_init : MethodName := ⟨RX12, "<init>", "()V"⟩
abbrev cX12_setGlaze : ByteArray := prog_1_method_2_code
def yX12_setGlaze : MethodName := ⟨RX12, "setGlaze", "(III)I"⟩
abbrev cX12_setQuality : ByteArray := prog_1_method_3_code
def yX12_setQuality : MethodName := ⟨RX12, "setQuality", "(III)I"⟩
abbrev cX12_setPosition : ByteArray := prog_1_method_4_code
def yX12_setPosition : MethodName := ⟨RX12, "setPosition", "(IIII)I"⟩
abbrev cX12_setSharpness : ByteArray := prog_1_method_5_code
def yX12_setSharpness : MethodName := ⟨RX12, "setSharpness", "(I)I"⟩
abbrev cX12_setBoxSize : ByteArray := prog_1_method_6_code
def yX12_setBoxSize : MethodName := ⟨RX12, "setBoxSize", "(I)I"⟩
abbrev cX12_fire : ByteArray := prog_1_method_7_code
def yX12_fire : MethodName := ⟨RX12, "fire", "(IIII)I"⟩
abbrev cX12_grade : ByteArray := prog_1_method_8_code
def yX12_grade : MethodName := ⟨RX12, "grade", "(I)I"⟩
abbrev cX12_pack : ByteArray := prog_1_method_9_code
def yX12_pack : MethodName := ⟨RX12, "pack", "()I"⟩
abbrev cX12_deliver : ByteArray := prog_1_method_10_code
def yX12_deliver : MethodName := ⟨RX12, "deliver", "(III)I"⟩
abbrev cX12_drop : ByteArray := prog_1_method_11_code
def yX12_drop : MethodName := ⟨RX12, "drop", "(IIII)I"⟩
abbrev cX12_takeBack : ByteArray := prog_1_method_12_code
def yX12_takeBack : MethodName := ⟨RX12, "takeBack", "(III)I"⟩
abbrev cX12_replace : ByteArray := prog_1_method_13_code
def yX12_replace : MethodName := ⟨RX12, "replace", "(I)I"⟩
abbrev cX12_undo : ByteArray := prog_1_method_14_code
def yX12_undo : MethodName := ⟨RX12, "undo", "()I"⟩
abbrev cX12_lot : ByteArray := prog_1_method_18_code
def yX12_lot : MethodName := ⟨RX12, "lot", "(II)I"⟩
abbrev cX12_delivery : ByteArray := prog_1_method_20_code
def yX12_delivery : MethodName := ⟨RX12, "delivery", "(II)J"⟩
abbrev cX12_event : ByteArray := prog_1_method_21_code
def yX12_event : MethodName := ⟨RX12, "event", "(II)I"⟩
abbrev cX12_total : ByteArray := prog_1_method_22_code
def yX12_total : MethodName := ⟨RX12, "total", "(I)J"⟩
abbrev cX12_shadeAt : ByteArray := prog_1_method_23_code
def yX12_shadeAt : MethodName := ⟨RX12, "shadeAt", "(IIII)I"⟩
abbrev cX12_bestPeak : ByteArray := prog_1_method_24_code
def yX12_bestPeak : MethodName := ⟨RX12, "bestPeak", "(III)I"⟩
abbrev cX12_largest : ByteArray := prog_1_method_25_code
def yX12_largest : MethodName := ⟨RX12, "largest", "(II)I"⟩
abbrev cX12_possible : ByteArray := prog_1_method_26_code
def yX12_possible : MethodName := ⟨RX12, "possible", "(IIIII)I"⟩
abbrev cX12_wouldHide : ByteArray := prog_1_method_27_code
def yX12_wouldHide : MethodName := ⟨RX12, "wouldHide", "(I)I"⟩
abbrev cX12_firstError : ByteArray := prog_1_method_30_code
def yX12_firstError : MethodName := ⟨RX12, "firstError", "()I"⟩
abbrev cX12_mostPlaced : ByteArray := prog_1_method_35_code
def yX12_mostPlaced : MethodName := ⟨RX12, "mostPlaced", "([I[II)I"⟩
abbrev cX12_isWithin : ByteArray := prog_1_method_36_code
def yX12_isWithin : MethodName := ⟨RX12, "isWithin", "(III)Z"⟩
abbrev cX12_isPercentage : ByteArray := prog_1_method_37_code
def yX12_isPercentage : MethodName := ⟨RX12, "isPercentage", "(I)Z"⟩
abbrev cX12_isGlaze : ByteArray := prog_1_method_38_code
def yX12_isGlaze : MethodName := ⟨RX12, "isGlaze", "(I)Z"⟩
abbrev cX12_isShade : ByteArray := prog_1_method_39_code
def yX12_isShade : MethodName := ⟨RX12, "isShade", "(I)Z"⟩
abbrev cX12_isGrade : ByteArray := prog_1_method_40_code
def yX12_isGrade : MethodName := ⟨RX12, "isGrade", "(I)Z"⟩
abbrev cX12_isKiln : ByteArray := prog_1_method_41_code
def yX12_isKiln : MethodName := ⟨RX12, "isKiln", "(I)Z"⟩
abbrev cX12_isPosition : ByteArray := prog_1_method_42_code
def yX12_isPosition : MethodName := ⟨RX12, "isPosition", "(I)Z"⟩
abbrev cX12_isPeak : ByteArray := prog_1_method_43_code
def yX12_isPeak : MethodName := ⟨RX12, "isPeak", "(I)Z"⟩
abbrev cX12_isBoxCount : ByteArray := prog_1_method_44_code
def yX12_isBoxCount : MethodName := ⟨RX12, "isBoxCount", "(I)Z"⟩
abbrev cX12_checkIndex : ByteArray := prog_1_method_45_code
def yX12_checkIndex : MethodName := ⟨RX12, "checkIndex", "(Z)V"⟩
abbrev cX12_checkArgument : ByteArray := prog_1_method_46_code
def yX12_checkArgument : MethodName := ⟨RX12, "checkArgument", "(Z)V"⟩
abbrev cX12_checkState : ByteArray := prog_1_method_47_code
def yX12_checkState : MethodName := ⟨RX12, "checkState", "(Z)V"⟩
abbrev cX12_refuse : ByteArray := prog_1_method_48_code
def yX12_refuse : MethodName := ⟨RX12, "refuse", "(LTileFactory$Fault;)V"⟩
def RX13 : String := "TileFactoryModel"
def TX13 : u_T := fun k => match k with
  | _ => ("", "", "", false)
def tyX13 : Nat → FieldType := fun k => match k with
  | _ => .int
abbrev wsX130 : List Cond := u_ws RX13 TX13 0
theorem nmX13 : ∀ a, a < 0 → ∀ b, b < 0 → a ≠ b → (TX13 a).2.1 ≠ (TX13 b).2.1 := by decide +kernel
theorem tyX13_ok : ∀ k, k < 0 → parseFieldDescriptor (TX13 k).2.2.1 = some (tyX13 k) := by decide +kernel
def RJx29ce0 : String := "java/lang/Enum"
def TJx29ce0 : u_T := fun k => match k with
  | _ => ("", "", "", false)
def tyJx29ce0 : Nat → FieldType := fun k => match k with
  | _ => .int
abbrev wsJx29ce00 : List Cond := u_ws RJx29ce0 TJx29ce0 0
theorem nmJx29ce0 : ∀ a, a < 0 → ∀ b, b < 0 → a ≠ b → (TJx29ce0 a).2.1 ≠ (TJx29ce0 b).2.1 := by decide +kernel
theorem tyJx29ce0_ok : ∀ k, k < 0 → parseFieldDescriptor (TJx29ce0 k).2.2.1 = some (tyJx29ce0 k) := by decide +kernel
def RJ9 : String := "java/lang/Math"
def TJ9 : u_T := fun k => match k with
  | _ => ("", "", "", false)
def tyJ9 : Nat → FieldType := fun k => match k with
  | _ => .int
abbrev wsJ90 : List Cond := u_ws RJ9 TJ9 0
theorem nmJ9 : ∀ a, a < 0 → ∀ b, b < 0 → a ≠ b → (TJ9 a).2.1 ≠ (TJ9 b).2.1 := by decide +kernel
theorem tyJ9_ok : ∀ k, k < 0 → parseFieldDescriptor (TJ9 k).2.2.1 = some (tyJ9 k) := by decide +kernel
abbrev cJ9_floorDiv_7cf53 : ByteArray := prog_21_method_47_code
def yJ9_floorDiv_7cf53 : MethodName := ⟨RJ9, "floorDiv", "(II)I"⟩
abbrev cJ9_max_7cf53 : ByteArray := prog_21_method_65_code
def yJ9_max_7cf53 : MethodName := ⟨RJ9, "max", "(II)I"⟩
abbrev cJ9_min_7cf53 : ByteArray := prog_21_method_69_code
def yJ9_min_7cf53 : MethodName := ⟨RJ9, "min", "(II)I"⟩
def RJ0 : String := "java/lang/String"
def TJ0 : u_T := fun k => match k with
  | _ => ("", "", "", false)
def tyJ0 : Nat → FieldType := fun k => match k with
  | _ => .int
abbrev wsJ00 : List Cond := u_ws RJ0 TJ0 0
theorem nmJ0 : ∀ a, a < 0 → ∀ b, b < 0 → a ≠ b → (TJ0 a).2.1 ≠ (TJ0 b).2.1 := by decide +kernel
theorem tyJ0_ok : ∀ k, k < 0 → parseFieldDescriptor (TJ0 k).2.2.1 = some (tyJ0 k) := by decide +kernel
abbrev cJ0_length_8abf5 : ByteArray := prog_23_method_54_code
def yJ0_length_8abf5 : MethodName := ⟨RJ0, "length", "()I"⟩
abbrev cJ0_charAt_5068e : ByteArray := prog_23_method_56_code
def yJ0_charAt_5068e : MethodName := ⟨RJ0, "charAt", "(I)C"⟩
abbrev cJ0_coder_7d493 : ByteArray := prog_23_method_152_code
def yJ0_coder_7d493 : MethodName := ⟨RJ0, "coder", "()B"⟩
abbrev cJ0_isLatin1_aae02 : ByteArray := prog_23_method_154_code
def yJ0_isLatin1_aae02 : MethodName := ⟨RJ0, "isLatin1", "()Z"⟩
abbrev cJ0_checkIndex_df160 : ByteArray := prog_23_method_155_code
def yJ0_checkIndex_df160 : MethodName := ⟨RJ0, "checkIndex", "(II)V"⟩
def RJ1 : String := "java/lang/StringLatin1"
def TJ1 : u_T := fun k => match k with
  | _ => ("", "", "", false)
def tyJ1 : Nat → FieldType := fun k => match k with
  | _ => .int
abbrev wsJ10 : List Cond := u_ws RJ1 TJ1 0
theorem nmJ1 : ∀ a, a < 0 → ∀ b, b < 0 → a ≠ b → (TJ1 a).2.1 ≠ (TJ1 b).2.1 := by decide +kernel
theorem tyJ1_ok : ∀ k, k < 0 → parseFieldDescriptor (TJ1 k).2.2.1 = some (tyJ1 k) := by decide +kernel
abbrev cJ1_charAt_3b067 : ByteArray := prog_24_method_2_code
def yJ1_charAt_3b067 : MethodName := ⟨RJ1, "charAt", "([BI)C"⟩
def RJ2 : String := "java/lang/StringUTF16"
def TJ2 : u_T := fun k => match k with
  | _ => ("", "", "", false)
def tyJ2 : Nat → FieldType := fun k => match k with
  | _ => .int
abbrev wsJ20 : List Cond := u_ws RJ2 TJ2 0
theorem nmJ2 : ∀ a, a < 0 → ∀ b, b < 0 → a ≠ b → (TJ2 a).2.1 ≠ (TJ2 b).2.1 := by decide +kernel
theorem tyJ2_ok : ∀ k, k < 0 → parseFieldDescriptor (TJ2 k).2.2.1 = some (tyJ2 k) := by decide +kernel
abbrev cJ2_getChar_3b067 : ByteArray := prog_25_method_5_code
def yJ2_getChar_3b067 : MethodName := ⟨RJ2, "getChar", "([BI)C"⟩
abbrev cJ2_length_9d52b : ByteArray := prog_25_method_6_code
def yJ2_length_9d52b : MethodName := ⟨RJ2, "length", "([B)I"⟩
abbrev cJ2_charAt_3b067 : ByteArray := prog_25_method_83_code
def yJ2_charAt_3b067 : MethodName := ⟨RJ2, "charAt", "([BI)C"⟩
abbrev cJ2_checkIndex_2214a : ByteArray := prog_25_method_91_code
def yJ2_checkIndex_2214a : MethodName := ⟨RJ2, "checkIndex", "(I[B)V"⟩
def RJ10 : String := "java/lang/System"
def TJ10 : u_T := fun k => match k with
  | _ => ("", "", "", false)
def tyJ10 : Nat → FieldType := fun k => match k with
  | _ => .int
abbrev wsJ100 : List Cond := u_ws RJ10 TJ10 0
theorem nmJ10 : ∀ a, a < 0 → ∀ b, b < 0 → a ≠ b → (TJ10 a).2.1 ≠ (TJ10 b).2.1 := by decide +kernel
theorem tyJ10_ok : ∀ k, k < 0 → parseFieldDescriptor (TJ10 k).2.2.1 = some (tyJ10 k) := by decide +kernel
def RJ3 : String := "jdk/internal/util/Preconditions"
def TJ3 : u_T := fun k => match k with
  | _ => ("", "", "", false)
def tyJ3 : Nat → FieldType := fun k => match k with
  | _ => .int
abbrev wsJ30 : List Cond := u_ws RJ3 TJ3 0
theorem nmJ3 : ∀ a, a < 0 → ∀ b, b < 0 → a ≠ b → (TJ3 a).2.1 ≠ (TJ3 b).2.1 := by decide +kernel
theorem tyJ3_ok : ∀ k, k < 0 → parseFieldDescriptor (TJ3 k).2.2.1 = some (tyJ3 k) := by decide +kernel
abbrev cJ3_checkIndex_8e157 : ByteArray := prog_28_method_11_code
def yJ3_checkIndex_8e157 : MethodName := ⟨RJ3, "checkIndex", "(IILjava/util/function/BiFunction;)I"⟩
def RL : String := "TileFactoryLaw"
abbrev cL_cell : ByteArray := method_2_code
def yL_cell : MethodName := ⟨RL, "cell", "([II)I"⟩
abbrev cL_low : ByteArray := method_3_code
def yL_low : MethodName := ⟨RL, "low", "(II)I"⟩
abbrev cL_setGlaze : ByteArray := method_4_code
def yL_setGlaze : MethodName := ⟨RL, "setGlaze", "(LTileFactory;III)I"⟩
abbrev cL_setQuality : ByteArray := method_5_code
def yL_setQuality : MethodName := ⟨RL, "setQuality", "(LTileFactory;III)I"⟩
abbrev cL_setPosition : ByteArray := method_6_code
def yL_setPosition : MethodName := ⟨RL, "setPosition", "(LTileFactory;IIII)I"⟩
abbrev cL_setSharpness : ByteArray := method_7_code
def yL_setSharpness : MethodName := ⟨RL, "setSharpness", "(LTileFactory;I)I"⟩
abbrev cL_setBoxSize : ByteArray := method_8_code
def yL_setBoxSize : MethodName := ⟨RL, "setBoxSize", "(LTileFactory;I)I"⟩
abbrev cL_fire : ByteArray := method_9_code
def yL_fire : MethodName := ⟨RL, "fire", "(LTileFactory;IIII)I"⟩
abbrev cL_grade : ByteArray := method_10_code
def yL_grade : MethodName := ⟨RL, "grade", "(LTileFactory;I)I"⟩
abbrev cL_deliver : ByteArray := method_11_code
def yL_deliver : MethodName := ⟨RL, "deliver", "(LTileFactory;III)I"⟩
abbrev cL_drop : ByteArray := method_12_code
def yL_drop : MethodName := ⟨RL, "drop", "(LTileFactory;IIII)I"⟩
abbrev cL_takeBack : ByteArray := method_13_code
def yL_takeBack : MethodName := ⟨RL, "takeBack", "(LTileFactory;III)I"⟩
abbrev cL_replace : ByteArray := method_14_code
def yL_replace : MethodName := ⟨RL, "replace", "(LTileFactory;I)I"⟩
abbrev cL_undo : ByteArray := method_15_code
def yL_undo : MethodName := ⟨RL, "undo", "(LTileFactory;)I"⟩
abbrev cL_lot : ByteArray := method_16_code
def yL_lot : MethodName := ⟨RL, "lot", "(LTileFactory;II)I"⟩
abbrev cL_delivery : ByteArray := method_17_code
def yL_delivery : MethodName := ⟨RL, "delivery", "(LTileFactory;II)J"⟩
abbrev cL_event : ByteArray := method_18_code
def yL_event : MethodName := ⟨RL, "event", "(LTileFactory;II)I"⟩
abbrev cL_total : ByteArray := method_19_code
def yL_total : MethodName := ⟨RL, "total", "(LTileFactory;I)J"⟩
abbrev cL_shadeAt : ByteArray := method_20_code
def yL_shadeAt : MethodName := ⟨RL, "shadeAt", "(LTileFactory;IIII)I"⟩
abbrev cL_bestPeak : ByteArray := method_21_code
def yL_bestPeak : MethodName := ⟨RL, "bestPeak", "(LTileFactory;III)I"⟩
abbrev cL_largest : ByteArray := method_22_code
def yL_largest : MethodName := ⟨RL, "largest", "(LTileFactory;II)I"⟩
abbrev cL_possible : ByteArray := method_23_code
def yL_possible : MethodName := ⟨RL, "possible", "(LTileFactory;IIIII)I"⟩
abbrev cL_wouldHide : ByteArray := method_24_code
def yL_wouldHide : MethodName := ⟨RL, "wouldHide", "(LTileFactory;I)I"⟩
abbrev cL_change : ByteArray := method_25_code
def yL_change : MethodName := ⟨RL, "change", "(LTileFactory;II)I"⟩
abbrev cL_ask : ByteArray := method_26_code
def yL_ask : MethodName := ⟨RL, "ask", "(LTileFactory;II)I"⟩
abbrev cL_isCounted : ByteArray := method_27_code
def yL_isCounted : MethodName := ⟨RL, "isCounted", "(LTileFactory;)Z"⟩
abbrev cL_areValues : ByteArray := method_28_code
def yL_areValues : MethodName := ⟨RL, "areValues", "(LTileFactory;)Z"⟩
abbrev cL_areAlike : ByteArray := method_29_code
def yL_areAlike : MethodName := ⟨RL, "areAlike", "(LTileFactory;LTileFactory;)Z"⟩
abbrev cL_law : ByteArray := code
def yL_law : MethodName := ⟨RL, "law", "([I)Z"⟩
abbrev vwCl : List vw_C := [(RX1, TX1, 5), (RX2, TX2, 3), (RX4, TX4, 4), (RX5, TX5, 2), (RX6, TX6, 6), (RX7, TX7, 4), (RX8, TX8, 4), (RX9, TX9, 7), (RX10, TX10, 14), (RX12, TX12, 3)]
