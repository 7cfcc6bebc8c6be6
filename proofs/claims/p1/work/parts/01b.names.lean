/-! NAMES, fields, methods: rows printed by TURN, cut out of claim/NAMES.whole.lean.txt -/
def RX0 : String := "Foundrymark$Chart"
def TX0 : u_T := fun k => match k with
  | 0 => ("Foundrymark$Chart", "centre", "I", false)
  | 1 => ("Foundrymark$Chart", "width", "I", false)
  | 2 => ("Foundrymark$Chart", "side", "I", false)
  | 3 => ("Foundrymark$Chart", "row", "I", false)
  | _ => ("Foundrymark$Chart", "measured", "I", false)
def tyX0 : Nat → FieldType := fun k => match k with
  | 0 => .int
  | 1 => .int
  | 2 => .int
  | 3 => .int
  | _ => .int
theorem nmX0 : ∀ a, a < 5 → ∀ b, b < 5 → a ≠ b → (TX0 a).2.1 ≠ (TX0 b).2.1 := by decide +kernel
theorem tyX0_ok : ∀ k, k < 5 → parseFieldDescriptor (TX0 k).2.2.1 = some (tyX0 k) := by decide +kernel
abbrev cX0_init : ByteArray := prog_2_method_1_code
def yX0_init : MethodName := ⟨RX0, "<init>", "()V"⟩
abbrev cX0_begin : ByteArray := prog_2_method_2_code
def yX0_begin : MethodName := ⟨RX0, "begin", "(II)V"⟩
abbrev cX0_alarms : ByteArray := prog_2_method_3_code
def yX0_alarms : MethodName := ⟨RX0, "alarms", "(I)Z"⟩
def RX1 : String := "Foundrymark$Component"
def TX1 : u_T := fun k => match k with
  | 0 => ("Foundrymark$Component", "part", "LFoundrymark$Part;", true)
  | 1 => ("Foundrymark$Component", "pieces", "I", true)
  | _ => ("Foundrymark$Component", "option", "I", true)
def tyX1 : Nat → FieldType := fun k => match k with
  | 0 => .object "Foundrymark$Part"
  | 1 => .int
  | _ => .int
theorem nmX1 : ∀ a, a < 3 → ∀ b, b < 3 → a ≠ b → (TX1 a).2.1 ≠ (TX1 b).2.1 := by decide +kernel
theorem tyX1_ok : ∀ k, k < 3 → parseFieldDescriptor (TX1 k).2.2.1 = some (tyX1 k) := by decide +kernel
abbrev cX1_init : ByteArray := prog_3_method_1_code
def yX1_init : MethodName := ⟨RX1, "<init>", "(LFoundrymark$Part;II)V"⟩
abbrev cX1_isFor : ByteArray := prog_3_method_2_code
def yX1_isFor : MethodName := ⟨RX1, "isFor", "(I)Z"⟩
def RX2 : String := "Foundrymark$Job"
def TX2 : u_T := fun k => match k with
  | 0 => ("Foundrymark$Job", "pieces", "I", false)
  | 1 => ("Foundrymark$Job", "scrapped", "I", false)
  | 2 => ("Foundrymark$Job", "operation", "I", false)
  | 3 => ("Foundrymark$Job", "finishedAt", "I", false)
  | 4 => ("Foundrymark$Job", "cost", "J", false)
  | 5 => ("Foundrymark$Job", "waitsAt", "LFoundrymark$Machine;", false)
  | _ => ("Foundrymark$Job", "lot", "LFoundrymark$Lot;", false)
def tyX2 : Nat → FieldType := fun k => match k with
  | 0 => .int
  | 1 => .int
  | 2 => .int
  | 3 => .int
  | 4 => .long
  | 5 => .object "Foundrymark$Machine"
  | _ => .object "Foundrymark$Lot"
theorem nmX2 : ∀ a, a < 7 → ∀ b, b < 7 → a ≠ b → (TX2 a).2.1 ≠ (TX2 b).2.1 := by decide +kernel
theorem tyX2_ok : ∀ k, k < 7 → parseFieldDescriptor (TX2 k).2.2.1 = some (tyX2 k) := by decide +kernel
abbrev cX2_init : ByteArray := prog_4_method_1_code
def yX2_init : MethodName := ⟨RX2, "<init>", "()V"⟩
def RX3 : String := "Foundrymark$Lot"
def TX3 : u_T := fun k => match k with
  | 0 => ("Foundrymark$Lot", "number", "I", true)
  | 1 => ("Foundrymark$Lot", "part", "LFoundrymark$Part;", true)
  | 2 => ("Foundrymark$Lot", "quantity", "I", true)
  | 3 => ("Foundrymark$Lot", "inside", "LFoundrymark$NumberSet;", true)
  | 4 => ("Foundrymark$Lot", "intoLots", "LFoundrymark$NumberSet;", true)
  | 5 => ("Foundrymark$Lot", "intoOrders", "LFoundrymark$NumberSet;", true)
  | 6 => ("Foundrymark$Lot", "rest", "I", false)
  | 7 => ("Foundrymark$Lot", "reserved", "I", false)
  | 8 => ("Foundrymark$Lot", "delivered", "I", false)
  | _ => ("Foundrymark$Lot", "cost", "J", false)
def tyX3 : Nat → FieldType := fun k => match k with
  | 0 => .int
  | 1 => .object "Foundrymark$Part"
  | 2 => .int
  | 3 => .object "Foundrymark$NumberSet"
  | 4 => .object "Foundrymark$NumberSet"
  | 5 => .object "Foundrymark$NumberSet"
  | 6 => .int
  | 7 => .int
  | 8 => .int
  | _ => .long
theorem nmX3 : ∀ a, a < 10 → ∀ b, b < 10 → a ≠ b → (TX3 a).2.1 ≠ (TX3 b).2.1 := by decide +kernel
theorem tyX3_ok : ∀ k, k < 10 → parseFieldDescriptor (TX3 k).2.2.1 = some (tyX3 k) := by decide +kernel
abbrev cX3_init : ByteArray := prog_5_method_1_code
def yX3_init : MethodName := ⟨RX3, "<init>", "(ILFoundrymark$Part;IJ)V"⟩
abbrev cX3_take : ByteArray := prog_5_method_2_code
def yX3_take : MethodName := ⟨RX3, "take", "(I)J"⟩
def RX4 : String := "Foundrymark$Machine"
def TX4 : u_T := fun k => match k with
  | 0 => ("Foundrymark$Machine", "rate", "I", true)
  | 1 => ("Foundrymark$Machine", "setup", "I", true)
  | 2 => ("Foundrymark$Machine", "life", "I", true)
  | 3 => ("Foundrymark$Machine", "repair", "I", true)
  | 4 => ("Foundrymark$Machine", "state", "C", false)
  | 5 => ("Foundrymark$Machine", "family", "I", false)
  | 6 => ("Foundrymark$Machine", "wear", "I", false)
  | 7 => ("Foundrymark$Machine", "begunAt", "I", false)
  | 8 => ("Foundrymark$Machine", "endsAt", "I", false)
  | 9 => ("Foundrymark$Machine", "busy", "I", false)
  | _ => ("Foundrymark$Machine", "doing", "LFoundrymark$Order;", false)
def tyX4 : Nat → FieldType := fun k => match k with
  | 0 => .int
  | 1 => .int
  | 2 => .int
  | 3 => .int
  | 4 => .char
  | 5 => .int
  | 6 => .int
  | 7 => .int
  | 8 => .int
  | 9 => .int
  | _ => .object "Foundrymark$Order"
theorem nmX4 : ∀ a, a < 11 → ∀ b, b < 11 → a ≠ b → (TX4 a).2.1 ≠ (TX4 b).2.1 := by decide +kernel
theorem tyX4_ok : ∀ k, k < 11 → parseFieldDescriptor (TX4 k).2.2.1 = some (tyX4 k) := by decide +kernel
abbrev cX4_init : ByteArray := prog_6_method_1_code
def yX4_init : MethodName := ⟨RX4, "<init>", "(IIII)V"⟩
abbrev cX4_begin : ByteArray := prog_6_method_2_code
def yX4_begin : MethodName := ⟨RX4, "begin", "(LFoundrymark$Order;II)V"⟩
abbrev cX4_end : ByteArray := prog_6_method_3_code
def yX4_end : MethodName := ⟨RX4, "end", "(II)V"⟩
abbrev cX4_busyUntil : ByteArray := prog_6_method_4_code
def yX4_busyUntil : MethodName := ⟨RX4, "busyUntil", "(I)I"⟩
def RX5 : String := "Foundrymark$NumberSet"
def TX5 : u_T := fun k => match k with
  | 0 => ("Foundrymark$NumberSet", "low", "J", false)
  | _ => ("Foundrymark$NumberSet", "high", "J", false)
def tyX5 : Nat → FieldType := fun k => match k with
  | 0 => .long
  | _ => .long
theorem nmX5 : ∀ a, a < 2 → ∀ b, b < 2 → a ≠ b → (TX5 a).2.1 ≠ (TX5 b).2.1 := by decide +kernel
theorem tyX5_ok : ∀ k, k < 2 → parseFieldDescriptor (TX5 k).2.2.1 = some (tyX5 k) := by decide +kernel
abbrev cX5_init : ByteArray := prog_7_method_1_code
def yX5_init : MethodName := ⟨RX5, "<init>", "()V"⟩
abbrev cX5_add : ByteArray := prog_7_method_2_code
def yX5_add : MethodName := ⟨RX5, "add", "(I)V"⟩
abbrev cX5_remove : ByteArray := prog_7_method_3_code
def yX5_remove : MethodName := ⟨RX5, "remove", "(I)V"⟩
abbrev cX5_has : ByteArray := prog_7_method_4_code
def yX5_has : MethodName := ⟨RX5, "has", "(I)Z"⟩
abbrev cX5_meets : ByteArray := prog_7_method_5_code
def yX5_meets : MethodName := ⟨RX5, "meets", "(LFoundrymark$NumberSet;)Z"⟩
abbrev cX5_addWith : ByteArray := prog_7_method_6_code
def yX5_addWith : MethodName := ⟨RX5, "addWith", "(LFoundrymark$Lot;)V"⟩
abbrev cX5_size : ByteArray := prog_7_method_7_code
def yX5_size : MethodName := ⟨RX5, "size", "()I"⟩
def RX6 : String := "Foundrymark$Operation"
def TX6 : u_T := fun k => match k with
  | 0 => ("Foundrymark$Operation", "machine", "LFoundrymark$Machine;", true)
  | 1 => ("Foundrymark$Operation", "alternative", "LFoundrymark$Machine;", true)
  | _ => ("Foundrymark$Operation", "time", "I", true)
def tyX6 : Nat → FieldType := fun k => match k with
  | 0 => .object "Foundrymark$Machine"
  | 1 => .object "Foundrymark$Machine"
  | _ => .int
theorem nmX6 : ∀ a, a < 3 → ∀ b, b < 3 → a ≠ b → (TX6 a).2.1 ≠ (TX6 b).2.1 := by decide +kernel
theorem tyX6_ok : ∀ k, k < 3 → parseFieldDescriptor (TX6 k).2.2.1 = some (tyX6 k) := by decide +kernel
abbrev cX6_init : ByteArray := prog_8_method_1_code
def yX6_init : MethodName := ⟨RX6, "<init>", "(LFoundrymark$Machine;LFoundrymark$Machine;I)V"⟩
def RX7 : String := "Foundrymark$Order"
def TX7 : u_T := fun k => match k with
  | 0 => ("Foundrymark$Order", "number", "I", true)
  | 1 => ("Foundrymark$Order", "part", "LFoundrymark$Part;", true)
  | 2 => ("Foundrymark$Order", "quantity", "I", true)
  | 3 => ("Foundrymark$Order", "option", "I", true)
  | 4 => ("Foundrymark$Order", "due", "I", true)
  | 5 => ("Foundrymark$Order", "job", "LFoundrymark$Job;", true)
  | 6 => ("Foundrymark$Order", "inside", "LFoundrymark$NumberSet;", true)
  | 7 => ("Foundrymark$Order", "pieces", "[I", true)
  | 8 => ("Foundrymark$Order", "state", "C", false)
  | 9 => ("Foundrymark$Order", "deliveredAt", "I", false)
  | 10 => ("Foundrymark$Order", "delivered", "I", false)
  | _ => ("Foundrymark$Order", "deliveredCost", "J", false)
def tyX7 : Nat → FieldType := fun k => match k with
  | 0 => .int
  | 1 => .object "Foundrymark$Part"
  | 2 => .int
  | 3 => .int
  | 4 => .int
  | 5 => .object "Foundrymark$Job"
  | 6 => .object "Foundrymark$NumberSet"
  | 7 => .array .int
  | 8 => .char
  | 9 => .int
  | 10 => .int
  | _ => .long
theorem nmX7 : ∀ a, a < 12 → ∀ b, b < 12 → a ≠ b → (TX7 a).2.1 ≠ (TX7 b).2.1 := by decide +kernel
theorem tyX7_ok : ∀ k, k < 12 → parseFieldDescriptor (TX7 k).2.2.1 = some (tyX7 k) := by decide +kernel
abbrev cX7_init : ByteArray := prog_9_method_1_code
def yX7_init : MethodName := ⟨RX7, "<init>", "(ILFoundrymark$Part;III)V"⟩
abbrev cX7_piecesOf : ByteArray := prog_9_method_2_code
def yX7_piecesOf : MethodName := ⟨RX7, "piecesOf", "(LFoundrymark$Lot;)I"⟩
abbrev cX7_addPieces : ByteArray := prog_9_method_3_code
def yX7_addPieces : MethodName := ⟨RX7, "addPieces", "(LFoundrymark$Lot;I)V"⟩
abbrev cX7_isInWork : ByteArray := prog_9_method_4_code
def yX7_isInWork : MethodName := ⟨RX7, "isInWork", "()Z"⟩
abbrev cX7_isSoundAlone : ByteArray := prog_9_method_5_code
def yX7_isSoundAlone : MethodName := ⟨RX7, "isSoundAlone", "()Z"⟩
def RX8 : String := "Foundrymark$Part"
def TX8 : u_T := fun k => match k with
  | 0 => ("Foundrymark$Part", "number", "I", true)
  | 1 => ("Foundrymark$Part", "isMade", "Z", true)
  | 2 => ("Foundrymark$Part", "family", "I", true)
  | 3 => ("Foundrymark$Part", "components", "[LFoundrymark$Component;", true)
  | 4 => ("Foundrymark$Part", "operations", "[LFoundrymark$Operation;", true)
  | 5 => ("Foundrymark$Part", "chart", "LFoundrymark$Chart;", true)
  | 6 => ("Foundrymark$Part", "componentCount", "I", false)
  | _ => ("Foundrymark$Part", "operationCount", "I", false)
def tyX8 : Nat → FieldType := fun k => match k with
  | 0 => .int
  | 1 => .boolean
  | 2 => .int
  | 3 => .array (.object "Foundrymark$Component")
  | 4 => .array (.object "Foundrymark$Operation")
  | 5 => .object "Foundrymark$Chart"
  | 6 => .int
  | _ => .int
theorem nmX8 : ∀ a, a < 8 → ∀ b, b < 8 → a ≠ b → (TX8 a).2.1 ≠ (TX8 b).2.1 := by decide +kernel
theorem tyX8_ok : ∀ k, k < 8 → parseFieldDescriptor (TX8 k).2.2.1 = some (tyX8 k) := by decide +kernel
abbrev cX8_init : ByteArray := prog_10_method_1_code
def yX8_init : MethodName := ⟨RX8, "<init>", "(IZI)V"⟩
abbrev cX8_hasRoomForComponent : ByteArray := prog_10_method_2_code
def yX8_hasRoomForComponent : MethodName := ⟨RX8, "hasRoomForComponent", "()Z"⟩
abbrev cX8_putComponent : ByteArray := prog_10_method_3_code
def yX8_putComponent : MethodName := ⟨RX8, "putComponent", "(LFoundrymark$Component;)I"⟩
abbrev cX8_hasRoomForOperation : ByteArray := prog_10_method_4_code
def yX8_hasRoomForOperation : MethodName := ⟨RX8, "hasRoomForOperation", "()Z"⟩
abbrev cX8_putOperation : ByteArray := prog_10_method_5_code
def yX8_putOperation : MethodName := ⟨RX8, "putOperation", "(LFoundrymark$Operation;)I"⟩
abbrev cX8_operationAt : ByteArray := prog_10_method_6_code
def yX8_operationAt : MethodName := ⟨RX8, "operationAt", "(I)LFoundrymark$Operation;"⟩
def RX9 : String := "Foundrymark$Supplier"
def TX9 : u_T := fun k => match k with
  | 0 => ("Foundrymark$Supplier", "rule", "C", false)
  | 1 => ("Foundrymark$Supplier", "refusals", "I", false)
  | _ => ("Foundrymark$Supplier", "seen", "I", false)
def tyX9 : Nat → FieldType := fun k => match k with
  | 0 => .char
  | 1 => .int
  | _ => .int
theorem nmX9 : ∀ a, a < 3 → ∀ b, b < 3 → a ≠ b → (TX9 a).2.1 ≠ (TX9 b).2.1 := by decide +kernel
theorem tyX9_ok : ∀ k, k < 3 → parseFieldDescriptor (TX9 k).2.2.1 = some (tyX9 k) := by decide +kernel
abbrev cX9_init : ByteArray := prog_11_method_1_code
def yX9_init : MethodName := ⟨RX9, "<init>", "()V"⟩
abbrev cX9_refuses : ByteArray := prog_11_method_2_code
def yX9_refuses : MethodName := ⟨RX9, "refuses", "(I)Z"⟩
abbrev cX9_mostBad : ByteArray := prog_11_method_3_code
def yX9_mostBad : MethodName := ⟨RX9, "mostBad", "()I"⟩
abbrev cX9_nextRule : ByteArray := prog_11_method_4_code
def yX9_nextRule : MethodName := ⟨RX9, "nextRule", "(Z)C"⟩
abbrev cX9_areAccepted : ByteArray := prog_11_method_5_code
def yX9_areAccepted : MethodName := ⟨RX9, "areAccepted", "(I)Z"⟩
def RX10 : String := "Foundrymark"
def TX10 : u_T := fun k => match k with
  | 0 => ("Foundrymark", "machines", "[LFoundrymark$Machine;", true)
  | 1 => ("Foundrymark", "parts", "[LFoundrymark$Part;", true)
  | 2 => ("Foundrymark", "suppliers", "[LFoundrymark$Supplier;", true)
  | 3 => ("Foundrymark", "lots", "[LFoundrymark$Lot;", true)
  | 4 => ("Foundrymark", "orders", "[LFoundrymark$Order;", true)
  | 5 => ("Foundrymark", "onHold", "LFoundrymark$NumberSet;", true)
  | 6 => ("Foundrymark", "machineCount", "I", false)
  | 7 => ("Foundrymark", "partCount", "I", false)
  | 8 => ("Foundrymark", "lotCount", "I", false)
  | 9 => ("Foundrymark", "boughtCount", "I", false)
  | 10 => ("Foundrymark", "orderCount", "I", false)
  | 11 => ("Foundrymark", "now", "I", false)
  | 12 => ("Foundrymark", "costIn", "J", false)
  | _ => ("Foundrymark", "costLost", "J", false)
def tyX10 : Nat → FieldType := fun k => match k with
  | 0 => .array (.object "Foundrymark$Machine")
  | 1 => .array (.object "Foundrymark$Part")
  | 2 => .array (.object "Foundrymark$Supplier")
  | 3 => .array (.object "Foundrymark$Lot")
  | 4 => .array (.object "Foundrymark$Order")
  | 5 => .object "Foundrymark$NumberSet"
  | 6 => .int
  | 7 => .int
  | 8 => .int
  | 9 => .int
  | 10 => .int
  | 11 => .int
  | 12 => .long
  | _ => .long
theorem nmX10 : ∀ a, a < 14 → ∀ b, b < 14 → a ≠ b → (TX10 a).2.1 ≠ (TX10 b).2.1 := by decide +kernel
theorem tyX10_ok : ∀ k, k < 14 → parseFieldDescriptor (TX10 k).2.2.1 = some (tyX10 k) := by decide +kernel
abbrev cX10_init : ByteArray := prog_1_method_1_code
def yX10_init : MethodName := ⟨RX10, "<init>", "()V"⟩
abbrev cX10_addMachine : ByteArray := prog_1_method_2_code
def yX10_addMachine : MethodName := ⟨RX10, "addMachine", "(IIII)I"⟩
abbrev cX10_addPart : ByteArray := prog_1_method_3_code
def yX10_addPart : MethodName := ⟨RX10, "addPart", "(ZI)I"⟩
abbrev cX10_addComponent : ByteArray := prog_1_method_4_code
def yX10_addComponent : MethodName := ⟨RX10, "addComponent", "(IIII)I"⟩
abbrev cX10_addOperation : ByteArray := prog_1_method_5_code
def yX10_addOperation : MethodName := ⟨RX10, "addOperation", "(IIII)I"⟩
abbrev cX10_receive : ByteArray := prog_1_method_6_code
def yX10_receive : MethodName := ⟨RX10, "receive", "(IIIII)I"⟩
abbrev cX10_rule : ByteArray := prog_1_method_7_code
def yX10_rule : MethodName := ⟨RX10, "rule", "(I)C"⟩
abbrev cX10_hold : ByteArray := prog_1_method_8_code
def yX10_hold : MethodName := ⟨RX10, "hold", "(IZ)I"⟩
abbrev cX10_isHeld : ByteArray := prog_1_method_9_code
def yX10_isHeld : MethodName := ⟨RX10, "isHeld", "(I)Z"⟩
abbrev cX10_setChart : ByteArray := prog_1_method_10_code
def yX10_setChart : MethodName := ⟨RX10, "setChart", "(III)I"⟩
abbrev cX10_measure : ByteArray := prog_1_method_11_code
def yX10_measure : MethodName := ⟨RX10, "measure", "(II)Z"⟩
abbrev cX10_lots : ByteArray := prog_1_method_12_code
def yX10_lots : MethodName := ⟨RX10, "lots", "()I"⟩
abbrev cX10_partOf : ByteArray := prog_1_method_13_code
def yX10_partOf : MethodName := ⟨RX10, "partOf", "(I)I"⟩
abbrev cX10_rest : ByteArray := prog_1_method_14_code
def yX10_rest : MethodName := ⟨RX10, "rest", "(I)I"⟩
abbrev cX10_reserved : ByteArray := prog_1_method_15_code
def yX10_reserved : MethodName := ⟨RX10, "reserved", "(I)I"⟩
abbrev cX10_costOf : ByteArray := prog_1_method_16_code
def yX10_costOf : MethodName := ⟨RX10, "costOf", "(I)J"⟩
abbrev cX10_order : ByteArray := prog_1_method_17_code
def yX10_order : MethodName := ⟨RX10, "order", "(IIII)I"⟩
abbrev cX10_promise : ByteArray := prog_1_method_18_code
def yX10_promise : MethodName := ⟨RX10, "promise", "(I)Z"⟩
abbrev cX10_withdraw : ByteArray := prog_1_method_19_code
def yX10_withdraw : MethodName := ⟨RX10, "withdraw", "(I)I"⟩
abbrev cX10_release : ByteArray := prog_1_method_20_code
def yX10_release : MethodName := ⟨RX10, "release", "(I)Z"⟩
abbrev cX10_scrap : ByteArray := prog_1_method_21_code
def yX10_scrap : MethodName := ⟨RX10, "scrap", "(II)I"⟩
abbrev cX10_advance : ByteArray := prog_1_method_22_code
def yX10_advance : MethodName := ⟨RX10, "advance", "(I)I"⟩
abbrev cX10_deliver : ByteArray := prog_1_method_23_code
def yX10_deliver : MethodName := ⟨RX10, "deliver", "(I)Z"⟩
abbrev cX10_stateOf : ByteArray := prog_1_method_24_code
def yX10_stateOf : MethodName := ⟨RX10, "stateOf", "(I)C"⟩
abbrev cX10_lotOf : ByteArray := prog_1_method_25_code
def yX10_lotOf : MethodName := ⟨RX10, "lotOf", "(I)I"⟩
abbrev cX10_finishedAt : ByteArray := prog_1_method_26_code
def yX10_finishedAt : MethodName := ⟨RX10, "finishedAt", "(I)I"⟩
abbrev cX10_machineIs : ByteArray := prog_1_method_27_code
def yX10_machineIs : MethodName := ⟨RX10, "machineIs", "(I)C"⟩
abbrev cX10_wear : ByteArray := prog_1_method_28_code
def yX10_wear : MethodName := ⟨RX10, "wear", "(I)I"⟩
abbrev cX10_waiting : ByteArray := prog_1_method_29_code
def yX10_waiting : MethodName := ⟨RX10, "waiting", "(I)I"⟩
abbrev cX10_isIn : ByteArray := prog_1_method_30_code
def yX10_isIn : MethodName := ⟨RX10, "isIn", "(II)Z"⟩
abbrev cX10_touched : ByteArray := prog_1_method_31_code
def yX10_touched : MethodName := ⟨RX10, "touched", "(I)I"⟩
abbrev cX10_lotsIn : ByteArray := prog_1_method_32_code
def yX10_lotsIn : MethodName := ⟨RX10, "lotsIn", "(I)I"⟩
abbrev cX10_deliveredCost : ByteArray := prog_1_method_33_code
def yX10_deliveredCost : MethodName := ⟨RX10, "deliveredCost", "(I)J"⟩
abbrev cX10_inTimeShare : ByteArray := prog_1_method_34_code
def yX10_inTimeShare : MethodName := ⟨RX10, "inTimeShare", "()F"⟩
abbrev cX10_meanBusy : ByteArray := prog_1_method_35_code
def yX10_meanBusy : MethodName := ⟨RX10, "meanBusy", "()D"⟩
abbrev cX10_isSound : ByteArray := prog_1_method_36_code
def yX10_isSound : MethodName := ⟨RX10, "isSound", "()Z"⟩
abbrev cX10_isFrom : ByteArray := prog_1_method_37_code
def yX10_isFrom : MethodName := ⟨RX10, "isFrom", "(III)Z"⟩
abbrev cX10_knownMachine : ByteArray := prog_1_method_38_code
def yX10_knownMachine : MethodName := ⟨RX10, "knownMachine", "(I)LFoundrymark$Machine;"⟩
abbrev cX10_knownPart : ByteArray := prog_1_method_39_code
def yX10_knownPart : MethodName := ⟨RX10, "knownPart", "(I)LFoundrymark$Part;"⟩
abbrev cX10_knownLot : ByteArray := prog_1_method_40_code
def yX10_knownLot : MethodName := ⟨RX10, "knownLot", "(I)LFoundrymark$Lot;"⟩
abbrev cX10_knownOrder : ByteArray := prog_1_method_41_code
def yX10_knownOrder : MethodName := ⟨RX10, "knownOrder", "(I)LFoundrymark$Order;"⟩
abbrev cX10_findSupplier : ByteArray := prog_1_method_42_code
def yX10_findSupplier : MethodName := ⟨RX10, "findSupplier", "(I)LFoundrymark$Supplier;"⟩
abbrev cX10_putLot : ByteArray := prog_1_method_43_code
def yX10_putLot : MethodName := ⟨RX10, "putLot", "(LFoundrymark$Part;IJ)LFoundrymark$Lot;"⟩
abbrev cX10_isBarred : ByteArray := prog_1_method_44_code
def yX10_isBarred : MethodName := ⟨RX10, "isBarred", "(LFoundrymark$Lot;)Z"⟩
abbrev cX10_putOnHold : ByteArray := prog_1_method_45_code
def yX10_putOnHold : MethodName := ⟨RX10, "putOnHold", "(LFoundrymark$Lot;)I"⟩
abbrev cX10_hasBarredPieces : ByteArray := prog_1_method_46_code
def yX10_hasBarredPieces : MethodName := ⟨RX10, "hasBarredPieces", "(LFoundrymark$Order;)Z"⟩
abbrev cX10_freePieces : ByteArray := prog_1_method_47_code
def yX10_freePieces : MethodName := ⟨RX10, "freePieces", "(LFoundrymark$Lot;)I"⟩
abbrev cX10_freePiecesOf : ByteArray := prog_1_method_48_code
def yX10_freePiecesOf : MethodName := ⟨RX10, "freePiecesOf", "(LFoundrymark$Part;)I"⟩
abbrev cX10_reserveAll : ByteArray := prog_1_method_49_code
def yX10_reserveAll : MethodName := ⟨RX10, "reserveAll", "(LFoundrymark$Order;)Z"⟩
abbrev cX10_reserve : ByteArray := prog_1_method_50_code
def yX10_reserve : MethodName := ⟨RX10, "reserve", "(LFoundrymark$Order;LFoundrymark$Component;)Z"⟩
abbrev cX10_dropPromise : ByteArray := prog_1_method_51_code
def yX10_dropPromise : MethodName := ⟨RX10, "dropPromise", "(LFoundrymark$Order;)I"⟩
abbrev cX10_takeReserved : ByteArray := prog_1_method_52_code
def yX10_takeReserved : MethodName := ⟨RX10, "takeReserved", "(LFoundrymark$Order;)V"⟩
abbrev cX10_sendOn : ByteArray := prog_1_method_53_code
def yX10_sendOn : MethodName := ⟨RX10, "sendOn", "(LFoundrymark$Order;)LFoundrymark$Machine;"⟩
abbrev cX10_chooseMachine : ByteArray := prog_1_method_54_code
def yX10_chooseMachine : MethodName := ⟨RX10, "chooseMachine", "(LFoundrymark$Operation;)LFoundrymark$Machine;"⟩
abbrev cX10_load : ByteArray := prog_1_method_55_code
def yX10_load : MethodName := ⟨RX10, "load", "(LFoundrymark$Machine;)I"⟩
abbrev cX10_countWaiting : ByteArray := prog_1_method_56_code
def yX10_countWaiting : MethodName := ⟨RX10, "countWaiting", "(LFoundrymark$Machine;)I"⟩
abbrev cX10_firstWaiting : ByteArray := prog_1_method_57_code
def yX10_firstWaiting : MethodName := ⟨RX10, "firstWaiting", "(LFoundrymark$Machine;)LFoundrymark$Order;"⟩
abbrev cX10_passTime : ByteArray := prog_1_method_58_code
def yX10_passTime : MethodName := ⟨RX10, "passTime", "()V"⟩
abbrev cX10_beginNext : ByteArray := prog_1_method_59_code
def yX10_beginNext : MethodName := ⟨RX10, "beginNext", "(LFoundrymark$Machine;)V"⟩
abbrev cX10_endWork : ByteArray := prog_1_method_60_code
def yX10_endWork : MethodName := ⟨RX10, "endWork", "(LFoundrymark$Machine;)V"⟩
abbrev cX10_finish : ByteArray := prog_1_method_61_code
def yX10_finish : MethodName := ⟨RX10, "finish", "(LFoundrymark$Order;)V"⟩
abbrev cX10_noteSources : ByteArray := prog_1_method_62_code
def yX10_noteSources : MethodName := ⟨RX10, "noteSources", "(LFoundrymark$Order;LFoundrymark$Lot;)V"⟩
abbrev cX10_takeForDelivery : ByteArray := prog_1_method_63_code
def yX10_takeForDelivery : MethodName := ⟨RX10, "takeForDelivery", "(LFoundrymark$Order;)V"⟩
abbrev cX10_deliverOf : ByteArray := prog_1_method_64_code
def yX10_deliverOf : MethodName := ⟨RX10, "deliverOf", "(LFoundrymark$Lot;ILFoundrymark$Order;)I"⟩
abbrev cX10_noteOrderOnLots : ByteArray := prog_1_method_65_code
def yX10_noteOrderOnLots : MethodName := ⟨RX10, "noteOrderOnLots", "(LFoundrymark$Order;)V"⟩
abbrev cX10_areLotsSound : ByteArray := prog_1_method_66_code
def yX10_areLotsSound : MethodName := ⟨RX10, "areLotsSound", "()Z"⟩
abbrev cX10_piecesIn : ByteArray := prog_1_method_67_code
def yX10_piecesIn : MethodName := ⟨RX10, "piecesIn", "(LFoundrymark$Lot;Z)I"⟩
abbrev cX10_areJobsSound : ByteArray := prog_1_method_68_code
def yX10_areJobsSound : MethodName := ⟨RX10, "areJobsSound", "()Z"⟩
abbrev cX10_areCostsSound : ByteArray := prog_1_method_69_code
def yX10_areCostsSound : MethodName := ⟨RX10, "areCostsSound", "()Z"⟩
abbrev cX10_arePromisesSound : ByteArray := prog_1_method_70_code
def yX10_arePromisesSound : MethodName := ⟨RX10, "arePromisesSound", "()Z"⟩
abbrev cX10_areTracesSound : ByteArray := prog_1_method_71_code
def yX10_areTracesSound : MethodName := ⟨RX10, "areTracesSound", "()Z"⟩
abbrev cX10_isTraceSound : ByteArray := prog_1_method_72_code
def yX10_isTraceSound : MethodName := ⟨RX10, "isTraceSound", "(LFoundrymark$Lot;)Z"⟩
def RX11 : String := "FoundrymarkModel$Lot"
def TX11 : u_T := fun k => match k with
  | 0 => ("FoundrymarkModel$Lot", "number", "I", true)
  | 1 => ("FoundrymarkModel$Lot", "part", "I", true)
  | 2 => ("FoundrymarkModel$Lot", "rest", "I", false)
  | 3 => ("FoundrymarkModel$Lot", "reserved", "I", false)
  | 4 => ("FoundrymarkModel$Lot", "cost", "J", false)
  | 5 => ("FoundrymarkModel$Lot", "isOnHold", "Z", false)
  | _ => ("FoundrymarkModel$Lot", "of", "Ljava/util/ArrayList;", true)
def tyX11 : Nat → FieldType := fun k => match k with
  | 0 => .int
  | 1 => .int
  | 2 => .int
  | 3 => .int
  | 4 => .long
  | 5 => .boolean
  | _ => .object "java/util/ArrayList"
theorem nmX11 : ∀ a, a < 7 → ∀ b, b < 7 → a ≠ b → (TX11 a).2.1 ≠ (TX11 b).2.1 := by decide +kernel
theorem tyX11_ok : ∀ k, k < 7 → parseFieldDescriptor (TX11 k).2.2.1 = some (tyX11 k) := by decide +kernel
abbrev cX11_init : ByteArray := prog_14_method_1_code
def yX11_init : MethodName := ⟨RX11, "<init>", "(IIIJ)V"⟩
abbrev cX11_isHeld : ByteArray := prog_14_method_2_code
def yX11_isHeld : MethodName := ⟨RX11, "isHeld", "()Z"⟩
abbrev cX11_has : ByteArray := prog_14_method_3_code
def yX11_has : MethodName := ⟨RX11, "has", "(LFoundrymarkModel$Lot;)Z"⟩
def RX12 : String := "FoundrymarkModel$Machine"
def TX12 : u_T := fun k => match k with
  | 0 => ("FoundrymarkModel$Machine", "rate", "I", true)
  | 1 => ("FoundrymarkModel$Machine", "setup", "I", true)
  | 2 => ("FoundrymarkModel$Machine", "life", "I", true)
  | 3 => ("FoundrymarkModel$Machine", "repair", "I", true)
  | 4 => ("FoundrymarkModel$Machine", "family", "I", false)
  | 5 => ("FoundrymarkModel$Machine", "wear", "I", false)
  | 6 => ("FoundrymarkModel$Machine", "state", "C", false)
  | 7 => ("FoundrymarkModel$Machine", "ends", "I", false)
  | 8 => ("FoundrymarkModel$Machine", "began", "I", false)
  | 9 => ("FoundrymarkModel$Machine", "order", "LFoundrymarkModel$Order;", false)
  | _ => ("FoundrymarkModel$Machine", "busy", "I", false)
def tyX12 : Nat → FieldType := fun k => match k with
  | 0 => .int
  | 1 => .int
  | 2 => .int
  | 3 => .int
  | 4 => .int
  | 5 => .int
  | 6 => .char
  | 7 => .int
  | 8 => .int
  | 9 => .object "FoundrymarkModel$Order"
  | _ => .int
theorem nmX12 : ∀ a, a < 11 → ∀ b, b < 11 → a ≠ b → (TX12 a).2.1 ≠ (TX12 b).2.1 := by decide +kernel
theorem tyX12_ok : ∀ k, k < 11 → parseFieldDescriptor (TX12 k).2.2.1 = some (tyX12 k) := by decide +kernel
abbrev cX12_init : ByteArray := prog_15_method_1_code
def yX12_init : MethodName := ⟨RX12, "<init>", "(IIII)V"⟩
def RX13 : String := "FoundrymarkModel$Order"
def TX13 : u_T := fun k => match k with
  | 0 => ("FoundrymarkModel$Order", "number", "I", true)
  | 1 => ("FoundrymarkModel$Order", "part", "I", true)
  | 2 => ("FoundrymarkModel$Order", "quantity", "I", true)
  | 3 => ("FoundrymarkModel$Order", "option", "I", true)
  | 4 => ("FoundrymarkModel$Order", "due", "I", true)
  | 5 => ("FoundrymarkModel$Order", "state", "C", false)
  | 6 => ("FoundrymarkModel$Order", "lots", "Ljava/util/ArrayList;", true)
  | 7 => ("FoundrymarkModel$Order", "pieces", "Ljava/util/ArrayList;", true)
  | 8 => ("FoundrymarkModel$Order", "left", "I", false)
  | 9 => ("FoundrymarkModel$Order", "operation", "I", false)
  | 10 => ("FoundrymarkModel$Order", "machine", "I", false)
  | 11 => ("FoundrymarkModel$Order", "cost", "J", false)
  | 12 => ("FoundrymarkModel$Order", "made", "LFoundrymarkModel$Lot;", false)
  | 13 => ("FoundrymarkModel$Order", "finished", "I", false)
  | 14 => ("FoundrymarkModel$Order", "delivered", "I", false)
  | 15 => ("FoundrymarkModel$Order", "deliveredCost", "J", false)
  | _ => ("FoundrymarkModel$Order", "given", "Ljava/util/ArrayList;", true)
def tyX13 : Nat → FieldType := fun k => match k with
  | 0 => .int
  | 1 => .int
  | 2 => .int
  | 3 => .int
  | 4 => .int
  | 5 => .char
  | 6 => .object "java/util/ArrayList"
  | 7 => .object "java/util/ArrayList"
  | 8 => .int
  | 9 => .int
  | 10 => .int
  | 11 => .long
  | 12 => .object "FoundrymarkModel$Lot"
  | 13 => .int
  | 14 => .int
  | 15 => .long
  | _ => .object "java/util/ArrayList"
theorem nmX13 : ∀ a, a < 17 → ∀ b, b < 17 → a ≠ b → (TX13 a).2.1 ≠ (TX13 b).2.1 := by decide +kernel
theorem tyX13_ok : ∀ k, k < 17 → parseFieldDescriptor (TX13 k).2.2.1 = some (tyX13 k) := by decide +kernel
abbrev cX13_init : ByteArray := prog_16_method_1_code
def yX13_init : MethodName := ⟨RX13, "<init>", "(IIIII)V"⟩
abbrev cX13_isReleased : ByteArray := prog_16_method_2_code
def yX13_isReleased : MethodName := ⟨RX13, "isReleased", "()Z"⟩
def RX14 : String := "FoundrymarkModel$Part"
def TX14 : u_T := fun k => match k with
  | 0 => ("FoundrymarkModel$Part", "isMade", "Z", true)
  | 1 => ("FoundrymarkModel$Part", "family", "I", true)
  | 2 => ("FoundrymarkModel$Part", "components", "Ljava/util/ArrayList;", true)
  | 3 => ("FoundrymarkModel$Part", "operations", "Ljava/util/ArrayList;", true)
  | 4 => ("FoundrymarkModel$Part", "centre", "I", false)
  | 5 => ("FoundrymarkModel$Part", "width", "I", false)
  | 6 => ("FoundrymarkModel$Part", "above", "I", false)
  | 7 => ("FoundrymarkModel$Part", "below", "I", false)
  | _ => ("FoundrymarkModel$Part", "measured", "I", false)
def tyX14 : Nat → FieldType := fun k => match k with
  | 0 => .boolean
  | 1 => .int
  | 2 => .object "java/util/ArrayList"
  | 3 => .object "java/util/ArrayList"
  | 4 => .int
  | 5 => .int
  | 6 => .int
  | 7 => .int
  | _ => .int
theorem nmX14 : ∀ a, a < 9 → ∀ b, b < 9 → a ≠ b → (TX14 a).2.1 ≠ (TX14 b).2.1 := by decide +kernel
theorem tyX14_ok : ∀ k, k < 9 → parseFieldDescriptor (TX14 k).2.2.1 = some (tyX14 k) := by decide +kernel
abbrev cX14_init : ByteArray := prog_17_method_1_code
def yX14_init : MethodName := ⟨RX14, "<init>", "(ZI)V"⟩
def RX15 : String := "FoundrymarkModel"
def TX15 : u_T := fun k => match k with
  | 0 => ("FoundrymarkModel", "thrown", "I", false)
  | 1 => ("FoundrymarkModel", "machines", "Ljava/util/ArrayList;", true)
  | 2 => ("FoundrymarkModel", "parts", "Ljava/util/ArrayList;", true)
  | 3 => ("FoundrymarkModel", "lots", "Ljava/util/ArrayList;", true)
  | 4 => ("FoundrymarkModel", "orders", "Ljava/util/ArrayList;", true)
  | 5 => ("FoundrymarkModel", "bought", "I", false)
  | 6 => ("FoundrymarkModel", "rules", "[C", true)
  | 7 => ("FoundrymarkModel", "refused", "Ljava/util/ArrayList;", true)
  | _ => ("FoundrymarkModel", "time", "I", false)
def tyX15 : Nat → FieldType := fun k => match k with
  | 0 => .int
  | 1 => .object "java/util/ArrayList"
  | 2 => .object "java/util/ArrayList"
  | 3 => .object "java/util/ArrayList"
  | 4 => .object "java/util/ArrayList"
  | 5 => .int
  | 6 => .array .char
  | 7 => .object "java/util/ArrayList"
  | _ => .int
theorem nmX15 : ∀ a, a < 9 → ∀ b, b < 9 → a ≠ b → (TX15 a).2.1 ≠ (TX15 b).2.1 := by decide +kernel
theorem tyX15_ok : ∀ k, k < 9 → parseFieldDescriptor (TX15 k).2.2.1 = some (tyX15 k) := by decide +kernel
abbrev cX15_init : ByteArray := prog_13_method_1_code
def yX15_init : MethodName := ⟨RX15, "<init>", "()V"⟩
abbrev cX15_thrown : ByteArray := prog_13_method_2_code
def yX15_thrown : MethodName := ⟨RX15, "thrown", "()I"⟩
abbrev cX15_fails : ByteArray := prog_13_method_3_code
def yX15_fails : MethodName := ⟨RX15, "fails", "(I)Z"⟩
abbrev cX15_in : ByteArray := prog_13_method_4_code
def yX15_in : MethodName := ⟨RX15, "in", "(III)Z"⟩
abbrev cX15_addMachine : ByteArray := prog_13_method_5_code
def yX15_addMachine : MethodName := ⟨RX15, "addMachine", "(IIII)I"⟩
abbrev cX15_addPart : ByteArray := prog_13_method_6_code
def yX15_addPart : MethodName := ⟨RX15, "addPart", "(ZI)I"⟩
abbrev cX15_isPart : ByteArray := prog_13_method_7_code
def yX15_isPart : MethodName := ⟨RX15, "isPart", "(I)Z"⟩
abbrev cX15_addComponent : ByteArray := prog_13_method_8_code
def yX15_addComponent : MethodName := ⟨RX15, "addComponent", "(IIII)I"⟩
abbrev cX15_isMachine : ByteArray := prog_13_method_9_code
def yX15_isMachine : MethodName := ⟨RX15, "isMachine", "(I)Z"⟩
abbrev cX15_addOperation : ByteArray := prog_13_method_10_code
def yX15_addOperation : MethodName := ⟨RX15, "addOperation", "(IIII)I"⟩
abbrev cX15_lot : ByteArray := prog_13_method_11_code
def yX15_lot : MethodName := ⟨RX15, "lot", "(IIJ)LFoundrymarkModel$Lot;"⟩
abbrev cX15_receive : ByteArray := prog_13_method_12_code
def yX15_receive : MethodName := ⟨RX15, "receive", "(IIIII)I"⟩
abbrev cX15_among : ByteArray := prog_13_method_13_code
def yX15_among : MethodName := ⟨RX15, "among", "(Ljava/util/ArrayList;IZ)I"⟩
abbrev cX15_rule : ByteArray := prog_13_method_14_code
def yX15_rule : MethodName := ⟨RX15, "rule", "(I)C"⟩
abbrev cX15_failsLot : ByteArray := prog_13_method_15_code
def yX15_failsLot : MethodName := ⟨RX15, "failsLot", "(I)Z"⟩
abbrev cX15_lose : ByteArray := prog_13_method_16_code
def yX15_lose : MethodName := ⟨RX15, "lose", "()I"⟩
abbrev cX15_free : ByteArray := prog_13_method_17_code
def yX15_free : MethodName := ⟨RX15, "free", "(LFoundrymarkModel$Order;)I"⟩
abbrev cX15_hold : ByteArray := prog_13_method_18_code
def yX15_hold : MethodName := ⟨RX15, "hold", "(IZ)I"⟩
abbrev cX15_isHeld : ByteArray := prog_13_method_19_code
def yX15_isHeld : MethodName := ⟨RX15, "isHeld", "(I)Z"⟩
abbrev cX15_setChart : ByteArray := prog_13_method_20_code
def yX15_setChart : MethodName := ⟨RX15, "setChart", "(III)I"⟩
abbrev cX15_measure : ByteArray := prog_13_method_21_code
def yX15_measure : MethodName := ⟨RX15, "measure", "(II)Z"⟩
abbrev cX15_lots : ByteArray := prog_13_method_22_code
def yX15_lots : MethodName := ⟨RX15, "lots", "()I"⟩
abbrev cX15_partOf : ByteArray := prog_13_method_23_code
def yX15_partOf : MethodName := ⟨RX15, "partOf", "(I)I"⟩
abbrev cX15_rest : ByteArray := prog_13_method_24_code
def yX15_rest : MethodName := ⟨RX15, "rest", "(I)I"⟩
abbrev cX15_reserved : ByteArray := prog_13_method_25_code
def yX15_reserved : MethodName := ⟨RX15, "reserved", "(I)I"⟩
abbrev cX15_costOf : ByteArray := prog_13_method_26_code
def yX15_costOf : MethodName := ⟨RX15, "costOf", "(I)J"⟩
abbrev cX15_order : ByteArray := prog_13_method_27_code
def yX15_order : MethodName := ⟨RX15, "order", "(IIII)I"⟩
abbrev cX15_failsOrder : ByteArray := prog_13_method_28_code
def yX15_failsOrder : MethodName := ⟨RX15, "failsOrder", "(I)Z"⟩
abbrev cX15_reserve : ByteArray := prog_13_method_29_code
def yX15_reserve : MethodName := ⟨RX15, "reserve", "(LFoundrymarkModel$Order;)Z"⟩
abbrev cX15_promise : ByteArray := prog_13_method_30_code
def yX15_promise : MethodName := ⟨RX15, "promise", "(I)Z"⟩
abbrev cX15_withdraw : ByteArray := prog_13_method_31_code
def yX15_withdraw : MethodName := ⟨RX15, "withdraw", "(I)I"⟩
abbrev cX15_take : ByteArray := prog_13_method_32_code
def yX15_take : MethodName := ⟨RX15, "take", "(LFoundrymarkModel$Lot;I)J"⟩
abbrev cX15_release : ByteArray := prog_13_method_33_code
def yX15_release : MethodName := ⟨RX15, "release", "(I)Z"⟩
abbrev cX15_jobs : ByteArray := prog_13_method_34_code
def yX15_jobs : MethodName := ⟨RX15, "jobs", "(I)I"⟩
abbrev cX15_waits : ByteArray := prog_13_method_35_code
def yX15_waits : MethodName := ⟨RX15, "waits", "(I)I"⟩
abbrev cX15_goOn : ByteArray := prog_13_method_36_code
def yX15_goOn : MethodName := ⟨RX15, "goOn", "(LFoundrymarkModel$Order;)V"⟩
abbrev cX15_begin : ByteArray := prog_13_method_37_code
def yX15_begin : MethodName := ⟨RX15, "begin", "()V"⟩
abbrev cX15_end : ByteArray := prog_13_method_38_code
def yX15_end : MethodName := ⟨RX15, "end", "()V"⟩
abbrev cX15_scrap : ByteArray := prog_13_method_39_code
def yX15_scrap : MethodName := ⟨RX15, "scrap", "(II)I"⟩
abbrev cX15_advance : ByteArray := prog_13_method_40_code
def yX15_advance : MethodName := ⟨RX15, "advance", "(I)I"⟩
abbrev cX15_sources : ByteArray := prog_13_method_41_code
def yX15_sources : MethodName := ⟨RX15, "sources", "(LFoundrymarkModel$Order;)Ljava/util/ArrayList;"⟩
abbrev cX15_deliver : ByteArray := prog_13_method_42_code
def yX15_deliver : MethodName := ⟨RX15, "deliver", "(I)Z"⟩
abbrev cX15_stateOf : ByteArray := prog_13_method_43_code
def yX15_stateOf : MethodName := ⟨RX15, "stateOf", "(I)C"⟩
abbrev cX15_lotOf : ByteArray := prog_13_method_44_code
def yX15_lotOf : MethodName := ⟨RX15, "lotOf", "(I)I"⟩
abbrev cX15_finishedAt : ByteArray := prog_13_method_45_code
def yX15_finishedAt : MethodName := ⟨RX15, "finishedAt", "(I)I"⟩
abbrev cX15_failsMachine : ByteArray := prog_13_method_46_code
def yX15_failsMachine : MethodName := ⟨RX15, "failsMachine", "(I)Z"⟩
abbrev cX15_machineIs : ByteArray := prog_13_method_47_code
def yX15_machineIs : MethodName := ⟨RX15, "machineIs", "(I)C"⟩
abbrev cX15_wear : ByteArray := prog_13_method_48_code
def yX15_wear : MethodName := ⟨RX15, "wear", "(I)I"⟩
abbrev cX15_waiting : ByteArray := prog_13_method_49_code
def yX15_waiting : MethodName := ⟨RX15, "waiting", "(I)I"⟩
abbrev cX15_isIn : ByteArray := prog_13_method_50_code
def yX15_isIn : MethodName := ⟨RX15, "isIn", "(II)Z"⟩
abbrev cX15_isIn_ : ByteArray := prog_13_method_51_code
def yX15_isIn_ : MethodName := ⟨RX15, "isIn", "(LFoundrymarkModel$Lot;LFoundrymarkModel$Order;)Z"⟩
abbrev cX15_touched : ByteArray := prog_13_method_52_code
def yX15_touched : MethodName := ⟨RX15, "touched", "(I)I"⟩
abbrev cX15_lotsIn : ByteArray := prog_13_method_53_code
def yX15_lotsIn : MethodName := ⟨RX15, "lotsIn", "(I)I"⟩
abbrev cX15_deliveredCost : ByteArray := prog_13_method_54_code
def yX15_deliveredCost : MethodName := ⟨RX15, "deliveredCost", "(I)J"⟩
abbrev cX15_inTimeShare : ByteArray := prog_13_method_55_code
def yX15_inTimeShare : MethodName := ⟨RX15, "inTimeShare", "()F"⟩
abbrev cX15_meanBusy : ByteArray := prog_13_method_56_code
def yX15_meanBusy : MethodName := ⟨RX15, "meanBusy", "()D"⟩
abbrev cX15_isSound : ByteArray := prog_13_method_57_code
def yX15_isSound : MethodName := ⟨RX15, "isSound", "()Z"⟩
def RJx145de : String := "java/io/Serializable"
def TJx145de : u_T := fun k => match k with
  | _ => ("", "", "", false)
def tyJx145de : Nat → FieldType := fun k => match k with
  | _ => .int
theorem nmJx145de : ∀ a, a < 0 → ∀ b, b < 0 → a ≠ b → (TJx145de a).2.1 ≠ (TJx145de b).2.1 := by decide +kernel
theorem tyJx145de_ok : ∀ k, k < 0 → parseFieldDescriptor (TJx145de k).2.2.1 = some (tyJx145de k) := by decide +kernel
def RJx00060 : String := "java/lang/ArrayIndexOutOfBoundsException"
def TJx00060 : u_T := fun k => match k with
  | 0 => ("java/lang/Throwable", "backtrace", "Ljava/lang/Object;", false)
  | 1 => ("java/lang/Throwable", "detailMessage", "Ljava/lang/String;", false)
  | 2 => ("java/lang/Throwable", "cause", "Ljava/lang/Throwable;", false)
  | 3 => ("java/lang/Throwable", "stackTrace", "[Ljava/lang/StackTraceElement;", false)
  | 4 => ("java/lang/Throwable", "depth", "I", false)
  | _ => ("java/lang/Throwable", "suppressedExceptions", "Ljava/util/List;", false)
def tyJx00060 : Nat → FieldType := fun k => match k with
  | 0 => .object "java/lang/Object"
  | 1 => .object "java/lang/String"
  | 2 => .object "java/lang/Throwable"
  | 3 => .array (.object "java/lang/StackTraceElement")
  | 4 => .int
  | _ => .object "java/util/List"
theorem nmJx00060 : ∀ a, a < 6 → ∀ b, b < 6 → a ≠ b → (TJx00060 a).2.1 ≠ (TJx00060 b).2.1 := by decide +kernel
theorem tyJx00060_ok : ∀ k, k < 6 → parseFieldDescriptor (TJx00060 k).2.2.1 = some (tyJx00060 k) := by decide +kernel
abbrev cJx00060_init_a7421 : ByteArray := prog_20_method_2_code
def yJx00060_init_a7421 : MethodName := ⟨RJx00060, "<init>", "(Ljava/lang/String;)V"⟩
def RJ14 : String := "java/lang/Boolean"
def TJ14 : u_T := fun k => match k with
  | _ => ("", "", "", false)
def tyJ14 : Nat → FieldType := fun k => match k with
  | _ => .int
theorem nmJ14 : ∀ a, a < 0 → ∀ b, b < 0 → a ≠ b → (TJ14 a).2.1 ≠ (TJ14 b).2.1 := by decide +kernel
theorem tyJ14_ok : ∀ k, k < 0 → parseFieldDescriptor (TJ14 k).2.2.1 = some (tyJ14 k) := by decide +kernel
abbrev cJ14_booleanValue_aae02 : ByteArray := prog_21_method_4_code
def yJ14_booleanValue_aae02 : MethodName := ⟨RJ14, "booleanValue", "()Z"⟩
abbrev cJ14_valueOf_4531c : ByteArray := prog_21_method_5_code
def yJ14_valueOf_4531c : MethodName := ⟨RJ14, "valueOf", "(Z)Ljava/lang/Boolean;"⟩
def RJx8e188 : String := "java/lang/Cloneable"
def TJx8e188 : u_T := fun k => match k with
  | _ => ("", "", "", false)
def tyJx8e188 : Nat → FieldType := fun k => match k with
  | _ => .int
theorem nmJx8e188 : ∀ a, a < 0 → ∀ b, b < 0 → a ≠ b → (TJx8e188 a).2.1 ≠ (TJx8e188 b).2.1 := by decide +kernel
theorem tyJx8e188_ok : ∀ k, k < 0 → parseFieldDescriptor (TJx8e188 k).2.2.1 = some (tyJx8e188 k) := by decide +kernel
def RJxb160c : String := "java/lang/Comparable"
def TJxb160c : u_T := fun k => match k with
  | _ => ("", "", "", false)
def tyJxb160c : Nat → FieldType := fun k => match k with
  | _ => .int
theorem nmJxb160c : ∀ a, a < 0 → ∀ b, b < 0 → a ≠ b → (TJxb160c a).2.1 ≠ (TJxb160c b).2.1 := by decide +kernel
theorem tyJxb160c_ok : ∀ k, k < 0 → parseFieldDescriptor (TJxb160c k).2.2.1 = some (tyJxb160c k) := by decide +kernel
def RJxabbfe : String := "java/lang/Integer$IntegerCache"
def TJxabbfe : u_T := fun k => match k with
  | _ => ("", "", "", false)
def tyJxabbfe : Nat → FieldType := fun k => match k with
  | _ => .int
theorem nmJxabbfe : ∀ a, a < 0 → ∀ b, b < 0 → a ≠ b → (TJxabbfe a).2.1 ≠ (TJxabbfe b).2.1 := by decide +kernel
theorem tyJxabbfe_ok : ∀ k, k < 0 → parseFieldDescriptor (TJxabbfe k).2.2.1 = some (tyJxabbfe k) := by decide +kernel
def RJ6 : String := "java/lang/Integer"
def TJ6 : u_T := fun k => match k with
  | _ => ("java/lang/Integer", "value", "I", true)
def tyJ6 : Nat → FieldType := fun k => match k with
  | _ => .int
theorem nmJ6 : ∀ a, a < 1 → ∀ b, b < 1 → a ≠ b → (TJ6 a).2.1 ≠ (TJ6 b).2.1 := by decide +kernel
theorem tyJ6_ok : ∀ k, k < 1 → parseFieldDescriptor (TJ6 k).2.2.1 = some (tyJ6 k) := by decide +kernel
abbrev cJ6_valueOf_2dffe : ByteArray := prog_28_method_22_code
def yJ6_valueOf_2dffe : MethodName := ⟨RJ6, "valueOf", "(I)Ljava/lang/Integer;"⟩
abbrev cJ6_init_d00df : ByteArray := prog_28_method_23_code
def yJ6_init_d00df : MethodName := ⟨RJ6, "<init>", "(I)V"⟩
abbrev cJ6_intValue_8abf5 : ByteArray := prog_28_method_27_code
def yJ6_intValue_8abf5 : MethodName := ⟨RJ6, "intValue", "()I"⟩
abbrev cJ6_compare_7cf53 : ByteArray := prog_28_method_40_code
def yJ6_compare_7cf53 : MethodName := ⟨RJ6, "compare", "(II)I"⟩
abbrev cJ6_bitCount_0f7a4 : ByteArray := prog_28_method_49_code
def yJ6_bitCount_0f7a4 : MethodName := ⟨RJ6, "bitCount", "(I)I"⟩
def RJxab1ab : String := "java/lang/Iterable"
def TJxab1ab : u_T := fun k => match k with
  | _ => ("", "", "", false)
def tyJxab1ab : Nat → FieldType := fun k => match k with
  | _ => .int
theorem nmJxab1ab : ∀ a, a < 0 → ∀ b, b < 0 → a ≠ b → (TJxab1ab a).2.1 ≠ (TJxab1ab b).2.1 := by decide +kernel
theorem tyJxab1ab_ok : ∀ k, k < 0 → parseFieldDescriptor (TJxab1ab k).2.2.1 = some (tyJxab1ab k) := by decide +kernel
def RJ13 : String := "java/lang/Long"
def TJ13 : u_T := fun k => match k with
  | _ => ("", "", "", false)
def tyJ13 : Nat → FieldType := fun k => match k with
  | _ => .int
theorem nmJ13 : ∀ a, a < 0 → ∀ b, b < 0 → a ≠ b → (TJ13 a).2.1 ≠ (TJ13 b).2.1 := by decide +kernel
theorem tyJ13_ok : ∀ k, k < 0 → parseFieldDescriptor (TJ13 k).2.2.1 = some (tyJ13 k) := by decide +kernel
abbrev cJ13_bitCount_95d88 : ByteArray := prog_31_method_50_code
def yJ13_bitCount_95d88 : MethodName := ⟨RJ13, "bitCount", "(J)I"⟩
def RJ9 : String := "java/lang/Math"
def TJ9 : u_T := fun k => match k with
  | _ => ("", "", "", false)
def tyJ9 : Nat → FieldType := fun k => match k with
  | _ => .int
theorem nmJ9 : ∀ a, a < 0 → ∀ b, b < 0 → a ≠ b → (TJ9 a).2.1 ≠ (TJ9 b).2.1 := by decide +kernel
theorem tyJ9_ok : ∀ k, k < 0 → parseFieldDescriptor (TJ9 k).2.2.1 = some (tyJ9 k) := by decide +kernel
abbrev cJ9_abs_0f7a4 : ByteArray := prog_32_method_59_code
def yJ9_abs_0f7a4 : MethodName := ⟨RJ9, "abs", "(I)I"⟩
abbrev cJ9_max_7cf53 : ByteArray := prog_32_method_65_code
def yJ9_max_7cf53 : MethodName := ⟨RJ9, "max", "(II)I"⟩
abbrev cJ9_min_7cf53 : ByteArray := prog_32_method_69_code
def yJ9_min_7cf53 : MethodName := ⟨RJ9, "min", "(II)I"⟩
def RJxd2413 : String := "java/lang/Number"
def TJxd2413 : u_T := fun k => match k with
  | _ => ("", "", "", false)
def tyJxd2413 : Nat → FieldType := fun k => match k with
  | _ => .int
theorem nmJxd2413 : ∀ a, a < 0 → ∀ b, b < 0 → a ≠ b → (TJxd2413 a).2.1 ≠ (TJxd2413 b).2.1 := by decide +kernel
theorem tyJxd2413_ok : ∀ k, k < 0 → parseFieldDescriptor (TJxd2413 k).2.2.1 = some (tyJxd2413 k) := by decide +kernel
abbrev cJxd2413_init_da8c8 : ByteArray := prog_33_method_1_code
def yJxd2413_init_da8c8 : MethodName := ⟨RJxd2413, "<init>", "()V"⟩
def RJ0 : String := "java/lang/String"
def TJ0 : u_T := fun k => match k with
  | 0 => ("java/lang/String", "value", "[B", true)
  | _ => ("java/lang/String", "coder", "B", true)
def tyJ0 : Nat → FieldType := fun k => match k with
  | 0 => .array .byte
  | _ => .byte
theorem nmJ0 : ∀ a, a < 2 → ∀ b, b < 2 → a ≠ b → (TJ0 a).2.1 ≠ (TJ0 b).2.1 := by decide +kernel
theorem tyJ0_ok : ∀ k, k < 2 → parseFieldDescriptor (TJ0 k).2.2.1 = some (tyJ0 k) := by decide +kernel
def RJ10 : String := "java/lang/System"
def TJ10 : u_T := fun k => match k with
  | _ => ("", "", "", false)
def tyJ10 : Nat → FieldType := fun k => match k with
  | _ => .int
theorem nmJ10 : ∀ a, a < 0 → ∀ b, b < 0 → a ≠ b → (TJ10 a).2.1 ≠ (TJ10 b).2.1 := by decide +kernel
theorem tyJ10_ok : ∀ k, k < 0 → parseFieldDescriptor (TJ10 k).2.2.1 = some (tyJ10 k) := by decide +kernel
def RJxfd54e : String := "java/lang/constant/Constable"
def TJxfd54e : u_T := fun k => match k with
  | _ => ("", "", "", false)
def tyJxfd54e : Nat → FieldType := fun k => match k with
  | _ => .int
theorem nmJxfd54e : ∀ a, a < 0 → ∀ b, b < 0 → a ≠ b → (TJxfd54e a).2.1 ≠ (TJxfd54e b).2.1 := by decide +kernel
theorem tyJxfd54e_ok : ∀ k, k < 0 → parseFieldDescriptor (TJxfd54e k).2.2.1 = some (tyJxfd54e k) := by decide +kernel
def RJx3cf43 : String := "java/lang/constant/ConstantDesc"
def TJx3cf43 : u_T := fun k => match k with
  | _ => ("", "", "", false)
def tyJx3cf43 : Nat → FieldType := fun k => match k with
  | _ => .int
theorem nmJx3cf43 : ∀ a, a < 0 → ∀ b, b < 0 → a ≠ b → (TJx3cf43 a).2.1 ≠ (TJx3cf43 b).2.1 := by decide +kernel
theorem tyJx3cf43_ok : ∀ k, k < 0 → parseFieldDescriptor (TJx3cf43 k).2.2.1 = some (tyJx3cf43 k) := by decide +kernel
def RJxa1e45 : String := "java/util/AbstractCollection"
def TJxa1e45 : u_T := fun k => match k with
  | _ => ("", "", "", false)
def tyJxa1e45 : Nat → FieldType := fun k => match k with
  | _ => .int
theorem nmJxa1e45 : ∀ a, a < 0 → ∀ b, b < 0 → a ≠ b → (TJxa1e45 a).2.1 ≠ (TJxa1e45 b).2.1 := by decide +kernel
theorem tyJxa1e45_ok : ∀ k, k < 0 → parseFieldDescriptor (TJxa1e45 k).2.2.1 = some (tyJxa1e45 k) := by decide +kernel
abbrev cJxa1e45_init_da8c8 : ByteArray := prog_41_method_1_code
def yJxa1e45_init_da8c8 : MethodName := ⟨RJxa1e45, "<init>", "()V"⟩
def RJxc12de : String := "java/util/AbstractList"
def TJxc12de : u_T := fun k => match k with
  | _ => ("", "", "", false)
def tyJxc12de : Nat → FieldType := fun k => match k with
  | _ => .int
theorem nmJxc12de : ∀ a, a < 0 → ∀ b, b < 0 → a ≠ b → (TJxc12de a).2.1 ≠ (TJxc12de b).2.1 := by decide +kernel
theorem tyJxc12de_ok : ∀ k, k < 0 → parseFieldDescriptor (TJxc12de k).2.2.1 = some (tyJxc12de k) := by decide +kernel
abbrev cJxc12de_init_da8c8 : ByteArray := prog_42_method_1_code
def yJxc12de_init_da8c8 : MethodName := ⟨RJxc12de, "<init>", "()V"⟩
def RJx35411 : String := "java/util/ArrayList$Itr"
def TJx35411 : u_T := fun k => match k with
  | 0 => ("java/util/ArrayList$Itr", "cursor", "I", false)
  | 1 => ("java/util/ArrayList$Itr", "lastRet", "I", false)
  | 2 => ("java/util/ArrayList$Itr", "expectedModCount", "I", false)
  | _ => ("java/util/ArrayList$Itr", "this$0", "Ljava/util/ArrayList;", true)
def tyJx35411 : Nat → FieldType := fun k => match k with
  | 0 => .int
  | 1 => .int
  | 2 => .int
  | _ => .object "java/util/ArrayList"
theorem nmJx35411 : ∀ a, a < 4 → ∀ b, b < 4 → a ≠ b → (TJx35411 a).2.1 ≠ (TJx35411 b).2.1 := by decide +kernel
theorem tyJx35411_ok : ∀ k, k < 4 → parseFieldDescriptor (TJx35411 k).2.2.1 = some (tyJx35411 k) := by decide +kernel
abbrev cJx35411_init_45d68 : ByteArray := prog_44_method_1_code
def yJx35411_init_45d68 : MethodName := ⟨RJx35411, "<init>", "(Ljava/util/ArrayList;)V"⟩
abbrev cJx35411_hasNext_aae02 : ByteArray := prog_44_method_2_code
def yJx35411_hasNext_aae02 : MethodName := ⟨RJx35411, "hasNext", "()Z"⟩
abbrev cJx35411_next_0502b : ByteArray := prog_44_method_3_code
def yJx35411_next_0502b : MethodName := ⟨RJx35411, "next", "()Ljava/lang/Object;"⟩
abbrev cJx35411_checkForComodification_da8c8 : ByteArray := prog_44_method_6_code
def yJx35411_checkForComodification_da8c8 : MethodName := ⟨RJx35411, "checkForComodification", "()V"⟩
def RJx4a65c : String := "java/util/ArrayList"
def TJx4a65c : u_T := fun k => match k with
  | 0 => ("java/util/AbstractList", "modCount", "I", false)
  | 1 => ("java/util/ArrayList", "elementData", "[Ljava/lang/Object;", false)
  | _ => ("java/util/ArrayList", "size", "I", false)
def tyJx4a65c : Nat → FieldType := fun k => match k with
  | 0 => .int
  | 1 => .array (.object "java/lang/Object")
  | _ => .int
theorem nmJx4a65c : ∀ a, a < 3 → ∀ b, b < 3 → a ≠ b → (TJx4a65c a).2.1 ≠ (TJx4a65c b).2.1 := by decide +kernel
theorem tyJx4a65c_ok : ∀ k, k < 3 → parseFieldDescriptor (TJx4a65c k).2.2.1 = some (tyJx4a65c k) := by decide +kernel
abbrev cJx4a65c_init_da8c8 : ByteArray := prog_43_method_2_code
def yJx4a65c_init_da8c8 : MethodName := ⟨RJx4a65c, "<init>", "()V"⟩
abbrev cJx4a65c_grow_92f84 : ByteArray := prog_43_method_6_code
def yJx4a65c_grow_92f84 : MethodName := ⟨RJx4a65c, "grow", "(I)[Ljava/lang/Object;"⟩
abbrev cJx4a65c_grow_d5877 : ByteArray := prog_43_method_7_code
def yJx4a65c_grow_d5877 : MethodName := ⟨RJx4a65c, "grow", "()[Ljava/lang/Object;"⟩
abbrev cJx4a65c_size_8abf5 : ByteArray := prog_43_method_8_code
def yJx4a65c_size_8abf5 : MethodName := ⟨RJx4a65c, "size", "()I"⟩
abbrev cJx4a65c_isEmpty_aae02 : ByteArray := prog_43_method_9_code
def yJx4a65c_isEmpty_aae02 : MethodName := ⟨RJx4a65c, "isEmpty", "()Z"⟩
abbrev cJx4a65c_toArray_d5877 : ByteArray := prog_43_method_16_code
def yJx4a65c_toArray_d5877 : MethodName := ⟨RJx4a65c, "toArray", "()[Ljava/lang/Object;"⟩
abbrev cJx4a65c_elementData_915e3 : ByteArray := prog_43_method_18_code
def yJx4a65c_elementData_915e3 : MethodName := ⟨RJx4a65c, "elementData", "(I)Ljava/lang/Object;"⟩
abbrev cJx4a65c_get_915e3 : ByteArray := prog_43_method_20_code
def yJx4a65c_get_915e3 : MethodName := ⟨RJx4a65c, "get", "(I)Ljava/lang/Object;"⟩
abbrev cJx4a65c_add_72be8 : ByteArray := prog_43_method_24_code
def yJx4a65c_add_72be8 : MethodName := ⟨RJx4a65c, "add", "(Ljava/lang/Object;[Ljava/lang/Object;I)V"⟩
abbrev cJx4a65c_add_9ea2d : ByteArray := prog_43_method_25_code
def yJx4a65c_add_9ea2d : MethodName := ⟨RJx4a65c, "add", "(Ljava/lang/Object;)Z"⟩
abbrev cJx4a65c_clear_da8c8 : ByteArray := prog_43_method_40_code
def yJx4a65c_clear_da8c8 : MethodName := ⟨RJx4a65c, "clear", "()V"⟩
abbrev cJx4a65c_addAll_f0b43 : ByteArray := prog_43_method_41_code
def yJx4a65c_addAll_f0b43 : MethodName := ⟨RJx4a65c, "addAll", "(Ljava/util/Collection;)Z"⟩
abbrev cJx4a65c_iterator_32c93 : ByteArray := prog_43_method_55_code
def yJx4a65c_iterator_32c93 : MethodName := ⟨RJx4a65c, "iterator", "()Ljava/util/Iterator;"⟩
def RJ7 : String := "java/util/Arrays"
def TJ7 : u_T := fun k => match k with
  | _ => ("", "", "", false)
def tyJ7 : Nat → FieldType := fun k => match k with
  | _ => .int
theorem nmJ7 : ∀ a, a < 0 → ∀ b, b < 0 → a ≠ b → (TJ7 a).2.1 ≠ (TJ7 b).2.1 := by decide +kernel
theorem tyJ7_ok : ∀ k, k < 0 → parseFieldDescriptor (TJ7 k).2.2.1 = some (tyJ7 k) := by decide +kernel
abbrev cJ7_copyOf_1904c : ByteArray := prog_45_method_119_code
def yJ7_copyOf_1904c : MethodName := ⟨RJ7, "copyOf", "([Ljava/lang/Object;I)[Ljava/lang/Object;"⟩
abbrev cJ7_copyOf_6403c : ByteArray := prog_45_method_120_code
def yJ7_copyOf_6403c : MethodName := ⟨RJ7, "copyOf", "([Ljava/lang/Object;ILjava/lang/Class;)[Ljava/lang/Object;"⟩
def RJx5ef63 : String := "java/util/Collection"
def TJx5ef63 : u_T := fun k => match k with
  | _ => ("", "", "", false)
def tyJx5ef63 : Nat → FieldType := fun k => match k with
  | _ => .int
theorem nmJx5ef63 : ∀ a, a < 0 → ∀ b, b < 0 → a ≠ b → (TJx5ef63 a).2.1 ≠ (TJx5ef63 b).2.1 := by decide +kernel
theorem tyJx5ef63_ok : ∀ k, k < 0 → parseFieldDescriptor (TJx5ef63 k).2.2.1 = some (tyJx5ef63 k) := by decide +kernel
def RJx4d0d8 : String := "java/util/Iterator"
def TJx4d0d8 : u_T := fun k => match k with
  | _ => ("", "", "", false)
def tyJx4d0d8 : Nat → FieldType := fun k => match k with
  | _ => .int
theorem nmJx4d0d8 : ∀ a, a < 0 → ∀ b, b < 0 → a ≠ b → (TJx4d0d8 a).2.1 ≠ (TJx4d0d8 b).2.1 := by decide +kernel
theorem tyJx4d0d8_ok : ∀ k, k < 0 → parseFieldDescriptor (TJx4d0d8 k).2.2.1 = some (tyJx4d0d8 k) := by decide +kernel
def RJxbd725 : String := "java/util/List"
def TJxbd725 : u_T := fun k => match k with
  | _ => ("", "", "", false)
def tyJxbd725 : Nat → FieldType := fun k => match k with
  | _ => .int
theorem nmJxbd725 : ∀ a, a < 0 → ∀ b, b < 0 → a ≠ b → (TJxbd725 a).2.1 ≠ (TJxbd725 b).2.1 := by decide +kernel
theorem tyJxbd725_ok : ∀ k, k < 0 → parseFieldDescriptor (TJxbd725 k).2.2.1 = some (tyJxbd725 k) := by decide +kernel
def RJ15 : String := "java/util/Objects"
def TJ15 : u_T := fun k => match k with
  | _ => ("", "", "", false)
def tyJ15 : Nat → FieldType := fun k => match k with
  | _ => .int
theorem nmJ15 : ∀ a, a < 0 → ∀ b, b < 0 → a ≠ b → (TJ15 a).2.1 ≠ (TJ15 b).2.1 := by decide +kernel
theorem tyJ15_ok : ∀ k, k < 0 → parseFieldDescriptor (TJ15 k).2.2.1 = some (tyJ15 k) := by decide +kernel
abbrev cJ15_checkIndex_7cf53 : ByteArray := prog_50_method_17_code
def yJ15_checkIndex_7cf53 : MethodName := ⟨RJ15, "checkIndex", "(II)I"⟩
def RJxf0a74 : String := "java/util/RandomAccess"
def TJxf0a74 : u_T := fun k => match k with
  | _ => ("", "", "", false)
def tyJxf0a74 : Nat → FieldType := fun k => match k with
  | _ => .int
theorem nmJxf0a74 : ∀ a, a < 0 → ∀ b, b < 0 → a ≠ b → (TJxf0a74 a).2.1 ≠ (TJxf0a74 b).2.1 := by decide +kernel
theorem tyJxf0a74_ok : ∀ k, k < 0 → parseFieldDescriptor (TJxf0a74 k).2.2.1 = some (tyJxf0a74 k) := by decide +kernel
def RJxa66e6 : String := "java/util/SequencedCollection"
def TJxa66e6 : u_T := fun k => match k with
  | _ => ("", "", "", false)
def tyJxa66e6 : Nat → FieldType := fun k => match k with
  | _ => .int
theorem nmJxa66e6 : ∀ a, a < 0 → ∀ b, b < 0 → a ≠ b → (TJxa66e6 a).2.1 ≠ (TJxa66e6 b).2.1 := by decide +kernel
theorem tyJxa66e6_ok : ∀ k, k < 0 → parseFieldDescriptor (TJxa66e6 k).2.2.1 = some (tyJxa66e6 k) := by decide +kernel
def RJ8 : String := "jdk/internal/util/ArraysSupport"
def TJ8 : u_T := fun k => match k with
  | _ => ("", "", "", false)
def tyJ8 : Nat → FieldType := fun k => match k with
  | _ => .int
theorem nmJ8 : ∀ a, a < 0 → ∀ b, b < 0 → a ≠ b → (TJ8 a).2.1 ≠ (TJ8 b).2.1 := by decide +kernel
theorem tyJ8_ok : ∀ k, k < 0 → parseFieldDescriptor (TJ8 k).2.2.1 = some (tyJ8 k) := by decide +kernel
abbrev cJ8_newLength_cabcc : ByteArray := prog_53_method_27_code
def yJ8_newLength_cabcc : MethodName := ⟨RJ8, "newLength", "(III)I"⟩
abbrev cJ8_hugeLength_7cf53 : ByteArray := prog_53_method_28_code
def yJ8_hugeLength_7cf53 : MethodName := ⟨RJ8, "hugeLength", "(II)I"⟩
def RJ3 : String := "jdk/internal/util/Preconditions"
def TJ3 : u_T := fun k => match k with
  | _ => ("", "", "", false)
def tyJ3 : Nat → FieldType := fun k => match k with
  | _ => .int
theorem nmJ3 : ∀ a, a < 0 → ∀ b, b < 0 → a ≠ b → (TJ3 a).2.1 ≠ (TJ3 b).2.1 := by decide +kernel
theorem tyJ3_ok : ∀ k, k < 0 → parseFieldDescriptor (TJ3 k).2.2.1 = some (tyJ3 k) := by decide +kernel
abbrev cJ3_checkIndex_8e157 : ByteArray := prog_54_method_11_code
def yJ3_checkIndex_8e157 : MethodName := ⟨RJ3, "checkIndex", "(IILjava/util/function/BiFunction;)I"⟩
def RL : String := "FoundrymarkLaw"
abbrev cL_addMachine : ByteArray := method_3_code
def yL_addMachine : MethodName := ⟨RL, "addMachine", "(LFoundrymark;IIII[J)I"⟩
abbrev cL_addPart : ByteArray := method_4_code
def yL_addPart : MethodName := ⟨RL, "addPart", "(LFoundrymark;ZI[J)I"⟩
abbrev cL_addComponent : ByteArray := method_5_code
def yL_addComponent : MethodName := ⟨RL, "addComponent", "(LFoundrymark;IIII[J)I"⟩
abbrev cL_addOperation : ByteArray := method_6_code
def yL_addOperation : MethodName := ⟨RL, "addOperation", "(LFoundrymark;IIII[J)I"⟩
abbrev cL_receive : ByteArray := method_7_code
def yL_receive : MethodName := ⟨RL, "receive", "(LFoundrymark;IIIII[J)I"⟩
abbrev cL_rule : ByteArray := method_8_code
def yL_rule : MethodName := ⟨RL, "rule", "(LFoundrymark;I[J)I"⟩
abbrev cL_hold : ByteArray := method_9_code
def yL_hold : MethodName := ⟨RL, "hold", "(LFoundrymark;IZ[J)I"⟩
abbrev cL_isHeld : ByteArray := method_10_code
def yL_isHeld : MethodName := ⟨RL, "isHeld", "(LFoundrymark;I[J)I"⟩
abbrev cL_setChart : ByteArray := method_11_code
def yL_setChart : MethodName := ⟨RL, "setChart", "(LFoundrymark;III[J)I"⟩
abbrev cL_measure : ByteArray := method_12_code
def yL_measure : MethodName := ⟨RL, "measure", "(LFoundrymark;II[J)I"⟩
abbrev cL_partOf : ByteArray := method_13_code
def yL_partOf : MethodName := ⟨RL, "partOf", "(LFoundrymark;I[J)I"⟩
abbrev cL_rest : ByteArray := method_14_code
def yL_rest : MethodName := ⟨RL, "rest", "(LFoundrymark;I[J)I"⟩
abbrev cL_reserved : ByteArray := method_15_code
def yL_reserved : MethodName := ⟨RL, "reserved", "(LFoundrymark;I[J)I"⟩
abbrev cL_costOf : ByteArray := method_16_code
def yL_costOf : MethodName := ⟨RL, "costOf", "(LFoundrymark;I[J)I"⟩
abbrev cL_order : ByteArray := method_17_code
def yL_order : MethodName := ⟨RL, "order", "(LFoundrymark;IIII[J)I"⟩
abbrev cL_promise : ByteArray := method_18_code
def yL_promise : MethodName := ⟨RL, "promise", "(LFoundrymark;I[J)I"⟩
abbrev cL_withdraw : ByteArray := method_19_code
def yL_withdraw : MethodName := ⟨RL, "withdraw", "(LFoundrymark;I[J)I"⟩
abbrev cL_release : ByteArray := method_20_code
def yL_release : MethodName := ⟨RL, "release", "(LFoundrymark;I[J)I"⟩
abbrev cL_scrap : ByteArray := method_21_code
def yL_scrap : MethodName := ⟨RL, "scrap", "(LFoundrymark;II[J)I"⟩
abbrev cL_advance : ByteArray := method_22_code
def yL_advance : MethodName := ⟨RL, "advance", "(LFoundrymark;I[J)I"⟩
abbrev cL_deliver : ByteArray := method_23_code
def yL_deliver : MethodName := ⟨RL, "deliver", "(LFoundrymark;I[J)I"⟩
abbrev cL_stateOf : ByteArray := method_24_code
def yL_stateOf : MethodName := ⟨RL, "stateOf", "(LFoundrymark;I[J)I"⟩
abbrev cL_lotOf : ByteArray := method_25_code
def yL_lotOf : MethodName := ⟨RL, "lotOf", "(LFoundrymark;I[J)I"⟩
abbrev cL_finishedAt : ByteArray := method_26_code
def yL_finishedAt : MethodName := ⟨RL, "finishedAt", "(LFoundrymark;I[J)I"⟩
abbrev cL_machineIs : ByteArray := method_27_code
def yL_machineIs : MethodName := ⟨RL, "machineIs", "(LFoundrymark;I[J)I"⟩
abbrev cL_wear : ByteArray := method_28_code
def yL_wear : MethodName := ⟨RL, "wear", "(LFoundrymark;I[J)I"⟩
abbrev cL_waiting : ByteArray := method_29_code
def yL_waiting : MethodName := ⟨RL, "waiting", "(LFoundrymark;I[J)I"⟩
abbrev cL_isIn : ByteArray := method_30_code
def yL_isIn : MethodName := ⟨RL, "isIn", "(LFoundrymark;II[J)I"⟩
abbrev cL_touched : ByteArray := method_31_code
def yL_touched : MethodName := ⟨RL, "touched", "(LFoundrymark;I[J)I"⟩
abbrev cL_lotsIn : ByteArray := method_32_code
def yL_lotsIn : MethodName := ⟨RL, "lotsIn", "(LFoundrymark;I[J)I"⟩
abbrev cL_deliveredCost : ByteArray := method_33_code
def yL_deliveredCost : MethodName := ⟨RL, "deliveredCost", "(LFoundrymark;I[J)I"⟩
abbrev cL_inTimeShare : ByteArray := method_34_code
def yL_inTimeShare : MethodName := ⟨RL, "inTimeShare", "(LFoundrymark;[D)I"⟩
abbrev cL_meanBusy : ByteArray := method_35_code
def yL_meanBusy : MethodName := ⟨RL, "meanBusy", "(LFoundrymark;[D)I"⟩
abbrev cL_law : ByteArray := code
def yL_law : MethodName := ⟨RL, "law", "([I)Z"⟩
abbrev vwCl : List vw_C := [(RJ0, TJ0, 2), (RJ6, TJ6, 1), (RJx00060, TJx00060, 6), (RJx35411, TJx35411, 4), (RJx4a65c, TJx4a65c, 3), (RX0, TX0, 5), (RX1, TX1, 3), (RX2, TX2, 7), (RX3, TX3, 10), (RX4, TX4, 11), (RX5, TX5, 2), (RX6, TX6, 3), (RX7, TX7, 12), (RX8, TX8, 8), (RX9, TX9, 3), (RX10, TX10, 14), (RX11, TX11, 7), (RX12, TX12, 11), (RX13, TX13, 17), (RX14, TX14, 9), (RX15, TX15, 9)]
