/-! NAMES, fields, methods: rows printed by TURN, cut out of claim/NAMES.whole.lean.txt -/
def RX0 : String := "Foundrymark$Chart"
def TX0 : u_T := fun k => match k with
  | 0 => ("Foundrymark$Chart", "centre", "I", false)
  | 1 => ("Foundrymark$Chart", "width", "I", false)
  | 2 => ("Foundrymark$Chart", "side", "I", false)
  | 3 => ("Foundrymark$Chart", "row", "I", false)
  | _ => ("Foundrymark$Chart", "measured", "I", false)
def tyX0 : Nat → FieldType := fun k => match k with
  | 0 => .int
  | 1 => .int
  | 2 => .int
  | 3 => .int
  | _ => .int
theorem nmX0 : ∀ a, a < 5 → ∀ b, b < 5 → a ≠ b → (TX0 a).2.1 ≠ (TX0 b).2.1 := by decide +kernel
theorem tyX0_ok : ∀ k, k < 5 → parseFieldDescriptor (TX0 k).2.2.1 = some (tyX0 k) := by decide +kernel
abbrev cX0_init : ByteArray := prog_2_method_1_code
def yX0_init : MethodName := ⟨RX0, "<init>", "()V"⟩
abbrev cX0_alarms : ByteArray := prog_2_method_3_code
def yX0_alarms : MethodName := ⟨RX0, "alarms", "(I)Z"⟩
def RX1 : String := "Foundrymark$Component"
def TX1 : u_T := fun k => match k with
  | 0 => ("Foundrymark$Component", "part", "LFoundrymark$Part;", true)
  | 1 => ("Foundrymark$Component", "pieces", "I", true)
  | _ => ("Foundrymark$Component", "option", "I", true)
def tyX1 : Nat → FieldType := fun k => match k with
  | 0 => .object "Foundrymark$Part"
  | 1 => .int
  | _ => .int
theorem nmX1 : ∀ a, a < 3 → ∀ b, b < 3 → a ≠ b → (TX1 a).2.1 ≠ (TX1 b).2.1 := by decide +kernel
theorem tyX1_ok : ∀ k, k < 3 → parseFieldDescriptor (TX1 k).2.2.1 = some (tyX1 k) := by decide +kernel
abbrev cX1_init : ByteArray := prog_3_method_1_code
def yX1_init : MethodName := ⟨RX1, "<init>", "(LFoundrymark$Part;II)V"⟩
abbrev cX1_isFor : ByteArray := prog_3_method_2_code
def yX1_isFor : MethodName := ⟨RX1, "isFor", "(I)Z"⟩
def RX2 : String := "Foundrymark$Job"
def TX2 : u_T := fun k => match k with
  | 0 => ("Foundrymark$Job", "pieces", "I", false)
  | 1 => ("Foundrymark$Job", "scrapped", "I", false)
  | 2 => ("Foundrymark$Job", "operation", "I", false)
  | 3 => ("Foundrymark$Job", "finishedAt", "I", false)
  | 4 => ("Foundrymark$Job", "cost", "J", false)
  | 5 => ("Foundrymark$Job", "waitsAt", "LFoundrymark$Machine;", false)
  | _ => ("Foundrymark$Job", "lot", "LFoundrymark$Lot;", false)
def tyX2 : Nat → FieldType := fun k => match k with
  | 0 => .int
  | 1 => .int
  | 2 => .int
  | 3 => .int
  | 4 => .long
  | 5 => .object "Foundrymark$Machine"
  | _ => .object "Foundrymark$Lot"
theorem nmX2 : ∀ a, a < 7 → ∀ b, b < 7 → a ≠ b → (TX2 a).2.1 ≠ (TX2 b).2.1 := by decide +kernel
theorem tyX2_ok : ∀ k, k < 7 → parseFieldDescriptor (TX2 k).2.2.1 = some (tyX2 k) := by decide +kernel
abbrev cX2_init : ByteArray := prog_4_method_1_code
def yX2_init : MethodName := ⟨RX2, "<init>", "()V"⟩
def RX3 : String := "Foundrymark$Lot"
def TX3 : u_T := fun k => match k with
  | 0 => ("Foundrymark$Lot", "number", "I", true)
  | 1 => ("Foundrymark$Lot", "part", "LFoundrymark$Part;", true)
  | 2 => ("Foundrymark$Lot", "quantity", "I", true)
  | 3 => ("Foundrymark$Lot", "inside", "LFoundrymark$NumberSet;", true)
  | 4 => ("Foundrymark$Lot", "intoLots", "LFoundrymark$NumberSet;", true)
  | 5 => ("Foundrymark$Lot", "intoOrders", "LFoundrymark$NumberSet;", true)
  | 6 => ("Foundrymark$Lot", "rest", "I", false)
  | 7 => ("Foundrymark$Lot", "reserved", "I", false)
  | 8 => ("Foundrymark$Lot", "delivered", "I", false)
  | _ => ("Foundrymark$Lot", "cost", "J", false)
def tyX3 : Nat → FieldType := fun k => match k with
  | 0 => .int
  | 1 => .object "Foundrymark$Part"
  | 2 => .int
  | 3 => .object "Foundrymark$NumberSet"
  | 4 => .object "Foundrymark$NumberSet"
  | 5 => .object "Foundrymark$NumberSet"
  | 6 => .int
  | 7 => .int
  | 8 => .int
  | _ => .long
theorem nmX3 : ∀ a, a < 10 → ∀ b, b < 10 → a ≠ b → (TX3 a).2.1 ≠ (TX3 b).2.1 := by decide +kernel
theorem tyX3_ok : ∀ k, k < 10 → parseFieldDescriptor (TX3 k).2.2.1 = some (tyX3 k) := by decide +kernel
abbrev cX3_init : ByteArray := prog_5_method_1_code
def yX3_init : MethodName := ⟨RX3, "<init>", "(ILFoundrymark$Part;IJ)V"⟩
abbrev cX3_take : ByteArray := prog_5_method_2_code
def yX3_take : MethodName := ⟨RX3, "take", "(I)J"⟩
def RX4 : String := "Foundrymark$Machine"
def TX4 : u_T := fun k => match k with
  | 0 => ("Foundrymark$Machine", "rate", "I", true)
  | 1 => ("Foundrymark$Machine", "setup", "I", true)
  | 2 => ("Foundrymark$Machine", "life", "I", true)
  | 3 => ("Foundrymark$Machine", "repair", "I", true)
  | 4 => ("Foundrymark$Machine", "state", "C", false)
  | 5 => ("Foundrymark$Machine", "family", "I", false)
  | 6 => ("Foundrymark$Machine", "wear", "I", false)
  | 7 => ("Foundrymark$Machine", "begunAt", "I", false)
  | 8 => ("Foundrymark$Machine", "endsAt", "I", false)
  | 9 => ("Foundrymark$Machine", "busy", "I", false)
  | _ => ("Foundrymark$Machine", "doing", "LFoundrymark$Order;", false)
def tyX4 : Nat → FieldType := fun k => match k with
  | 0 => .int
  | 1 => .int
  | 2 => .int
  | 3 => .int
  | 4 => .char
  | 5 => .int
  | 6 => .int
  | 7 => .int
  | 8 => .int
  | 9 => .int
  | _ => .object "Foundrymark$Order"
theorem nmX4 : ∀ a, a < 11 → ∀ b, b < 11 → a ≠ b → (TX4 a).2.1 ≠ (TX4 b).2.1 := by decide +kernel
theorem tyX4_ok : ∀ k, k < 11 → parseFieldDescriptor (TX4 k).2.2.1 = some (tyX4 k) := by decide +kernel
abbrev cX4_init : ByteArray := prog_6_method_1_code
def yX4_init : MethodName := ⟨RX4, "<init>", "(IIII)V"⟩
abbrev cX4_begin : ByteArray := prog_6_method_2_code
def yX4_begin : MethodName := ⟨RX4, "begin", "(LFoundrymark$Order;II)V"⟩
abbrev cX4_end : ByteArray := prog_6_method_3_code
def yX4_end : MethodName := ⟨RX4, "end", "(II)V"⟩
abbrev cX4_busyUntil : ByteArray := prog_6_method_4_code
def yX4_busyUntil : MethodName := ⟨RX4, "busyUntil", "(I)I"⟩
def RX5 : String := "Foundrymark$NumberSet"
def TX5 : u_T := fun k => match k with
  | 0 => ("Foundrymark$NumberSet", "low", "J", false)
  | _ => ("Foundrymark$NumberSet", "high", "J", false)
def tyX5 : Nat → FieldType := fun k => match k with
  | 0 => .long
  | _ => .long
theorem nmX5 : ∀ a, a < 2 → ∀ b, b < 2 → a ≠ b → (TX5 a).2.1 ≠ (TX5 b).2.1 := by decide +kernel
theorem tyX5_ok : ∀ k, k < 2 → parseFieldDescriptor (TX5 k).2.2.1 = some (tyX5 k) := by decide +kernel
abbrev cX5_init : ByteArray := prog_7_method_1_code
def yX5_init : MethodName := ⟨RX5, "<init>", "()V"⟩
abbrev cX5_add : ByteArray := prog_7_method_2_code
def yX5_add : MethodName := ⟨RX5, "add", "(I)V"⟩
abbrev cX5_remove : ByteArray := prog_7_method_3_code
def yX5_remove : MethodName := ⟨RX5, "remove", "(I)V"⟩
abbrev cX5_has : ByteArray := prog_7_method_4_code
def yX5_has : MethodName := ⟨RX5, "has", "(I)Z"⟩
abbrev cX5_meets : ByteArray := prog_7_method_5_code
def yX5_meets : MethodName := ⟨RX5, "meets", "(LFoundrymark$NumberSet;)Z"⟩
abbrev cX5_addWith : ByteArray := prog_7_method_6_code
def yX5_addWith : MethodName := ⟨RX5, "addWith", "(LFoundrymark$Lot;)V"⟩
abbrev cX5_size : ByteArray := prog_7_method_7_code
def yX5_size : MethodName := ⟨RX5, "size", "()I"⟩
def RX6 : String := "Foundrymark$Operation"
def TX6 : u_T := fun k => match k with
  | 0 => ("Foundrymark$Operation", "machine", "LFoundrymark$Machine;", true)
  | 1 => ("Foundrymark$Operation", "alternative", "LFoundrymark$Machine;", true)
  | _ => ("Foundrymark$Operation", "time", "I", true)
def tyX6 : Nat → FieldType := fun k => match k with
  | 0 => .object "Foundrymark$Machine"
  | 1 => .object "Foundrymark$Machine"
  | _ => .int
theorem nmX6 : ∀ a, a < 3 → ∀ b, b < 3 → a ≠ b → (TX6 a).2.1 ≠ (TX6 b).2.1 := by decide +kernel
theorem tyX6_ok : ∀ k, k < 3 → parseFieldDescriptor (TX6 k).2.2.1 = some (tyX6 k) := by decide +kernel
abbrev cX6_init : ByteArray := prog_8_method_1_code
def yX6_init : MethodName := ⟨RX6, "<init>", "(LFoundrymark$Machine;LFoundrymark$Machine;I)V"⟩
def RX7 : String := "Foundrymark$Order"
def TX7 : u_T := fun k => match k with
  | 0 => ("Foundrymark$Order", "number", "I", true)
  | 1 => ("Foundrymark$Order", "part", "LFoundrymark$Part;", true)
  | 2 => ("Foundrymark$Order", "quantity", "I", true)
  | 3 => ("Foundrymark$Order", "option", "I", true)
  | 4 => ("Foundrymark$Order", "due", "I", true)
  | 5 => ("Foundrymark$Order", "job", "LFoundrymark$Job;", true)
  | 6 => ("Foundrymark$Order", "inside", "LFoundrymark$NumberSet;", true)
  | 7 => ("Foundrymark$Order", "pieces", "[I", true)
  | 8 => ("Foundrymark$Order", "state", "C", false)
  | 9 => ("Foundrymark$Order", "deliveredAt", "I", false)
  | 10 => ("Foundrymark$Order", "delivered", "I", false)
  | _ => ("Foundrymark$Order", "deliveredCost", "J", false)
def tyX7 : Nat → FieldType := fun k => match k with
  | 0 => .int
  | 1 => .object "Foundrymark$Part"
  | 2 => .int
  | 3 => .int
  | 4 => .int
  | 5 => .object "Foundrymark$Job"
  | 6 => .object "Foundrymark$NumberSet"
  | 7 => .array .int
  | 8 => .char
  | 9 => .int
  | 10 => .int
  | _ => .long
theorem nmX7 : ∀ a, a < 12 → ∀ b, b < 12 → a ≠ b → (TX7 a).2.1 ≠ (TX7 b).2.1 := by decide +kernel
theorem tyX7_ok : ∀ k, k < 12 → parseFieldDescriptor (TX7 k).2.2.1 = some (tyX7 k) := by decide +kernel
abbrev cX7_init : ByteArray := prog_9_method_1_code
def yX7_init : MethodName := ⟨RX7, "<init>", "(ILFoundrymark$Part;III)V"⟩
abbrev cX7_piecesOf : ByteArray := prog_9_method_2_code
def yX7_piecesOf : MethodName := ⟨RX7, "piecesOf", "(LFoundrymark$Lot;)I"⟩
abbrev cX7_addPieces : ByteArray := prog_9_method_3_code
def yX7_addPieces : MethodName := ⟨RX7, "addPieces", "(LFoundrymark$Lot;I)V"⟩
abbrev cX7_isInWork : ByteArray := prog_9_method_4_code
def yX7_isInWork : MethodName := ⟨RX7, "isInWork", "()Z"⟩
abbrev cX7_isSoundAlone : ByteArray := prog_9_method_5_code
def yX7_isSoundAlone : MethodName := ⟨RX7, "isSoundAlone", "()Z"⟩
def RX8 : String := "Foundrymark$Part"
def TX8 : u_T := fun k => match k with
  | 0 => ("Foundrymark$Part", "number", "I", true)
  | 1 => ("Foundrymark$Part", "isMade", "Z", true)
  | 2 => ("Foundrymark$Part", "family", "I", true)
  | 3 => ("Foundrymark$Part", "components", "[LFoundrymark$Component;", true)
  | 4 => ("Foundrymark$Part", "operations", "[LFoundrymark$Operation;", true)
  | 5 => ("Foundrymark$Part", "chart", "LFoundrymark$Chart;", true)
  | 6 => ("Foundrymark$Part", "componentCount", "I", false)
  | _ => ("Foundrymark$Part", "operationCount", "I", false)
def tyX8 : Nat → FieldType := fun k => match k with
  | 0 => .int
  | 1 => .boolean
  | 2 => .int
  | 3 => .array (.object "Foundrymark$Component")
  | 4 => .array (.object "Foundrymark$Operation")
  | 5 => .object "Foundrymark$Chart"
  | 6 => .int
  | _ => .int
theorem nmX8 : ∀ a, a < 8 → ∀ b, b < 8 → a ≠ b → (TX8 a).2.1 ≠ (TX8 b).2.1 := by decide +kernel
theorem tyX8_ok : ∀ k, k < 8 → parseFieldDescriptor (TX8 k).2.2.1 = some (tyX8 k) := by decide +kernel
abbrev cX8_init : ByteArray := prog_10_method_1_code
def yX8_init : MethodName := ⟨RX8, "<init>", "(IZI)V"⟩
abbrev cX8_hasRoomForComponent : ByteArray := prog_10_method_2_code
def yX8_hasRoomForComponent : MethodName := ⟨RX8, "hasRoomForComponent", "()Z"⟩
abbrev cX8_putComponent : ByteArray := prog_10_method_3_code
def yX8_putComponent : MethodName := ⟨RX8, "putComponent", "(LFoundrymark$Component;)I"⟩
abbrev cX8_hasRoomForOperation : ByteArray := prog_10_method_4_code
def yX8_hasRoomForOperation : MethodName := ⟨RX8, "hasRoomForOperation", "()Z"⟩
abbrev cX8_putOperation : ByteArray := prog_10_method_5_code
def yX8_putOperation : MethodName := ⟨RX8, "putOperation", "(LFoundrymark$Operation;)I"⟩
abbrev cX8_operationAt : ByteArray := prog_10_method_6_code
def yX8_operationAt : MethodName := ⟨RX8, "operationAt", "(I)LFoundrymark$Operation;"⟩
def RX9 : String := "Foundrymark$Supplier"
def TX9 : u_T := fun k => match k with
  | 0 => ("Foundrymark$Supplier", "rule", "C", false)
  | 1 => ("Foundrymark$Supplier", "refusals", "I", false)
  | _ => ("Foundrymark$Supplier", "seen", "I", false)
def tyX9 : Nat → FieldType := fun k => match k with
  | 0 => .char
  | 1 => .int
  | _ => .int
theorem nmX9 : ∀ a, a < 3 → ∀ b, b < 3 → a ≠ b → (TX9 a).2.1 ≠ (TX9 b).2.1 := by decide +kernel
theorem tyX9_ok : ∀ k, k < 3 → parseFieldDescriptor (TX9 k).2.2.1 = some (tyX9 k) := by decide +kernel
abbrev cX9_init : ByteArray := prog_11_method_1_code
def yX9_init : MethodName := ⟨RX9, "<init>", "()V"⟩
abbrev cX9_refuses : ByteArray := prog_11_method_2_code
def yX9_refuses : MethodName := ⟨RX9, "refuses", "(I)Z"⟩
abbrev cX9_mostBad : ByteArray := prog_11_method_3_code
def yX9_mostBad : MethodName := ⟨RX9, "mostBad", "()I"⟩
abbrev cX9_nextRule : ByteArray := prog_11_method_4_code
def yX9_nextRule : MethodName := ⟨RX9, "nextRule", "(Z)C"⟩
abbrev cX9_areAccepted : ByteArray := prog_11_method_5_code
def yX9_areAccepted : MethodName := ⟨RX9, "areAccepted", "(I)Z"⟩
def RX10 : String := "Foundrymark"
def TX10 : u_T := fun k => match k with
  | 0 => ("Foundrymark", "machines", "[LFoundrymark$Machine;", true)
  | 1 => ("Foundrymark", "parts", "[LFoundrymark$Part;", true)
  | 2 => ("Foundrymark", "suppliers", "[LFoundrymark$Supplier;", true)
  | 3 => ("Foundrymark", "lots", "[LFoundrymark$Lot;", true)
  | 4 => ("Foundrymark", "orders", "[LFoundrymark$Order;", true)
  | 5 => ("Foundrymark", "onHold", "LFoundrymark$NumberSet;", true)
  | 6 => ("Foundrymark", "machineCount", "I", false)
  | 7 => ("Foundrymark", "partCount", "I", false)
  | 8 => ("Foundrymark", "lotCount", "I", false)
  | 9 => ("Foundrymark", "boughtCount", "I", false)
  | 10 => ("Foundrymark", "orderCount", "I", false)
  | 11 => ("Foundrymark", "now", "I", false)
  | 12 => ("Foundrymark", "costIn", "J", false)
  | _ => ("Foundrymark", "costLost", "J", false)
def tyX10 : Nat → FieldType := fun k => match k with
  | 0 => .array (.object "Foundrymark$Machine")
  | 1 => .array (.object "Foundrymark$Part")
  | 2 => .array (.object "Foundrymark$Supplier")
  | 3 => .array (.object "Foundrymark$Lot")
  | 4 => .array (.object "Foundrymark$Order")
  | 5 => .object "Foundrymark$NumberSet"
  | 6 => .int
  | 7 => .int
  | 8 => .int
  | 9 => .int
  | 10 => .int
  | 11 => .int
  | 12 => .long
  | _ => .long
theorem nmX10 : ∀ a, a < 14 → ∀ b, b < 14 → a ≠ b → (TX10 a).2.1 ≠ (TX10 b).2.1 := by decide +kernel
theorem tyX10_ok : ∀ k, k < 14 → parseFieldDescriptor (TX10 k).2.2.1 = some (tyX10 k) := by decide +kernel
abbrev cX10_init : ByteArray := prog_1_method_1_code
def yX10_init : MethodName := ⟨RX10, "<init>", "()V"⟩
abbrev cX10_addMachine : ByteArray := prog_1_method_2_code
def yX10_addMachine : MethodName := ⟨RX10, "addMachine", "(IIII)I"⟩
abbrev cX10_addPart : ByteArray := prog_1_method_3_code
def yX10_addPart : MethodName := ⟨RX10, "addPart", "(ZI)I"⟩
abbrev cX10_addComponent : ByteArray := prog_1_method_4_code
def yX10_addComponent : MethodName := ⟨RX10, "addComponent", "(IIII)I"⟩
abbrev cX10_addOperation : ByteArray := prog_1_method_5_code
def yX10_addOperation : MethodName := ⟨RX10, "addOperation", "(IIII)I"⟩
abbrev cX10_receive : ByteArray := prog_1_method_6_code
def yX10_receive : MethodName := ⟨RX10, "receive", "(IIIII)I"⟩
abbrev cX10_hold : ByteArray := prog_1_method_8_code
def yX10_hold : MethodName := ⟨RX10, "hold", "(IZ)I"⟩
abbrev cX10_isHeld : ByteArray := prog_1_method_9_code
def yX10_isHeld : MethodName := ⟨RX10, "isHeld", "(I)Z"⟩
abbrev cX10_measure : ByteArray := prog_1_method_11_code
def yX10_measure : MethodName := ⟨RX10, "measure", "(II)Z"⟩
abbrev cX10_lots : ByteArray := prog_1_method_12_code
def yX10_lots : MethodName := ⟨RX10, "lots", "()I"⟩
abbrev cX10_partOf : ByteArray := prog_1_method_13_code
def yX10_partOf : MethodName := ⟨RX10, "partOf", "(I)I"⟩
abbrev cX10_rest : ByteArray := prog_1_method_14_code
def yX10_rest : MethodName := ⟨RX10, "rest", "(I)I"⟩
abbrev cX10_reserved : ByteArray := prog_1_method_15_code
def yX10_reserved : MethodName := ⟨RX10, "reserved", "(I)I"⟩
abbrev cX10_costOf : ByteArray := prog_1_method_16_code
def yX10_costOf : MethodName := ⟨RX10, "costOf", "(I)J"⟩
abbrev cX10_order : ByteArray := prog_1_method_17_code
def yX10_order : MethodName := ⟨RX10, "order", "(IIII)I"⟩
abbrev cX10_promise : ByteArray := prog_1_method_18_code
def yX10_promise : MethodName := ⟨RX10, "promise", "(I)Z"⟩
abbrev cX10_withdraw : ByteArray := prog_1_method_19_code
def yX10_withdraw : MethodName := ⟨RX10, "withdraw", "(I)I"⟩
abbrev cX10_release : ByteArray := prog_1_method_20_code
def yX10_release : MethodName := ⟨RX10, "release", "(I)Z"⟩
abbrev cX10_scrap : ByteArray := prog_1_method_21_code
def yX10_scrap : MethodName := ⟨RX10, "scrap", "(II)I"⟩
abbrev cX10_advance : ByteArray := prog_1_method_22_code
def yX10_advance : MethodName := ⟨RX10, "advance", "(I)I"⟩
abbrev cX10_deliver : ByteArray := prog_1_method_23_code
def yX10_deliver : MethodName := ⟨RX10, "deliver", "(I)Z"⟩
abbrev cX10_stateOf : ByteArray := prog_1_method_24_code
def yX10_stateOf : MethodName := ⟨RX10, "stateOf", "(I)C"⟩
abbrev cX10_lotOf : ByteArray := prog_1_method_25_code
def yX10_lotOf : MethodName := ⟨RX10, "lotOf", "(I)I"⟩
abbrev cX10_finishedAt : ByteArray := prog_1_method_26_code
def yX10_finishedAt : MethodName := ⟨RX10, "finishedAt", "(I)I"⟩
abbrev cX10_machineIs : ByteArray := prog_1_method_27_code
def yX10_machineIs : MethodName := ⟨RX10, "machineIs", "(I)C"⟩
abbrev cX10_isIn : ByteArray := prog_1_method_30_code
def yX10_isIn : MethodName := ⟨RX10, "isIn", "(II)Z"⟩
abbrev cX10_touched : ByteArray := prog_1_method_31_code
def yX10_touched : MethodName := ⟨RX10, "touched", "(I)I"⟩
abbrev cX10_lotsIn : ByteArray := prog_1_method_32_code
def yX10_lotsIn : MethodName := ⟨RX10, "lotsIn", "(I)I"⟩
abbrev cX10_deliveredCost : ByteArray := prog_1_method_33_code
def yX10_deliveredCost : MethodName := ⟨RX10, "deliveredCost", "(I)J"⟩
abbrev cX10_meanBusy : ByteArray := prog_1_method_35_code
def yX10_meanBusy : MethodName := ⟨RX10, "meanBusy", "()D"⟩
abbrev cX10_isSound : ByteArray := prog_1_method_36_code
def yX10_isSound : MethodName := ⟨RX10, "isSound", "()Z"⟩
abbrev cX10_isFrom : ByteArray := prog_1_method_37_code
def yX10_isFrom : MethodName := ⟨RX10, "isFrom", "(III)Z"⟩
abbrev cX10_knownMachine : ByteArray := prog_1_method_38_code
def yX10_knownMachine : MethodName := ⟨RX10, "knownMachine", "(I)LFoundrymark$Machine;"⟩
abbrev cX10_knownPart : ByteArray := prog_1_method_39_code
def yX10_knownPart : MethodName := ⟨RX10, "knownPart", "(I)LFoundrymark$Part;"⟩
abbrev cX10_knownLot : ByteArray := prog_1_method_40_code
def yX10_knownLot : MethodName := ⟨RX10, "knownLot", "(I)LFoundrymark$Lot;"⟩
abbrev cX10_knownOrder : ByteArray := prog_1_method_41_code
def yX10_knownOrder : MethodName := ⟨RX10, "knownOrder", "(I)LFoundrymark$Order;"⟩
abbrev cX10_findSupplier : ByteArray := prog_1_method_42_code
def yX10_findSupplier : MethodName := ⟨RX10, "findSupplier", "(I)LFoundrymark$Supplier;"⟩
abbrev cX10_putLot : ByteArray := prog_1_method_43_code
def yX10_putLot : MethodName := ⟨RX10, "putLot", "(LFoundrymark$Part;IJ)LFoundrymark$Lot;"⟩
abbrev cX10_isBarred : ByteArray := prog_1_method_44_code
def yX10_isBarred : MethodName := ⟨RX10, "isBarred", "(LFoundrymark$Lot;)Z"⟩
abbrev cX10_putOnHold : ByteArray := prog_1_method_45_code
def yX10_putOnHold : MethodName := ⟨RX10, "putOnHold", "(LFoundrymark$Lot;)I"⟩
abbrev cX10_hasBarredPieces : ByteArray := prog_1_method_46_code
def yX10_hasBarredPieces : MethodName := ⟨RX10, "hasBarredPieces", "(LFoundrymark$Order;)Z"⟩
abbrev cX10_freePieces : ByteArray := prog_1_method_47_code
def yX10_freePieces : MethodName := ⟨RX10, "freePieces", "(LFoundrymark$Lot;)I"⟩
abbrev cX10_freePiecesOf : ByteArray := prog_1_method_48_code
def yX10_freePiecesOf : MethodName := ⟨RX10, "freePiecesOf", "(LFoundrymark$Part;)I"⟩
abbrev cX10_reserveAll : ByteArray := prog_1_method_49_code
def yX10_reserveAll : MethodName := ⟨RX10, "reserveAll", "(LFoundrymark$Order;)Z"⟩
abbrev cX10_reserve : ByteArray := prog_1_method_50_code
def yX10_reserve : MethodName := ⟨RX10, "reserve", "(LFoundrymark$Order;LFoundrymark$Component;)Z"⟩
abbrev cX10_dropPromise : ByteArray := prog_1_method_51_code
def yX10_dropPromise : MethodName := ⟨RX10, "dropPromise", "(LFoundrymark$Order;)I"⟩
abbrev cX10_takeReserved : ByteArray := prog_1_method_52_code
def yX10_takeReserved : MethodName := ⟨RX10, "takeReserved", "(LFoundrymark$Order;)V"⟩
abbrev cX10_sendOn : ByteArray := prog_1_method_53_code
def yX10_sendOn : MethodName := ⟨RX10, "sendOn", "(LFoundrymark$Order;)LFoundrymark$Machine;"⟩
abbrev cX10_chooseMachine : ByteArray := prog_1_method_54_code
def yX10_chooseMachine : MethodName := ⟨RX10, "chooseMachine", "(LFoundrymark$Operation;)LFoundrymark$Machine;"⟩
abbrev cX10_load : ByteArray := prog_1_method_55_code
def yX10_load : MethodName := ⟨RX10, "load", "(LFoundrymark$Machine;)I"⟩
abbrev cX10_countWaiting : ByteArray := prog_1_method_56_code
def yX10_countWaiting : MethodName := ⟨RX10, "countWaiting", "(LFoundrymark$Machine;)I"⟩
abbrev cX10_firstWaiting : ByteArray := prog_1_method_57_code
def yX10_firstWaiting : MethodName := ⟨RX10, "firstWaiting", "(LFoundrymark$Machine;)LFoundrymark$Order;"⟩
abbrev cX10_passTime : ByteArray := prog_1_method_58_code
def yX10_passTime : MethodName := ⟨RX10, "passTime", "()V"⟩
abbrev cX10_beginNext : ByteArray := prog_1_method_59_code
def yX10_beginNext : MethodName := ⟨RX10, "beginNext", "(LFoundrymark$Machine;)V"⟩
abbrev cX10_endWork : ByteArray := prog_1_method_60_code
def yX10_endWork : MethodName := ⟨RX10, "endWork", "(LFoundrymark$Machine;)V"⟩
abbrev cX10_finish : ByteArray := prog_1_method_61_code
def yX10_finish : MethodName := ⟨RX10, "finish", "(LFoundrymark$Order;)V"⟩
abbrev cX10_noteSources : ByteArray := prog_1_method_62_code
def yX10_noteSources : MethodName := ⟨RX10, "noteSources", "(LFoundrymark$Order;LFoundrymark$Lot;)V"⟩
abbrev cX10_takeForDelivery : ByteArray := prog_1_method_63_code
def yX10_takeForDelivery : MethodName := ⟨RX10, "takeForDelivery", "(LFoundrymark$Order;)V"⟩
abbrev cX10_deliverOf : ByteArray := prog_1_method_64_code
def yX10_deliverOf : MethodName := ⟨RX10, "deliverOf", "(LFoundrymark$Lot;ILFoundrymark$Order;)I"⟩
abbrev cX10_noteOrderOnLots : ByteArray := prog_1_method_65_code
def yX10_noteOrderOnLots : MethodName := ⟨RX10, "noteOrderOnLots", "(LFoundrymark$Order;)V"⟩
abbrev cX10_areLotsSound : ByteArray := prog_1_method_66_code
def yX10_areLotsSound : MethodName := ⟨RX10, "areLotsSound", "()Z"⟩
abbrev cX10_piecesIn : ByteArray := prog_1_method_67_code
def yX10_piecesIn : MethodName := ⟨RX10, "piecesIn", "(LFoundrymark$Lot;Z)I"⟩
abbrev cX10_areJobsSound : ByteArray := prog_1_method_68_code
def yX10_areJobsSound : MethodName := ⟨RX10, "areJobsSound", "()Z"⟩
abbrev cX10_areCostsSound : ByteArray := prog_1_method_69_code
def yX10_areCostsSound : MethodName := ⟨RX10, "areCostsSound", "()Z"⟩
abbrev cX10_arePromisesSound : ByteArray := prog_1_method_70_code
def yX10_arePromisesSound : MethodName := ⟨RX10, "arePromisesSound", "()Z"⟩
abbrev cX10_areTracesSound : ByteArray := prog_1_method_71_code
def yX10_areTracesSound : MethodName := ⟨RX10, "areTracesSound", "()Z"⟩
abbrev cX10_isTraceSound : ByteArray := prog_1_method_72_code
def yX10_isTraceSound : MethodName := ⟨RX10, "isTraceSound", "(LFoundrymark$Lot;)Z"⟩
def RX11 : String := "FoundrymarkModel$Lot"
def TX11 : u_T := fun k => match k with
  | _ => ("", "", "", false)
def tyX11 : Nat → FieldType := fun k => match k with
  | _ => .int
theorem nmX11 : ∀ a, a < 0 → ∀ b, b < 0 → a ≠ b → (TX11 a).2.1 ≠ (TX11 b).2.1 := by decide +kernel
theorem tyX11_ok : ∀ k, k < 0 → parseFieldDescriptor (TX11 k).2.2.1 = some (tyX11 k) := by decide +kernel
def RX12 : String := "FoundrymarkModel$Machine"
def TX12 : u_T := fun k => match k with
  | _ => ("", "", "", false)
def tyX12 : Nat → FieldType := fun k => match k with
  | _ => .int
theorem nmX12 : ∀ a, a < 0 → ∀ b, b < 0 → a ≠ b → (TX12 a).2.1 ≠ (TX12 b).2.1 := by decide +kernel
theorem tyX12_ok : ∀ k, k < 0 → parseFieldDescriptor (TX12 k).2.2.1 = some (tyX12 k) := by decide +kernel
def RX13 : String := "FoundrymarkModel$Order"
def TX13 : u_T := fun k => match k with
  | _ => ("", "", "", false)
def tyX13 : Nat → FieldType := fun k => match k with
  | _ => .int
theorem nmX13 : ∀ a, a < 0 → ∀ b, b < 0 → a ≠ b → (TX13 a).2.1 ≠ (TX13 b).2.1 := by decide +kernel
theorem tyX13_ok : ∀ k, k < 0 → parseFieldDescriptor (TX13 k).2.2.1 = some (tyX13 k) := by decide +kernel
def RX14 : String := "FoundrymarkModel$Part"
def TX14 : u_T := fun k => match k with
  | _ => ("", "", "", false)
def tyX14 : Nat → FieldType := fun k => match k with
  | _ => .int
theorem nmX14 : ∀ a, a < 0 → ∀ b, b < 0 → a ≠ b → (TX14 a).2.1 ≠ (TX14 b).2.1 := by decide +kernel
theorem tyX14_ok : ∀ k, k < 0 → parseFieldDescriptor (TX14 k).2.2.1 = some (tyX14 k) := by decide +kernel
def RX15 : String := "FoundrymarkModel"
def TX15 : u_T := fun k => match k with
  | _ => ("", "", "", false)
def tyX15 : Nat → FieldType := fun k => match k with
  | _ => .int
theorem nmX15 : ∀ a, a < 0 → ∀ b, b < 0 → a ≠ b → (TX15 a).2.1 ≠ (TX15 b).2.1 := by decide +kernel
theorem tyX15_ok : ∀ k, k < 0 → parseFieldDescriptor (TX15 k).2.2.1 = some (tyX15 k) := by decide +kernel
def RJx145de : String := "java/io/Serializable"
def TJx145de : u_T := fun k => match k with
  | _ => ("", "", "", false)
def tyJx145de : Nat → FieldType := fun k => match k with
  | _ => .int
theorem nmJx145de : ∀ a, a < 0 → ∀ b, b < 0 → a ≠ b → (TJx145de a).2.1 ≠ (TJx145de b).2.1 := by decide +kernel
theorem tyJx145de_ok : ∀ k, k < 0 → parseFieldDescriptor (TJx145de k).2.2.1 = some (tyJx145de k) := by decide +kernel
def RJx00060 : String := "java/lang/ArrayIndexOutOfBoundsException"
def TJx00060 : u_T := fun k => match k with
  | 0 => ("java/lang/Throwable", "backtrace", "Ljava/lang/Object;", false)
  | 1 => ("java/lang/Throwable", "detailMessage", "Ljava/lang/String;", false)
  | 2 => ("java/lang/Throwable", "cause", "Ljava/lang/Throwable;", false)
  | 3 => ("java/lang/Throwable", "stackTrace", "[Ljava/lang/StackTraceElement;", false)
  | 4 => ("java/lang/Throwable", "depth", "I", false)
  | _ => ("java/lang/Throwable", "suppressedExceptions", "Ljava/util/List;", false)
def tyJx00060 : Nat → FieldType := fun k => match k with
  | 0 => .object "java/lang/Object"
  | 1 => .object "java/lang/String"
  | 2 => .object "java/lang/Throwable"
  | 3 => .array (.object "java/lang/StackTraceElement")
  | 4 => .int
  | _ => .object "java/util/List"
theorem nmJx00060 : ∀ a, a < 6 → ∀ b, b < 6 → a ≠ b → (TJx00060 a).2.1 ≠ (TJx00060 b).2.1 := by decide +kernel
theorem tyJx00060_ok : ∀ k, k < 6 → parseFieldDescriptor (TJx00060 k).2.2.1 = some (tyJx00060 k) := by decide +kernel
abbrev cJx00060_init_a7421 : ByteArray := prog_20_method_2_code
def yJx00060_init_a7421 : MethodName := ⟨RJx00060, "<init>", "(Ljava/lang/String;)V"⟩
def RJx9f9b0 : String := "java/lang/CharSequence"
def TJx9f9b0 : u_T := fun k => match k with
  | _ => ("", "", "", false)
def tyJx9f9b0 : Nat → FieldType := fun k => match k with
  | _ => .int
theorem nmJx9f9b0 : ∀ a, a < 0 → ∀ b, b < 0 → a ≠ b → (TJx9f9b0 a).2.1 ≠ (TJx9f9b0 b).2.1 := by decide +kernel
theorem tyJx9f9b0_ok : ∀ k, k < 0 → parseFieldDescriptor (TJx9f9b0 k).2.2.1 = some (tyJx9f9b0 k) := by decide +kernel
def RJ11 : String := "java/lang/Character"
def TJ11 : u_T := fun k => match k with
  | _ => ("", "", "", false)
def tyJ11 : Nat → FieldType := fun k => match k with
  | _ => .int
theorem nmJ11 : ∀ a, a < 0 → ∀ b, b < 0 → a ≠ b → (TJ11 a).2.1 ≠ (TJ11 b).2.1 := by decide +kernel
theorem tyJ11_ok : ∀ k, k < 0 → parseFieldDescriptor (TJ11 k).2.2.1 = some (tyJ11 k) := by decide +kernel
abbrev cJ11_isValidCodePoint_9a6ad : ByteArray := prog_22_method_11_code
def yJ11_isValidCodePoint_9a6ad : MethodName := ⟨RJ11, "isValidCodePoint", "(I)Z"⟩
abbrev cJ11_highSurrogate_5068e : ByteArray := prog_22_method_28_code
def yJ11_highSurrogate_5068e : MethodName := ⟨RJ11, "highSurrogate", "(I)C"⟩
abbrev cJ11_lowSurrogate_5068e : ByteArray := prog_22_method_29_code
def yJ11_lowSurrogate_5068e : MethodName := ⟨RJ11, "lowSurrogate", "(I)C"⟩
def RJxb160c : String := "java/lang/Comparable"
def TJxb160c : u_T := fun k => match k with
  | _ => ("", "", "", false)
def tyJxb160c : Nat → FieldType := fun k => match k with
  | _ => .int
theorem nmJxb160c : ∀ a, a < 0 → ∀ b, b < 0 → a ≠ b → (TJxb160c a).2.1 ≠ (TJxb160c b).2.1 := by decide +kernel
theorem tyJxb160c_ok : ∀ k, k < 0 → parseFieldDescriptor (TJxb160c k).2.2.1 = some (tyJxb160c k) := by decide +kernel
def RJ6 : String := "java/lang/Integer"
def TJ6 : u_T := fun k => match k with
  | _ => ("", "", "", false)
def tyJ6 : Nat → FieldType := fun k => match k with
  | _ => .int
theorem nmJ6 : ∀ a, a < 0 → ∀ b, b < 0 → a ≠ b → (TJ6 a).2.1 ≠ (TJ6 b).2.1 := by decide +kernel
theorem tyJ6_ok : ∀ k, k < 0 → parseFieldDescriptor (TJ6 k).2.2.1 = some (tyJ6 k) := by decide +kernel
abbrev cJ6_compare_7cf53 : ByteArray := prog_28_method_40_code
def yJ6_compare_7cf53 : MethodName := ⟨RJ6, "compare", "(II)I"⟩
abbrev cJ6_bitCount_0f7a4 : ByteArray := prog_28_method_49_code
def yJ6_bitCount_0f7a4 : MethodName := ⟨RJ6, "bitCount", "(I)I"⟩
def RJ13 : String := "java/lang/Long"
def TJ13 : u_T := fun k => match k with
  | _ => ("", "", "", false)
def tyJ13 : Nat → FieldType := fun k => match k with
  | _ => .int
theorem nmJ13 : ∀ a, a < 0 → ∀ b, b < 0 → a ≠ b → (TJ13 a).2.1 ≠ (TJ13 b).2.1 := by decide +kernel
theorem tyJ13_ok : ∀ k, k < 0 → parseFieldDescriptor (TJ13 k).2.2.1 = some (tyJ13 k) := by decide +kernel
abbrev cJ13_bitCount_95d88 : ByteArray := prog_29_method_50_code
def yJ13_bitCount_95d88 : MethodName := ⟨RJ13, "bitCount", "(J)I"⟩
def RJ9 : String := "java/lang/Math"
def TJ9 : u_T := fun k => match k with
  | _ => ("", "", "", false)
def tyJ9 : Nat → FieldType := fun k => match k with
  | _ => .int
theorem nmJ9 : ∀ a, a < 0 → ∀ b, b < 0 → a ≠ b → (TJ9 a).2.1 ≠ (TJ9 b).2.1 := by decide +kernel
theorem tyJ9_ok : ∀ k, k < 0 → parseFieldDescriptor (TJ9 k).2.2.1 = some (tyJ9 k) := by decide +kernel
abbrev cJ9_abs_0f7a4 : ByteArray := prog_30_method_59_code
def yJ9_abs_0f7a4 : MethodName := ⟨RJ9, "abs", "(I)I"⟩
abbrev cJ9_max_7cf53 : ByteArray := prog_30_method_65_code
def yJ9_max_7cf53 : MethodName := ⟨RJ9, "max", "(II)I"⟩
abbrev cJ9_min_7cf53 : ByteArray := prog_30_method_69_code
def yJ9_min_7cf53 : MethodName := ⟨RJ9, "min", "(II)I"⟩
def RJ0 : String := "java/lang/String"
def TJ0 : u_T := fun k => match k with
  | 0 => ("java/lang/String", "value", "[B", true)
  | _ => ("java/lang/String", "coder", "B", true)
def tyJ0 : Nat → FieldType := fun k => match k with
  | 0 => .array .byte
  | _ => .byte
theorem nmJ0 : ∀ a, a < 2 → ∀ b, b < 2 → a ≠ b → (TJ0 a).2.1 ≠ (TJ0 b).2.1 := by decide +kernel
theorem tyJ0_ok : ∀ k, k < 2 → parseFieldDescriptor (TJ0 k).2.2.1 = some (tyJ0 k) := by decide +kernel
abbrev cJ0_length_8abf5 : ByteArray := prog_32_method_54_code
def yJ0_length_8abf5 : MethodName := ⟨RJ0, "length", "()I"⟩
abbrev cJ0_indexOf_0f7a4 : ByteArray := prog_32_method_79_code
def yJ0_indexOf_0f7a4 : MethodName := ⟨RJ0, "indexOf", "(I)I"⟩
abbrev cJ0_indexOf_7cf53 : ByteArray := prog_32_method_80_code
def yJ0_indexOf_7cf53 : MethodName := ⟨RJ0, "indexOf", "(II)I"⟩
abbrev cJ0_coder_7d493 : ByteArray := prog_32_method_152_code
def yJ0_coder_7d493 : MethodName := ⟨RJ0, "coder", "()B"⟩
abbrev cJ0_isLatin1_aae02 : ByteArray := prog_32_method_154_code
def yJ0_isLatin1_aae02 : MethodName := ⟨RJ0, "isLatin1", "()Z"⟩
abbrev cJ0_checkBoundsBeginEnd_23922 : ByteArray := prog_32_method_158_code
def yJ0_checkBoundsBeginEnd_23922 : MethodName := ⟨RJ0, "checkBoundsBeginEnd", "(III)V"⟩
def RJ1 : String := "java/lang/StringLatin1"
def TJ1 : u_T := fun k => match k with
  | _ => ("", "", "", false)
def tyJ1 : Nat → FieldType := fun k => match k with
  | _ => .int
theorem nmJ1 : ∀ a, a < 0 → ∀ b, b < 0 → a ≠ b → (TJ1 a).2.1 ≠ (TJ1 b).2.1 := by decide +kernel
theorem tyJ1_ok : ∀ k, k < 0 → parseFieldDescriptor (TJ1 k).2.2.1 = some (tyJ1 k) := by decide +kernel
abbrev cJ1_canEncode_9a6ad : ByteArray := prog_33_method_4_code
def yJ1_canEncode_9a6ad : MethodName := ⟨RJ1, "canEncode", "(I)Z"⟩
abbrev cJ1_indexOf_4cfef : ByteArray := prog_33_method_22_code
def yJ1_indexOf_4cfef : MethodName := ⟨RJ1, "indexOf", "([BIII)I"⟩
abbrev cJ1_indexOfChar_4cfef : ByteArray := prog_33_method_23_code
def yJ1_indexOfChar_4cfef : MethodName := ⟨RJ1, "indexOfChar", "([BIII)I"⟩
def RJ2 : String := "java/lang/StringUTF16"
def TJ2 : u_T := fun k => match k with
  | _ => ("", "", "", false)
def tyJ2 : Nat → FieldType := fun k => match k with
  | _ => .int
theorem nmJ2 : ∀ a, a < 0 → ∀ b, b < 0 → a ≠ b → (TJ2 a).2.1 ≠ (TJ2 b).2.1 := by decide +kernel
theorem tyJ2_ok : ∀ k, k < 0 → parseFieldDescriptor (TJ2 k).2.2.1 = some (tyJ2 k) := by decide +kernel
abbrev cJ2_getChar_3b067 : ByteArray := prog_34_method_5_code
def yJ2_getChar_3b067 : MethodName := ⟨RJ2, "getChar", "([BI)C"⟩
abbrev cJ2_length_9d52b : ByteArray := prog_34_method_6_code
def yJ2_length_9d52b : MethodName := ⟨RJ2, "length", "([B)I"⟩
abbrev cJ2_indexOf_4cfef : ByteArray := prog_34_method_40_code
def yJ2_indexOf_4cfef : MethodName := ⟨RJ2, "indexOf", "([BIII)I"⟩
abbrev cJ2_indexOfChar_4cfef : ByteArray := prog_34_method_47_code
def yJ2_indexOfChar_4cfef : MethodName := ⟨RJ2, "indexOfChar", "([BIII)I"⟩
abbrev cJ2_indexOfCharUnsafe_4cfef : ByteArray := prog_34_method_48_code
def yJ2_indexOfCharUnsafe_4cfef : MethodName := ⟨RJ2, "indexOfCharUnsafe", "([BIII)I"⟩
abbrev cJ2_indexOfSupplementary_4cfef : ByteArray := prog_34_method_49_code
def yJ2_indexOfSupplementary_4cfef : MethodName := ⟨RJ2, "indexOfSupplementary", "([BIII)I"⟩
abbrev cJ2_checkBoundsBeginEnd_d044e : ByteArray := prog_34_method_93_code
def yJ2_checkBoundsBeginEnd_d044e : MethodName := ⟨RJ2, "checkBoundsBeginEnd", "(II[B)V"⟩
def RJxfd54e : String := "java/lang/constant/Constable"
def TJxfd54e : u_T := fun k => match k with
  | _ => ("", "", "", false)
def tyJxfd54e : Nat → FieldType := fun k => match k with
  | _ => .int
theorem nmJxfd54e : ∀ a, a < 0 → ∀ b, b < 0 → a ≠ b → (TJxfd54e a).2.1 ≠ (TJxfd54e b).2.1 := by decide +kernel
theorem tyJxfd54e_ok : ∀ k, k < 0 → parseFieldDescriptor (TJxfd54e k).2.2.1 = some (tyJxfd54e k) := by decide +kernel
def RJx3cf43 : String := "java/lang/constant/ConstantDesc"
def TJx3cf43 : u_T := fun k => match k with
  | _ => ("", "", "", false)
def tyJx3cf43 : Nat → FieldType := fun k => match k with
  | _ => .int
theorem nmJx3cf43 : ∀ a, a < 0 → ∀ b, b < 0 → a ≠ b → (TJx3cf43 a).2.1 ≠ (TJx3cf43 b).2.1 := by decide +kernel
theorem tyJx3cf43_ok : ∀ k, k < 0 → parseFieldDescriptor (TJx3cf43 k).2.2.1 = some (tyJx3cf43 k) := by decide +kernel
def RJ3 : String := "jdk/internal/util/Preconditions"
def TJ3 : u_T := fun k => match k with
  | _ => ("", "", "", false)
def tyJ3 : Nat → FieldType := fun k => match k with
  | _ => .int
theorem nmJ3 : ∀ a, a < 0 → ∀ b, b < 0 → a ≠ b → (TJ3 a).2.1 ≠ (TJ3 b).2.1 := by decide +kernel
theorem tyJ3_ok : ∀ k, k < 0 → parseFieldDescriptor (TJ3 k).2.2.1 = some (tyJ3 k) := by decide +kernel
abbrev cJ3_checkFromToIndex_8c36e : ByteArray := prog_40_method_12_code
def yJ3_checkFromToIndex_8c36e : MethodName := ⟨RJ3, "checkFromToIndex", "(IIILjava/util/function/BiFunction;)I"⟩
def RL : String := "FoundrymarkLaw"
abbrev cL_cell : ByteArray := method_2_code
def yL_cell : MethodName := ⟨RL, "cell", "([II)I"⟩
abbrev cL_some : ByteArray := method_3_code
def yL_some : MethodName := ⟨RL, "some", "([III)I"⟩
abbrev cL_addMachine : ByteArray := method_4_code
def yL_addMachine : MethodName := ⟨RL, "addMachine", "(LFoundrymark;IIII)I"⟩
abbrev cL_addPart : ByteArray := method_5_code
def yL_addPart : MethodName := ⟨RL, "addPart", "(LFoundrymark;ZI)I"⟩
abbrev cL_addComponent : ByteArray := method_6_code
def yL_addComponent : MethodName := ⟨RL, "addComponent", "(LFoundrymark;IIII)I"⟩
abbrev cL_addOperation : ByteArray := method_7_code
def yL_addOperation : MethodName := ⟨RL, "addOperation", "(LFoundrymark;IIII)I"⟩
abbrev cL_receive : ByteArray := method_8_code
def yL_receive : MethodName := ⟨RL, "receive", "(LFoundrymark;IIIII)I"⟩
abbrev cL_hold : ByteArray := method_10_code
def yL_hold : MethodName := ⟨RL, "hold", "(LFoundrymark;IZ)I"⟩
abbrev cL_partOf : ByteArray := method_12_code
def yL_partOf : MethodName := ⟨RL, "partOf", "(LFoundrymark;I)I"⟩
abbrev cL_rest : ByteArray := method_13_code
def yL_rest : MethodName := ⟨RL, "rest", "(LFoundrymark;I)I"⟩
abbrev cL_reserved : ByteArray := method_14_code
def yL_reserved : MethodName := ⟨RL, "reserved", "(LFoundrymark;I)I"⟩
abbrev cL_costOf : ByteArray := method_15_code
def yL_costOf : MethodName := ⟨RL, "costOf", "(LFoundrymark;I)J"⟩
abbrev cL_order : ByteArray := method_16_code
def yL_order : MethodName := ⟨RL, "order", "(LFoundrymark;IIII)I"⟩
abbrev cL_withdraw : ByteArray := method_17_code
def yL_withdraw : MethodName := ⟨RL, "withdraw", "(LFoundrymark;I)I"⟩
abbrev cL_scrap : ByteArray := method_18_code
def yL_scrap : MethodName := ⟨RL, "scrap", "(LFoundrymark;II)I"⟩
abbrev cL_advance : ByteArray := method_19_code
def yL_advance : MethodName := ⟨RL, "advance", "(LFoundrymark;I)I"⟩
abbrev cL_stateOf : ByteArray := method_20_code
def yL_stateOf : MethodName := ⟨RL, "stateOf", "(LFoundrymark;I)I"⟩
abbrev cL_lotOf : ByteArray := method_21_code
def yL_lotOf : MethodName := ⟨RL, "lotOf", "(LFoundrymark;I)I"⟩
abbrev cL_finishedAt : ByteArray := method_22_code
def yL_finishedAt : MethodName := ⟨RL, "finishedAt", "(LFoundrymark;I)I"⟩
abbrev cL_machineIs : ByteArray := method_23_code
def yL_machineIs : MethodName := ⟨RL, "machineIs", "(LFoundrymark;I)I"⟩
abbrev cL_touched : ByteArray := method_26_code
def yL_touched : MethodName := ⟨RL, "touched", "(LFoundrymark;I)I"⟩
abbrev cL_lotsIn : ByteArray := method_27_code
def yL_lotsIn : MethodName := ⟨RL, "lotsIn", "(LFoundrymark;I)I"⟩
abbrev cL_deliveredCost : ByteArray := method_28_code
def yL_deliveredCost : MethodName := ⟨RL, "deliveredCost", "(LFoundrymark;I)J"⟩
abbrev cL_is : ByteArray := method_29_code
def yL_is : MethodName := ⟨RL, "is", "(LFoundrymark;CII)I"⟩
abbrev cL_traced : ByteArray := method_30_code
def yL_traced : MethodName := ⟨RL, "traced", "(LFoundrymark;I)Z"⟩
abbrev cL_law : ByteArray := code
def yL_law : MethodName := ⟨RL, "law", "([I)Z"⟩
abbrev vwCl : List vw_C := [(RJ0, TJ0, 2), (RJx00060, TJx00060, 6), (RX0, TX0, 5), (RX1, TX1, 3), (RX2, TX2, 7), (RX3, TX3, 10), (RX4, TX4, 11), (RX5, TX5, 2), (RX6, TX6, 3), (RX7, TX7, 12), (RX8, TX8, 8), (RX9, TX9, 3), (RX10, TX10, 14)]
