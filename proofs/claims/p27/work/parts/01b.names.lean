def RX0 : String := "Aislewright$Batch"
def TX0 : u_T := fun k => match k with
  | 0 => ("Aislewright$Batch", "row", "I", true)
  | 1 => ("Aislewright$Batch", "orderBits", "J", false)
  | 2 => ("Aislewright$Batch", "products", "I", false)
  | 3 => ("Aislewright$Batch", "lines", "I", false)
  | 4 => ("Aislewright$Batch", "length", "I", false)
  | _ => ("Aislewright$Batch", "route", "[I", false)
def tyX0 : Nat → FieldType := fun k => match k with
  | 0 => .int
  | 1 => .long
  | 2 => .int
  | 3 => .int
  | 4 => .int
  | _ => .array .int
abbrev wsX00 : List Cond := u_ws RX0 TX0 6
theorem nmX0 : ∀ a, a < 6 → ∀ b, b < 6 → a ≠ b → (TX0 a).2.1 ≠ (TX0 b).2.1 := by decide +kernel
theorem tyX0_ok : ∀ k, k < 6 → parseFieldDescriptor (TX0 k).2.2.1 = some (tyX0 k) := by decide +kernel
abbrev cX0_init : ByteArray := prog_2_method_1_code
def yX0_init : MethodName := ⟨RX0, "<init>", "(IILAislewright$Order;I)V"⟩
abbrev cX0_holds : ByteArray := prog_2_method_2_code
def yX0_holds : MethodName := ⟨RX0, "holds", "(I)Z"⟩
abbrev cX0_comesInto : ByteArray := prog_2_method_3_code
def yX0_comesInto : MethodName := ⟨RX0, "comesInto", "(I)Z"⟩
abbrev cX0_absorb : ByteArray := prog_2_method_4_code
def yX0_absorb : MethodName := ⟨RX0, "absorb", "(LAislewright$Batch;I)V"⟩
def RX1 : String := "Aislewright$Order"
def TX1 : u_T := fun k => match k with
  | 0 => ("Aislewright$Order", "due", "I", true)
  | 1 => ("Aislewright$Order", "quantities", "[I", true)
  | 2 => ("Aislewright$Order", "products", "I", false)
  | _ => ("Aislewright$Order", "state", "I", false)
def tyX1 : Nat → FieldType := fun k => match k with
  | 0 => .int
  | 1 => .array .int
  | 2 => .int
  | _ => .int
abbrev wsX10 : List Cond := u_ws RX1 TX1 4
theorem nmX1 : ∀ a, a < 4 → ∀ b, b < 4 → a ≠ b → (TX1 a).2.1 ≠ (TX1 b).2.1 := by decide +kernel
theorem tyX1_ok : ∀ k, k < 4 → parseFieldDescriptor (TX1 k).2.2.1 = some (tyX1 k) := by decide +kernel
abbrev cX1_init : ByteArray := prog_3_method_1_code
def yX1_init : MethodName := ⟨RX1, "<init>", "(I)V"⟩
abbrev cX1_asksFor : ByteArray := prog_3_method_2_code
def yX1_asksFor : MethodName := ⟨RX1, "asksFor", "(I)Z"⟩
abbrev cX1_countLines : ByteArray := prog_3_method_3_code
def yX1_countLines : MethodName := ⟨RX1, "countLines", "()I"⟩
abbrev cX1_addLine : ByteArray := prog_3_method_4_code
def yX1_addLine : MethodName := ⟨RX1, "addLine", "(II)V"⟩
abbrev cX1_isTakenAt : ByteArray := prog_3_method_5_code
def yX1_isTakenAt : MethodName := ⟨RX1, "isTakenAt", "(I)Z"⟩
def RX2 : String := "Aislewright$Router"
def TX2 : u_T := fun k => match k with
  | 0 => ("Aislewright$Router", "warehouse", "LAislewright$Warehouse;", true)
  | 1 => ("Aislewright$Router", "places", "[I", true)
  | 2 => ("Aislewright$Router", "count", "I", false)
  | 3 => ("Aislewright$Router", "ways", "[[I", true)
  | _ => ("Aislewright$Router", "onward", "[I", true)
def tyX2 : Nat → FieldType := fun k => match k with
  | 0 => .object "Aislewright$Warehouse"
  | 1 => .array .int
  | 2 => .int
  | 3 => .array (.array .int)
  | _ => .array .int
abbrev wsX20 : List Cond := u_ws RX2 TX2 5
theorem nmX2 : ∀ a, a < 5 → ∀ b, b < 5 → a ≠ b → (TX2 a).2.1 ≠ (TX2 b).2.1 := by decide +kernel
theorem tyX2_ok : ∀ k, k < 5 → parseFieldDescriptor (TX2 k).2.2.1 = some (tyX2 k) := by decide +kernel
abbrev cX2_init : ByteArray := prog_4_method_1_code
def yX2_init : MethodName := ⟨RX2, "<init>", "(LAislewright$Warehouse;)V"⟩
abbrev cX2_leastLength : ByteArray := prog_4_method_2_code
def yX2_leastLength : MethodName := ⟨RX2, "leastLength", "(I)I"⟩
abbrev cX2_bestRoute : ByteArray := prog_4_method_3_code
def yX2_bestRoute : MethodName := ⟨RX2, "bestRoute", "(I)[I"⟩
abbrev cX2_leastByTrying : ByteArray := prog_4_method_4_code
def yX2_leastByTrying : MethodName := ⟨RX2, "leastByTrying", "(I)I"⟩
abbrev cX2_throughAisles : ByteArray := prog_4_method_5_code
def yX2_throughAisles : MethodName := ⟨RX2, "throughAisles", "(I)I"⟩
abbrev cX2_everyPlace : ByteArray := prog_4_method_6_code
def yX2_everyPlace : MethodName := ⟨RX2, "everyPlace", "()I"⟩
abbrev cX2_countAisles : ByteArray := prog_4_method_7_code
def yX2_countAisles : MethodName := ⟨RX2, "countAisles", "()I"⟩
abbrev cX2_gather : ByteArray := prog_4_method_8_code
def yX2_gather : MethodName := ⟨RX2, "gather", "(I)V"⟩
abbrev cX2_insertPlace : ByteArray := prog_4_method_9_code
def yX2_insertPlace : MethodName := ⟨RX2, "insertPlace", "(I)V"⟩
abbrev cX2_fillOnward : ByteArray := prog_4_method_10_code
def yX2_fillOnward : MethodName := ⟨RX2, "fillOnward", "()V"⟩
abbrev cX2_leastOnward : ByteArray := prog_4_method_11_code
def yX2_leastOnward : MethodName := ⟨RX2, "leastOnward", "(II)I"⟩
abbrev cX2_lengthBy : ByteArray := prog_4_method_12_code
def yX2_lengthBy : MethodName := ⟨RX2, "lengthBy", "(III)I"⟩
abbrev cX2_bestNext : ByteArray := prog_4_method_13_code
def yX2_bestNext : MethodName := ⟨RX2, "bestNext", "(II)I"⟩
abbrev cX2_tryFrom : ByteArray := prog_4_method_14_code
def yX2_tryFrom : MethodName := ⟨RX2, "tryFrom", "([[IIIIII)I"⟩
def RX3 : String := "Aislewright$Warehouse"
def TX3 : u_T := fun k => match k with
  | 0 => ("Aislewright$Warehouse", "aisles", "I", true)
  | 1 => ("Aislewright$Warehouse", "positions", "I", true)
  | 2 => ("Aislewright$Warehouse", "gap", "I", true)
  | 3 => ("Aislewright$Warehouse", "places", "[I", true)
  | 4 => ("Aislewright$Warehouse", "turnovers", "[I", true)
  | 5 => ("Aislewright$Warehouse", "nearestPlaces", "[I", true)
  | _ => ("Aislewright$Warehouse", "busiestProducts", "[I", true)
def tyX3 : Nat → FieldType := fun k => match k with
  | 0 => .int
  | 1 => .int
  | 2 => .int
  | 3 => .array .int
  | 4 => .array .int
  | 5 => .array .int
  | _ => .array .int
abbrev wsX30 : List Cond := u_ws RX3 TX3 7
theorem nmX3 : ∀ a, a < 7 → ∀ b, b < 7 → a ≠ b → (TX3 a).2.1 ≠ (TX3 b).2.1 := by decide +kernel
theorem tyX3_ok : ∀ k, k < 7 → parseFieldDescriptor (TX3 k).2.2.1 = some (tyX3 k) := by decide +kernel
abbrev cX3_init : ByteArray := prog_5_method_1_code
def yX3_init : MethodName := ⟨RX3, "<init>", "(III)V"⟩
abbrev cX3_hasAisle : ByteArray := prog_5_method_2_code
def yX3_hasAisle : MethodName := ⟨RX3, "hasAisle", "(I)Z"⟩
abbrev cX3_hasPosition : ByteArray := prog_5_method_3_code
def yX3_hasPosition : MethodName := ⟨RX3, "hasPosition", "(I)Z"⟩
abbrev cX3_depth : ByteArray := prog_5_method_4_code
def yX3_depth : MethodName := ⟨RX3, "depth", "()I"⟩
abbrev cX3_productAt : ByteArray := prog_5_method_5_code
def yX3_productAt : MethodName := ⟨RX3, "productAt", "(I)I"⟩
abbrev cX3_move : ByteArray := prog_5_method_6_code
def yX3_move : MethodName := ⟨RX3, "move", "(II)I"⟩
abbrev cX3_between : ByteArray := prog_5_method_7_code
def yX3_between : MethodName := ⟨RX3, "between", "(II)I"⟩
abbrev cX3_addTurnover : ByteArray := prog_5_method_8_code
def yX3_addTurnover : MethodName := ⟨RX3, "addTurnover", "(LAislewright$Order;)V"⟩
abbrev cX3_rearrange : ByteArray := prog_5_method_9_code
def yX3_rearrange : MethodName := ⟨RX3, "rearrange", "()I"⟩
abbrev cX3_insertPlace : ByteArray := prog_5_method_10_code
def yX3_insertPlace : MethodName := ⟨RX3, "insertPlace", "(II)V"⟩
abbrev cX3_isNearer : ByteArray := prog_5_method_11_code
def yX3_isNearer : MethodName := ⟨RX3, "isNearer", "(II)Z"⟩
abbrev cX3_insertProduct : ByteArray := prog_5_method_12_code
def yX3_insertProduct : MethodName := ⟨RX3, "insertProduct", "(II)V"⟩
def RX4 : String := "Aislewright$Wave"
def TX4 : u_T := fun k => match k with
  | 0 => ("Aislewright$Wave", "router", "LAislewright$Router;", true)
  | 1 => ("Aislewright$Wave", "batches", "Ljava/util/ArrayList;", true)
  | _ => ("Aislewright$Wave", "savings", "[[I", true)
def tyX4 : Nat → FieldType := fun k => match k with
  | 0 => .object "Aislewright$Router"
  | 1 => .object "java/util/ArrayList"
  | _ => .array (.array .int)
abbrev wsX40 : List Cond := u_ws RX4 TX4 3
theorem nmX4 : ∀ a, a < 3 → ∀ b, b < 3 → a ≠ b → (TX4 a).2.1 ≠ (TX4 b).2.1 := by decide +kernel
theorem tyX4_ok : ∀ k, k < 3 → parseFieldDescriptor (TX4 k).2.2.1 = some (tyX4 k) := by decide +kernel
abbrev cX4_init : ByteArray := prog_6_method_1_code
def yX4_init : MethodName := ⟨RX4, "<init>", "(LAislewright$Router;)V"⟩
abbrev cX4_isOn : ByteArray := prog_6_method_2_code
def yX4_isOn : MethodName := ⟨RX4, "isOn", "()Z"⟩
abbrev cX4_size : ByteArray := prog_6_method_3_code
def yX4_size : MethodName := ⟨RX4, "size", "()I"⟩
abbrev cX4_take : ByteArray := prog_6_method_4_code
def yX4_take : MethodName := ⟨RX4, "take", "(ILAislewright$Order;)V"⟩
abbrev cX4_join : ByteArray := prog_6_method_5_code
def yX4_join : MethodName := ⟨RX4, "join", "(I)V"⟩
abbrev cX4_noteSaving : ByteArray := prog_6_method_6_code
def yX4_noteSaving : MethodName := ⟨RX4, "noteSaving", "(III)V"⟩
abbrev cX4_savingOf : ByteArray := prog_6_method_7_code
def yX4_savingOf : MethodName := ⟨RX4, "savingOf", "(II)I"⟩
abbrev cX4_joinBestPair : ByteArray := prog_6_method_8_code
def yX4_joinBestPair : MethodName := ⟨RX4, "joinBestPair", "()I"⟩
abbrev cX4_drop : ByteArray := prog_6_method_9_code
def yX4_drop : MethodName := ⟨RX4, "drop", "(I)V"⟩
abbrev cX4_batchWith : ByteArray := prog_6_method_10_code
def yX4_batchWith : MethodName := ⟨RX4, "batchWith", "(I)I"⟩
abbrev cX4_countIn : ByteArray := prog_6_method_11_code
def yX4_countIn : MethodName := ⟨RX4, "countIn", "(I)I"⟩
def RX5 : String := "Aislewright"
def TX5 : u_T := fun k => match k with
  | 0 => ("Aislewright", "warehouse", "LAislewright$Warehouse;", true)
  | 1 => ("Aislewright", "router", "LAislewright$Router;", true)
  | 2 => ("Aislewright", "wave", "LAislewright$Wave;", true)
  | 3 => ("Aislewright", "book", "Ljava/util/ArrayList;", true)
  | 4 => ("Aislewright", "capacity", "I", false)
  | 5 => ("Aislewright", "walked", "I", false)
  | _ => ("Aislewright", "walkedAlone", "I", false)
def tyX5 : Nat → FieldType := fun k => match k with
  | 0 => .object "Aislewright$Warehouse"
  | 1 => .object "Aislewright$Router"
  | 2 => .object "Aislewright$Wave"
  | 3 => .object "java/util/ArrayList"
  | 4 => .int
  | 5 => .int
  | _ => .int
abbrev wsX50 : List Cond := u_ws RX5 TX5 7
theorem nmX5 : ∀ a, a < 7 → ∀ b, b < 7 → a ≠ b → (TX5 a).2.1 ≠ (TX5 b).2.1 := by decide +kernel
theorem tyX5_ok : ∀ k, k < 7 → parseFieldDescriptor (TX5 k).2.2.1 = some (tyX5 k) := by decide +kernel
abbrev cX5_init : ByteArray := prog_1_method_1_code
def yX5_init : MethodName := ⟨RX5, "<init>", "(III)V"⟩
abbrev cX5_put : ByteArray := prog_1_method_2_code
def yX5_put : MethodName := ⟨RX5, "put", "(III)I"⟩
abbrev cX5_layOut : ByteArray := prog_1_method_3_code
def yX5_layOut : MethodName := ⟨RX5, "layOut", "()I"⟩
abbrev cX5_placeOf : ByteArray := prog_1_method_4_code
def yX5_placeOf : MethodName := ⟨RX5, "placeOf", "(I)I"⟩
abbrev cX5_turnover : ByteArray := prog_1_method_5_code
def yX5_turnover : MethodName := ⟨RX5, "turnover", "(I)I"⟩
abbrev cX5_distance : ByteArray := prog_1_method_6_code
def yX5_distance : MethodName := ⟨RX5, "distance", "(II)I"⟩
abbrev cX5_order : ByteArray := prog_1_method_7_code
def yX5_order : MethodName := ⟨RX5, "order", "(I)I"⟩
abbrev cX5_line : ByteArray := prog_1_method_8_code
def yX5_line : MethodName := ⟨RX5, "line", "(III)I"⟩
abbrev cX5_orders : ByteArray := prog_1_method_9_code
def yX5_orders : MethodName := ⟨RX5, "orders", "()I"⟩
abbrev cX5_stateOf : ByteArray := prog_1_method_10_code
def yX5_stateOf : MethodName := ⟨RX5, "stateOf", "(I)I"⟩
abbrev cX5_lengthAlone : ByteArray := prog_1_method_11_code
def yX5_lengthAlone : MethodName := ⟨RX5, "lengthAlone", "(I)I"⟩
abbrev cX5_setCapacity : ByteArray := prog_1_method_12_code
def yX5_setCapacity : MethodName := ⟨RX5, "setCapacity", "(I)I"⟩
abbrev cX5_planWave : ByteArray := prog_1_method_13_code
def yX5_planWave : MethodName := ⟨RX5, "planWave", "(I)I"⟩
abbrev cX5_pick : ByteArray := prog_1_method_14_code
def yX5_pick : MethodName := ⟨RX5, "pick", "(I)I"⟩
abbrev cX5_batches : ByteArray := prog_1_method_15_code
def yX5_batches : MethodName := ⟨RX5, "batches", "()I"⟩
abbrev cX5_batchOf : ByteArray := prog_1_method_16_code
def yX5_batchOf : MethodName := ⟨RX5, "batchOf", "(I)I"⟩
abbrev cX5_linesOf : ByteArray := prog_1_method_17_code
def yX5_linesOf : MethodName := ⟨RX5, "linesOf", "(I)I"⟩
abbrev cX5_lengthOf : ByteArray := prog_1_method_18_code
def yX5_lengthOf : MethodName := ⟨RX5, "lengthOf", "(I)I"⟩
abbrev cX5_lengthByTrying : ByteArray := prog_1_method_19_code
def yX5_lengthByTrying : MethodName := ⟨RX5, "lengthByTrying", "(I)I"⟩
abbrev cX5_lengthThrough : ByteArray := prog_1_method_20_code
def yX5_lengthThrough : MethodName := ⟨RX5, "lengthThrough", "(I)I"⟩
abbrev cX5_stops : ByteArray := prog_1_method_21_code
def yX5_stops : MethodName := ⟨RX5, "stops", "(I)I"⟩
abbrev cX5_stopAt : ByteArray := prog_1_method_22_code
def yX5_stopAt : MethodName := ⟨RX5, "stopAt", "(II)I"⟩
abbrev cX5_inAisle : ByteArray := prog_1_method_23_code
def yX5_inAisle : MethodName := ⟨RX5, "inAisle", "(I)I"⟩
abbrev cX5_walked : ByteArray := prog_1_method_24_code
def yX5_walked : MethodName := ⟨RX5, "walked", "()I"⟩
abbrev cX5_share : ByteArray := prog_1_method_25_code
def yX5_share : MethodName := ⟨RX5, "share", "()D"⟩
abbrev cX5_within : ByteArray := prog_1_method_26_code
def yX5_within : MethodName := ⟨RX5, "within", "(II)I"⟩
abbrev cX5_isIn : ByteArray := prog_1_method_27_code
def yX5_isIn : MethodName := ⟨RX5, "isIn", "(II)Z"⟩
abbrev cX5_checkProduct : ByteArray := prog_1_method_28_code
def yX5_checkProduct : MethodName := ⟨RX5, "checkProduct", "(I)V"⟩
abbrev cX5_checkTime : ByteArray := prog_1_method_29_code
def yX5_checkTime : MethodName := ⟨RX5, "checkTime", "(I)V"⟩
abbrev cX5_orderNumbered : ByteArray := prog_1_method_30_code
def yX5_orderNumbered : MethodName := ⟨RX5, "orderNumbered", "(I)LAislewright$Order;"⟩
abbrev cX5_batchNumbered : ByteArray := prog_1_method_31_code
def yX5_batchNumbered : MethodName := ⟨RX5, "batchNumbered", "(I)LAislewright$Batch;"⟩
abbrev cX5_takesLine : ByteArray := prog_1_method_32_code
def yX5_takesLine : MethodName := ⟨RX5, "takesLine", "(LAislewright$Order;)Z"⟩
abbrev cX5_mostLinesToDo : ByteArray := prog_1_method_33_code
def yX5_mostLinesToDo : MethodName := ⟨RX5, "mostLinesToDo", "()I"⟩
abbrev cX5_takesAnyOrder : ByteArray := prog_1_method_34_code
def yX5_takesAnyOrder : MethodName := ⟨RX5, "takesAnyOrder", "(I)Z"⟩
abbrev cX5_finish : ByteArray := prog_1_method_35_code
def yX5_finish : MethodName := ⟨RX5, "finish", "(LAislewright$Order;)V"⟩
def RX6 : String := "AislewrightModel"
def TX6 : u_T := fun k => match k with
  | _ => ("", "", "", false)
def tyX6 : Nat → FieldType := fun k => match k with
  | _ => .int
abbrev wsX60 : List Cond := u_ws RX6 TX6 0
theorem nmX6 : ∀ a, a < 0 → ∀ b, b < 0 → a ≠ b → (TX6 a).2.1 ≠ (TX6 b).2.1 := by decide +kernel
theorem tyX6_ok : ∀ k, k < 0 → parseFieldDescriptor (TX6 k).2.2.1 = some (tyX6 k) := by decide +kernel
def RJx145de : String := "java/io/Serializable"
def TJx145de : u_T := fun k => match k with
  | _ => ("", "", "", false)
def tyJx145de : Nat → FieldType := fun k => match k with
  | _ => .int
abbrev wsJx145de0 : List Cond := u_ws RJx145de TJx145de 0
theorem nmJx145de : ∀ a, a < 0 → ∀ b, b < 0 → a ≠ b → (TJx145de a).2.1 ≠ (TJx145de b).2.1 := by decide +kernel
theorem tyJx145de_ok : ∀ k, k < 0 → parseFieldDescriptor (TJx145de k).2.2.1 = some (tyJx145de k) := by decide +kernel
def RJx8e188 : String := "java/lang/Cloneable"
def TJx8e188 : u_T := fun k => match k with
  | _ => ("", "", "", false)
def tyJx8e188 : Nat → FieldType := fun k => match k with
  | _ => .int
abbrev wsJx8e1880 : List Cond := u_ws RJx8e188 TJx8e188 0
theorem nmJx8e188 : ∀ a, a < 0 → ∀ b, b < 0 → a ≠ b → (TJx8e188 a).2.1 ≠ (TJx8e188 b).2.1 := by decide +kernel
theorem tyJx8e188_ok : ∀ k, k < 0 → parseFieldDescriptor (TJx8e188 k).2.2.1 = some (tyJx8e188 k) := by decide +kernel
def RJ6 : String := "java/lang/Integer"
def TJ6 : u_T := fun k => match k with
  | _ => ("", "", "", false)
def tyJ6 : Nat → FieldType := fun k => match k with
  | _ => .int
abbrev wsJ60 : List Cond := u_ws RJ6 TJ6 0
theorem nmJ6 : ∀ a, a < 0 → ∀ b, b < 0 → a ≠ b → (TJ6 a).2.1 ≠ (TJ6 b).2.1 := by decide +kernel
theorem tyJ6_ok : ∀ k, k < 0 → parseFieldDescriptor (TJ6 k).2.2.1 = some (tyJ6 k) := by decide +kernel
abbrev cJ6_bitCount_0f7a4 : ByteArray := prog_15_method_49_code
def yJ6_bitCount_0f7a4 : MethodName := ⟨RJ6, "bitCount", "(I)I"⟩
def RJxab1ab : String := "java/lang/Iterable"
def TJxab1ab : u_T := fun k => match k with
  | _ => ("", "", "", false)
def tyJxab1ab : Nat → FieldType := fun k => match k with
  | _ => .int
abbrev wsJxab1ab0 : List Cond := u_ws RJxab1ab TJxab1ab 0
theorem nmJxab1ab : ∀ a, a < 0 → ∀ b, b < 0 → a ≠ b → (TJxab1ab a).2.1 ≠ (TJxab1ab b).2.1 := by decide +kernel
theorem tyJxab1ab_ok : ∀ k, k < 0 → parseFieldDescriptor (TJxab1ab k).2.2.1 = some (tyJxab1ab k) := by decide +kernel
def RJ9 : String := "java/lang/Math"
def TJ9 : u_T := fun k => match k with
  | _ => ("", "", "", false)
def tyJ9 : Nat → FieldType := fun k => match k with
  | _ => .int
abbrev wsJ90 : List Cond := u_ws RJ9 TJ9 0
theorem nmJ9 : ∀ a, a < 0 → ∀ b, b < 0 → a ≠ b → (TJ9 a).2.1 ≠ (TJ9 b).2.1 := by decide +kernel
theorem tyJ9_ok : ∀ k, k < 0 → parseFieldDescriptor (TJ9 k).2.2.1 = some (tyJ9 k) := by decide +kernel
abbrev cJ9_abs_0f7a4 : ByteArray := prog_17_method_59_code
def yJ9_abs_0f7a4 : MethodName := ⟨RJ9, "abs", "(I)I"⟩
abbrev cJ9_max_7cf53 : ByteArray := prog_17_method_65_code
def yJ9_max_7cf53 : MethodName := ⟨RJ9, "max", "(II)I"⟩
abbrev cJ9_min_7cf53 : ByteArray := prog_17_method_69_code
def yJ9_min_7cf53 : MethodName := ⟨RJ9, "min", "(II)I"⟩
def RJ0 : String := "java/lang/String"
def TJ0 : u_T := fun k => match k with
  | _ => ("", "", "", false)
def tyJ0 : Nat → FieldType := fun k => match k with
  | _ => .int
abbrev wsJ00 : List Cond := u_ws RJ0 TJ0 0
theorem nmJ0 : ∀ a, a < 0 → ∀ b, b < 0 → a ≠ b → (TJ0 a).2.1 ≠ (TJ0 b).2.1 := by decide +kernel
theorem tyJ0_ok : ∀ k, k < 0 → parseFieldDescriptor (TJ0 k).2.2.1 = some (tyJ0 k) := by decide +kernel
def RJ10 : String := "java/lang/System"
def TJ10 : u_T := fun k => match k with
  | _ => ("", "", "", false)
def tyJ10 : Nat → FieldType := fun k => match k with
  | _ => .int
abbrev wsJ100 : List Cond := u_ws RJ10 TJ10 0
theorem nmJ10 : ∀ a, a < 0 → ∀ b, b < 0 → a ≠ b → (TJ10 a).2.1 ≠ (TJ10 b).2.1 := by decide +kernel
theorem tyJ10_ok : ∀ k, k < 0 → parseFieldDescriptor (TJ10 k).2.2.1 = some (tyJ10 k) := by decide +kernel
def RJxa1e45 : String := "java/util/AbstractCollection"
def TJxa1e45 : u_T := fun k => match k with
  | _ => ("", "", "", false)
def tyJxa1e45 : Nat → FieldType := fun k => match k with
  | _ => .int
abbrev wsJxa1e450 : List Cond := u_ws RJxa1e45 TJxa1e45 0
theorem nmJxa1e45 : ∀ a, a < 0 → ∀ b, b < 0 → a ≠ b → (TJxa1e45 a).2.1 ≠ (TJxa1e45 b).2.1 := by decide +kernel
theorem tyJxa1e45_ok : ∀ k, k < 0 → parseFieldDescriptor (TJxa1e45 k).2.2.1 = some (tyJxa1e45 k) := by decide +kernel
abbrev cJxa1e45_init_da8c8 : ByteArray := prog_22_method_1_code
def yJxa1e45_init_da8c8 : MethodName := ⟨RJxa1e45, "<init>", "()V"⟩
def RJxc12de : String := "java/util/AbstractList"
def TJxc12de : u_T := fun k => match k with
  | _ => ("", "", "", false)
def tyJxc12de : Nat → FieldType := fun k => match k with
  | _ => .int
abbrev wsJxc12de0 : List Cond := u_ws RJxc12de TJxc12de 0
theorem nmJxc12de : ∀ a, a < 0 → ∀ b, b < 0 → a ≠ b → (TJxc12de a).2.1 ≠ (TJxc12de b).2.1 := by decide +kernel
theorem tyJxc12de_ok : ∀ k, k < 0 → parseFieldDescriptor (TJxc12de k).2.2.1 = some (tyJxc12de k) := by decide +kernel
abbrev cJxc12de_init_da8c8 : ByteArray := prog_23_method_1_code
def yJxc12de_init_da8c8 : MethodName := ⟨RJxc12de, "<init>", "()V"⟩
def RJx4a65c : String := "java/util/ArrayList"
def TJx4a65c : u_T := fun k => match k with
  | 0 => ("java/util/AbstractList", "modCount", "I", false)
  | 1 => ("java/util/ArrayList", "elementData", "[Ljava/lang/Object;", false)
  | _ => ("java/util/ArrayList", "size", "I", false)
def tyJx4a65c : Nat → FieldType := fun k => match k with
  | 0 => .int
  | 1 => .array (.object "java/lang/Object")
  | _ => .int
abbrev wsJx4a65c0 : List Cond := u_ws RJx4a65c TJx4a65c 3
theorem nmJx4a65c : ∀ a, a < 3 → ∀ b, b < 3 → a ≠ b → (TJx4a65c a).2.1 ≠ (TJx4a65c b).2.1 := by decide +kernel
theorem tyJx4a65c_ok : ∀ k, k < 3 → parseFieldDescriptor (TJx4a65c k).2.2.1 = some (tyJx4a65c k) := by decide +kernel
abbrev cJx4a65c_init_da8c8 : ByteArray := prog_24_method_2_code
def yJx4a65c_init_da8c8 : MethodName := ⟨RJx4a65c, "<init>", "()V"⟩
abbrev cJx4a65c_grow_92f84 : ByteArray := prog_24_method_6_code
def yJx4a65c_grow_92f84 : MethodName := ⟨RJx4a65c, "grow", "(I)[Ljava/lang/Object;"⟩
abbrev cJx4a65c_grow_d5877 : ByteArray := prog_24_method_7_code
def yJx4a65c_grow_d5877 : MethodName := ⟨RJx4a65c, "grow", "()[Ljava/lang/Object;"⟩
abbrev cJx4a65c_size_8abf5 : ByteArray := prog_24_method_8_code
def yJx4a65c_size_8abf5 : MethodName := ⟨RJx4a65c, "size", "()I"⟩
abbrev cJx4a65c_isEmpty_aae02 : ByteArray := prog_24_method_9_code
def yJx4a65c_isEmpty_aae02 : MethodName := ⟨RJx4a65c, "isEmpty", "()Z"⟩
abbrev cJx4a65c_elementData_915e3 : ByteArray := prog_24_method_18_code
def yJx4a65c_elementData_915e3 : MethodName := ⟨RJx4a65c, "elementData", "(I)Ljava/lang/Object;"⟩
abbrev cJx4a65c_get_915e3 : ByteArray := prog_24_method_20_code
def yJx4a65c_get_915e3 : MethodName := ⟨RJx4a65c, "get", "(I)Ljava/lang/Object;"⟩
abbrev cJx4a65c_add_72be8 : ByteArray := prog_24_method_24_code
def yJx4a65c_add_72be8 : MethodName := ⟨RJx4a65c, "add", "(Ljava/lang/Object;[Ljava/lang/Object;I)V"⟩
abbrev cJx4a65c_add_9ea2d : ByteArray := prog_24_method_25_code
def yJx4a65c_add_9ea2d : MethodName := ⟨RJx4a65c, "add", "(Ljava/lang/Object;)Z"⟩
abbrev cJx4a65c_remove_915e3 : ByteArray := prog_24_method_29_code
def yJx4a65c_remove_915e3 : MethodName := ⟨RJx4a65c, "remove", "(I)Ljava/lang/Object;"⟩
abbrev cJx4a65c_fastRemove_b59b0 : ByteArray := prog_24_method_39_code
def yJx4a65c_fastRemove_b59b0 : MethodName := ⟨RJx4a65c, "fastRemove", "([Ljava/lang/Object;I)V"⟩
def RJ7 : String := "java/util/Arrays"
def TJ7 : u_T := fun k => match k with
  | _ => ("", "", "", false)
def tyJ7 : Nat → FieldType := fun k => match k with
  | _ => .int
abbrev wsJ70 : List Cond := u_ws RJ7 TJ7 0
theorem nmJ7 : ∀ a, a < 0 → ∀ b, b < 0 → a ≠ b → (TJ7 a).2.1 ≠ (TJ7 b).2.1 := by decide +kernel
theorem tyJ7_ok : ∀ k, k < 0 → parseFieldDescriptor (TJ7 k).2.2.1 = some (tyJ7 k) := by decide +kernel
abbrev cJ7_copyOf_1904c : ByteArray := prog_25_method_119_code
def yJ7_copyOf_1904c : MethodName := ⟨RJ7, "copyOf", "([Ljava/lang/Object;I)[Ljava/lang/Object;"⟩
abbrev cJ7_copyOf_6403c : ByteArray := prog_25_method_120_code
def yJ7_copyOf_6403c : MethodName := ⟨RJ7, "copyOf", "([Ljava/lang/Object;ILjava/lang/Class;)[Ljava/lang/Object;"⟩
def RJx5ef63 : String := "java/util/Collection"
def TJx5ef63 : u_T := fun k => match k with
  | _ => ("", "", "", false)
def tyJx5ef63 : Nat → FieldType := fun k => match k with
  | _ => .int
abbrev wsJx5ef630 : List Cond := u_ws RJx5ef63 TJx5ef63 0
theorem nmJx5ef63 : ∀ a, a < 0 → ∀ b, b < 0 → a ≠ b → (TJx5ef63 a).2.1 ≠ (TJx5ef63 b).2.1 := by decide +kernel
theorem tyJx5ef63_ok : ∀ k, k < 0 → parseFieldDescriptor (TJx5ef63 k).2.2.1 = some (tyJx5ef63 k) := by decide +kernel
def RJxbd725 : String := "java/util/List"
def TJxbd725 : u_T := fun k => match k with
  | _ => ("", "", "", false)
def tyJxbd725 : Nat → FieldType := fun k => match k with
  | _ => .int
abbrev wsJxbd7250 : List Cond := u_ws RJxbd725 TJxbd725 0
theorem nmJxbd725 : ∀ a, a < 0 → ∀ b, b < 0 → a ≠ b → (TJxbd725 a).2.1 ≠ (TJxbd725 b).2.1 := by decide +kernel
theorem tyJxbd725_ok : ∀ k, k < 0 → parseFieldDescriptor (TJxbd725 k).2.2.1 = some (tyJxbd725 k) := by decide +kernel
def RJ15 : String := "java/util/Objects"
def TJ15 : u_T := fun k => match k with
  | _ => ("", "", "", false)
def tyJ15 : Nat → FieldType := fun k => match k with
  | _ => .int
abbrev wsJ150 : List Cond := u_ws RJ15 TJ15 0
theorem nmJ15 : ∀ a, a < 0 → ∀ b, b < 0 → a ≠ b → (TJ15 a).2.1 ≠ (TJ15 b).2.1 := by decide +kernel
theorem tyJ15_ok : ∀ k, k < 0 → parseFieldDescriptor (TJ15 k).2.2.1 = some (tyJ15 k) := by decide +kernel
abbrev cJ15_checkIndex_7cf53 : ByteArray := prog_28_method_17_code
def yJ15_checkIndex_7cf53 : MethodName := ⟨RJ15, "checkIndex", "(II)I"⟩
def RJxf0a74 : String := "java/util/RandomAccess"
def TJxf0a74 : u_T := fun k => match k with
  | _ => ("", "", "", false)
def tyJxf0a74 : Nat → FieldType := fun k => match k with
  | _ => .int
abbrev wsJxf0a740 : List Cond := u_ws RJxf0a74 TJxf0a74 0
theorem nmJxf0a74 : ∀ a, a < 0 → ∀ b, b < 0 → a ≠ b → (TJxf0a74 a).2.1 ≠ (TJxf0a74 b).2.1 := by decide +kernel
theorem tyJxf0a74_ok : ∀ k, k < 0 → parseFieldDescriptor (TJxf0a74 k).2.2.1 = some (tyJxf0a74 k) := by decide +kernel
def RJxa66e6 : String := "java/util/SequencedCollection"
def TJxa66e6 : u_T := fun k => match k with
  | _ => ("", "", "", false)
def tyJxa66e6 : Nat → FieldType := fun k => match k with
  | _ => .int
abbrev wsJxa66e60 : List Cond := u_ws RJxa66e6 TJxa66e6 0
theorem nmJxa66e6 : ∀ a, a < 0 → ∀ b, b < 0 → a ≠ b → (TJxa66e6 a).2.1 ≠ (TJxa66e6 b).2.1 := by decide +kernel
theorem tyJxa66e6_ok : ∀ k, k < 0 → parseFieldDescriptor (TJxa66e6 k).2.2.1 = some (tyJxa66e6 k) := by decide +kernel
def RJ8 : String := "jdk/internal/util/ArraysSupport"
def TJ8 : u_T := fun k => match k with
  | _ => ("", "", "", false)
def tyJ8 : Nat → FieldType := fun k => match k with
  | _ => .int
abbrev wsJ80 : List Cond := u_ws RJ8 TJ8 0
theorem nmJ8 : ∀ a, a < 0 → ∀ b, b < 0 → a ≠ b → (TJ8 a).2.1 ≠ (TJ8 b).2.1 := by decide +kernel
theorem tyJ8_ok : ∀ k, k < 0 → parseFieldDescriptor (TJ8 k).2.2.1 = some (tyJ8 k) := by decide +kernel
abbrev cJ8_newLength_cabcc : ByteArray := prog_31_method_27_code
def yJ8_newLength_cabcc : MethodName := ⟨RJ8, "newLength", "(III)I"⟩
abbrev cJ8_hugeLength_7cf53 : ByteArray := prog_31_method_28_code
def yJ8_hugeLength_7cf53 : MethodName := ⟨RJ8, "hugeLength", "(II)I"⟩
def RJ3 : String := "jdk/internal/util/Preconditions"
def TJ3 : u_T := fun k => match k with
  | _ => ("", "", "", false)
def tyJ3 : Nat → FieldType := fun k => match k with
  | _ => .int
abbrev wsJ30 : List Cond := u_ws RJ3 TJ3 0
theorem nmJ3 : ∀ a, a < 0 → ∀ b, b < 0 → a ≠ b → (TJ3 a).2.1 ≠ (TJ3 b).2.1 := by decide +kernel
theorem tyJ3_ok : ∀ k, k < 0 → parseFieldDescriptor (TJ3 k).2.2.1 = some (tyJ3 k) := by decide +kernel
abbrev cJ3_checkIndex_8e157 : ByteArray := prog_32_method_11_code
def yJ3_checkIndex_8e157 : MethodName := ⟨RJ3, "checkIndex", "(IILjava/util/function/BiFunction;)I"⟩
def RL : String := "AislewrightLaw"
abbrev cL_cell : ByteArray := method_2_code
def yL_cell : MethodName := ⟨RL, "cell", "([II)I"⟩
abbrev cL_low : ByteArray := method_3_code
def yL_low : MethodName := ⟨RL, "low", "(II)I"⟩
abbrev cL_calls : ByteArray := method_4_code
def yL_calls : MethodName := ⟨RL, "calls", "(LAislewright;IIII)I"⟩
abbrev cL_way : ByteArray := method_5_code
def yL_way : MethodName := ⟨RL, "way", "(II[I)I"⟩
abbrev cL_wanted : ByteArray := method_6_code
def yL_wanted : MethodName := ⟨RL, "wanted", "(I[I[I)I"⟩
abbrev cL_products : ByteArray := method_7_code
def yL_products : MethodName := ⟨RL, "products", "(I[I[I[I)I"⟩
abbrev cL_lines : ByteArray := method_8_code
def yL_lines : MethodName := ⟨RL, "lines", "(I[I[I)I"⟩
abbrev cL_route : ByteArray := method_9_code
def yL_route : MethodName := ⟨RL, "route", "(I[I[I[I[I)I"⟩
abbrev cL_next : ByteArray := method_10_code
def yL_next : MethodName := ⟨RL, "next", "([II)Z"⟩
abbrev cL_through : ByteArray := method_11_code
def yL_through : MethodName := ⟨RL, "through", "(I[I[I)I"⟩
abbrev cL_plans : ByteArray := method_12_code
def yL_plans : MethodName := ⟨RL, "plans", "(I[I[I[I[I[I[I)V"⟩
abbrev cL_picks : ByteArray := method_13_code
def yL_picks : MethodName := ⟨RL, "picks", "(I[I[I[I[I[I[I[I[I)I"⟩
abbrev cL_laysOut : ByteArray := method_14_code
def yL_laysOut : MethodName := ⟨RL, "laysOut", "([I[I[I[I)I"⟩
abbrev cL_isBatch : ByteArray := method_15_code
def yL_isBatch : MethodName := ⟨RL, "isBatch", "(LAislewright;I[I[I[I[I[I[I)Z"⟩
abbrev cL_isSo : ByteArray := method_16_code
def yL_isSo : MethodName := ⟨RL, "isSo", "(LAislewright;I[I[I[I[I[I[I[I)Z"⟩
abbrev cL_law : ByteArray := code
def yL_law : MethodName := ⟨RL, "law", "([I)Z"⟩
abbrev vwCl : List vw_C := [(RJx4a65c, TJx4a65c, 3), (RX0, TX0, 6), (RX1, TX1, 4), (RX2, TX2, 5), (RX3, TX3, 7), (RX4, TX4, 3), (RX5, TX5, 7)]
