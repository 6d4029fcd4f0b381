def RX0 : String := "WoodenMains$DaySearch"
def TX0 : u_T := fun k => match k with
  | 0 => ("WoodenMains$DaySearch", "needs", "[I", true)
  | 1 => ("WoodenMains$DaySearch", "trialDays", "[I", true)
  | 2 => ("WoodenMains$DaySearch", "bestDays", "[I", true)
  | 3 => ("WoodenMains$DaySearch", "loads", "[I", true)
  | 4 => ("WoodenMains$DaySearch", "told", "I", false)
  | 5 => ("WoodenMains$DaySearch", "sum", "I", false)
  | 6 => ("WoodenMains$DaySearch", "bestGreatest", "I", false)
  | _ => ("WoodenMains$DaySearch", "bestLack", "I", false)
def tyX0 : Nat → FieldType := fun k => match k with
  | 0 => .array .int
  | 1 => .array .int
  | 2 => .array .int
  | 3 => .array .int
  | 4 => .int
  | 5 => .int
  | 6 => .int
  | _ => .int
abbrev wsX00 : List Cond := u_ws RX0 TX0 8
theorem nmX0 : ∀ a, a < 8 → ∀ b, b < 8 → a ≠ b → (TX0 a).2.1 ≠ (TX0 b).2.1 := by decide +kernel
theorem tyX0_ok : ∀ k, k < 8 → parseFieldDescriptor (TX0 k).2.2.1 = some (tyX0 k) := by decide +kernel
abbrev cX0_init : ByteArray := prog_2_method_1_code
def yX0_init : MethodName := ⟨RX0, "<init>", "()V"⟩
abbrev cX0_begin : ByteArray := prog_2_method_2_code
def yX0_begin : MethodName := ⟨RX0, "begin", "(I)V"⟩
abbrev cX0_tell : ByteArray := prog_2_method_3_code
def yX0_tell : MethodName := ⟨RX0, "tell", "(I)V"⟩
abbrev cX0_bestDay : ByteArray := prog_2_method_4_code
def yX0_bestDay : MethodName := ⟨RX0, "bestDay", "(I)I"⟩
abbrev cX0_search : ByteArray := prog_2_method_5_code
def yX0_search : MethodName := ⟨RX0, "search", "()V"⟩
abbrev cX0_tryFrom : ByteArray := prog_2_method_6_code
def yX0_tryFrom : MethodName := ⟨RX0, "tryFrom", "(II)V"⟩
abbrev cX0_weigh : ByteArray := prog_2_method_7_code
def yX0_weigh : MethodName := ⟨RX0, "weigh", "()V"⟩
def RX1 : String := "WoodenMains$House"
def TX1 : u_T := fun k => match k with
  | 0 => ("WoodenMains$House", "street", "I", true)
  | 1 => ("WoodenMains$House", "cistern", "I", true)
  | 2 => ("WoodenMains$House", "floor", "I", true)
  | 3 => ("WoodenMains$House", "useAsTold", "I", true)
  | 4 => ("WoodenMains$House", "ball", "Z", true)
  | 5 => ("WoodenMains$House", "leadingRow", "I", false)
  | 6 => ("WoodenMains$House", "water", "I", false)
  | 7 => ("WoodenMains$House", "timesDry", "I", false)
  | _ => ("WoodenMains$House", "nextServed", "LWoodenMains$House;", false)
def tyX1 : Nat → FieldType := fun k => match k with
  | 0 => .int
  | 1 => .int
  | 2 => .int
  | 3 => .int
  | 4 => .boolean
  | 5 => .int
  | 6 => .int
  | 7 => .int
  | _ => .object "WoodenMains$House"
abbrev wsX10 : List Cond := u_ws RX1 TX1 9
theorem nmX1 : ∀ a, a < 9 → ∀ b, b < 9 → a ≠ b → (TX1 a).2.1 ≠ (TX1 b).2.1 := by decide +kernel
theorem tyX1_ok : ∀ k, k < 9 → parseFieldDescriptor (TX1 k).2.2.1 = some (tyX1 k) := by decide +kernel
abbrev cX1_init : ByteArray := prog_3_method_1_code
def yX1_init : MethodName := ⟨RX1, "<init>", "(IIIIZ)V"⟩
abbrev cX1_roomInCistern : ByteArray := prog_3_method_2_code
def yX1_roomInCistern : MethodName := ⟨RX1, "roomInCistern", "()I"⟩
abbrev cX1_takeFrom : ByteArray := prog_3_method_3_code
def yX1_takeFrom : MethodName := ⟨RX1, "takeFrom", "(ILWoodenMains$Tally;)I"⟩
abbrev cX1_use : ByteArray := prog_3_method_4_code
def yX1_use : MethodName := ⟨RX1, "use", "(I)V"⟩
def RX2 : String := "WoodenMains$IronSearch"
def TX2 : u_T := fun k => match k with
  | 0 => ("WoodenMains$IronSearch", "costs", "[I", true)
  | _ => ("WoodenMains$IronSearch", "worths", "[I", true)
def tyX2 : Nat → FieldType := fun k => match k with
  | 0 => .array .int
  | _ => .array .int
abbrev wsX20 : List Cond := u_ws RX2 TX2 2
theorem nmX2 : ∀ a, a < 2 → ∀ b, b < 2 → a ≠ b → (TX2 a).2.1 ≠ (TX2 b).2.1 := by decide +kernel
theorem tyX2_ok : ∀ k, k < 2 → parseFieldDescriptor (TX2 k).2.2.1 = some (tyX2 k) := by decide +kernel
abbrev cX2_init : ByteArray := prog_4_method_1_code
def yX2_init : MethodName := ⟨RX2, "<init>", "()V"⟩
abbrev cX2_tell : ByteArray := prog_4_method_2_code
def yX2_tell : MethodName := ⟨RX2, "tell", "(III)V"⟩
abbrev cX2_worthOf : ByteArray := prog_4_method_3_code
def yX2_worthOf : MethodName := ⟨RX2, "worthOf", "(I)I"⟩
abbrev cX2_bestSet : ByteArray := prog_4_method_4_code
def yX2_bestSet : MethodName := ⟨RX2, "bestSet", "(II)I"⟩
abbrev cX2_isBetter : ByteArray := prog_4_method_5_code
def yX2_isBetter : MethodName := ⟨RX2, "isBetter", "(II)Z"⟩
def RX3 : String := "WoodenMains$Law"
def TX3 : u_T := fun k => match k with
  | 0 => ("WoodenMains$Law", "forHouse", "I", true)
  | 1 => ("WoodenMains$Law", "forFloor", "I", true)
  | 2 => ("WoodenMains$Law", "forTen", "I", true)
  | _ => ("WoodenMains$Law", "day", "I", true)
def tyX3 : Nat → FieldType := fun k => match k with
  | 0 => .int
  | 1 => .int
  | 2 => .int
  | _ => .int
abbrev wsX30 : List Cond := u_ws RX3 TX3 4
theorem nmX3 : ∀ a, a < 4 → ∀ b, b < 4 → a ≠ b → (TX3 a).2.1 ≠ (TX3 b).2.1 := by decide +kernel
theorem tyX3_ok : ∀ k, k < 4 → parseFieldDescriptor (TX3 k).2.2.1 = some (tyX3 k) := by decide +kernel
abbrev cX3_init : ByteArray := prog_5_method_1_code
def yX3_init : MethodName := ⟨RX3, "<init>", "(IIII)V"⟩
abbrev cX3_rateFor : ByteArray := prog_5_method_2_code
def yX3_rateFor : MethodName := ⟨RX3, "rateFor", "(LWoodenMains$House;)I"⟩
def RX4 : String := "WoodenMains$Row"
def TX4 : u_T := fun k => match k with
  | 0 => ("WoodenMains$Row", "numbers", "[I", true)
  | _ => ("WoodenMains$Row", "length", "I", false)
def tyX4 : Nat → FieldType := fun k => match k with
  | 0 => .array .int
  | _ => .int
abbrev wsX40 : List Cond := u_ws RX4 TX4 2
theorem nmX4 : ∀ a, a < 2 → ∀ b, b < 2 → a ≠ b → (TX4 a).2.1 ≠ (TX4 b).2.1 := by decide +kernel
theorem tyX4_ok : ∀ k, k < 2 → parseFieldDescriptor (TX4 k).2.2.1 = some (tyX4 k) := by decide +kernel
abbrev cX4_init : ByteArray := prog_6_method_1_code
def yX4_init : MethodName := ⟨RX4, "<init>", "()V"⟩
abbrev cX4_isMissing : ByteArray := prog_6_method_2_code
def yX4_isMissing : MethodName := ⟨RX4, "isMissing", "()Z"⟩
abbrev cX4_forget : ByteArray := prog_6_method_3_code
def yX4_forget : MethodName := ⟨RX4, "forget", "()V"⟩
abbrev cX4_makeAnew : ByteArray := prog_6_method_4_code
def yX4_makeAnew : MethodName := ⟨RX4, "makeAnew", "(I)V"⟩
abbrev cX4_hasPlaces : ByteArray := prog_6_method_5_code
def yX4_hasPlaces : MethodName := ⟨RX4, "hasPlaces", "(II)Z"⟩
def RX5 : String := "WoodenMains$Street"
def TX5 : u_T := fun k => match k with
  | 0 => ("WoodenMains$Street", "ahead", "I", true)
  | 1 => ("WoodenMains$Street", "length", "I", true)
  | 2 => ("WoodenMains$Street", "weekLaid", "I", false)
  | 3 => ("WoodenMains$Street", "ofIron", "Z", false)
  | 4 => ("WoodenMains$Street", "atEnd", "I", false)
  | 5 => ("WoodenMains$Street", "tunSize", "I", false)
  | 6 => ("WoodenMains$Street", "tunWater", "I", false)
  | 7 => ("WoodenMains$Street", "plugDrawn", "Z", false)
  | 8 => ("WoodenMains$Street", "leastLeak", "I", false)
  | 9 => ("WoodenMains$Street", "greatestLeak", "I", false)
  | _ => ("WoodenMains$Street", "firstServed", "LWoodenMains$House;", false)
def tyX5 : Nat → FieldType := fun k => match k with
  | 0 => .int
  | 1 => .int
  | 2 => .int
  | 3 => .boolean
  | 4 => .int
  | 5 => .int
  | 6 => .int
  | 7 => .boolean
  | 8 => .int
  | 9 => .int
  | _ => .object "WoodenMains$House"
abbrev wsX50 : List Cond := u_ws RX5 TX5 11
theorem nmX5 : ∀ a, a < 11 → ∀ b, b < 11 → a ≠ b → (TX5 a).2.1 ≠ (TX5 b).2.1 := by decide +kernel
theorem tyX5_ok : ∀ k, k < 11 → parseFieldDescriptor (TX5 k).2.2.1 = some (tyX5 k) := by decide +kernel
abbrev cX5_init : ByteArray := prog_7_method_1_code
def yX5_init : MethodName := ⟨RX5, "<init>", "(III)V"⟩
abbrev cX5_dripIn : ByteArray := prog_7_method_2_code
def yX5_dripIn : MethodName := ⟨RX5, "dripIn", "(I)I"⟩
abbrev cX5_layAnew : ByteArray := prog_7_method_3_code
def yX5_layAnew : MethodName := ⟨RX5, "layAnew", "(I)I"⟩
abbrev cX5_setAtEnd : ByteArray := prog_7_method_4_code
def yX5_setAtEnd : MethodName := ⟨RX5, "setAtEnd", "(II)V"⟩
abbrev cX5_hemIn : ByteArray := prog_7_method_5_code
def yX5_hemIn : MethodName := ⟨RX5, "hemIn", "(II)V"⟩
abbrev cX5_admit : ByteArray := prog_7_method_6_code
def yX5_admit : MethodName := ⟨RX5, "\x61dmit", "(LWoodenMains$House;)V"⟩
abbrev cX5_takeFrom : ByteArray := prog_7_method_7_code
def yX5_takeFrom : MethodName := ⟨RX5, "takeFrom", "(ILWoodenMains$Tally;)I"⟩
abbrev cX5_takeByPlug : ByteArray := prog_7_method_8_code
def yX5_takeByPlug : MethodName := ⟨RX5, "takeByPlug", "(ILWoodenMains$Tally;)I"⟩
abbrev cX5_takeByTun : ByteArray := prog_7_method_9_code
def yX5_takeByTun : MethodName := ⟨RX5, "takeByTun", "(ILWoodenMains$Tally;)I"⟩
abbrev cX5_roomNow : ByteArray := prog_7_method_10_code
def yX5_roomNow : MethodName := ⟨RX5, "roomNow", "()I"⟩
def RX6 : String := "WoodenMains$Tally"
def TX6 : u_T := fun k => match k with
  | 0 => ("WoodenMains$Tally", "leaked", "I", false)
  | 1 => ("WoodenMains$Tally", "drawn", "I", false)
  | 2 => ("WoodenMains$Tally", "wasted", "I", false)
  | 3 => ("WoodenMains$Tally", "spilled", "I", false)
  | 4 => ("WoodenMains$Tally", "tunsTook", "I", false)
  | _ => ("WoodenMains$Tally", "hoursWorked", "I", false)
def tyX6 : Nat → FieldType := fun k => match k with
  | 0 => .int
  | 1 => .int
  | 2 => .int
  | 3 => .int
  | 4 => .int
  | _ => .int
abbrev wsX60 : List Cond := u_ws RX6 TX6 6
theorem nmX6 : ∀ a, a < 6 → ∀ b, b < 6 → a ≠ b → (TX6 a).2.1 ≠ (TX6 b).2.1 := by decide +kernel
theorem tyX6_ok : ∀ k, k < 6 → parseFieldDescriptor (TX6 k).2.2.1 = some (tyX6 k) := by decide +kernel
abbrev cX6_init : ByteArray := prog_8_method_1_code
def yX6_init : MethodName := ⟨RX6, "<init>", "()V"⟩
def RX7 : String := "WoodenMains$Turn"
def TX7 : u_T := fun k => match k with
  | 0 => ("WoodenMains$Turn", "street", "I", true)
  | 1 => ("WoodenMains$Turn", "cock", "I", true)
  | 2 => ("WoodenMains$Turn", "firstHour", "I", true)
  | _ => ("WoodenMains$Turn", "hoursLong", "I", true)
def tyX7 : Nat → FieldType := fun k => match k with
  | 0 => .int
  | 1 => .int
  | 2 => .int
  | _ => .int
abbrev wsX70 : List Cond := u_ws RX7 TX7 4
theorem nmX7 : ∀ a, a < 4 → ∀ b, b < 4 → a ≠ b → (TX7 a).2.1 ≠ (TX7 b).2.1 := by decide +kernel
theorem tyX7_ok : ∀ k, k < 4 → parseFieldDescriptor (TX7 k).2.2.1 = some (tyX7 k) := by decide +kernel
abbrev cX7_init : ByteArray := prog_9_method_1_code
def yX7_init : MethodName := ⟨RX7, "<init>", "(IIII)V"⟩
abbrev cX7_hoursUntil : ByteArray := prog_9_method_2_code
def yX7_hoursUntil : MethodName := ⟨RX7, "hoursUntil", "(LWoodenMains$Turn;)I"⟩
abbrev cX7_sharesHourWith : ByteArray := prog_9_method_3_code
def yX7_sharesHourWith : MethodName := ⟨RX7, "sharesHourWith", "(LWoodenMains$Turn;)Z"⟩
def RX8 : String := "WoodenMains$Week"
def TX8 : u_T := fun k => match k with
  | 0 => ("WoodenMains$Week", "let", "[I", true)
  | _ => ("WoodenMains$Week", "open", "[I", true)
def tyX8 : Nat → FieldType := fun k => match k with
  | 0 => .array .int
  | _ => .array .int
abbrev wsX80 : List Cond := u_ws RX8 TX8 2
theorem nmX8 : ∀ a, a < 2 → ∀ b, b < 2 → a ≠ b → (TX8 a).2.1 ≠ (TX8 b).2.1 := by decide +kernel
theorem tyX8_ok : ∀ k, k < 2 → parseFieldDescriptor (TX8 k).2.2.1 = some (tyX8 k) := by decide +kernel
abbrev cX8_init : ByteArray := prog_10_method_1_code
def yX8_init : MethodName := ⟨RX8, "<init>", "()V"⟩
abbrev cX8_letStreets : ByteArray := prog_10_method_2_code
def yX8_letStreets : MethodName := ⟨RX8, "letStreets", "(I)I"⟩
abbrev cX8_openStreets : ByteArray := prog_10_method_3_code
def yX8_openStreets : MethodName := ⟨RX8, "openStreets", "(I)I"⟩
abbrev cX8_hoursOpen : ByteArray := prog_10_method_4_code
def yX8_hoursOpen : MethodName := ⟨RX8, "hoursOpen", "(I)I"⟩
abbrev cX8_add : ByteArray := prog_10_method_5_code
def yX8_add : MethodName := ⟨RX8, "add", "(LWoodenMains$Turn;Ljava/util/ArrayList;)V"⟩
abbrev cX8_openOf : ByteArray := prog_10_method_6_code
def yX8_openOf : MethodName := ⟨RX8, "openOf", "(ILjava/util/ArrayList;)I"⟩
def RX9 : String := "WoodenMains"
def TX9 : u_T := fun k => match k with
  | 0 => ("WoodenMains", "streets", "Ljava/util/ArrayList;", true)
  | 1 => ("WoodenMains", "houses", "Ljava/util/ArrayList;", true)
  | 2 => ("WoodenMains", "turns", "Ljava/util/ArrayList;", true)
  | 3 => ("WoodenMains", "laws", "Ljava/util/ArrayList;", true)
  | 4 => ("WoodenMains", "rows", "[LWoodenMains$Row;", true)
  | 5 => ("WoodenMains", "cockPlaces", "[I", true)
  | 6 => ("WoodenMains", "settings", "[I", true)
  | 7 => ("WoodenMains", "refusals", "[I", true)
  | 8 => ("WoodenMains", "week", "LWoodenMains$Week;", true)
  | 9 => ("WoodenMains", "tally", "LWoodenMains$Tally;", true)
  | 10 => ("WoodenMains", "ironSearch", "LWoodenMains$IronSearch;", true)
  | 11 => ("WoodenMains", "daySearch", "LWoodenMains$DaySearch;", true)
  | 12 => ("WoodenMains", "hour", "I", false)
  | 13 => ("WoodenMains", "coalThere", "I", false)
  | _ => ("WoodenMains", "readingsTold", "I", false)
def tyX9 : Nat → FieldType := fun k => match k with
  | 0 => .object "java/util/ArrayList"
  | 1 => .object "java/util/ArrayList"
  | 2 => .object "java/util/ArrayList"
  | 3 => .object "java/util/ArrayList"
  | 4 => .array (.object "WoodenMains$Row")
  | 5 => .array .int
  | 6 => .array .int
  | 7 => .array .int
  | 8 => .object "WoodenMains$Week"
  | 9 => .object "WoodenMains$Tally"
  | 10 => .object "WoodenMains$IronSearch"
  | 11 => .object "WoodenMains$DaySearch"
  | 12 => .int
  | 13 => .int
  | _ => .int
abbrev wsX90 : List Cond := u_ws RX9 TX9 15
theorem nmX9 : ∀ a, a < 15 → ∀ b, b < 15 → a ≠ b → (TX9 a).2.1 ≠ (TX9 b).2.1 := by decide +kernel
theorem tyX9_ok : ∀ k, k < 15 → parseFieldDescriptor (TX9 k).2.2.1 = some (tyX9 k) := by decide +kernel
abbrev cX9_init : ByteArray := prog_1_method_1_code
def yX9_init : MethodName := ⟨RX9, "<init>", "()V"⟩
abbrev cX9_street : ByteArray := prog_1_method_2_code
def yX9_street : MethodName := ⟨RX9, "street", "(II)I"⟩
abbrev cX9_set : ByteArray := prog_1_method_3_code
def yX9_set : MethodName := ⟨RX9, "set", "(II)I"⟩
abbrev cX9_coal : ByteArray := prog_1_method_4_code
def yX9_coal : MethodName := ⟨RX9, "coal", "(I)I"⟩
abbrev cX9_house : ByteArray := prog_1_method_5_code
def yX9_house : MethodName := ⟨RX9, "house", "(IIIIZ)I"⟩
abbrev cX9_row : ByteArray := prog_1_method_6_code
def yX9_row : MethodName := ⟨RX9, "row", "(II)I"⟩
abbrev cX9_lose : ByteArray := prog_1_method_7_code
def yX9_lose : MethodName := ⟨RX9, "lose", "(I)I"⟩
abbrev cX9_put : ByteArray := prog_1_method_8_code
def yX9_put : MethodName := ⟨RX9, "put", "(III)I"⟩
abbrev cX9_copy : ByteArray := prog_1_method_9_code
def yX9_copy : MethodName := ⟨RX9, "copy", "(IIIII)I"⟩
abbrev cX9_lead : ByteArray := prog_1_method_10_code
def yX9_lead : MethodName := ⟨RX9, "lead", "(II)I"⟩
abbrev cX9_end : ByteArray := prog_1_method_11_code
def yX9_end : MethodName := ⟨RX9, "end", "(II)I"⟩
abbrev cX9_clear : ByteArray := prog_1_method_12_code
def yX9_clear : MethodName := ⟨RX9, "clear", "(I)I"⟩
abbrev cX9_draw : ByteArray := prog_1_method_13_code
def yX9_draw : MethodName := ⟨RX9, "draw", "(IZ)I"⟩
abbrev cX9_brew : ByteArray := prog_1_method_14_code
def yX9_brew : MethodName := ⟨RX9, "brew", "(II)I"⟩
abbrev cX9_turn : ByteArray := prog_1_method_15_code
def yX9_turn : MethodName := ⟨RX9, "turn", "(IIIII)I"⟩
abbrev cX9_let : ByteArray := prog_1_method_16_code
def yX9_let : MethodName := ⟨RX9, "let", "(III)I"⟩
abbrev cX9_clashes : ByteArray := prog_1_method_17_code
def yX9_clashes : MethodName := ⟨RX9, "clashes", "(I)I"⟩
abbrev cX9_hours : ByteArray := prog_1_method_18_code
def yX9_hours : MethodName := ⟨RX9, "hours", "(I)I"⟩
abbrev cX9_iron : ByteArray := prog_1_method_19_code
def yX9_iron : MethodName := ⟨RX9, "iron", "(I)I"⟩
abbrev cX9_renew : ByteArray := prog_1_method_20_code
def yX9_renew : MethodName := ⟨RX9, "renew", "(I)I"⟩
abbrev cX9_stand : ByteArray := prog_1_method_21_code
def yX9_stand : MethodName := ⟨RX9, "stand", "(II)I"⟩
abbrev cX9_way : ByteArray := prog_1_method_22_code
def yX9_way : MethodName := ⟨RX9, "way", "(II)I"⟩
abbrev cX9_fire : ByteArray := prog_1_method_23_code
def yX9_fire : MethodName := ⟨RX9, "fire", "(II)I"⟩
abbrev cX9_reading : ByteArray := prog_1_method_24_code
def yX9_reading : MethodName := ⟨RX9, "reading", "(IIII)I"⟩
abbrev cX9_span : ByteArray := prog_1_method_25_code
def yX9_span : MethodName := ⟨RX9, "span", "(II)I"⟩
abbrev cX9_best : ByteArray := prog_1_method_26_code
def yX9_best : MethodName := ⟨RX9, "best", "(I)I"⟩
abbrev cX9_bestWorth : ByteArray := prog_1_method_27_code
def yX9_bestWorth : MethodName := ⟨RX9, "bestWorth", "(I)I"⟩
abbrev cX9_days : ByteArray := prog_1_method_28_code
def yX9_days : MethodName := ⟨RX9, "days", "(II)I"⟩
abbrev cX9_dayOf : ByteArray := prog_1_method_29_code
def yX9_dayOf : MethodName := ⟨RX9, "dayOf", "(III)I"⟩
abbrev cX9_law : ByteArray := prog_1_method_30_code
def yX9_law : MethodName := ⟨RX9, "law", "(IIII)I"⟩
abbrev cX9_rate : ByteArray := prog_1_method_31_code
def yX9_rate : MethodName := ⟨RX9, "rate", "(II)I"⟩
abbrev cX9_houseOf : ByteArray := prog_1_method_32_code
def yX9_houseOf : MethodName := ⟨RX9, "houseOf", "(II)I"⟩
abbrev cX9_streetOf : ByteArray := prog_1_method_33_code
def yX9_streetOf : MethodName := ⟨RX9, "streetOf", "(II)I"⟩
abbrev cX9_count : ByteArray := prog_1_method_34_code
def yX9_count : MethodName := ⟨RX9, "count", "(I)I"⟩
abbrev cX9_refuse : ByteArray := prog_1_method_35_code
def yX9_refuse : MethodName := ⟨RX9, "refuse", "(I)I"⟩
abbrev cX9_refuseAside : ByteArray := prog_1_method_36_code
def yX9_refuseAside : MethodName := ⟨RX9, "refuseAside", "(I)I"⟩
abbrev cX9_streetAt : ByteArray := prog_1_method_37_code
def yX9_streetAt : MethodName := ⟨RX9, "streetAt", "(I)LWoodenMains$Street;"⟩
abbrev cX9_houseAt : ByteArray := prog_1_method_38_code
def yX9_houseAt : MethodName := ⟨RX9, "houseAt", "(I)LWoodenMains$House;"⟩
abbrev cX9_rowAt : ByteArray := prog_1_method_39_code
def yX9_rowAt : MethodName := ⟨RX9, "rowAt", "(I)LWoodenMains$Row;"⟩
abbrev cX9_isCock : ByteArray := prog_1_method_40_code
def yX9_isCock : MethodName := ⟨RX9, "isCock", "(I)Z"⟩
abbrev cX9_isPlace : ByteArray := prog_1_method_41_code
def yX9_isPlace : MethodName := ⟨RX9, "isPlace", "(I)Z"⟩
abbrev cX9_weekNow : ByteArray := prog_1_method_42_code
def yX9_weekNow : MethodName := ⟨RX9, "weekNow", "()I"⟩
abbrev cX9_hasStreet : ByteArray := prog_1_method_43_code
def yX9_hasStreet : MethodName := ⟨RX9, "hasStreet", "(II)Z"⟩
abbrev cX9_passHour : ByteArray := prog_1_method_44_code
def yX9_passHour : MethodName := ⟨RX9, "passHour", "()V"⟩
abbrev cX9_pump : ByteArray := prog_1_method_45_code
def yX9_pump : MethodName := ⟨RX9, "pump", "()I"⟩
abbrev cX9_leak : ByteArray := prog_1_method_46_code
def yX9_leak : MethodName := ⟨RX9, "leak", "(II)I"⟩
abbrev cX9_serve : ByteArray := prog_1_method_47_code
def yX9_serve : MethodName := ⟨RX9, "serve", "(II)I"⟩
abbrev cX9_drink : ByteArray := prog_1_method_48_code
def yX9_drink : MethodName := ⟨RX9, "drink", "()V"⟩
abbrev cX9_useNow : ByteArray := prog_1_method_49_code
def yX9_useNow : MethodName := ⟨RX9, "useNow", "(LWoodenMains$House;)I"⟩
abbrev cX9_stepsBetween : ByteArray := prog_1_method_50_code
def yX9_stepsBetween : MethodName := ⟨RX9, "stepsBetween", "(II)I"⟩
abbrev cX9_placeAheadOf : ByteArray := prog_1_method_51_code
def yX9_placeAheadOf : MethodName := ⟨RX9, "placeAheadOf", "(I)I"⟩
abbrev cX9_isClash : ByteArray := prog_1_method_52_code
def yX9_isClash : MethodName := ⟨RX9, "isClash", "(LWoodenMains$Turn;LWoodenMains$Turn;)Z"⟩
abbrev cX9_shutUpTo : ByteArray := prog_1_method_53_code
def yX9_shutUpTo : MethodName := ⟨RX9, "shutUpTo", "(I)I"⟩
abbrev cX9_quickestCock : ByteArray := prog_1_method_54_code
def yX9_quickestCock : MethodName := ⟨RX9, "quickestCock", "(I)I"⟩
abbrev cX9_walkLength : ByteArray := prog_1_method_55_code
def yX9_walkLength : MethodName := ⟨RX9, "walkLength", "(II)I"⟩
abbrev cX9_refusalOfIronSum : ByteArray := prog_1_method_56_code
def yX9_refusalOfIronSum : MethodName := ⟨RX9, "refusalOfIronSum", "(I)I"⟩
abbrev cX9_findIron : ByteArray := prog_1_method_57_code
def yX9_findIron : MethodName := ⟨RX9, "findIron", "(I)I"⟩
abbrev cX9_refusalOfDays : ByteArray := prog_1_method_58_code
def yX9_refusalOfDays : MethodName := ⟨RX9, "refusalOfDays", "(II)I"⟩
abbrev cX9_findDays : ByteArray := prog_1_method_59_code
def yX9_findDays : MethodName := ⟨RX9, "findDays", "(II)V"⟩
abbrev cX9_lawOn : ByteArray := prog_1_method_60_code
def yX9_lawOn : MethodName := ⟨RX9, "lawOn", "(I)LWoodenMains$Law;"⟩
def RX10 : String := "WoodenMainsModel"
def TX10 : u_T := fun k => match k with
  | 0 => ("WoodenMainsModel", "hour", "I", false)
  | 1 => ("WoodenMainsModel", "output", "I", false)
  | 2 => ("WoodenMainsModel", "burn", "I", false)
  | 3 => ("WoodenMainsModel", "price", "I", false)
  | 4 => ("WoodenMainsModel", "coal", "I", false)
  | 5 => ("WoodenMainsModel", "leaked", "I", false)
  | 6 => ("WoodenMainsModel", "drawn", "I", false)
  | 7 => ("WoodenMainsModel", "wasted", "I", false)
  | 8 => ("WoodenMainsModel", "spilled", "I", false)
  | 9 => ("WoodenMainsModel", "worked", "I", false)
  | 10 => ("WoodenMainsModel", "tunned", "I", false)
  | 11 => ("WoodenMainsModel", "streets", "I", false)
  | 12 => ("WoodenMainsModel", "ahead", "[I", true)
  | 13 => ("WoodenMainsModel", "length", "[I", true)
  | 14 => ("WoodenMainsModel", "laid", "[I", true)
  | 15 => ("WoodenMainsModel", "isIron", "[Z", true)
  | 16 => ("WoodenMainsModel", "atEnd", "[I", true)
  | 17 => ("WoodenMainsModel", "tunSize", "[I", true)
  | 18 => ("WoodenMainsModel", "tunWater", "[I", true)
  | 19 => ("WoodenMainsModel", "isDrawn", "[Z", true)
  | 20 => ("WoodenMainsModel", "houses", "I", false)
  | 21 => ("WoodenMainsModel", "street", "[I", true)
  | 22 => ("WoodenMainsModel", "cistern", "[I", true)
  | 23 => ("WoodenMainsModel", "floor", "[I", true)
  | 24 => ("WoodenMainsModel", "use", "[I", true)
  | 25 => ("WoodenMainsModel", "ball", "[Z", true)
  | 26 => ("WoodenMainsModel", "led", "[I", true)
  | 27 => ("WoodenMainsModel", "water", "[I", true)
  | 28 => ("WoodenMainsModel", "dry", "[I", true)
  | 29 => ("WoodenMainsModel", "rowSize", "[I", true)
  | 30 => ("WoodenMainsModel", "row", "[I", true)
  | 31 => ("WoodenMainsModel", "turns", "I", false)
  | 32 => ("WoodenMainsModel", "turnStreet", "[I", true)
  | 33 => ("WoodenMainsModel", "turnCock", "[I", true)
  | 34 => ("WoodenMainsModel", "turnFrom", "[I", true)
  | 35 => ("WoodenMainsModel", "turnHours", "[I", true)
  | 36 => ("WoodenMainsModel", "stands", "[I", true)
  | 37 => ("WoodenMainsModel", "readings", "I", false)
  | 38 => ("WoodenMainsModel", "readStreet", "[I", true)
  | 39 => ("WoodenMainsModel", "readLeak", "[I", true)
  | 40 => ("WoodenMainsModel", "readDoubt", "[I", true)
  | 41 => ("WoodenMainsModel", "laws", "I", false)
  | 42 => ("WoodenMainsModel", "lawHouse", "[I", true)
  | 43 => ("WoodenMainsModel", "lawFloor", "[I", true)
  | 44 => ("WoodenMainsModel", "lawTens", "[I", true)
  | 45 => ("WoodenMainsModel", "lawDay", "[I", true)
  | 46 => ("WoodenMainsModel", "refused", "[I", true)
  | 47 => ("WoodenMainsModel", "between", "[I", true)
  | 48 => ("WoodenMainsModel", "left", "I", false)
  | 49 => ("WoodenMainsModel", "worths", "[I", true)
  | 50 => ("WoodenMainsModel", "bestSet", "I", false)
  | 51 => ("WoodenMainsModel", "bestSum", "I", false)
  | 52 => ("WoodenMainsModel", "asked", "[I", true)
  | 53 => ("WoodenMainsModel", "needs", "[I", true)
  | 54 => ("WoodenMainsModel", "askedMany", "I", false)
  | 55 => ("WoodenMainsModel", "day", "[I", true)
  | 56 => ("WoodenMainsModel", "bestDay", "[I", true)
  | _ => ("WoodenMainsModel", "onDay", "[I", true)
def tyX10 : Nat → FieldType := fun k => match k with
  | 0 => .int
  | 1 => .int
  | 2 => .int
  | 3 => .int
  | 4 => .int
  | 5 => .int
  | 6 => .int
  | 7 => .int
  | 8 => .int
  | 9 => .int
  | 10 => .int
  | 11 => .int
  | 12 => .array .int
  | 13 => .array .int
  | 14 => .array .int
  | 15 => .array .boolean
  | 16 => .array .int
  | 17 => .array .int
  | 18 => .array .int
  | 19 => .array .boolean
  | 20 => .int
  | 21 => .array .int
  | 22 => .array .int
  | 23 => .array .int
  | 24 => .array .int
  | 25 => .array .boolean
  | 26 => .array .int
  | 27 => .array .int
  | 28 => .array .int
  | 29 => .array .int
  | 30 => .array .int
  | 31 => .int
  | 32 => .array .int
  | 33 => .array .int
  | 34 => .array .int
  | 35 => .array .int
  | 36 => .array .int
  | 37 => .int
  | 38 => .array .int
  | 39 => .array .int
  | 40 => .array .int
  | 41 => .int
  | 42 => .array .int
  | 43 => .array .int
  | 44 => .array .int
  | 45 => .array .int
  | 46 => .array .int
  | 47 => .array .int
  | 48 => .int
  | 49 => .array .int
  | 50 => .int
  | 51 => .int
  | 52 => .array .int
  | 53 => .array .int
  | 54 => .int
  | 55 => .array .int
  | 56 => .array .int
  | _ => .array .int
abbrev wsX100 : List Cond := u_ws RX10 TX10 58
theorem nmX10 : ∀ a, a < 58 → ∀ b, b < 58 → a ≠ b → (TX10 a).2.1 ≠ (TX10 b).2.1 := by decide +kernel
theorem tyX10_ok : ∀ k, k < 58 → parseFieldDescriptor (TX10 k).2.2.1 = some (tyX10 k) := by decide +kernel
abbrev cX10_init : ByteArray := prog_12_method_1_code
def yX10_init : MethodName := ⟨RX10, "<init>", "()V"⟩
abbrev cX10_in : ByteArray := prog_12_method_3_code
def yX10_in : MethodName := ⟨RX10, "in", "(III)Z"⟩
abbrev cX10_refuse : ByteArray := prog_12_method_4_code
def yX10_refuse : MethodName := ⟨RX10, "refuse", "(I)I"⟩
abbrev cX10_least : ByteArray := prog_12_method_5_code
def yX10_least : MethodName := ⟨RX10, "least", "(II)I"⟩
abbrev cX10_isStreet : ByteArray := prog_12_method_6_code
def yX10_isStreet : MethodName := ⟨RX10, "isStreet", "(I)Z"⟩
abbrev cX10_isHouse : ByteArray := prog_12_method_7_code
def yX10_isHouse : MethodName := ⟨RX10, "isHouse", "(I)Z"⟩
abbrev cX10_street : ByteArray := prog_12_method_8_code
def yX10_street : MethodName := ⟨RX10, "street", "(II)I"⟩
abbrev cX10_set : ByteArray := prog_12_method_9_code
def yX10_set : MethodName := ⟨RX10, "set", "(II)I"⟩
abbrev cX10_coal : ByteArray := prog_12_method_10_code
def yX10_coal : MethodName := ⟨RX10, "coal", "(I)I"⟩
abbrev cX10_house : ByteArray := prog_12_method_11_code
def yX10_house : MethodName := ⟨RX10, "house", "(IIIIZ)I"⟩
abbrev cX10_row : ByteArray := prog_12_method_12_code
def yX10_row : MethodName := ⟨RX10, "row", "(II)I"⟩
abbrev cX10_lose : ByteArray := prog_12_method_13_code
def yX10_lose : MethodName := ⟨RX10, "lose", "(I)I"⟩
abbrev cX10_put : ByteArray := prog_12_method_14_code
def yX10_put : MethodName := ⟨RX10, "put", "(III)I"⟩
abbrev cX10_copy : ByteArray := prog_12_method_15_code
def yX10_copy : MethodName := ⟨RX10, "copy", "(IIIII)I"⟩
abbrev cX10_lead : ByteArray := prog_12_method_16_code
def yX10_lead : MethodName := ⟨RX10, "lead", "(II)I"⟩
abbrev cX10_useOf : ByteArray := prog_12_method_17_code
def yX10_useOf : MethodName := ⟨RX10, "useOf", "(I)I"⟩
abbrev cX10_end : ByteArray := prog_12_method_18_code
def yX10_end : MethodName := ⟨RX10, "end", "(II)I"⟩
abbrev cX10_clear : ByteArray := prog_12_method_19_code
def yX10_clear : MethodName := ⟨RX10, "clear", "(I)I"⟩
abbrev cX10_draw : ByteArray := prog_12_method_20_code
def yX10_draw : MethodName := ⟨RX10, "draw", "(IZ)I"⟩
abbrev cX10_brew : ByteArray := prog_12_method_21_code
def yX10_brew : MethodName := ⟨RX10, "brew", "(II)I"⟩
abbrev cX10_turn : ByteArray := prog_12_method_22_code
def yX10_turn : MethodName := ⟨RX10, "turn", "(IIIII)I"⟩
abbrev cX10_isLet : ByteArray := prog_12_method_23_code
def yX10_isLet : MethodName := ⟨RX10, "isLet", "(II)Z"⟩
abbrev cX10_isOpen : ByteArray := prog_12_method_24_code
def yX10_isOpen : MethodName := ⟨RX10, "isOpen", "(II)Z"⟩
abbrev cX10_let : ByteArray := prog_12_method_25_code
def yX10_let : MethodName := ⟨RX10, "let", "(III)I"⟩
abbrev cX10_isOnWay : ByteArray := prog_12_method_26_code
def yX10_isOnWay : MethodName := ⟨RX10, "isOnWay", "(II)Z"⟩
abbrev cX10_wayOf : ByteArray := prog_12_method_27_code
def yX10_wayOf : MethodName := ⟨RX10, "wayOf", "(II)I"⟩
abbrev cX10_way : ByteArray := prog_12_method_28_code
def yX10_way : MethodName := ⟨RX10, "way", "(II)I"⟩
abbrev cX10_clash : ByteArray := prog_12_method_29_code
def yX10_clash : MethodName := ⟨RX10, "clash", "(II)Z"⟩
abbrev cX10_clashes : ByteArray := prog_12_method_30_code
def yX10_clashes : MethodName := ⟨RX10, "clashes", "(I)I"⟩
abbrev cX10_dripOf : ByteArray := prog_12_method_31_code
def yX10_dripOf : MethodName := ⟨RX10, "dripOf", "(I)I"⟩
abbrev cX10_take : ByteArray := prog_12_method_32_code
def yX10_take : MethodName := ⟨RX10, "take", "(I)I"⟩
abbrev cX10_fillHouse : ByteArray := prog_12_method_33_code
def yX10_fillHouse : MethodName := ⟨RX10, "fillHouse", "(I)V"⟩
abbrev cX10_serve : ByteArray := prog_12_method_34_code
def yX10_serve : MethodName := ⟨RX10, "serve", "(I)V"⟩
abbrev cX10_pass : ByteArray := prog_12_method_35_code
def yX10_pass : MethodName := ⟨RX10, "pass", "()V"⟩
abbrev cX10_hours : ByteArray := prog_12_method_36_code
def yX10_hours : MethodName := ⟨RX10, "hours", "(I)I"⟩
abbrev cX10_iron : ByteArray := prog_12_method_37_code
def yX10_iron : MethodName := ⟨RX10, "iron", "(I)I"⟩
abbrev cX10_renew : ByteArray := prog_12_method_38_code
def yX10_renew : MethodName := ⟨RX10, "renew", "(I)I"⟩
abbrev cX10_stand : ByteArray := prog_12_method_39_code
def yX10_stand : MethodName := ⟨RX10, "stand", "(II)I"⟩
abbrev cX10_fire : ByteArray := prog_12_method_40_code
def yX10_fire : MethodName := ⟨RX10, "fire", "(II)I"⟩
abbrev cX10_reading : ByteArray := prog_12_method_41_code
def yX10_reading : MethodName := ⟨RX10, "reading", "(IIII)I"⟩
abbrev cX10_span : ByteArray := prog_12_method_42_code
def yX10_span : MethodName := ⟨RX10, "span", "(II)I"⟩
abbrev cX10_worthOf : ByteArray := prog_12_method_43_code
def yX10_worthOf : MethodName := ⟨RX10, "worthOf", "(I)I"⟩
abbrev cX10_ones : ByteArray := prog_12_method_44_code
def yX10_ones : MethodName := ⟨RX10, "ones", "(I)I"⟩
abbrev cX10_findBest : ByteArray := prog_12_method_45_code
def yX10_findBest : MethodName := ⟨RX10, "findBest", "(I)V"⟩
abbrev cX10_best : ByteArray := prog_12_method_46_code
def yX10_best : MethodName := ⟨RX10, "best", "(I)I"⟩
abbrev cX10_bestWorth : ByteArray := prog_12_method_47_code
def yX10_bestWorth : MethodName := ⟨RX10, "bestWorth", "(I)I"⟩
abbrev cX10_needOf : ByteArray := prog_12_method_48_code
def yX10_needOf : MethodName := ⟨RX10, "needOf", "(I)I"⟩
abbrev cX10_wrongDays : ByteArray := prog_12_method_49_code
def yX10_wrongDays : MethodName := ⟨RX10, "wrongDays", "(II)I"⟩
abbrev cX10_findDays : ByteArray := prog_12_method_50_code
def yX10_findDays : MethodName := ⟨RX10, "findDays", "(II)I"⟩
abbrev cX10_days : ByteArray := prog_12_method_51_code
def yX10_days : MethodName := ⟨RX10, "days", "(II)I"⟩
abbrev cX10_dayOf : ByteArray := prog_12_method_52_code
def yX10_dayOf : MethodName := ⟨RX10, "dayOf", "(III)I"⟩
abbrev cX10_law : ByteArray := prog_12_method_53_code
def yX10_law : MethodName := ⟨RX10, "law", "(IIII)I"⟩
abbrev cX10_rate : ByteArray := prog_12_method_54_code
def yX10_rate : MethodName := ⟨RX10, "rate", "(II)I"⟩
abbrev cX10_houseOf : ByteArray := prog_12_method_55_code
def yX10_houseOf : MethodName := ⟨RX10, "houseOf", "(II)I"⟩
abbrev cX10_streetOf : ByteArray := prog_12_method_56_code
def yX10_streetOf : MethodName := ⟨RX10, "streetOf", "(II)I"⟩
abbrev cX10_count : ByteArray := prog_12_method_57_code
def yX10_count : MethodName := ⟨RX10, "count", "(I)I"⟩
def RJx145de : String := "java/io/Serializable"
def TJx145de : u_T := fun k => match k with
  | _ => ("", "", "", false)
def tyJx145de : Nat → FieldType := fun k => match k with
  | _ => .int
abbrev wsJx145de0 : List Cond := u_ws RJx145de TJx145de 0
theorem nmJx145de : ∀ a, a < 0 → ∀ b, b < 0 → a ≠ b → (TJx145de a).2.1 ≠ (TJx145de b).2.1 := by decide +kernel
theorem tyJx145de_ok : ∀ k, k < 0 → parseFieldDescriptor (TJx145de k).2.2.1 = some (tyJx145de k) := by decide +kernel
def RJx8e188 : String := "java/lang/Cloneable"
def TJx8e188 : u_T := fun k => match k with
  | _ => ("", "", "", false)
def tyJx8e188 : Nat → FieldType := fun k => match k with
  | _ => .int
abbrev wsJx8e1880 : List Cond := u_ws RJx8e188 TJx8e188 0
theorem nmJx8e188 : ∀ a, a < 0 → ∀ b, b < 0 → a ≠ b → (TJx8e188 a).2.1 ≠ (TJx8e188 b).2.1 := by decide +kernel
theorem tyJx8e188_ok : ∀ k, k < 0 → parseFieldDescriptor (TJx8e188 k).2.2.1 = some (tyJx8e188 k) := by decide +kernel
def RJ6 : String := "java/lang/Integer"
def TJ6 : u_T := fun k => match k with
  | _ => ("", "", "", false)
def tyJ6 : Nat → FieldType := fun k => match k with
  | _ => .int
abbrev wsJ60 : List Cond := u_ws RJ6 TJ6 0
theorem nmJ6 : ∀ a, a < 0 → ∀ b, b < 0 → a ≠ b → (TJ6 a).2.1 ≠ (TJ6 b).2.1 := by decide +kernel
theorem tyJ6_ok : ∀ k, k < 0 → parseFieldDescriptor (TJ6 k).2.2.1 = some (tyJ6 k) := by decide +kernel
abbrev cJ6_numberOfLeadingZeros_0f7a4 : ByteArray := prog_15_method_47_code
def yJ6_numberOfLeadingZeros_0f7a4 : MethodName := ⟨RJ6, "numberOfLeadingZeros", "(I)I"⟩
abbrev cJ6_numberOfTrailingZeros_0f7a4 : ByteArray := prog_15_method_48_code
def yJ6_numberOfTrailingZeros_0f7a4 : MethodName := ⟨RJ6, "numberOfTrailingZeros", "(I)I"⟩
abbrev cJ6_bitCount_0f7a4 : ByteArray := prog_15_method_49_code
def yJ6_bitCount_0f7a4 : MethodName := ⟨RJ6, "bitCount", "(I)I"⟩
def RJxab1ab : String := "java/lang/Iterable"
def TJxab1ab : u_T := fun k => match k with
  | _ => ("", "", "", false)
def tyJxab1ab : Nat → FieldType := fun k => match k with
  | _ => .int
abbrev wsJxab1ab0 : List Cond := u_ws RJxab1ab TJxab1ab 0
theorem nmJxab1ab : ∀ a, a < 0 → ∀ b, b < 0 → a ≠ b → (TJxab1ab a).2.1 ≠ (TJxab1ab b).2.1 := by decide +kernel
theorem tyJxab1ab_ok : ∀ k, k < 0 → parseFieldDescriptor (TJxab1ab k).2.2.1 = some (tyJxab1ab k) := by decide +kernel
def RJ9 : String := "java/lang/Math"
def TJ9 : u_T := fun k => match k with
  | _ => ("", "", "", false)
def tyJ9 : Nat → FieldType := fun k => match k with
  | _ => .int
abbrev wsJ90 : List Cond := u_ws RJ9 TJ9 0
theorem nmJ9 : ∀ a, a < 0 → ∀ b, b < 0 → a ≠ b → (TJ9 a).2.1 ≠ (TJ9 b).2.1 := by decide +kernel
theorem tyJ9_ok : ∀ k, k < 0 → parseFieldDescriptor (TJ9 k).2.2.1 = some (tyJ9 k) := by decide +kernel
abbrev cJ9_floorMod_7cf53 : ByteArray := prog_17_method_50_code
def yJ9_floorMod_7cf53 : MethodName := ⟨RJ9, "floorMod", "(II)I"⟩
abbrev cJ9_max_7cf53 : ByteArray := prog_17_method_65_code
def yJ9_max_7cf53 : MethodName := ⟨RJ9, "max", "(II)I"⟩
abbrev cJ9_min_7cf53 : ByteArray := prog_17_method_69_code
def yJ9_min_7cf53 : MethodName := ⟨RJ9, "min", "(II)I"⟩
def RJ10 : String := "java/lang/System"
def TJ10 : u_T := fun k => match k with
  | _ => ("", "", "", false)
def tyJ10 : Nat → FieldType := fun k => match k with
  | _ => .int
abbrev wsJ100 : List Cond := u_ws RJ10 TJ10 0
theorem nmJ10 : ∀ a, a < 0 → ∀ b, b < 0 → a ≠ b → (TJ10 a).2.1 ≠ (TJ10 b).2.1 := by decide +kernel
theorem tyJ10_ok : ∀ k, k < 0 → parseFieldDescriptor (TJ10 k).2.2.1 = some (tyJ10 k) := by decide +kernel
def RJxa1e45 : String := "java/util/AbstractCollection"
def TJxa1e45 : u_T := fun k => match k with
  | _ => ("", "", "", false)
def tyJxa1e45 : Nat → FieldType := fun k => match k with
  | _ => .int
abbrev wsJxa1e450 : List Cond := u_ws RJxa1e45 TJxa1e45 0
theorem nmJxa1e45 : ∀ a, a < 0 → ∀ b, b < 0 → a ≠ b → (TJxa1e45 a).2.1 ≠ (TJxa1e45 b).2.1 := by decide +kernel
theorem tyJxa1e45_ok : ∀ k, k < 0 → parseFieldDescriptor (TJxa1e45 k).2.2.1 = some (tyJxa1e45 k) := by decide +kernel
abbrev cJxa1e45_init_da8c8 : ByteArray := prog_19_method_1_code
def yJxa1e45_init_da8c8 : MethodName := ⟨RJxa1e45, "<init>", "()V"⟩
def RJxc12de : String := "java/util/AbstractList"
def TJxc12de : u_T := fun k => match k with
  | _ => ("", "", "", false)
def tyJxc12de : Nat → FieldType := fun k => match k with
  | _ => .int
abbrev wsJxc12de0 : List Cond := u_ws RJxc12de TJxc12de 0
theorem nmJxc12de : ∀ a, a < 0 → ∀ b, b < 0 → a ≠ b → (TJxc12de a).2.1 ≠ (TJxc12de b).2.1 := by decide +kernel
theorem tyJxc12de_ok : ∀ k, k < 0 → parseFieldDescriptor (TJxc12de k).2.2.1 = some (tyJxc12de k) := by decide +kernel
abbrev cJxc12de_init_da8c8 : ByteArray := prog_20_method_1_code
def yJxc12de_init_da8c8 : MethodName := ⟨RJxc12de, "<init>", "()V"⟩
def RJx4a65c : String := "java/util/ArrayList"
def TJx4a65c : u_T := fun k => match k with
  | 0 => ("java/util/AbstractList", "modCount", "I", false)
  | 1 => ("java/util/ArrayList", "elementData", "[Ljava/lang/Object;", false)
  | _ => ("java/util/ArrayList", "size", "I", false)
def tyJx4a65c : Nat → FieldType := fun k => match k with
  | 0 => .int
  | 1 => .array (.object "java/lang/Object")
  | _ => .int
abbrev wsJx4a65c0 : List Cond := u_ws RJx4a65c TJx4a65c 3
theorem nmJx4a65c : ∀ a, a < 3 → ∀ b, b < 3 → a ≠ b → (TJx4a65c a).2.1 ≠ (TJx4a65c b).2.1 := by decide +kernel
theorem tyJx4a65c_ok : ∀ k, k < 3 → parseFieldDescriptor (TJx4a65c k).2.2.1 = some (tyJx4a65c k) := by decide +kernel
abbrev cJx4a65c_init_da8c8 : ByteArray := prog_21_method_2_code
def yJx4a65c_init_da8c8 : MethodName := ⟨RJx4a65c, "<init>", "()V"⟩
abbrev cJx4a65c_grow_92f84 : ByteArray := prog_21_method_6_code
def yJx4a65c_grow_92f84 : MethodName := ⟨RJx4a65c, "grow", "(I)[Ljava/lang/Object;"⟩
abbrev cJx4a65c_grow_d5877 : ByteArray := prog_21_method_7_code
def yJx4a65c_grow_d5877 : MethodName := ⟨RJx4a65c, "grow", "()[Ljava/lang/Object;"⟩
abbrev cJx4a65c_size_8abf5 : ByteArray := prog_21_method_8_code
def yJx4a65c_size_8abf5 : MethodName := ⟨RJx4a65c, "size", "()I"⟩
abbrev cJx4a65c_elementData_915e3 : ByteArray := prog_21_method_18_code
def yJx4a65c_elementData_915e3 : MethodName := ⟨RJx4a65c, "elementData", "(I)Ljava/lang/Object;"⟩
abbrev cJx4a65c_get_915e3 : ByteArray := prog_21_method_20_code
def yJx4a65c_get_915e3 : MethodName := ⟨RJx4a65c, "get", "(I)Ljava/lang/Object;"⟩
abbrev cJx4a65c_add_72be8 : ByteArray := prog_21_method_24_code
def yJx4a65c_add_72be8 : MethodName := ⟨RJx4a65c, "add", "(Ljava/lang/Object;[Ljava/lang/Object;I)V"⟩
abbrev cJx4a65c_add_9ea2d : ByteArray := prog_21_method_25_code
def yJx4a65c_add_9ea2d : MethodName := ⟨RJx4a65c, "add", "(Ljava/lang/Object;)Z"⟩
def RJ7 : String := "java/util/Arrays"
def TJ7 : u_T := fun k => match k with
  | _ => ("", "", "", false)
def tyJ7 : Nat → FieldType := fun k => match k with
  | _ => .int
abbrev wsJ70 : List Cond := u_ws RJ7 TJ7 0
theorem nmJ7 : ∀ a, a < 0 → ∀ b, b < 0 → a ≠ b → (TJ7 a).2.1 ≠ (TJ7 b).2.1 := by decide +kernel
theorem tyJ7_ok : ∀ k, k < 0 → parseFieldDescriptor (TJ7 k).2.2.1 = some (tyJ7 k) := by decide +kernel
abbrev cJ7_fill_53178 : ByteArray := prog_22_method_103_code
def yJ7_fill_53178 : MethodName := ⟨RJ7, "fill", "([II)V"⟩
abbrev cJ7_copyOf_1904c : ByteArray := prog_22_method_119_code
def yJ7_copyOf_1904c : MethodName := ⟨RJ7, "copyOf", "([Ljava/lang/Object;I)[Ljava/lang/Object;"⟩
abbrev cJ7_copyOf_6403c : ByteArray := prog_22_method_120_code
def yJ7_copyOf_6403c : MethodName := ⟨RJ7, "copyOf", "([Ljava/lang/Object;ILjava/lang/Class;)[Ljava/lang/Object;"⟩
def RJx5ef63 : String := "java/util/Collection"
def TJx5ef63 : u_T := fun k => match k with
  | _ => ("", "", "", false)
def tyJx5ef63 : Nat → FieldType := fun k => match k with
  | _ => .int
abbrev wsJx5ef630 : List Cond := u_ws RJx5ef63 TJx5ef63 0
theorem nmJx5ef63 : ∀ a, a < 0 → ∀ b, b < 0 → a ≠ b → (TJx5ef63 a).2.1 ≠ (TJx5ef63 b).2.1 := by decide +kernel
theorem tyJx5ef63_ok : ∀ k, k < 0 → parseFieldDescriptor (TJx5ef63 k).2.2.1 = some (tyJx5ef63 k) := by decide +kernel
def RJxbd725 : String := "java/util/List"
def TJxbd725 : u_T := fun k => match k with
  | _ => ("", "", "", false)
def tyJxbd725 : Nat → FieldType := fun k => match k with
  | _ => .int
abbrev wsJxbd7250 : List Cond := u_ws RJxbd725 TJxbd725 0
theorem nmJxbd725 : ∀ a, a < 0 → ∀ b, b < 0 → a ≠ b → (TJxbd725 a).2.1 ≠ (TJxbd725 b).2.1 := by decide +kernel
theorem tyJxbd725_ok : ∀ k, k < 0 → parseFieldDescriptor (TJxbd725 k).2.2.1 = some (tyJxbd725 k) := by decide +kernel
def RJ15 : String := "java/util/Objects"
def TJ15 : u_T := fun k => match k with
  | _ => ("", "", "", false)
def tyJ15 : Nat → FieldType := fun k => match k with
  | _ => .int
abbrev wsJ150 : List Cond := u_ws RJ15 TJ15 0
theorem nmJ15 : ∀ a, a < 0 → ∀ b, b < 0 → a ≠ b → (TJ15 a).2.1 ≠ (TJ15 b).2.1 := by decide +kernel
theorem tyJ15_ok : ∀ k, k < 0 → parseFieldDescriptor (TJ15 k).2.2.1 = some (tyJ15 k) := by decide +kernel
abbrev cJ15_checkIndex_7cf53 : ByteArray := prog_25_method_17_code
def yJ15_checkIndex_7cf53 : MethodName := ⟨RJ15, "checkIndex", "(II)I"⟩
def RJxf0a74 : String := "java/util/RandomAccess"
def TJxf0a74 : u_T := fun k => match k with
  | _ => ("", "", "", false)
def tyJxf0a74 : Nat → FieldType := fun k => match k with
  | _ => .int
abbrev wsJxf0a740 : List Cond := u_ws RJxf0a74 TJxf0a74 0
theorem nmJxf0a74 : ∀ a, a < 0 → ∀ b, b < 0 → a ≠ b → (TJxf0a74 a).2.1 ≠ (TJxf0a74 b).2.1 := by decide +kernel
theorem tyJxf0a74_ok : ∀ k, k < 0 → parseFieldDescriptor (TJxf0a74 k).2.2.1 = some (tyJxf0a74 k) := by decide +kernel
def RJxa66e6 : String := "java/util/SequencedCollection"
def TJxa66e6 : u_T := fun k => match k with
  | _ => ("", "", "", false)
def tyJxa66e6 : Nat → FieldType := fun k => match k with
  | _ => .int
abbrev wsJxa66e60 : List Cond := u_ws RJxa66e6 TJxa66e6 0
theorem nmJxa66e6 : ∀ a, a < 0 → ∀ b, b < 0 → a ≠ b → (TJxa66e6 a).2.1 ≠ (TJxa66e6 b).2.1 := by decide +kernel
theorem tyJxa66e6_ok : ∀ k, k < 0 → parseFieldDescriptor (TJxa66e6 k).2.2.1 = some (tyJxa66e6 k) := by decide +kernel
def RJ8 : String := "jdk/internal/util/ArraysSupport"
def TJ8 : u_T := fun k => match k with
  | _ => ("", "", "", false)
def tyJ8 : Nat → FieldType := fun k => match k with
  | _ => .int
abbrev wsJ80 : List Cond := u_ws RJ8 TJ8 0
theorem nmJ8 : ∀ a, a < 0 → ∀ b, b < 0 → a ≠ b → (TJ8 a).2.1 ≠ (TJ8 b).2.1 := by decide +kernel
theorem tyJ8_ok : ∀ k, k < 0 → parseFieldDescriptor (TJ8 k).2.2.1 = some (tyJ8 k) := by decide +kernel
abbrev cJ8_newLength_cabcc : ByteArray := prog_28_method_27_code
def yJ8_newLength_cabcc : MethodName := ⟨RJ8, "newLength", "(III)I"⟩
abbrev cJ8_hugeLength_7cf53 : ByteArray := prog_28_method_28_code
def yJ8_hugeLength_7cf53 : MethodName := ⟨RJ8, "hugeLength", "(II)I"⟩
def RJ3 : String := "jdk/internal/util/Preconditions"
def TJ3 : u_T := fun k => match k with
  | _ => ("", "", "", false)
def tyJ3 : Nat → FieldType := fun k => match k with
  | _ => .int
abbrev wsJ30 : List Cond := u_ws RJ3 TJ3 0
theorem nmJ3 : ∀ a, a < 0 → ∀ b, b < 0 → a ≠ b → (TJ3 a).2.1 ≠ (TJ3 b).2.1 := by decide +kernel
theorem tyJ3_ok : ∀ k, k < 0 → parseFieldDescriptor (TJ3 k).2.2.1 = some (tyJ3 k) := by decide +kernel
abbrev cJ3_checkIndex_8e157 : ByteArray := prog_29_method_11_code
def yJ3_checkIndex_8e157 : MethodName := ⟨RJ3, "checkIndex", "(IILjava/util/function/BiFunction;)I"⟩
def RL : String := "WoodenMainsLaw"
abbrev cL_law : ByteArray := code
def yL_law : MethodName := ⟨RL, "law", "([I)Z"⟩
abbrev vwCl : List vw_C := [(RJx4a65c, TJx4a65c, 3), (RX0, TX0, 8), (RX1, TX1, 9), (RX2, TX2, 2), (RX3, TX3, 4), (RX4, TX4, 2), (RX5, TX5, 11), (RX6, TX6, 6), (RX7, TX7, 4), (RX8, TX8, 2), (RX9, TX9, 15), (RX10, TX10, 58)]
/-- the chunks of the tables, by number; those of their words that stand on every call -/
def tbC : Nat → List Cond := fun k => match k with
  | 0 => k2_sels lw_privs
  | 1 => tables_1_1
  | 2 => tables_1_2
  | 3 => tables_1_3
  | 4 => tables_1_4
  | 5 => tables_1_5
  | _ => tables_1_6
def tbG : List Cond := lw_tbl.filter goodWord
theorem tbC_in : ∀ (k : Nat) {w : Cond}, w ∈ tbC k → w ∈ lw_tbl := by
  intro k w h
  match k, h with
  | 0, h => exact List.mem_append_left _ h
  | 1, h => exact List.mem_append_right _ (List.mem_append_left _ h)
  | 2, h => exact List.mem_append_right _ (List.mem_append_right _ (List.mem_append_left _ h))
  | 3, h => exact List.mem_append_right _ (List.mem_append_right _ (List.mem_append_right _ (List.mem_append_left _ h)))
  | 4, h => exact List.mem_append_right _ (List.mem_append_right _ (List.mem_append_right _ (List.mem_append_right _ (List.mem_append_left _ h))))
  | 5, h => exact List.mem_append_right _ (List.mem_append_right _ (List.mem_append_right _ (List.mem_append_right _ (List.mem_append_right _ (List.mem_append_left _ h)))))
  | _ + 6, h => exact List.mem_append_right _ (List.mem_append_right _ (List.mem_append_right _ (List.mem_append_right _ (List.mem_append_right _ (List.mem_append_right _ h)))))
theorem tbA (k i : Nat) {w : Cond} (h : (tbC k)[i]? = some w) : w ∈ lw_tbl := tbC_in k (List.mem_of_getElem? h)
theorem tbW (k i : Nat) {w : Cond} (h : (tbC k)[i]? = some w) (hg : goodWord w = true) : w ∈ tbG := List.mem_filter.mpr ⟨tbA k i h, hg⟩
theorem tbG_good {w : Cond} (h : w ∈ tbG) : goodWord w = true := (List.mem_filter.mp h).2
theorem tbG_tbl {w : Cond} (h : w ∈ tbG) : w ∈ lw_tbl := (List.mem_filter.mp h).1
theorem tbL {C : String} {T : u_T} {N : Nat} (ps : List (Nat × Nat)) (h : (List.range N).all (fun k => decide ((tbC (ps.getD k (0, 0)).1)[(ps.getD k (0, 0)).2]? = some (u_lay C T k)) && goodWord (u_lay C T k)) = true) : ∀ w ∈ u_ws C T N, w ∈ tbG := by
  intro w hw
  obtain ⟨k, hk, rfl⟩ := List.mem_map.mp hw
  have h1 := List.all_eq_true.mp h k hk
  rw [Bool.and_eq_true] at h1
  exact tbW _ _ (of_decide_eq_true h1.1) h1.2
set_option maxRecDepth 20000 in
theorem inJx4a65c : ∀ w ∈ u_ws RJx4a65c TJx4a65c 3, w ∈ tbG := tbL [(1, 53), (1, 49), (1, 51)] (by decide +kernel)
set_option maxRecDepth 20000 in
theorem inX0 : ∀ w ∈ u_ws RX0 TX0 8, w ∈ tbG := tbL [(1, 128), (1, 130), (1, 132), (1, 134), (1, 136), (1, 138), (1, 140), (1, 142)] (by decide +kernel)
set_option maxRecDepth 20000 in
theorem inX1 : ∀ w ∈ u_ws RX1 TX1 9, w ∈ tbG := tbL [(2, 151), (2, 153), (2, 155), (2, 157), (2, 159), (2, 161), (2, 163), (2, 165), (2, 167)] (by decide +kernel)
set_option maxRecDepth 20000 in
theorem inX2 : ∀ w ∈ u_ws RX2 TX2 2, w ∈ tbG := tbL [(1, 108), (1, 110)] (by decide +kernel)
set_option maxRecDepth 20000 in
theorem inX3 : ∀ w ∈ u_ws RX3 TX3 4, w ∈ tbG := tbL [(4, 73), (4, 75), (4, 77), (4, 79)] (by decide +kernel)
set_option maxRecDepth 20000 in
theorem inX4 : ∀ w ∈ u_ws RX4 TX4 2, w ∈ tbG := tbL [(1, 154), (1, 156)] (by decide +kernel)
set_option maxRecDepth 20000 in
theorem inX5 : ∀ w ∈ u_ws RX5 TX5 11, w ∈ tbG := tbL [(2, 29), (2, 31), (2, 33), (2, 35), (2, 37), (2, 39), (2, 41), (2, 43), (2, 45), (2, 47), (2, 49)] (by decide +kernel)
set_option maxRecDepth 20000 in
theorem inX6 : ∀ w ∈ u_ws RX6 TX6 6, w ∈ tbG := tbL [(1, 87), (1, 89), (1, 91), (1, 93), (1, 95), (1, 97)] (by decide +kernel)
set_option maxRecDepth 20000 in
theorem inX7 : ∀ w ∈ u_ws RX7 TX7 4, w ∈ tbG := tbL [(3, 29), (3, 31), (3, 33), (3, 35)] (by decide +kernel)
set_option maxRecDepth 20000 in
theorem inX8 : ∀ w ∈ u_ws RX8 TX8 2, w ∈ tbG := tbL [(1, 66), (1, 68)] (by decide +kernel)
set_option maxRecDepth 20000 in
theorem inX9 : ∀ w ∈ u_ws RX9 TX9 15, w ∈ tbG := tbL [(1, 174), (1, 176), (1, 178), (1, 180), (1, 182), (1, 184), (1, 186), (1, 188), (1, 190), (1, 192), (1, 194), (1, 196), (1, 198), (1, 200), (1, 202)] (by decide +kernel)
set_option maxRecDepth 20000 in
theorem inX10 : ∀ w ∈ u_ws RX10 TX10 58, w ∈ tbG := tbL [(4, 170), (4, 172), (4, 174), (4, 176), (4, 178), (4, 180), (4, 182), (4, 184), (4, 186), (4, 188), (4, 190), (4, 192), (4, 194), (4, 196), (4, 198), (4, 200), (4, 202), (4, 204), (4, 206), (4, 208), (4, 210), (4, 212), (4, 214), (4, 216), (4, 218), (4, 220), (4, 222), (4, 224), (4, 226), (4, 228), (4, 230), (4, 232), (4, 234), (4, 236), (4, 238), (5, 0), (5, 2), (5, 4), (5, 6), (5, 8), (5, 10), (5, 12), (5, 14), (5, 16), (5, 18), (5, 20), (5, 22), (5, 24), (5, 26), (5, 28), (5, 30), (5, 32), (5, 34), (5, 36), (5, 38), (5, 40), (5, 42), (5, 44)] (by decide +kernel)
